set_option maxHeartbeats 4000000 in
set_option maxRecDepth 100000 in
theorem kX4_takes (l : Launch) (D : va_G) (cI cZ cJ : ClassId) (sz : Nat) (q q_tables q_tables_first q_tables_first_numbers q_tables_second q_tables_second_numbers : Nat) (u_begun : Int32) (u_table : Int32) (u_row : Int32) (u_column : Int32) (u_tens : Int32) (u_tables_first_numbers : Nat → Int32) (u_tables_second_numbers : Nat → Int32) (p0 : Int32) (r : Int32) (u_begun' : Int32) (u_table' : Int32) (u_row' : Int32) (u_column' : Int32) (u_tens' : Int32) (u_tables_first_numbers' : Nat → Int32) (u_tables_second_numbers' : Nat → Int32) (hf : pX4_takes u_begun u_table u_row u_column u_tens u_tables_first_numbers u_tables_second_numbers p0 = some (r, u_begun', u_table', u_row', u_column', u_tens', u_tables_first_numbers', u_tables_second_numbers')) : kMet l D cI cZ cJ yX4_takes wsX4_takes 3 66 [.ref q, .int p0] [(q, .inr (4, [.ref q_tables, .int u_begun, .int u_table, .int u_row, .int u_column, .int u_tens])), (q_tables, .inr (2, [.ref q_tables_first, .ref q_tables_second])), (q_tables_first, .inr (6, [.ref q_tables_first_numbers])), (q_tables_first_numbers, .inl (cI, 36, .inl u_tables_first_numbers)), (q_tables_second, .inr (6, [.ref q_tables_second_numbers])), (q_tables_second_numbers, .inl (cI, 36, .inl u_tables_second_numbers))] sz (some (.int r)) [(q, .inr (4, [.ref q_tables, .int u_begun', .int u_table', .int u_row', .int u_column', .int u_tens'])), (q_tables, .inr (2, [.ref q_tables_first, .ref q_tables_second])), (q_tables_first, .inr (6, [.ref q_tables_first_numbers])), (q_tables_first_numbers, .inl (cI, 36, .inl u_tables_first_numbers')), (q_tables_second, .inr (6, [.ref q_tables_second_numbers])), (q_tables_second_numbers, .inl (cI, 36, .inl u_tables_second_numbers'))] := by
  refine kM_of (cc := cX4_takes) (maxL := 2) (ret := (some .boolean)) (by decide) rfl (Nat.le_of_ble_eq_true rfl) ?_
  intro p e s m args below meth c A Q ls hQ C hlocks hr hE hW hl
  have hx := C.1
  have hb := C.2.1
  have hts := C.2.2.2.2
  have hl : lv_has ls 2 [(0, .ref q), (1, .int p0)] := hl
  have iX4 : ∀ w ∈ u_ws RX4 TX4 6, w ∈ wsX4_takes := by decide +kernel
  have f18 := hts (.fieldLink RX4 18 "SortedTables$Reader" "begun" "Z") (by decide +kernel)
  have f32 := hts (.fieldLink RX4 32 "SortedTables$Reader" "tens" "I") (by decide +kernel)
  unfold pX4_takes at hf
  refine lv_aload_n hx hb dX4_takes_0 rfl (lv_at hl 0 rfl) ?_
  refine k_get C hE hW iX4 0 rfl rfl 1 (by decide) f18 (fun _ h9 => h9) rfl dX4_takes_1 ?_
  refine lv_if_ne (tgt := 27) hx hb dX4_takes_4 (by decide) (fun hc => ?_) (fun hc => ?_)
  · replace hf := if_f hc hf
    refine lv_iload_n hx hb dX4_takes_27 rfl (lv_at hl 1 rfl) ?_
    refine lv_bipush (v := 48) hx hb dX4_takes_28 (by decide) ?_
    refine lv_icmp_lt (tgt := 67) hx hb dX4_takes_30 (by decide) (fun hc => ?_) (fun hc => ?_)
    · replace hf := if_t hc hf
      refine lv_iload_n hx hb dX4_takes_67 rfl (lv_at hl 1 rfl) ?_
      refine lv_bipush (v := 47) hx hb dX4_takes_68 (by decide) ?_
      refine lv_icmp_ne (tgt := 78) hx hb dX4_takes_70 (by decide) (fun hc => ?_) (fun hc => ?_)
      · replace hf := if_f hc hf
        refine lv_iload_n hx hb dX4_takes_78 rfl (lv_at hl 1 rfl) ?_
        refine lv_bipush (v := 59) hx hb dX4_takes_79 (by decide) ?_
        refine lv_icmp_ne (tgt := 95) hx hb dX4_takes_81 (by decide) (fun hc => ?_) (fun hc => ?_)
        · replace hf := if_f hc hf
          refine lv_iconst (v := 0) hx hb dX4_takes_95 (by decide) ?_
          obtain ⟨rfl, rfl, rfl, rfl, rfl, rfl, rfl, rfl⟩ := sm8 hf
          exact k_zret C hlocks hr hW (by decide) hQ dX4_takes_96
        · replace hf := if_t hc hf
          refine lv_aload_n hx hb dX4_takes_84 rfl (lv_at hl 0 rfl) ?_
          obtain ⟨⟨v1, w2, w3, w4, w5⟩, h6, hf⟩ := bd1_s hf
          replace hf := un5_s hf
          refine k_callV (b := q) (ci := 4) (qb := 0) (As := []) (n := 0) (rest := []) (st1 := [.int v1]) (wr := [(q_tables, .inr (2, [.ref q_tables_first, .ref q_tables_second])), (q_tables_first, .inr (6, [.ref q_tables_first_numbers])), (q_tables_first_numbers, .inl (cI, 36, .inl u_tables_first_numbers)), (q_tables_second, .inr (6, [.ref q_tables_second_numbers])), (q_tables_second_numbers, .inl (cI, 36, .inl u_tables_second_numbers))]) (ws' := [(q, .inr (4, [.ref q_tables, .int u_begun, .int w2, .int w3, .int w4, .int w5])), (q_tables, .inr (2, [.ref q_tables_first, .ref q_tables_second])), (q_tables_first, .inr (6, [.ref q_tables_first_numbers])), (q_tables_first_numbers, .inl (cI, 36, .inl u_tables_first_numbers)), (q_tables_second, .inr (6, [.ref q_tables_second_numbers])), (q_tables_second_numbers, .inl (cI, 36, .inl u_tables_second_numbers))]) C hE hW hl.1 (kX4_takesSemicolon l D cI cZ cJ _ q q_tables u_begun u_table u_row u_column u_tens v1 w2 w3 w4 w5 h6) gX4_takes_X4_takesSemicolon rfl (by decide +kernel) rfl ⟨Nat.le_of_ble_eq_true rfl, Nat.le_of_ble_eq_true rfl⟩ ⟨Nat.zero_le _, Nat.zero_le _⟩ rfl rfl [0] [1, 2, 3, 4, 5] [5, 0, 1, 2, 3, 4] rfl rfl rfl rfl (by decide) rfl rfl (Nat.le_of_ble_eq_true rfl) rfl rfl dX4_takes_85 (fun H locs hW => ?_)
          refine lv_if_eq (tgt := 95) hx hb dX4_takes_88 (by decide) (fun hc => ?_) (fun hc => ?_)
          · replace hf := if_t hc hf
            refine lv_iconst (v := 0) hx hb dX4_takes_95 (by decide) ?_
            obtain ⟨rfl, rfl, rfl, rfl, rfl, rfl, rfl, rfl⟩ := sm8 hf
            exact k_zret C hlocks hr hW (by decide) hQ dX4_takes_96
          · replace hf := if_f hc hf
            refine lv_iconst (v := 1) hx hb dX4_takes_91 (by decide) ?_
            refine lv_goto (tgt := 96) hx hb dX4_takes_92 (by decide) ?_
            obtain ⟨rfl, rfl, rfl, rfl, rfl, rfl, rfl, rfl⟩ := sm8 hf
            exact k_zret C hlocks hr hW (by decide) hQ dX4_takes_96
      · replace hf := if_t hc hf
        refine lv_aload_n hx hb dX4_takes_73 rfl (lv_at hl 0 rfl) ?_
        obtain ⟨⟨v7, w8, w9⟩, h10, hf⟩ := bd1_s hf
        replace hf := un3_s hf
        refine k_callV (b := q) (ci := 4) (qb := 0) (As := []) (n := 0) (rest := []) (st1 := [.int v7]) (wr := [(q_tables, .inr (2, [.ref q_tables_first, .ref q_tables_second])), (q_tables_first, .inr (6, [.ref q_tables_first_numbers])), (q_tables_first_numbers, .inl (cI, 36, .inl u_tables_first_numbers)), (q_tables_second, .inr (6, [.ref q_tables_second_numbers])), (q_tables_second_numbers, .inl (cI, 36, .inl u_tables_second_numbers))]) (ws' := [(q, .inr (4, [.ref q_tables, .int u_begun, .int u_table, .int w8, .int w9, .int u_tens])), (q_tables, .inr (2, [.ref q_tables_first, .ref q_tables_second])), (q_tables_first, .inr (6, [.ref q_tables_first_numbers])), (q_tables_first_numbers, .inl (cI, 36, .inl u_tables_first_numbers)), (q_tables_second, .inr (6, [.ref q_tables_second_numbers])), (q_tables_second_numbers, .inl (cI, 36, .inl u_tables_second_numbers))]) C hE hW hl.1 (kX4_takesSlash l D cI cZ cJ _ q q_tables u_begun u_table u_row u_column u_tens v7 w8 w9 h10) gX4_takes_X4_takesSlash rfl (by decide +kernel) rfl ⟨Nat.le_of_ble_eq_true rfl, Nat.le_of_ble_eq_true rfl⟩ ⟨Nat.zero_le _, Nat.zero_le _⟩ rfl rfl [0] [1, 2, 3, 4, 5] [5, 0, 1, 2, 3, 4] rfl rfl rfl rfl (by decide) rfl rfl (Nat.le_of_ble_eq_true rfl) rfl rfl dX4_takes_74 (fun H locs hW => ?_)
        obtain ⟨v11, h12, hf⟩ := bd1_s hf
        obtain ⟨hn13, rfl⟩ := zb_s h12
        obtain ⟨rfl, rfl, rfl, rfl, rfl, rfl, rfl, rfl⟩ := sm8 hf
        exact k_zret C hlocks hr hW hn13 hQ dX4_takes_77
    · replace hf := if_f hc hf
      refine lv_iload_n hx hb dX4_takes_33 rfl (lv_at hl 1 rfl) ?_
      refine lv_bipush (v := 57) hx hb dX4_takes_34 (by decide) ?_
      refine lv_icmp_gt (tgt := 67) hx hb dX4_takes_36 (by decide) (fun hc => ?_) (fun hc => ?_)
      · replace hf := if_t hc hf
        refine lv_iload_n hx hb dX4_takes_67 rfl (lv_at hl 1 rfl) ?_
        refine lv_bipush (v := 47) hx hb dX4_takes_68 (by decide) ?_
        refine lv_icmp_ne (tgt := 78) hx hb dX4_takes_70 (by decide) (fun hc => ?_) (fun hc => ?_)
        · replace hf := if_f hc hf
          refine lv_iload_n hx hb dX4_takes_78 rfl (lv_at hl 1 rfl) ?_
          refine lv_bipush (v := 59) hx hb dX4_takes_79 (by decide) ?_
          refine lv_icmp_ne (tgt := 95) hx hb dX4_takes_81 (by decide) (fun hc => ?_) (fun hc => ?_)
          · replace hf := if_f hc hf
            refine lv_iconst (v := 0) hx hb dX4_takes_95 (by decide) ?_
            obtain ⟨rfl, rfl, rfl, rfl, rfl, rfl, rfl, rfl⟩ := sm8 hf
            exact k_zret C hlocks hr hW (by decide) hQ dX4_takes_96
          · replace hf := if_t hc hf
            refine lv_aload_n hx hb dX4_takes_84 rfl (lv_at hl 0 rfl) ?_
            obtain ⟨⟨v14, w15, w16, w17, w18⟩, h19, hf⟩ := bd1_s hf
            replace hf := un5_s hf
            refine k_callV (b := q) (ci := 4) (qb := 0) (As := []) (n := 0) (rest := []) (st1 := [.int v14]) (wr := [(q_tables, .inr (2, [.ref q_tables_first, .ref q_tables_second])), (q_tables_first, .inr (6, [.ref q_tables_first_numbers])), (q_tables_first_numbers, .inl (cI, 36, .inl u_tables_first_numbers)), (q_tables_second, .inr (6, [.ref q_tables_second_numbers])), (q_tables_second_numbers, .inl (cI, 36, .inl u_tables_second_numbers))]) (ws' := [(q, .inr (4, [.ref q_tables, .int u_begun, .int w15, .int w16, .int w17, .int w18])), (q_tables, .inr (2, [.ref q_tables_first, .ref q_tables_second])), (q_tables_first, .inr (6, [.ref q_tables_first_numbers])), (q_tables_first_numbers, .inl (cI, 36, .inl u_tables_first_numbers)), (q_tables_second, .inr (6, [.ref q_tables_second_numbers])), (q_tables_second_numbers, .inl (cI, 36, .inl u_tables_second_numbers))]) C hE hW hl.1 (kX4_takesSemicolon l D cI cZ cJ _ q q_tables u_begun u_table u_row u_column u_tens v14 w15 w16 w17 w18 h19) gX4_takes_X4_takesSemicolon rfl (by decide +kernel) rfl ⟨Nat.le_of_ble_eq_true rfl, Nat.le_of_ble_eq_true rfl⟩ ⟨Nat.zero_le _, Nat.zero_le _⟩ rfl rfl [0] [1, 2, 3, 4, 5] [5, 0, 1, 2, 3, 4] rfl rfl rfl rfl (by decide) rfl rfl (Nat.le_of_ble_eq_true rfl) rfl rfl dX4_takes_85 (fun H locs hW => ?_)
            refine lv_if_eq (tgt := 95) hx hb dX4_takes_88 (by decide) (fun hc => ?_) (fun hc => ?_)
            · replace hf := if_t hc hf
              refine lv_iconst (v := 0) hx hb dX4_takes_95 (by decide) ?_
              obtain ⟨rfl, rfl, rfl, rfl, rfl, rfl, rfl, rfl⟩ := sm8 hf
              exact k_zret C hlocks hr hW (by decide) hQ dX4_takes_96
            · replace hf := if_f hc hf
              refine lv_iconst (v := 1) hx hb dX4_takes_91 (by decide) ?_
              refine lv_goto (tgt := 96) hx hb dX4_takes_92 (by decide) ?_
              obtain ⟨rfl, rfl, rfl, rfl, rfl, rfl, rfl, rfl⟩ := sm8 hf
              exact k_zret C hlocks hr hW (by decide) hQ dX4_takes_96
        · replace hf := if_t hc hf
          refine lv_aload_n hx hb dX4_takes_73 rfl (lv_at hl 0 rfl) ?_
          obtain ⟨⟨v20, w21, w22⟩, h23, hf⟩ := bd1_s hf
          replace hf := un3_s hf
          refine k_callV (b := q) (ci := 4) (qb := 0) (As := []) (n := 0) (rest := []) (st1 := [.int v20]) (wr := [(q_tables, .inr (2, [.ref q_tables_first, .ref q_tables_second])), (q_tables_first, .inr (6, [.ref q_tables_first_numbers])), (q_tables_first_numbers, .inl (cI, 36, .inl u_tables_first_numbers)), (q_tables_second, .inr (6, [.ref q_tables_second_numbers])), (q_tables_second_numbers, .inl (cI, 36, .inl u_tables_second_numbers))]) (ws' := [(q, .inr (4, [.ref q_tables, .int u_begun, .int u_table, .int w21, .int w22, .int u_tens])), (q_tables, .inr (2, [.ref q_tables_first, .ref q_tables_second])), (q_tables_first, .inr (6, [.ref q_tables_first_numbers])), (q_tables_first_numbers, .inl (cI, 36, .inl u_tables_first_numbers)), (q_tables_second, .inr (6, [.ref q_tables_second_numbers])), (q_tables_second_numbers, .inl (cI, 36, .inl u_tables_second_numbers))]) C hE hW hl.1 (kX4_takesSlash l D cI cZ cJ _ q q_tables u_begun u_table u_row u_column u_tens v20 w21 w22 h23) gX4_takes_X4_takesSlash rfl (by decide +kernel) rfl ⟨Nat.le_of_ble_eq_true rfl, Nat.le_of_ble_eq_true rfl⟩ ⟨Nat.zero_le _, Nat.zero_le _⟩ rfl rfl [0] [1, 2, 3, 4, 5] [5, 0, 1, 2, 3, 4] rfl rfl rfl rfl (by decide) rfl rfl (Nat.le_of_ble_eq_true rfl) rfl rfl dX4_takes_74 (fun H locs hW => ?_)
          obtain ⟨v24, h25, hf⟩ := bd1_s hf
          obtain ⟨hn26, rfl⟩ := zb_s h25
          obtain ⟨rfl, rfl, rfl, rfl, rfl, rfl, rfl, rfl⟩ := sm8 hf
          exact k_zret C hlocks hr hW hn26 hQ dX4_takes_77
      · replace hf := if_f hc hf
        refine lv_aload_n hx hb dX4_takes_39 rfl (lv_at hl 0 rfl) ?_
        refine k_get C hE hW iX4 0 rfl rfl 5 (by decide) f32 (fun _ h9 => h9) rfl dX4_takes_40 ?_
        refine lv_iconst (v := (-1)) hx hb dX4_takes_43 (by decide) ?_
        refine lv_icmp_ne (tgt := 58) hx hb dX4_takes_44 (by decide) (fun hc => ?_) (fun hc => ?_)
        · replace hf := if_f hc hf
          refine lv_aload_n hx hb dX4_takes_58 rfl (lv_at hl 0 rfl) ?_
          refine lv_iload_n hx hb dX4_takes_59 rfl (lv_at hl 1 rfl) ?_
          refine lv_bipush (v := 48) hx hb dX4_takes_60 (by decide) ?_
          refine lv_isub hx hb dX4_takes_62 ?_
          obtain ⟨⟨v27, w28, w29, w30, w31⟩, h32, hf⟩ := bd1_s hf
          replace hf := un5_s hf
          refine k_callV (b := q) (ci := 4) (qb := 0) (As := [.int (p0 - 48)]) (n := 1) (rest := []) (st1 := [.int v27]) (wr := []) (ws' := [(q, .inr (4, [.ref q_tables, .int u_begun, .int u_table, .int u_row, .int w28, .int w29])), (q_tables, .inr (2, [.ref q_tables_first, .ref q_tables_second])), (q_tables_first, .inr (6, [.ref q_tables_first_numbers])), (q_tables_first_numbers, .inl (cI, 36, .inl w30)), (q_tables_second, .inr (6, [.ref q_tables_second_numbers])), (q_tables_second_numbers, .inl (cI, 36, .inl w31))]) C hE hW hl.1 (kX4_takesUnits l D cI cZ cJ _ q q_tables q_tables_first q_tables_first_numbers q_tables_second q_tables_second_numbers u_begun u_table u_row u_column u_tens u_tables_first_numbers u_tables_second_numbers (p0 - 48) v27 w28 w29 w30 w31 h32) gX4_takes_X4_takesUnits rfl (by decide +kernel) rfl ⟨Nat.le_of_ble_eq_true rfl, Nat.le_of_ble_eq_true rfl⟩ ⟨Nat.zero_le _, Nat.zero_le _⟩ rfl rfl [0, 1, 2, 3, 4, 5] [] [0, 1, 2, 3, 4, 5] rfl rfl rfl rfl (by decide) rfl rfl (Nat.le_of_ble_eq_true rfl) rfl rfl dX4_takes_63 (fun H locs hW => ?_)
          obtain ⟨v33, h34, hf⟩ := bd1_s hf
          obtain ⟨hn35, rfl⟩ := zb_s h34
          obtain ⟨rfl, rfl, rfl, rfl, rfl, rfl, rfl, rfl⟩ := sm8 hf
          exact k_zret C hlocks hr hW hn35 hQ dX4_takes_66
        · replace hf := if_t hc hf
          refine lv_aload_n hx hb dX4_takes_47 rfl (lv_at hl 0 rfl) ?_
          refine lv_iload_n hx hb dX4_takes_48 rfl (lv_at hl 1 rfl) ?_
          refine lv_bipush (v := 48) hx hb dX4_takes_49 (by decide) ?_
          refine lv_isub hx hb dX4_takes_51 ?_
          obtain ⟨⟨v36, w37⟩, h38, hf⟩ := bd1_s hf
          replace hf := un2_s hf
          refine k_callV (b := q) (ci := 4) (qb := 0) (As := [.int (p0 - 48)]) (n := 1) (rest := []) (st1 := [.int v36]) (wr := []) (ws' := [(q, .inr (4, [.ref q_tables, .int u_begun, .int u_table, .int u_row, .int u_column, .int w37])), (q_tables, .inr (2, [.ref q_tables_first, .ref q_tables_second])), (q_tables_first, .inr (6, [.ref q_tables_first_numbers])), (q_tables_first_numbers, .inl (cI, 36, .inl u_tables_first_numbers)), (q_tables_second, .inr (6, [.ref q_tables_second_numbers])), (q_tables_second_numbers, .inl (cI, 36, .inl u_tables_second_numbers))]) C hE hW hl.1 (kX4_takesTens l D cI cZ cJ _ q q_tables q_tables_first q_tables_first_numbers q_tables_second q_tables_second_numbers u_begun u_table u_row u_column u_tens u_tables_first_numbers u_tables_second_numbers (p0 - 48) v36 w37 h38) gX4_takes_X4_takesTens rfl (by decide +kernel) rfl ⟨Nat.le_of_ble_eq_true rfl, Nat.le_of_ble_eq_true rfl⟩ ⟨Nat.zero_le _, Nat.zero_le _⟩ rfl rfl [0, 1, 2, 3, 4, 5] [] [0, 1, 2, 3, 4, 5] rfl rfl rfl rfl (by decide) rfl rfl (Nat.le_of_ble_eq_true rfl) rfl rfl dX4_takes_52 (fun H locs hW => ?_)
          refine lv_goto (tgt := 66) hx hb dX4_takes_55 (by decide) ?_
          obtain ⟨v39, h40, hf⟩ := bd1_s hf
          obtain ⟨hn41, rfl⟩ := zb_s h40
          obtain ⟨rfl, rfl, rfl, rfl, rfl, rfl, rfl, rfl⟩ := sm8 hf
          exact k_zret C hlocks hr hW hn41 hQ dX4_takes_66
  · replace hf := if_t hc hf
    refine lv_aload_n hx hb dX4_takes_7 rfl (lv_at hl 0 rfl) ?_
    refine lv_iload_n hx hb dX4_takes_8 rfl (lv_at hl 1 rfl) ?_
    refine lv_bipush (v := 84) hx hb dX4_takes_9 (by decide) ?_
    refine lv_icmp_ne (tgt := 18) hx hb dX4_takes_11 (by decide) (fun hc => ?_) (fun hc => ?_)
    · replace hf := if_f hc hf
      refine lv_iconst (v := 0) hx hb dX4_takes_18 (by decide) ?_
      refine k_put (v := .int 0) (ty := .boolean) (ws' := [(q, .inr (4, [.ref q_tables, .int 0, .int u_table, .int u_row, .int u_column, .int u_tens])), (q_tables, .inr (2, [.ref q_tables_first, .ref q_tables_second])), (q_tables_first, .inr (6, [.ref q_tables_first_numbers])), (q_tables_first_numbers, .inl (cI, 36, .inl u_tables_first_numbers)), (q_tables_second, .inr (6, [.ref q_tables_second_numbers])), (q_tables_second_numbers, .inl (cI, 36, .inl u_tables_second_numbers))]) C hE hW iX4 tyX4_ok nmX4 0 rfl rfl 1 (by decide) f18 (fun _ h9 => h9) rfl (by decide +kernel) (by decide) rfl (Nat.le_of_ble_eq_true rfl) rfl dX4_takes_19 (fun H locs hW => ?_)
      refine lv_aload_n hx hb dX4_takes_22 rfl (lv_at hl 0 rfl) ?_
      refine k_get C hE hW iX4 0 rfl rfl 1 (by decide) f18 (fun _ h9 => h9) rfl dX4_takes_23 ?_
      obtain ⟨rfl, rfl, rfl, rfl, rfl, rfl, rfl, rfl⟩ := sm8 hf
      exact k_zret C hlocks hr hW (by decide) hQ dX4_takes_26
    · replace hf := if_t hc hf
      refine lv_iconst (v := 1) hx hb dX4_takes_14 (by decide) ?_
      refine lv_goto (tgt := 19) hx hb dX4_takes_15 (by decide) ?_
      refine k_put (v := .int 1) (ty := .boolean) (ws' := [(q, .inr (4, [.ref q_tables, .int 1, .int u_table, .int u_row, .int u_column, .int u_tens])), (q_tables, .inr (2, [.ref q_tables_first, .ref q_tables_second])), (q_tables_first, .inr (6, [.ref q_tables_first_numbers])), (q_tables_first_numbers, .inl (cI, 36, .inl u_tables_first_numbers)), (q_tables_second, .inr (6, [.ref q_tables_second_numbers])), (q_tables_second_numbers, .inl (cI, 36, .inl u_tables_second_numbers))]) C hE hW iX4 tyX4_ok nmX4 0 rfl rfl 1 (by decide) f18 (fun _ h9 => h9) rfl (by decide +kernel) (by decide) rfl (Nat.le_of_ble_eq_true rfl) rfl dX4_takes_19 (fun H locs hW => ?_)
      refine lv_aload_n hx hb dX4_takes_22 rfl (lv_at hl 0 rfl) ?_
      refine k_get C hE hW iX4 0 rfl rfl 1 (by decide) f18 (fun _ h9 => h9) rfl dX4_takes_23 ?_
      obtain ⟨rfl, rfl, rfl, rfl, rfl, rfl, rfl, rfl⟩ := sm8 hf
      exact k_zret C hlocks hr hW (by decide) hQ dX4_takes_26

set_option maxHeartbeats 4000000 in
set_option maxRecDepth 100000 in
theorem kX8_codeAt (l : Launch) (D : va_G) (cI cZ cJ : ClassId) (sz : Nat) (q q_codes : Nat) (u_length : Int32) (u_codes : Nat → Int32) (p0 : Int32) (r : Int32) (hf : pX8_codeAt u_length u_codes p0 = some r) : kMet l D cI cZ cJ yX8_codeAt wsX8_codeAt 0 0 [.ref q, .int p0] [(q, .inr (7, [.ref q_codes, .int u_length])), (q_codes, .inl (cI, 160, .inl u_codes))] sz (some (.int r)) [(q, .inr (7, [.ref q_codes, .int u_length])), (q_codes, .inl (cI, 160, .inl u_codes))] := by
  refine kM_of (cc := cX8_codeAt) (maxL := 2) (ret := (some .int)) (by decide) rfl (Nat.le_of_ble_eq_true rfl) ?_
  intro p e s m args below meth c A Q ls hQ C hlocks hr hE hW hl
  have hx := C.1
  have hb := C.2.1
  have hts := C.2.2.2.2
  have hl : lv_has ls 2 [(0, .ref q), (1, .int p0)] := hl
  have iX8 : ∀ w ∈ u_ws RX8 TX8 2, w ∈ wsX8_codeAt := by decide +kernel
  have f15 := hts (.fieldLink RX8 15 "SortedTables$Text" "length" "I") (by decide +kernel)
  have f9 := hts (.fieldLink RX8 9 "SortedTables$Text" "codes" "[I") (by decide +kernel)
  unfold pX8_codeAt at hf
  refine lv_iload_n hx hb dX8_codeAt_0 rfl (lv_at hl 1 rfl) ?_
  refine lv_if_lt (tgt := 28) hx hb dX8_codeAt_1 (by decide) (fun hc => ?_) (fun hc => ?_)
  · replace hf := if_t hc hf
    refine lv_iconst (v := (-1)) hx hb dX8_codeAt_28 (by decide) ?_
    obtain rfl := Option.some.inj hf
    exact k_iret C hlocks hr hW hQ dX8_codeAt_29
  · replace hf := if_f hc hf
    refine lv_iload_n hx hb dX8_codeAt_4 rfl (lv_at hl 1 rfl) ?_
    refine lv_aload_n hx hb dX8_codeAt_5 rfl (lv_at hl 0 rfl) ?_
    refine k_get C hE hW iX8 0 rfl rfl 1 (by decide) f15 (fun _ h9 => h9) rfl dX8_codeAt_6 ?_
    refine lv_icmp_ge (tgt := 28) hx hb dX8_codeAt_9 (by decide) (fun hc => ?_) (fun hc => ?_)
    · replace hf := if_t hc hf
      refine lv_iconst (v := (-1)) hx hb dX8_codeAt_28 (by decide) ?_
      obtain rfl := Option.some.inj hf
      exact k_iret C hlocks hr hW hQ dX8_codeAt_29
    · replace hf := if_f hc hf
      refine lv_iload_n hx hb dX8_codeAt_12 rfl (lv_at hl 1 rfl) ?_
      refine lv_sipush (v := 160) hx hb dX8_codeAt_13 (by decide) ?_
      refine lv_icmp_ge (tgt := 28) hx hb dX8_codeAt_16 (by decide) (fun hc => ?_) (fun hc => ?_)
      · replace hf := if_t hc hf
        refine lv_iconst (v := (-1)) hx hb dX8_codeAt_28 (by decide) ?_
        obtain rfl := Option.some.inj hf
        exact k_iret C hlocks hr hW hQ dX8_codeAt_29
      · replace hf := if_f hc hf
        refine lv_aload_n hx hb dX8_codeAt_19 rfl (lv_at hl 0 rfl) ?_
        refine k_get C hE hW iX8 0 rfl rfl 0 (by decide) f9 (fun _ h9 => h9) rfl dX8_codeAt_20 ?_
        refine lv_iload_n hx hb dX8_codeAt_23 rfl (lv_at hl 1 rfl) ?_
        obtain ⟨v1, h2, hf⟩ := bd1_s hf
        refine k_iald C hE hW 1 rfl h2 dX8_codeAt_24 ?_
        refine lv_goto (tgt := 29) hx hb dX8_codeAt_25 (by decide) ?_
        obtain rfl := Option.some.inj hf
        exact k_iret C hlocks hr hW hQ dX8_codeAt_29

set_option maxHeartbeats 4000000 in
set_option maxRecDepth 100000 in
theorem kX8_length (l : Launch) (D : va_G) (cI cZ cJ : ClassId) (sz : Nat) (q q_codes : Nat) (u_length : Int32) (r : Int32) (hf : pX8_length u_length = some r) : kMet l D cI cZ cJ yX8_length wsX8_length 0 0 [.ref q] [(q, .inr (7, [.ref q_codes, .int u_length]))] sz (some (.int r)) [(q, .inr (7, [.ref q_codes, .int u_length]))] := by
  refine kM_of (cc := cX8_length) (maxL := 1) (ret := (some .int)) (by decide) rfl (Nat.le_of_ble_eq_true rfl) ?_
  intro p e s m args below meth c A Q ls hQ C hlocks hr hE hW hl
  have hx := C.1
  have hb := C.2.1
  have hts := C.2.2.2.2
  have hl : lv_has ls 1 [(0, .ref q)] := hl
  have iX8 : ∀ w ∈ u_ws RX8 TX8 2, w ∈ wsX8_length := by decide +kernel
  have f15 := hts (.fieldLink RX8 15 "SortedTables$Text" "length" "I") (by decide +kernel)
  unfold pX8_length at hf
  refine lv_aload_n hx hb dX8_length_0 rfl (lv_at hl 0 rfl) ?_
  refine k_get C hE hW iX8 0 rfl rfl 1 (by decide) f15 (fun _ h9 => h9) rfl dX8_length_1 ?_
  obtain rfl := Option.some.inj hf
  exact k_iret C hlocks hr hW hQ dX8_length_4

set_option maxHeartbeats 4000000 in
set_option maxRecDepth 100000 in
theorem kX4_read (l : Launch) (D : va_G) (cI cZ cJ : ClassId) (sz : Nat) (q q_tables q_tables_first q_tables_first_numbers q_tables_second q_tables_second_numbers r0 r0_codes : Nat) (u_begun : Int32) (u_table : Int32) (u_row : Int32) (u_column : Int32) (u_tens : Int32) (u_tables_first_numbers : Nat → Int32) (u_tables_second_numbers : Nat → Int32) (u0_length : Int32) (u0_codes : Nat → Int32) (r : Int32) (u_begun' : Int32) (u_table' : Int32) (u_row' : Int32) (u_column' : Int32) (u_tens' : Int32) (u_tables_first_numbers' : Nat → Int32) (u_tables_second_numbers' : Nat → Int32) (hf : pX4_read u_begun u_table u_row u_column u_tens u_tables_first_numbers u_tables_second_numbers u0_length u0_codes = some (r, u_begun', u_table', u_row', u_column', u_tens', u_tables_first_numbers', u_tables_second_numbers')) : kMet l D cI cZ cJ yX4_read wsX4_read 4 87 [.ref q, .ref r0] [(q, .inr (4, [.ref q_tables, .int u_begun, .int u_table, .int u_row, .int u_column, .int u_tens])), (q_tables, .inr (2, [.ref q_tables_first, .ref q_tables_second])), (q_tables_first, .inr (6, [.ref q_tables_first_numbers])), (q_tables_first_numbers, .inl (cI, 36, .inl u_tables_first_numbers)), (q_tables_second, .inr (6, [.ref q_tables_second_numbers])), (q_tables_second_numbers, .inl (cI, 36, .inl u_tables_second_numbers)), (r0, .inr (7, [.ref r0_codes, .int u0_length])), (r0_codes, .inl (cI, 160, .inl u0_codes))] sz (some (.int r)) [(q, .inr (4, [.ref q_tables, .int u_begun', .int u_table', .int u_row', .int u_column', .int u_tens'])), (q_tables, .inr (2, [.ref q_tables_first, .ref q_tables_second])), (q_tables_first, .inr (6, [.ref q_tables_first_numbers])), (q_tables_first_numbers, .inl (cI, 36, .inl u_tables_first_numbers')), (q_tables_second, .inr (6, [.ref q_tables_second_numbers])), (q_tables_second_numbers, .inl (cI, 36, .inl u_tables_second_numbers')), (r0, .inr (7, [.ref r0_codes, .int u0_length])), (r0_codes, .inl (cI, 160, .inl u0_codes))] := by
  refine kM_of (cc := cX4_read) (maxL := 4) (ret := (some .int)) (by decide) rfl (Nat.le_of_ble_eq_true rfl) ?_
  intro p e s m args below meth c A Q ls hQ C hlocks hr hE hW hl
  have hx := C.1
  have hb := C.2.1
  have hts := C.2.2.2.2
  have hl : lv_has ls 4 [(0, .ref q), (1, .ref r0)] := hl
  have iX4 : ∀ w ∈ u_ws RX4 TX4 6, w ∈ wsX4_read := by decide +kernel
  have f12 := hts (.fieldLink RX4 12 "SortedTables$Reader" "tables" "LSortedTables$Pair;") (by decide +kernel)
  have f18 := hts (.fieldLink RX4 18 "SortedTables$Reader" "begun" "Z") (by decide +kernel)
  have f22 := hts (.fieldLink RX4 22 "SortedTables$Reader" "table" "I") (by decide +kernel)
  unfold pX4_read at hf
  refine lv_aload_n hx hb dX4_read_0 rfl (lv_at hl 0 rfl) ?_
  refine k_get C hE hW iX4 0 rfl rfl 0 (by decide) f12 (fun _ h9 => h9) rfl dX4_read_1 ?_
  obtain ⟨⟨w1, w2⟩, h3, hf⟩ := bd1_s hf
  replace hf := un2_s hf
  refine k_callV (b := q_tables) (ci := 2) (qb := 0) (As := []) (n := 0) (rest := []) (st1 := []) (wr := [(q, .inr (4, [.ref q_tables, .int u_begun, .int u_table, .int u_row, .int u_column, .int u_tens])), (r0, .inr (7, [.ref r0_codes, .int u0_length])), (r0_codes, .inl (cI, 160, .inl u0_codes))]) (ws' := [(q, .inr (4, [.ref q_tables, .int u_begun, .int u_table, .int u_row, .int u_column, .int u_tens])), (q_tables, .inr (2, [.ref q_tables_first, .ref q_tables_second])), (q_tables_first, .inr (6, [.ref q_tables_first_numbers])), (q_tables_first_numbers, .inl (cI, 36, .inl w1)), (q_tables_second, .inr (6, [.ref q_tables_second_numbers])), (q_tables_second_numbers, .inl (cI, 36, .inl w2)), (r0, .inr (7, [.ref r0_codes, .int u0_length])), (r0_codes, .inl (cI, 160, .inl u0_codes))]) C hE hW hl.1 (kX2_wipe l D cI cZ cJ _ q_tables q_tables_first q_tables_first_numbers q_tables_second q_tables_second_numbers u_tables_first_numbers u_tables_second_numbers w1 w2 h3) gX4_read_X2_wipe rfl (by decide +kernel) rfl ⟨Nat.le_of_ble_eq_true rfl, Nat.le_of_ble_eq_true rfl⟩ ⟨Nat.zero_le _, Nat.zero_le _⟩ rfl rfl [1, 2, 3, 4, 5] [0, 6, 7] [0, 3, 4, 5, 6, 7, 1, 2] rfl rfl rfl rfl (by decide) rfl rfl (Nat.le_of_ble_eq_true rfl) rfl rfl dX4_read_4 (fun H locs hW => ?_)
  refine lv_aload_n hx hb dX4_read_7 rfl (lv_at hl 0 rfl) ?_
  refine lv_iconst (v := 0) hx hb dX4_read_8 (by decide) ?_
  refine k_put (v := .int 0) (ty := .boolean) (ws' := [(q, .inr (4, [.ref q_tables, .int 0, .int u_table, .int u_row, .int u_column, .int u_tens])), (q_tables, .inr (2, [.ref q_tables_first, .ref q_tables_second])), (q_tables_first, .inr (6, [.ref q_tables_first_numbers])), (q_tables_first_numbers, .inl (cI, 36, .inl w1)), (q_tables_second, .inr (6, [.ref q_tables_second_numbers])), (q_tables_second_numbers, .inl (cI, 36, .inl w2)), (r0, .inr (7, [.ref r0_codes, .int u0_length])), (r0_codes, .inl (cI, 160, .inl u0_codes))]) C hE hW iX4 tyX4_ok nmX4 0 rfl rfl 1 (by decide) f18 (fun _ h9 => h9) rfl (by decide +kernel) (by decide) rfl (Nat.le_of_ble_eq_true rfl) rfl dX4_read_9 (fun H locs hW => ?_)
  refine lv_aload_n hx hb dX4_read_12 rfl (lv_at hl 0 rfl) ?_
  refine lv_iconst (v := 0) hx hb dX4_read_13 (by decide) ?_
  obtain ⟨⟨w4, w5, w6, w7⟩, h8, hf⟩ := bd1_s hf
  replace hf := un4_s hf
  refine k_callV (b := q) (ci := 4) (qb := 0) (As := [.int 0]) (n := 1) (rest := []) (st1 := []) (wr := [(q_tables, .inr (2, [.ref q_tables_first, .ref q_tables_second])), (q_tables_first, .inr (6, [.ref q_tables_first_numbers])), (q_tables_first_numbers, .inl (cI, 36, .inl w1)), (q_tables_second, .inr (6, [.ref q_tables_second_numbers])), (q_tables_second_numbers, .inl (cI, 36, .inl w2)), (r0, .inr (7, [.ref r0_codes, .int u0_length])), (r0_codes, .inl (cI, 160, .inl u0_codes))]) (ws' := [(q, .inr (4, [.ref q_tables, .int 0, .int w4, .int w5, .int w6, .int w7])), (q_tables, .inr (2, [.ref q_tables_first, .ref q_tables_second])), (q_tables_first, .inr (6, [.ref q_tables_first_numbers])), (q_tables_first_numbers, .inl (cI, 36, .inl w1)), (q_tables_second, .inr (6, [.ref q_tables_second_numbers])), (q_tables_second_numbers, .inl (cI, 36, .inl w2)), (r0, .inr (7, [.ref r0_codes, .int u0_length])), (r0_codes, .inl (cI, 160, .inl u0_codes))]) C hE hW hl.1 (kX4_begin l D cI cZ cJ _ q q_tables 0 u_table u_row u_column u_tens 0 w4 w5 w6 w7 h8) gX4_read_X4_begin rfl (by decide +kernel) rfl ⟨Nat.le_of_ble_eq_true rfl, Nat.le_of_ble_eq_true rfl⟩ ⟨Nat.zero_le _, Nat.zero_le _⟩ rfl rfl [0] [1, 2, 3, 4, 5, 6, 7] [7, 0, 1, 2, 3, 4, 5, 6] rfl rfl rfl rfl (by decide) rfl rfl (Nat.le_of_ble_eq_true rfl) rfl rfl dX4_read_14 (fun H locs hW => ?_)
  refine lv_aload_n hx hb dX4_read_17 rfl (lv_at hl 1 rfl) ?_
  obtain ⟨v9, h10, hf⟩ := bd1_s hf
  refine k_callVR (b := r0) (ci := 7) (qb := 0) (As := []) (n := 0) (rest := []) (st1 := [.int v9]) C hE hW hl.1 (kX8_length l D cI cZ cJ _ r0 r0_codes u0_length v9 h10) gX4_read_X8_length rfl (by decide +kernel) rfl ⟨Nat.le_of_ble_eq_true rfl, Nat.le_of_ble_eq_true rfl⟩ ⟨Nat.zero_le _, Nat.zero_le _⟩ rfl rfl [6] rfl rfl (Nat.le_of_ble_eq_true rfl) rfl rfl dX4_read_18 (fun H locs hW => ?_)
  refine lv_istore_n (lv' := [(2, .int v9), (0, .ref q), (1, .ref r0)]) hx hb dX4_read_21 rfl hl (by decide) rfl (fun ls hl => ?_)
  refine lv_iconst (v := 0) hx hb dX4_read_22 (by decide) ?_
  refine lv_istore_n (lv' := [(3, .int 0), (2, .int v9), (0, .ref q), (1, .ref r0)]) hx hb dX4_read_23 rfl hl (by decide) rfl (fun ls hl => ?_)
  obtain ⟨xx30, hx270, hf⟩ := bd1_s hf
  have J28 : ∀ (w19 : Int32) (w20 : Int32) (w21 : Int32) (w22 : Int32) (w23 : Int32) (w24 : Nat → Int32) (w25 : Nat → Int32), pX4_read_R49 v9 w19 w20 w21 w22 w23 w24 w25 = some (r, u_begun', u_table', u_row', u_column', u_tens', u_tables_first_numbers', u_tables_second_numbers') → ∀ (H : Heap) (locs : List Loc) (ls : Array Slot), kH D A s H locs [(q, .inr (4, [.ref q_tables, .int w19, .int w20, .int w21, .int w22, .int w23])), (q_tables, .inr (2, [.ref q_tables_first, .ref q_tables_second])), (q_tables_first, .inr (6, [.ref q_tables_first_numbers])), (q_tables_first_numbers, .inl (cI, 36, .inl w24)), (q_tables_second, .inr (6, [.ref q_tables_second_numbers])), (q_tables_second_numbers, .inl (cI, 36, .inl w25)), (r0, .inr (7, [.ref r0_codes, .int u0_length])), (r0_codes, .inl (cI, 160, .inl u0_codes))] → lv_has ls 4 [(2, .int v9), (0, .ref q)] → W p l e (kRm 4 87 0 0) s m args below meth c H locs 0 0 Q (F0 m 49 ls []) := by
    intro w19 w20 w21 w22 w23 w24 w25 hf H locs ls hW hl
    unfold pX4_read_R49 at hf
    refine lv_aload_n hx hb dX4_read_49 rfl (lv_at hl 1 rfl) ?_
    refine k_get C hE hW iX4 0 rfl rfl 1 (by decide) f18 (fun _ h9 => h9) rfl dX4_read_50 ?_
    refine lv_if_eq (tgt := 76) hx hb dX4_read_53 (by decide) (fun hc => ?_) (fun hc => ?_)
    · replace hf := if_t hc hf
      refine lv_iload_n hx hb dX4_read_76 rfl (lv_at hl 0 rfl) ?_
      obtain ⟨rfl, rfl, rfl, rfl, rfl, rfl, rfl, rfl⟩ := sm8 hf
      exact k_iret C hlocks hr hW hQ dX4_read_77
    · replace hf := if_f hc hf
      refine lv_aload_n hx hb dX4_read_56 rfl (lv_at hl 1 rfl) ?_
      refine k_get C hE hW iX4 0 rfl rfl 2 (by decide) f22 (fun _ h9 => h9) rfl dX4_read_57 ?_
      refine lv_iconst (v := 1) hx hb dX4_read_60 (by decide) ?_
      refine lv_icmp_ne (tgt := 76) hx hb dX4_read_61 (by decide) (fun hc => ?_) (fun hc => ?_)
      · replace hf := if_f hc hf
        refine lv_iload_n hx hb dX4_read_76 rfl (lv_at hl 0 rfl) ?_
        obtain ⟨rfl, rfl, rfl, rfl, rfl, rfl, rfl, rfl⟩ := sm8 hf
        exact k_iret C hlocks hr hW hQ dX4_read_77
      · replace hf := if_t hc hf
        refine lv_aload_n hx hb dX4_read_64 rfl (lv_at hl 1 rfl) ?_
        obtain ⟨v43, h44, hf⟩ := bd1_s hf
        refine k_callVR (b := q) (ci := 4) (qb := 0) (As := []) (n := 0) (rest := []) (st1 := [.int v43]) C hE hW hl.1 (kX4_canEndTable l D cI cZ cJ _ q q_tables w19 w20 w21 w22 w23 v43 h44) gX4_read_X4_canEndTable rfl (by decide +kernel) rfl ⟨Nat.le_of_ble_eq_true rfl, Nat.le_of_ble_eq_true rfl⟩ ⟨Nat.zero_le _, Nat.zero_le _⟩ rfl rfl [0] rfl rfl (Nat.le_of_ble_eq_true rfl) rfl rfl dX4_read_65 (fun H locs hW => ?_)
        refine lv_if_eq (tgt := 76) hx hb dX4_read_68 (by decide) (fun hc => ?_) (fun hc => ?_)
        · replace hf := if_t hc hf
          refine lv_iload_n hx hb dX4_read_76 rfl (lv_at hl 0 rfl) ?_
          obtain ⟨rfl, rfl, rfl, rfl, rfl, rfl, rfl, rfl⟩ := sm8 hf
          exact k_iret C hlocks hr hW hQ dX4_read_77
        · replace hf := if_f hc hf
          refine lv_bipush (v := (-9)) hx hb dX4_read_71 (by decide) ?_
          refine lv_goto (tgt := 77) hx hb dX4_read_73 (by decide) ?_
          obtain ⟨rfl, rfl, rfl, rfl, rfl, rfl, rfl, rfl⟩ := sm8 hf
          exact k_iret C hlocks hr hW hQ dX4_read_77
  have L29 : ∀ (n : Nat) (i11 : Int32) (w12 : Int32) (w13 : Int32) (w14 : Int32) (w15 : Int32) (w16 : Int32) (w17 : Nat → Int32) (w18 : Nat → Int32), lpI n (un8 (pX4_read_L24 u0_length u0_codes v9)) (i11, w12, w13, w14, w15, w16, w17, w18) = some xx30 → ∀ (H : Heap) (locs : List Loc) (ls : Array Slot), kH D A s H locs [(q, .inr (4, [.ref q_tables, .int w12, .int w13, .int w14, .int w15, .int w16])), (q_tables, .inr (2, [.ref q_tables_first, .ref q_tables_second])), (q_tables_first, .inr (6, [.ref q_tables_first_numbers])), (q_tables_first_numbers, .inl (cI, 36, .inl w17)), (q_tables_second, .inr (6, [.ref q_tables_second_numbers])), (q_tables_second_numbers, .inl (cI, 36, .inl w18)), (r0, .inr (7, [.ref r0_codes, .int u0_length])), (r0_codes, .inl (cI, 160, .inl u0_codes))] → lv_has ls 4 [(3, .int i11), (2, .int v9), (0, .ref q), (1, .ref r0)] → W p l e (kRm 4 87 0 0) s m args below meth c H locs 0 0 Q (F0 m 24 ls []) := by
    intro n
    induction n with
    | zero => intro i11 w12 w13 w14 w15 w16 w17 w18 hx27; exact (lpI_0 hx27).elim
    | succ n ih31 =>
      intro i11 w12 w13 w14 w15 w16 w17 w18 hx27 H locs ls hW hl
      obtain ⟨ooho26, ho26, hx27⟩ := lpI_s hx27
      replace ho26 := un8_s ho26
      unfold pX4_read_L24 at ho26
      refine lv_iload_n hx hb dX4_read_24 rfl (lv_at hl 0 rfl) ?_
      refine lv_iload_n hx hb dX4_read_25 rfl (lv_at hl 1 rfl) ?_
      refine lv_icmp_ge (tgt := 49) hx hb dX4_read_26 (by decide) (fun hc => ?_) (fun hc => ?_)
      · replace ho26 := if_t hc ho26
        obtain rfl := Option.some.inj ho26
        obtain rfl := lpK_r hx27
        replace hf := el_r hf
        replace hf := un7_s hf
        exact J28 _ _ _ _ _ _ _ hf _ _ _ hW (lv_sub hl [1, 2] rfl)
      · replace ho26 := if_f hc ho26
        refine lv_aload_n hx hb dX4_read_29 rfl (lv_at hl 2 rfl) ?_
        refine lv_aload_n hx hb dX4_read_30 rfl (lv_at hl 3 rfl) ?_
        refine lv_iload_n hx hb dX4_read_31 rfl (lv_at hl 0 rfl) ?_
        obtain ⟨v32, h33, ho26⟩ := bd1_s ho26
        refine k_callVR (b := r0) (ci := 7) (qb := 0) (As := [.int i11]) (n := 1) (rest := [.ref q]) (st1 := [.int v32, .ref q]) C hE hW hl.1 (kX8_codeAt l D cI cZ cJ _ r0 r0_codes u0_length u0_codes i11 v32 h33) gX4_read_X8_codeAt rfl (by decide +kernel) rfl ⟨Nat.le_of_ble_eq_true rfl, Nat.le_of_ble_eq_true rfl⟩ ⟨Nat.zero_le _, Nat.zero_le _⟩ rfl rfl [6, 7] rfl rfl (Nat.le_of_ble_eq_true rfl) rfl rfl dX4_read_32 (fun H locs hW => ?_)
        obtain ⟨⟨v34, w35, w36, w37, w38, w39, w40, w41⟩, h42, ho26⟩ := bd1_s ho26
        replace ho26 := un8_s ho26
        refine k_callV (b := q) (ci := 4) (qb := 0) (As := [.int v32]) (n := 1) (rest := []) (st1 := [.int v34]) (wr := [(r0, .inr (7, [.ref r0_codes, .int u0_length])), (r0_codes, .inl (cI, 160, .inl u0_codes))]) (ws' := [(q, .inr (4, [.ref q_tables, .int w35, .int w36, .int w37, .int w38, .int w39])), (q_tables, .inr (2, [.ref q_tables_first, .ref q_tables_second])), (q_tables_first, .inr (6, [.ref q_tables_first_numbers])), (q_tables_first_numbers, .inl (cI, 36, .inl w40)), (q_tables_second, .inr (6, [.ref q_tables_second_numbers])), (q_tables_second_numbers, .inl (cI, 36, .inl w41)), (r0, .inr (7, [.ref r0_codes, .int u0_length])), (r0_codes, .inl (cI, 160, .inl u0_codes))]) C hE hW hl.1 (kX4_takes l D cI cZ cJ _ q q_tables q_tables_first q_tables_first_numbers q_tables_second q_tables_second_numbers w12 w13 w14 w15 w16 w17 w18 v32 v34 w35 w36 w37 w38 w39 w40 w41 h42) gX4_read_X4_takes rfl (by decide +kernel) rfl ⟨Nat.le_of_ble_eq_true rfl, Nat.le_of_ble_eq_true rfl⟩ ⟨Nat.zero_le _, Nat.zero_le _⟩ rfl rfl [0, 1, 2, 3, 4, 5] [6, 7] [2, 3, 4, 5, 6, 7, 0, 1] rfl rfl rfl rfl (by decide) rfl rfl (Nat.le_of_ble_eq_true rfl) rfl rfl dX4_read_35 (fun H locs hW => ?_)
        refine lv_if_ne (tgt := 43) hx hb dX4_read_38 (by decide) (fun hc => ?_) (fun hc => ?_)
        · replace ho26 := if_f hc ho26
          refine lv_iinc (v := (i11 + 1)) (lv' := [(3, .int (i11 + 1)), (2, .int v9), (0, .ref q), (1, .ref r0)]) hx hb dX4_read_43 hl (k := 0) rfl rfl (by decide) rfl (fun ls hl => ?_)
          refine lv_goto (tgt := 24) hx hb dX4_read_46 (by decide) ?_
          obtain rfl := Option.some.inj ho26
          exact ih31 _ _ _ _ _ _ _ _ hx27 _ _ _ hW (lv_sub hl [0, 1, 2, 3] rfl)
        · replace ho26 := if_t hc ho26
          refine lv_iload_n hx hb dX4_read_41 rfl (lv_at hl 0 rfl) ?_
          obtain rfl := Option.some.inj ho26
          obtain rfl := lpK_r hx27
          replace hf := el_l hf
          replace hf := un8_s hf
          obtain ⟨rfl, rfl, rfl, rfl, rfl, rfl, rfl, rfl⟩ := sm8 hf
          exact k_iret C hlocks hr hW hQ dX4_read_42
  exact L29 lpF _ _ _ _ _ _ _ _ hx270 _ _ _ hW (lv_sub hl [0, 1, 2, 3] rfl)

set_option maxHeartbeats 4000000 in
set_option maxRecDepth 100000 in
theorem kX5_limit (l : Launch) (D : va_G) (cI cZ cJ : ClassId) (sz : Nat) (p0 : Int32) (r : Int64) (hf : pX5_limit p0 = some r) : kMet l D cI cZ cJ yX5_limit wsX5_limit 0 0 [.int p0] [] sz (some (.long r)) [] := by
  refine kM_of (cc := cX5_limit) (maxL := 4) (ret := (some .long)) (by decide) rfl (Nat.le_of_ble_eq_true rfl) ?_
  intro p e s m args below meth c A Q ls hQ C hlocks hr hE hW hl
  have hx := C.1
  have hb := C.2.1
  have hts := C.2.2.2.2
  have hl : lv_has ls 4 [(0, .int p0)] := hl
  unfold pX5_limit at hf
  refine lv_lconst (v := 1) hx hb dX5_limit_0 (by decide) ?_
  refine lv_lstore_n (lv' := [(1, .long 1), (0, .int p0)]) hx hb dX5_limit_1 rfl hl (by decide) rfl (fun ls hl => ?_)
  refine lv_iconst (v := 0) hx hb dX5_limit_2 (by decide) ?_
  refine lv_istore_n (lv' := [(3, .int 0), (1, .long 1), (0, .int p0)]) hx hb dX5_limit_3 rfl hl (by decide) rfl (fun ls hl => ?_)
  obtain ⟨x3, hx50, hf⟩ := bd1_s hf
  have J6 : ∀ (H : Heap) (locs : List Loc) (ls : Array Slot), kH D A s H locs [] → lv_has ls 4 [(1, .long x3)] → W p l e (kRm 0 0 0 0) s m args below meth c H locs 0 0 Q (F0 m 21 ls []) := by
    intro H locs ls hW hl
    refine lv_lload_n hx hb dX5_limit_21 rfl (lv_at hl 0 rfl) ?_
    obtain rfl := Option.some.inj hf
    exact k_lret C hlocks hr hW hQ dX5_limit_22
  have L7 : ∀ (n : Nat) (i1 : Int32) (i2 : Int64), lpI n (un2 (pX5_limit_L4 p0)) (i1, i2) = some x3 → ∀ (H : Heap) (locs : List Loc) (ls : Array Slot), kH D A s H locs [] → lv_has ls 4 [(3, .int i1), (1, .long i2), (0, .int p0)] → W p l e (kRm 0 0 0 0) s m args below meth c H locs 0 0 Q (F0 m 4 ls []) := by
    intro n
    induction n with
    | zero => intro i1 i2 hx5; exact (lpI_0 hx5).elim
    | succ n ih9 =>
      intro i1 i2 hx5 H locs ls hW hl
      obtain ⟨ooho4, ho4, hx5⟩ := lpI_s hx5
      replace ho4 := un2_s ho4
      unfold pX5_limit_L4 at ho4
      refine lv_iload_n hx hb dX5_limit_4 rfl (lv_at hl 0 rfl) ?_
      refine lv_iload_n hx hb dX5_limit_5 rfl (lv_at hl 2 rfl) ?_
      refine lv_icmp_ge (tgt := 21) hx hb dX5_limit_6 (by decide) (fun hc => ?_) (fun hc => ?_)
      · replace ho4 := if_t hc ho4
        obtain rfl := Option.some.inj ho4
        obtain rfl := lpK_r hx5
        exact J6 _ _ _ hW (lv_sub hl [1] rfl)
      · replace ho4 := if_f hc ho4
        refine lv_lload_n hx hb dX5_limit_9 rfl (lv_at hl 1 rfl) ?_
        refine lv_ldc2 (v := 100000) hx hb C.2.2.2.1 (hts (.constantLong RX5 9 (100000)) (by decide +kernel)) dX5_limit_10 ?_
        refine lv_lmul hx hb dX5_limit_13 ?_
        refine lv_lstore_n (lv' := [(1, .long (i2 * 100000)), (3, .int i1), (0, .int p0)]) hx hb dX5_limit_14 rfl hl (by decide) rfl (fun ls hl => ?_)
        refine lv_iinc (v := (i1 + 1)) (lv' := [(3, .int (i1 + 1)), (1, .long (i2 * 100000)), (0, .int p0)]) hx hb dX5_limit_15 hl (k := 1) rfl rfl (by decide) rfl (fun ls hl => ?_)
        refine lv_goto (tgt := 4) hx hb dX5_limit_18 (by decide) ?_
        obtain rfl := Option.some.inj ho4
        exact ih9 _ _ hx5 _ _ _ hW (lv_sub hl [0, 1, 2] rfl)
  exact L7 lpF _ _ hx50 _ _ _ hW (lv_sub hl [0, 1, 2] rfl)

set_option maxHeartbeats 4000000 in
set_option maxRecDepth 100000 in
theorem kX5_group (l : Launch) (D : va_G) (cI cZ cJ : ClassId) (sz : Nat) (p0 : Int64) (p1 : Int32) (r : Int32) (hf : pX5_group p0 p1 = some r) : kMet l D cI cZ cJ yX5_group wsX5_group 0 0 [.long p0, .int p1] [] sz (some (.int r)) [] := by
  refine kM_of (cc := cX5_group) (maxL := 6) (ret := (some .int)) (by decide) rfl (Nat.le_of_ble_eq_true rfl) ?_
  intro p e s m args below meth c A Q ls hQ C hlocks hr hE hW hl
  have hx := C.1
  have hb := C.2.1
  have hts := C.2.2.2.2
  have hl : lv_has ls 6 [(0, .long p0), (2, .int p1)] := hl
  unfold pX5_group at hf
  refine lv_lload_n hx hb dX5_group_0 rfl (lv_at hl 0 rfl) ?_
  refine lv_lstore_n (lv' := [(3, .long p0), (0, .long p0), (2, .int p1)]) hx hb dX5_group_1 rfl hl (by decide) rfl (fun ls hl => ?_)
  refine lv_iconst (v := 0) hx hb dX5_group_2 (by decide) ?_
  refine lv_istore (lv' := [(5, .int 0), (3, .long p0), (0, .long p0), (2, .int p1)]) hx hb dX5_group_3 hl (by decide) rfl (fun ls hl => ?_)
  obtain ⟨x3, hx50, hf⟩ := bd1_s hf
  have J6 : ∀ (H : Heap) (locs : List Loc) (ls : Array Slot), kH D A s H locs [] → lv_has ls 6 [(3, .long x3)] → W p l e (kRm 0 0 0 0) s m args below meth c H locs 0 0 Q (F0 m 23 ls []) := by
    intro H locs ls hW hl
    refine lv_lload_n hx hb dX5_group_23 rfl (lv_at hl 0 rfl) ?_
    refine lv_ldc2 (v := 100000) hx hb C.2.2.2.1 (hts (.constantLong RX5 9 (100000)) (by decide +kernel)) dX5_group_24 ?_
    refine lv_lrem hx hb dX5_group_27 (by decide) ?_
    refine lv_l2i hx hb dX5_group_28 rfl ?_
    obtain rfl := Option.some.inj hf
    exact k_iret C hlocks hr hW hQ dX5_group_29
  have L7 : ∀ (n : Nat) (i1 : Int32) (i2 : Int64), lpI n (un2 (pX5_group_L5 p1)) (i1, i2) = some x3 → ∀ (H : Heap) (locs : List Loc) (ls : Array Slot), kH D A s H locs [] → lv_has ls 6 [(5, .int i1), (3, .long i2), (2, .int p1)] → W p l e (kRm 0 0 0 0) s m args below meth c H locs 0 0 Q (F0 m 5 ls []) := by
    intro n
    induction n with
    | zero => intro i1 i2 hx5; exact (lpI_0 hx5).elim
    | succ n ih9 =>
      intro i1 i2 hx5 H locs ls hW hl
      obtain ⟨ooho4, ho4, hx5⟩ := lpI_s hx5
      replace ho4 := un2_s ho4
      unfold pX5_group_L5 at ho4
      refine lv_iload hx hb dX5_group_5 (lv_at hl 0 rfl) ?_
      refine lv_iload_n hx hb dX5_group_7 rfl (lv_at hl 2 rfl) ?_
      refine lv_icmp_ge (tgt := 23) hx hb dX5_group_8 (by decide) (fun hc => ?_) (fun hc => ?_)
      · replace ho4 := if_t hc ho4
        obtain rfl := Option.some.inj ho4
        obtain rfl := lpK_r hx5
        exact J6 _ _ _ hW (lv_sub hl [1] rfl)
      · replace ho4 := if_f hc ho4
        refine lv_lload_n hx hb dX5_group_11 rfl (lv_at hl 1 rfl) ?_
        refine lv_ldc2 (v := 100000) hx hb C.2.2.2.1 (hts (.constantLong RX5 9 (100000)) (by decide +kernel)) dX5_group_12 ?_
        refine lv_ldiv hx hb dX5_group_15 (by decide) ?_
        refine lv_lstore_n (lv' := [(3, .long (i2 / 100000)), (5, .int i1), (2, .int p1)]) hx hb dX5_group_16 rfl hl (by decide) rfl (fun ls hl => ?_)
        refine lv_iinc (v := (i1 + 1)) (lv' := [(5, .int (i1 + 1)), (3, .long (i2 / 100000)), (2, .int p1)]) hx hb dX5_group_17 hl (k := 1) rfl rfl (by decide) rfl (fun ls hl => ?_)
        refine lv_goto (tgt := 5) hx hb dX5_group_20 (by decide) ?_
        obtain rfl := Option.some.inj ho4
        exact ih9 _ _ hx5 _ _ _ hW (lv_sub hl [0, 1, 2] rfl)
  exact L7 lpF _ _ hx50 _ _ _ hW (lv_sub hl [0, 1, 3] rfl)

set_option maxHeartbeats 4000000 in
set_option maxRecDepth 100000 in
theorem kX7_greatest (l : Launch) (D : va_G) (cI cZ cJ : ClassId) (sz : Nat) (q q_numbers : Nat) (u_numbers : Nat → Int32) (r : Int32) (hf : pX7_greatest u_numbers = some r) : kMet l D cI cZ cJ yX7_greatest wsX7_greatest 1 21 [.ref q] [(q, .inr (6, [.ref q_numbers])), (q_numbers, .inl (cI, 36, .inl u_numbers))] sz (some (.int r)) [(q, .inr (6, [.ref q_numbers])), (q_numbers, .inl (cI, 36, .inl u_numbers))] := by
  refine kM_of (cc := cX7_greatest) (maxL := 3) (ret := (some .int)) (by decide) rfl (Nat.le_of_ble_eq_true rfl) ?_
  intro p e s m args below meth c A Q ls hQ C hlocks hr hE hW hl
  have hx := C.1
  have hb := C.2.1
  have hts := C.2.2.2.2
  have hl : lv_has ls 3 [(0, .ref q)] := hl
  have iX7 : ∀ w ∈ u_ws RX7 TX7 1, w ∈ wsX7_greatest := by decide +kernel
  have f9 := hts (.fieldLink RX7 9 "SortedTables$Table" "numbers" "[I") (by decide +kernel)
  unfold pX7_greatest at hf
  refine lv_bipush (v := (-9)) hx hb dX7_greatest_0 (by decide) ?_
  refine lv_istore_n (lv' := [(1, .int (-9)), (0, .ref q)]) hx hb dX7_greatest_2 rfl hl (by decide) rfl (fun ls hl => ?_)
  refine lv_iconst (v := 0) hx hb dX7_greatest_3 (by decide) ?_
  refine lv_istore_n (lv' := [(2, .int 0), (1, .int (-9)), (0, .ref q)]) hx hb dX7_greatest_4 rfl hl (by decide) rfl (fun ls hl => ?_)
  obtain ⟨x3, hx50, hf⟩ := bd1_s hf
  have J6 : ∀ (H : Heap) (locs : List Loc) (ls : Array Slot), kH D A s H locs [(q, .inr (6, [.ref q_numbers])), (q_numbers, .inl (cI, 36, .inl u_numbers))] → lv_has ls 3 [(1, .int x3)] → W p l e (kRm 1 21 0 0) s m args below meth c H locs 0 0 Q (F0 m 38 ls []) := by
    intro H locs ls hW hl
    refine lv_iload_n hx hb dX7_greatest_38 rfl (lv_at hl 0 rfl) ?_
    obtain rfl := Option.some.inj hf
    exact k_iret C hlocks hr hW hQ dX7_greatest_39
  have L7 : ∀ (n : Nat) (i1 : Int32) (i2 : Int32), lpI n (un2 (pX7_greatest_L5 u_numbers)) (i1, i2) = some x3 → ∀ (H : Heap) (locs : List Loc) (ls : Array Slot), kH D A s H locs [(q, .inr (6, [.ref q_numbers])), (q_numbers, .inl (cI, 36, .inl u_numbers))] → lv_has ls 3 [(2, .int i1), (1, .int i2), (0, .ref q)] → W p l e (kRm 1 21 0 0) s m args below meth c H locs 0 0 Q (F0 m 5 ls []) := by
    intro n
    induction n with
    | zero => intro i1 i2 hx5; exact (lpI_0 hx5).elim
    | succ n ih9 =>
      intro i1 i2 hx5 H locs ls hW hl
      obtain ⟨ooho4, ho4, hx5⟩ := lpI_s hx5
      replace ho4 := un2_s ho4
      unfold pX7_greatest_L5 at ho4
      refine lv_iload_n hx hb dX7_greatest_5 rfl (lv_at hl 0 rfl) ?_
      refine lv_bipush (v := 36) hx hb dX7_greatest_6 (by decide) ?_
      refine lv_icmp_ge (tgt := 38) hx hb dX7_greatest_8 (by decide) (fun hc => ?_) (fun hc => ?_)
      · replace ho4 := if_t hc ho4
        obtain rfl := Option.some.inj ho4
        obtain rfl := lpK_r hx5
        exact J6 _ _ _ hW (lv_sub hl [1] rfl)
      · replace ho4 := if_f hc ho4
        refine lv_aload_n hx hb dX7_greatest_11 rfl (lv_at hl 2 rfl) ?_
        refine k_get C hE hW iX7 0 rfl rfl 0 (by decide) f9 (fun _ h9 => h9) rfl dX7_greatest_12 ?_
        refine lv_iload_n hx hb dX7_greatest_15 rfl (lv_at hl 0 rfl) ?_
        obtain ⟨v10, h11, ho4⟩ := bd1_s ho4
        refine k_iald C hE hW 1 rfl h11 dX7_greatest_16 ?_
        refine lv_iconst (v := (-1)) hx hb dX7_greatest_17 (by decide) ?_
        refine lv_icmp_eq (tgt := 32) hx hb dX7_greatest_18 (by decide) (fun hc => ?_) (fun hc => ?_)
        · replace ho4 := if_t hc ho4
          refine lv_iinc (v := (i1 + 1)) (lv' := [(2, .int (i1 + 1)), (1, .int i2), (0, .ref q)]) hx hb dX7_greatest_32 hl (k := 0) rfl rfl (by decide) rfl (fun ls hl => ?_)
          refine lv_goto (tgt := 5) hx hb dX7_greatest_35 (by decide) ?_
          obtain rfl := Option.some.inj ho4
          exact ih9 _ _ hx5 _ _ _ hW (lv_sub hl [0, 1, 2] rfl)
        · replace ho4 := if_f hc ho4
          refine lv_iload_n hx hb dX7_greatest_21 rfl (lv_at hl 1 rfl) ?_
          refine lv_aload_n hx hb dX7_greatest_22 rfl (lv_at hl 2 rfl) ?_
          refine k_get C hE hW iX7 0 rfl rfl 0 (by decide) f9 (fun _ h9 => h9) rfl dX7_greatest_23 ?_
          refine lv_iload_n hx hb dX7_greatest_26 rfl (lv_at hl 0 rfl) ?_
          obtain ⟨v12, h13, ho4⟩ := bd1_s ho4
          refine k_iald C hE hW 1 rfl h13 dX7_greatest_27 ?_
          refine k_mmax C hl.1 (by decide +kernel) (by decide +kernel) (by decide +kernel) (by decide +kernel) (Nat.le_of_ble_eq_true rfl) (Nat.le_of_ble_eq_true rfl) (Nat.zero_le _) (Nat.zero_le _) dX7_greatest_28 ?_
          refine lv_istore_n (lv' := [(1, .int (if i2 < v12 then v12 else i2)), (2, .int i1), (0, .ref q)]) hx hb dX7_greatest_31 rfl hl (by decide) rfl (fun ls hl => ?_)
          refine lv_iinc (v := (i1 + 1)) (lv' := [(2, .int (i1 + 1)), (1, .int (if i2 < v12 then v12 else i2)), (0, .ref q)]) hx hb dX7_greatest_32 hl (k := 1) rfl rfl (by decide) rfl (fun ls hl => ?_)
          refine lv_goto (tgt := 5) hx hb dX7_greatest_35 (by decide) ?_
          obtain rfl := Option.some.inj ho4
          exact ih9 _ _ hx5 _ _ _ hW (lv_sub hl [0, 1, 2] rfl)
  exact L7 lpF _ _ hx50 _ _ _ hW (lv_sub hl [0, 1, 2] rfl)

set_option maxHeartbeats 4000000 in
set_option maxRecDepth 100000 in
theorem kX5_succeedsWith (l : Launch) (D : va_G) (cI cZ cJ : ClassId) (sz : Nat) (r0 r0_numbers : Nat) (u0_numbers : Nat → Int32) (p1 : Int32) (p2 : Int32) (r : Int32) (u0_numbers' : Nat → Int32) (hf : pX5_succeedsWith u0_numbers p1 p2 = some (r, u0_numbers')) : kMet l D cI cZ cJ yX5_succeedsWith wsX5_succeedsWith 3 73 [.ref r0, .int p1, .int p2] [(r0, .inr (6, [.ref r0_numbers])), (r0_numbers, .inl (cI, 36, .inl u0_numbers))] sz (some (.int r)) [(r0, .inr (6, [.ref r0_numbers])), (r0_numbers, .inl (cI, 36, .inl u0_numbers'))] := by
  refine kM_of (cc := cX5_succeedsWith) (maxL := 3) (ret := (some .boolean)) (by decide) rfl (Nat.le_of_ble_eq_true rfl) ?_
  intro p e s m args below meth c A Q ls hQ C hlocks hr hE hW hl
  have hx := C.1
  have hb := C.2.1
  have hts := C.2.2.2.2
  have hl : lv_has ls 3 [(0, .ref r0), (1, .int p1), (2, .int p2)] := hl
  unfold pX5_succeedsWith at hf
  refine lv_iload_n hx hb dX5_succeedsWith_0 rfl (lv_at hl 1 rfl) ?_
  by_cases hs1 : p1 = 1
  · replace hf := if_t hs1 hf
    refine lv_tableIn (off := 43) (tgt := 44) hx hb dX5_succeedsWith_1 (by rw [hs1]; decide) (by rw [hs1]; decide) (by rw [hs1]; decide +kernel) (by decide) ?_
    refine lv_aload_n hx hb dX5_succeedsWith_44 rfl (lv_at hl 0 rfl) ?_
    refine lv_iload_n hx hb dX5_succeedsWith_45 rfl (lv_at hl 2 rfl) ?_
    obtain ⟨⟨v1, w2⟩, h3, hf⟩ := bd1_s hf
    replace hf := un2_s hf
    refine k_callV (b := r0) (ci := 6) (qb := 0) (As := [.int p2]) (n := 1) (rest := []) (st1 := [.int v1]) (wr := []) (ws' := [(r0, .inr (6, [.ref r0_numbers])), (r0_numbers, .inl (cI, 36, .inl w2))]) C hE hW hl.1 (kX7_takeIn l D cI cZ cJ _ r0 r0_numbers u0_numbers p2 v1 w2 h3) gX5_succeedsWith_X7_takeIn rfl (by decide +kernel) rfl ⟨Nat.le_of_ble_eq_true rfl, Nat.le_of_ble_eq_true rfl⟩ ⟨Nat.zero_le _, Nat.zero_le _⟩ rfl rfl [0, 1] [] [0, 1] rfl rfl rfl rfl (by decide) rfl rfl (Nat.le_of_ble_eq_true rfl) rfl rfl dX5_succeedsWith_46 (fun H locs hW => ?_)
    refine lv_bipush (v := (-9)) hx hb dX5_succeedsWith_49 (by decide) ?_
    refine lv_icmp_eq (tgt := 58) hx hb dX5_succeedsWith_51 (by decide) (fun hc => ?_) (fun hc => ?_)
    · replace hf := if_t hc hf
      refine lv_iconst (v := 0) hx hb dX5_succeedsWith_58 (by decide) ?_
      obtain ⟨rfl, rfl⟩ := sm2 hf
      exact k_zret C hlocks hr hW (by decide) hQ dX5_succeedsWith_59
    · replace hf := if_f hc hf
      refine lv_iconst (v := 1) hx hb dX5_succeedsWith_54 (by decide) ?_
      refine lv_goto (tgt := 59) hx hb dX5_succeedsWith_55 (by decide) ?_
      obtain ⟨rfl, rfl⟩ := sm2 hf
      exact k_zret C hlocks hr hW (by decide) hQ dX5_succeedsWith_59
  · replace hf := if_f hs1 hf
    by_cases hs2 : p1 = 2
    · replace hf := if_t hs2 hf
      refine lv_tableIn (off := 117) (tgt := 118) hx hb dX5_succeedsWith_1 (by rw [hs2]; decide) (by rw [hs2]; decide) (by rw [hs2]; decide +kernel) (by decide) ?_
      refine lv_iconst (v := 0) hx hb dX5_succeedsWith_118 (by decide) ?_
      obtain ⟨rfl, rfl⟩ := sm2 hf
      exact k_zret C hlocks hr hW (by decide) hQ dX5_succeedsWith_119
    · replace hf := if_f hs2 hf
      by_cases hs3 : p1 = 3
      · replace hf := if_t hs3 hf
        refine lv_tableIn (off := 117) (tgt := 118) hx hb dX5_succeedsWith_1 (by rw [hs3]; decide) (by rw [hs3]; decide) (by rw [hs3]; decide +kernel) (by decide) ?_
        refine lv_iconst (v := 0) hx hb dX5_succeedsWith_118 (by decide) ?_
        obtain ⟨rfl, rfl⟩ := sm2 hf
        exact k_zret C hlocks hr hW (by decide) hQ dX5_succeedsWith_119
      · replace hf := if_f hs3 hf
        by_cases hs4 : p1 = 4
        · replace hf := if_t hs4 hf
          refine lv_tableIn (off := 117) (tgt := 118) hx hb dX5_succeedsWith_1 (by rw [hs4]; decide) (by rw [hs4]; decide) (by rw [hs4]; decide +kernel) (by decide) ?_
          refine lv_iconst (v := 0) hx hb dX5_succeedsWith_118 (by decide) ?_
          obtain ⟨rfl, rfl⟩ := sm2 hf
          exact k_zret C hlocks hr hW (by decide) hQ dX5_succeedsWith_119
        · replace hf := if_f hs4 hf
          by_cases hs5 : p1 = 5
          · replace hf := if_t hs5 hf
            refine lv_tableIn (off := 59) (tgt := 60) hx hb dX5_succeedsWith_1 (by rw [hs5]; decide) (by rw [hs5]; decide) (by rw [hs5]; decide +kernel) (by decide) ?_
            refine lv_aload_n hx hb dX5_succeedsWith_60 rfl (lv_at hl 0 rfl) ?_
            obtain ⟨v4, h5, hf⟩ := bd1_s hf
            refine k_callVR (b := r0) (ci := 6) (qb := 0) (As := []) (n := 0) (rest := []) (st1 := [.int v4]) C hE hW hl.1 (kX7_cells l D cI cZ cJ _ r0 r0_numbers u0_numbers v4 h5) gX5_succeedsWith_X7_cells rfl (by decide +kernel) rfl ⟨Nat.le_of_ble_eq_true rfl, Nat.le_of_ble_eq_true rfl⟩ ⟨Nat.zero_le _, Nat.zero_le _⟩ rfl rfl [0, 1] rfl rfl (Nat.le_of_ble_eq_true rfl) rfl rfl dX5_succeedsWith_61 (fun H locs hW => ?_)
            refine lv_iload_n hx hb dX5_succeedsWith_64 rfl (lv_at hl 2 rfl) ?_
            refine lv_icmp_ne (tgt := 72) hx hb dX5_succeedsWith_65 (by decide) (fun hc => ?_) (fun hc => ?_)
            · replace hf := if_f hc hf
              refine lv_iconst (v := 0) hx hb dX5_succeedsWith_72 (by decide) ?_
              obtain ⟨rfl, rfl⟩ := sm2 hf
              exact k_zret C hlocks hr hW (by decide) hQ dX5_succeedsWith_73
            · replace hf := if_t hc hf
              refine lv_iconst (v := 1) hx hb dX5_succeedsWith_68 (by decide) ?_
              refine lv_goto (tgt := 73) hx hb dX5_succeedsWith_69 (by decide) ?_
              obtain ⟨rfl, rfl⟩ := sm2 hf
              exact k_zret C hlocks hr hW (by decide) hQ dX5_succeedsWith_73
          · replace hf := if_f hs5 hf
            by_cases hs6 : p1 = 6
            · replace hf := if_t hs6 hf
              refine lv_tableIn (off := 73) (tgt := 74) hx hb dX5_succeedsWith_1 (by rw [hs6]; decide) (by rw [hs6]; decide) (by rw [hs6]; decide +kernel) (by decide) ?_
              refine lv_aload_n hx hb dX5_succeedsWith_74 rfl (lv_at hl 0 rfl) ?_
              refine lv_iload_n hx hb dX5_succeedsWith_75 rfl (lv_at hl 2 rfl) ?_
              obtain ⟨v6, h7, hf⟩ := bd1_s hf
              refine k_callVR (b := r0) (ci := 6) (qb := 0) (As := [.int p2]) (n := 1) (rest := []) (st1 := [.int v6]) C hE hW hl.1 (kX7_cellsUpTo l D cI cZ cJ _ r0 r0_numbers u0_numbers p2 v6 h7) gX5_succeedsWith_X7_cellsUpTo rfl (by decide +kernel) rfl ⟨Nat.le_of_ble_eq_true rfl, Nat.le_of_ble_eq_true rfl⟩ ⟨Nat.zero_le _, Nat.zero_le _⟩ rfl rfl [0, 1] rfl rfl (Nat.le_of_ble_eq_true rfl) rfl rfl dX5_succeedsWith_76 (fun H locs hW => ?_)
              refine lv_aload_n hx hb dX5_succeedsWith_79 rfl (lv_at hl 0 rfl) ?_
              refine lv_iload_n hx hb dX5_succeedsWith_80 rfl (lv_at hl 2 rfl) ?_
              refine lv_iconst (v := 1) hx hb dX5_succeedsWith_81 (by decide) ?_
              refine lv_isub hx hb dX5_succeedsWith_82 ?_
              obtain ⟨v8, h9, hf⟩ := bd1_s hf
              refine k_callVR (b := r0) (ci := 6) (qb := 0) (As := [.int (p2 - 1)]) (n := 1) (rest := [.int v6]) (st1 := [.int v8, .int v6]) C hE hW hl.1 (kX7_cellsUpTo l D cI cZ cJ _ r0 r0_numbers u0_numbers (p2 - 1) v8 h9) gX5_succeedsWith_X7_cellsUpTo rfl (by decide +kernel) rfl ⟨Nat.le_of_ble_eq_true rfl, Nat.le_of_ble_eq_true rfl⟩ ⟨Nat.zero_le _, Nat.zero_le _⟩ rfl rfl [0, 1] rfl rfl (Nat.le_of_ble_eq_true rfl) rfl rfl dX5_succeedsWith_83 (fun H locs hW => ?_)
              refine lv_icmp_le (tgt := 93) hx hb dX5_succeedsWith_86 (by decide) (fun hc => ?_) (fun hc => ?_)
              · replace hf := if_t hc hf
                refine lv_iconst (v := 0) hx hb dX5_succeedsWith_93 (by decide) ?_
                obtain ⟨rfl, rfl⟩ := sm2 hf
                exact k_zret C hlocks hr hW (by decide) hQ dX5_succeedsWith_94
              · replace hf := if_f hc hf
                refine lv_iconst (v := 1) hx hb dX5_succeedsWith_89 (by decide) ?_
                refine lv_goto (tgt := 94) hx hb dX5_succeedsWith_90 (by decide) ?_
                obtain ⟨rfl, rfl⟩ := sm2 hf
                exact k_zret C hlocks hr hW (by decide) hQ dX5_succeedsWith_94
            · replace hf := if_f hs6 hf
              by_cases hs7 : p1 = 7
              · replace hf := if_t hs7 hf
                refine lv_tableIn (off := 94) (tgt := 95) hx hb dX5_succeedsWith_1 (by rw [hs7]; decide) (by rw [hs7]; decide) (by rw [hs7]; decide +kernel) (by decide) ?_
                refine lv_aload_n hx hb dX5_succeedsWith_95 rfl (lv_at hl 0 rfl) ?_
                refine lv_iconst (v := 0) hx hb dX5_succeedsWith_96 (by decide) ?_
                refine lv_iconst (v := 0) hx hb dX5_succeedsWith_97 (by decide) ?_
                obtain ⟨v10, h11, hf⟩ := bd1_s hf
                refine k_callVR (b := r0) (ci := 6) (qb := 0) (As := [.int 0, .int 0]) (n := 2) (rest := []) (st1 := [.int v10]) C hE hW hl.1 (kX7_has l D cI cZ cJ _ r0 r0_numbers u0_numbers 0 0 v10 h11) gX5_succeedsWith_X7_has rfl (by decide +kernel) rfl ⟨Nat.le_of_ble_eq_true rfl, Nat.le_of_ble_eq_true rfl⟩ ⟨Nat.zero_le _, Nat.zero_le _⟩ rfl rfl [0, 1] rfl rfl (Nat.le_of_ble_eq_true rfl) rfl rfl dX5_succeedsWith_98 (fun H locs hW => ?_)
                refine lv_if_eq (tgt := 116) hx hb dX5_succeedsWith_101 (by decide) (fun hc => ?_) (fun hc => ?_)
                · replace hf := if_t hc hf
                  refine lv_iconst (v := 0) hx hb dX5_succeedsWith_116 (by decide) ?_
                  obtain ⟨rfl, rfl⟩ := sm2 hf
                  exact k_zret C hlocks hr hW (by decide) hQ dX5_succeedsWith_117
                · replace hf := if_f hc hf
                  refine lv_aload_n hx hb dX5_succeedsWith_104 rfl (lv_at hl 0 rfl) ?_
                  obtain ⟨v12, h13, hf⟩ := bd1_s hf
                  refine k_callVR (b := r0) (ci := 6) (qb := 0) (As := []) (n := 0) (rest := []) (st1 := [.int v12]) C hE hW hl.1 (kX7_greatest l D cI cZ cJ _ r0 r0_numbers u0_numbers v12 h13) gX5_succeedsWith_X7_greatest rfl (by decide +kernel) rfl ⟨Nat.le_of_ble_eq_true rfl, Nat.le_of_ble_eq_true rfl⟩ ⟨Nat.zero_le _, Nat.zero_le _⟩ rfl rfl [0, 1] rfl rfl (Nat.le_of_ble_eq_true rfl) rfl rfl dX5_succeedsWith_105 (fun H locs hW => ?_)
                  refine lv_iload_n hx hb dX5_succeedsWith_108 rfl (lv_at hl 2 rfl) ?_
                  refine lv_icmp_gt (tgt := 116) hx hb dX5_succeedsWith_109 (by decide) (fun hc => ?_) (fun hc => ?_)
                  · replace hf := if_t hc hf
                    refine lv_iconst (v := 0) hx hb dX5_succeedsWith_116 (by decide) ?_
                    obtain ⟨rfl, rfl⟩ := sm2 hf
                    exact k_zret C hlocks hr hW (by decide) hQ dX5_succeedsWith_117
                  · replace hf := if_f hc hf
                    refine lv_iconst (v := 1) hx hb dX5_succeedsWith_112 (by decide) ?_
                    refine lv_goto (tgt := 117) hx hb dX5_succeedsWith_113 (by decide) ?_
                    obtain ⟨rfl, rfl⟩ := sm2 hf
                    exact k_zret C hlocks hr hW (by decide) hQ dX5_succeedsWith_117
              · replace hf := if_f hs7 hf
                refine lv_tableOut (tgt := 118) hx hb dX5_succeedsWith_1 (kt_out7_1 hs1 hs2 hs3 hs4 hs5 hs6 hs7) (by decide) ?_
                refine lv_iconst (v := 0) hx hb dX5_succeedsWith_118 (by decide) ?_
                obtain ⟨rfl, rfl⟩ := sm2 hf
                exact k_zret C hlocks hr hW (by decide) hQ dX5_succeedsWith_119

set_option maxHeartbeats 4000000 in
set_option maxRecDepth 100000 in
theorem kX7_isFull (l : Launch) (D : va_G) (cI cZ cJ : ClassId) (sz : Nat) (q q_numbers : Nat) (u_numbers : Nat → Int32) (r : Int32) (hf : pX7_isFull u_numbers = some r) : kMet l D cI cZ cJ yX7_isFull wsX7_isFull 2 44 [.ref q] [(q, .inr (6, [.ref q_numbers])), (q_numbers, .inl (cI, 36, .inl u_numbers))] sz (some (.int r)) [(q, .inr (6, [.ref q_numbers])), (q_numbers, .inl (cI, 36, .inl u_numbers))] := by
  refine kM_of (cc := cX7_isFull) (maxL := 1) (ret := (some .boolean)) (by decide) rfl (Nat.le_of_ble_eq_true rfl) ?_
  intro p e s m args below meth c A Q ls hQ C hlocks hr hE hW hl
  have hx := C.1
  have hb := C.2.1
  have hts := C.2.2.2.2
  have hl : lv_has ls 1 [(0, .ref q)] := hl
  unfold pX7_isFull at hf
  refine lv_aload_n hx hb dX7_isFull_0 rfl (lv_at hl 0 rfl) ?_
  refine lv_iconst (v := 5) hx hb dX7_isFull_1 (by decide) ?_
  refine lv_iconst (v := 5) hx hb dX7_isFull_2 (by decide) ?_
  obtain ⟨v1, h2, hf⟩ := bd1_s hf
  refine k_callVR (b := q) (ci := 6) (qb := 0) (As := [.int 5, .int 5]) (n := 2) (rest := []) (st1 := [.int v1]) C hE hW hl.1 (kX7_has l D cI cZ cJ _ q q_numbers u_numbers 5 5 v1 h2) gX7_isFull_X7_has rfl (by decide +kernel) rfl ⟨Nat.le_of_ble_eq_true rfl, Nat.le_of_ble_eq_true rfl⟩ ⟨Nat.zero_le _, Nat.zero_le _⟩ rfl rfl [0, 1] rfl rfl (Nat.le_of_ble_eq_true rfl) rfl rfl dX7_isFull_3 (fun H locs hW => ?_)
  obtain ⟨v3, h4, hf⟩ := bd1_s hf
  obtain ⟨hn5, rfl⟩ := zb_s h4
  obtain rfl := Option.some.inj hf
  exact k_zret C hlocks hr hW hn5 hQ dX7_isFull_6

set_option maxHeartbeats 4000000 in
set_option maxRecDepth 100000 in
theorem kX5_takesCell (l : Launch) (D : va_G) (cI cZ cJ : ClassId) (sz : Nat) (r0 r0_first r0_first_numbers r0_second r0_second_numbers : Nat) (u0_first_numbers : Nat → Int32) (u0_second_numbers : Nat → Int32) (p1 : Int32) (p2 : Int32) (p3 : Int32) (r : Int32) (u0_first_numbers' : Nat → Int32) (u0_second_numbers' : Nat → Int32) (hf : pX5_takesCell u0_first_numbers u0_second_numbers p1 p2 p3 = some (r, u0_first_numbers', u0_second_numbers')) : kMet l D cI cZ cJ yX5_takesCell wsX5_takesCell 4 99 [.ref r0, .int p1, .int p2, .int p3] [(r0, .inr (2, [.ref r0_first, .ref r0_second])), (r0_first, .inr (6, [.ref r0_first_numbers])), (r0_first_numbers, .inl (cI, 36, .inl u0_first_numbers)), (r0_second, .inr (6, [.ref r0_second_numbers])), (r0_second_numbers, .inl (cI, 36, .inl u0_second_numbers))] sz (some (.int r)) [(r0, .inr (2, [.ref r0_first, .ref r0_second])), (r0_first, .inr (6, [.ref r0_first_numbers])), (r0_first_numbers, .inl (cI, 36, .inl u0_first_numbers')), (r0_second, .inr (6, [.ref r0_second_numbers])), (r0_second_numbers, .inl (cI, 36, .inl u0_second_numbers'))] := by
  refine kM_of (cc := cX5_takesCell) (maxL := 6) (ret := (some .boolean)) (by decide) rfl (Nat.le_of_ble_eq_true rfl) ?_
  intro p e s m args below meth c A Q ls hQ C hlocks hr hE hW hl
  have hx := C.1
  have hb := C.2.1
  have hts := C.2.2.2.2
  have hl : lv_has ls 6 [(0, .ref r0), (1, .int p1), (2, .int p2), (3, .int p3)] := hl
  unfold pX5_takesCell at hf
  refine lv_iload_n hx hb dX5_takesCell_0 rfl (lv_at hl 3 rfl) ?_
  obtain ⟨v1, h2, hf⟩ := bd1_s hf
  refine k_callSN (As := [.int p3]) (n := 1) (rest := []) (st1 := [.int v1]) C hE hW hl.1 (kX9_rowOf l D cI cZ cJ _ p3 v1 h2) gX5_takesCell_X9_rowOf_n35 rfl (by decide +kernel) (by decide +kernel) (by decide +kernel) (by decide +kernel) rfl ⟨Nat.le_of_ble_eq_true rfl, Nat.le_of_ble_eq_true rfl⟩ ⟨Nat.zero_le _, Nat.zero_le _⟩ (Nat.le_of_ble_eq_true rfl) rfl rfl dX5_takesCell_1 (fun H locs hW => ?_)
  refine lv_istore (lv' := [(4, .int v1), (0, .ref r0), (1, .int p1), (2, .int p2), (3, .int p3)]) hx hb dX5_takesCell_4 hl (by decide) rfl (fun ls hl => ?_)
  refine lv_iload_n hx hb dX5_takesCell_6 rfl (lv_at hl 4 rfl) ?_
  obtain ⟨v3, h4, hf⟩ := bd1_s hf
  refine k_callSN (As := [.int p3]) (n := 1) (rest := []) (st1 := [.int v3]) C hE hW hl.1 (kX9_columnOf l D cI cZ cJ _ p3 v3 h4) gX5_takesCell_X9_columnOf_n38 rfl (by decide +kernel) (by decide +kernel) (by decide +kernel) (by decide +kernel) rfl ⟨Nat.le_of_ble_eq_true rfl, Nat.le_of_ble_eq_true rfl⟩ ⟨Nat.zero_le _, Nat.zero_le _⟩ (Nat.le_of_ble_eq_true rfl) rfl rfl dX5_takesCell_7 (fun H locs hW => ?_)
  refine lv_istore (lv' := [(5, .int v3), (4, .int v1), (0, .ref r0), (1, .int p1), (2, .int p2), (3, .int p3)]) hx hb dX5_takesCell_10 hl (by decide) rfl (fun ls hl => ?_)
  refine lv_aload_n hx hb dX5_takesCell_12 rfl (lv_at hl 2 rfl) ?_
  refine lv_iload_n hx hb dX5_takesCell_13 rfl (lv_at hl 4 rfl) ?_
  obtain ⟨b5, h6, hf⟩ := bd1_s hf
  cases b5 with
  | true =>
    replace hf := cd_t hf
    refine k_callVR (b := r0) (ci := 2) (qb := 0) (As := [.int p2]) (n := 1) (rest := []) (st1 := [.ref r0_first]) C hE hW hl.1 (kX2_table l D cI cZ cJ _ r0 r0_first r0_second p2 true h6) gX5_takesCell_X2_table rfl (by decide +kernel) rfl ⟨Nat.le_of_ble_eq_true rfl, Nat.le_of_ble_eq_true rfl⟩ ⟨Nat.zero_le _, Nat.zero_le _⟩ rfl rfl [0] rfl rfl (Nat.le_of_ble_eq_true rfl) rfl rfl dX5_takesCell_14 (fun H locs hW => ?_)
    refine lv_iload hx hb dX5_takesCell_17 (lv_at hl 1 rfl) ?_
    refine lv_iload hx hb dX5_takesCell_19 (lv_at hl 0 rfl) ?_
    obtain ⟨v7, h8, hf⟩ := bd1_s hf
    refine k_callVR (b := r0_first) (ci := 6) (qb := 0) (As := [.int v1, .int v3]) (n := 2) (rest := []) (st1 := [.int v7]) C hE hW hl.1 (kX7_has l D cI cZ cJ _ r0_first r0_first_numbers u0_first_numbers v1 v3 v7 h8) gX5_takesCell_X7_has rfl (by decide +kernel) rfl ⟨Nat.le_of_ble_eq_true rfl, Nat.le_of_ble_eq_true rfl⟩ ⟨Nat.zero_le _, Nat.zero_le _⟩ rfl rfl [1, 2] rfl rfl (Nat.le_of_ble_eq_true rfl) rfl rfl dX5_takesCell_21 (fun H locs hW => ?_)
    refine lv_if_ne (tgt := 29) hx hb dX5_takesCell_24 (by decide) (fun hc => ?_) (fun hc => ?_)
    · replace hf := if_f hc hf
      refine lv_iload_n hx hb dX5_takesCell_29 rfl (lv_at hl 3 rfl) ?_
      refine lv_iconst (v := 2) hx hb dX5_takesCell_30 (by decide) ?_
      refine lv_icmp_ne (tgt := 49) hx hb dX5_takesCell_31 (by decide) (fun hc => ?_) (fun hc => ?_)
      · replace hf := if_f hc hf
        refine lv_aload_n hx hb dX5_takesCell_49 rfl (lv_at hl 2 rfl) ?_
        refine lv_iconst (v := 1) hx hb dX5_takesCell_50 (by decide) ?_
        refine lv_iload_n hx hb dX5_takesCell_51 rfl (lv_at hl 4 rfl) ?_
        refine lv_isub hx hb dX5_takesCell_52 ?_
        obtain ⟨b9, h10, hf⟩ := bd1_s hf
        cases b9 with
        | true =>
          replace hf := cd_t hf
          refine k_callVR (b := r0) (ci := 2) (qb := 0) (As := [.int (1 - p2)]) (n := 1) (rest := []) (st1 := [.ref r0_first]) C hE hW hl.1 (kX2_table l D cI cZ cJ _ r0 r0_first r0_second (1 - p2) true h10) gX5_takesCell_X2_table rfl (by decide +kernel) rfl ⟨Nat.le_of_ble_eq_true rfl, Nat.le_of_ble_eq_true rfl⟩ ⟨Nat.zero_le _, Nat.zero_le _⟩ rfl rfl [0] rfl rfl (Nat.le_of_ble_eq_true rfl) rfl rfl dX5_takesCell_53 (fun H locs hW => ?_)
          obtain ⟨v11, h12, hf⟩ := bd1_s hf
          refine k_callVR (b := r0_first) (ci := 6) (qb := 0) (As := []) (n := 0) (rest := []) (st1 := [.int v11]) C hE hW hl.1 (kX7_isFull l D cI cZ cJ _ r0_first r0_first_numbers u0_first_numbers v11 h12) gX5_takesCell_X7_isFull rfl (by decide +kernel) rfl ⟨Nat.le_of_ble_eq_true rfl, Nat.le_of_ble_eq_true rfl⟩ ⟨Nat.zero_le _, Nat.zero_le _⟩ rfl rfl [1, 2] rfl rfl (Nat.le_of_ble_eq_true rfl) rfl rfl dX5_takesCell_56 (fun H locs hW => ?_)
          refine lv_if_eq (tgt := 64) hx hb dX5_takesCell_59 (by decide) (fun hc => ?_) (fun hc => ?_)
          · replace hf := if_t hc hf
            refine lv_aload_n hx hb dX5_takesCell_64 rfl (lv_at hl 2 rfl) ?_
            refine lv_iload_n hx hb dX5_takesCell_65 rfl (lv_at hl 4 rfl) ?_
            refine lv_iload hx hb dX5_takesCell_66 (lv_at hl 1 rfl) ?_
            refine lv_iload hx hb dX5_takesCell_68 (lv_at hl 0 rfl) ?_
            obtain ⟨⟨v13, w14, w15⟩, h16, hf⟩ := bd1_s hf
            replace hf := un3_s hf
            refine k_callV (b := r0) (ci := 2) (qb := 0) (As := [.int p2, .int v1, .int v3]) (n := 3) (rest := []) (st1 := [.int v13]) (wr := []) (ws' := [(r0, .inr (2, [.ref r0_first, .ref r0_second])), (r0_first, .inr (6, [.ref r0_first_numbers])), (r0_first_numbers, .inl (cI, 36, .inl w14)), (r0_second, .inr (6, [.ref r0_second_numbers])), (r0_second_numbers, .inl (cI, 36, .inl w15))]) C hE hW hl.1 (kX2_moveOver l D cI cZ cJ _ r0 r0_first r0_first_numbers r0_second r0_second_numbers u0_first_numbers u0_second_numbers p2 v1 v3 v13 w14 w15 h16) gX5_takesCell_X2_moveOver rfl (by decide +kernel) rfl ⟨Nat.le_of_ble_eq_true rfl, Nat.le_of_ble_eq_true rfl⟩ ⟨Nat.zero_le _, Nat.zero_le _⟩ rfl rfl [0, 1, 2, 3, 4] [] [0, 1, 2, 3, 4] rfl rfl rfl rfl (by decide) rfl rfl (Nat.le_of_ble_eq_true rfl) rfl rfl dX5_takesCell_70 (fun H locs hW => ?_)
            refine lv_pop hx hb dX5_takesCell_73 rfl ?_
            refine lv_iconst (v := 1) hx hb dX5_takesCell_74 (by decide) ?_
            obtain ⟨rfl, rfl, rfl⟩ := sm3 hf
            exact k_zret C hlocks hr hW (by decide) hQ dX5_takesCell_75
          · replace hf := if_f hc hf
            refine lv_iconst (v := 0) hx hb dX5_takesCell_62 (by decide) ?_
            obtain ⟨rfl, rfl, rfl⟩ := sm3 hf
            exact k_zret C hlocks hr hW (by decide) hQ dX5_takesCell_63
        | false =>
          replace hf := cd_f hf
          refine k_callVR (b := r0) (ci := 2) (qb := 0) (As := [.int (1 - p2)]) (n := 1) (rest := []) (st1 := [.ref r0_second]) C hE hW hl.1 (kX2_table l D cI cZ cJ _ r0 r0_first r0_second (1 - p2) false h10) gX5_takesCell_X2_table rfl (by decide +kernel) rfl ⟨Nat.le_of_ble_eq_true rfl, Nat.le_of_ble_eq_true rfl⟩ ⟨Nat.zero_le _, Nat.zero_le _⟩ rfl rfl [0] rfl rfl (Nat.le_of_ble_eq_true rfl) rfl rfl dX5_takesCell_53 (fun H locs hW => ?_)
          obtain ⟨v17, h18, hf⟩ := bd1_s hf
          refine k_callVR (b := r0_second) (ci := 6) (qb := 0) (As := []) (n := 0) (rest := []) (st1 := [.int v17]) C hE hW hl.1 (kX7_isFull l D cI cZ cJ _ r0_second r0_second_numbers u0_second_numbers v17 h18) gX5_takesCell_X7_isFull rfl (by decide +kernel) rfl ⟨Nat.le_of_ble_eq_true rfl, Nat.le_of_ble_eq_true rfl⟩ ⟨Nat.zero_le _, Nat.zero_le _⟩ rfl rfl [3, 4] rfl rfl (Nat.le_of_ble_eq_true rfl) rfl rfl dX5_takesCell_56 (fun H locs hW => ?_)
          refine lv_if_eq (tgt := 64) hx hb dX5_takesCell_59 (by decide) (fun hc => ?_) (fun hc => ?_)
          · replace hf := if_t hc hf
            refine lv_aload_n hx hb dX5_takesCell_64 rfl (lv_at hl 2 rfl) ?_
            refine lv_iload_n hx hb dX5_takesCell_65 rfl (lv_at hl 4 rfl) ?_
            refine lv_iload hx hb dX5_takesCell_66 (lv_at hl 1 rfl) ?_
            refine lv_iload hx hb dX5_takesCell_68 (lv_at hl 0 rfl) ?_
            obtain ⟨⟨v19, w20, w21⟩, h22, hf⟩ := bd1_s hf
            replace hf := un3_s hf
            refine k_callV (b := r0) (ci := 2) (qb := 0) (As := [.int p2, .int v1, .int v3]) (n := 3) (rest := []) (st1 := [.int v19]) (wr := []) (ws' := [(r0, .inr (2, [.ref r0_first, .ref r0_second])), (r0_first, .inr (6, [.ref r0_first_numbers])), (r0_first_numbers, .inl (cI, 36, .inl w20)), (r0_second, .inr (6, [.ref r0_second_numbers])), (r0_second_numbers, .inl (cI, 36, .inl w21))]) C hE hW hl.1 (kX2_moveOver l D cI cZ cJ _ r0 r0_first r0_first_numbers r0_second r0_second_numbers u0_first_numbers u0_second_numbers p2 v1 v3 v19 w20 w21 h22) gX5_takesCell_X2_moveOver rfl (by decide +kernel) rfl ⟨Nat.le_of_ble_eq_true rfl, Nat.le_of_ble_eq_true rfl⟩ ⟨Nat.zero_le _, Nat.zero_le _⟩ rfl rfl [0, 1, 2, 3, 4] [] [0, 1, 2, 3, 4] rfl rfl rfl rfl (by decide) rfl rfl (Nat.le_of_ble_eq_true rfl) rfl rfl dX5_takesCell_70 (fun H locs hW => ?_)
            refine lv_pop hx hb dX5_takesCell_73 rfl ?_
            refine lv_iconst (v := 1) hx hb dX5_takesCell_74 (by decide) ?_
            obtain ⟨rfl, rfl, rfl⟩ := sm3 hf
            exact k_zret C hlocks hr hW (by decide) hQ dX5_takesCell_75
          · replace hf := if_f hc hf
            refine lv_iconst (v := 0) hx hb dX5_takesCell_62 (by decide) ?_
            obtain ⟨rfl, rfl, rfl⟩ := sm3 hf
            exact k_zret C hlocks hr hW (by decide) hQ dX5_takesCell_63
      · replace hf := if_t hc hf
        refine lv_aload_n hx hb dX5_takesCell_34 rfl (lv_at hl 2 rfl) ?_
        refine lv_iload_n hx hb dX5_takesCell_35 rfl (lv_at hl 4 rfl) ?_
        obtain ⟨b23, h24, hf⟩ := bd1_s hf
        cases b23 with
        | true =>
          replace hf := cd_t hf
          refine k_callVR (b := r0) (ci := 2) (qb := 0) (As := [.int p2]) (n := 1) (rest := []) (st1 := [.ref r0_first]) C hE hW hl.1 (kX2_table l D cI cZ cJ _ r0 r0_first r0_second p2 true h24) gX5_takesCell_X2_table rfl (by decide +kernel) rfl ⟨Nat.le_of_ble_eq_true rfl, Nat.le_of_ble_eq_true rfl⟩ ⟨Nat.zero_le _, Nat.zero_le _⟩ rfl rfl [0] rfl rfl (Nat.le_of_ble_eq_true rfl) rfl rfl dX5_takesCell_36 (fun H locs hW => ?_)
          refine lv_iload hx hb dX5_takesCell_39 (lv_at hl 1 rfl) ?_
          refine lv_iload hx hb dX5_takesCell_41 (lv_at hl 0 rfl) ?_
          obtain ⟨⟨v25, w26⟩, h27, hf⟩ := bd1_s hf
          replace hf := un2_s hf
          refine k_callV (b := r0_first) (ci := 6) (qb := 0) (As := [.int v1, .int v3]) (n := 2) (rest := []) (st1 := [.int v25]) (wr := [(r0, .inr (2, [.ref r0_first, .ref r0_second])), (r0_second, .inr (6, [.ref r0_second_numbers])), (r0_second_numbers, .inl (cI, 36, .inl u0_second_numbers))]) (ws' := [(r0, .inr (2, [.ref r0_first, .ref r0_second])), (r0_first, .inr (6, [.ref r0_first_numbers])), (r0_first_numbers, .inl (cI, 36, .inl w26)), (r0_second, .inr (6, [.ref r0_second_numbers])), (r0_second_numbers, .inl (cI, 36, .inl u0_second_numbers))]) C hE hW hl.1 (kX7_takeAway l D cI cZ cJ _ r0_first r0_first_numbers u0_first_numbers v1 v3 v25 w26 h27) gX5_takesCell_X7_takeAway rfl (by decide +kernel) rfl ⟨Nat.le_of_ble_eq_true rfl, Nat.le_of_ble_eq_true rfl⟩ ⟨Nat.zero_le _, Nat.zero_le _⟩ rfl rfl [1, 2] [0, 3, 4] [0, 3, 4, 1, 2] rfl rfl rfl rfl (by decide) rfl rfl (Nat.le_of_ble_eq_true rfl) rfl rfl dX5_takesCell_43 (fun H locs hW => ?_)
          refine lv_pop hx hb dX5_takesCell_46 rfl ?_
          refine lv_iconst (v := 1) hx hb dX5_takesCell_47 (by decide) ?_
          obtain ⟨rfl, rfl, rfl⟩ := sm3 hf
          exact k_zret C hlocks hr hW (by decide) hQ dX5_takesCell_48
        | false =>
          replace hf := cd_f hf
          refine k_callVR (b := r0) (ci := 2) (qb := 0) (As := [.int p2]) (n := 1) (rest := []) (st1 := [.ref r0_second]) C hE hW hl.1 (kX2_table l D cI cZ cJ _ r0 r0_first r0_second p2 false h24) gX5_takesCell_X2_table rfl (by decide +kernel) rfl ⟨Nat.le_of_ble_eq_true rfl, Nat.le_of_ble_eq_true rfl⟩ ⟨Nat.zero_le _, Nat.zero_le _⟩ rfl rfl [0] rfl rfl (Nat.le_of_ble_eq_true rfl) rfl rfl dX5_takesCell_36 (fun H locs hW => ?_)
          refine lv_iload hx hb dX5_takesCell_39 (lv_at hl 1 rfl) ?_
          refine lv_iload hx hb dX5_takesCell_41 (lv_at hl 0 rfl) ?_
          obtain ⟨⟨v28, w29⟩, h30, hf⟩ := bd1_s hf
          replace hf := un2_s hf
          refine k_callV (b := r0_second) (ci := 6) (qb := 0) (As := [.int v1, .int v3]) (n := 2) (rest := []) (st1 := [.int v28]) (wr := [(r0, .inr (2, [.ref r0_first, .ref r0_second])), (r0_first, .inr (6, [.ref r0_first_numbers])), (r0_first_numbers, .inl (cI, 36, .inl u0_first_numbers))]) (ws' := [(r0, .inr (2, [.ref r0_first, .ref r0_second])), (r0_first, .inr (6, [.ref r0_first_numbers])), (r0_first_numbers, .inl (cI, 36, .inl u0_first_numbers)), (r0_second, .inr (6, [.ref r0_second_numbers])), (r0_second_numbers, .inl (cI, 36, .inl w29))]) C hE hW hl.1 (kX7_takeAway l D cI cZ cJ _ r0_second r0_second_numbers u0_second_numbers v1 v3 v28 w29 h30) gX5_takesCell_X7_takeAway rfl (by decide +kernel) rfl ⟨Nat.le_of_ble_eq_true rfl, Nat.le_of_ble_eq_true rfl⟩ ⟨Nat.zero_le _, Nat.zero_le _⟩ rfl rfl [3, 4] [0, 1, 2] [0, 1, 2, 3, 4] rfl rfl rfl rfl (by decide) rfl rfl (Nat.le_of_ble_eq_true rfl) rfl rfl dX5_takesCell_43 (fun H locs hW => ?_)
          refine lv_pop hx hb dX5_takesCell_46 rfl ?_
          refine lv_iconst (v := 1) hx hb dX5_takesCell_47 (by decide) ?_
          obtain ⟨rfl, rfl, rfl⟩ := sm3 hf
          exact k_zret C hlocks hr hW (by decide) hQ dX5_takesCell_48
    · replace hf := if_t hc hf
      refine lv_iconst (v := 0) hx hb dX5_takesCell_27 (by decide) ?_
      obtain ⟨rfl, rfl, rfl⟩ := sm3 hf
      exact k_zret C hlocks hr hW (by decide) hQ dX5_takesCell_28
  | false =>
    replace hf := cd_f hf
    refine k_callVR (b := r0) (ci := 2) (qb := 0) (As := [.int p2]) (n := 1) (rest := []) (st1 := [.ref r0_second]) C hE hW hl.1 (kX2_table l D cI cZ cJ _ r0 r0_first r0_second p2 false h6) gX5_takesCell_X2_table rfl (by decide +kernel) rfl ⟨Nat.le_of_ble_eq_true rfl, Nat.le_of_ble_eq_true rfl⟩ ⟨Nat.zero_le _, Nat.zero_le _⟩ rfl rfl [0] rfl rfl (Nat.le_of_ble_eq_true rfl) rfl rfl dX5_takesCell_14 (fun H locs hW => ?_)
    refine lv_iload hx hb dX5_takesCell_17 (lv_at hl 1 rfl) ?_
    refine lv_iload hx hb dX5_takesCell_19 (lv_at hl 0 rfl) ?_
    obtain ⟨v31, h32, hf⟩ := bd1_s hf
    refine k_callVR (b := r0_second) (ci := 6) (qb := 0) (As := [.int v1, .int v3]) (n := 2) (rest := []) (st1 := [.int v31]) C hE hW hl.1 (kX7_has l D cI cZ cJ _ r0_second r0_second_numbers u0_second_numbers v1 v3 v31 h32) gX5_takesCell_X7_has rfl (by decide +kernel) rfl ⟨Nat.le_of_ble_eq_true rfl, Nat.le_of_ble_eq_true rfl⟩ ⟨Nat.zero_le _, Nat.zero_le _⟩ rfl rfl [3, 4] rfl rfl (Nat.le_of_ble_eq_true rfl) rfl rfl dX5_takesCell_21 (fun H locs hW => ?_)
    refine lv_if_ne (tgt := 29) hx hb dX5_takesCell_24 (by decide) (fun hc => ?_) (fun hc => ?_)
    · replace hf := if_f hc hf
      refine lv_iload_n hx hb dX5_takesCell_29 rfl (lv_at hl 3 rfl) ?_
      refine lv_iconst (v := 2) hx hb dX5_takesCell_30 (by decide) ?_
      refine lv_icmp_ne (tgt := 49) hx hb dX5_takesCell_31 (by decide) (fun hc => ?_) (fun hc => ?_)
      · replace hf := if_f hc hf
        refine lv_aload_n hx hb dX5_takesCell_49 rfl (lv_at hl 2 rfl) ?_
        refine lv_iconst (v := 1) hx hb dX5_takesCell_50 (by decide) ?_
        refine lv_iload_n hx hb dX5_takesCell_51 rfl (lv_at hl 4 rfl) ?_
        refine lv_isub hx hb dX5_takesCell_52 ?_
        obtain ⟨b33, h34, hf⟩ := bd1_s hf
        cases b33 with
        | true =>
          replace hf := cd_t hf
          refine k_callVR (b := r0) (ci := 2) (qb := 0) (As := [.int (1 - p2)]) (n := 1) (rest := []) (st1 := [.ref r0_first]) C hE hW hl.1 (kX2_table l D cI cZ cJ _ r0 r0_first r0_second (1 - p2) true h34) gX5_takesCell_X2_table rfl (by decide +kernel) rfl ⟨Nat.le_of_ble_eq_true rfl, Nat.le_of_ble_eq_true rfl⟩ ⟨Nat.zero_le _, Nat.zero_le _⟩ rfl rfl [0] rfl rfl (Nat.le_of_ble_eq_true rfl) rfl rfl dX5_takesCell_53 (fun H locs hW => ?_)
          obtain ⟨v35, h36, hf⟩ := bd1_s hf
          refine k_callVR (b := r0_first) (ci := 6) (qb := 0) (As := []) (n := 0) (rest := []) (st1 := [.int v35]) C hE hW hl.1 (kX7_isFull l D cI cZ cJ _ r0_first r0_first_numbers u0_first_numbers v35 h36) gX5_takesCell_X7_isFull rfl (by decide +kernel) rfl ⟨Nat.le_of_ble_eq_true rfl, Nat.le_of_ble_eq_true rfl⟩ ⟨Nat.zero_le _, Nat.zero_le _⟩ rfl rfl [1, 2] rfl rfl (Nat.le_of_ble_eq_true rfl) rfl rfl dX5_takesCell_56 (fun H locs hW => ?_)
          refine lv_if_eq (tgt := 64) hx hb dX5_takesCell_59 (by decide) (fun hc => ?_) (fun hc => ?_)
          · replace hf := if_t hc hf
            refine lv_aload_n hx hb dX5_takesCell_64 rfl (lv_at hl 2 rfl) ?_
            refine lv_iload_n hx hb dX5_takesCell_65 rfl (lv_at hl 4 rfl) ?_
            refine lv_iload hx hb dX5_takesCell_66 (lv_at hl 1 rfl) ?_
            refine lv_iload hx hb dX5_takesCell_68 (lv_at hl 0 rfl) ?_
            obtain ⟨⟨v37, w38, w39⟩, h40, hf⟩ := bd1_s hf
            replace hf := un3_s hf
            refine k_callV (b := r0) (ci := 2) (qb := 0) (As := [.int p2, .int v1, .int v3]) (n := 3) (rest := []) (st1 := [.int v37]) (wr := []) (ws' := [(r0, .inr (2, [.ref r0_first, .ref r0_second])), (r0_first, .inr (6, [.ref r0_first_numbers])), (r0_first_numbers, .inl (cI, 36, .inl w38)), (r0_second, .inr (6, [.ref r0_second_numbers])), (r0_second_numbers, .inl (cI, 36, .inl w39))]) C hE hW hl.1 (kX2_moveOver l D cI cZ cJ _ r0 r0_first r0_first_numbers r0_second r0_second_numbers u0_first_numbers u0_second_numbers p2 v1 v3 v37 w38 w39 h40) gX5_takesCell_X2_moveOver rfl (by decide +kernel) rfl ⟨Nat.le_of_ble_eq_true rfl, Nat.le_of_ble_eq_true rfl⟩ ⟨Nat.zero_le _, Nat.zero_le _⟩ rfl rfl [0, 1, 2, 3, 4] [] [0, 1, 2, 3, 4] rfl rfl rfl rfl (by decide) rfl rfl (Nat.le_of_ble_eq_true rfl) rfl rfl dX5_takesCell_70 (fun H locs hW => ?_)
            refine lv_pop hx hb dX5_takesCell_73 rfl ?_
            refine lv_iconst (v := 1) hx hb dX5_takesCell_74 (by decide) ?_
            obtain ⟨rfl, rfl, rfl⟩ := sm3 hf
            exact k_zret C hlocks hr hW (by decide) hQ dX5_takesCell_75
          · replace hf := if_f hc hf
            refine lv_iconst (v := 0) hx hb dX5_takesCell_62 (by decide) ?_
            obtain ⟨rfl, rfl, rfl⟩ := sm3 hf
            exact k_zret C hlocks hr hW (by decide) hQ dX5_takesCell_63
        | false =>
          replace hf := cd_f hf
          refine k_callVR (b := r0) (ci := 2) (qb := 0) (As := [.int (1 - p2)]) (n := 1) (rest := []) (st1 := [.ref r0_second]) C hE hW hl.1 (kX2_table l D cI cZ cJ _ r0 r0_first r0_second (1 - p2) false h34) gX5_takesCell_X2_table rfl (by decide +kernel) rfl ⟨Nat.le_of_ble_eq_true rfl, Nat.le_of_ble_eq_true rfl⟩ ⟨Nat.zero_le _, Nat.zero_le _⟩ rfl rfl [0] rfl rfl (Nat.le_of_ble_eq_true rfl) rfl rfl dX5_takesCell_53 (fun H locs hW => ?_)
          obtain ⟨v41, h42, hf⟩ := bd1_s hf
          refine k_callVR (b := r0_second) (ci := 6) (qb := 0) (As := []) (n := 0) (rest := []) (st1 := [.int v41]) C hE hW hl.1 (kX7_isFull l D cI cZ cJ _ r0_second r0_second_numbers u0_second_numbers v41 h42) gX5_takesCell_X7_isFull rfl (by decide +kernel) rfl ⟨Nat.le_of_ble_eq_true rfl, Nat.le_of_ble_eq_true rfl⟩ ⟨Nat.zero_le _, Nat.zero_le _⟩ rfl rfl [3, 4] rfl rfl (Nat.le_of_ble_eq_true rfl) rfl rfl dX5_takesCell_56 (fun H locs hW => ?_)
          refine lv_if_eq (tgt := 64) hx hb dX5_takesCell_59 (by decide) (fun hc => ?_) (fun hc => ?_)
          · replace hf := if_t hc hf
            refine lv_aload_n hx hb dX5_takesCell_64 rfl (lv_at hl 2 rfl) ?_
            refine lv_iload_n hx hb dX5_takesCell_65 rfl (lv_at hl 4 rfl) ?_
            refine lv_iload hx hb dX5_takesCell_66 (lv_at hl 1 rfl) ?_
            refine lv_iload hx hb dX5_takesCell_68 (lv_at hl 0 rfl) ?_
            obtain ⟨⟨v43, w44, w45⟩, h46, hf⟩ := bd1_s hf
            replace hf := un3_s hf
            refine k_callV (b := r0) (ci := 2) (qb := 0) (As := [.int p2, .int v1, .int v3]) (n := 3) (rest := []) (st1 := [.int v43]) (wr := []) (ws' := [(r0, .inr (2, [.ref r0_first, .ref r0_second])), (r0_first, .inr (6, [.ref r0_first_numbers])), (r0_first_numbers, .inl (cI, 36, .inl w44)), (r0_second, .inr (6, [.ref r0_second_numbers])), (r0_second_numbers, .inl (cI, 36, .inl w45))]) C hE hW hl.1 (kX2_moveOver l D cI cZ cJ _ r0 r0_first r0_first_numbers r0_second r0_second_numbers u0_first_numbers u0_second_numbers p2 v1 v3 v43 w44 w45 h46) gX5_takesCell_X2_moveOver rfl (by decide +kernel) rfl ⟨Nat.le_of_ble_eq_true rfl, Nat.le_of_ble_eq_true rfl⟩ ⟨Nat.zero_le _, Nat.zero_le _⟩ rfl rfl [0, 1, 2, 3, 4] [] [0, 1, 2, 3, 4] rfl rfl rfl rfl (by decide) rfl rfl (Nat.le_of_ble_eq_true rfl) rfl rfl dX5_takesCell_70 (fun H locs hW => ?_)
            refine lv_pop hx hb dX5_takesCell_73 rfl ?_
            refine lv_iconst (v := 1) hx hb dX5_takesCell_74 (by decide) ?_
            obtain ⟨rfl, rfl, rfl⟩ := sm3 hf
            exact k_zret C hlocks hr hW (by decide) hQ dX5_takesCell_75
          · replace hf := if_f hc hf
            refine lv_iconst (v := 0) hx hb dX5_takesCell_62 (by decide) ?_
            obtain ⟨rfl, rfl, rfl⟩ := sm3 hf
            exact k_zret C hlocks hr hW (by decide) hQ dX5_takesCell_63
      · replace hf := if_t hc hf
        refine lv_aload_n hx hb dX5_takesCell_34 rfl (lv_at hl 2 rfl) ?_
        refine lv_iload_n hx hb dX5_takesCell_35 rfl (lv_at hl 4 rfl) ?_
        obtain ⟨b47, h48, hf⟩ := bd1_s hf
        cases b47 with
        | true =>
          replace hf := cd_t hf
          refine k_callVR (b := r0) (ci := 2) (qb := 0) (As := [.int p2]) (n := 1) (rest := []) (st1 := [.ref r0_first]) C hE hW hl.1 (kX2_table l D cI cZ cJ _ r0 r0_first r0_second p2 true h48) gX5_takesCell_X2_table rfl (by decide +kernel) rfl ⟨Nat.le_of_ble_eq_true rfl, Nat.le_of_ble_eq_true rfl⟩ ⟨Nat.zero_le _, Nat.zero_le _⟩ rfl rfl [0] rfl rfl (Nat.le_of_ble_eq_true rfl) rfl rfl dX5_takesCell_36 (fun H locs hW => ?_)
          refine lv_iload hx hb dX5_takesCell_39 (lv_at hl 1 rfl) ?_
          refine lv_iload hx hb dX5_takesCell_41 (lv_at hl 0 rfl) ?_
          obtain ⟨⟨v49, w50⟩, h51, hf⟩ := bd1_s hf
          replace hf := un2_s hf
          refine k_callV (b := r0_first) (ci := 6) (qb := 0) (As := [.int v1, .int v3]) (n := 2) (rest := []) (st1 := [.int v49]) (wr := [(r0, .inr (2, [.ref r0_first, .ref r0_second])), (r0_second, .inr (6, [.ref r0_second_numbers])), (r0_second_numbers, .inl (cI, 36, .inl u0_second_numbers))]) (ws' := [(r0, .inr (2, [.ref r0_first, .ref r0_second])), (r0_first, .inr (6, [.ref r0_first_numbers])), (r0_first_numbers, .inl (cI, 36, .inl w50)), (r0_second, .inr (6, [.ref r0_second_numbers])), (r0_second_numbers, .inl (cI, 36, .inl u0_second_numbers))]) C hE hW hl.1 (kX7_takeAway l D cI cZ cJ _ r0_first r0_first_numbers u0_first_numbers v1 v3 v49 w50 h51) gX5_takesCell_X7_takeAway rfl (by decide +kernel) rfl ⟨Nat.le_of_ble_eq_true rfl, Nat.le_of_ble_eq_true rfl⟩ ⟨Nat.zero_le _, Nat.zero_le _⟩ rfl rfl [1, 2] [0, 3, 4] [0, 3, 4, 1, 2] rfl rfl rfl rfl (by decide) rfl rfl (Nat.le_of_ble_eq_true rfl) rfl rfl dX5_takesCell_43 (fun H locs hW => ?_)
          refine lv_pop hx hb dX5_takesCell_46 rfl ?_
          refine lv_iconst (v := 1) hx hb dX5_takesCell_47 (by decide) ?_
          obtain ⟨rfl, rfl, rfl⟩ := sm3 hf
          exact k_zret C hlocks hr hW (by decide) hQ dX5_takesCell_48
        | false =>
          replace hf := cd_f hf
          refine k_callVR (b := r0) (ci := 2) (qb := 0) (As := [.int p2]) (n := 1) (rest := []) (st1 := [.ref r0_second]) C hE hW hl.1 (kX2_table l D cI cZ cJ _ r0 r0_first r0_second p2 false h48) gX5_takesCell_X2_table rfl (by decide +kernel) rfl ⟨Nat.le_of_ble_eq_true rfl, Nat.le_of_ble_eq_true rfl⟩ ⟨Nat.zero_le _, Nat.zero_le _⟩ rfl rfl [0] rfl rfl (Nat.le_of_ble_eq_true rfl) rfl rfl dX5_takesCell_36 (fun H locs hW => ?_)
          refine lv_iload hx hb dX5_takesCell_39 (lv_at hl 1 rfl) ?_
          refine lv_iload hx hb dX5_takesCell_41 (lv_at hl 0 rfl) ?_
          obtain ⟨⟨v52, w53⟩, h54, hf⟩ := bd1_s hf
          replace hf := un2_s hf
          refine k_callV (b := r0_second) (ci := 6) (qb := 0) (As := [.int v1, .int v3]) (n := 2) (rest := []) (st1 := [.int v52]) (wr := [(r0, .inr (2, [.ref r0_first, .ref r0_second])), (r0_first, .inr (6, [.ref r0_first_numbers])), (r0_first_numbers, .inl (cI, 36, .inl u0_first_numbers))]) (ws' := [(r0, .inr (2, [.ref r0_first, .ref r0_second])), (r0_first, .inr (6, [.ref r0_first_numbers])), (r0_first_numbers, .inl (cI, 36, .inl u0_first_numbers)), (r0_second, .inr (6, [.ref r0_second_numbers])), (r0_second_numbers, .inl (cI, 36, .inl w53))]) C hE hW hl.1 (kX7_takeAway l D cI cZ cJ _ r0_second r0_second_numbers u0_second_numbers v1 v3 v52 w53 h54) gX5_takesCell_X7_takeAway rfl (by decide +kernel) rfl ⟨Nat.le_of_ble_eq_true rfl, Nat.le_of_ble_eq_true rfl⟩ ⟨Nat.zero_le _, Nat.zero_le _⟩ rfl rfl [3, 4] [0, 1, 2] [0, 1, 2, 3, 4] rfl rfl rfl rfl (by decide) rfl rfl (Nat.le_of_ble_eq_true rfl) rfl rfl dX5_takesCell_43 (fun H locs hW => ?_)
          refine lv_pop hx hb dX5_takesCell_46 rfl ?_
          refine lv_iconst (v := 1) hx hb dX5_takesCell_47 (by decide) ?_
          obtain ⟨rfl, rfl, rfl⟩ := sm3 hf
          exact k_zret C hlocks hr hW (by decide) hQ dX5_takesCell_48
    · replace hf := if_t hc hf
      refine lv_iconst (v := 0) hx hb dX5_takesCell_27 (by decide) ?_
      obtain ⟨rfl, rfl, rfl⟩ := sm3 hf
      exact k_zret C hlocks hr hW (by decide) hQ dX5_takesCell_28

set_option maxHeartbeats 4000000 in
set_option maxRecDepth 100000 in
theorem kX7_flip (l : Launch) (D : va_G) (cI cZ cJ : ClassId) (sz : Nat) (q q_numbers : Nat) (u_numbers : Nat → Int32) (u_numbers' : Nat → Int32) (hf : pX7_flip u_numbers = some u_numbers') : kMet l D cI cZ cJ yX7_flip wsX7_flip 1 23 [.ref q] [(q, .inr (6, [.ref q_numbers])), (q_numbers, .inl (cI, 36, .inl u_numbers))] sz none [(q, .inr (6, [.ref q_numbers])), (q_numbers, .inl (cI, 36, .inl u_numbers'))] := by
  refine kM_of (cc := cX7_flip) (maxL := 4) (ret := none) (by decide) rfl (Nat.le_of_ble_eq_true rfl) ?_
  intro p e s m args below meth c A Q ls hQ C hlocks hr hE hW hl
  have hx := C.1
  have hb := C.2.1
  have hts := C.2.2.2.2
  have hl : lv_has ls 4 [(0, .ref q)] := hl
  unfold pX7_flip at hf
  refine lv_iconst (v := 0) hx hb dX7_flip_0 (by decide) ?_
  refine lv_istore_n (lv' := [(1, .int 0), (0, .ref q)]) hx hb dX7_flip_1 rfl hl (by decide) rfl (fun ls hl => ?_)
  obtain ⟨w3, hx50, hf⟩ := bd1_s hf
  have J6 : ∀ (H : Heap) (locs : List Loc) (ls : Array Slot), kH D A s H locs [(q, .inr (6, [.ref q_numbers])), (q_numbers, .inl (cI, 36, .inl w3))] → lv_has ls 4 [] → W p l e (kRm 1 23 0 0) s m args below meth c H locs 0 0 Q (F0 m 53 ls []) := by
    intro H locs ls hW hl
    obtain rfl := Option.some.inj hf
    exact k_vret C hlocks hr hW hQ dX7_flip_53
  have L7 : ∀ (n : Nat) (i1 : Int32) (w2 : Nat → Int32), lpI n (un2 (pX7_flip_L2)) (i1, w2) = some w3 → ∀ (H : Heap) (locs : List Loc) (ls : Array Slot), kH D A s H locs [(q, .inr (6, [.ref q_numbers])), (q_numbers, .inl (cI, 36, .inl w2))] → lv_has ls 4 [(1, .int i1), (0, .ref q)] → W p l e (kRm 1 23 0 0) s m args below meth c H locs 0 0 Q (F0 m 2 ls []) := by
    intro n
    induction n with
    | zero => intro i1 w2 hx5; exact (lpI_0 hx5).elim
    | succ n ih9 =>
      intro i1 w2 hx5 H locs ls hW hl
      obtain ⟨ooho4, ho4, hx5⟩ := lpI_s hx5
      replace ho4 := un2_s ho4
      unfold pX7_flip_L2 at ho4
      refine lv_iload_n hx hb dX7_flip_2 rfl (lv_at hl 0 rfl) ?_
      refine lv_bipush (v := 6) hx hb dX7_flip_3 (by decide) ?_
      refine lv_icmp_ge (tgt := 53) hx hb dX7_flip_5 (by decide) (fun hc => ?_) (fun hc => ?_)
      · replace ho4 := if_t hc ho4
        obtain rfl := Option.some.inj ho4
        obtain rfl := lpK_r hx5
        exact J6 _ _ _ hW (lv_sub hl [] rfl)
      · replace ho4 := if_f hc ho4
        refine lv_iconst (v := 0) hx hb dX7_flip_8 (by decide) ?_
        refine lv_istore_n (lv' := [(2, .int 0), (1, .int i1), (0, .ref q)]) hx hb dX7_flip_9 rfl hl (by decide) rfl (fun ls hl => ?_)
        obtain ⟨w12, hx140, ho4⟩ := bd1_s ho4
        have J15 : ∀ (H : Heap) (locs : List Loc) (ls : Array Slot), kH D A s H locs [(q, .inr (6, [.ref q_numbers])), (q_numbers, .inl (cI, 36, .inl w12))] → lv_has ls 4 [(1, .int i1), (0, .ref q)] → W p l e (kRm 1 23 0 0) s m args below meth c H locs 0 0 Q (F0 m 47 ls []) := by
          intro H locs ls hW hl
          refine lv_iinc (v := (i1 + 1)) (lv' := [(1, .int (i1 + 1)), (0, .ref q)]) hx hb dX7_flip_47 hl (k := 0) rfl rfl (by decide) rfl (fun ls hl => ?_)
          refine lv_goto (tgt := 2) hx hb dX7_flip_50 (by decide) ?_
          obtain rfl := Option.some.inj ho4
          exact ih9 _ _ hx5 _ _ _ hW (lv_sub hl [0, 1] rfl)
        have L16 : ∀ (n : Nat) (i10 : Int32) (w11 : Nat → Int32), lpI n (un2 (pX7_flip_L10 i1)) (i10, w11) = some w12 → ∀ (H : Heap) (locs : List Loc) (ls : Array Slot), kH D A s H locs [(q, .inr (6, [.ref q_numbers])), (q_numbers, .inl (cI, 36, .inl w11))] → lv_has ls 4 [(2, .int i10), (1, .int i1), (0, .ref q)] → W p l e (kRm 1 23 0 0) s m args below meth c H locs 0 0 Q (F0 m 10 ls []) := by
          intro n
          induction n with
          | zero => intro i10 w11 hx14; exact (lpI_0 hx14).elim
          | succ n ih18 =>
            intro i10 w11 hx14 H locs ls hW hl
            obtain ⟨ooho13, ho13, hx14⟩ := lpI_s hx14
            replace ho13 := un2_s ho13
            unfold pX7_flip_L10 at ho13
            refine lv_iload_n hx hb dX7_flip_10 rfl (lv_at hl 0 rfl) ?_
            refine lv_iload_n hx hb dX7_flip_11 rfl (lv_at hl 1 rfl) ?_
            refine lv_icmp_ge (tgt := 47) hx hb dX7_flip_12 (by decide) (fun hc => ?_) (fun hc => ?_)
            · replace ho13 := if_t hc ho13
              obtain rfl := Option.some.inj ho13
              obtain rfl := lpK_r hx14
              exact J15 _ _ _ hW (lv_sub hl [1, 2] rfl)
            · replace ho13 := if_f hc ho13
              refine lv_aload_n hx hb dX7_flip_15 rfl (lv_at hl 2 rfl) ?_
              refine lv_iload_n hx hb dX7_flip_16 rfl (lv_at hl 1 rfl) ?_
              refine lv_iload_n hx hb dX7_flip_17 rfl (lv_at hl 0 rfl) ?_
              obtain ⟨v19, h20, ho13⟩ := bd1_s ho13
              refine k_callVR (b := q) (ci := 6) (qb := 0) (As := [.int i1, .int i10]) (n := 2) (rest := []) (st1 := [.int v19]) C hE hW hl.1 (kX7_at l D cI cZ cJ _ q q_numbers w11 i1 i10 v19 h20) gX7_flip_X7_at rfl (by decide +kernel) rfl ⟨Nat.le_of_ble_eq_true rfl, Nat.le_of_ble_eq_true rfl⟩ ⟨Nat.zero_le _, Nat.zero_le _⟩ rfl rfl [0, 1] rfl rfl (Nat.le_of_ble_eq_true rfl) rfl rfl dX7_flip_18 (fun H locs hW => ?_)
              refine lv_istore_n (lv' := [(3, .int v19), (2, .int i10), (1, .int i1), (0, .ref q)]) hx hb dX7_flip_21 rfl hl (by decide) rfl (fun ls hl => ?_)
              refine lv_aload_n hx hb dX7_flip_22 rfl (lv_at hl 3 rfl) ?_
              refine lv_iload_n hx hb dX7_flip_23 rfl (lv_at hl 2 rfl) ?_
              refine lv_iload_n hx hb dX7_flip_24 rfl (lv_at hl 1 rfl) ?_
              refine lv_aload_n hx hb dX7_flip_25 rfl (lv_at hl 3 rfl) ?_
              refine lv_iload_n hx hb dX7_flip_26 rfl (lv_at hl 1 rfl) ?_
              refine lv_iload_n hx hb dX7_flip_27 rfl (lv_at hl 2 rfl) ?_
              obtain ⟨v21, h22, ho13⟩ := bd1_s ho13
              refine k_callVR (b := q) (ci := 6) (qb := 0) (As := [.int i10, .int i1]) (n := 2) (rest := [.int i10, .int i1, .ref q]) (st1 := [.int v21, .int i10, .int i1, .ref q]) C hE hW hl.1 (kX7_at l D cI cZ cJ _ q q_numbers w11 i10 i1 v21 h22) gX7_flip_X7_at rfl (by decide +kernel) rfl ⟨Nat.le_of_ble_eq_true rfl, Nat.le_of_ble_eq_true rfl⟩ ⟨Nat.zero_le _, Nat.zero_le _⟩ rfl rfl [0, 1] rfl rfl (Nat.le_of_ble_eq_true rfl) rfl rfl dX7_flip_28 (fun H locs hW => ?_)
              obtain ⟨w23, h24, ho13⟩ := bd1_s ho13
              refine k_callV (b := q) (ci := 6) (qb := 0) (As := [.int i1, .int i10, .int v21]) (n := 3) (rest := []) (st1 := []) (wr := []) (ws' := [(q, .inr (6, [.ref q_numbers])), (q_numbers, .inl (cI, 36, .inl w23))]) C hE hW hl.1 (kX7_put l D cI cZ cJ _ q q_numbers w11 i1 i10 v21 w23 h24) gX7_flip_X7_put rfl (by decide +kernel) rfl ⟨Nat.le_of_ble_eq_true rfl, Nat.le_of_ble_eq_true rfl⟩ ⟨Nat.zero_le _, Nat.zero_le _⟩ rfl rfl [0, 1] [] [0, 1] rfl rfl rfl rfl (by decide) rfl rfl (Nat.le_of_ble_eq_true rfl) rfl rfl dX7_flip_31 (fun H locs hW => ?_)
              refine lv_aload_n hx hb dX7_flip_34 rfl (lv_at hl 3 rfl) ?_
              refine lv_iload_n hx hb dX7_flip_35 rfl (lv_at hl 1 rfl) ?_
              refine lv_iload_n hx hb dX7_flip_36 rfl (lv_at hl 2 rfl) ?_
              refine lv_iload_n hx hb dX7_flip_37 rfl (lv_at hl 0 rfl) ?_
              obtain ⟨w25, h26, ho13⟩ := bd1_s ho13
              refine k_callV (b := q) (ci := 6) (qb := 0) (As := [.int i10, .int i1, .int v19]) (n := 3) (rest := []) (st1 := []) (wr := []) (ws' := [(q, .inr (6, [.ref q_numbers])), (q_numbers, .inl (cI, 36, .inl w25))]) C hE hW hl.1 (kX7_put l D cI cZ cJ _ q q_numbers w23 i10 i1 v19 w25 h26) gX7_flip_X7_put rfl (by decide +kernel) rfl ⟨Nat.le_of_ble_eq_true rfl, Nat.le_of_ble_eq_true rfl⟩ ⟨Nat.zero_le _, Nat.zero_le _⟩ rfl rfl [0, 1] [] [0, 1] rfl rfl rfl rfl (by decide) rfl rfl (Nat.le_of_ble_eq_true rfl) rfl rfl dX7_flip_38 (fun H locs hW => ?_)
              refine lv_iinc (v := (i10 + 1)) (lv' := [(2, .int (i10 + 1)), (3, .int v19), (1, .int i1), (0, .ref q)]) hx hb dX7_flip_41 hl (k := 1) rfl rfl (by decide) rfl (fun ls hl => ?_)
              refine lv_goto (tgt := 10) hx hb dX7_flip_44 (by decide) ?_
              obtain rfl := Option.some.inj ho13
              exact ih18 _ _ hx14 _ _ _ hW (lv_sub hl [0, 2, 3] rfl)
        exact L16 lpF _ _ hx140 _ _ _ hW (lv_sub hl [0, 1, 2] rfl)
  exact L7 lpF _ _ hx50 _ _ _ hW (lv_sub hl [0, 1] rfl)

set_option maxHeartbeats 4000000 in
set_option maxRecDepth 100000 in
theorem kX5_transposes (l : Launch) (D : va_G) (cI cZ cJ : ClassId) (sz : Nat) (r0 r0_numbers : Nat) (u0_numbers : Nat → Int32) (r : Int32) (u0_numbers' : Nat → Int32) (hf : pX5_transposes u0_numbers = some (r, u0_numbers')) : kMet l D cI cZ cJ yX5_transposes wsX5_transposes 2 46 [.ref r0] [(r0, .inr (6, [.ref r0_numbers])), (r0_numbers, .inl (cI, 36, .inl u0_numbers))] sz (some (.int r)) [(r0, .inr (6, [.ref r0_numbers])), (r0_numbers, .inl (cI, 36, .inl u0_numbers'))] := by
  refine kM_of (cc := cX5_transposes) (maxL := 1) (ret := (some .boolean)) (by decide) rfl (Nat.le_of_ble_eq_true rfl) ?_
  intro p e s m args below meth c A Q ls hQ C hlocks hr hE hW hl
  have hx := C.1
  have hb := C.2.1
  have hts := C.2.2.2.2
  have hl : lv_has ls 1 [(0, .ref r0)] := hl
  unfold pX5_transposes at hf
  refine lv_aload_n hx hb dX5_transposes_0 rfl (lv_at hl 0 rfl) ?_
  obtain ⟨w1, h2, hf⟩ := bd1_s hf
  refine k_callV (b := r0) (ci := 6) (qb := 0) (As := []) (n := 0) (rest := []) (st1 := []) (wr := []) (ws' := [(r0, .inr (6, [.ref r0_numbers])), (r0_numbers, .inl (cI, 36, .inl w1))]) C hE hW hl.1 (kX7_flip l D cI cZ cJ _ r0 r0_numbers u0_numbers w1 h2) gX5_transposes_X7_flip rfl (by decide +kernel) rfl ⟨Nat.le_of_ble_eq_true rfl, Nat.le_of_ble_eq_true rfl⟩ ⟨Nat.zero_le _, Nat.zero_le _⟩ rfl rfl [0, 1] [] [0, 1] rfl rfl rfl rfl (by decide) rfl rfl (Nat.le_of_ble_eq_true rfl) rfl rfl dX5_transposes_1 (fun H locs hW => ?_)
  refine lv_iconst (v := 1) hx hb dX5_transposes_4 (by decide) ?_
  obtain ⟨rfl, rfl⟩ := sm2 hf
  exact k_zret C hlocks hr hW (by decide) hQ dX5_transposes_5

set_option maxHeartbeats 4000000 in
set_option maxRecDepth 100000 in
theorem kX5_succeeds (l : Launch) (D : va_G) (cI cZ cJ : ClassId) (sz : Nat) (r0 r0_first r0_first_numbers r0_second r0_second_numbers : Nat) (u0_first_numbers : Nat → Int32) (u0_second_numbers : Nat → Int32) (p1 : Int32) (r : Int32) (u0_first_numbers' : Nat → Int32) (u0_second_numbers' : Nat → Int32) (hf : pX5_succeeds u0_first_numbers u0_second_numbers p1 = some (r, u0_first_numbers', u0_second_numbers')) : kMet l D cI cZ cJ yX5_succeeds wsX5_succeeds 5 124 [.ref r0, .int p1] [(r0, .inr (2, [.ref r0_first, .ref r0_second])), (r0_first, .inr (6, [.ref r0_first_numbers])), (r0_first_numbers, .inl (cI, 36, .inl u0_first_numbers)), (r0_second, .inr (6, [.ref r0_second_numbers])), (r0_second_numbers, .inl (cI, 36, .inl u0_second_numbers))] sz (some (.int r)) [(r0, .inr (2, [.ref r0_first, .ref r0_second])), (r0_first, .inr (6, [.ref r0_first_numbers])), (r0_first_numbers, .inl (cI, 36, .inl u0_first_numbers')), (r0_second, .inr (6, [.ref r0_second_numbers])), (r0_second_numbers, .inl (cI, 36, .inl u0_second_numbers'))] := by
  refine kM_of (cc := cX5_succeeds) (maxL := 5) (ret := (some .boolean)) (by decide) rfl (Nat.le_of_ble_eq_true rfl) ?_
  intro p e s m args below meth c A Q ls hQ C hlocks hr hE hW hl
  have hx := C.1
  have hb := C.2.1
  have hts := C.2.2.2.2
  have hl : lv_has ls 5 [(0, .ref r0), (1, .int p1)] := hl
  unfold pX5_succeeds at hf
  refine lv_iload_n hx hb dX5_succeeds_0 rfl (lv_at hl 1 rfl) ?_
  refine lv_sipush (v := 10000) hx hb dX5_succeeds_1 (by decide) ?_
  refine lv_idiv hx hb dX5_succeeds_4 (by decide) ?_
  refine lv_istore_n (lv' := [(2, .int (p1 / 10000)), (0, .ref r0), (1, .int p1)]) hx hb dX5_succeeds_5 rfl hl (by decide) rfl (fun ls hl => ?_)
  refine lv_iload_n hx hb dX5_succeeds_6 rfl (lv_at hl 2 rfl) ?_
  refine lv_sipush (v := 1000) hx hb dX5_succeeds_7 (by decide) ?_
  refine lv_idiv hx hb dX5_succeeds_10 (by decide) ?_
  refine lv_bipush (v := 10) hx hb dX5_succeeds_11 (by decide) ?_
  refine lv_irem hx hb dX5_succeeds_13 (by decide) ?_
  refine lv_istore_n (lv' := [(3, .int (irm (p1 / 1000) 10)), (2, .int (p1 / 10000)), (0, .ref r0), (1, .int p1)]) hx hb dX5_succeeds_14 rfl hl (by decide) rfl (fun ls hl => ?_)
  refine lv_iload_n hx hb dX5_succeeds_15 rfl (lv_at hl 3 rfl) ?_
  refine lv_sipush (v := 1000) hx hb dX5_succeeds_16 (by decide) ?_
  refine lv_irem hx hb dX5_succeeds_19 (by decide) ?_
  refine lv_istore (lv' := [(4, .int (irm p1 1000)), (3, .int (irm (p1 / 1000) 10)), (2, .int (p1 / 10000)), (0, .ref r0), (1, .int p1)]) hx hb dX5_succeeds_20 hl (by decide) rfl (fun ls hl => ?_)
  refine lv_iload_n hx hb dX5_succeeds_22 rfl (lv_at hl 1 rfl) ?_
  refine lv_iconst (v := 1) hx hb dX5_succeeds_23 (by decide) ?_
  refine lv_icmp_le (tgt := 29) hx hb dX5_succeeds_24 (by decide) (fun hc => ?_) (fun hc => ?_)
  · replace hf := if_t hc hf
    refine lv_iload_n hx hb dX5_succeeds_29 rfl (lv_at hl 2 rfl) ?_
    by_cases hs2 : (p1 / 10000) = 2
    · replace hf := if_t hs2 hf
      refine lv_tableIn (off := 42) (tgt := 72) hx hb dX5_succeeds_30 (by rw [hs2]; decide) (by rw [hs2]; decide) (by rw [hs2]; decide +kernel) (by decide) ?_
      refine lv_iload hx hb dX5_succeeds_72 (lv_at hl 0 rfl) ?_
      refine lv_bipush (v := 10) hx hb dX5_succeeds_74 (by decide) ?_
      refine lv_irem hx hb dX5_succeeds_76 (by decide) ?_
      refine lv_if_ne (tgt := 98) hx hb dX5_succeeds_77 (by decide) (fun hc => ?_) (fun hc => ?_)
      · replace hf := if_f hc hf
        refine lv_iconst (v := 0) hx hb dX5_succeeds_98 (by decide) ?_
        obtain ⟨rfl, rfl, rfl⟩ := sm3 hf
        exact k_zret C hlocks hr hW (by decide) hQ dX5_succeeds_99
      · replace hf := if_t hc hf
        refine lv_aload_n hx hb dX5_succeeds_80 rfl (lv_at hl 3 rfl) ?_
        refine lv_iload_n hx hb dX5_succeeds_81 rfl (lv_at hl 2 rfl) ?_
        refine lv_iload_n hx hb dX5_succeeds_82 rfl (lv_at hl 1 rfl) ?_
        refine lv_iload hx hb dX5_succeeds_83 (lv_at hl 0 rfl) ?_
        refine lv_bipush (v := 10) hx hb dX5_succeeds_85 (by decide) ?_
        refine lv_idiv hx hb dX5_succeeds_87 (by decide) ?_
        obtain ⟨⟨v1, w2, w3⟩, h4, hf⟩ := bd1_s hf
        replace hf := un3_s hf
        refine k_callS (As := [.ref r0, .int (p1 / 10000), .int (irm (p1 / 1000) 10), .int ((irm p1 1000) / 10)]) (n := 4) (rest := []) (st1 := [.int v1]) (wr := []) (ws' := [(r0, .inr (2, [.ref r0_first, .ref r0_second])), (r0_first, .inr (6, [.ref r0_first_numbers])), (r0_first_numbers, .inl (cI, 36, .inl w2)), (r0_second, .inr (6, [.ref r0_second_numbers])), (r0_second_numbers, .inl (cI, 36, .inl w3))]) C hE hW hl.1 (kX5_takesCell l D cI cZ cJ _ r0 r0_first r0_first_numbers r0_second r0_second_numbers u0_first_numbers u0_second_numbers (p1 / 10000) (irm (p1 / 1000) 10) ((irm p1 1000) / 10) v1 w2 w3 h4) gX5_succeeds_X5_takesCell rfl (by decide +kernel) rfl ⟨Nat.le_of_ble_eq_true rfl, Nat.le_of_ble_eq_true rfl⟩ ⟨Nat.zero_le _, Nat.zero_le _⟩ [0, 1, 2, 3, 4] [] [0, 1, 2, 3, 4] rfl rfl rfl rfl (by decide) rfl rfl (Nat.le_of_ble_eq_true rfl) rfl rfl dX5_succeeds_88 (fun H locs hW => ?_)
        refine lv_if_eq (tgt := 98) hx hb dX5_succeeds_91 (by decide) (fun hc => ?_) (fun hc => ?_)
        · replace hf := if_t hc hf
          refine lv_iconst (v := 0) hx hb dX5_succeeds_98 (by decide) ?_
          obtain ⟨rfl, rfl, rfl⟩ := sm3 hf
          exact k_zret C hlocks hr hW (by decide) hQ dX5_succeeds_99
        · replace hf := if_f hc hf
          refine lv_iconst (v := 1) hx hb dX5_succeeds_94 (by decide) ?_
          refine lv_goto (tgt := 99) hx hb dX5_succeeds_95 (by decide) ?_
          obtain ⟨rfl, rfl, rfl⟩ := sm3 hf
          exact k_zret C hlocks hr hW (by decide) hQ dX5_succeeds_99
    · replace hf := if_f hs2 hf
      by_cases hs3 : (p1 / 10000) = 3
      · replace hf := if_t hs3 hf
        refine lv_tableIn (off := 42) (tgt := 72) hx hb dX5_succeeds_30 (by rw [hs3]; decide) (by rw [hs3]; decide) (by rw [hs3]; decide +kernel) (by decide) ?_
        refine lv_iload hx hb dX5_succeeds_72 (lv_at hl 0 rfl) ?_
        refine lv_bipush (v := 10) hx hb dX5_succeeds_74 (by decide) ?_
        refine lv_irem hx hb dX5_succeeds_76 (by decide) ?_
        refine lv_if_ne (tgt := 98) hx hb dX5_succeeds_77 (by decide) (fun hc => ?_) (fun hc => ?_)
        · replace hf := if_f hc hf
          refine lv_iconst (v := 0) hx hb dX5_succeeds_98 (by decide) ?_
          obtain ⟨rfl, rfl, rfl⟩ := sm3 hf
          exact k_zret C hlocks hr hW (by decide) hQ dX5_succeeds_99
        · replace hf := if_t hc hf
          refine lv_aload_n hx hb dX5_succeeds_80 rfl (lv_at hl 3 rfl) ?_
          refine lv_iload_n hx hb dX5_succeeds_81 rfl (lv_at hl 2 rfl) ?_
          refine lv_iload_n hx hb dX5_succeeds_82 rfl (lv_at hl 1 rfl) ?_
          refine lv_iload hx hb dX5_succeeds_83 (lv_at hl 0 rfl) ?_
          refine lv_bipush (v := 10) hx hb dX5_succeeds_85 (by decide) ?_
          refine lv_idiv hx hb dX5_succeeds_87 (by decide) ?_
          obtain ⟨⟨v5, w6, w7⟩, h8, hf⟩ := bd1_s hf
          replace hf := un3_s hf
          refine k_callS (As := [.ref r0, .int (p1 / 10000), .int (irm (p1 / 1000) 10), .int ((irm p1 1000) / 10)]) (n := 4) (rest := []) (st1 := [.int v5]) (wr := []) (ws' := [(r0, .inr (2, [.ref r0_first, .ref r0_second])), (r0_first, .inr (6, [.ref r0_first_numbers])), (r0_first_numbers, .inl (cI, 36, .inl w6)), (r0_second, .inr (6, [.ref r0_second_numbers])), (r0_second_numbers, .inl (cI, 36, .inl w7))]) C hE hW hl.1 (kX5_takesCell l D cI cZ cJ _ r0 r0_first r0_first_numbers r0_second r0_second_numbers u0_first_numbers u0_second_numbers (p1 / 10000) (irm (p1 / 1000) 10) ((irm p1 1000) / 10) v5 w6 w7 h8) gX5_succeeds_X5_takesCell rfl (by decide +kernel) rfl ⟨Nat.le_of_ble_eq_true rfl, Nat.le_of_ble_eq_true rfl⟩ ⟨Nat.zero_le _, Nat.zero_le _⟩ [0, 1, 2, 3, 4] [] [0, 1, 2, 3, 4] rfl rfl rfl rfl (by decide) rfl rfl (Nat.le_of_ble_eq_true rfl) rfl rfl dX5_succeeds_88 (fun H locs hW => ?_)
          refine lv_if_eq (tgt := 98) hx hb dX5_succeeds_91 (by decide) (fun hc => ?_) (fun hc => ?_)
          · replace hf := if_t hc hf
            refine lv_iconst (v := 0) hx hb dX5_succeeds_98 (by decide) ?_
            obtain ⟨rfl, rfl, rfl⟩ := sm3 hf
            exact k_zret C hlocks hr hW (by decide) hQ dX5_succeeds_99
          · replace hf := if_f hc hf
            refine lv_iconst (v := 1) hx hb dX5_succeeds_94 (by decide) ?_
            refine lv_goto (tgt := 99) hx hb dX5_succeeds_95 (by decide) ?_
            obtain ⟨rfl, rfl, rfl⟩ := sm3 hf
            exact k_zret C hlocks hr hW (by decide) hQ dX5_succeeds_99
      · replace hf := if_f hs3 hf
        by_cases hs4 : (p1 / 10000) = 4
        · replace hf := if_t hs4 hf
          refine lv_tableIn (off := 70) (tgt := 100) hx hb dX5_succeeds_30 (by rw [hs4]; decide) (by rw [hs4]; decide) (by rw [hs4]; decide +kernel) (by decide) ?_
          refine lv_iload hx hb dX5_succeeds_100 (lv_at hl 0 rfl) ?_
          refine lv_if_ne (tgt := 120) hx hb dX5_succeeds_102 (by decide) (fun hc => ?_) (fun hc => ?_)
          · replace hf := if_f hc hf
            refine lv_iconst (v := 0) hx hb dX5_succeeds_120 (by decide) ?_
            obtain ⟨rfl, rfl, rfl⟩ := sm3 hf
            exact k_zret C hlocks hr hW (by decide) hQ dX5_succeeds_121
          · replace hf := if_t hc hf
            refine lv_aload_n hx hb dX5_succeeds_105 rfl (lv_at hl 3 rfl) ?_
            refine lv_iload_n hx hb dX5_succeeds_106 rfl (lv_at hl 1 rfl) ?_
            obtain ⟨b9, h10, hf⟩ := bd1_s hf
            cases b9 with
            | true =>
              replace hf := cd_t hf
              refine k_callVR (b := r0) (ci := 2) (qb := 0) (As := [.int (irm (p1 / 1000) 10)]) (n := 1) (rest := []) (st1 := [.ref r0_first]) C hE hW hl.1 (kX2_table l D cI cZ cJ _ r0 r0_first r0_second (irm (p1 / 1000) 10) true h10) gX5_succeeds_X2_table rfl (by decide +kernel) rfl ⟨Nat.le_of_ble_eq_true rfl, Nat.le_of_ble_eq_true rfl⟩ ⟨Nat.zero_le _, Nat.zero_le _⟩ rfl rfl [0] rfl rfl (Nat.le_of_ble_eq_true rfl) rfl rfl dX5_succeeds_107 (fun H locs hW => ?_)
              obtain ⟨⟨v11, w12⟩, h13, hf⟩ := bd1_s hf
              replace hf := un2_s hf
              refine k_callS (As := [.ref r0_first]) (n := 1) (rest := []) (st1 := [.int v11]) (wr := [(r0, .inr (2, [.ref r0_first, .ref r0_second])), (r0_second, .inr (6, [.ref r0_second_numbers])), (r0_second_numbers, .inl (cI, 36, .inl u0_second_numbers))]) (ws' := [(r0, .inr (2, [.ref r0_first, .ref r0_second])), (r0_first, .inr (6, [.ref r0_first_numbers])), (r0_first_numbers, .inl (cI, 36, .inl w12)), (r0_second, .inr (6, [.ref r0_second_numbers])), (r0_second_numbers, .inl (cI, 36, .inl u0_second_numbers))]) C hE hW hl.1 (kX5_transposes l D cI cZ cJ _ r0_first r0_first_numbers u0_first_numbers v11 w12 h13) gX5_succeeds_X5_transposes rfl (by decide +kernel) rfl ⟨Nat.le_of_ble_eq_true rfl, Nat.le_of_ble_eq_true rfl⟩ ⟨Nat.zero_le _, Nat.zero_le _⟩ [1, 2] [0, 3, 4] [0, 3, 4, 1, 2] rfl rfl rfl rfl (by decide) rfl rfl (Nat.le_of_ble_eq_true rfl) rfl rfl dX5_succeeds_110 (fun H locs hW => ?_)
              refine lv_if_eq (tgt := 120) hx hb dX5_succeeds_113 (by decide) (fun hc => ?_) (fun hc => ?_)
              · replace hf := if_t hc hf
                refine lv_iconst (v := 0) hx hb dX5_succeeds_120 (by decide) ?_
                obtain ⟨rfl, rfl, rfl⟩ := sm3 hf
                exact k_zret C hlocks hr hW (by decide) hQ dX5_succeeds_121
              · replace hf := if_f hc hf
                refine lv_iconst (v := 1) hx hb dX5_succeeds_116 (by decide) ?_
                refine lv_goto (tgt := 121) hx hb dX5_succeeds_117 (by decide) ?_
                obtain ⟨rfl, rfl, rfl⟩ := sm3 hf
                exact k_zret C hlocks hr hW (by decide) hQ dX5_succeeds_121
            | false =>
              replace hf := cd_f hf
              refine k_callVR (b := r0) (ci := 2) (qb := 0) (As := [.int (irm (p1 / 1000) 10)]) (n := 1) (rest := []) (st1 := [.ref r0_second]) C hE hW hl.1 (kX2_table l D cI cZ cJ _ r0 r0_first r0_second (irm (p1 / 1000) 10) false h10) gX5_succeeds_X2_table rfl (by decide +kernel) rfl ⟨Nat.le_of_ble_eq_true rfl, Nat.le_of_ble_eq_true rfl⟩ ⟨Nat.zero_le _, Nat.zero_le _⟩ rfl rfl [0] rfl rfl (Nat.le_of_ble_eq_true rfl) rfl rfl dX5_succeeds_107 (fun H locs hW => ?_)
              obtain ⟨⟨v14, w15⟩, h16, hf⟩ := bd1_s hf
              replace hf := un2_s hf
              refine k_callS (As := [.ref r0_second]) (n := 1) (rest := []) (st1 := [.int v14]) (wr := [(r0, .inr (2, [.ref r0_first, .ref r0_second])), (r0_first, .inr (6, [.ref r0_first_numbers])), (r0_first_numbers, .inl (cI, 36, .inl u0_first_numbers))]) (ws' := [(r0, .inr (2, [.ref r0_first, .ref r0_second])), (r0_first, .inr (6, [.ref r0_first_numbers])), (r0_first_numbers, .inl (cI, 36, .inl u0_first_numbers)), (r0_second, .inr (6, [.ref r0_second_numbers])), (r0_second_numbers, .inl (cI, 36, .inl w15))]) C hE hW hl.1 (kX5_transposes l D cI cZ cJ _ r0_second r0_second_numbers u0_second_numbers v14 w15 h16) gX5_succeeds_X5_transposes rfl (by decide +kernel) rfl ⟨Nat.le_of_ble_eq_true rfl, Nat.le_of_ble_eq_true rfl⟩ ⟨Nat.zero_le _, Nat.zero_le _⟩ [3, 4] [0, 1, 2] [0, 1, 2, 3, 4] rfl rfl rfl rfl (by decide) rfl rfl (Nat.le_of_ble_eq_true rfl) rfl rfl dX5_succeeds_110 (fun H locs hW => ?_)
              refine lv_if_eq (tgt := 120) hx hb dX5_succeeds_113 (by decide) (fun hc => ?_) (fun hc => ?_)
              · replace hf := if_t hc hf
                refine lv_iconst (v := 0) hx hb dX5_succeeds_120 (by decide) ?_
                obtain ⟨rfl, rfl, rfl⟩ := sm3 hf
                exact k_zret C hlocks hr hW (by decide) hQ dX5_succeeds_121
              · replace hf := if_f hc hf
                refine lv_iconst (v := 1) hx hb dX5_succeeds_116 (by decide) ?_
                refine lv_goto (tgt := 121) hx hb dX5_succeeds_117 (by decide) ?_
                obtain ⟨rfl, rfl, rfl⟩ := sm3 hf
                exact k_zret C hlocks hr hW (by decide) hQ dX5_succeeds_121
        · replace hf := if_f hs4 hf
          by_cases hs5 : (p1 / 10000) = 5
          · replace hf := if_t hs5 hf
            refine lv_tableIn (off := 113) (tgt := 143) hx hb dX5_succeeds_30 (by rw [hs5]; decide) (by rw [hs5]; decide) (by rw [hs5]; decide +kernel) (by decide) ?_
            refine lv_iload hx hb dX5_succeeds_143 (lv_at hl 0 rfl) ?_
            refine lv_bipush (v := 99) hx hb dX5_succeeds_145 (by decide) ?_
            refine lv_icmp_gt (tgt := 168) hx hb dX5_succeeds_147 (by decide) (fun hc => ?_) (fun hc => ?_)
            · replace hf := if_t hc hf
              refine lv_iconst (v := 0) hx hb dX5_succeeds_168 (by decide) ?_
              obtain ⟨rfl, rfl, rfl⟩ := sm3 hf
              exact k_zret C hlocks hr hW (by decide) hQ dX5_succeeds_169
            · replace hf := if_f hc hf
              refine lv_aload_n hx hb dX5_succeeds_150 rfl (lv_at hl 3 rfl) ?_
              refine lv_iload_n hx hb dX5_succeeds_151 rfl (lv_at hl 1 rfl) ?_
              obtain ⟨b17, h18, hf⟩ := bd1_s hf
              cases b17 with
              | true =>
                replace hf := cd_t hf
                refine k_callVR (b := r0) (ci := 2) (qb := 0) (As := [.int (irm (p1 / 1000) 10)]) (n := 1) (rest := []) (st1 := [.ref r0_first]) C hE hW hl.1 (kX2_table l D cI cZ cJ _ r0 r0_first r0_second (irm (p1 / 1000) 10) true h18) gX5_succeeds_X2_table rfl (by decide +kernel) rfl ⟨Nat.le_of_ble_eq_true rfl, Nat.le_of_ble_eq_true rfl⟩ ⟨Nat.zero_le _, Nat.zero_le _⟩ rfl rfl [0] rfl rfl (Nat.le_of_ble_eq_true rfl) rfl rfl dX5_succeeds_152 (fun H locs hW => ?_)
                refine lv_iload_n hx hb dX5_succeeds_155 rfl (lv_at hl 2 rfl) ?_
                refine lv_iload hx hb dX5_succeeds_156 (lv_at hl 0 rfl) ?_
                obtain ⟨⟨v19, w20⟩, h21, hf⟩ := bd1_s hf
                replace hf := un2_s hf
                refine k_callS (As := [.ref r0_first, .int (p1 / 10000), .int (irm p1 1000)]) (n := 3) (rest := []) (st1 := [.int v19]) (wr := [(r0, .inr (2, [.ref r0_first, .ref r0_second])), (r0_second, .inr (6, [.ref r0_second_numbers])), (r0_second_numbers, .inl (cI, 36, .inl u0_second_numbers))]) (ws' := [(r0, .inr (2, [.ref r0_first, .ref r0_second])), (r0_first, .inr (6, [.ref r0_first_numbers])), (r0_first_numbers, .inl (cI, 36, .inl w20)), (r0_second, .inr (6, [.ref r0_second_numbers])), (r0_second_numbers, .inl (cI, 36, .inl u0_second_numbers))]) C hE hW hl.1 (kX5_succeedsWith l D cI cZ cJ _ r0_first r0_first_numbers u0_first_numbers (p1 / 10000) (irm p1 1000) v19 w20 h21) gX5_succeeds_X5_succeedsWith rfl (by decide +kernel) rfl ⟨Nat.le_of_ble_eq_true rfl, Nat.le_of_ble_eq_true rfl⟩ ⟨Nat.zero_le _, Nat.zero_le _⟩ [1, 2] [0, 3, 4] [0, 3, 4, 1, 2] rfl rfl rfl rfl (by decide) rfl rfl (Nat.le_of_ble_eq_true rfl) rfl rfl dX5_succeeds_158 (fun H locs hW => ?_)
                refine lv_if_eq (tgt := 168) hx hb dX5_succeeds_161 (by decide) (fun hc => ?_) (fun hc => ?_)
                · replace hf := if_t hc hf
                  refine lv_iconst (v := 0) hx hb dX5_succeeds_168 (by decide) ?_
                  obtain ⟨rfl, rfl, rfl⟩ := sm3 hf
                  exact k_zret C hlocks hr hW (by decide) hQ dX5_succeeds_169
                · replace hf := if_f hc hf
                  refine lv_iconst (v := 1) hx hb dX5_succeeds_164 (by decide) ?_
                  refine lv_goto (tgt := 169) hx hb dX5_succeeds_165 (by decide) ?_
                  obtain ⟨rfl, rfl, rfl⟩ := sm3 hf
                  exact k_zret C hlocks hr hW (by decide) hQ dX5_succeeds_169
              | false =>
                replace hf := cd_f hf
                refine k_callVR (b := r0) (ci := 2) (qb := 0) (As := [.int (irm (p1 / 1000) 10)]) (n := 1) (rest := []) (st1 := [.ref r0_second]) C hE hW hl.1 (kX2_table l D cI cZ cJ _ r0 r0_first r0_second (irm (p1 / 1000) 10) false h18) gX5_succeeds_X2_table rfl (by decide +kernel) rfl ⟨Nat.le_of_ble_eq_true rfl, Nat.le_of_ble_eq_true rfl⟩ ⟨Nat.zero_le _, Nat.zero_le _⟩ rfl rfl [0] rfl rfl (Nat.le_of_ble_eq_true rfl) rfl rfl dX5_succeeds_152 (fun H locs hW => ?_)
                refine lv_iload_n hx hb dX5_succeeds_155 rfl (lv_at hl 2 rfl) ?_
                refine lv_iload hx hb dX5_succeeds_156 (lv_at hl 0 rfl) ?_
                obtain ⟨⟨v22, w23⟩, h24, hf⟩ := bd1_s hf
                replace hf := un2_s hf
                refine k_callS (As := [.ref r0_second, .int (p1 / 10000), .int (irm p1 1000)]) (n := 3) (rest := []) (st1 := [.int v22]) (wr := [(r0, .inr (2, [.ref r0_first, .ref r0_second])), (r0_first, .inr (6, [.ref r0_first_numbers])), (r0_first_numbers, .inl (cI, 36, .inl u0_first_numbers))]) (ws' := [(r0, .inr (2, [.ref r0_first, .ref r0_second])), (r0_first, .inr (6, [.ref r0_first_numbers])), (r0_first_numbers, .inl (cI, 36, .inl u0_first_numbers)), (r0_second, .inr (6, [.ref r0_second_numbers])), (r0_second_numbers, .inl (cI, 36, .inl w23))]) C hE hW hl.1 (kX5_succeedsWith l D cI cZ cJ _ r0_second r0_second_numbers u0_second_numbers (p1 / 10000) (irm p1 1000) v22 w23 h24) gX5_succeeds_X5_succeedsWith rfl (by decide +kernel) rfl ⟨Nat.le_of_ble_eq_true rfl, Nat.le_of_ble_eq_true rfl⟩ ⟨Nat.zero_le _, Nat.zero_le _⟩ [3, 4] [0, 1, 2] [0, 1, 2, 3, 4] rfl rfl rfl rfl (by decide) rfl rfl (Nat.le_of_ble_eq_true rfl) rfl rfl dX5_succeeds_158 (fun H locs hW => ?_)
                refine lv_if_eq (tgt := 168) hx hb dX5_succeeds_161 (by decide) (fun hc => ?_) (fun hc => ?_)
                · replace hf := if_t hc hf
                  refine lv_iconst (v := 0) hx hb dX5_succeeds_168 (by decide) ?_
                  obtain ⟨rfl, rfl, rfl⟩ := sm3 hf
                  exact k_zret C hlocks hr hW (by decide) hQ dX5_succeeds_169
                · replace hf := if_f hc hf
                  refine lv_iconst (v := 1) hx hb dX5_succeeds_164 (by decide) ?_
                  refine lv_goto (tgt := 169) hx hb dX5_succeeds_165 (by decide) ?_
                  obtain ⟨rfl, rfl, rfl⟩ := sm3 hf
                  exact k_zret C hlocks hr hW (by decide) hQ dX5_succeeds_169
          · replace hf := if_f hs5 hf
            by_cases hs6 : (p1 / 10000) = 6
            · replace hf := if_t hs6 hf
              refine lv_tableIn (off := 113) (tgt := 143) hx hb dX5_succeeds_30 (by rw [hs6]; decide) (by rw [hs6]; decide) (by rw [hs6]; decide +kernel) (by decide) ?_
              refine lv_iload hx hb dX5_succeeds_143 (lv_at hl 0 rfl) ?_
              refine lv_bipush (v := 99) hx hb dX5_succeeds_145 (by decide) ?_
              refine lv_icmp_gt (tgt := 168) hx hb dX5_succeeds_147 (by decide) (fun hc => ?_) (fun hc => ?_)
              · replace hf := if_t hc hf
                refine lv_iconst (v := 0) hx hb dX5_succeeds_168 (by decide) ?_
                obtain ⟨rfl, rfl, rfl⟩ := sm3 hf
                exact k_zret C hlocks hr hW (by decide) hQ dX5_succeeds_169
              · replace hf := if_f hc hf
                refine lv_aload_n hx hb dX5_succeeds_150 rfl (lv_at hl 3 rfl) ?_
                refine lv_iload_n hx hb dX5_succeeds_151 rfl (lv_at hl 1 rfl) ?_
                obtain ⟨b25, h26, hf⟩ := bd1_s hf
                cases b25 with
                | true =>
                  replace hf := cd_t hf
                  refine k_callVR (b := r0) (ci := 2) (qb := 0) (As := [.int (irm (p1 / 1000) 10)]) (n := 1) (rest := []) (st1 := [.ref r0_first]) C hE hW hl.1 (kX2_table l D cI cZ cJ _ r0 r0_first r0_second (irm (p1 / 1000) 10) true h26) gX5_succeeds_X2_table rfl (by decide +kernel) rfl ⟨Nat.le_of_ble_eq_true rfl, Nat.le_of_ble_eq_true rfl⟩ ⟨Nat.zero_le _, Nat.zero_le _⟩ rfl rfl [0] rfl rfl (Nat.le_of_ble_eq_true rfl) rfl rfl dX5_succeeds_152 (fun H locs hW => ?_)
                  refine lv_iload_n hx hb dX5_succeeds_155 rfl (lv_at hl 2 rfl) ?_
                  refine lv_iload hx hb dX5_succeeds_156 (lv_at hl 0 rfl) ?_
                  obtain ⟨⟨v27, w28⟩, h29, hf⟩ := bd1_s hf
                  replace hf := un2_s hf
                  refine k_callS (As := [.ref r0_first, .int (p1 / 10000), .int (irm p1 1000)]) (n := 3) (rest := []) (st1 := [.int v27]) (wr := [(r0, .inr (2, [.ref r0_first, .ref r0_second])), (r0_second, .inr (6, [.ref r0_second_numbers])), (r0_second_numbers, .inl (cI, 36, .inl u0_second_numbers))]) (ws' := [(r0, .inr (2, [.ref r0_first, .ref r0_second])), (r0_first, .inr (6, [.ref r0_first_numbers])), (r0_first_numbers, .inl (cI, 36, .inl w28)), (r0_second, .inr (6, [.ref r0_second_numbers])), (r0_second_numbers, .inl (cI, 36, .inl u0_second_numbers))]) C hE hW hl.1 (kX5_succeedsWith l D cI cZ cJ _ r0_first r0_first_numbers u0_first_numbers (p1 / 10000) (irm p1 1000) v27 w28 h29) gX5_succeeds_X5_succeedsWith rfl (by decide +kernel) rfl ⟨Nat.le_of_ble_eq_true rfl, Nat.le_of_ble_eq_true rfl⟩ ⟨Nat.zero_le _, Nat.zero_le _⟩ [1, 2] [0, 3, 4] [0, 3, 4, 1, 2] rfl rfl rfl rfl (by decide) rfl rfl (Nat.le_of_ble_eq_true rfl) rfl rfl dX5_succeeds_158 (fun H locs hW => ?_)
                  refine lv_if_eq (tgt := 168) hx hb dX5_succeeds_161 (by decide) (fun hc => ?_) (fun hc => ?_)
                  · replace hf := if_t hc hf
                    refine lv_iconst (v := 0) hx hb dX5_succeeds_168 (by decide) ?_
                    obtain ⟨rfl, rfl, rfl⟩ := sm3 hf
                    exact k_zret C hlocks hr hW (by decide) hQ dX5_succeeds_169
                  · replace hf := if_f hc hf
                    refine lv_iconst (v := 1) hx hb dX5_succeeds_164 (by decide) ?_
                    refine lv_goto (tgt := 169) hx hb dX5_succeeds_165 (by decide) ?_
                    obtain ⟨rfl, rfl, rfl⟩ := sm3 hf
                    exact k_zret C hlocks hr hW (by decide) hQ dX5_succeeds_169
                | false =>
                  replace hf := cd_f hf
                  refine k_callVR (b := r0) (ci := 2) (qb := 0) (As := [.int (irm (p1 / 1000) 10)]) (n := 1) (rest := []) (st1 := [.ref r0_second]) C hE hW hl.1 (kX2_table l D cI cZ cJ _ r0 r0_first r0_second (irm (p1 / 1000) 10) false h26) gX5_succeeds_X2_table rfl (by decide +kernel) rfl ⟨Nat.le_of_ble_eq_true rfl, Nat.le_of_ble_eq_true rfl⟩ ⟨Nat.zero_le _, Nat.zero_le _⟩ rfl rfl [0] rfl rfl (Nat.le_of_ble_eq_true rfl) rfl rfl dX5_succeeds_152 (fun H locs hW => ?_)
                  refine lv_iload_n hx hb dX5_succeeds_155 rfl (lv_at hl 2 rfl) ?_
                  refine lv_iload hx hb dX5_succeeds_156 (lv_at hl 0 rfl) ?_
                  obtain ⟨⟨v30, w31⟩, h32, hf⟩ := bd1_s hf
                  replace hf := un2_s hf
                  refine k_callS (As := [.ref r0_second, .int (p1 / 10000), .int (irm p1 1000)]) (n := 3) (rest := []) (st1 := [.int v30]) (wr := [(r0, .inr (2, [.ref r0_first, .ref r0_second])), (r0_first, .inr (6, [.ref r0_first_numbers])), (r0_first_numbers, .inl (cI, 36, .inl u0_first_numbers))]) (ws' := [(r0, .inr (2, [.ref r0_first, .ref r0_second])), (r0_first, .inr (6, [.ref r0_first_numbers])), (r0_first_numbers, .inl (cI, 36, .inl u0_first_numbers)), (r0_second, .inr (6, [.ref r0_second_numbers])), (r0_second_numbers, .inl (cI, 36, .inl w31))]) C hE hW hl.1 (kX5_succeedsWith l D cI cZ cJ _ r0_second r0_second_numbers u0_second_numbers (p1 / 10000) (irm p1 1000) v30 w31 h32) gX5_succeeds_X5_succeedsWith rfl (by decide +kernel) rfl ⟨Nat.le_of_ble_eq_true rfl, Nat.le_of_ble_eq_true rfl⟩ ⟨Nat.zero_le _, Nat.zero_le _⟩ [3, 4] [0, 1, 2] [0, 1, 2, 3, 4] rfl rfl rfl rfl (by decide) rfl rfl (Nat.le_of_ble_eq_true rfl) rfl rfl dX5_succeeds_158 (fun H locs hW => ?_)
                  refine lv_if_eq (tgt := 168) hx hb dX5_succeeds_161 (by decide) (fun hc => ?_) (fun hc => ?_)
                  · replace hf := if_t hc hf
                    refine lv_iconst (v := 0) hx hb dX5_succeeds_168 (by decide) ?_
                    obtain ⟨rfl, rfl, rfl⟩ := sm3 hf
                    exact k_zret C hlocks hr hW (by decide) hQ dX5_succeeds_169
                  · replace hf := if_f hc hf
                    refine lv_iconst (v := 1) hx hb dX5_succeeds_164 (by decide) ?_
                    refine lv_goto (tgt := 169) hx hb dX5_succeeds_165 (by decide) ?_
                    obtain ⟨rfl, rfl, rfl⟩ := sm3 hf
                    exact k_zret C hlocks hr hW (by decide) hQ dX5_succeeds_169
            · replace hf := if_f hs6 hf
              by_cases hs7 : (p1 / 10000) = 7
              · replace hf := if_t hs7 hf
                refine lv_tableIn (off := 113) (tgt := 143) hx hb dX5_succeeds_30 (by rw [hs7]; decide) (by rw [hs7]; decide) (by rw [hs7]; decide +kernel) (by decide) ?_
                refine lv_iload hx hb dX5_succeeds_143 (lv_at hl 0 rfl) ?_
                refine lv_bipush (v := 99) hx hb dX5_succeeds_145 (by decide) ?_
                refine lv_icmp_gt (tgt := 168) hx hb dX5_succeeds_147 (by decide) (fun hc => ?_) (fun hc => ?_)
                · replace hf := if_t hc hf
                  refine lv_iconst (v := 0) hx hb dX5_succeeds_168 (by decide) ?_
                  obtain ⟨rfl, rfl, rfl⟩ := sm3 hf
                  exact k_zret C hlocks hr hW (by decide) hQ dX5_succeeds_169
                · replace hf := if_f hc hf
                  refine lv_aload_n hx hb dX5_succeeds_150 rfl (lv_at hl 3 rfl) ?_
                  refine lv_iload_n hx hb dX5_succeeds_151 rfl (lv_at hl 1 rfl) ?_
                  obtain ⟨b33, h34, hf⟩ := bd1_s hf
                  cases b33 with
                  | true =>
                    replace hf := cd_t hf
                    refine k_callVR (b := r0) (ci := 2) (qb := 0) (As := [.int (irm (p1 / 1000) 10)]) (n := 1) (rest := []) (st1 := [.ref r0_first]) C hE hW hl.1 (kX2_table l D cI cZ cJ _ r0 r0_first r0_second (irm (p1 / 1000) 10) true h34) gX5_succeeds_X2_table rfl (by decide +kernel) rfl ⟨Nat.le_of_ble_eq_true rfl, Nat.le_of_ble_eq_true rfl⟩ ⟨Nat.zero_le _, Nat.zero_le _⟩ rfl rfl [0] rfl rfl (Nat.le_of_ble_eq_true rfl) rfl rfl dX5_succeeds_152 (fun H locs hW => ?_)
                    refine lv_iload_n hx hb dX5_succeeds_155 rfl (lv_at hl 2 rfl) ?_
                    refine lv_iload hx hb dX5_succeeds_156 (lv_at hl 0 rfl) ?_
                    obtain ⟨⟨v35, w36⟩, h37, hf⟩ := bd1_s hf
                    replace hf := un2_s hf
                    refine k_callS (As := [.ref r0_first, .int (p1 / 10000), .int (irm p1 1000)]) (n := 3) (rest := []) (st1 := [.int v35]) (wr := [(r0, .inr (2, [.ref r0_first, .ref r0_second])), (r0_second, .inr (6, [.ref r0_second_numbers])), (r0_second_numbers, .inl (cI, 36, .inl u0_second_numbers))]) (ws' := [(r0, .inr (2, [.ref r0_first, .ref r0_second])), (r0_first, .inr (6, [.ref r0_first_numbers])), (r0_first_numbers, .inl (cI, 36, .inl w36)), (r0_second, .inr (6, [.ref r0_second_numbers])), (r0_second_numbers, .inl (cI, 36, .inl u0_second_numbers))]) C hE hW hl.1 (kX5_succeedsWith l D cI cZ cJ _ r0_first r0_first_numbers u0_first_numbers (p1 / 10000) (irm p1 1000) v35 w36 h37) gX5_succeeds_X5_succeedsWith rfl (by decide +kernel) rfl ⟨Nat.le_of_ble_eq_true rfl, Nat.le_of_ble_eq_true rfl⟩ ⟨Nat.zero_le _, Nat.zero_le _⟩ [1, 2] [0, 3, 4] [0, 3, 4, 1, 2] rfl rfl rfl rfl (by decide) rfl rfl (Nat.le_of_ble_eq_true rfl) rfl rfl dX5_succeeds_158 (fun H locs hW => ?_)
                    refine lv_if_eq (tgt := 168) hx hb dX5_succeeds_161 (by decide) (fun hc => ?_) (fun hc => ?_)
                    · replace hf := if_t hc hf
                      refine lv_iconst (v := 0) hx hb dX5_succeeds_168 (by decide) ?_
                      obtain ⟨rfl, rfl, rfl⟩ := sm3 hf
                      exact k_zret C hlocks hr hW (by decide) hQ dX5_succeeds_169
                    · replace hf := if_f hc hf
                      refine lv_iconst (v := 1) hx hb dX5_succeeds_164 (by decide) ?_
                      refine lv_goto (tgt := 169) hx hb dX5_succeeds_165 (by decide) ?_
                      obtain ⟨rfl, rfl, rfl⟩ := sm3 hf
                      exact k_zret C hlocks hr hW (by decide) hQ dX5_succeeds_169
                  | false =>
                    replace hf := cd_f hf
                    refine k_callVR (b := r0) (ci := 2) (qb := 0) (As := [.int (irm (p1 / 1000) 10)]) (n := 1) (rest := []) (st1 := [.ref r0_second]) C hE hW hl.1 (kX2_table l D cI cZ cJ _ r0 r0_first r0_second (irm (p1 / 1000) 10) false h34) gX5_succeeds_X2_table rfl (by decide +kernel) rfl ⟨Nat.le_of_ble_eq_true rfl, Nat.le_of_ble_eq_true rfl⟩ ⟨Nat.zero_le _, Nat.zero_le _⟩ rfl rfl [0] rfl rfl (Nat.le_of_ble_eq_true rfl) rfl rfl dX5_succeeds_152 (fun H locs hW => ?_)
                    refine lv_iload_n hx hb dX5_succeeds_155 rfl (lv_at hl 2 rfl) ?_
                    refine lv_iload hx hb dX5_succeeds_156 (lv_at hl 0 rfl) ?_
                    obtain ⟨⟨v38, w39⟩, h40, hf⟩ := bd1_s hf
                    replace hf := un2_s hf
                    refine k_callS (As := [.ref r0_second, .int (p1 / 10000), .int (irm p1 1000)]) (n := 3) (rest := []) (st1 := [.int v38]) (wr := [(r0, .inr (2, [.ref r0_first, .ref r0_second])), (r0_first, .inr (6, [.ref r0_first_numbers])), (r0_first_numbers, .inl (cI, 36, .inl u0_first_numbers))]) (ws' := [(r0, .inr (2, [.ref r0_first, .ref r0_second])), (r0_first, .inr (6, [.ref r0_first_numbers])), (r0_first_numbers, .inl (cI, 36, .inl u0_first_numbers)), (r0_second, .inr (6, [.ref r0_second_numbers])), (r0_second_numbers, .inl (cI, 36, .inl w39))]) C hE hW hl.1 (kX5_succeedsWith l D cI cZ cJ _ r0_second r0_second_numbers u0_second_numbers (p1 / 10000) (irm p1 1000) v38 w39 h40) gX5_succeeds_X5_succeedsWith rfl (by decide +kernel) rfl ⟨Nat.le_of_ble_eq_true rfl, Nat.le_of_ble_eq_true rfl⟩ ⟨Nat.zero_le _, Nat.zero_le _⟩ [3, 4] [0, 1, 2] [0, 1, 2, 3, 4] rfl rfl rfl rfl (by decide) rfl rfl (Nat.le_of_ble_eq_true rfl) rfl rfl dX5_succeeds_158 (fun H locs hW => ?_)
                    refine lv_if_eq (tgt := 168) hx hb dX5_succeeds_161 (by decide) (fun hc => ?_) (fun hc => ?_)
                    · replace hf := if_t hc hf
                      refine lv_iconst (v := 0) hx hb dX5_succeeds_168 (by decide) ?_
                      obtain ⟨rfl, rfl, rfl⟩ := sm3 hf
                      exact k_zret C hlocks hr hW (by decide) hQ dX5_succeeds_169
                    · replace hf := if_f hc hf
                      refine lv_iconst (v := 1) hx hb dX5_succeeds_164 (by decide) ?_
                      refine lv_goto (tgt := 169) hx hb dX5_succeeds_165 (by decide) ?_
                      obtain ⟨rfl, rfl, rfl⟩ := sm3 hf
                      exact k_zret C hlocks hr hW (by decide) hQ dX5_succeeds_169
              · replace hf := if_f hs7 hf
                by_cases hs8 : (p1 / 10000) = 8
                · replace hf := if_t hs8 hf
                  refine lv_tableIn (off := 92) (tgt := 122) hx hb dX5_succeeds_30 (by rw [hs8]; decide) (by rw [hs8]; decide) (by rw [hs8]; decide +kernel) (by decide) ?_
                  refine lv_iload_n hx hb dX5_succeeds_122 rfl (lv_at hl 1 rfl) ?_
                  refine lv_if_ne (tgt := 141) hx hb dX5_succeeds_123 (by decide) (fun hc => ?_) (fun hc => ?_)
                  · replace hf := if_f hc hf
                    refine lv_iconst (v := 0) hx hb dX5_succeeds_141 (by decide) ?_
                    obtain ⟨rfl, rfl, rfl⟩ := sm3 hf
                    exact k_zret C hlocks hr hW (by decide) hQ dX5_succeeds_142
                  · replace hf := if_t hc hf
                    refine lv_aload_n hx hb dX5_succeeds_126 rfl (lv_at hl 3 rfl) ?_
                    refine lv_bipush (v := 99) hx hb dX5_succeeds_127 (by decide) ?_
                    obtain ⟨v41, h42, hf⟩ := bd1_s hf
                    refine k_callVR (b := r0) (ci := 2) (qb := 0) (As := [.int 99]) (n := 1) (rest := []) (st1 := [.int v41]) C hE hW hl.1 (kX2_pairsUpTo l D cI cZ cJ _ r0 r0_first r0_first_numbers r0_second r0_second_numbers u0_first_numbers u0_second_numbers 99 v41 h42) gX5_succeeds_X2_pairsUpTo rfl (by decide +kernel) rfl ⟨Nat.le_of_ble_eq_true rfl, Nat.le_of_ble_eq_true rfl⟩ ⟨Nat.zero_le _, Nat.zero_le _⟩ rfl rfl [0, 1, 2, 3, 4] rfl rfl (Nat.le_of_ble_eq_true rfl) rfl rfl dX5_succeeds_129 (fun H locs hW => ?_)
                    refine lv_iload hx hb dX5_succeeds_132 (lv_at hl 0 rfl) ?_
                    refine lv_icmp_ne (tgt := 141) hx hb dX5_succeeds_134 (by decide) (fun hc => ?_) (fun hc => ?_)
                    · replace hf := if_f hc hf
                      refine lv_iconst (v := 0) hx hb dX5_succeeds_141 (by decide) ?_
                      obtain ⟨rfl, rfl, rfl⟩ := sm3 hf
                      exact k_zret C hlocks hr hW (by decide) hQ dX5_succeeds_142
                    · replace hf := if_t hc hf
                      refine lv_iconst (v := 1) hx hb dX5_succeeds_137 (by decide) ?_
                      refine lv_goto (tgt := 142) hx hb dX5_succeeds_138 (by decide) ?_
                      obtain ⟨rfl, rfl, rfl⟩ := sm3 hf
                      exact k_zret C hlocks hr hW (by decide) hQ dX5_succeeds_142
                · replace hf := if_f hs8 hf
                  refine lv_tableOut (tgt := 143) hx hb dX5_succeeds_30 (kt_out7_2 hs2 hs3 hs4 hs5 hs6 hs7 hs8) (by decide) ?_
                  refine lv_iload hx hb dX5_succeeds_143 (lv_at hl 0 rfl) ?_
                  refine lv_bipush (v := 99) hx hb dX5_succeeds_145 (by decide) ?_
                  refine lv_icmp_gt (tgt := 168) hx hb dX5_succeeds_147 (by decide) (fun hc => ?_) (fun hc => ?_)
                  · replace hf := if_t hc hf
                    refine lv_iconst (v := 0) hx hb dX5_succeeds_168 (by decide) ?_
                    obtain ⟨rfl, rfl, rfl⟩ := sm3 hf
                    exact k_zret C hlocks hr hW (by decide) hQ dX5_succeeds_169
                  · replace hf := if_f hc hf
                    refine lv_aload_n hx hb dX5_succeeds_150 rfl (lv_at hl 3 rfl) ?_
                    refine lv_iload_n hx hb dX5_succeeds_151 rfl (lv_at hl 1 rfl) ?_
                    obtain ⟨b43, h44, hf⟩ := bd1_s hf
                    cases b43 with
                    | true =>
                      replace hf := cd_t hf
                      refine k_callVR (b := r0) (ci := 2) (qb := 0) (As := [.int (irm (p1 / 1000) 10)]) (n := 1) (rest := []) (st1 := [.ref r0_first]) C hE hW hl.1 (kX2_table l D cI cZ cJ _ r0 r0_first r0_second (irm (p1 / 1000) 10) true h44) gX5_succeeds_X2_table rfl (by decide +kernel) rfl ⟨Nat.le_of_ble_eq_true rfl, Nat.le_of_ble_eq_true rfl⟩ ⟨Nat.zero_le _, Nat.zero_le _⟩ rfl rfl [0] rfl rfl (Nat.le_of_ble_eq_true rfl) rfl rfl dX5_succeeds_152 (fun H locs hW => ?_)
                      refine lv_iload_n hx hb dX5_succeeds_155 rfl (lv_at hl 2 rfl) ?_
                      refine lv_iload hx hb dX5_succeeds_156 (lv_at hl 0 rfl) ?_
                      obtain ⟨⟨v45, w46⟩, h47, hf⟩ := bd1_s hf
                      replace hf := un2_s hf
                      refine k_callS (As := [.ref r0_first, .int (p1 / 10000), .int (irm p1 1000)]) (n := 3) (rest := []) (st1 := [.int v45]) (wr := [(r0, .inr (2, [.ref r0_first, .ref r0_second])), (r0_second, .inr (6, [.ref r0_second_numbers])), (r0_second_numbers, .inl (cI, 36, .inl u0_second_numbers))]) (ws' := [(r0, .inr (2, [.ref r0_first, .ref r0_second])), (r0_first, .inr (6, [.ref r0_first_numbers])), (r0_first_numbers, .inl (cI, 36, .inl w46)), (r0_second, .inr (6, [.ref r0_second_numbers])), (r0_second_numbers, .inl (cI, 36, .inl u0_second_numbers))]) C hE hW hl.1 (kX5_succeedsWith l D cI cZ cJ _ r0_first r0_first_numbers u0_first_numbers (p1 / 10000) (irm p1 1000) v45 w46 h47) gX5_succeeds_X5_succeedsWith rfl (by decide +kernel) rfl ⟨Nat.le_of_ble_eq_true rfl, Nat.le_of_ble_eq_true rfl⟩ ⟨Nat.zero_le _, Nat.zero_le _⟩ [1, 2] [0, 3, 4] [0, 3, 4, 1, 2] rfl rfl rfl rfl (by decide) rfl rfl (Nat.le_of_ble_eq_true rfl) rfl rfl dX5_succeeds_158 (fun H locs hW => ?_)
                      refine lv_if_eq (tgt := 168) hx hb dX5_succeeds_161 (by decide) (fun hc => ?_) (fun hc => ?_)
                      · replace hf := if_t hc hf
                        refine lv_iconst (v := 0) hx hb dX5_succeeds_168 (by decide) ?_
                        obtain ⟨rfl, rfl, rfl⟩ := sm3 hf
                        exact k_zret C hlocks hr hW (by decide) hQ dX5_succeeds_169
                      · replace hf := if_f hc hf
                        refine lv_iconst (v := 1) hx hb dX5_succeeds_164 (by decide) ?_
                        refine lv_goto (tgt := 169) hx hb dX5_succeeds_165 (by decide) ?_
                        obtain ⟨rfl, rfl, rfl⟩ := sm3 hf
                        exact k_zret C hlocks hr hW (by decide) hQ dX5_succeeds_169
                    | false =>
                      replace hf := cd_f hf
                      refine k_callVR (b := r0) (ci := 2) (qb := 0) (As := [.int (irm (p1 / 1000) 10)]) (n := 1) (rest := []) (st1 := [.ref r0_second]) C hE hW hl.1 (kX2_table l D cI cZ cJ _ r0 r0_first r0_second (irm (p1 / 1000) 10) false h44) gX5_succeeds_X2_table rfl (by decide +kernel) rfl ⟨Nat.le_of_ble_eq_true rfl, Nat.le_of_ble_eq_true rfl⟩ ⟨Nat.zero_le _, Nat.zero_le _⟩ rfl rfl [0] rfl rfl (Nat.le_of_ble_eq_true rfl) rfl rfl dX5_succeeds_152 (fun H locs hW => ?_)
                      refine lv_iload_n hx hb dX5_succeeds_155 rfl (lv_at hl 2 rfl) ?_
                      refine lv_iload hx hb dX5_succeeds_156 (lv_at hl 0 rfl) ?_
                      obtain ⟨⟨v48, w49⟩, h50, hf⟩ := bd1_s hf
                      replace hf := un2_s hf
                      refine k_callS (As := [.ref r0_second, .int (p1 / 10000), .int (irm p1 1000)]) (n := 3) (rest := []) (st1 := [.int v48]) (wr := [(r0, .inr (2, [.ref r0_first, .ref r0_second])), (r0_first, .inr (6, [.ref r0_first_numbers])), (r0_first_numbers, .inl (cI, 36, .inl u0_first_numbers))]) (ws' := [(r0, .inr (2, [.ref r0_first, .ref r0_second])), (r0_first, .inr (6, [.ref r0_first_numbers])), (r0_first_numbers, .inl (cI, 36, .inl u0_first_numbers)), (r0_second, .inr (6, [.ref r0_second_numbers])), (r0_second_numbers, .inl (cI, 36, .inl w49))]) C hE hW hl.1 (kX5_succeedsWith l D cI cZ cJ _ r0_second r0_second_numbers u0_second_numbers (p1 / 10000) (irm p1 1000) v48 w49 h50) gX5_succeeds_X5_succeedsWith rfl (by decide +kernel) rfl ⟨Nat.le_of_ble_eq_true rfl, Nat.le_of_ble_eq_true rfl⟩ ⟨Nat.zero_le _, Nat.zero_le _⟩ [3, 4] [0, 1, 2] [0, 1, 2, 3, 4] rfl rfl rfl rfl (by decide) rfl rfl (Nat.le_of_ble_eq_true rfl) rfl rfl dX5_succeeds_158 (fun H locs hW => ?_)
                      refine lv_if_eq (tgt := 168) hx hb dX5_succeeds_161 (by decide) (fun hc => ?_) (fun hc => ?_)
                      · replace hf := if_t hc hf
                        refine lv_iconst (v := 0) hx hb dX5_succeeds_168 (by decide) ?_
                        obtain ⟨rfl, rfl, rfl⟩ := sm3 hf
                        exact k_zret C hlocks hr hW (by decide) hQ dX5_succeeds_169
                      · replace hf := if_f hc hf
                        refine lv_iconst (v := 1) hx hb dX5_succeeds_164 (by decide) ?_
                        refine lv_goto (tgt := 169) hx hb dX5_succeeds_165 (by decide) ?_
                        obtain ⟨rfl, rfl, rfl⟩ := sm3 hf
                        exact k_zret C hlocks hr hW (by decide) hQ dX5_succeeds_169
  · replace hf := if_f hc hf
    refine lv_iconst (v := 0) hx hb dX5_succeeds_27 (by decide) ?_
    obtain ⟨rfl, rfl, rfl⟩ := sm3 hf
    exact k_zret C hlocks hr hW (by decide) hQ dX5_succeeds_28

set_option maxHeartbeats 4000000 in
set_option maxRecDepth 100000 in
theorem kX6_isFilled (l : Launch) (D : va_G) (cI cZ cJ : ClassId) (sz : Nat) (q q_tables : Nat) (u_filled : Int32) (r : Int32) (hf : pX6_isFilled u_filled = some r) : kMet l D cI cZ cJ yX6_isFilled wsX6_isFilled 0 0 [.ref q] [(q, .inr (5, [.ref q_tables, .int u_filled]))] sz (some (.int r)) [(q, .inr (5, [.ref q_tables, .int u_filled]))] := by
  refine kM_of (cc := cX6_isFilled) (maxL := 1) (ret := (some .boolean)) (by decide) rfl (Nat.le_of_ble_eq_true rfl) ?_
  intro p e s m args below meth c A Q ls hQ C hlocks hr hE hW hl
  have hx := C.1
  have hb := C.2.1
  have hts := C.2.2.2.2
  have hl : lv_has ls 1 [(0, .ref q)] := hl
  have iX6 : ∀ w ∈ u_ws RX6 TX6 2, w ∈ wsX6_isFilled := by decide +kernel
  have f16 := hts (.fieldLink RX6 16 "SortedTables$Slot" "filled" "Z") (by decide +kernel)
  unfold pX6_isFilled at hf
  refine lv_aload_n hx hb dX6_isFilled_0 rfl (lv_at hl 0 rfl) ?_
  refine k_get C hE hW iX6 0 rfl rfl 1 (by decide) f16 (fun _ h9 => h9) rfl dX6_isFilled_1 ?_
  obtain ⟨v1, h2, hf⟩ := bd1_s hf
  obtain ⟨hn3, rfl⟩ := zb_s h2
  obtain rfl := Option.some.inj hf
  exact k_zret C hlocks hr hW hn3 hQ dX6_isFilled_4

set_option maxHeartbeats 4000000 in
set_option maxRecDepth 100000 in
theorem kX6_tables (l : Launch) (D : va_G) (cI cZ cJ : ClassId) (sz : Nat) (q q_tables : Nat) (u_filled : Int32)  (hf : pX6_tables = some ()) : kMet l D cI cZ cJ yX6_tables wsX6_tables 0 0 [.ref q] [(q, .inr (5, [.ref q_tables, .int u_filled]))] sz (some (.ref q_tables)) [(q, .inr (5, [.ref q_tables, .int u_filled]))] := by
  refine kM_of (cc := cX6_tables) (maxL := 1) (ret := (some (.object "SortedTables$Pair"))) (by decide) rfl (Nat.le_of_ble_eq_true rfl) ?_
  intro p e s m args below meth c A Q ls hQ C hlocks hr hE hW hl
  have hx := C.1
  have hb := C.2.1
  have hts := C.2.2.2.2
  have hl : lv_has ls 1 [(0, .ref q)] := hl
  have iX6 : ∀ w ∈ u_ws RX6 TX6 2, w ∈ wsX6_tables := by decide +kernel
  have f10 := hts (.fieldLink RX6 10 "SortedTables$Slot" "tables" "LSortedTables$Pair;") (by decide +kernel)
  unfold pX6_tables at hf
  refine lv_aload_n hx hb dX6_tables_0 rfl (lv_at hl 0 rfl) ?_
  refine k_get C hE hW iX6 0 rfl rfl 0 (by decide) f10 (fun _ h9 => h9) rfl dX6_tables_1 ?_
  exact k_aret C hlocks hr hW hQ dX6_tables_4

set_option maxHeartbeats 4000000 in
set_option maxRecDepth 100000 in
theorem kX6_fill (l : Launch) (D : va_G) (cI cZ cJ : ClassId) (sz : Nat) (q q_tables q_tables_first q_tables_first_numbers q_tables_second q_tables_second_numbers r0 r0_first r0_first_numbers r0_second r0_second_numbers : Nat) (u_filled : Int32) (u_tables_first_numbers : Nat → Int32) (u_tables_second_numbers : Nat → Int32) (u0_first_numbers : Nat → Int32) (u0_second_numbers : Nat → Int32) (u_filled' : Int32) (u_tables_first_numbers' : Nat → Int32) (u_tables_second_numbers' : Nat → Int32) (hf : pX6_fill u_filled u_tables_first_numbers u_tables_second_numbers u0_first_numbers u0_second_numbers = some (u_filled', u_tables_first_numbers', u_tables_second_numbers')) : kMet l D cI cZ cJ yX6_fill wsX6_fill 3 82 [.ref q, .ref r0] [(q, .inr (5, [.ref q_tables, .int u_filled])), (q_tables, .inr (2, [.ref q_tables_first, .ref q_tables_second])), (q_tables_first, .inr (6, [.ref q_tables_first_numbers])), (q_tables_first_numbers, .inl (cI, 36, .inl u_tables_first_numbers)), (q_tables_second, .inr (6, [.ref q_tables_second_numbers])), (q_tables_second_numbers, .inl (cI, 36, .inl u_tables_second_numbers)), (r0, .inr (2, [.ref r0_first, .ref r0_second])), (r0_first, .inr (6, [.ref r0_first_numbers])), (r0_first_numbers, .inl (cI, 36, .inl u0_first_numbers)), (r0_second, .inr (6, [.ref r0_second_numbers])), (r0_second_numbers, .inl (cI, 36, .inl u0_second_numbers))] sz none [(q, .inr (5, [.ref q_tables, .int u_filled'])), (q_tables, .inr (2, [.ref q_tables_first, .ref q_tables_second])), (q_tables_first, .inr (6, [.ref q_tables_first_numbers])), (q_tables_first_numbers, .inl (cI, 36, .inl u_tables_first_numbers')), (q_tables_second, .inr (6, [.ref q_tables_second_numbers])), (q_tables_second_numbers, .inl (cI, 36, .inl u_tables_second_numbers')), (r0, .inr (2, [.ref r0_first, .ref r0_second])), (r0_first, .inr (6, [.ref r0_first_numbers])), (r0_first_numbers, .inl (cI, 36, .inl u0_first_numbers)), (r0_second, .inr (6, [.ref r0_second_numbers])), (r0_second_numbers, .inl (cI, 36, .inl u0_second_numbers))] := by
  refine kM_of (cc := cX6_fill) (maxL := 2) (ret := none) (by decide) rfl (Nat.le_of_ble_eq_true rfl) ?_
  intro p e s m args below meth c A Q ls hQ C hlocks hr hE hW hl
  have hx := C.1
  have hb := C.2.1
  have hts := C.2.2.2.2
  have hl : lv_has ls 2 [(0, .ref q), (1, .ref r0)] := hl
  have iX6 : ∀ w ∈ u_ws RX6 TX6 2, w ∈ wsX6_fill := by decide +kernel
  have f10 := hts (.fieldLink RX6 10 "SortedTables$Slot" "tables" "LSortedTables$Pair;") (by decide +kernel)
  have f16 := hts (.fieldLink RX6 16 "SortedTables$Slot" "filled" "Z") (by decide +kernel)
  unfold pX6_fill at hf
  refine lv_aload_n hx hb dX6_fill_0 rfl (lv_at hl 0 rfl) ?_
  refine k_get C hE hW iX6 0 rfl rfl 0 (by decide) f10 (fun _ h9 => h9) rfl dX6_fill_1 ?_
  refine lv_aload_n hx hb dX6_fill_4 rfl (lv_at hl 1 rfl) ?_
  obtain ⟨⟨w1, w2⟩, h3, hf⟩ := bd1_s hf
  replace hf := un2_s hf
  refine k_callV (b := q_tables) (ci := 2) (qb := 0) (As := [.ref r0]) (n := 1) (rest := []) (st1 := []) (wr := [(q, .inr (5, [.ref q_tables, .int u_filled]))]) (ws' := [(q, .inr (5, [.ref q_tables, .int u_filled])), (q_tables, .inr (2, [.ref q_tables_first, .ref q_tables_second])), (q_tables_first, .inr (6, [.ref q_tables_first_numbers])), (q_tables_first_numbers, .inl (cI, 36, .inl w1)), (q_tables_second, .inr (6, [.ref q_tables_second_numbers])), (q_tables_second_numbers, .inl (cI, 36, .inl w2)), (r0, .inr (2, [.ref r0_first, .ref r0_second])), (r0_first, .inr (6, [.ref r0_first_numbers])), (r0_first_numbers, .inl (cI, 36, .inl u0_first_numbers)), (r0_second, .inr (6, [.ref r0_second_numbers])), (r0_second_numbers, .inl (cI, 36, .inl u0_second_numbers))]) C hE hW hl.1 (kX2_copyFrom l D cI cZ cJ _ q_tables q_tables_first q_tables_first_numbers q_tables_second q_tables_second_numbers r0 r0_first r0_first_numbers r0_second r0_second_numbers u_tables_first_numbers u_tables_second_numbers u0_first_numbers u0_second_numbers w1 w2 h3) gX6_fill_X2_copyFrom rfl (by decide +kernel) rfl ⟨Nat.le_of_ble_eq_true rfl, Nat.le_of_ble_eq_true rfl⟩ ⟨Nat.zero_le _, Nat.zero_le _⟩ rfl rfl [1, 2, 3, 4, 5, 6, 7, 8, 9, 10] [0] [0, 1, 2, 3, 4, 5, 6, 7, 8, 9, 10] rfl rfl rfl rfl (by decide) rfl rfl (Nat.le_of_ble_eq_true rfl) rfl rfl dX6_fill_5 (fun H locs hW => ?_)
  refine lv_aload_n hx hb dX6_fill_8 rfl (lv_at hl 0 rfl) ?_
  refine lv_iconst (v := 1) hx hb dX6_fill_9 (by decide) ?_
  refine k_put (v := .int 1) (ty := .boolean) (ws' := [(q, .inr (5, [.ref q_tables, .int 1])), (q_tables, .inr (2, [.ref q_tables_first, .ref q_tables_second])), (q_tables_first, .inr (6, [.ref q_tables_first_numbers])), (q_tables_first_numbers, .inl (cI, 36, .inl w1)), (q_tables_second, .inr (6, [.ref q_tables_second_numbers])), (q_tables_second_numbers, .inl (cI, 36, .inl w2)), (r0, .inr (2, [.ref r0_first, .ref r0_second])), (r0_first, .inr (6, [.ref r0_first_numbers])), (r0_first_numbers, .inl (cI, 36, .inl u0_first_numbers)), (r0_second, .inr (6, [.ref r0_second_numbers])), (r0_second_numbers, .inl (cI, 36, .inl u0_second_numbers))]) C hE hW iX6 tyX6_ok nmX6 0 rfl rfl 1 (by decide) f16 (fun _ h9 => h9) rfl (by decide +kernel) (by decide) rfl (Nat.le_of_ble_eq_true rfl) rfl dX6_fill_10 (fun H locs hW => ?_)
  obtain ⟨rfl, rfl, rfl⟩ := sm3 hf
  exact k_vret C hlocks hr hW hQ dX6_fill_13

set_option maxHeartbeats 4000000 in
set_option maxRecDepth 100000 in
theorem kX6_empty (l : Launch) (D : va_G) (cI cZ cJ : ClassId) (sz : Nat) (q q_tables : Nat) (u_filled : Int32) (u_filled' : Int32) (hf : pX6_empty u_filled = some u_filled') : kMet l D cI cZ cJ yX6_empty wsX6_empty 0 0 [.ref q] [(q, .inr (5, [.ref q_tables, .int u_filled]))] sz none [(q, .inr (5, [.ref q_tables, .int u_filled']))] := by
  refine kM_of (cc := cX6_empty) (maxL := 1) (ret := none) (by decide) rfl (Nat.le_of_ble_eq_true rfl) ?_
  intro p e s m args below meth c A Q ls hQ C hlocks hr hE hW hl
  have hx := C.1
  have hb := C.2.1
  have hts := C.2.2.2.2
  have hl : lv_has ls 1 [(0, .ref q)] := hl
  have iX6 : ∀ w ∈ u_ws RX6 TX6 2, w ∈ wsX6_empty := by decide +kernel
  have f16 := hts (.fieldLink RX6 16 "SortedTables$Slot" "filled" "Z") (by decide +kernel)
  unfold pX6_empty at hf
  refine lv_aload_n hx hb dX6_empty_0 rfl (lv_at hl 0 rfl) ?_
  refine lv_iconst (v := 0) hx hb dX6_empty_1 (by decide) ?_
  refine k_put (v := .int 0) (ty := .boolean) (ws' := [(q, .inr (5, [.ref q_tables, .int 0]))]) C hE hW iX6 tyX6_ok nmX6 0 rfl rfl 1 (by decide) f16 (fun _ h9 => h9) rfl (by decide +kernel) (by decide) rfl (Nat.le_of_ble_eq_true rfl) rfl dX6_empty_2 (fun H locs hW => ?_)
  obtain rfl := Option.some.inj hf
  exact k_vret C hlocks hr hW hQ dX6_empty_5

set_option maxHeartbeats 4000000 in
set_option maxRecDepth 100000 in
theorem kX7_hasGap (l : Launch) (D : va_G) (cI cZ cJ : ClassId) (sz : Nat) (q q_numbers : Nat) (u_numbers : Nat → Int32) (p0 : Int32) (r : Int32) (hf : pX7_hasGap u_numbers p0 = some r) : kMet l D cI cZ cJ yX7_hasGap wsX7_hasGap 1 23 [.ref q, .int p0] [(q, .inr (6, [.ref q_numbers])), (q_numbers, .inl (cI, 36, .inl u_numbers))] sz (some (.int r)) [(q, .inr (6, [.ref q_numbers])), (q_numbers, .inl (cI, 36, .inl u_numbers))] := by
  refine kM_of (cc := cX7_hasGap) (maxL := 2) (ret := (some .boolean)) (by decide) rfl (Nat.le_of_ble_eq_true rfl) ?_
  intro p e s m args below meth c A Q ls hQ C hlocks hr hE hW hl
  have hx := C.1
  have hb := C.2.1
  have hts := C.2.2.2.2
  have hl : lv_has ls 2 [(0, .ref q), (1, .int p0)] := hl
  unfold pX7_hasGap at hf
  refine lv_aload_n hx hb dX7_hasGap_0 rfl (lv_at hl 0 rfl) ?_
  refine lv_iload_n hx hb dX7_hasGap_1 rfl (lv_at hl 1 rfl) ?_
  obtain ⟨v1, h2, hf⟩ := bd1_s hf
  refine k_callVR (b := q) (ci := 6) (qb := 0) (As := [.int p0]) (n := 1) (rest := []) (st1 := [.int v1]) C hE hW hl.1 (kX7_rowLength l D cI cZ cJ _ q q_numbers u_numbers p0 v1 h2) gX7_hasGap_X7_rowLength rfl (by decide +kernel) rfl ⟨Nat.le_of_ble_eq_true rfl, Nat.le_of_ble_eq_true rfl⟩ ⟨Nat.zero_le _, Nat.zero_le _⟩ rfl rfl [0, 1] rfl rfl (Nat.le_of_ble_eq_true rfl) rfl rfl dX7_hasGap_2 (fun H locs hW => ?_)
  refine lv_iload_n hx hb dX7_hasGap_5 rfl (lv_at hl 1 rfl) ?_
  obtain ⟨j3, hd4, hf⟩ := bd1_s hf
  have J5 : ∀ (H : Heap) (locs : List Loc) (ls : Array Slot), kH D A s H locs [(q, .inr (6, [.ref q_numbers])), (q_numbers, .inl (cI, 36, .inl u_numbers))] → lv_has ls 2 [] → W p l e (kRm 1 23 0 0) s m args below meth c H locs 0 0 Q (F0 m 21 ls [.int j3, .int v1]) := by
    intro H locs ls hW hl
    refine lv_icmp_ge (tgt := 28) hx hb dX7_hasGap_21 (by decide) (fun hc => ?_) (fun hc => ?_)
    · replace hf := if_t hc hf
      refine lv_iconst (v := 0) hx hb dX7_hasGap_28 (by decide) ?_
      obtain rfl := Option.some.inj hf
      exact k_zret C hlocks hr hW (by decide) hQ dX7_hasGap_29
    · replace hf := if_f hc hf
      refine lv_iconst (v := 1) hx hb dX7_hasGap_24 (by decide) ?_
      refine lv_goto (tgt := 29) hx hb dX7_hasGap_25 (by decide) ?_
      obtain rfl := Option.some.inj hf
      exact k_zret C hlocks hr hW (by decide) hQ dX7_hasGap_29
  refine lv_if_ne (tgt := 14) hx hb dX7_hasGap_6 (by decide) (fun hc => ?_) (fun hc => ?_)
  · replace hd4 := if_f hc hd4
    refine lv_aload_n hx hb dX7_hasGap_14 rfl (lv_at hl 0 rfl) ?_
    refine lv_iload_n hx hb dX7_hasGap_15 rfl (lv_at hl 1 rfl) ?_
    refine lv_iconst (v := 1) hx hb dX7_hasGap_16 (by decide) ?_
    refine lv_isub hx hb dX7_hasGap_17 ?_
    obtain ⟨v6, h7, hd4⟩ := bd1_s hd4
    refine k_callVR (b := q) (ci := 6) (qb := 0) (As := [.int (p0 - 1)]) (n := 1) (rest := [.int v1]) (st1 := [.int v6, .int v1]) C hE hW hl.1 (kX7_rowLength l D cI cZ cJ _ q q_numbers u_numbers (p0 - 1) v6 h7) gX7_hasGap_X7_rowLength rfl (by decide +kernel) rfl ⟨Nat.le_of_ble_eq_true rfl, Nat.le_of_ble_eq_true rfl⟩ ⟨Nat.zero_le _, Nat.zero_le _⟩ rfl rfl [0, 1] rfl rfl (Nat.le_of_ble_eq_true rfl) rfl rfl dX7_hasGap_18 (fun H locs hW => ?_)
    obtain rfl := Option.some.inj hd4
    exact J5 _ _ _ hW (lv_sub hl [] rfl)
  · replace hd4 := if_t hc hd4
    refine lv_bipush (v := 6) hx hb dX7_hasGap_9 (by decide) ?_
    refine lv_goto (tgt := 21) hx hb dX7_hasGap_11 (by decide) ?_
    obtain rfl := Option.some.inj hd4
    exact J5 _ _ _ hW (lv_sub hl [] rfl)

set_option maxHeartbeats 4000000 in
set_option maxRecDepth 100000 in
theorem kX7_endsAt (l : Launch) (D : va_G) (cI cZ cJ : ClassId) (sz : Nat) (q q_numbers : Nat) (u_numbers : Nat → Int32) (p0 : Int32) (p1 : Int32) (r : Int32) (hf : pX7_endsAt u_numbers p0 p1 = some r) : kMet l D cI cZ cJ yX7_endsAt wsX7_endsAt 2 44 [.ref q, .int p0, .int p1] [(q, .inr (6, [.ref q_numbers])), (q_numbers, .inl (cI, 36, .inl u_numbers))] sz (some (.int r)) [(q, .inr (6, [.ref q_numbers])), (q_numbers, .inl (cI, 36, .inl u_numbers))] := by
  refine kM_of (cc := cX7_endsAt) (maxL := 3) (ret := (some .boolean)) (by decide) rfl (Nat.le_of_ble_eq_true rfl) ?_
  intro p e s m args below meth c A Q ls hQ C hlocks hr hE hW hl
  have hx := C.1
  have hb := C.2.1
  have hts := C.2.2.2.2
  have hl : lv_has ls 3 [(0, .ref q), (1, .int p0), (2, .int p1)] := hl
  unfold pX7_endsAt at hf
  refine lv_iload_n hx hb dX7_endsAt_0 rfl (lv_at hl 2 rfl) ?_
  refine lv_if_eq (tgt := 12) hx hb dX7_endsAt_1 (by decide) (fun hc => ?_) (fun hc => ?_)
  · replace hf := if_t hc hf
    refine lv_aload_n hx hb dX7_endsAt_12 rfl (lv_at hl 0 rfl) ?_
    refine lv_iload_n hx hb dX7_endsAt_13 rfl (lv_at hl 1 rfl) ?_
    obtain ⟨v1, h2, hf⟩ := bd1_s hf
    refine k_callVR (b := q) (ci := 6) (qb := 0) (As := [.int p0]) (n := 1) (rest := []) (st1 := [.int v1]) C hE hW hl.1 (kX7_hasCorner l D cI cZ cJ _ q q_numbers u_numbers p0 v1 h2) gX7_endsAt_X7_hasCorner rfl (by decide +kernel) rfl ⟨Nat.le_of_ble_eq_true rfl, Nat.le_of_ble_eq_true rfl⟩ ⟨Nat.zero_le _, Nat.zero_le _⟩ rfl rfl [0, 1] rfl rfl (Nat.le_of_ble_eq_true rfl) rfl rfl dX7_endsAt_14 (fun H locs hW => ?_)
    obtain ⟨v3, h4, hf⟩ := bd1_s hf
    obtain ⟨hn5, rfl⟩ := zb_s h4
    obtain rfl := Option.some.inj hf
    exact k_zret C hlocks hr hW hn5 hQ dX7_endsAt_17
  · replace hf := if_f hc hf
    refine lv_aload_n hx hb dX7_endsAt_4 rfl (lv_at hl 0 rfl) ?_
    refine lv_iload_n hx hb dX7_endsAt_5 rfl (lv_at hl 1 rfl) ?_
    obtain ⟨v6, h7, hf⟩ := bd1_s hf
    refine k_callVR (b := q) (ci := 6) (qb := 0) (As := [.int p0]) (n := 1) (rest := []) (st1 := [.int v6]) C hE hW hl.1 (kX7_hasGap l D cI cZ cJ _ q q_numbers u_numbers p0 v6 h7) gX7_endsAt_X7_hasGap rfl (by decide +kernel) rfl ⟨Nat.le_of_ble_eq_true rfl, Nat.le_of_ble_eq_true rfl⟩ ⟨Nat.zero_le _, Nat.zero_le _⟩ rfl rfl [0, 1] rfl rfl (Nat.le_of_ble_eq_true rfl) rfl rfl dX7_endsAt_6 (fun H locs hW => ?_)
    refine lv_goto (tgt := 17) hx hb dX7_endsAt_9 (by decide) ?_
    obtain ⟨v8, h9, hf⟩ := bd1_s hf
    obtain ⟨hn10, rfl⟩ := zb_s h9
    obtain rfl := Option.some.inj hf
    exact k_zret C hlocks hr hW hn10 hQ dX7_endsAt_17

set_option maxHeartbeats 4000000 in
set_option maxRecDepth 100000 in
theorem kX7_ends (l : Launch) (D : va_G) (cI cZ cJ : ClassId) (sz : Nat) (q q_numbers : Nat) (u_numbers : Nat → Int32) (p0 : Int32) (r : Int32) (hf : pX7_ends u_numbers p0 = some r) : kMet l D cI cZ cJ yX7_ends wsX7_ends 3 66 [.ref q, .int p0] [(q, .inr (6, [.ref q_numbers])), (q_numbers, .inl (cI, 36, .inl u_numbers))] sz (some (.int r)) [(q, .inr (6, [.ref q_numbers])), (q_numbers, .inl (cI, 36, .inl u_numbers))] := by
  refine kM_of (cc := cX7_ends) (maxL := 4) (ret := (some .int)) (by decide) rfl (Nat.le_of_ble_eq_true rfl) ?_
  intro p e s m args below meth c A Q ls hQ C hlocks hr hE hW hl
  have hx := C.1
  have hb := C.2.1
  have hts := C.2.2.2.2
  have hl : lv_has ls 4 [(0, .ref q), (1, .int p0)] := hl
  unfold pX7_ends at hf
  refine lv_iconst (v := 0) hx hb dX7_ends_0 (by decide) ?_
  refine lv_istore_n (lv' := [(2, .int 0), (0, .ref q), (1, .int p0)]) hx hb dX7_ends_1 rfl hl (by decide) rfl (fun ls hl => ?_)
  refine lv_iconst (v := 0) hx hb dX7_ends_2 (by decide) ?_
  refine lv_istore_n (lv' := [(3, .int 0), (2, .int 0), (0, .ref q), (1, .int p0)]) hx hb dX7_ends_3 rfl hl (by decide) rfl (fun ls hl => ?_)
  obtain ⟨x3, hx50, hf⟩ := bd1_s hf
  have J6 : ∀ (H : Heap) (locs : List Loc) (ls : Array Slot), kH D A s H locs [(q, .inr (6, [.ref q_numbers])), (q_numbers, .inl (cI, 36, .inl u_numbers))] → lv_has ls 4 [(2, .int x3)] → W p l e (kRm 3 66 0 0) s m args below meth c H locs 0 0 Q (F0 m 28 ls []) := by
    intro H locs ls hW hl
    refine lv_iload_n hx hb dX7_ends_28 rfl (lv_at hl 0 rfl) ?_
    obtain rfl := Option.some.inj hf
    exact k_iret C hlocks hr hW hQ dX7_ends_29
  have L7 : ∀ (n : Nat) (i1 : Int32) (i2 : Int32), lpI n (un2 (pX7_ends_L4 u_numbers p0)) (i1, i2) = some x3 → ∀ (H : Heap) (locs : List Loc) (ls : Array Slot), kH D A s H locs [(q, .inr (6, [.ref q_numbers])), (q_numbers, .inl (cI, 36, .inl u_numbers))] → lv_has ls 4 [(3, .int i1), (2, .int i2), (0, .ref q), (1, .int p0)] → W p l e (kRm 3 66 0 0) s m args below meth c H locs 0 0 Q (F0 m 4 ls []) := by
    intro n
    induction n with
    | zero => intro i1 i2 hx5; exact (lpI_0 hx5).elim
    | succ n ih9 =>
      intro i1 i2 hx5 H locs ls hW hl
      obtain ⟨ooho4, ho4, hx5⟩ := lpI_s hx5
      replace ho4 := un2_s ho4
      unfold pX7_ends_L4 at ho4
      refine lv_iload_n hx hb dX7_ends_4 rfl (lv_at hl 0 rfl) ?_
      refine lv_bipush (v := 6) hx hb dX7_ends_5 (by decide) ?_
      refine lv_icmp_ge (tgt := 28) hx hb dX7_ends_7 (by decide) (fun hc => ?_) (fun hc => ?_)
      · replace ho4 := if_t hc ho4
        obtain rfl := Option.some.inj ho4
        obtain rfl := lpK_r hx5
        exact J6 _ _ _ hW (lv_sub hl [1] rfl)
      · replace ho4 := if_f hc ho4
        refine lv_aload_n hx hb dX7_ends_10 rfl (lv_at hl 2 rfl) ?_
        refine lv_iload_n hx hb dX7_ends_11 rfl (lv_at hl 0 rfl) ?_
        refine lv_iload_n hx hb dX7_ends_12 rfl (lv_at hl 3 rfl) ?_
        obtain ⟨v10, h11, ho4⟩ := bd1_s ho4
        refine k_callVR (b := q) (ci := 6) (qb := 0) (As := [.int i1, .int p0]) (n := 2) (rest := []) (st1 := [.int v10]) C hE hW hl.1 (kX7_endsAt l D cI cZ cJ _ q q_numbers u_numbers i1 p0 v10 h11) gX7_ends_X7_endsAt rfl (by decide +kernel) rfl ⟨Nat.le_of_ble_eq_true rfl, Nat.le_of_ble_eq_true rfl⟩ ⟨Nat.zero_le _, Nat.zero_le _⟩ rfl rfl [0, 1] rfl rfl (Nat.le_of_ble_eq_true rfl) rfl rfl dX7_ends_13 (fun H locs hW => ?_)
        refine lv_if_eq (tgt := 22) hx hb dX7_ends_16 (by decide) (fun hc => ?_) (fun hc => ?_)
        · replace ho4 := if_t hc ho4
          refine lv_iinc (v := (i1 + 1)) (lv' := [(3, .int (i1 + 1)), (2, .int i2), (0, .ref q), (1, .int p0)]) hx hb dX7_ends_22 hl (k := 0) rfl rfl (by decide) rfl (fun ls hl => ?_)
          refine lv_goto (tgt := 4) hx hb dX7_ends_25 (by decide) ?_
          obtain rfl := Option.some.inj ho4
          exact ih9 _ _ hx5 _ _ _ hW (lv_sub hl [0, 1, 2, 3] rfl)
        · replace ho4 := if_f hc ho4
          refine lv_iinc (v := (i2 + 1)) (lv' := [(2, .int (i2 + 1)), (3, .int i1), (0, .ref q), (1, .int p0)]) hx hb dX7_ends_19 hl (k := 1) rfl rfl (by decide) rfl (fun ls hl => ?_)
          refine lv_iinc (v := (i1 + 1)) (lv' := [(3, .int (i1 + 1)), (2, .int (i2 + 1)), (0, .ref q), (1, .int p0)]) hx hb dX7_ends_22 hl (k := 1) rfl rfl (by decide) rfl (fun ls hl => ?_)
          refine lv_goto (tgt := 4) hx hb dX7_ends_25 (by decide) ?_
          obtain rfl := Option.some.inj ho4
          exact ih9 _ _ hx5 _ _ _ hW (lv_sub hl [0, 1, 2, 3] rfl)
  exact L7 lpF _ _ hx50 _ _ _ hW (lv_sub hl [0, 1, 2, 3] rfl)

set_option maxHeartbeats 4000000 in
set_option maxRecDepth 100000 in
theorem kX7_kthEnd (l : Launch) (D : va_G) (cI cZ cJ : ClassId) (sz : Nat) (q q_numbers : Nat) (u_numbers : Nat → Int32) (p0 : Int32) (p1 : Int32) (r : Int32) (hf : pX7_kthEnd u_numbers p0 p1 = some r) : kMet l D cI cZ cJ yX7_kthEnd wsX7_kthEnd 3 66 [.ref q, .int p0, .int p1] [(q, .inr (6, [.ref q_numbers])), (q_numbers, .inl (cI, 36, .inl u_numbers))] sz (some (.int r)) [(q, .inr (6, [.ref q_numbers])), (q_numbers, .inl (cI, 36, .inl u_numbers))] := by
  refine kM_of (cc := cX7_kthEnd) (maxL := 5) (ret := (some .int)) (by decide) rfl (Nat.le_of_ble_eq_true rfl) ?_
  intro p e s m args below meth c A Q ls hQ C hlocks hr hE hW hl
  have hx := C.1
  have hb := C.2.1
  have hts := C.2.2.2.2
  have hl : lv_has ls 5 [(0, .ref q), (1, .int p0), (2, .int p1)] := hl
  unfold pX7_kthEnd at hf
  refine lv_iconst (v := 0) hx hb dX7_kthEnd_0 (by decide) ?_
  refine lv_istore_n (lv' := [(3, .int 0), (0, .ref q), (1, .int p0), (2, .int p1)]) hx hb dX7_kthEnd_1 rfl hl (by decide) rfl (fun ls hl => ?_)
  refine lv_iconst (v := 0) hx hb dX7_kthEnd_2 (by decide) ?_
  refine lv_istore (lv' := [(4, .int 0), (3, .int 0), (0, .ref q), (1, .int p0), (2, .int p1)]) hx hb dX7_kthEnd_3 hl (by decide) rfl (fun ls hl => ?_)
  obtain ⟨xx7, hx40, hf⟩ := bd1_s hf
  have J5 : pX7_kthEnd_R63 = some r → ∀ (H : Heap) (locs : List Loc) (ls : Array Slot), kH D A s H locs [(q, .inr (6, [.ref q_numbers])), (q_numbers, .inl (cI, 36, .inl u_numbers))] → lv_has ls 5 [] → W p l e (kRm 3 66 0 0) s m args below meth c H locs 0 0 Q (F0 m 63 ls []) := by
    intro hf H locs ls hW hl
    unfold pX7_kthEnd_R63 at hf
    refine lv_bipush (v := (-9)) hx hb dX7_kthEnd_63 (by decide) ?_
    obtain rfl := Option.some.inj hf
    exact k_iret C hlocks hr hW hQ dX7_kthEnd_65
  have L6 : ∀ (n : Nat) (i1 : Int32) (i2 : Int32), lpI n (un2 (pX7_kthEnd_L5 u_numbers p0 p1)) (i1, i2) = some xx7 → ∀ (H : Heap) (locs : List Loc) (ls : Array Slot), kH D A s H locs [(q, .inr (6, [.ref q_numbers])), (q_numbers, .inl (cI, 36, .inl u_numbers))] → lv_has ls 5 [(4, .int i1), (3, .int i2), (0, .ref q), (1, .int p0), (2, .int p1)] → W p l e (kRm 3 66 0 0) s m args below meth c H locs 0 0 Q (F0 m 5 ls []) := by
    intro n
    induction n with
    | zero => intro i1 i2 hx4; exact (lpI_0 hx4).elim
    | succ n ih8 =>
      intro i1 i2 hx4 H locs ls hW hl
      obtain ⟨ooho3, ho3, hx4⟩ := lpI_s hx4
      replace ho3 := un2_s ho3
      unfold pX7_kthEnd_L5 at ho3
      refine lv_iload hx hb dX7_kthEnd_5 (lv_at hl 0 rfl) ?_
      refine lv_bipush (v := 6) hx hb dX7_kthEnd_7 (by decide) ?_
      refine lv_icmp_ge (tgt := 63) hx hb dX7_kthEnd_9 (by decide) (fun hc => ?_) (fun hc => ?_)
      · replace ho3 := if_t hc ho3
        obtain rfl := Option.some.inj ho3
        obtain rfl := lpK_r hx4
        replace hf := el_r hf
        exact J5 hf _ _ _ hW (lv_sub hl [] rfl)
      · replace ho3 := if_f hc ho3
        refine lv_aload_n hx hb dX7_kthEnd_12 rfl (lv_at hl 2 rfl) ?_
        refine lv_iload hx hb dX7_kthEnd_13 (lv_at hl 0 rfl) ?_
        refine lv_iload_n hx hb dX7_kthEnd_15 rfl (lv_at hl 4 rfl) ?_
        obtain ⟨v9, h10, ho3⟩ := bd1_s ho3
        refine k_callVR (b := q) (ci := 6) (qb := 0) (As := [.int i1, .int p1]) (n := 2) (rest := []) (st1 := [.int v9]) C hE hW hl.1 (kX7_endsAt l D cI cZ cJ _ q q_numbers u_numbers i1 p1 v9 h10) gX7_kthEnd_X7_endsAt rfl (by decide +kernel) rfl ⟨Nat.le_of_ble_eq_true rfl, Nat.le_of_ble_eq_true rfl⟩ ⟨Nat.zero_le _, Nat.zero_le _⟩ rfl rfl [0, 1] rfl rfl (Nat.le_of_ble_eq_true rfl) rfl rfl dX7_kthEnd_16 (fun H locs hW => ?_)
        refine lv_if_eq (tgt := 57) hx hb dX7_kthEnd_19 (by decide) (fun hc => ?_) (fun hc => ?_)
        · replace ho3 := if_t hc ho3
          refine lv_iinc (v := (i1 + 1)) (lv' := [(4, .int (i1 + 1)), (3, .int i2), (0, .ref q), (1, .int p0), (2, .int p1)]) hx hb dX7_kthEnd_57 hl (k := 0) rfl rfl (by decide) rfl (fun ls hl => ?_)
          refine lv_goto (tgt := 5) hx hb dX7_kthEnd_60 (by decide) ?_
          obtain rfl := Option.some.inj ho3
          exact ih8 _ _ hx4 _ _ _ hW (lv_sub hl [0, 1, 2, 3, 4] rfl)
        · replace ho3 := if_f hc ho3
          refine lv_iload_n hx hb dX7_kthEnd_22 rfl (lv_at hl 1 rfl) ?_
          refine lv_iload_n hx hb dX7_kthEnd_23 rfl (lv_at hl 3 rfl) ?_
          refine lv_icmp_ne (tgt := 54) hx hb dX7_kthEnd_24 (by decide) (fun hc => ?_) (fun hc => ?_)
          · replace ho3 := if_f hc ho3
            refine lv_iinc (v := (i2 + 1)) (lv' := [(3, .int (i2 + 1)), (4, .int i1), (0, .ref q), (1, .int p0), (2, .int p1)]) hx hb dX7_kthEnd_54 hl (k := 1) rfl rfl (by decide) rfl (fun ls hl => ?_)
            refine lv_iinc (v := (i1 + 1)) (lv' := [(4, .int (i1 + 1)), (3, .int (i2 + 1)), (0, .ref q), (1, .int p0), (2, .int p1)]) hx hb dX7_kthEnd_57 hl (k := 1) rfl rfl (by decide) rfl (fun ls hl => ?_)
            refine lv_goto (tgt := 5) hx hb dX7_kthEnd_60 (by decide) ?_
            obtain rfl := Option.some.inj ho3
            exact ih8 _ _ hx4 _ _ _ hW (lv_sub hl [0, 1, 2, 3, 4] rfl)
          · replace ho3 := if_t hc ho3
            refine lv_iload hx hb dX7_kthEnd_27 (lv_at hl 0 rfl) ?_
            refine lv_iload_n hx hb dX7_kthEnd_29 rfl (lv_at hl 4 rfl) ?_
            obtain ⟨j11, hd12, ho3⟩ := bd1_s ho3
            have J13 : ∀ (H : Heap) (locs : List Loc) (ls : Array Slot), kH D A s H locs [(q, .inr (6, [.ref q_numbers])), (q_numbers, .inl (cI, 36, .inl u_numbers))] → lv_has ls 5 [] → W p l e (kRm 3 66 0 0) s m args below meth c H locs 0 0 Q (F0 m 50 ls [.int j11, .int i1]) := by
              intro H locs ls hW hl
              obtain ⟨v18, h19, ho3⟩ := bd1_s ho3
              refine k_callSN (As := [.int i1, .int j11]) (n := 2) (rest := []) (st1 := [.int v18]) C hE hW hl.1 (kX9_placeOf l D cI cZ cJ _ i1 j11 v18 h19) gX7_kthEnd_X9_placeOf_n51 rfl (by decide +kernel) (by decide +kernel) (by decide +kernel) (by decide +kernel) rfl ⟨Nat.le_of_ble_eq_true rfl, Nat.le_of_ble_eq_true rfl⟩ ⟨Nat.zero_le _, Nat.zero_le _⟩ (Nat.le_of_ble_eq_true rfl) rfl rfl dX7_kthEnd_50 (fun H locs hW => ?_)
              obtain rfl := Option.some.inj ho3
              obtain rfl := lpK_r hx4
              replace hf := el_l hf
              obtain rfl := Option.some.inj hf
              exact k_iret C hlocks hr hW hQ dX7_kthEnd_53
            refine lv_if_eq (tgt := 42) hx hb dX7_kthEnd_30 (by decide) (fun hc => ?_) (fun hc => ?_)
            · replace hd12 := if_t hc hd12
              refine lv_aload_n hx hb dX7_kthEnd_42 rfl (lv_at hl 2 rfl) ?_
              refine lv_iload hx hb dX7_kthEnd_43 (lv_at hl 0 rfl) ?_
              obtain ⟨v14, h15, hd12⟩ := bd1_s hd12
              refine k_callVR (b := q) (ci := 6) (qb := 0) (As := [.int i1]) (n := 1) (rest := [.int i1]) (st1 := [.int v14, .int i1]) C hE hW hl.1 (kX7_rowLength l D cI cZ cJ _ q q_numbers u_numbers i1 v14 h15) gX7_kthEnd_X7_rowLength rfl (by decide +kernel) rfl ⟨Nat.le_of_ble_eq_true rfl, Nat.le_of_ble_eq_true rfl⟩ ⟨Nat.zero_le _, Nat.zero_le _⟩ rfl rfl [0, 1] rfl rfl (Nat.le_of_ble_eq_true rfl) rfl rfl dX7_kthEnd_45 (fun H locs hW => ?_)
              refine lv_iconst (v := 1) hx hb dX7_kthEnd_48 (by decide) ?_
              refine lv_isub hx hb dX7_kthEnd_49 ?_
              obtain rfl := Option.some.inj hd12
              exact J13 _ _ _ hW (lv_sub hl [] rfl)
            · replace hd12 := if_f hc hd12
              refine lv_aload_n hx hb dX7_kthEnd_33 rfl (lv_at hl 2 rfl) ?_
              refine lv_iload hx hb dX7_kthEnd_34 (lv_at hl 0 rfl) ?_
              obtain ⟨v16, h17, hd12⟩ := bd1_s hd12
              refine k_callVR (b := q) (ci := 6) (qb := 0) (As := [.int i1]) (n := 1) (rest := [.int i1]) (st1 := [.int v16, .int i1]) C hE hW hl.1 (kX7_rowLength l D cI cZ cJ _ q q_numbers u_numbers i1 v16 h17) gX7_kthEnd_X7_rowLength rfl (by decide +kernel) rfl ⟨Nat.le_of_ble_eq_true rfl, Nat.le_of_ble_eq_true rfl⟩ ⟨Nat.zero_le _, Nat.zero_le _⟩ rfl rfl [0, 1] rfl rfl (Nat.le_of_ble_eq_true rfl) rfl rfl dX7_kthEnd_36 (fun H locs hW => ?_)
              refine lv_goto (tgt := 50) hx hb dX7_kthEnd_39 (by decide) ?_
              obtain rfl := Option.some.inj hd12
              exact J13 _ _ _ hW (lv_sub hl [] rfl)
  exact L6 lpF _ _ hx40 _ _ _ hW (lv_sub hl [0, 1, 2, 3, 4] rfl)

set_option maxHeartbeats 4000000 in
set_option maxRecDepth 100000 in
theorem kX7_replace (l : Launch) (D : va_G) (cI cZ cJ : ClassId) (sz : Nat) (q q_numbers : Nat) (u_numbers : Nat → Int32) (p0 : Int32) (p1 : Int32) (p2 : Int32) (r : Int32) (u_numbers' : Nat → Int32) (hf : pX7_replace u_numbers p0 p1 p2 = some (r, u_numbers')) : kMet l D cI cZ cJ yX7_replace wsX7_replace 2 51 [.ref q, .int p0, .int p1, .int p2] [(q, .inr (6, [.ref q_numbers])), (q_numbers, .inl (cI, 36, .inl u_numbers))] sz (some (.int r)) [(q, .inr (6, [.ref q_numbers])), (q_numbers, .inl (cI, 36, .inl u_numbers'))] := by
  refine kM_of (cc := cX7_replace) (maxL := 5) (ret := (some .int)) (by decide) rfl (Nat.le_of_ble_eq_true rfl) ?_
  intro p e s m args below meth c A Q ls hQ C hlocks hr hE hW hl
  have hx := C.1
  have hb := C.2.1
  have hts := C.2.2.2.2
  have hl : lv_has ls 5 [(0, .ref q), (1, .int p0), (2, .int p1), (3, .int p2)] := hl
  unfold pX7_replace at hf
  refine lv_aload_n hx hb dX7_replace_0 rfl (lv_at hl 0 rfl) ?_
  refine lv_iload_n hx hb dX7_replace_1 rfl (lv_at hl 1 rfl) ?_
  refine lv_iload_n hx hb dX7_replace_2 rfl (lv_at hl 2 rfl) ?_
  refine lv_iload_n hx hb dX7_replace_3 rfl (lv_at hl 3 rfl) ?_
  obtain ⟨w1, h2, hf⟩ := bd1_s hf
  refine k_callV (b := q) (ci := 6) (qb := 0) (As := [.int p0, .int p1, .int p2]) (n := 3) (rest := []) (st1 := []) (wr := []) (ws' := [(q, .inr (6, [.ref q_numbers])), (q_numbers, .inl (cI, 36, .inl w1))]) C hE hW hl.1 (kX7_put l D cI cZ cJ _ q q_numbers u_numbers p0 p1 p2 w1 h2) gX7_replace_X7_put rfl (by decide +kernel) rfl ⟨Nat.le_of_ble_eq_true rfl, Nat.le_of_ble_eq_true rfl⟩ ⟨Nat.zero_le _, Nat.zero_le _⟩ rfl rfl [0, 1] [] [0, 1] rfl rfl rfl rfl (by decide) rfl rfl (Nat.le_of_ble_eq_true rfl) rfl rfl dX7_replace_4 (fun H locs hW => ?_)
  refine lv_aload_n hx hb dX7_replace_7 rfl (lv_at hl 0 rfl) ?_
  refine lv_iload_n hx hb dX7_replace_8 rfl (lv_at hl 1 rfl) ?_
  refine lv_iload_n hx hb dX7_replace_9 rfl (lv_at hl 2 rfl) ?_
  obtain ⟨⟨v3, w4⟩, h5, hf⟩ := bd1_s hf
  replace hf := un2_s hf
  refine k_callV (b := q) (ci := 6) (qb := 0) (As := [.int p0, .int p1]) (n := 2) (rest := []) (st1 := [.int v3]) (wr := []) (ws' := [(q, .inr (6, [.ref q_numbers])), (q_numbers, .inl (cI, 36, .inl w4))]) C hE hW hl.1 (kX7_slideUp l D cI cZ cJ _ q q_numbers w1 p0 p1 v3 w4 h5) gX7_replace_X7_slideUp rfl (by decide +kernel) rfl ⟨Nat.le_of_ble_eq_true rfl, Nat.le_of_ble_eq_true rfl⟩ ⟨Nat.zero_le _, Nat.zero_le _⟩ rfl rfl [0, 1] [] [0, 1] rfl rfl rfl rfl (by decide) rfl rfl (Nat.le_of_ble_eq_true rfl) rfl rfl dX7_replace_10 (fun H locs hW => ?_)
  refine lv_istore (lv' := [(4, .int v3), (0, .ref q), (1, .int p0), (2, .int p1), (3, .int p2)]) hx hb dX7_replace_13 hl (by decide) rfl (fun ls hl => ?_)
  refine lv_aload_n hx hb dX7_replace_15 rfl (lv_at hl 1 rfl) ?_
  refine lv_iload hx hb dX7_replace_16 (lv_at hl 0 rfl) ?_
  obtain ⟨v6, h7, hf⟩ := bd1_s hf
  refine k_callSN (As := [.int v3]) (n := 1) (rest := [.ref q]) (st1 := [.int v6, .ref q]) C hE hW hl.1 (kX9_rowOf l D cI cZ cJ _ v3 v6 h7) gX7_replace_X9_rowOf_n61 rfl (by decide +kernel) (by decide +kernel) (by decide +kernel) (by decide +kernel) rfl ⟨Nat.le_of_ble_eq_true rfl, Nat.le_of_ble_eq_true rfl⟩ ⟨Nat.zero_le _, Nat.zero_le _⟩ (Nat.le_of_ble_eq_true rfl) rfl rfl dX7_replace_18 (fun H locs hW => ?_)
  refine lv_iload hx hb dX7_replace_21 (lv_at hl 0 rfl) ?_
  obtain ⟨v8, h9, hf⟩ := bd1_s hf
  refine k_callSN (As := [.int v3]) (n := 1) (rest := [.int v6, .ref q]) (st1 := [.int v8, .int v6, .ref q]) C hE hW hl.1 (kX9_columnOf l D cI cZ cJ _ v3 v8 h9) gX7_replace_X9_columnOf_n64 rfl (by decide +kernel) (by decide +kernel) (by decide +kernel) (by decide +kernel) rfl ⟨Nat.le_of_ble_eq_true rfl, Nat.le_of_ble_eq_true rfl⟩ ⟨Nat.zero_le _, Nat.zero_le _⟩ (Nat.le_of_ble_eq_true rfl) rfl rfl dX7_replace_23 (fun H locs hW => ?_)
  obtain ⟨⟨v10, w11⟩, h12, hf⟩ := bd1_s hf
  replace hf := un2_s hf
  refine k_callV (b := q) (ci := 6) (qb := 0) (As := [.int v6, .int v8]) (n := 2) (rest := []) (st1 := [.int v10]) (wr := []) (ws' := [(q, .inr (6, [.ref q_numbers])), (q_numbers, .inl (cI, 36, .inl w11))]) C hE hW hl.1 (kX7_slideDown l D cI cZ cJ _ q q_numbers w4 v6 v8 v10 w11 h12) gX7_replace_X7_slideDown rfl (by decide +kernel) rfl ⟨Nat.le_of_ble_eq_true rfl, Nat.le_of_ble_eq_true rfl⟩ ⟨Nat.zero_le _, Nat.zero_le _⟩ rfl rfl [0, 1] [] [0, 1] rfl rfl rfl rfl (by decide) rfl rfl (Nat.le_of_ble_eq_true rfl) rfl rfl dX7_replace_26 (fun H locs hW => ?_)
  obtain ⟨rfl, rfl⟩ := sm2 hf
  exact k_iret C hlocks hr hW hQ dX7_replace_29

set_option maxHeartbeats 4000000 in
set_option maxRecDepth 100000 in
theorem kX7_sum (l : Launch) (D : va_G) (cI cZ cJ : ClassId) (sz : Nat) (q q_numbers : Nat) (u_numbers : Nat → Int32) (r : Int32) (hf : pX7_sum u_numbers = some r) : kMet l D cI cZ cJ yX7_sum wsX7_sum 0 0 [.ref q] [(q, .inr (6, [.ref q_numbers])), (q_numbers, .inl (cI, 36, .inl u_numbers))] sz (some (.int r)) [(q, .inr (6, [.ref q_numbers])), (q_numbers, .inl (cI, 36, .inl u_numbers))] := by
  refine kM_of (cc := cX7_sum) (maxL := 3) (ret := (some .int)) (by decide) rfl (Nat.le_of_ble_eq_true rfl) ?_
  intro p e s m args below meth c A Q ls hQ C hlocks hr hE hW hl
  have hx := C.1
  have hb := C.2.1
  have hts := C.2.2.2.2
  have hl : lv_has ls 3 [(0, .ref q)] := hl
  have iX7 : ∀ w ∈ u_ws RX7 TX7 1, w ∈ wsX7_sum := by decide +kernel
  have f9 := hts (.fieldLink RX7 9 "SortedTables$Table" "numbers" "[I") (by decide +kernel)
  unfold pX7_sum at hf
  refine lv_iconst (v := 0) hx hb dX7_sum_0 (by decide) ?_
  refine lv_istore_n (lv' := [(1, .int 0), (0, .ref q)]) hx hb dX7_sum_1 rfl hl (by decide) rfl (fun ls hl => ?_)
  refine lv_iconst (v := 0) hx hb dX7_sum_2 (by decide) ?_
  refine lv_istore_n (lv' := [(2, .int 0), (1, .int 0), (0, .ref q)]) hx hb dX7_sum_3 rfl hl (by decide) rfl (fun ls hl => ?_)
  obtain ⟨x3, hx50, hf⟩ := bd1_s hf
  have J6 : ∀ (H : Heap) (locs : List Loc) (ls : Array Slot), kH D A s H locs [(q, .inr (6, [.ref q_numbers])), (q_numbers, .inl (cI, 36, .inl u_numbers))] → lv_has ls 3 [(1, .int x3)] → W p l e (kRm 0 0 0 0) s m args below meth c H locs 0 0 Q (F0 m 35 ls []) := by
    intro H locs ls hW hl
    refine lv_iload_n hx hb dX7_sum_35 rfl (lv_at hl 0 rfl) ?_
    obtain rfl := Option.some.inj hf
    exact k_iret C hlocks hr hW hQ dX7_sum_36
  have L7 : ∀ (n : Nat) (i1 : Int32) (i2 : Int32), lpI n (un2 (pX7_sum_L4 u_numbers)) (i1, i2) = some x3 → ∀ (H : Heap) (locs : List Loc) (ls : Array Slot), kH D A s H locs [(q, .inr (6, [.ref q_numbers])), (q_numbers, .inl (cI, 36, .inl u_numbers))] → lv_has ls 3 [(2, .int i1), (1, .int i2), (0, .ref q)] → W p l e (kRm 0 0 0 0) s m args below meth c H locs 0 0 Q (F0 m 4 ls []) := by
    intro n
    induction n with
    | zero => intro i1 i2 hx5; exact (lpI_0 hx5).elim
    | succ n ih9 =>
      intro i1 i2 hx5 H locs ls hW hl
      obtain ⟨ooho4, ho4, hx5⟩ := lpI_s hx5
      replace ho4 := un2_s ho4
      unfold pX7_sum_L4 at ho4
      refine lv_iload_n hx hb dX7_sum_4 rfl (lv_at hl 0 rfl) ?_
      refine lv_bipush (v := 36) hx hb dX7_sum_5 (by decide) ?_
      refine lv_icmp_ge (tgt := 35) hx hb dX7_sum_7 (by decide) (fun hc => ?_) (fun hc => ?_)
      · replace ho4 := if_t hc ho4
        obtain rfl := Option.some.inj ho4
        obtain rfl := lpK_r hx5
        exact J6 _ _ _ hW (lv_sub hl [1] rfl)
      · replace ho4 := if_f hc ho4
        refine lv_aload_n hx hb dX7_sum_10 rfl (lv_at hl 2 rfl) ?_
        refine k_get C hE hW iX7 0 rfl rfl 0 (by decide) f9 (fun _ h9 => h9) rfl dX7_sum_11 ?_
        refine lv_iload_n hx hb dX7_sum_14 rfl (lv_at hl 0 rfl) ?_
        obtain ⟨v10, h11, ho4⟩ := bd1_s ho4
        refine k_iald C hE hW 1 rfl h11 dX7_sum_15 ?_
        refine lv_iconst (v := (-1)) hx hb dX7_sum_16 (by decide) ?_
        refine lv_icmp_eq (tgt := 29) hx hb dX7_sum_17 (by decide) (fun hc => ?_) (fun hc => ?_)
        · replace ho4 := if_t hc ho4
          refine lv_iinc (v := (i1 + 1)) (lv' := [(2, .int (i1 + 1)), (1, .int i2), (0, .ref q)]) hx hb dX7_sum_29 hl (k := 0) rfl rfl (by decide) rfl (fun ls hl => ?_)
          refine lv_goto (tgt := 4) hx hb dX7_sum_32 (by decide) ?_
          obtain rfl := Option.some.inj ho4
          exact ih9 _ _ hx5 _ _ _ hW (lv_sub hl [0, 1, 2] rfl)
        · replace ho4 := if_f hc ho4
          refine lv_iload_n hx hb dX7_sum_20 rfl (lv_at hl 1 rfl) ?_
          refine lv_aload_n hx hb dX7_sum_21 rfl (lv_at hl 2 rfl) ?_
          refine k_get C hE hW iX7 0 rfl rfl 0 (by decide) f9 (fun _ h9 => h9) rfl dX7_sum_22 ?_
          refine lv_iload_n hx hb dX7_sum_25 rfl (lv_at hl 0 rfl) ?_
          obtain ⟨v12, h13, ho4⟩ := bd1_s ho4
          refine k_iald C hE hW 1 rfl h13 dX7_sum_26 ?_
          refine lv_iadd hx hb dX7_sum_27 ?_
          refine lv_istore_n (lv' := [(1, .int (i2 + v12)), (2, .int i1), (0, .ref q)]) hx hb dX7_sum_28 rfl hl (by decide) rfl (fun ls hl => ?_)
          refine lv_iinc (v := (i1 + 1)) (lv' := [(2, .int (i1 + 1)), (1, .int (i2 + v12)), (0, .ref q)]) hx hb dX7_sum_29 hl (k := 1) rfl rfl (by decide) rfl (fun ls hl => ?_)
          refine lv_goto (tgt := 4) hx hb dX7_sum_32 (by decide) ?_
          obtain rfl := Option.some.inj ho4
          exact ih9 _ _ hx5 _ _ _ hW (lv_sub hl [0, 1, 2] rfl)
  exact L7 lpF _ _ hx50 _ _ _ hW (lv_sub hl [0, 1, 2] rfl)

set_option maxHeartbeats 4000000 in
set_option maxRecDepth 100000 in
theorem kX7_kthWithin (l : Launch) (D : va_G) (cI cZ cJ : ClassId) (sz : Nat) (q q_numbers : Nat) (u_numbers : Nat → Int32) (p0 : Int32) (p1 : Int32) (p2 : Int32) (p3 : Int32) (p4 : Int32) (r : Int32) (hf : pX7_kthWithin u_numbers p0 p1 p2 p3 p4 = some r) : kMet l D cI cZ cJ yX7_kthWithin wsX7_kthWithin 2 50 [.ref q, .int p0, .int p1, .int p2, .int p3, .int p4] [(q, .inr (6, [.ref q_numbers])), (q_numbers, .inl (cI, 36, .inl u_numbers))] sz (some (.int r)) [(q, .inr (6, [.ref q_numbers])), (q_numbers, .inl (cI, 36, .inl u_numbers))] := by
  refine kM_of (cc := cX7_kthWithin) (maxL := 8) (ret := (some .int)) (by decide) rfl (Nat.le_of_ble_eq_true rfl) ?_
  intro p e s m args below meth c A Q ls hQ C hlocks hr hE hW hl
  have hx := C.1
  have hb := C.2.1
  have hts := C.2.2.2.2
  have hl : lv_has ls 8 [(0, .ref q), (1, .int p0), (2, .int p1), (3, .int p2), (4, .int p3), (5, .int p4)] := hl
  unfold pX7_kthWithin at hf
  refine lv_aload_n hx hb dX7_kthWithin_0 rfl (lv_at hl 0 rfl) ?_
  refine lv_iload_n hx hb dX7_kthWithin_1 rfl (lv_at hl 1 rfl) ?_
  refine lv_iload_n hx hb dX7_kthWithin_2 rfl (lv_at hl 2 rfl) ?_
  refine lv_iload_n hx hb dX7_kthWithin_3 rfl (lv_at hl 3 rfl) ?_
  refine lv_iload hx hb dX7_kthWithin_4 (lv_at hl 4 rfl) ?_
  refine lv_bipush (v := 99) hx hb dX7_kthWithin_6 (by decide) ?_
  obtain ⟨v1, h2, hf⟩ := bd1_s hf
  refine k_callVR (b := q) (ci := 6) (qb := 0) (As := [.int p0, .int p1, .int p2, .int p3, .int 99]) (n := 5) (rest := []) (st1 := [.int v1]) C hE hW hl.1 (kX7_countWithin l D cI cZ cJ _ q q_numbers u_numbers p0 p1 p2 p3 99 v1 h2) gX7_kthWithin_X7_countWithin rfl (by decide +kernel) rfl ⟨Nat.le_of_ble_eq_true rfl, Nat.le_of_ble_eq_true rfl⟩ ⟨Nat.zero_le _, Nat.zero_le _⟩ rfl rfl [0, 1] rfl rfl (Nat.le_of_ble_eq_true rfl) rfl rfl dX7_kthWithin_8 (fun H locs hW => ?_)
  refine lv_iload hx hb dX7_kthWithin_11 (lv_at hl 5 rfl) ?_
  refine lv_icmp_gt (tgt := 19) hx hb dX7_kthWithin_13 (by decide) (fun hc => ?_) (fun hc => ?_)
  · replace hf := if_t hc hf
    refine lv_iconst (v := 0) hx hb dX7_kthWithin_19 (by decide) ?_
    refine lv_istore (lv' := [(6, .int 0), (0, .ref q), (1, .int p0), (2, .int p1), (3, .int p2), (4, .int p3), (5, .int p4)]) hx hb dX7_kthWithin_20 hl (by decide) rfl (fun ls hl => ?_)
    refine lv_bipush (v := 64) hx hb dX7_kthWithin_22 (by decide) ?_
    refine lv_istore (lv' := [(7, .int 64), (6, .int 0), (0, .ref q), (1, .int p0), (2, .int p1), (3, .int p2), (4, .int p3), (5, .int p4)]) hx hb dX7_kthWithin_24 hl (by decide) rfl (fun ls hl => ?_)
    obtain ⟨x5, hx70, hf⟩ := bd1_s hf
    have J8 : ∀ (H : Heap) (locs : List Loc) (ls : Array Slot), kH D A s H locs [(q, .inr (6, [.ref q_numbers])), (q_numbers, .inl (cI, 36, .inl u_numbers))] → lv_has ls 8 [(6, .int x5)] → W p l e (kRm 2 50 0 0) s m args below meth c H locs 0 0 Q (F0 m 68 ls []) := by
      intro H locs ls hW hl
      refine lv_iload hx hb dX7_kthWithin_68 (lv_at hl 0 rfl) ?_
      obtain rfl := Option.some.inj hf
      exact k_iret C hlocks hr hW hQ dX7_kthWithin_70
    have L9 : ∀ (n : Nat) (i3 : Int32) (i4 : Int32), lpI n (un2 (pX7_kthWithin_L26 u_numbers p0 p1 p2 p3 p4)) (i3, i4) = some x5 → ∀ (H : Heap) (locs : List Loc) (ls : Array Slot), kH D A s H locs [(q, .inr (6, [.ref q_numbers])), (q_numbers, .inl (cI, 36, .inl u_numbers))] → lv_has ls 8 [(7, .int i3), (6, .int i4), (0, .ref q), (1, .int p0), (2, .int p1), (3, .int p2), (4, .int p3), (5, .int p4)] → W p l e (kRm 2 50 0 0) s m args below meth c H locs 0 0 Q (F0 m 26 ls []) := by
      intro n
      induction n with
      | zero => intro i3 i4 hx7; exact (lpI_0 hx7).elim
      | succ n ih11 =>
        intro i3 i4 hx7 H locs ls hW hl
        obtain ⟨ooho6, ho6, hx7⟩ := lpI_s hx7
        replace ho6 := un2_s ho6
        unfold pX7_kthWithin_L26 at ho6
        refine lv_iload hx hb dX7_kthWithin_26 (lv_at hl 0 rfl) ?_
        refine lv_if_le (tgt := 68) hx hb dX7_kthWithin_28 (by decide) (fun hc => ?_) (fun hc => ?_)
        · replace ho6 := if_t hc ho6
          obtain rfl := Option.some.inj ho6
          obtain rfl := lpK_r hx7
          exact J8 _ _ _ hW (lv_sub hl [1] rfl)
        · replace ho6 := if_f hc ho6
          refine lv_aload_n hx hb dX7_kthWithin_31 rfl (lv_at hl 2 rfl) ?_
          refine lv_iload_n hx hb dX7_kthWithin_32 rfl (lv_at hl 3 rfl) ?_
          refine lv_iload_n hx hb dX7_kthWithin_33 rfl (lv_at hl 4 rfl) ?_
          refine lv_iload_n hx hb dX7_kthWithin_34 rfl (lv_at hl 5 rfl) ?_
          refine lv_iload hx hb dX7_kthWithin_35 (lv_at hl 6 rfl) ?_
          refine lv_iload hx hb dX7_kthWithin_37 (lv_at hl 1 rfl) ?_
          refine lv_iload hx hb dX7_kthWithin_39 (lv_at hl 0 rfl) ?_
          refine lv_iadd hx hb dX7_kthWithin_41 ?_
          refine lv_iconst (v := 1) hx hb dX7_kthWithin_42 (by decide) ?_
          refine lv_isub hx hb dX7_kthWithin_43 ?_
          obtain ⟨v12, h13, ho6⟩ := bd1_s ho6
          refine k_callVR (b := q) (ci := 6) (qb := 0) (As := [.int p0, .int p1, .int p2, .int p3, .int ((i4 + i3) - 1)]) (n := 5) (rest := []) (st1 := [.int v12]) C hE hW hl.1 (kX7_countWithin l D cI cZ cJ _ q q_numbers u_numbers p0 p1 p2 p3 ((i4 + i3) - 1) v12 h13) gX7_kthWithin_X7_countWithin rfl (by decide +kernel) rfl ⟨Nat.le_of_ble_eq_true rfl, Nat.le_of_ble_eq_true rfl⟩ ⟨Nat.zero_le _, Nat.zero_le _⟩ rfl rfl [0, 1] rfl rfl (Nat.le_of_ble_eq_true rfl) rfl rfl dX7_kthWithin_44 (fun H locs hW => ?_)
          refine lv_iload hx hb dX7_kthWithin_47 (lv_at hl 7 rfl) ?_
          refine lv_icmp_gt (tgt := 59) hx hb dX7_kthWithin_49 (by decide) (fun hc => ?_) (fun hc => ?_)
          · replace ho6 := if_t hc ho6
            refine lv_iload hx hb dX7_kthWithin_59 (lv_at hl 0 rfl) ?_
            refine lv_iconst (v := 2) hx hb dX7_kthWithin_61 (by decide) ?_
            refine lv_idiv hx hb dX7_kthWithin_62 (by decide) ?_
            refine lv_istore (lv' := [(7, .int (i3 / 2)), (6, .int i4), (0, .ref q), (1, .int p0), (2, .int p1), (3, .int p2), (4, .int p3), (5, .int p4)]) hx hb dX7_kthWithin_63 hl (by decide) rfl (fun ls hl => ?_)
            refine lv_goto (tgt := 26) hx hb dX7_kthWithin_65 (by decide) ?_
            obtain rfl := Option.some.inj ho6
            exact ih11 _ _ hx7 _ _ _ hW (lv_sub hl [0, 1, 2, 3, 4, 5, 6, 7] rfl)
          · replace ho6 := if_f hc ho6
            refine lv_iload hx hb dX7_kthWithin_52 (lv_at hl 1 rfl) ?_
            refine lv_iload hx hb dX7_kthWithin_54 (lv_at hl 0 rfl) ?_
            refine lv_iadd hx hb dX7_kthWithin_56 ?_
            refine lv_istore (lv' := [(6, .int (i4 + i3)), (7, .int i3), (0, .ref q), (1, .int p0), (2, .int p1), (3, .int p2), (4, .int p3), (5, .int p4)]) hx hb dX7_kthWithin_57 hl (by decide) rfl (fun ls hl => ?_)
            refine lv_iload hx hb dX7_kthWithin_59 (lv_at hl 1 rfl) ?_
            refine lv_iconst (v := 2) hx hb dX7_kthWithin_61 (by decide) ?_
            refine lv_idiv hx hb dX7_kthWithin_62 (by decide) ?_
            refine lv_istore (lv' := [(7, .int (i3 / 2)), (6, .int (i4 + i3)), (0, .ref q), (1, .int p0), (2, .int p1), (3, .int p2), (4, .int p3), (5, .int p4)]) hx hb dX7_kthWithin_63 hl (by decide) rfl (fun ls hl => ?_)
            refine lv_goto (tgt := 26) hx hb dX7_kthWithin_65 (by decide) ?_
            obtain rfl := Option.some.inj ho6
            exact ih11 _ _ hx7 _ _ _ hW (lv_sub hl [0, 1, 2, 3, 4, 5, 6, 7] rfl)
    exact L9 lpF _ _ hx70 _ _ _ hW (lv_sub hl [0, 1, 2, 3, 4, 5, 6, 7] rfl)
  · replace hf := if_f hc hf
    refine lv_bipush (v := (-9)) hx hb dX7_kthWithin_16 (by decide) ?_
    obtain rfl := Option.some.inj hf
    exact k_iret C hlocks hr hW hQ dX7_kthWithin_18

set_option maxHeartbeats 4000000 in
set_option maxRecDepth 100000 in
theorem kX7_kthNumber (l : Launch) (D : va_G) (cI cZ cJ : ClassId) (sz : Nat) (q q_numbers : Nat) (u_numbers : Nat → Int32) (p0 : Int32) (r : Int32) (hf : pX7_kthNumber u_numbers p0 = some r) : kMet l D cI cZ cJ yX7_kthNumber wsX7_kthNumber 3 77 [.ref q, .int p0] [(q, .inr (6, [.ref q_numbers])), (q_numbers, .inl (cI, 36, .inl u_numbers))] sz (some (.int r)) [(q, .inr (6, [.ref q_numbers])), (q_numbers, .inl (cI, 36, .inl u_numbers))] := by
  refine kM_of (cc := cX7_kthNumber) (maxL := 2) (ret := (some .int)) (by decide) rfl (Nat.le_of_ble_eq_true rfl) ?_
  intro p e s m args below meth c A Q ls hQ C hlocks hr hE hW hl
  have hx := C.1
  have hb := C.2.1
  have hts := C.2.2.2.2
  have hl : lv_has ls 2 [(0, .ref q), (1, .int p0)] := hl
  unfold pX7_kthNumber at hf
  refine lv_aload_n hx hb dX7_kthNumber_0 rfl (lv_at hl 0 rfl) ?_
  refine lv_iconst (v := 0) hx hb dX7_kthNumber_1 (by decide) ?_
  refine lv_iconst (v := 0) hx hb dX7_kthNumber_2 (by decide) ?_
  refine lv_iconst (v := 5) hx hb dX7_kthNumber_3 (by decide) ?_
  refine lv_iconst (v := 5) hx hb dX7_kthNumber_4 (by decide) ?_
  refine lv_iload_n hx hb dX7_kthNumber_5 rfl (lv_at hl 1 rfl) ?_
  obtain ⟨v1, h2, hf⟩ := bd1_s hf
  refine k_callVR (b := q) (ci := 6) (qb := 0) (As := [.int 0, .int 0, .int 5, .int 5, .int p0]) (n := 5) (rest := []) (st1 := [.int v1]) C hE hW hl.1 (kX7_kthWithin l D cI cZ cJ _ q q_numbers u_numbers 0 0 5 5 p0 v1 h2) gX7_kthNumber_X7_kthWithin rfl (by decide +kernel) rfl ⟨Nat.le_of_ble_eq_true rfl, Nat.le_of_ble_eq_true rfl⟩ ⟨Nat.zero_le _, Nat.zero_le _⟩ rfl rfl [0, 1] rfl rfl (Nat.le_of_ble_eq_true rfl) rfl rfl dX7_kthNumber_6 (fun H locs hW => ?_)
  obtain rfl := Option.some.inj hf
  exact k_iret C hlocks hr hW hQ dX7_kthNumber_9

set_option maxHeartbeats 4000000 in
set_option maxRecDepth 100000 in
theorem kX7_kthPlace (l : Launch) (D : va_G) (cI cZ cJ : ClassId) (sz : Nat) (q q_numbers : Nat) (u_numbers : Nat → Int32) (p0 : Int32) (r : Int32) (hf : pX7_kthPlace u_numbers p0 = some r) : kMet l D cI cZ cJ yX7_kthPlace wsX7_kthPlace 4 98 [.ref q, .int p0] [(q, .inr (6, [.ref q_numbers])), (q_numbers, .inl (cI, 36, .inl u_numbers))] sz (some (.int r)) [(q, .inr (6, [.ref q_numbers])), (q_numbers, .inl (cI, 36, .inl u_numbers))] := by
  refine kM_of (cc := cX7_kthPlace) (maxL := 6) (ret := (some .int)) (by decide) rfl (Nat.le_of_ble_eq_true rfl) ?_
  intro p e s m args below meth c A Q ls hQ C hlocks hr hE hW hl
  have hx := C.1
  have hb := C.2.1
  have hts := C.2.2.2.2
  have hl : lv_has ls 6 [(0, .ref q), (1, .int p0)] := hl
  unfold pX7_kthPlace at hf
  refine lv_aload_n hx hb dX7_kthPlace_0 rfl (lv_at hl 0 rfl) ?_
  refine lv_iload_n hx hb dX7_kthPlace_1 rfl (lv_at hl 1 rfl) ?_
  obtain ⟨v1, h2, hf⟩ := bd1_s hf
  refine k_callVR (b := q) (ci := 6) (qb := 0) (As := [.int p0]) (n := 1) (rest := []) (st1 := [.int v1]) C hE hW hl.1 (kX7_kthNumber l D cI cZ cJ _ q q_numbers u_numbers p0 v1 h2) gX7_kthPlace_X7_kthNumber rfl (by decide +kernel) rfl ⟨Nat.le_of_ble_eq_true rfl, Nat.le_of_ble_eq_true rfl⟩ ⟨Nat.zero_le _, Nat.zero_le _⟩ rfl rfl [0, 1] rfl rfl (Nat.le_of_ble_eq_true rfl) rfl rfl dX7_kthPlace_2 (fun H locs hW => ?_)
  refine lv_istore_n (lv' := [(2, .int v1), (0, .ref q), (1, .int p0)]) hx hb dX7_kthPlace_5 rfl hl (by decide) rfl (fun ls hl => ?_)
  refine lv_iload_n hx hb dX7_kthPlace_6 rfl (lv_at hl 0 rfl) ?_
  refine lv_bipush (v := (-9)) hx hb dX7_kthPlace_7 (by decide) ?_
  refine lv_icmp_ne (tgt := 15) hx hb dX7_kthPlace_9 (by decide) (fun hc => ?_) (fun hc => ?_)
  · replace hf := if_f hc hf
    refine lv_iload_n hx hb dX7_kthPlace_15 rfl (lv_at hl 2 rfl) ?_
    refine lv_aload_n hx hb dX7_kthPlace_16 rfl (lv_at hl 1 rfl) ?_
    refine lv_iload_n hx hb dX7_kthPlace_17 rfl (lv_at hl 0 rfl) ?_
    refine lv_iconst (v := 1) hx hb dX7_kthPlace_18 (by decide) ?_
    refine lv_isub hx hb dX7_kthPlace_19 ?_
    obtain ⟨v3, h4, hf⟩ := bd1_s hf
    refine k_callVR (b := q) (ci := 6) (qb := 0) (As := [.int (v1 - 1)]) (n := 1) (rest := [.int p0]) (st1 := [.int v3, .int p0]) C hE hW hl.1 (kX7_cellsUpTo l D cI cZ cJ _ q q_numbers u_numbers (v1 - 1) v3 h4) gX7_kthPlace_X7_cellsUpTo rfl (by decide +kernel) rfl ⟨Nat.le_of_ble_eq_true rfl, Nat.le_of_ble_eq_true rfl⟩ ⟨Nat.zero_le _, Nat.zero_le _⟩ rfl rfl [0, 1] rfl rfl (Nat.le_of_ble_eq_true rfl) rfl rfl dX7_kthPlace_20 (fun H locs hW => ?_)
    refine lv_isub hx hb dX7_kthPlace_23 ?_
    refine lv_istore_n (lv' := [(3, .int (p0 - v3)), (2, .int v1), (0, .ref q), (1, .int p0)]) hx hb dX7_kthPlace_24 rfl hl (by decide) rfl (fun ls hl => ?_)
    refine lv_iconst (v := 0) hx hb dX7_kthPlace_25 (by decide) ?_
    refine lv_istore (lv' := [(4, .int 0), (3, .int (p0 - v3)), (2, .int v1), (0, .ref q), (1, .int p0)]) hx hb dX7_kthPlace_26 hl (by decide) rfl (fun ls hl => ?_)
    obtain ⟨xx11, hx80, hf⟩ := bd1_s hf
    have J9 : pX7_kthPlace_R84 = some r → ∀ (H : Heap) (locs : List Loc) (ls : Array Slot), kH D A s H locs [(q, .inr (6, [.ref q_numbers])), (q_numbers, .inl (cI, 36, .inl u_numbers))] → lv_has ls 6 [] → W p l e (kRm 4 98 0 0) s m args below meth c H locs 0 0 Q (F0 m 84 ls []) := by
      intro hf H locs ls hW hl
      unfold pX7_kthPlace_R84 at hf
      refine lv_bipush (v := (-9)) hx hb dX7_kthPlace_84 (by decide) ?_
      obtain rfl := Option.some.inj hf
      exact k_iret C hlocks hr hW hQ dX7_kthPlace_86
    have L10 : ∀ (n : Nat) (i5 : Int32) (i6 : Int32), lpI n (un2 (pX7_kthPlace_L28 u_numbers v1)) (i5, i6) = some xx11 → ∀ (H : Heap) (locs : List Loc) (ls : Array Slot), kH D A s H locs [(q, .inr (6, [.ref q_numbers])), (q_numbers, .inl (cI, 36, .inl u_numbers))] → lv_has ls 6 [(4, .int i5), (3, .int i6), (2, .int v1), (0, .ref q)] → W p l e (kRm 4 98 0 0) s m args below meth c H locs 0 0 Q (F0 m 28 ls []) := by
      intro n
      induction n with
      | zero => intro i5 i6 hx8; exact (lpI_0 hx8).elim
      | succ n ih12 =>
        intro i5 i6 hx8 H locs ls hW hl
        obtain ⟨ooho7, ho7, hx8⟩ := lpI_s hx8
        replace ho7 := un2_s ho7
        unfold pX7_kthPlace_L28 at ho7
        refine lv_iload hx hb dX7_kthPlace_28 (lv_at hl 0 rfl) ?_
        refine lv_bipush (v := 6) hx hb dX7_kthPlace_30 (by decide) ?_
        refine lv_icmp_ge (tgt := 84) hx hb dX7_kthPlace_32 (by decide) (fun hc => ?_) (fun hc => ?_)
        · replace ho7 := if_t hc ho7
          obtain rfl := Option.some.inj ho7
          obtain rfl := lpK_r hx8
          replace hf := el_r hf
          exact J9 hf _ _ _ hW (lv_sub hl [] rfl)
        · replace ho7 := if_f hc ho7
          refine lv_iconst (v := 0) hx hb dX7_kthPlace_35 (by decide) ?_
          refine lv_istore (lv' := [(5, .int 0), (4, .int i5), (3, .int i6), (2, .int v1), (0, .ref q)]) hx hb dX7_kthPlace_36 hl (by decide) rfl (fun ls hl => ?_)
          obtain ⟨xx20, hx170, ho7⟩ := bd1_s ho7
          have J18 : ∀ (x15 : Int32), pX7_kthPlace_R78 i5 x15 = some ooho7 → ∀ (H : Heap) (locs : List Loc) (ls : Array Slot), kH D A s H locs [(q, .inr (6, [.ref q_numbers])), (q_numbers, .inl (cI, 36, .inl u_numbers))] → lv_has ls 6 [(4, .int i5), (3, .int x15), (2, .int v1), (0, .ref q)] → W p l e (kRm 4 98 0 0) s m args below meth c H locs 0 0 Q (F0 m 78 ls []) := by
            intro x15 ho7 H locs ls hW hl
            unfold pX7_kthPlace_R78 at ho7
            refine lv_iinc (v := (i5 + 1)) (lv' := [(4, .int (i5 + 1)), (3, .int x15), (2, .int v1), (0, .ref q)]) hx hb dX7_kthPlace_78 hl (k := 0) rfl rfl (by decide) rfl (fun ls hl => ?_)
            refine lv_goto (tgt := 28) hx hb dX7_kthPlace_81 (by decide) ?_
            obtain rfl := Option.some.inj ho7
            exact ih12 _ _ hx8 _ _ _ hW (lv_sub hl [0, 1, 2, 3] rfl)
          have L19 : ∀ (n : Nat) (i13 : Int32) (i14 : Int32), lpI n (un2 (pX7_kthPlace_L38 u_numbers v1 i5)) (i13, i14) = some xx20 → ∀ (H : Heap) (locs : List Loc) (ls : Array Slot), kH D A s H locs [(q, .inr (6, [.ref q_numbers])), (q_numbers, .inl (cI, 36, .inl u_numbers))] → lv_has ls 6 [(5, .int i13), (4, .int i5), (3, .int i14), (2, .int v1), (0, .ref q)] → W p l e (kRm 4 98 0 0) s m args below meth c H locs 0 0 Q (F0 m 38 ls []) := by
            intro n
            induction n with
            | zero => intro i13 i14 hx17; exact (lpI_0 hx17).elim
            | succ n ih21 =>
              intro i13 i14 hx17 H locs ls hW hl
              obtain ⟨ooho16, ho16, hx17⟩ := lpI_s hx17
              replace ho16 := un2_s ho16
              unfold pX7_kthPlace_L38 at ho16
              refine lv_iload hx hb dX7_kthPlace_38 (lv_at hl 0 rfl) ?_
              refine lv_bipush (v := 6) hx hb dX7_kthPlace_40 (by decide) ?_
              refine lv_icmp_ge (tgt := 78) hx hb dX7_kthPlace_42 (by decide) (fun hc => ?_) (fun hc => ?_)
              · replace ho16 := if_t hc ho16
                obtain rfl := Option.some.inj ho16
                obtain rfl := lpK_r hx17
                replace ho7 := el_r ho7
                exact J18 _ ho7 _ _ _ hW (lv_sub hl [1, 2, 3, 4] rfl)
              · replace ho16 := if_f hc ho16
                refine lv_aload_n hx hb dX7_kthPlace_45 rfl (lv_at hl 4 rfl) ?_
                refine lv_iload hx hb dX7_kthPlace_46 (lv_at hl 1 rfl) ?_
                refine lv_iload hx hb dX7_kthPlace_48 (lv_at hl 0 rfl) ?_
                obtain ⟨v22, h23, ho16⟩ := bd1_s ho16
                refine k_callVR (b := q) (ci := 6) (qb := 0) (As := [.int i5, .int i13]) (n := 2) (rest := []) (st1 := [.int v22]) C hE hW hl.1 (kX7_at l D cI cZ cJ _ q q_numbers u_numbers i5 i13 v22 h23) gX7_kthPlace_X7_at rfl (by decide +kernel) rfl ⟨Nat.le_of_ble_eq_true rfl, Nat.le_of_ble_eq_true rfl⟩ ⟨Nat.zero_le _, Nat.zero_le _⟩ rfl rfl [0, 1] rfl rfl (Nat.le_of_ble_eq_true rfl) rfl rfl dX7_kthPlace_50 (fun H locs hW => ?_)
                refine lv_iload_n hx hb dX7_kthPlace_53 rfl (lv_at hl 3 rfl) ?_
                refine lv_icmp_ne (tgt := 72) hx hb dX7_kthPlace_54 (by decide) (fun hc => ?_) (fun hc => ?_)
                · replace ho16 := if_f hc ho16
                  refine lv_iinc (v := (i13 + 1)) (lv' := [(5, .int (i13 + 1)), (4, .int i5), (3, .int i14), (2, .int v1), (0, .ref q)]) hx hb dX7_kthPlace_72 hl (k := 0) rfl rfl (by decide) rfl (fun ls hl => ?_)
                  refine lv_goto (tgt := 38) hx hb dX7_kthPlace_75 (by decide) ?_
                  obtain rfl := Option.some.inj ho16
                  exact ih21 _ _ hx17 _ _ _ hW (lv_sub hl [0, 1, 2, 3, 4] rfl)
                · replace ho16 := if_t hc ho16
                  refine lv_iload_n hx hb dX7_kthPlace_57 rfl (lv_at hl 2 rfl) ?_
                  refine lv_if_ne (tgt := 69) hx hb dX7_kthPlace_58 (by decide) (fun hc => ?_) (fun hc => ?_)
                  · replace ho16 := if_f hc ho16
                    refine lv_iinc (v := (i14 + (-1))) (lv' := [(3, .int (i14 + (-1))), (5, .int i13), (4, .int i5), (2, .int v1), (0, .ref q)]) hx hb dX7_kthPlace_69 hl (k := 2) rfl rfl (by decide) rfl (fun ls hl => ?_)
                    refine lv_iinc (v := (i13 + 1)) (lv' := [(5, .int (i13 + 1)), (3, .int (i14 + (-1))), (4, .int i5), (2, .int v1), (0, .ref q)]) hx hb dX7_kthPlace_72 hl (k := 1) rfl rfl (by decide) rfl (fun ls hl => ?_)
                    refine lv_goto (tgt := 38) hx hb dX7_kthPlace_75 (by decide) ?_
                    obtain rfl := Option.some.inj ho16
                    exact ih21 _ _ hx17 _ _ _ hW (lv_sub hl [0, 2, 1, 3, 4] rfl)
                  · replace ho16 := if_t hc ho16
                    refine lv_iload hx hb dX7_kthPlace_61 (lv_at hl 1 rfl) ?_
                    refine lv_iload hx hb dX7_kthPlace_63 (lv_at hl 0 rfl) ?_
                    obtain ⟨v24, h25, ho16⟩ := bd1_s ho16
                    refine k_callSN (As := [.int i5, .int i13]) (n := 2) (rest := []) (st1 := [.int v24]) C hE hW hl.1 (kX9_placeOf l D cI cZ cJ _ i5 i13 v24 h25) gX7_kthPlace_X9_placeOf_n51 rfl (by decide +kernel) (by decide +kernel) (by decide +kernel) (by decide +kernel) rfl ⟨Nat.le_of_ble_eq_true rfl, Nat.le_of_ble_eq_true rfl⟩ ⟨Nat.zero_le _, Nat.zero_le _⟩ (Nat.le_of_ble_eq_true rfl) rfl rfl dX7_kthPlace_65 (fun H locs hW => ?_)
                    obtain rfl := Option.some.inj ho16
                    obtain rfl := lpK_r hx17
                    replace ho7 := el_l ho7
                    obtain rfl := Option.some.inj ho7
                    obtain rfl := lpK_r hx8
                    replace hf := el_l hf
                    obtain rfl := Option.some.inj hf
                    exact k_iret C hlocks hr hW hQ dX7_kthPlace_68
          exact L19 lpF _ _ hx170 _ _ _ hW (lv_sub hl [0, 1, 2, 3, 4] rfl)
    exact L10 lpF _ _ hx80 _ _ _ hW (lv_sub hl [0, 1, 2, 3] rfl)
  · replace hf := if_t hc hf
    refine lv_bipush (v := (-9)) hx hb dX7_kthPlace_12 (by decide) ?_
    obtain rfl := Option.some.inj hf
    exact k_iret C hlocks hr hW hQ dX7_kthPlace_14

set_option maxHeartbeats 4000000 in
set_option maxRecDepth 100000 in
theorem kX7_cellsBefore (l : Launch) (D : va_G) (cI cZ cJ : ClassId) (sz : Nat) (q q_numbers : Nat) (u_numbers : Nat → Int32) (p0 : Int32) (p1 : Int32) (r : Int32) (hf : pX7_cellsBefore u_numbers p0 p1 = some r) : kMet l D cI cZ cJ yX7_cellsBefore wsX7_cellsBefore 3 71 [.ref q, .int p0, .int p1] [(q, .inr (6, [.ref q_numbers])), (q_numbers, .inl (cI, 36, .inl u_numbers))] sz (some (.int r)) [(q, .inr (6, [.ref q_numbers])), (q_numbers, .inl (cI, 36, .inl u_numbers))] := by
  refine kM_of (cc := cX7_cellsBefore) (maxL := 8) (ret := (some .int)) (by decide) rfl (Nat.le_of_ble_eq_true rfl) ?_
  intro p e s m args below meth c A Q ls hQ C hlocks hr hE hW hl
  have hx := C.1
  have hb := C.2.1
  have hts := C.2.2.2.2
  have hl : lv_has ls 8 [(0, .ref q), (1, .int p0), (2, .int p1)] := hl
  unfold pX7_cellsBefore at hf
  refine lv_aload_n hx hb dX7_cellsBefore_0 rfl (lv_at hl 0 rfl) ?_
  refine lv_iload_n hx hb dX7_cellsBefore_1 rfl (lv_at hl 1 rfl) ?_
  refine lv_iload_n hx hb dX7_cellsBefore_2 rfl (lv_at hl 2 rfl) ?_
  obtain ⟨v1, h2, hf⟩ := bd1_s hf
  refine k_callVR (b := q) (ci := 6) (qb := 0) (As := [.int p0, .int p1]) (n := 2) (rest := []) (st1 := [.int v1]) C hE hW hl.1 (kX7_at l D cI cZ cJ _ q q_numbers u_numbers p0 p1 v1 h2) gX7_cellsBefore_X7_at rfl (by decide +kernel) rfl ⟨Nat.le_of_ble_eq_true rfl, Nat.le_of_ble_eq_true rfl⟩ ⟨Nat.zero_le _, Nat.zero_le _⟩ rfl rfl [0, 1] rfl rfl (Nat.le_of_ble_eq_true rfl) rfl rfl dX7_cellsBefore_3 (fun H locs hW => ?_)
  refine lv_istore_n (lv' := [(3, .int v1), (0, .ref q), (1, .int p0), (2, .int p1)]) hx hb dX7_cellsBefore_6 rfl hl (by decide) rfl (fun ls hl => ?_)
  refine lv_aload_n hx hb dX7_cellsBefore_7 rfl (lv_at hl 1 rfl) ?_
  refine lv_iload_n hx hb dX7_cellsBefore_8 rfl (lv_at hl 0 rfl) ?_
  refine lv_iconst (v := 1) hx hb dX7_cellsBefore_9 (by decide) ?_
  refine lv_isub hx hb dX7_cellsBefore_10 ?_
  obtain ⟨v3, h4, hf⟩ := bd1_s hf
  refine k_callVR (b := q) (ci := 6) (qb := 0) (As := [.int (v1 - 1)]) (n := 1) (rest := []) (st1 := [.int v3]) C hE hW hl.1 (kX7_cellsUpTo l D cI cZ cJ _ q q_numbers u_numbers (v1 - 1) v3 h4) gX7_cellsBefore_X7_cellsUpTo rfl (by decide +kernel) rfl ⟨Nat.le_of_ble_eq_true rfl, Nat.le_of_ble_eq_true rfl⟩ ⟨Nat.zero_le _, Nat.zero_le _⟩ rfl rfl [0, 1] rfl rfl (Nat.le_of_ble_eq_true rfl) rfl rfl dX7_cellsBefore_11 (fun H locs hW => ?_)
  refine lv_istore (lv' := [(4, .int v3), (3, .int v1), (0, .ref q), (1, .int p0), (2, .int p1)]) hx hb dX7_cellsBefore_14 hl (by decide) rfl (fun ls hl => ?_)
  refine lv_iconst (v := 0) hx hb dX7_cellsBefore_16 (by decide) ?_
  refine lv_istore (lv' := [(5, .int 0), (4, .int v3), (3, .int v1), (0, .ref q), (1, .int p0), (2, .int p1)]) hx hb dX7_cellsBefore_17 hl (by decide) rfl (fun ls hl => ?_)
  obtain ⟨x7, hx90, hf⟩ := bd1_s hf
  have J10 : ∀ (H : Heap) (locs : List Loc) (ls : Array Slot), kH D A s H locs [(q, .inr (6, [.ref q_numbers])), (q_numbers, .inl (cI, 36, .inl u_numbers))] → lv_has ls 8 [(4, .int x7)] → W p l e (kRm 3 71 0 0) s m args below meth c H locs 0 0 Q (F0 m 83 ls []) := by
    intro H locs ls hW hl
    refine lv_iload hx hb dX7_cellsBefore_83 (lv_at hl 0 rfl) ?_
    obtain rfl := Option.some.inj hf
    exact k_iret C hlocks hr hW hQ dX7_cellsBefore_85
  have L11 : ∀ (n : Nat) (i5 : Int32) (i6 : Int32), lpI n (un2 (pX7_cellsBefore_L19 u_numbers p0 p1 v1)) (i5, i6) = some x7 → ∀ (H : Heap) (locs : List Loc) (ls : Array Slot), kH D A s H locs [(q, .inr (6, [.ref q_numbers])), (q_numbers, .inl (cI, 36, .inl u_numbers))] → lv_has ls 8 [(5, .int i5), (4, .int i6), (3, .int v1), (0, .ref q), (1, .int p0), (2, .int p1)] → W p l e (kRm 3 71 0 0) s m args below meth c H locs 0 0 Q (F0 m 19 ls []) := by
    intro n
    induction n with
    | zero => intro i5 i6 hx9; exact (lpI_0 hx9).elim
    | succ n ih13 =>
      intro i5 i6 hx9 H locs ls hW hl
      obtain ⟨ooho8, ho8, hx9⟩ := lpI_s hx9
      replace ho8 := un2_s ho8
      unfold pX7_cellsBefore_L19 at ho8
      refine lv_iload hx hb dX7_cellsBefore_19 (lv_at hl 0 rfl) ?_
      refine lv_iload_n hx hb dX7_cellsBefore_21 rfl (lv_at hl 4 rfl) ?_
      refine lv_icmp_gt (tgt := 83) hx hb dX7_cellsBefore_22 (by decide) (fun hc => ?_) (fun hc => ?_)
      · replace ho8 := if_t hc ho8
        obtain rfl := Option.some.inj ho8
        obtain rfl := lpK_r hx9
        exact J10 _ _ _ hW (lv_sub hl [1] rfl)
      · replace ho8 := if_f hc ho8
        refine lv_iload hx hb dX7_cellsBefore_25 (lv_at hl 0 rfl) ?_
        refine lv_bipush (v := 6) hx hb dX7_cellsBefore_27 (by decide) ?_
        refine lv_icmp_ge (tgt := 83) hx hb dX7_cellsBefore_29 (by decide) (fun hc => ?_) (fun hc => ?_)
        · replace ho8 := if_t hc ho8
          obtain rfl := Option.some.inj ho8
          obtain rfl := lpK_r hx9
          exact J10 _ _ _ hW (lv_sub hl [1] rfl)
        · replace ho8 := if_f hc ho8
          refine lv_iload hx hb dX7_cellsBefore_32 (lv_at hl 0 rfl) ?_
          refine lv_iload_n hx hb dX7_cellsBefore_34 rfl (lv_at hl 4 rfl) ?_
          obtain ⟨j14, hd15, ho8⟩ := bd1_s ho8
          have J16 : ∀ (H : Heap) (locs : List Loc) (ls : Array Slot), kH D A s H locs [(q, .inr (6, [.ref q_numbers])), (q_numbers, .inl (cI, 36, .inl u_numbers))] → lv_has ls 8 [(0, .ref q), (1, .int p0), (2, .int p1), (3, .int v1), (4, .int i6), (5, .int i5)] → W p l e (kRm 3 71 0 0) s m args below meth c H locs 0 0 Q (F0 m 44 ls [.int j14]) := by
            intro H locs ls hW hl
            refine lv_istore (lv' := [(6, .int j14), (0, .ref q), (1, .int p0), (2, .int p1), (3, .int v1), (4, .int i6), (5, .int i5)]) hx hb dX7_cellsBefore_44 hl (by decide) rfl (fun ls hl => ?_)
            refine lv_iconst (v := 0) hx hb dX7_cellsBefore_46 (by decide) ?_
            refine lv_istore (lv' := [(7, .int 0), (6, .int j14), (0, .ref q), (1, .int p0), (2, .int p1), (3, .int v1), (4, .int i6), (5, .int i5)]) hx hb dX7_cellsBefore_47 hl (by decide) rfl (fun ls hl => ?_)
            obtain ⟨x19, hx210, ho8⟩ := bd1_s ho8
            have J22 : ∀ (H : Heap) (locs : List Loc) (ls : Array Slot), kH D A s H locs [(q, .inr (6, [.ref q_numbers])), (q_numbers, .inl (cI, 36, .inl u_numbers))] → lv_has ls 8 [(0, .ref q), (1, .int p0), (2, .int p1), (3, .int v1), (4, .int x19), (5, .int i5)] → W p l e (kRm 3 71 0 0) s m args below meth c H locs 0 0 Q (F0 m 77 ls []) := by
              intro H locs ls hW hl
              refine lv_iinc (v := (i5 + 1)) (lv' := [(5, .int (i5 + 1)), (0, .ref q), (1, .int p0), (2, .int p1), (3, .int v1), (4, .int x19)]) hx hb dX7_cellsBefore_77 hl (k := 5) rfl rfl (by decide) rfl (fun ls hl => ?_)
              refine lv_goto (tgt := 19) hx hb dX7_cellsBefore_80 (by decide) ?_
              obtain rfl := Option.some.inj ho8
              exact ih13 _ _ hx9 _ _ _ hW (lv_sub hl [0, 5, 4, 1, 2, 3] rfl)
            have L23 : ∀ (n : Nat) (i17 : Int32) (i18 : Int32), lpI n (un2 (pX7_cellsBefore_L49 u_numbers v1 i5 j14)) (i17, i18) = some x19 → ∀ (H : Heap) (locs : List Loc) (ls : Array Slot), kH D A s H locs [(q, .inr (6, [.ref q_numbers])), (q_numbers, .inl (cI, 36, .inl u_numbers))] → lv_has ls 8 [(7, .int i17), (6, .int j14), (0, .ref q), (1, .int p0), (2, .int p1), (3, .int v1), (4, .int i18), (5, .int i5)] → W p l e (kRm 3 71 0 0) s m args below meth c H locs 0 0 Q (F0 m 49 ls []) := by
              intro n
              induction n with
              | zero => intro i17 i18 hx21; exact (lpI_0 hx21).elim
              | succ n ih25 =>
                intro i17 i18 hx21 H locs ls hW hl
                obtain ⟨ooho20, ho20, hx21⟩ := lpI_s hx21
                replace ho20 := un2_s ho20
                unfold pX7_cellsBefore_L49 at ho20
                refine lv_iload hx hb dX7_cellsBefore_49 (lv_at hl 0 rfl) ?_
                refine lv_iload hx hb dX7_cellsBefore_51 (lv_at hl 1 rfl) ?_
                refine lv_icmp_ge (tgt := 77) hx hb dX7_cellsBefore_53 (by decide) (fun hc => ?_) (fun hc => ?_)
                · replace ho20 := if_t hc ho20
                  obtain rfl := Option.some.inj ho20
                  obtain rfl := lpK_r hx21
                  exact J22 _ _ _ hW (lv_sub hl [2, 3, 4, 5, 6, 7] rfl)
                · replace ho20 := if_f hc ho20
                  refine lv_aload_n hx hb dX7_cellsBefore_56 rfl (lv_at hl 2 rfl) ?_
                  refine lv_iload hx hb dX7_cellsBefore_57 (lv_at hl 7 rfl) ?_
                  refine lv_iload hx hb dX7_cellsBefore_59 (lv_at hl 0 rfl) ?_
                  obtain ⟨v26, h27, ho20⟩ := bd1_s ho20
                  refine k_callVR (b := q) (ci := 6) (qb := 0) (As := [.int i5, .int i17]) (n := 2) (rest := []) (st1 := [.int v26]) C hE hW hl.1 (kX7_at l D cI cZ cJ _ q q_numbers u_numbers i5 i17 v26 h27) gX7_cellsBefore_X7_at rfl (by decide +kernel) rfl ⟨Nat.le_of_ble_eq_true rfl, Nat.le_of_ble_eq_true rfl⟩ ⟨Nat.zero_le _, Nat.zero_le _⟩ rfl rfl [0, 1] rfl rfl (Nat.le_of_ble_eq_true rfl) rfl rfl dX7_cellsBefore_61 (fun H locs hW => ?_)
                  refine lv_iload_n hx hb dX7_cellsBefore_64 rfl (lv_at hl 5 rfl) ?_
                  refine lv_icmp_ne (tgt := 71) hx hb dX7_cellsBefore_65 (by decide) (fun hc => ?_) (fun hc => ?_)
                  · replace ho20 := if_f hc ho20
                    refine lv_iinc (v := (i17 + 1)) (lv' := [(7, .int (i17 + 1)), (6, .int j14), (0, .ref q), (1, .int p0), (2, .int p1), (3, .int v1), (4, .int i18), (5, .int i5)]) hx hb dX7_cellsBefore_71 hl (k := 0) rfl rfl (by decide) rfl (fun ls hl => ?_)
                    refine lv_goto (tgt := 49) hx hb dX7_cellsBefore_74 (by decide) ?_
                    obtain rfl := Option.some.inj ho20
                    exact ih25 _ _ hx21 _ _ _ hW (lv_sub hl [0, 1, 2, 3, 4, 5, 6, 7] rfl)
                  · replace ho20 := if_t hc ho20
                    refine lv_iinc (v := (i18 + 1)) (lv' := [(4, .int (i18 + 1)), (7, .int i17), (6, .int j14), (0, .ref q), (1, .int p0), (2, .int p1), (3, .int v1), (5, .int i5)]) hx hb dX7_cellsBefore_68 hl (k := 6) rfl rfl (by decide) rfl (fun ls hl => ?_)
                    refine lv_iinc (v := (i17 + 1)) (lv' := [(7, .int (i17 + 1)), (4, .int (i18 + 1)), (6, .int j14), (0, .ref q), (1, .int p0), (2, .int p1), (3, .int v1), (5, .int i5)]) hx hb dX7_cellsBefore_71 hl (k := 1) rfl rfl (by decide) rfl (fun ls hl => ?_)
                    refine lv_goto (tgt := 49) hx hb dX7_cellsBefore_74 (by decide) ?_
                    obtain rfl := Option.some.inj ho20
                    exact ih25 _ _ hx21 _ _ _ hW (lv_sub hl [0, 2, 3, 4, 5, 6, 1, 7] rfl)
            exact L23 lpF _ _ hx210 _ _ _ hW (lv_sub hl [0, 1, 2, 3, 4, 5, 6, 7] rfl)
          refine lv_icmp_ge (tgt := 43) hx hb dX7_cellsBefore_35 (by decide) (fun hc => ?_) (fun hc => ?_)
          · replace hd15 := if_t hc hd15
            refine lv_iload_n hx hb dX7_cellsBefore_43 rfl (lv_at hl 5 rfl) ?_
            obtain rfl := Option.some.inj hd15
            exact J16 _ _ _ hW (lv_sub hl [3, 4, 5, 2, 1, 0] rfl)
          · replace hd15 := if_f hc hd15
            refine lv_bipush (v := 6) hx hb dX7_cellsBefore_38 (by decide) ?_
            refine lv_goto (tgt := 44) hx hb dX7_cellsBefore_40 (by decide) ?_
            obtain rfl := Option.some.inj hd15
            exact J16 _ _ _ hW (lv_sub hl [3, 4, 5, 2, 1, 0] rfl)
  exact L11 lpF _ _ hx90 _ _ _ hW (lv_sub hl [0, 1, 2, 3, 4, 5] rfl)

set_option maxHeartbeats 4000000 in
set_option maxRecDepth 100000 in
theorem kX7_tellWalk (l : Launch) (D : va_G) (cI cZ cJ : ClassId) (sz : Nat) (q q_numbers : Nat) (u_numbers : Nat → Int32) (p0 : Int32) (p1 : Int32) (r : Int32) (hf : pX7_tellWalk u_numbers p0 p1 = some r) : kMet l D cI cZ cJ yX7_tellWalk wsX7_tellWalk 2 44 [.ref q, .int p0, .int p1] [(q, .inr (6, [.ref q_numbers])), (q_numbers, .inl (cI, 36, .inl u_numbers))] sz (some (.int r)) [(q, .inr (6, [.ref q_numbers])), (q_numbers, .inl (cI, 36, .inl u_numbers))] := by
  refine kM_of (cc := cX7_tellWalk) (maxL := 8) (ret := (some .int)) (by decide) rfl (Nat.le_of_ble_eq_true rfl) ?_
  intro p e s m args below meth c A Q ls hQ C hlocks hr hE hW hl
  have hx := C.1
  have hb := C.2.1
  have hts := C.2.2.2.2
  have hl : lv_has ls 8 [(0, .ref q), (1, .int p0), (2, .int p1)] := hl
  unfold pX7_tellWalk at hf
  refine lv_iconst (v := 0) hx hb dX7_tellWalk_0 (by decide) ?_
  refine lv_istore_n (lv' := [(3, .int 0), (0, .ref q), (1, .int p0), (2, .int p1)]) hx hb dX7_tellWalk_1 rfl hl (by decide) rfl (fun ls hl => ?_)
  refine lv_aload_n hx hb dX7_tellWalk_2 rfl (lv_at hl 1 rfl) ?_
  refine lv_iconst (v := 0) hx hb dX7_tellWalk_3 (by decide) ?_
  obtain ⟨v1, h2, hf⟩ := bd1_s hf
  refine k_callVR (b := q) (ci := 6) (qb := 0) (As := [.int 0]) (n := 1) (rest := []) (st1 := [.int v1]) C hE hW hl.1 (kX7_rowLength l D cI cZ cJ _ q q_numbers u_numbers 0 v1 h2) gX7_tellWalk_X7_rowLength rfl (by decide +kernel) rfl ⟨Nat.le_of_ble_eq_true rfl, Nat.le_of_ble_eq_true rfl⟩ ⟨Nat.zero_le _, Nat.zero_le _⟩ rfl rfl [0, 1] rfl rfl (Nat.le_of_ble_eq_true rfl) rfl rfl dX7_tellWalk_4 (fun H locs hW => ?_)
  refine lv_iconst (v := 1) hx hb dX7_tellWalk_7 (by decide) ?_
  refine lv_isub hx hb dX7_tellWalk_8 ?_
  refine lv_istore (lv' := [(4, .int (v1 - 1)), (3, .int 0), (0, .ref q), (1, .int p0), (2, .int p1)]) hx hb dX7_tellWalk_9 hl (by decide) rfl (fun ls hl => ?_)
  refine lv_iconst (v := 0) hx hb dX7_tellWalk_11 (by decide) ?_
  refine lv_istore (lv' := [(5, .int 0), (4, .int (v1 - 1)), (3, .int 0), (0, .ref q), (1, .int p0), (2, .int p1)]) hx hb dX7_tellWalk_12 hl (by decide) rfl (fun ls hl => ?_)
  refine lv_bipush (v := (-9)) hx hb dX7_tellWalk_14 (by decide) ?_
  refine lv_istore (lv' := [(6, .int (-9)), (5, .int 0), (4, .int (v1 - 1)), (3, .int 0), (0, .ref q), (1, .int p0), (2, .int p1)]) hx hb dX7_tellWalk_16 hl (by decide) rfl (fun ls hl => ?_)
  refine lv_bipush (v := (-9)) hx hb dX7_tellWalk_18 (by decide) ?_
  refine lv_istore (lv' := [(7, .int (-9)), (6, .int (-9)), (5, .int 0), (4, .int (v1 - 1)), (3, .int 0), (0, .ref q), (1, .int p0), (2, .int p1)]) hx hb dX7_tellWalk_20 hl (by decide) rfl (fun ls hl => ?_)
  obtain ⟨⟨x8, x9, x10⟩, hx120, hf⟩ := bd1_s hf
  replace hf := un3_s hf
  have J13 : ∀ (H : Heap) (locs : List Loc) (ls : Array Slot), kH D A s H locs [(q, .inr (6, [.ref q_numbers])), (q_numbers, .inl (cI, 36, .inl u_numbers))] → lv_has ls 8 [(7, .int x8), (6, .int x9), (5, .int x10), (2, .int p1)] → W p l e (kRm 2 44 0 0) s m args below meth c H locs 0 0 Q (F0 m 109 ls []) := by
    intro H locs ls hW hl
    refine lv_iload_n hx hb dX7_tellWalk_109 rfl (lv_at hl 3 rfl) ?_
    refine lv_if_ne (tgt := 116) hx hb dX7_tellWalk_110 (by decide) (fun hc => ?_) (fun hc => ?_)
    · replace hf := if_f hc hf
      refine lv_iload_n hx hb dX7_tellWalk_116 rfl (lv_at hl 3 rfl) ?_
      refine lv_iconst (v := 1) hx hb dX7_tellWalk_117 (by decide) ?_
      refine lv_icmp_ne (tgt := 126) hx hb dX7_tellWalk_118 (by decide) (fun hc => ?_) (fun hc => ?_)
      · replace hf := if_f hc hf
        refine lv_iload hx hb dX7_tellWalk_126 (lv_at hl 0 rfl) ?_
        obtain rfl := Option.some.inj hf
        exact k_iret C hlocks hr hW hQ dX7_tellWalk_128
      · replace hf := if_t hc hf
        refine lv_iload hx hb dX7_tellWalk_121 (lv_at hl 1 rfl) ?_
        refine lv_goto (tgt := 128) hx hb dX7_tellWalk_123 (by decide) ?_
        obtain rfl := Option.some.inj hf
        exact k_iret C hlocks hr hW hQ dX7_tellWalk_128
    · replace hf := if_t hc hf
      refine lv_iload hx hb dX7_tellWalk_113 (lv_at hl 2 rfl) ?_
      obtain rfl := Option.some.inj hf
      exact k_iret C hlocks hr hW hQ dX7_tellWalk_115
  have L14 : ∀ (n : Nat) (i3 : Int32) (i4 : Int32) (i5 : Int32) (i6 : Int32) (i7 : Int32), lpI n (un5 (pX7_tellWalk_L22 u_numbers p0)) (i3, i4, i5, i6, i7) = some (x8, x9, x10) → ∀ (H : Heap) (locs : List Loc) (ls : Array Slot), kH D A s H locs [(q, .inr (6, [.ref q_numbers])), (q_numbers, .inl (cI, 36, .inl u_numbers))] → lv_has ls 8 [(7, .int i3), (6, .int i4), (5, .int i5), (4, .int i6), (3, .int i7), (0, .ref q), (1, .int p0), (2, .int p1)] → W p l e (kRm 2 44 0 0) s m args below meth c H locs 0 0 Q (F0 m 22 ls []) := by
    intro n
    induction n with
    | zero => intro i3 i4 i5 i6 i7 hx12; exact (lpI_0 hx12).elim
    | succ n ih16 =>
      intro i3 i4 i5 i6 i7 hx12 H locs ls hW hl
      obtain ⟨ooho11, ho11, hx12⟩ := lpI_s hx12
      replace ho11 := un5_s ho11
      unfold pX7_tellWalk_L22 at ho11
      refine lv_iload hx hb dX7_tellWalk_22 (lv_at hl 2 rfl) ?_
      refine lv_bipush (v := 12) hx hb dX7_tellWalk_24 (by decide) ?_
      refine lv_icmp_ge (tgt := 109) hx hb dX7_tellWalk_26 (by decide) (fun hc => ?_) (fun hc => ?_)
      · replace ho11 := if_t hc ho11
        obtain rfl := Option.some.inj ho11
        obtain ⟨rfl, rfl, rfl⟩ := pr3 (lpK_r hx12)
        exact J13 _ _ _ hW (lv_sub hl [0, 1, 2, 7] rfl)
      · replace ho11 := if_f hc ho11
        refine lv_aload_n hx hb dX7_tellWalk_29 rfl (lv_at hl 5 rfl) ?_
        refine lv_iload_n hx hb dX7_tellWalk_30 rfl (lv_at hl 4 rfl) ?_
        refine lv_iload hx hb dX7_tellWalk_31 (lv_at hl 3 rfl) ?_
        obtain ⟨v17, h18, ho11⟩ := bd1_s ho11
        refine k_callVR (b := q) (ci := 6) (qb := 0) (As := [.int i7, .int i6]) (n := 2) (rest := []) (st1 := [.int v17]) C hE hW hl.1 (kX7_has l D cI cZ cJ _ q q_numbers u_numbers i7 i6 v17 h18) gX7_tellWalk_X7_has rfl (by decide +kernel) rfl ⟨Nat.le_of_ble_eq_true rfl, Nat.le_of_ble_eq_true rfl⟩ ⟨Nat.zero_le _, Nat.zero_le _⟩ rfl rfl [0, 1] rfl rfl (Nat.le_of_ble_eq_true rfl) rfl rfl dX7_tellWalk_33 (fun H locs hW => ?_)
        refine lv_if_eq (tgt := 109) hx hb dX7_tellWalk_36 (by decide) (fun hc => ?_) (fun hc => ?_)
        · replace ho11 := if_t hc ho11
          obtain rfl := Option.some.inj ho11
          obtain ⟨rfl, rfl, rfl⟩ := pr3 (lpK_r hx12)
          exact J13 _ _ _ hW (lv_sub hl [0, 1, 2, 7] rfl)
        · replace ho11 := if_f hc ho11
          refine lv_iinc (v := (i5 + 1)) (lv' := [(5, .int (i5 + 1)), (7, .int i3), (6, .int i4), (4, .int i6), (3, .int i7), (0, .ref q), (1, .int p0), (2, .int p1)]) hx hb dX7_tellWalk_39 hl (k := 2) rfl rfl (by decide) rfl (fun ls hl => ?_)
          refine lv_iload_n hx hb dX7_tellWalk_42 rfl (lv_at hl 4 rfl) ?_
          refine lv_iload hx hb dX7_tellWalk_43 (lv_at hl 3 rfl) ?_
          obtain ⟨v19, h20, ho11⟩ := bd1_s ho11
          refine k_callSN (As := [.int i7, .int i6]) (n := 2) (rest := []) (st1 := [.int v19]) C hE hW hl.1 (kX9_placeOf l D cI cZ cJ _ i7 i6 v19 h20) gX7_tellWalk_X9_placeOf_n51 rfl (by decide +kernel) (by decide +kernel) (by decide +kernel) (by decide +kernel) rfl ⟨Nat.le_of_ble_eq_true rfl, Nat.le_of_ble_eq_true rfl⟩ ⟨Nat.zero_le _, Nat.zero_le _⟩ (Nat.le_of_ble_eq_true rfl) rfl rfl dX7_tellWalk_45 (fun H locs hW => ?_)
          refine lv_istore (lv' := [(7, .int v19), (5, .int (i5 + 1)), (6, .int i4), (4, .int i6), (3, .int i7), (0, .ref q), (1, .int p0), (2, .int p1)]) hx hb dX7_tellWalk_48 hl (by decide) rfl (fun ls hl => ?_)
          refine lv_iload hx hb dX7_tellWalk_50 (lv_at hl 2 rfl) ?_
          refine lv_bipush (v := (-9)) hx hb dX7_tellWalk_52 (by decide) ?_
          obtain ⟨j21, hd22, ho11⟩ := bd1_s ho11
          have J23 : ∀ (H : Heap) (locs : List Loc) (ls : Array Slot), kH D A s H locs [(q, .inr (6, [.ref q_numbers])), (q_numbers, .inl (cI, 36, .inl u_numbers))] → lv_has ls 8 [(0, .ref q), (1, .int p0), (2, .int p1), (3, .int i7), (4, .int i6), (5, .int (i5 + 1)), (6, .int j21), (7, .int v19)] → W p l e (kRm 2 44 0 0) s m args below meth c H locs 0 0 Q (F0 m 72 ls []) := by
            intro H locs ls hW hl
            refine lv_aload_n hx hb dX7_tellWalk_72 rfl (lv_at hl 0 rfl) ?_
            refine lv_iload_n hx hb dX7_tellWalk_73 rfl (lv_at hl 3 rfl) ?_
            refine lv_iload hx hb dX7_tellWalk_74 (lv_at hl 4 rfl) ?_
            obtain ⟨v26, h27, ho11⟩ := bd1_s ho11
            refine k_callVR (b := q) (ci := 6) (qb := 0) (As := [.int i7, .int i6]) (n := 2) (rest := []) (st1 := [.int v26]) C hE hW hl.1 (kX7_at l D cI cZ cJ _ q q_numbers u_numbers i7 i6 v26 h27) gX7_tellWalk_X7_at rfl (by decide +kernel) rfl ⟨Nat.le_of_ble_eq_true rfl, Nat.le_of_ble_eq_true rfl⟩ ⟨Nat.zero_le _, Nat.zero_le _⟩ rfl rfl [0, 1] rfl rfl (Nat.le_of_ble_eq_true rfl) rfl rfl dX7_tellWalk_76 (fun H locs hW => ?_)
            refine lv_iload_n hx hb dX7_tellWalk_79 rfl (lv_at hl 1 rfl) ?_
            refine lv_icmp_le (tgt := 89) hx hb dX7_tellWalk_80 (by decide) (fun hc => ?_) (fun hc => ?_)
            · replace ho11 := if_t hc ho11
              refine lv_iinc (v := (i7 + 1)) (lv' := [(3, .int (i7 + 1)), (0, .ref q), (1, .int p0), (2, .int p1), (4, .int i6), (5, .int (i5 + 1)), (6, .int j21), (7, .int v19)]) hx hb dX7_tellWalk_89 hl (k := 3) rfl rfl (by decide) rfl (fun ls hl => ?_)
              refine lv_iload hx hb dX7_tellWalk_92 (lv_at hl 4 rfl) ?_
              refine lv_aload_n hx hb dX7_tellWalk_94 rfl (lv_at hl 1 rfl) ?_
              refine lv_iload_n hx hb dX7_tellWalk_95 rfl (lv_at hl 0 rfl) ?_
              obtain ⟨v28, h29, ho11⟩ := bd1_s ho11
              refine k_callVR (b := q) (ci := 6) (qb := 0) (As := [.int (i7 + 1)]) (n := 1) (rest := [.int i6]) (st1 := [.int v28, .int i6]) C hE hW hl.1 (kX7_rowLength l D cI cZ cJ _ q q_numbers u_numbers (i7 + 1) v28 h29) gX7_tellWalk_X7_rowLength rfl (by decide +kernel) rfl ⟨Nat.le_of_ble_eq_true rfl, Nat.le_of_ble_eq_true rfl⟩ ⟨Nat.zero_le _, Nat.zero_le _⟩ rfl rfl [0, 1] rfl rfl (Nat.le_of_ble_eq_true rfl) rfl rfl dX7_tellWalk_96 (fun H locs hW => ?_)
              refine lv_iconst (v := 1) hx hb dX7_tellWalk_99 (by decide) ?_
              refine lv_isub hx hb dX7_tellWalk_100 ?_
              refine k_mmin C hl.1 (by decide +kernel) (by decide +kernel) (by decide +kernel) (by decide +kernel) (Nat.le_of_ble_eq_true rfl) (Nat.le_of_ble_eq_true rfl) (Nat.zero_le _) (Nat.zero_le _) dX7_tellWalk_101 ?_
              refine lv_istore (lv' := [(4, .int (if (v28 - 1) < i6 then (v28 - 1) else i6)), (3, .int (i7 + 1)), (0, .ref q), (1, .int p0), (2, .int p1), (5, .int (i5 + 1)), (6, .int j21), (7, .int v19)]) hx hb dX7_tellWalk_104 hl (by decide) rfl (fun ls hl => ?_)
              refine lv_goto (tgt := 22) hx hb dX7_tellWalk_106 (by decide) ?_
              obtain rfl := Option.some.inj ho11
              exact ih16 _ _ _ _ _ hx12 _ _ _ hW (lv_sub hl [7, 6, 5, 0, 1, 2, 3, 4] rfl)
            · replace ho11 := if_f hc ho11
              refine lv_iinc (v := (i6 + (-1))) (lv' := [(4, .int (i6 + (-1))), (0, .ref q), (1, .int p0), (2, .int p1), (3, .int i7), (5, .int (i5 + 1)), (6, .int j21), (7, .int v19)]) hx hb dX7_tellWalk_83 hl (k := 4) rfl rfl (by decide) rfl (fun ls hl => ?_)
              refine lv_goto (tgt := 22) hx hb dX7_tellWalk_86 (by decide) ?_
              obtain rfl := Option.some.inj ho11
              exact ih16 _ _ _ _ _ hx12 _ _ _ hW (lv_sub hl [7, 6, 5, 0, 4, 1, 2, 3] rfl)
          refine lv_icmp_ne (tgt := 72) hx hb dX7_tellWalk_54 (by decide) (fun hc => ?_) (fun hc => ?_)
          · replace hd22 := if_f hc hd22
            obtain rfl := Option.some.inj hd22
            exact J23 _ _ _ hW (lv_sub hl [5, 6, 7, 4, 3, 1, 2, 0] rfl)
          · replace hd22 := if_t hc hd22
            refine lv_aload_n hx hb dX7_tellWalk_57 rfl (lv_at hl 5 rfl) ?_
            refine lv_iload_n hx hb dX7_tellWalk_58 rfl (lv_at hl 4 rfl) ?_
            refine lv_iload hx hb dX7_tellWalk_59 (lv_at hl 3 rfl) ?_
            obtain ⟨v24, h25, hd22⟩ := bd1_s hd22
            refine k_callVR (b := q) (ci := 6) (qb := 0) (As := [.int i7, .int i6]) (n := 2) (rest := []) (st1 := [.int v24]) C hE hW hl.1 (kX7_at l D cI cZ cJ _ q q_numbers u_numbers i7 i6 v24 h25) gX7_tellWalk_X7_at rfl (by decide +kernel) rfl ⟨Nat.le_of_ble_eq_true rfl, Nat.le_of_ble_eq_true rfl⟩ ⟨Nat.zero_le _, Nat.zero_le _⟩ rfl rfl [0, 1] rfl rfl (Nat.le_of_ble_eq_true rfl) rfl rfl dX7_tellWalk_61 (fun H locs hW => ?_)
            refine lv_iload_n hx hb dX7_tellWalk_64 rfl (lv_at hl 6 rfl) ?_
            refine lv_icmp_ne (tgt := 72) hx hb dX7_tellWalk_65 (by decide) (fun hc => ?_) (fun hc => ?_)
            · replace hd22 := if_f hc hd22
              obtain rfl := Option.some.inj hd22
              exact J23 _ _ _ hW (lv_sub hl [5, 6, 7, 4, 3, 1, 2, 0] rfl)
            · replace hd22 := if_t hc hd22
              refine lv_iload hx hb dX7_tellWalk_68 (lv_at hl 0 rfl) ?_
              refine lv_istore (lv' := [(6, .int v19), (7, .int v19), (5, .int (i5 + 1)), (4, .int i6), (3, .int i7), (0, .ref q), (1, .int p0), (2, .int p1)]) hx hb dX7_tellWalk_70 hl (by decide) rfl (fun ls hl => ?_)
              obtain rfl := Option.some.inj hd22
              exact J23 _ _ _ hW (lv_sub hl [5, 6, 7, 4, 3, 2, 0, 1] rfl)
  exact L14 lpF _ _ _ _ _ hx120 _ _ _ hW (lv_sub hl [0, 1, 2, 3, 4, 5, 6, 7] rfl)

set_option maxHeartbeats 4000000 in
set_option maxRecDepth 100000 in
theorem kX8_isFull (l : Launch) (D : va_G) (cI cZ cJ : ClassId) (sz : Nat) (q q_codes : Nat) (u_length : Int32) (r : Int32) (hf : pX8_isFull u_length = some r) : kMet l D cI cZ cJ yX8_isFull wsX8_isFull 0 0 [.ref q] [(q, .inr (7, [.ref q_codes, .int u_length]))] sz (some (.int r)) [(q, .inr (7, [.ref q_codes, .int u_length]))] := by
  refine kM_of (cc := cX8_isFull) (maxL := 1) (ret := (some .boolean)) (by decide) rfl (Nat.le_of_ble_eq_true rfl) ?_
  intro p e s m args below meth c A Q ls hQ C hlocks hr hE hW hl
  have hx := C.1
  have hb := C.2.1
  have hts := C.2.2.2.2
  have hl : lv_has ls 1 [(0, .ref q)] := hl
  have iX8 : ∀ w ∈ u_ws RX8 TX8 2, w ∈ wsX8_isFull := by decide +kernel
  have f15 := hts (.fieldLink RX8 15 "SortedTables$Text" "length" "I") (by decide +kernel)
  unfold pX8_isFull at hf
  refine lv_aload_n hx hb dX8_isFull_0 rfl (lv_at hl 0 rfl) ?_
  refine k_get C hE hW iX8 0 rfl rfl 1 (by decide) f15 (fun _ h9 => h9) rfl dX8_isFull_1 ?_
  refine lv_sipush (v := 160) hx hb dX8_isFull_4 (by decide) ?_
  refine lv_icmp_lt (tgt := 14) hx hb dX8_isFull_7 (by decide) (fun hc => ?_) (fun hc => ?_)
  · replace hf := if_t hc hf
    refine lv_iconst (v := 0) hx hb dX8_isFull_14 (by decide) ?_
    obtain rfl := Option.some.inj hf
    exact k_zret C hlocks hr hW (by decide) hQ dX8_isFull_15
  · replace hf := if_f hc hf
    refine lv_iconst (v := 1) hx hb dX8_isFull_10 (by decide) ?_
    refine lv_goto (tgt := 15) hx hb dX8_isFull_11 (by decide) ?_
    obtain rfl := Option.some.inj hf
    exact k_zret C hlocks hr hW (by decide) hQ dX8_isFull_15

set_option maxHeartbeats 4000000 in
set_option maxRecDepth 100000 in
theorem kX8_add (l : Launch) (D : va_G) (cI cZ cJ : ClassId) (sz : Nat) (q q_codes : Nat) (u_length : Int32) (u_codes : Nat → Int32) (p0 : Int32) (u_length' : Int32) (u_codes' : Nat → Int32) (hf : pX8_add u_length u_codes p0 = some (u_length', u_codes')) : kMet l D cI cZ cJ yX8_add wsX8_add 1 20 [.ref q, .int p0] [(q, .inr (7, [.ref q_codes, .int u_length])), (q_codes, .inl (cI, 160, .inl u_codes))] sz none [(q, .inr (7, [.ref q_codes, .int u_length'])), (q_codes, .inl (cI, 160, .inl u_codes'))] := by
  refine kM_of (cc := cX8_add) (maxL := 2) (ret := none) (by decide) rfl (Nat.le_of_ble_eq_true rfl) ?_
  intro p e s m args below meth c A Q ls hQ C hlocks hr hE hW hl
  have hx := C.1
  have hb := C.2.1
  have hts := C.2.2.2.2
  have hl : lv_has ls 2 [(0, .ref q), (1, .int p0)] := hl
  have iX8 : ∀ w ∈ u_ws RX8 TX8 2, w ∈ wsX8_add := by decide +kernel
  have f15 := hts (.fieldLink RX8 15 "SortedTables$Text" "length" "I") (by decide +kernel)
  have f9 := hts (.fieldLink RX8 9 "SortedTables$Text" "codes" "[I") (by decide +kernel)
  unfold pX8_add at hf
  refine lv_aload_n hx hb dX8_add_0 rfl (lv_at hl 0 rfl) ?_
  obtain ⟨v1, h2, hf⟩ := bd1_s hf
  refine k_callVR (b := q) (ci := 7) (qb := 0) (As := []) (n := 0) (rest := []) (st1 := [.int v1]) C hE hW hl.1 (kX8_isFull l D cI cZ cJ _ q q_codes u_length v1 h2) gX8_add_X8_isFull rfl (by decide +kernel) rfl ⟨Nat.le_of_ble_eq_true rfl, Nat.le_of_ble_eq_true rfl⟩ ⟨Nat.zero_le _, Nat.zero_le _⟩ rfl rfl [0] rfl rfl (Nat.le_of_ble_eq_true rfl) rfl rfl dX8_add_1 (fun H locs hW => ?_)
  refine lv_if_ne (tgt := 27) hx hb dX8_add_4 (by decide) (fun hc => ?_) (fun hc => ?_)
  · replace hf := if_f hc hf
    obtain ⟨rfl, rfl⟩ := sm2 hf
    exact k_vret C hlocks hr hW hQ dX8_add_27
  · replace hf := if_t hc hf
    refine lv_aload_n hx hb dX8_add_7 rfl (lv_at hl 0 rfl) ?_
    refine k_get C hE hW iX8 0 rfl rfl 0 (by decide) f9 (fun _ h9 => h9) rfl dX8_add_8 ?_
    refine lv_aload_n hx hb dX8_add_11 rfl (lv_at hl 0 rfl) ?_
    refine k_get C hE hW iX8 0 rfl rfl 1 (by decide) f15 (fun _ h9 => h9) rfl dX8_add_12 ?_
    refine lv_iload_n hx hb dX8_add_15 rfl (lv_at hl 1 rfl) ?_
    obtain ⟨w3, h4, hf⟩ := bd1_s hf
    refine k_iast (ws' := [(q, .inr (7, [.ref q_codes, .int u_length])), (q_codes, .inl (cI, 160, .inl w3))]) C hE hW 1 rfl h4 rfl dX8_add_16 (fun H locs hW => ?_)
    refine lv_aload_n hx hb dX8_add_17 rfl (lv_at hl 0 rfl) ?_
    refine lv_dup hx hb dX8_add_18 rfl ?_
    refine k_get C hE hW iX8 0 rfl rfl 1 (by decide) f15 (fun _ h9 => h9) rfl dX8_add_19 ?_
    refine lv_iconst (v := 1) hx hb dX8_add_22 (by decide) ?_
    refine lv_iadd hx hb dX8_add_23 ?_
    refine k_put (v := .int (u_length + 1)) (ty := .int) (ws' := [(q, .inr (7, [.ref q_codes, .int (u_length + 1)])), (q_codes, .inl (cI, 160, .inl w3))]) C hE hW iX8 tyX8_ok nmX8 0 rfl rfl 1 (by decide) f15 (fun _ h9 => h9) rfl (by decide +kernel) rfl rfl (Nat.le_of_ble_eq_true rfl) rfl dX8_add_24 (fun H locs hW => ?_)
    obtain ⟨rfl, rfl⟩ := sm2 hf
    exact k_vret C hlocks hr hW hQ dX8_add_27

set_option maxHeartbeats 4000000 in
set_option maxRecDepth 100000 in
theorem kX8_empty (l : Launch) (D : va_G) (cI cZ cJ : ClassId) (sz : Nat) (q q_codes : Nat) (u_length : Int32) (u_length' : Int32) (hf : pX8_empty u_length = some u_length') : kMet l D cI cZ cJ yX8_empty wsX8_empty 0 0 [.ref q] [(q, .inr (7, [.ref q_codes, .int u_length]))] sz none [(q, .inr (7, [.ref q_codes, .int u_length']))] := by
  refine kM_of (cc := cX8_empty) (maxL := 1) (ret := none) (by decide) rfl (Nat.le_of_ble_eq_true rfl) ?_
  intro p e s m args below meth c A Q ls hQ C hlocks hr hE hW hl
  have hx := C.1
  have hb := C.2.1
  have hts := C.2.2.2.2
  have hl : lv_has ls 1 [(0, .ref q)] := hl
  have iX8 : ∀ w ∈ u_ws RX8 TX8 2, w ∈ wsX8_empty := by decide +kernel
  have f15 := hts (.fieldLink RX8 15 "SortedTables$Text" "length" "I") (by decide +kernel)
  unfold pX8_empty at hf
  refine lv_aload_n hx hb dX8_empty_0 rfl (lv_at hl 0 rfl) ?_
  refine lv_iconst (v := 0) hx hb dX8_empty_1 (by decide) ?_
  refine k_put (v := .int 0) (ty := .int) (ws' := [(q, .inr (7, [.ref q_codes, .int 0]))]) C hE hW iX8 tyX8_ok nmX8 0 rfl rfl 1 (by decide) f15 (fun _ h9 => h9) rfl (by decide +kernel) rfl rfl (Nat.le_of_ble_eq_true rfl) rfl dX8_empty_2 (fun H locs hW => ?_)
  obtain rfl := Option.some.inj hf
  exact k_vret C hlocks hr hW hQ dX8_empty_5

set_option maxHeartbeats 4000000 in
set_option maxRecDepth 100000 in
theorem kX9_requireRange (l : Launch) (hlt : l.stackTraces = false) (D : va_G) (cI cZ cJ : ClassId) (sz : Nat) (p0 : Int32) (p1 : Int32) (p2 : Int32) (out : (Nat) ⊕ (Unit)) (hf : pX9_requireRange p0 p1 p2 = some out) : kMetX l D cI cZ cJ yX9_requireRange wsX9_requireRange 6 90 [.int p0, .int p1, .int p2] [] sz (kSel out (fun k =>  .inl (k, [])) (fun _ =>  .inr (none, []))) := by
  generalize hO : (kSel out (fun k =>  .inl (k, [])) (fun _ =>  .inr (none, []))) = o
  refine kX_of (cc := cX9_requireRange) (maxL := 3) (ret := none) (by decide) rfl (Nat.le_of_ble_eq_true rfl) ?_
  intro p e s m args below meth c A Q ls hQ C hout hlocks hr hE hW hl
  have hx := C.1
  have hb := C.2.1
  have hts := C.2.2.2.2
  have hl : lv_has ls 3 [(0, .int p0), (1, .int p1), (2, .int p2)] := hl
  unfold pX9_requireRange at hf
  refine lv_iload_n hx hb dX9_requireRange_0 rfl (lv_at hl 0 rfl) ?_
  refine lv_iload_n hx hb dX9_requireRange_1 rfl (lv_at hl 1 rfl) ?_
  refine lv_icmp_lt (tgt := 10) hx hb dX9_requireRange_2 (by decide) (fun hc => ?_) (fun hc => ?_)
  · replace hf := if_t hc hf
    obtain rfl := Option.some.inj hf
    subst hO
    exact kx_throwW (k := 1) (text := "an argument is out of its range") C hlt hout hlocks hE hW hl.1 (by decide) (by decide +kernel) (hts (.classLink RX9 264 (kEx 1)) (by decide +kernel)) (hts (.initialized (kEx 1)) (by decide +kernel)) (kx_hat (k := 1) (by decide) C hE (by decide +kernel) kx_h268.1) kx_h268.2 dX9_requireRange_10 dX9_requireRange_13 dX9_requireRange_14 dX9_requireRange_17 dX9_requireRange_20 (Nat.le_of_ble_eq_true rfl) (Nat.le_of_ble_eq_true rfl) (Nat.le_of_ble_eq_true rfl) (Nat.le_of_ble_eq_true rfl) hQ
  · replace hf := if_f hc hf
    refine lv_iload_n hx hb dX9_requireRange_5 rfl (lv_at hl 0 rfl) ?_
    refine lv_iload_n hx hb dX9_requireRange_6 rfl (lv_at hl 2 rfl) ?_
    refine lv_icmp_le (tgt := 21) hx hb dX9_requireRange_7 (by decide) (fun hc => ?_) (fun hc => ?_)
    · replace hf := if_t hc hf
      obtain rfl := Option.some.inj hf
      subst hO
      exact kx_vret C hlocks hr hW hQ dX9_requireRange_21
    · replace hf := if_f hc hf
      obtain rfl := Option.some.inj hf
      subst hO
      exact kx_throwW (k := 1) (text := "an argument is out of its range") C hlt hout hlocks hE hW hl.1 (by decide) (by decide +kernel) (hts (.classLink RX9 264 (kEx 1)) (by decide +kernel)) (hts (.initialized (kEx 1)) (by decide +kernel)) (kx_hat (k := 1) (by decide) C hE (by decide +kernel) kx_h268.1) kx_h268.2 dX9_requireRange_10 dX9_requireRange_13 dX9_requireRange_14 dX9_requireRange_17 dX9_requireRange_20 (Nat.le_of_ble_eq_true rfl) (Nat.le_of_ble_eq_true rfl) (Nat.le_of_ble_eq_true rfl) (Nat.le_of_ble_eq_true rfl) hQ

set_option maxHeartbeats 4000000 in
set_option maxRecDepth 100000 in
theorem kX9_append (l : Launch) (hlt : l.stackTraces = false) (D : va_G) (cI cZ cJ : ClassId) (sz : Nat) (q q_text q_text_codes q_now q_trial q_past q_reader q_slot0 q_slot1 q_greatestPath q_fillingsOfShape : Nat) (u_text_length : Int32) (u_text_codes : Nat → Int32) (p0 : Int32) (out : (Nat × Int32 × (Nat → Int32)) ⊕ (Int32 × Int32 × (Nat → Int32))) (hf : pX9_append u_text_length u_text_codes p0 = some out) : kMetX l D cI cZ cJ yX9_append wsX9_append 7 112 [.ref q, .int p0] [(q, .inr (8, [.ref q_now, .ref q_trial, .ref q_past, .ref q_text, .ref q_reader, .ref q_slot0, .ref q_slot1, .ref q_greatestPath, .ref q_fillingsOfShape])), (q_text, .inr (7, [.ref q_text_codes, .int u_text_length])), (q_text_codes, .inl (cI, 160, .inl u_text_codes))] sz (kSel out (un3 (fun k u_text_length' u_text_codes' =>  .inl (k, [(q, .inr (8, [.ref q_now, .ref q_trial, .ref q_past, .ref q_text, .ref q_reader, .ref q_slot0, .ref q_slot1, .ref q_greatestPath, .ref q_fillingsOfShape])), (q_text, .inr (7, [.ref q_text_codes, .int u_text_length'])), (q_text_codes, .inl (cI, 160, .inl u_text_codes'))]))) (un3 (fun r u_text_length' u_text_codes' =>  .inr ((some (.int r)), [(q, .inr (8, [.ref q_now, .ref q_trial, .ref q_past, .ref q_text, .ref q_reader, .ref q_slot0, .ref q_slot1, .ref q_greatestPath, .ref q_fillingsOfShape])), (q_text, .inr (7, [.ref q_text_codes, .int u_text_length'])), (q_text_codes, .inl (cI, 160, .inl u_text_codes'))])))) := by
  generalize hO : (kSel out (un3 (fun k u_text_length' u_text_codes' =>  .inl (k, [(q, .inr (8, [.ref q_now, .ref q_trial, .ref q_past, .ref q_text, .ref q_reader, .ref q_slot0, .ref q_slot1, .ref q_greatestPath, .ref q_fillingsOfShape])), (q_text, .inr (7, [.ref q_text_codes, .int u_text_length'])), (q_text_codes, .inl (cI, 160, .inl u_text_codes'))]))) (un3 (fun r u_text_length' u_text_codes' =>  .inr ((some (.int r)), [(q, .inr (8, [.ref q_now, .ref q_trial, .ref q_past, .ref q_text, .ref q_reader, .ref q_slot0, .ref q_slot1, .ref q_greatestPath, .ref q_fillingsOfShape])), (q_text, .inr (7, [.ref q_text_codes, .int u_text_length'])), (q_text_codes, .inl (cI, 160, .inl u_text_codes'))])))) = o
  refine kX_of (cc := cX9_append) (maxL := 2) (ret := (some .int)) (by decide) rfl (Nat.le_of_ble_eq_true rfl) ?_
  intro p e s m args below meth c A Q ls hQ C hout hlocks hr hE hW hl
  have hx := C.1
  have hb := C.2.1
  have hts := C.2.2.2.2
  have hl : lv_has ls 2 [(0, .ref q), (1, .int p0)] := hl
  have iX9 : ∀ w ∈ u_ws RX9 TX9 9, w ∈ wsX9_append := by decide +kernel
  have f29 := hts (.fieldLink RX9 29 "SortedTables" "text" "LSortedTables$Text;") (by decide +kernel)
  unfold pX9_append at hf
  refine lv_iload_n hx hb dX9_append_0 rfl (lv_at hl 1 rfl) ?_
  refine lv_iconst (v := 0) hx hb dX9_append_1 (by decide) ?_
  refine lv_sipush (v := 255) hx hb dX9_append_2 (by decide) ?_
  rcases bdE_s hf with ⟨k2, h1, hf⟩ | ⟨_, h1, hf⟩
  · obtain rfl := Option.some.inj hf
    subst hO
    exact kx_thrS (As := [.int p0, .int 0, .int 255]) (n := 3) (rest := []) (wr := [(q, .inr (8, [.ref q_now, .ref q_trial, .ref q_past, .ref q_text, .ref q_reader, .ref q_slot0, .ref q_slot1, .ref q_greatestPath, .ref q_fillingsOfShape])), (q_text, .inr (7, [.ref q_text_codes, .int u_text_length])), (q_text_codes, .inl (cI, 160, .inl u_text_codes))]) (ws' := [(q, .inr (8, [.ref q_now, .ref q_trial, .ref q_past, .ref q_text, .ref q_reader, .ref q_slot0, .ref q_slot1, .ref q_greatestPath, .ref q_fillingsOfShape])), (q_text, .inr (7, [.ref q_text_codes, .int u_text_length])), (q_text_codes, .inl (cI, 160, .inl u_text_codes))]) C hout hlocks hE hW hl.1 (kX9_requireRange l hlt D cI cZ cJ _ p0 0 255 (.inl k2) h1) gX9_append_X9_requireRange rfl (by decide +kernel) rfl ⟨Nat.le_of_ble_eq_true rfl, Nat.le_of_ble_eq_true rfl⟩ ⟨Nat.le_of_ble_eq_true rfl, Nat.le_of_ble_eq_true rfl⟩ [] [0, 1, 2] [0, 1, 2] rfl rfl rfl rfl (by decide) rfl rfl (Nat.le_of_ble_eq_true rfl) rfl dX9_append_5 hQ
  · refine k_callSR (As := [.int p0, .int 0, .int 255]) (n := 3) (rest := []) (st1 := []) C hE hW hl.1 (kMetX.ret (kX9_requireRange l hlt D cI cZ cJ _ p0 0 255 (.inr ()) h1)) gX9_append_X9_requireRange rfl (by decide +kernel) rfl ⟨Nat.le_of_ble_eq_true rfl, Nat.le_of_ble_eq_true rfl⟩ ⟨Nat.zero_le _, Nat.zero_le _⟩ [] rfl rfl (Nat.le_of_ble_eq_true rfl) rfl rfl dX9_append_5 (fun H locs hW => ?_)
    refine lv_aload_n hx hb dX9_append_8 rfl (lv_at hl 0 rfl) ?_
    refine k_get C hE hW iX9 0 rfl rfl 3 (by decide) f29 (fun _ h9 => h9) rfl dX9_append_9 ?_
    obtain ⟨v3, h4, hf⟩ := bd1_s hf
    refine k_callVR (b := q_text) (ci := 7) (qb := 0) (As := []) (n := 0) (rest := []) (st1 := [.int v3]) C hE hW hl.1 (kX8_isFull l D cI cZ cJ _ q_text q_text_codes u_text_length v3 h4) gX9_append_X8_isFull rfl (by decide +kernel) rfl ⟨Nat.le_of_ble_eq_true rfl, Nat.le_of_ble_eq_true rfl⟩ ⟨Nat.zero_le _, Nat.zero_le _⟩ rfl rfl [1] rfl rfl (Nat.le_of_ble_eq_true rfl) rfl rfl dX9_append_12 (fun H locs hW => ?_)
    refine lv_if_eq (tgt := 28) hx hb dX9_append_15 (by decide) (fun hc => ?_) (fun hc => ?_)
    · replace hf := if_t hc hf
      refine lv_aload_n hx hb dX9_append_28 rfl (lv_at hl 0 rfl) ?_
      refine k_get C hE hW iX9 0 rfl rfl 3 (by decide) f29 (fun _ h9 => h9) rfl dX9_append_29 ?_
      refine lv_iload_n hx hb dX9_append_32 rfl (lv_at hl 1 rfl) ?_
      obtain ⟨⟨w5, w6⟩, h7, hf⟩ := bd1_s hf
      replace hf := un2_s hf
      refine k_callV (b := q_text) (ci := 7) (qb := 0) (As := [.int p0]) (n := 1) (rest := []) (st1 := []) (wr := [(q, .inr (8, [.ref q_now, .ref q_trial, .ref q_past, .ref q_text, .ref q_reader, .ref q_slot0, .ref q_slot1, .ref q_greatestPath, .ref q_fillingsOfShape]))]) (ws' := [(q, .inr (8, [.ref q_now, .ref q_trial, .ref q_past, .ref q_text, .ref q_reader, .ref q_slot0, .ref q_slot1, .ref q_greatestPath, .ref q_fillingsOfShape])), (q_text, .inr (7, [.ref q_text_codes, .int w5])), (q_text_codes, .inl (cI, 160, .inl w6))]) C hE hW hl.1 (kX8_add l D cI cZ cJ _ q_text q_text_codes u_text_length u_text_codes p0 w5 w6 h7) gX9_append_X8_add rfl (by decide +kernel) rfl ⟨Nat.le_of_ble_eq_true rfl, Nat.le_of_ble_eq_true rfl⟩ ⟨Nat.zero_le _, Nat.zero_le _⟩ rfl rfl [1, 2] [0] [0, 1, 2] rfl rfl rfl rfl (by decide) rfl rfl (Nat.le_of_ble_eq_true rfl) rfl rfl dX9_append_33 (fun H locs hW => ?_)
      refine lv_aload_n hx hb dX9_append_36 rfl (lv_at hl 0 rfl) ?_
      refine k_get C hE hW iX9 0 rfl rfl 3 (by decide) f29 (fun _ h9 => h9) rfl dX9_append_37 ?_
      obtain ⟨v8, h9, hf⟩ := bd1_s hf
      refine k_callVR (b := q_text) (ci := 7) (qb := 0) (As := []) (n := 0) (rest := []) (st1 := [.int v8]) C hE hW hl.1 (kX8_length l D cI cZ cJ _ q_text q_text_codes w5 v8 h9) gX9_append_X8_length rfl (by decide +kernel) rfl ⟨Nat.le_of_ble_eq_true rfl, Nat.le_of_ble_eq_true rfl⟩ ⟨Nat.zero_le _, Nat.zero_le _⟩ rfl rfl [1] rfl rfl (Nat.le_of_ble_eq_true rfl) rfl rfl dX9_append_40 (fun H locs hW => ?_)
      obtain rfl := Option.some.inj hf
      subst hO
      exact kx_iret C hlocks hr hW hQ dX9_append_43
    · replace hf := if_f hc hf
      obtain rfl := Option.some.inj hf
      subst hO
      exact kx_throw (k := 2) (text := "the text is full") C hlt hout hlocks hE hW hl.1 (by decide) (by decide +kernel) (hts (.classLink RX9 72 (kEx 2)) (by decide +kernel)) (hts (.initialized (kEx 2)) (by decide +kernel)) (kx_hat (k := 2) (by decide) C hE (by decide +kernel) kx_h76.1) kx_h76.2 dX9_append_18 dX9_append_21 dX9_append_22 dX9_append_24 dX9_append_27 (Nat.le_of_ble_eq_true rfl) (Nat.le_of_ble_eq_true rfl) (Nat.le_of_ble_eq_true rfl) (Nat.le_of_ble_eq_true rfl) hQ

set_option maxHeartbeats 4000000 in
set_option maxRecDepth 100000 in
theorem kX9_clearText (l : Launch) (D : va_G) (cI cZ cJ : ClassId) (sz : Nat) (q q_text q_now q_trial q_past q_reader q_slot0 q_slot1 q_greatestPath q_fillingsOfShape q_text_codes : Nat) (u_text_length : Int32) (r : Int32) (u_text_length' : Int32) (hf : pX9_clearText u_text_length = some (r, u_text_length')) : kMet l D cI cZ cJ yX9_clearText wsX9_clearText 1 20 [.ref q] [(q, .inr (8, [.ref q_now, .ref q_trial, .ref q_past, .ref q_text, .ref q_reader, .ref q_slot0, .ref q_slot1, .ref q_greatestPath, .ref q_fillingsOfShape])), (q_text, .inr (7, [.ref q_text_codes, .int u_text_length]))] sz (some (.int r)) [(q, .inr (8, [.ref q_now, .ref q_trial, .ref q_past, .ref q_text, .ref q_reader, .ref q_slot0, .ref q_slot1, .ref q_greatestPath, .ref q_fillingsOfShape])), (q_text, .inr (7, [.ref q_text_codes, .int u_text_length']))] := by
  refine kM_of (cc := cX9_clearText) (maxL := 2) (ret := (some .int)) (by decide) rfl (Nat.le_of_ble_eq_true rfl) ?_
  intro p e s m args below meth c A Q ls hQ C hlocks hr hE hW hl
  have hx := C.1
  have hb := C.2.1
  have hts := C.2.2.2.2
  have hl : lv_has ls 2 [(0, .ref q)] := hl
  have iX9 : ∀ w ∈ u_ws RX9 TX9 9, w ∈ wsX9_clearText := by decide +kernel
  have f29 := hts (.fieldLink RX9 29 "SortedTables" "text" "LSortedTables$Text;") (by decide +kernel)
  unfold pX9_clearText at hf
  refine lv_aload_n hx hb dX9_clearText_0 rfl (lv_at hl 0 rfl) ?_
  refine k_get C hE hW iX9 0 rfl rfl 3 (by decide) f29 (fun _ h9 => h9) rfl dX9_clearText_1 ?_
  obtain ⟨v1, h2, hf⟩ := bd1_s hf
  refine k_callVR (b := q_text) (ci := 7) (qb := 0) (As := []) (n := 0) (rest := []) (st1 := [.int v1]) C hE hW hl.1 (kX8_length l D cI cZ cJ _ q_text q_text_codes u_text_length v1 h2) gX9_clearText_X8_length rfl (by decide +kernel) rfl ⟨Nat.le_of_ble_eq_true rfl, Nat.le_of_ble_eq_true rfl⟩ ⟨Nat.zero_le _, Nat.zero_le _⟩ rfl rfl [1] rfl rfl (Nat.le_of_ble_eq_true rfl) rfl rfl dX9_clearText_4 (fun H locs hW => ?_)
  refine lv_istore_n (lv' := [(1, .int v1), (0, .ref q)]) hx hb dX9_clearText_7 rfl hl (by decide) rfl (fun ls hl => ?_)
  refine lv_aload_n hx hb dX9_clearText_8 rfl (lv_at hl 1 rfl) ?_
  refine k_get C hE hW iX9 0 rfl rfl 3 (by decide) f29 (fun _ h9 => h9) rfl dX9_clearText_9 ?_
  obtain ⟨w3, h4, hf⟩ := bd1_s hf
  refine k_callV (b := q_text) (ci := 7) (qb := 0) (As := []) (n := 0) (rest := []) (st1 := []) (wr := [(q, .inr (8, [.ref q_now, .ref q_trial, .ref q_past, .ref q_text, .ref q_reader, .ref q_slot0, .ref q_slot1, .ref q_greatestPath, .ref q_fillingsOfShape]))]) (ws' := [(q, .inr (8, [.ref q_now, .ref q_trial, .ref q_past, .ref q_text, .ref q_reader, .ref q_slot0, .ref q_slot1, .ref q_greatestPath, .ref q_fillingsOfShape])), (q_text, .inr (7, [.ref q_text_codes, .int w3]))]) C hE hW hl.1 (kX8_empty l D cI cZ cJ _ q_text q_text_codes u_text_length w3 h4) gX9_clearText_X8_empty rfl (by decide +kernel) rfl ⟨Nat.le_of_ble_eq_true rfl, Nat.le_of_ble_eq_true rfl⟩ ⟨Nat.zero_le _, Nat.zero_le _⟩ rfl rfl [1] [0] [0, 1] rfl rfl rfl rfl (by decide) rfl rfl (Nat.le_of_ble_eq_true rfl) rfl rfl dX9_clearText_12 (fun H locs hW => ?_)
  refine lv_iload_n hx hb dX9_clearText_15 rfl (lv_at hl 0 rfl) ?_
  obtain ⟨rfl, rfl⟩ := sm2 hf
  exact k_iret C hlocks hr hW hQ dX9_clearText_16

set_option maxHeartbeats 4000000 in
set_option maxRecDepth 100000 in
theorem kX9_errorPosition (l : Launch) (D : va_G) (cI cZ cJ : ClassId) (sz : Nat) (q q_text q_text_codes q_reader q_reader_tables q_reader_tables_first q_reader_tables_first_numbers q_reader_tables_second q_reader_tables_second_numbers q_now q_trial q_past q_slot0 q_slot1 q_greatestPath q_fillingsOfShape : Nat) (u_text_length : Int32) (u_text_codes : Nat → Int32) (u_reader_begun : Int32) (u_reader_table : Int32) (u_reader_row : Int32) (u_reader_column : Int32) (u_reader_tens : Int32) (u_reader_tables_first_numbers : Nat → Int32) (u_reader_tables_second_numbers : Nat → Int32) (r : Int32) (u_reader_begun' : Int32) (u_reader_table' : Int32) (u_reader_row' : Int32) (u_reader_column' : Int32) (u_reader_tens' : Int32) (u_reader_tables_first_numbers' : Nat → Int32) (u_reader_tables_second_numbers' : Nat → Int32) (hf : pX9_errorPosition u_text_length u_text_codes u_reader_begun u_reader_table u_reader_row u_reader_column u_reader_tens u_reader_tables_first_numbers u_reader_tables_second_numbers = some (r, u_reader_begun', u_reader_table', u_reader_row', u_reader_column', u_reader_tens', u_reader_tables_first_numbers', u_reader_tables_second_numbers')) : kMet l D cI cZ cJ yX9_errorPosition wsX9_errorPosition 5 110 [.ref q] [(q, .inr (8, [.ref q_now, .ref q_trial, .ref q_past, .ref q_text, .ref q_reader, .ref q_slot0, .ref q_slot1, .ref q_greatestPath, .ref q_fillingsOfShape])), (q_text, .inr (7, [.ref q_text_codes, .int u_text_length])), (q_text_codes, .inl (cI, 160, .inl u_text_codes)), (q_reader, .inr (4, [.ref q_reader_tables, .int u_reader_begun, .int u_reader_table, .int u_reader_row, .int u_reader_column, .int u_reader_tens])), (q_reader_tables, .inr (2, [.ref q_reader_tables_first, .ref q_reader_tables_second])), (q_reader_tables_first, .inr (6, [.ref q_reader_tables_first_numbers])), (q_reader_tables_first_numbers, .inl (cI, 36, .inl u_reader_tables_first_numbers)), (q_reader_tables_second, .inr (6, [.ref q_reader_tables_second_numbers])), (q_reader_tables_second_numbers, .inl (cI, 36, .inl u_reader_tables_second_numbers))] sz (some (.int r)) [(q, .inr (8, [.ref q_now, .ref q_trial, .ref q_past, .ref q_text, .ref q_reader, .ref q_slot0, .ref q_slot1, .ref q_greatestPath, .ref q_fillingsOfShape])), (q_text, .inr (7, [.ref q_text_codes, .int u_text_length])), (q_text_codes, .inl (cI, 160, .inl u_text_codes)), (q_reader, .inr (4, [.ref q_reader_tables, .int u_reader_begun', .int u_reader_table', .int u_reader_row', .int u_reader_column', .int u_reader_tens'])), (q_reader_tables, .inr (2, [.ref q_reader_tables_first, .ref q_reader_tables_second])), (q_reader_tables_first, .inr (6, [.ref q_reader_tables_first_numbers])), (q_reader_tables_first_numbers, .inl (cI, 36, .inl u_reader_tables_first_numbers')), (q_reader_tables_second, .inr (6, [.ref q_reader_tables_second_numbers])), (q_reader_tables_second_numbers, .inl (cI, 36, .inl u_reader_tables_second_numbers'))] := by
  refine kM_of (cc := cX9_errorPosition) (maxL := 1) (ret := (some .int)) (by decide) rfl (Nat.le_of_ble_eq_true rfl) ?_
  intro p e s m args below meth c A Q ls hQ C hlocks hr hE hW hl
  have hx := C.1
  have hb := C.2.1
  have hts := C.2.2.2.2
  have hl : lv_has ls 1 [(0, .ref q)] := hl
  have iX9 : ∀ w ∈ u_ws RX9 TX9 9, w ∈ wsX9_errorPosition := by decide +kernel
  have f29 := hts (.fieldLink RX9 29 "SortedTables" "text" "LSortedTables$Text;") (by decide +kernel)
  have f36 := hts (.fieldLink RX9 36 "SortedTables" "reader" "LSortedTables$Reader;") (by decide +kernel)
  unfold pX9_errorPosition at hf
  refine lv_aload_n hx hb dX9_errorPosition_0 rfl (lv_at hl 0 rfl) ?_
  refine k_get C hE hW iX9 0 rfl rfl 4 (by decide) f36 (fun _ h9 => h9) rfl dX9_errorPosition_1 ?_
  refine lv_aload_n hx hb dX9_errorPosition_4 rfl (lv_at hl 0 rfl) ?_
  refine k_get C hE hW iX9 0 rfl rfl 3 (by decide) f29 (fun _ h9 => h9) rfl dX9_errorPosition_5 ?_
  obtain ⟨⟨v1, w2, w3, w4, w5, w6, w7, w8⟩, h9, hf⟩ := bd1_s hf
  replace hf := un8_s hf
  refine k_callV (b := q_reader) (ci := 4) (qb := 0) (As := [.ref q_text]) (n := 1) (rest := []) (st1 := [.int v1]) (wr := [(q, .inr (8, [.ref q_now, .ref q_trial, .ref q_past, .ref q_text, .ref q_reader, .ref q_slot0, .ref q_slot1, .ref q_greatestPath, .ref q_fillingsOfShape]))]) (ws' := [(q, .inr (8, [.ref q_now, .ref q_trial, .ref q_past, .ref q_text, .ref q_reader, .ref q_slot0, .ref q_slot1, .ref q_greatestPath, .ref q_fillingsOfShape])), (q_text, .inr (7, [.ref q_text_codes, .int u_text_length])), (q_text_codes, .inl (cI, 160, .inl u_text_codes)), (q_reader, .inr (4, [.ref q_reader_tables, .int w2, .int w3, .int w4, .int w5, .int w6])), (q_reader_tables, .inr (2, [.ref q_reader_tables_first, .ref q_reader_tables_second])), (q_reader_tables_first, .inr (6, [.ref q_reader_tables_first_numbers])), (q_reader_tables_first_numbers, .inl (cI, 36, .inl w7)), (q_reader_tables_second, .inr (6, [.ref q_reader_tables_second_numbers])), (q_reader_tables_second_numbers, .inl (cI, 36, .inl w8))]) C hE hW hl.1 (kX4_read l D cI cZ cJ _ q_reader q_reader_tables q_reader_tables_first q_reader_tables_first_numbers q_reader_tables_second q_reader_tables_second_numbers q_text q_text_codes u_reader_begun u_reader_table u_reader_row u_reader_column u_reader_tens u_reader_tables_first_numbers u_reader_tables_second_numbers u_text_length u_text_codes v1 w2 w3 w4 w5 w6 w7 w8 h9) gX9_errorPosition_X4_read rfl (by decide +kernel) rfl ⟨Nat.le_of_ble_eq_true rfl, Nat.le_of_ble_eq_true rfl⟩ ⟨Nat.zero_le _, Nat.zero_le _⟩ rfl rfl [3, 4, 5, 6, 7, 8, 1, 2] [0] [0, 7, 8, 1, 2, 3, 4, 5, 6] rfl rfl rfl rfl (by decide) rfl rfl (Nat.le_of_ble_eq_true rfl) rfl rfl dX9_errorPosition_8 (fun H locs hW => ?_)
  obtain ⟨rfl, rfl, rfl, rfl, rfl, rfl, rfl, rfl⟩ := sm8 hf
  exact k_iret C hlocks hr hW hQ dX9_errorPosition_11

set_option maxHeartbeats 4000000 in
set_option maxRecDepth 100000 in
theorem kX9_load (l : Launch) (hlt : l.stackTraces = false) (D : va_G) (cI cZ cJ : ClassId) (sz : Nat) (q q_now q_now_first q_now_first_numbers q_now_second q_now_second_numbers q_past q_text q_text_codes q_reader q_reader_tables q_reader_tables_first q_reader_tables_first_numbers q_reader_tables_second q_reader_tables_second_numbers q_slot0 q_slot1 q_trial q_greatestPath q_fillingsOfShape q_past_numbers q_slot0_tables q_slot1_tables : Nat) (u_now_first_numbers : Nat → Int32) (u_now_second_numbers : Nat → Int32) (u_past_oldest : Int32) (u_past_remembered : Int32) (u_text_length : Int32) (u_text_codes : Nat → Int32) (u_reader_begun : Int32) (u_reader_table : Int32) (u_reader_row : Int32) (u_reader_column : Int32) (u_reader_tens : Int32) (u_reader_tables_first_numbers : Nat → Int32) (u_reader_tables_second_numbers : Nat → Int32) (u_slot0_filled : Int32) (u_slot1_filled : Int32) (out : (Nat × (Nat → Int32) × (Nat → Int32) × Int32 × Int32 × Int32 × Int32 × Int32 × Int32 × (Nat → Int32) × (Nat → Int32) × Int32 × Int32) ⊕ (Int32 × (Nat → Int32) × (Nat → Int32) × Int32 × Int32 × Int32 × Int32 × Int32 × Int32 × (Nat → Int32) × (Nat → Int32) × Int32 × Int32)) (hf : pX9_load u_now_first_numbers u_now_second_numbers u_past_remembered u_text_length u_text_codes u_reader_begun u_reader_table u_reader_row u_reader_column u_reader_tens u_reader_tables_first_numbers u_reader_tables_second_numbers u_slot0_filled u_slot1_filled = some out) : kMetX l D cI cZ cJ yX9_load wsX9_load 6 110 [.ref q] [(q, .inr (8, [.ref q_now, .ref q_trial, .ref q_past, .ref q_text, .ref q_reader, .ref q_slot0, .ref q_slot1, .ref q_greatestPath, .ref q_fillingsOfShape])), (q_now, .inr (2, [.ref q_now_first, .ref q_now_second])), (q_now_first, .inr (6, [.ref q_now_first_numbers])), (q_now_first_numbers, .inl (cI, 36, .inl u_now_first_numbers)), (q_now_second, .inr (6, [.ref q_now_second_numbers])), (q_now_second_numbers, .inl (cI, 36, .inl u_now_second_numbers)), (q_past, .inr (3, [.ref q_past_numbers, .int u_past_oldest, .int u_past_remembered])), (q_text, .inr (7, [.ref q_text_codes, .int u_text_length])), (q_text_codes, .inl (cI, 160, .inl u_text_codes)), (q_reader, .inr (4, [.ref q_reader_tables, .int u_reader_begun, .int u_reader_table, .int u_reader_row, .int u_reader_column, .int u_reader_tens])), (q_reader_tables, .inr (2, [.ref q_reader_tables_first, .ref q_reader_tables_second])), (q_reader_tables_first, .inr (6, [.ref q_reader_tables_first_numbers])), (q_reader_tables_first_numbers, .inl (cI, 36, .inl u_reader_tables_first_numbers)), (q_reader_tables_second, .inr (6, [.ref q_reader_tables_second_numbers])), (q_reader_tables_second_numbers, .inl (cI, 36, .inl u_reader_tables_second_numbers)), (q_slot0, .inr (5, [.ref q_slot0_tables, .int u_slot0_filled])), (q_slot1, .inr (5, [.ref q_slot1_tables, .int u_slot1_filled]))] sz (kSel out (un13 (fun k u_now_first_numbers' u_now_second_numbers' u_past_remembered' u_reader_begun' u_reader_table' u_reader_row' u_reader_column' u_reader_tens' u_reader_tables_first_numbers' u_reader_tables_second_numbers' u_slot0_filled' u_slot1_filled' =>  .inl (k, [(q, .inr (8, [.ref q_now, .ref q_trial, .ref q_past, .ref q_text, .ref q_reader, .ref q_slot0, .ref q_slot1, .ref q_greatestPath, .ref q_fillingsOfShape])), (q_now, .inr (2, [.ref q_now_first, .ref q_now_second])), (q_now_first, .inr (6, [.ref q_now_first_numbers])), (q_now_first_numbers, .inl (cI, 36, .inl u_now_first_numbers')), (q_now_second, .inr (6, [.ref q_now_second_numbers])), (q_now_second_numbers, .inl (cI, 36, .inl u_now_second_numbers')), (q_past, .inr (3, [.ref q_past_numbers, .int u_past_oldest, .int u_past_remembered'])), (q_text, .inr (7, [.ref q_text_codes, .int u_text_length])), (q_text_codes, .inl (cI, 160, .inl u_text_codes)), (q_reader, .inr (4, [.ref q_reader_tables, .int u_reader_begun', .int u_reader_table', .int u_reader_row', .int u_reader_column', .int u_reader_tens'])), (q_reader_tables, .inr (2, [.ref q_reader_tables_first, .ref q_reader_tables_second])), (q_reader_tables_first, .inr (6, [.ref q_reader_tables_first_numbers])), (q_reader_tables_first_numbers, .inl (cI, 36, .inl u_reader_tables_first_numbers')), (q_reader_tables_second, .inr (6, [.ref q_reader_tables_second_numbers])), (q_reader_tables_second_numbers, .inl (cI, 36, .inl u_reader_tables_second_numbers')), (q_slot0, .inr (5, [.ref q_slot0_tables, .int u_slot0_filled'])), (q_slot1, .inr (5, [.ref q_slot1_tables, .int u_slot1_filled']))]))) (un13 (fun r u_now_first_numbers' u_now_second_numbers' u_past_remembered' u_reader_begun' u_reader_table' u_reader_row' u_reader_column' u_reader_tens' u_reader_tables_first_numbers' u_reader_tables_second_numbers' u_slot0_filled' u_slot1_filled' =>  .inr ((some (.int r)), [(q, .inr (8, [.ref q_now, .ref q_trial, .ref q_past, .ref q_text, .ref q_reader, .ref q_slot0, .ref q_slot1, .ref q_greatestPath, .ref q_fillingsOfShape])), (q_now, .inr (2, [.ref q_now_first, .ref q_now_second])), (q_now_first, .inr (6, [.ref q_now_first_numbers])), (q_now_first_numbers, .inl (cI, 36, .inl u_now_first_numbers')), (q_now_second, .inr (6, [.ref q_now_second_numbers])), (q_now_second_numbers, .inl (cI, 36, .inl u_now_second_numbers')), (q_past, .inr (3, [.ref q_past_numbers, .int u_past_oldest, .int u_past_remembered'])), (q_text, .inr (7, [.ref q_text_codes, .int u_text_length])), (q_text_codes, .inl (cI, 160, .inl u_text_codes)), (q_reader, .inr (4, [.ref q_reader_tables, .int u_reader_begun', .int u_reader_table', .int u_reader_row', .int u_reader_column', .int u_reader_tens'])), (q_reader_tables, .inr (2, [.ref q_reader_tables_first, .ref q_reader_tables_second])), (q_reader_tables_first, .inr (6, [.ref q_reader_tables_first_numbers])), (q_reader_tables_first_numbers, .inl (cI, 36, .inl u_reader_tables_first_numbers')), (q_reader_tables_second, .inr (6, [.ref q_reader_tables_second_numbers])), (q_reader_tables_second_numbers, .inl (cI, 36, .inl u_reader_tables_second_numbers')), (q_slot0, .inr (5, [.ref q_slot0_tables, .int u_slot0_filled'])), (q_slot1, .inr (5, [.ref q_slot1_tables, .int u_slot1_filled']))])))) := by
  generalize hO : (kSel out (un13 (fun k u_now_first_numbers' u_now_second_numbers' u_past_remembered' u_reader_begun' u_reader_table' u_reader_row' u_reader_column' u_reader_tens' u_reader_tables_first_numbers' u_reader_tables_second_numbers' u_slot0_filled' u_slot1_filled' =>  .inl (k, [(q, .inr (8, [.ref q_now, .ref q_trial, .ref q_past, .ref q_text, .ref q_reader, .ref q_slot0, .ref q_slot1, .ref q_greatestPath, .ref q_fillingsOfShape])), (q_now, .inr (2, [.ref q_now_first, .ref q_now_second])), (q_now_first, .inr (6, [.ref q_now_first_numbers])), (q_now_first_numbers, .inl (cI, 36, .inl u_now_first_numbers')), (q_now_second, .inr (6, [.ref q_now_second_numbers])), (q_now_second_numbers, .inl (cI, 36, .inl u_now_second_numbers')), (q_past, .inr (3, [.ref q_past_numbers, .int u_past_oldest, .int u_past_remembered'])), (q_text, .inr (7, [.ref q_text_codes, .int u_text_length])), (q_text_codes, .inl (cI, 160, .inl u_text_codes)), (q_reader, .inr (4, [.ref q_reader_tables, .int u_reader_begun', .int u_reader_table', .int u_reader_row', .int u_reader_column', .int u_reader_tens'])), (q_reader_tables, .inr (2, [.ref q_reader_tables_first, .ref q_reader_tables_second])), (q_reader_tables_first, .inr (6, [.ref q_reader_tables_first_numbers])), (q_reader_tables_first_numbers, .inl (cI, 36, .inl u_reader_tables_first_numbers')), (q_reader_tables_second, .inr (6, [.ref q_reader_tables_second_numbers])), (q_reader_tables_second_numbers, .inl (cI, 36, .inl u_reader_tables_second_numbers')), (q_slot0, .inr (5, [.ref q_slot0_tables, .int u_slot0_filled'])), (q_slot1, .inr (5, [.ref q_slot1_tables, .int u_slot1_filled']))]))) (un13 (fun r u_now_first_numbers' u_now_second_numbers' u_past_remembered' u_reader_begun' u_reader_table' u_reader_row' u_reader_column' u_reader_tens' u_reader_tables_first_numbers' u_reader_tables_second_numbers' u_slot0_filled' u_slot1_filled' =>  .inr ((some (.int r)), [(q, .inr (8, [.ref q_now, .ref q_trial, .ref q_past, .ref q_text, .ref q_reader, .ref q_slot0, .ref q_slot1, .ref q_greatestPath, .ref q_fillingsOfShape])), (q_now, .inr (2, [.ref q_now_first, .ref q_now_second])), (q_now_first, .inr (6, [.ref q_now_first_numbers])), (q_now_first_numbers, .inl (cI, 36, .inl u_now_first_numbers')), (q_now_second, .inr (6, [.ref q_now_second_numbers])), (q_now_second_numbers, .inl (cI, 36, .inl u_now_second_numbers')), (q_past, .inr (3, [.ref q_past_numbers, .int u_past_oldest, .int u_past_remembered'])), (q_text, .inr (7, [.ref q_text_codes, .int u_text_length])), (q_text_codes, .inl (cI, 160, .inl u_text_codes)), (q_reader, .inr (4, [.ref q_reader_tables, .int u_reader_begun', .int u_reader_table', .int u_reader_row', .int u_reader_column', .int u_reader_tens'])), (q_reader_tables, .inr (2, [.ref q_reader_tables_first, .ref q_reader_tables_second])), (q_reader_tables_first, .inr (6, [.ref q_reader_tables_first_numbers])), (q_reader_tables_first_numbers, .inl (cI, 36, .inl u_reader_tables_first_numbers')), (q_reader_tables_second, .inr (6, [.ref q_reader_tables_second_numbers])), (q_reader_tables_second_numbers, .inl (cI, 36, .inl u_reader_tables_second_numbers')), (q_slot0, .inr (5, [.ref q_slot0_tables, .int u_slot0_filled'])), (q_slot1, .inr (5, [.ref q_slot1_tables, .int u_slot1_filled']))])))) = o
  refine kX_of (cc := cX9_load) (maxL := 1) (ret := (some .int)) (by decide) rfl (Nat.le_of_ble_eq_true rfl) ?_
  intro p e s m args below meth c A Q ls hQ C hout hlocks hr hE hW hl
  have hx := C.1
  have hb := C.2.1
  have hts := C.2.2.2.2
  have hl : lv_has ls 1 [(0, .ref q)] := hl
  have iX9 : ∀ w ∈ u_ws RX9 TX9 9, w ∈ wsX9_load := by decide +kernel
  have f12 := hts (.fieldLink RX9 12 "SortedTables" "now" "LSortedTables$Pair;") (by decide +kernel)
  have f22 := hts (.fieldLink RX9 22 "SortedTables" "past" "LSortedTables$Past;") (by decide +kernel)
  have f29 := hts (.fieldLink RX9 29 "SortedTables" "text" "LSortedTables$Text;") (by decide +kernel)
  have f36 := hts (.fieldLink RX9 36 "SortedTables" "reader" "LSortedTables$Reader;") (by decide +kernel)
  have f43 := hts (.fieldLink RX9 43 "SortedTables" "slot0" "LSortedTables$Slot;") (by decide +kernel)
  have f47 := hts (.fieldLink RX9 47 "SortedTables" "slot1" "LSortedTables$Slot;") (by decide +kernel)
  unfold pX9_load at hf
  refine lv_aload_n hx hb dX9_load_0 rfl (lv_at hl 0 rfl) ?_
  refine k_get C hE hW iX9 0 rfl rfl 4 (by decide) f36 (fun _ h9 => h9) rfl dX9_load_1 ?_
  refine lv_aload_n hx hb dX9_load_4 rfl (lv_at hl 0 rfl) ?_
  refine k_get C hE hW iX9 0 rfl rfl 3 (by decide) f29 (fun _ h9 => h9) rfl dX9_load_5 ?_
  obtain ⟨⟨v1, w2, w3, w4, w5, w6, w7, w8⟩, h9, hf⟩ := bd1_s hf
  replace hf := un8_s hf
  refine k_callV (b := q_reader) (ci := 4) (qb := 0) (As := [.ref q_text]) (n := 1) (rest := []) (st1 := [.int v1]) (wr := [(q, .inr (8, [.ref q_now, .ref q_trial, .ref q_past, .ref q_text, .ref q_reader, .ref q_slot0, .ref q_slot1, .ref q_greatestPath, .ref q_fillingsOfShape])), (q_now, .inr (2, [.ref q_now_first, .ref q_now_second])), (q_now_first, .inr (6, [.ref q_now_first_numbers])), (q_now_first_numbers, .inl (cI, 36, .inl u_now_first_numbers)), (q_now_second, .inr (6, [.ref q_now_second_numbers])), (q_now_second_numbers, .inl (cI, 36, .inl u_now_second_numbers)), (q_past, .inr (3, [.ref q_past_numbers, .int u_past_oldest, .int u_past_remembered])), (q_slot0, .inr (5, [.ref q_slot0_tables, .int u_slot0_filled])), (q_slot1, .inr (5, [.ref q_slot1_tables, .int u_slot1_filled]))]) (ws' := [(q, .inr (8, [.ref q_now, .ref q_trial, .ref q_past, .ref q_text, .ref q_reader, .ref q_slot0, .ref q_slot1, .ref q_greatestPath, .ref q_fillingsOfShape])), (q_now, .inr (2, [.ref q_now_first, .ref q_now_second])), (q_now_first, .inr (6, [.ref q_now_first_numbers])), (q_now_first_numbers, .inl (cI, 36, .inl u_now_first_numbers)), (q_now_second, .inr (6, [.ref q_now_second_numbers])), (q_now_second_numbers, .inl (cI, 36, .inl u_now_second_numbers)), (q_past, .inr (3, [.ref q_past_numbers, .int u_past_oldest, .int u_past_remembered])), (q_text, .inr (7, [.ref q_text_codes, .int u_text_length])), (q_text_codes, .inl (cI, 160, .inl u_text_codes)), (q_reader, .inr (4, [.ref q_reader_tables, .int w2, .int w3, .int w4, .int w5, .int w6])), (q_reader_tables, .inr (2, [.ref q_reader_tables_first, .ref q_reader_tables_second])), (q_reader_tables_first, .inr (6, [.ref q_reader_tables_first_numbers])), (q_reader_tables_first_numbers, .inl (cI, 36, .inl w7)), (q_reader_tables_second, .inr (6, [.ref q_reader_tables_second_numbers])), (q_reader_tables_second_numbers, .inl (cI, 36, .inl w8)), (q_slot0, .inr (5, [.ref q_slot0_tables, .int u_slot0_filled])), (q_slot1, .inr (5, [.ref q_slot1_tables, .int u_slot1_filled]))]) C hE hW hl.1 (kX4_read l D cI cZ cJ _ q_reader q_reader_tables q_reader_tables_first q_reader_tables_first_numbers q_reader_tables_second q_reader_tables_second_numbers q_text q_text_codes u_reader_begun u_reader_table u_reader_row u_reader_column u_reader_tens u_reader_tables_first_numbers u_reader_tables_second_numbers u_text_length u_text_codes v1 w2 w3 w4 w5 w6 w7 w8 h9) gX9_load_X4_read rfl (by decide +kernel) rfl ⟨Nat.le_of_ble_eq_true rfl, Nat.le_of_ble_eq_true rfl⟩ ⟨Nat.zero_le _, Nat.zero_le _⟩ rfl rfl [9, 10, 11, 12, 13, 14, 7, 8] [0, 1, 2, 3, 4, 5, 6, 15, 16] [0, 1, 2, 3, 4, 5, 6, 15, 16, 9, 10, 11, 12, 13, 14, 7, 8] rfl rfl rfl rfl (by decide) rfl rfl (Nat.le_of_ble_eq_true rfl) rfl rfl dX9_load_8 (fun H locs hW => ?_)
  refine lv_bipush (v := (-9)) hx hb dX9_load_11 (by decide) ?_
  refine lv_icmp_eq (tgt := 26) hx hb dX9_load_13 (by decide) (fun hc => ?_) (fun hc => ?_)
  · replace hf := if_t hc hf
    refine lv_aload_n hx hb dX9_load_26 rfl (lv_at hl 0 rfl) ?_
    refine k_get C hE hW iX9 0 rfl rfl 0 (by decide) f12 (fun _ h9 => h9) rfl dX9_load_27 ?_
    refine lv_aload_n hx hb dX9_load_30 rfl (lv_at hl 0 rfl) ?_
    refine k_get C hE hW iX9 0 rfl rfl 4 (by decide) f36 (fun _ h9 => h9) rfl dX9_load_31 ?_
    obtain ⟨_, h10, hf⟩ := bd1_s hf
    refine k_callVR (b := q_reader) (ci := 4) (qb := 0) (As := []) (n := 0) (rest := [.ref q_now]) (st1 := [.ref q_reader_tables, .ref q_now]) C hE hW hl.1 (kX4_tables l D cI cZ cJ _ q_reader q_reader_tables w2 w3 w4 w5 w6 h10) gX9_load_X4_tables rfl (by decide +kernel) rfl ⟨Nat.le_of_ble_eq_true rfl, Nat.le_of_ble_eq_true rfl⟩ ⟨Nat.zero_le _, Nat.zero_le _⟩ rfl rfl [9] rfl rfl (Nat.le_of_ble_eq_true rfl) rfl rfl dX9_load_34 (fun H locs hW => ?_)
    obtain ⟨⟨w11, w12⟩, h13, hf⟩ := bd1_s hf
    replace hf := un2_s hf
    refine k_callV (b := q_now) (ci := 2) (qb := 0) (As := [.ref q_reader_tables]) (n := 1) (rest := []) (st1 := []) (wr := [(q, .inr (8, [.ref q_now, .ref q_trial, .ref q_past, .ref q_text, .ref q_reader, .ref q_slot0, .ref q_slot1, .ref q_greatestPath, .ref q_fillingsOfShape])), (q_past, .inr (3, [.ref q_past_numbers, .int u_past_oldest, .int u_past_remembered])), (q_text, .inr (7, [.ref q_text_codes, .int u_text_length])), (q_text_codes, .inl (cI, 160, .inl u_text_codes)), (q_reader, .inr (4, [.ref q_reader_tables, .int w2, .int w3, .int w4, .int w5, .int w6])), (q_slot0, .inr (5, [.ref q_slot0_tables, .int u_slot0_filled])), (q_slot1, .inr (5, [.ref q_slot1_tables, .int u_slot1_filled]))]) (ws' := [(q, .inr (8, [.ref q_now, .ref q_trial, .ref q_past, .ref q_text, .ref q_reader, .ref q_slot0, .ref q_slot1, .ref q_greatestPath, .ref q_fillingsOfShape])), (q_now, .inr (2, [.ref q_now_first, .ref q_now_second])), (q_now_first, .inr (6, [.ref q_now_first_numbers])), (q_now_first_numbers, .inl (cI, 36, .inl w11)), (q_now_second, .inr (6, [.ref q_now_second_numbers])), (q_now_second_numbers, .inl (cI, 36, .inl w12)), (q_past, .inr (3, [.ref q_past_numbers, .int u_past_oldest, .int u_past_remembered])), (q_text, .inr (7, [.ref q_text_codes, .int u_text_length])), (q_text_codes, .inl (cI, 160, .inl u_text_codes)), (q_reader, .inr (4, [.ref q_reader_tables, .int w2, .int w3, .int w4, .int w5, .int w6])), (q_reader_tables, .inr (2, [.ref q_reader_tables_first, .ref q_reader_tables_second])), (q_reader_tables_first, .inr (6, [.ref q_reader_tables_first_numbers])), (q_reader_tables_first_numbers, .inl (cI, 36, .inl w7)), (q_reader_tables_second, .inr (6, [.ref q_reader_tables_second_numbers])), (q_reader_tables_second_numbers, .inl (cI, 36, .inl w8)), (q_slot0, .inr (5, [.ref q_slot0_tables, .int u_slot0_filled])), (q_slot1, .inr (5, [.ref q_slot1_tables, .int u_slot1_filled]))]) C hE hW hl.1 (kX2_copyFrom l D cI cZ cJ _ q_now q_now_first q_now_first_numbers q_now_second q_now_second_numbers q_reader_tables q_reader_tables_first q_reader_tables_first_numbers q_reader_tables_second q_reader_tables_second_numbers u_now_first_numbers u_now_second_numbers w7 w8 w11 w12 h13) gX9_load_X2_copyFrom rfl (by decide +kernel) rfl ⟨Nat.le_of_ble_eq_true rfl, Nat.le_of_ble_eq_true rfl⟩ ⟨Nat.zero_le _, Nat.zero_le _⟩ rfl rfl [1, 2, 3, 4, 5, 10, 11, 12, 13, 14] [0, 6, 7, 8, 9, 15, 16] [0, 7, 8, 9, 10, 11, 1, 2, 3, 4, 12, 13, 14, 15, 16, 5, 6] rfl rfl rfl rfl (by decide) rfl rfl (Nat.le_of_ble_eq_true rfl) rfl rfl dX9_load_37 (fun H locs hW => ?_)
    refine lv_aload_n hx hb dX9_load_40 rfl (lv_at hl 0 rfl) ?_
    refine k_get C hE hW iX9 0 rfl rfl 2 (by decide) f22 (fun _ h9 => h9) rfl dX9_load_41 ?_
    obtain ⟨w14, h15, hf⟩ := bd1_s hf
    refine k_callV (b := q_past) (ci := 3) (qb := 0) (As := []) (n := 0) (rest := []) (st1 := []) (wr := [(q, .inr (8, [.ref q_now, .ref q_trial, .ref q_past, .ref q_text, .ref q_reader, .ref q_slot0, .ref q_slot1, .ref q_greatestPath, .ref q_fillingsOfShape])), (q_now, .inr (2, [.ref q_now_first, .ref q_now_second])), (q_now_first, .inr (6, [.ref q_now_first_numbers])), (q_now_first_numbers, .inl (cI, 36, .inl w11)), (q_now_second, .inr (6, [.ref q_now_second_numbers])), (q_now_second_numbers, .inl (cI, 36, .inl w12)), (q_text, .inr (7, [.ref q_text_codes, .int u_text_length])), (q_text_codes, .inl (cI, 160, .inl u_text_codes)), (q_reader, .inr (4, [.ref q_reader_tables, .int w2, .int w3, .int w4, .int w5, .int w6])), (q_reader_tables, .inr (2, [.ref q_reader_tables_first, .ref q_reader_tables_second])), (q_reader_tables_first, .inr (6, [.ref q_reader_tables_first_numbers])), (q_reader_tables_first_numbers, .inl (cI, 36, .inl w7)), (q_reader_tables_second, .inr (6, [.ref q_reader_tables_second_numbers])), (q_reader_tables_second_numbers, .inl (cI, 36, .inl w8)), (q_slot0, .inr (5, [.ref q_slot0_tables, .int u_slot0_filled])), (q_slot1, .inr (5, [.ref q_slot1_tables, .int u_slot1_filled]))]) (ws' := [(q, .inr (8, [.ref q_now, .ref q_trial, .ref q_past, .ref q_text, .ref q_reader, .ref q_slot0, .ref q_slot1, .ref q_greatestPath, .ref q_fillingsOfShape])), (q_now, .inr (2, [.ref q_now_first, .ref q_now_second])), (q_now_first, .inr (6, [.ref q_now_first_numbers])), (q_now_first_numbers, .inl (cI, 36, .inl w11)), (q_now_second, .inr (6, [.ref q_now_second_numbers])), (q_now_second_numbers, .inl (cI, 36, .inl w12)), (q_past, .inr (3, [.ref q_past_numbers, .int u_past_oldest, .int w14])), (q_text, .inr (7, [.ref q_text_codes, .int u_text_length])), (q_text_codes, .inl (cI, 160, .inl u_text_codes)), (q_reader, .inr (4, [.ref q_reader_tables, .int w2, .int w3, .int w4, .int w5, .int w6])), (q_reader_tables, .inr (2, [.ref q_reader_tables_first, .ref q_reader_tables_second])), (q_reader_tables_first, .inr (6, [.ref q_reader_tables_first_numbers])), (q_reader_tables_first_numbers, .inl (cI, 36, .inl w7)), (q_reader_tables_second, .inr (6, [.ref q_reader_tables_second_numbers])), (q_reader_tables_second_numbers, .inl (cI, 36, .inl w8)), (q_slot0, .inr (5, [.ref q_slot0_tables, .int u_slot0_filled])), (q_slot1, .inr (5, [.ref q_slot1_tables, .int u_slot1_filled]))]) C hE hW hl.1 (kX3_forgetAll l D cI cZ cJ _ q_past q_past_numbers u_past_oldest u_past_remembered w14 h15) gX9_load_X3_forgetAll rfl (by decide +kernel) rfl ⟨Nat.le_of_ble_eq_true rfl, Nat.le_of_ble_eq_true rfl⟩ ⟨Nat.zero_le _, Nat.zero_le _⟩ rfl rfl [6] [0, 1, 2, 3, 4, 5, 7, 8, 9, 10, 11, 12, 13, 14, 15, 16] [0, 1, 2, 3, 4, 5, 16, 6, 7, 8, 9, 10, 11, 12, 13, 14, 15] rfl rfl rfl rfl (by decide) rfl rfl (Nat.le_of_ble_eq_true rfl) rfl rfl dX9_load_44 (fun H locs hW => ?_)
    refine lv_aload_n hx hb dX9_load_47 rfl (lv_at hl 0 rfl) ?_
    refine k_get C hE hW iX9 0 rfl rfl 5 (by decide) f43 (fun _ h9 => h9) rfl dX9_load_48 ?_
    obtain ⟨w16, h17, hf⟩ := bd1_s hf
    refine k_callV (b := q_slot0) (ci := 5) (qb := 0) (As := []) (n := 0) (rest := []) (st1 := []) (wr := [(q, .inr (8, [.ref q_now, .ref q_trial, .ref q_past, .ref q_text, .ref q_reader, .ref q_slot0, .ref q_slot1, .ref q_greatestPath, .ref q_fillingsOfShape])), (q_now, .inr (2, [.ref q_now_first, .ref q_now_second])), (q_now_first, .inr (6, [.ref q_now_first_numbers])), (q_now_first_numbers, .inl (cI, 36, .inl w11)), (q_now_second, .inr (6, [.ref q_now_second_numbers])), (q_now_second_numbers, .inl (cI, 36, .inl w12)), (q_past, .inr (3, [.ref q_past_numbers, .int u_past_oldest, .int w14])), (q_text, .inr (7, [.ref q_text_codes, .int u_text_length])), (q_text_codes, .inl (cI, 160, .inl u_text_codes)), (q_reader, .inr (4, [.ref q_reader_tables, .int w2, .int w3, .int w4, .int w5, .int w6])), (q_reader_tables, .inr (2, [.ref q_reader_tables_first, .ref q_reader_tables_second])), (q_reader_tables_first, .inr (6, [.ref q_reader_tables_first_numbers])), (q_reader_tables_first_numbers, .inl (cI, 36, .inl w7)), (q_reader_tables_second, .inr (6, [.ref q_reader_tables_second_numbers])), (q_reader_tables_second_numbers, .inl (cI, 36, .inl w8)), (q_slot1, .inr (5, [.ref q_slot1_tables, .int u_slot1_filled]))]) (ws' := [(q, .inr (8, [.ref q_now, .ref q_trial, .ref q_past, .ref q_text, .ref q_reader, .ref q_slot0, .ref q_slot1, .ref q_greatestPath, .ref q_fillingsOfShape])), (q_now, .inr (2, [.ref q_now_first, .ref q_now_second])), (q_now_first, .inr (6, [.ref q_now_first_numbers])), (q_now_first_numbers, .inl (cI, 36, .inl w11)), (q_now_second, .inr (6, [.ref q_now_second_numbers])), (q_now_second_numbers, .inl (cI, 36, .inl w12)), (q_past, .inr (3, [.ref q_past_numbers, .int u_past_oldest, .int w14])), (q_text, .inr (7, [.ref q_text_codes, .int u_text_length])), (q_text_codes, .inl (cI, 160, .inl u_text_codes)), (q_reader, .inr (4, [.ref q_reader_tables, .int w2, .int w3, .int w4, .int w5, .int w6])), (q_reader_tables, .inr (2, [.ref q_reader_tables_first, .ref q_reader_tables_second])), (q_reader_tables_first, .inr (6, [.ref q_reader_tables_first_numbers])), (q_reader_tables_first_numbers, .inl (cI, 36, .inl w7)), (q_reader_tables_second, .inr (6, [.ref q_reader_tables_second_numbers])), (q_reader_tables_second_numbers, .inl (cI, 36, .inl w8)), (q_slot0, .inr (5, [.ref q_slot0_tables, .int w16])), (q_slot1, .inr (5, [.ref q_slot1_tables, .int u_slot1_filled]))]) C hE hW hl.1 (kX6_empty l D cI cZ cJ _ q_slot0 q_slot0_tables u_slot0_filled w16 h17) gX9_load_X6_empty rfl (by decide +kernel) rfl ⟨Nat.le_of_ble_eq_true rfl, Nat.le_of_ble_eq_true rfl⟩ ⟨Nat.zero_le _, Nat.zero_le _⟩ rfl rfl [15] [0, 1, 2, 3, 4, 5, 6, 7, 8, 9, 10, 11, 12, 13, 14, 16] [0, 1, 2, 3, 4, 5, 6, 7, 8, 9, 10, 11, 12, 13, 14, 16, 15] rfl rfl rfl rfl (by decide) rfl rfl (Nat.le_of_ble_eq_true rfl) rfl rfl dX9_load_51 (fun H locs hW => ?_)
    refine lv_aload_n hx hb dX9_load_54 rfl (lv_at hl 0 rfl) ?_
    refine k_get C hE hW iX9 0 rfl rfl 6 (by decide) f47 (fun _ h9 => h9) rfl dX9_load_55 ?_
    obtain ⟨w18, h19, hf⟩ := bd1_s hf
    refine k_callV (b := q_slot1) (ci := 5) (qb := 0) (As := []) (n := 0) (rest := []) (st1 := []) (wr := [(q, .inr (8, [.ref q_now, .ref q_trial, .ref q_past, .ref q_text, .ref q_reader, .ref q_slot0, .ref q_slot1, .ref q_greatestPath, .ref q_fillingsOfShape])), (q_now, .inr (2, [.ref q_now_first, .ref q_now_second])), (q_now_first, .inr (6, [.ref q_now_first_numbers])), (q_now_first_numbers, .inl (cI, 36, .inl w11)), (q_now_second, .inr (6, [.ref q_now_second_numbers])), (q_now_second_numbers, .inl (cI, 36, .inl w12)), (q_past, .inr (3, [.ref q_past_numbers, .int u_past_oldest, .int w14])), (q_text, .inr (7, [.ref q_text_codes, .int u_text_length])), (q_text_codes, .inl (cI, 160, .inl u_text_codes)), (q_reader, .inr (4, [.ref q_reader_tables, .int w2, .int w3, .int w4, .int w5, .int w6])), (q_reader_tables, .inr (2, [.ref q_reader_tables_first, .ref q_reader_tables_second])), (q_reader_tables_first, .inr (6, [.ref q_reader_tables_first_numbers])), (q_reader_tables_first_numbers, .inl (cI, 36, .inl w7)), (q_reader_tables_second, .inr (6, [.ref q_reader_tables_second_numbers])), (q_reader_tables_second_numbers, .inl (cI, 36, .inl w8)), (q_slot0, .inr (5, [.ref q_slot0_tables, .int w16]))]) (ws' := [(q, .inr (8, [.ref q_now, .ref q_trial, .ref q_past, .ref q_text, .ref q_reader, .ref q_slot0, .ref q_slot1, .ref q_greatestPath, .ref q_fillingsOfShape])), (q_now, .inr (2, [.ref q_now_first, .ref q_now_second])), (q_now_first, .inr (6, [.ref q_now_first_numbers])), (q_now_first_numbers, .inl (cI, 36, .inl w11)), (q_now_second, .inr (6, [.ref q_now_second_numbers])), (q_now_second_numbers, .inl (cI, 36, .inl w12)), (q_past, .inr (3, [.ref q_past_numbers, .int u_past_oldest, .int w14])), (q_text, .inr (7, [.ref q_text_codes, .int u_text_length])), (q_text_codes, .inl (cI, 160, .inl u_text_codes)), (q_reader, .inr (4, [.ref q_reader_tables, .int w2, .int w3, .int w4, .int w5, .int w6])), (q_reader_tables, .inr (2, [.ref q_reader_tables_first, .ref q_reader_tables_second])), (q_reader_tables_first, .inr (6, [.ref q_reader_tables_first_numbers])), (q_reader_tables_first_numbers, .inl (cI, 36, .inl w7)), (q_reader_tables_second, .inr (6, [.ref q_reader_tables_second_numbers])), (q_reader_tables_second_numbers, .inl (cI, 36, .inl w8)), (q_slot0, .inr (5, [.ref q_slot0_tables, .int w16])), (q_slot1, .inr (5, [.ref q_slot1_tables, .int w18]))]) C hE hW hl.1 (kX6_empty l D cI cZ cJ _ q_slot1 q_slot1_tables u_slot1_filled w18 h19) gX9_load_X6_empty rfl (by decide +kernel) rfl ⟨Nat.le_of_ble_eq_true rfl, Nat.le_of_ble_eq_true rfl⟩ ⟨Nat.zero_le _, Nat.zero_le _⟩ rfl rfl [16] [0, 1, 2, 3, 4, 5, 6, 7, 8, 9, 10, 11, 12, 13, 14, 15] [0, 1, 2, 3, 4, 5, 6, 7, 8, 9, 10, 11, 12, 13, 14, 15, 16] rfl rfl rfl rfl (by decide) rfl rfl (Nat.le_of_ble_eq_true rfl) rfl rfl dX9_load_58 (fun H locs hW => ?_)
    refine lv_aload_n hx hb dX9_load_61 rfl (lv_at hl 0 rfl) ?_
    refine k_get C hE hW iX9 0 rfl rfl 0 (by decide) f12 (fun _ h9 => h9) rfl dX9_load_62 ?_
    obtain ⟨v20, h21, hf⟩ := bd1_s hf
    refine k_callVR (b := q_now) (ci := 2) (qb := 0) (As := []) (n := 0) (rest := []) (st1 := [.int v20]) C hE hW hl.1 (kX2_cells l D cI cZ cJ _ q_now q_now_first q_now_first_numbers q_now_second q_now_second_numbers w11 w12 v20 h21) gX9_load_X2_cells rfl (by decide +kernel) rfl ⟨Nat.le_of_ble_eq_true rfl, Nat.le_of_ble_eq_true rfl⟩ ⟨Nat.zero_le _, Nat.zero_le _⟩ rfl rfl [1, 2, 3, 4, 5] rfl rfl (Nat.le_of_ble_eq_true rfl) rfl rfl dX9_load_65 (fun H locs hW => ?_)
    obtain rfl := Option.some.inj hf
    subst hO
    exact kx_iret C hlocks hr hW hQ dX9_load_68
  · replace hf := if_f hc hf
    obtain rfl := Option.some.inj hf
    subst hO
    exact kx_throw (k := 2) (text := "the text is not a text of the tables") C hlt hout hlocks hE hW hl.1 (by decide) (by decide +kernel) (hts (.classLink RX9 72 (kEx 2)) (by decide +kernel)) (hts (.initialized (kEx 2)) (by decide +kernel)) (kx_hat (k := 2) (by decide) C hE (by decide +kernel) kx_h76.1) kx_h76.2 dX9_load_16 dX9_load_19 dX9_load_20 dX9_load_22 dX9_load_25 (Nat.le_of_ble_eq_true rfl) (Nat.le_of_ble_eq_true rfl) (Nat.le_of_ble_eq_true rfl) (Nat.le_of_ble_eq_true rfl) hQ

set_option maxHeartbeats 4000000 in
set_option maxRecDepth 100000 in
theorem kX9_existingTable (l : Launch) (hlt : l.stackTraces = false) (D : va_G) (cI cZ cJ : ClassId) (sz : Nat) (q q_now q_trial q_past q_text q_reader q_slot0 q_slot1 q_greatestPath q_fillingsOfShape q_now_first q_now_second : Nat) (p0 : Int32) (out : (Nat) ⊕ (Bool)) (hf : pX9_existingTable p0 = some out) : kMetX l D cI cZ cJ yX9_existingTable wsX9_existingTable 6 90 [.ref q, .int p0] [(q, .inr (8, [.ref q_now, .ref q_trial, .ref q_past, .ref q_text, .ref q_reader, .ref q_slot0, .ref q_slot1, .ref q_greatestPath, .ref q_fillingsOfShape])), (q_now, .inr (2, [.ref q_now_first, .ref q_now_second]))] sz (kSel out (fun k =>  .inl (k, [(q, .inr (8, [.ref q_now, .ref q_trial, .ref q_past, .ref q_text, .ref q_reader, .ref q_slot0, .ref q_slot1, .ref q_greatestPath, .ref q_fillingsOfShape])), (q_now, .inr (2, [.ref q_now_first, .ref q_now_second]))])) (fun r =>  .inr ((some (.ref (cond r q_now_first q_now_second))), [(q, .inr (8, [.ref q_now, .ref q_trial, .ref q_past, .ref q_text, .ref q_reader, .ref q_slot0, .ref q_slot1, .ref q_greatestPath, .ref q_fillingsOfShape])), (q_now, .inr (2, [.ref q_now_first, .ref q_now_second]))]))) := by
  generalize hO : (kSel out (fun k =>  .inl (k, [(q, .inr (8, [.ref q_now, .ref q_trial, .ref q_past, .ref q_text, .ref q_reader, .ref q_slot0, .ref q_slot1, .ref q_greatestPath, .ref q_fillingsOfShape])), (q_now, .inr (2, [.ref q_now_first, .ref q_now_second]))])) (fun r =>  .inr ((some (.ref (cond r q_now_first q_now_second))), [(q, .inr (8, [.ref q_now, .ref q_trial, .ref q_past, .ref q_text, .ref q_reader, .ref q_slot0, .ref q_slot1, .ref q_greatestPath, .ref q_fillingsOfShape])), (q_now, .inr (2, [.ref q_now_first, .ref q_now_second]))]))) = o
  refine kX_of (cc := cX9_existingTable) (maxL := 2) (ret := (some (.object "SortedTables$Table"))) (by decide) rfl (Nat.le_of_ble_eq_true rfl) ?_
  intro p e s m args below meth c A Q ls hQ C hout hlocks hr hE hW hl
  have hx := C.1
  have hb := C.2.1
  have hts := C.2.2.2.2
  have hl : lv_has ls 2 [(0, .ref q), (1, .int p0)] := hl
  have iX9 : ∀ w ∈ u_ws RX9 TX9 9, w ∈ wsX9_existingTable := by decide +kernel
  have f12 := hts (.fieldLink RX9 12 "SortedTables" "now" "LSortedTables$Pair;") (by decide +kernel)
  unfold pX9_existingTable at hf
  refine lv_iload_n hx hb dX9_existingTable_0 rfl (lv_at hl 1 rfl) ?_
  refine lv_if_lt (tgt := 9) hx hb dX9_existingTable_1 (by decide) (fun hc => ?_) (fun hc => ?_)
  · replace hf := if_t hc hf
    obtain rfl := Option.some.inj hf
    subst hO
    exact kx_throwW (k := 3) (text := "there is no such table") C hlt hout hlocks hE hW hl.1 (by decide) (by decide +kernel) (hts (.classLink RX9 303 (kEx 3)) (by decide +kernel)) (hts (.initialized (kEx 3)) (by decide +kernel)) (kx_hat (k := 3) (by decide) C hE (by decide +kernel) kx_h307.1) kx_h307.2 dX9_existingTable_9 dX9_existingTable_12 dX9_existingTable_13 dX9_existingTable_16 dX9_existingTable_19 (Nat.le_of_ble_eq_true rfl) (Nat.le_of_ble_eq_true rfl) (Nat.le_of_ble_eq_true rfl) (Nat.le_of_ble_eq_true rfl) hQ
  · replace hf := if_f hc hf
    refine lv_iload_n hx hb dX9_existingTable_4 rfl (lv_at hl 1 rfl) ?_
    refine lv_iconst (v := 1) hx hb dX9_existingTable_5 (by decide) ?_
    refine lv_icmp_le (tgt := 20) hx hb dX9_existingTable_6 (by decide) (fun hc => ?_) (fun hc => ?_)
    · replace hf := if_t hc hf
      refine lv_aload_n hx hb dX9_existingTable_20 rfl (lv_at hl 0 rfl) ?_
      refine k_get C hE hW iX9 0 rfl rfl 0 (by decide) f12 (fun _ h9 => h9) rfl dX9_existingTable_21 ?_
      refine lv_iload_n hx hb dX9_existingTable_24 rfl (lv_at hl 1 rfl) ?_
      obtain ⟨b1, h2, hf⟩ := bd1_s hf
      cases b1 with
      | true =>
        replace hf := cd_t hf
        refine k_callVR (b := q_now) (ci := 2) (qb := 0) (As := [.int p0]) (n := 1) (rest := []) (st1 := [.ref q_now_first]) C hE hW hl.1 (kX2_table l D cI cZ cJ _ q_now q_now_first q_now_second p0 true h2) gX9_existingTable_X2_table rfl (by decide +kernel) rfl ⟨Nat.le_of_ble_eq_true rfl, Nat.le_of_ble_eq_true rfl⟩ ⟨Nat.zero_le _, Nat.zero_le _⟩ rfl rfl [1] rfl rfl (Nat.le_of_ble_eq_true rfl) rfl rfl dX9_existingTable_25 (fun H locs hW => ?_)
        obtain rfl := Option.some.inj hf
        subst hO
        exact kx_aret C hlocks hr hW hQ dX9_existingTable_28
      | false =>
        replace hf := cd_f hf
        refine k_callVR (b := q_now) (ci := 2) (qb := 0) (As := [.int p0]) (n := 1) (rest := []) (st1 := [.ref q_now_second]) C hE hW hl.1 (kX2_table l D cI cZ cJ _ q_now q_now_first q_now_second p0 false h2) gX9_existingTable_X2_table rfl (by decide +kernel) rfl ⟨Nat.le_of_ble_eq_true rfl, Nat.le_of_ble_eq_true rfl⟩ ⟨Nat.zero_le _, Nat.zero_le _⟩ rfl rfl [1] rfl rfl (Nat.le_of_ble_eq_true rfl) rfl rfl dX9_existingTable_25 (fun H locs hW => ?_)
        obtain rfl := Option.some.inj hf
        subst hO
        exact kx_aret C hlocks hr hW hQ dX9_existingTable_28
    · replace hf := if_f hc hf
      obtain rfl := Option.some.inj hf
      subst hO
      exact kx_throwW (k := 3) (text := "there is no such table") C hlt hout hlocks hE hW hl.1 (by decide) (by decide +kernel) (hts (.classLink RX9 303 (kEx 3)) (by decide +kernel)) (hts (.initialized (kEx 3)) (by decide +kernel)) (kx_hat (k := 3) (by decide) C hE (by decide +kernel) kx_h307.1) kx_h307.2 dX9_existingTable_9 dX9_existingTable_12 dX9_existingTable_13 dX9_existingTable_16 dX9_existingTable_19 (Nat.le_of_ble_eq_true rfl) (Nat.le_of_ble_eq_true rfl) (Nat.le_of_ble_eq_true rfl) (Nat.le_of_ble_eq_true rfl) hQ

set_option maxHeartbeats 4000000 in
set_option maxRecDepth 100000 in
theorem kX9_about (l : Launch) (hlt : l.stackTraces = false) (D : va_G) (cI cZ cJ : ClassId) (sz : Nat) (q q_now q_now_first q_now_first_numbers q_now_second q_now_second_numbers q_trial q_past q_text q_reader q_slot0 q_slot1 q_greatestPath q_fillingsOfShape : Nat) (u_now_first_numbers : Nat → Int32) (u_now_second_numbers : Nat → Int32) (p0 : Int32) (p1 : Int32) (out : (Nat) ⊕ (Int32)) (hf : pX9_about u_now_first_numbers u_now_second_numbers p0 p1 = some out) : kMetX l D cI cZ cJ yX9_about wsX9_about 7 112 [.ref q, .int p0, .int p1] [(q, .inr (8, [.ref q_now, .ref q_trial, .ref q_past, .ref q_text, .ref q_reader, .ref q_slot0, .ref q_slot1, .ref q_greatestPath, .ref q_fillingsOfShape])), (q_now, .inr (2, [.ref q_now_first, .ref q_now_second])), (q_now_first, .inr (6, [.ref q_now_first_numbers])), (q_now_first_numbers, .inl (cI, 36, .inl u_now_first_numbers)), (q_now_second, .inr (6, [.ref q_now_second_numbers])), (q_now_second_numbers, .inl (cI, 36, .inl u_now_second_numbers))] sz (kSel out (fun k =>  .inl (k, [(q, .inr (8, [.ref q_now, .ref q_trial, .ref q_past, .ref q_text, .ref q_reader, .ref q_slot0, .ref q_slot1, .ref q_greatestPath, .ref q_fillingsOfShape])), (q_now, .inr (2, [.ref q_now_first, .ref q_now_second])), (q_now_first, .inr (6, [.ref q_now_first_numbers])), (q_now_first_numbers, .inl (cI, 36, .inl u_now_first_numbers)), (q_now_second, .inr (6, [.ref q_now_second_numbers])), (q_now_second_numbers, .inl (cI, 36, .inl u_now_second_numbers))])) (fun r =>  .inr ((some (.int r)), [(q, .inr (8, [.ref q_now, .ref q_trial, .ref q_past, .ref q_text, .ref q_reader, .ref q_slot0, .ref q_slot1, .ref q_greatestPath, .ref q_fillingsOfShape])), (q_now, .inr (2, [.ref q_now_first, .ref q_now_second])), (q_now_first, .inr (6, [.ref q_now_first_numbers])), (q_now_first_numbers, .inl (cI, 36, .inl u_now_first_numbers)), (q_now_second, .inr (6, [.ref q_now_second_numbers])), (q_now_second_numbers, .inl (cI, 36, .inl u_now_second_numbers))]))) := by
  generalize hO : (kSel out (fun k =>  .inl (k, [(q, .inr (8, [.ref q_now, .ref q_trial, .ref q_past, .ref q_text, .ref q_reader, .ref q_slot0, .ref q_slot1, .ref q_greatestPath, .ref q_fillingsOfShape])), (q_now, .inr (2, [.ref q_now_first, .ref q_now_second])), (q_now_first, .inr (6, [.ref q_now_first_numbers])), (q_now_first_numbers, .inl (cI, 36, .inl u_now_first_numbers)), (q_now_second, .inr (6, [.ref q_now_second_numbers])), (q_now_second_numbers, .inl (cI, 36, .inl u_now_second_numbers))])) (fun r =>  .inr ((some (.int r)), [(q, .inr (8, [.ref q_now, .ref q_trial, .ref q_past, .ref q_text, .ref q_reader, .ref q_slot0, .ref q_slot1, .ref q_greatestPath, .ref q_fillingsOfShape])), (q_now, .inr (2, [.ref q_now_first, .ref q_now_second])), (q_now_first, .inr (6, [.ref q_now_first_numbers])), (q_now_first_numbers, .inl (cI, 36, .inl u_now_first_numbers)), (q_now_second, .inr (6, [.ref q_now_second_numbers])), (q_now_second_numbers, .inl (cI, 36, .inl u_now_second_numbers))]))) = o
  refine kX_of (cc := cX9_about) (maxL := 4) (ret := (some .int)) (by decide) rfl (Nat.le_of_ble_eq_true rfl) ?_
  intro p e s m args below meth c A Q ls hQ C hout hlocks hr hE hW hl
  have hx := C.1
  have hb := C.2.1
  have hts := C.2.2.2.2
  have hl : lv_has ls 4 [(0, .ref q), (1, .int p0), (2, .int p1)] := hl
  unfold pX9_about at hf
  refine lv_aload_n hx hb dX9_about_0 rfl (lv_at hl 0 rfl) ?_
  refine lv_iload_n hx hb dX9_about_1 rfl (lv_at hl 1 rfl) ?_
  rcases bdE_s hf with ⟨k3, h2, hf⟩ | ⟨b1, h2, hf⟩
  · obtain rfl := Option.some.inj hf
    subst hO
    exact kx_thrV (b := q) (ci := 8) (qb := 0) (As := [.int p0]) (n := 1) (rest := []) (wr := [(q_now_first, .inr (6, [.ref q_now_first_numbers])), (q_now_first_numbers, .inl (cI, 36, .inl u_now_first_numbers)), (q_now_second, .inr (6, [.ref q_now_second_numbers])), (q_now_second_numbers, .inl (cI, 36, .inl u_now_second_numbers))]) (ws' := [(q, .inr (8, [.ref q_now, .ref q_trial, .ref q_past, .ref q_text, .ref q_reader, .ref q_slot0, .ref q_slot1, .ref q_greatestPath, .ref q_fillingsOfShape])), (q_now, .inr (2, [.ref q_now_first, .ref q_now_second])), (q_now_first, .inr (6, [.ref q_now_first_numbers])), (q_now_first_numbers, .inl (cI, 36, .inl u_now_first_numbers)), (q_now_second, .inr (6, [.ref q_now_second_numbers])), (q_now_second_numbers, .inl (cI, 36, .inl u_now_second_numbers))]) C hout hlocks hE hW hl.1 (kX9_existingTable l hlt D cI cZ cJ _ q q_now q_trial q_past q_text q_reader q_slot0 q_slot1 q_greatestPath q_fillingsOfShape q_now_first q_now_second p0 (.inl k3) h2) gX9_about_X9_existingTable rfl (by decide +kernel) rfl ⟨Nat.le_of_ble_eq_true rfl, Nat.le_of_ble_eq_true rfl⟩ ⟨Nat.le_of_ble_eq_true rfl, Nat.le_of_ble_eq_true rfl⟩ rfl rfl [0, 1] [2, 3, 4, 5] [4, 5, 0, 1, 2, 3] rfl rfl rfl rfl (by decide) rfl rfl (Nat.le_of_ble_eq_true rfl) rfl dX9_about_2 hQ
  · cases b1 with
    | true =>
      replace hf := cd_t hf
      refine k_callVR (b := q) (ci := 8) (qb := 0) (As := [.int p0]) (n := 1) (rest := []) (st1 := [.ref q_now_first]) C hE hW hl.1 (kMetX.ret (kX9_existingTable l hlt D cI cZ cJ _ q q_now q_trial q_past q_text q_reader q_slot0 q_slot1 q_greatestPath q_fillingsOfShape q_now_first q_now_second p0 (.inr true) h2)) gX9_about_X9_existingTable rfl (by decide +kernel) rfl ⟨Nat.le_of_ble_eq_true rfl, Nat.le_of_ble_eq_true rfl⟩ ⟨Nat.zero_le _, Nat.zero_le _⟩ rfl rfl [0, 1] rfl rfl (Nat.le_of_ble_eq_true rfl) rfl rfl dX9_about_2 (fun H locs hW => ?_)
      refine lv_astore_n (lv' := [(3, .ref q_now_first), (0, .ref q), (1, .int p0), (2, .int p1)]) hx hb dX9_about_5 rfl hl (by decide) rfl (fun ls hl => ?_)
      refine lv_iload_n hx hb dX9_about_6 rfl (lv_at hl 3 rfl) ?_
      refine lv_iconst (v := 0) hx hb dX9_about_7 (by decide) ?_
      refine lv_bipush (v := 7) hx hb dX9_about_8 (by decide) ?_
      rcases bdE_s hf with ⟨k5, h4, hf⟩ | ⟨_, h4, hf⟩
      · obtain rfl := Option.some.inj hf
        subst hO
        exact kx_thrS (As := [.int p1, .int 0, .int 7]) (n := 3) (rest := []) (wr := [(q, .inr (8, [.ref q_now, .ref q_trial, .ref q_past, .ref q_text, .ref q_reader, .ref q_slot0, .ref q_slot1, .ref q_greatestPath, .ref q_fillingsOfShape])), (q_now, .inr (2, [.ref q_now_first, .ref q_now_second])), (q_now_first, .inr (6, [.ref q_now_first_numbers])), (q_now_first_numbers, .inl (cI, 36, .inl u_now_first_numbers)), (q_now_second, .inr (6, [.ref q_now_second_numbers])), (q_now_second_numbers, .inl (cI, 36, .inl u_now_second_numbers))]) (ws' := [(q, .inr (8, [.ref q_now, .ref q_trial, .ref q_past, .ref q_text, .ref q_reader, .ref q_slot0, .ref q_slot1, .ref q_greatestPath, .ref q_fillingsOfShape])), (q_now, .inr (2, [.ref q_now_first, .ref q_now_second])), (q_now_first, .inr (6, [.ref q_now_first_numbers])), (q_now_first_numbers, .inl (cI, 36, .inl u_now_first_numbers)), (q_now_second, .inr (6, [.ref q_now_second_numbers])), (q_now_second_numbers, .inl (cI, 36, .inl u_now_second_numbers))]) C hout hlocks hE hW hl.1 (kX9_requireRange l hlt D cI cZ cJ _ p1 0 7 (.inl k5) h4) gX9_about_X9_requireRange rfl (by decide +kernel) rfl ⟨Nat.le_of_ble_eq_true rfl, Nat.le_of_ble_eq_true rfl⟩ ⟨Nat.le_of_ble_eq_true rfl, Nat.le_of_ble_eq_true rfl⟩ [] [0, 1, 2, 3, 4, 5] [0, 1, 2, 3, 4, 5] rfl rfl rfl rfl (by decide) rfl rfl (Nat.le_of_ble_eq_true rfl) rfl dX9_about_10 hQ
      · refine k_callSR (As := [.int p1, .int 0, .int 7]) (n := 3) (rest := []) (st1 := []) C hE hW hl.1 (kMetX.ret (kX9_requireRange l hlt D cI cZ cJ _ p1 0 7 (.inr ()) h4)) gX9_about_X9_requireRange rfl (by decide +kernel) rfl ⟨Nat.le_of_ble_eq_true rfl, Nat.le_of_ble_eq_true rfl⟩ ⟨Nat.zero_le _, Nat.zero_le _⟩ [] rfl rfl (Nat.le_of_ble_eq_true rfl) rfl rfl dX9_about_10 (fun H locs hW => ?_)
        refine lv_iload_n hx hb dX9_about_13 rfl (lv_at hl 3 rfl) ?_
        by_cases hs0 : p1 = 0
        · replace hf := if_t hs0 hf
          refine lv_tableIn (off := 42) (tgt := 56) hx hb dX9_about_14 (by rw [hs0]; decide) (by rw [hs0]; decide) (by rw [hs0]; decide +kernel) (by decide) ?_
          refine lv_aload_n hx hb dX9_about_56 rfl (lv_at hl 0 rfl) ?_
          refine lv_iconst (v := 0) hx hb dX9_about_57 (by decide) ?_
          obtain ⟨v6, h7, hf⟩ := bd1_s hf
          refine k_callVR (b := q_now_first) (ci := 6) (qb := 0) (As := [.int 0]) (n := 1) (rest := []) (st1 := [.int v6]) C hE hW hl.1 (kX7_columnLength l D cI cZ cJ _ q_now_first q_now_first_numbers u_now_first_numbers 0 v6 h7) gX9_about_X7_columnLength rfl (by decide +kernel) rfl ⟨Nat.le_of_ble_eq_true rfl, Nat.le_of_ble_eq_true rfl⟩ ⟨Nat.zero_le _, Nat.zero_le _⟩ rfl rfl [2, 3] rfl rfl (Nat.le_of_ble_eq_true rfl) rfl rfl dX9_about_58 (fun H locs hW => ?_)
          obtain rfl := Option.some.inj hf
          subst hO
          exact kx_iret C hlocks hr hW hQ dX9_about_61
        · replace hf := if_f hs0 hf
          by_cases hs1 : p1 = 1
          · replace hf := if_t hs1 hf
            refine lv_tableIn (off := 48) (tgt := 62) hx hb dX9_about_14 (by rw [hs1]; decide) (by rw [hs1]; decide) (by rw [hs1]; decide +kernel) (by decide) ?_
            refine lv_aload_n hx hb dX9_about_62 rfl (lv_at hl 0 rfl) ?_
            refine lv_iconst (v := 0) hx hb dX9_about_63 (by decide) ?_
            obtain ⟨v8, h9, hf⟩ := bd1_s hf
            refine k_callVR (b := q_now_first) (ci := 6) (qb := 0) (As := [.int 0]) (n := 1) (rest := []) (st1 := [.int v8]) C hE hW hl.1 (kX7_rowLength l D cI cZ cJ _ q_now_first q_now_first_numbers u_now_first_numbers 0 v8 h9) gX9_about_X7_rowLength rfl (by decide +kernel) rfl ⟨Nat.le_of_ble_eq_true rfl, Nat.le_of_ble_eq_true rfl⟩ ⟨Nat.zero_le _, Nat.zero_le _⟩ rfl rfl [2, 3] rfl rfl (Nat.le_of_ble_eq_true rfl) rfl rfl dX9_about_64 (fun H locs hW => ?_)
            obtain rfl := Option.some.inj hf
            subst hO
            exact kx_iret C hlocks hr hW hQ dX9_about_67
          · replace hf := if_f hs1 hf
            by_cases hs2 : p1 = 2
            · replace hf := if_t hs2 hf
              refine lv_tableIn (off := 54) (tgt := 68) hx hb dX9_about_14 (by rw [hs2]; decide) (by rw [hs2]; decide) (by rw [hs2]; decide +kernel) (by decide) ?_
              refine lv_aload_n hx hb dX9_about_68 rfl (lv_at hl 0 rfl) ?_
              obtain ⟨v10, h11, hf⟩ := bd1_s hf
              refine k_callVR (b := q_now_first) (ci := 6) (qb := 0) (As := []) (n := 0) (rest := []) (st1 := [.int v10]) C hE hW hl.1 (kX7_cells l D cI cZ cJ _ q_now_first q_now_first_numbers u_now_first_numbers v10 h11) gX9_about_X7_cells rfl (by decide +kernel) rfl ⟨Nat.le_of_ble_eq_true rfl, Nat.le_of_ble_eq_true rfl⟩ ⟨Nat.zero_le _, Nat.zero_le _⟩ rfl rfl [2, 3] rfl rfl (Nat.le_of_ble_eq_true rfl) rfl rfl dX9_about_69 (fun H locs hW => ?_)
              obtain rfl := Option.some.inj hf
              subst hO
              exact kx_iret C hlocks hr hW hQ dX9_about_72
            · replace hf := if_f hs2 hf
              by_cases hs3 : p1 = 3
              · replace hf := if_t hs3 hf
                refine lv_tableIn (off := 59) (tgt := 73) hx hb dX9_about_14 (by rw [hs3]; decide) (by rw [hs3]; decide) (by rw [hs3]; decide +kernel) (by decide) ?_
                refine lv_aload_n hx hb dX9_about_73 rfl (lv_at hl 0 rfl) ?_
                refine lv_iconst (v := 0) hx hb dX9_about_74 (by decide) ?_
                refine lv_iconst (v := 0) hx hb dX9_about_75 (by decide) ?_
                obtain ⟨v12, h13, hf⟩ := bd1_s hf
                refine k_callVR (b := q_now_first) (ci := 6) (qb := 0) (As := [.int 0, .int 0]) (n := 2) (rest := []) (st1 := [.int v12]) C hE hW hl.1 (kX7_has l D cI cZ cJ _ q_now_first q_now_first_numbers u_now_first_numbers 0 0 v12 h13) gX9_about_X7_has rfl (by decide +kernel) rfl ⟨Nat.le_of_ble_eq_true rfl, Nat.le_of_ble_eq_true rfl⟩ ⟨Nat.zero_le _, Nat.zero_le _⟩ rfl rfl [2, 3] rfl rfl (Nat.le_of_ble_eq_true rfl) rfl rfl dX9_about_76 (fun H locs hW => ?_)
                refine lv_if_eq (tgt := 91) hx hb dX9_about_79 (by decide) (fun hc => ?_) (fun hc => ?_)
                · replace hf := if_t hc hf
                  refine lv_bipush (v := (-9)) hx hb dX9_about_91 (by decide) ?_
                  obtain rfl := Option.some.inj hf
                  subst hO
                  exact kx_iret C hlocks hr hW hQ dX9_about_93
                · replace hf := if_f hc hf
                  refine lv_aload_n hx hb dX9_about_82 rfl (lv_at hl 0 rfl) ?_
                  refine lv_iconst (v := 0) hx hb dX9_about_83 (by decide) ?_
                  refine lv_iconst (v := 0) hx hb dX9_about_84 (by decide) ?_
                  obtain ⟨v14, h15, hf⟩ := bd1_s hf
                  refine k_callVR (b := q_now_first) (ci := 6) (qb := 0) (As := [.int 0, .int 0]) (n := 2) (rest := []) (st1 := [.int v14]) C hE hW hl.1 (kX7_at l D cI cZ cJ _ q_now_first q_now_first_numbers u_now_first_numbers 0 0 v14 h15) gX9_about_X7_at rfl (by decide +kernel) rfl ⟨Nat.le_of_ble_eq_true rfl, Nat.le_of_ble_eq_true rfl⟩ ⟨Nat.zero_le _, Nat.zero_le _⟩ rfl rfl [2, 3] rfl rfl (Nat.le_of_ble_eq_true rfl) rfl rfl dX9_about_85 (fun H locs hW => ?_)
                  refine lv_goto (tgt := 93) hx hb dX9_about_88 (by decide) ?_
                  obtain rfl := Option.some.inj hf
                  subst hO
                  exact kx_iret C hlocks hr hW hQ dX9_about_93
              · replace hf := if_f hs3 hf
                by_cases hs4 : p1 = 4
                · replace hf := if_t hs4 hf
                  refine lv_tableIn (off := 80) (tgt := 94) hx hb dX9_about_14 (by rw [hs4]; decide) (by rw [hs4]; decide) (by rw [hs4]; decide +kernel) (by decide) ?_
                  refine lv_aload_n hx hb dX9_about_94 rfl (lv_at hl 0 rfl) ?_
                  obtain ⟨v16, h17, hf⟩ := bd1_s hf
                  refine k_callVR (b := q_now_first) (ci := 6) (qb := 0) (As := []) (n := 0) (rest := []) (st1 := [.int v16]) C hE hW hl.1 (kX7_greatest l D cI cZ cJ _ q_now_first q_now_first_numbers u_now_first_numbers v16 h17) gX9_about_X7_greatest rfl (by decide +kernel) rfl ⟨Nat.le_of_ble_eq_true rfl, Nat.le_of_ble_eq_true rfl⟩ ⟨Nat.zero_le _, Nat.zero_le _⟩ rfl rfl [2, 3] rfl rfl (Nat.le_of_ble_eq_true rfl) rfl rfl dX9_about_95 (fun H locs hW => ?_)
                  obtain rfl := Option.some.inj hf
                  subst hO
                  exact kx_iret C hlocks hr hW hQ dX9_about_98
                · replace hf := if_f hs4 hf
                  by_cases hs5 : p1 = 5
                  · replace hf := if_t hs5 hf
                    refine lv_tableIn (off := 85) (tgt := 99) hx hb dX9_about_14 (by rw [hs5]; decide) (by rw [hs5]; decide) (by rw [hs5]; decide +kernel) (by decide) ?_
                    refine lv_aload_n hx hb dX9_about_99 rfl (lv_at hl 0 rfl) ?_
                    obtain ⟨v18, h19, hf⟩ := bd1_s hf
                    refine k_callVR (b := q_now_first) (ci := 6) (qb := 0) (As := []) (n := 0) (rest := []) (st1 := [.int v18]) C hE hW hl.1 (kX7_sum l D cI cZ cJ _ q_now_first q_now_first_numbers u_now_first_numbers v18 h19) gX9_about_X7_sum rfl (by decide +kernel) rfl ⟨Nat.le_of_ble_eq_true rfl, Nat.le_of_ble_eq_true rfl⟩ ⟨Nat.zero_le _, Nat.zero_le _⟩ rfl rfl [2, 3] rfl rfl (Nat.le_of_ble_eq_true rfl) rfl rfl dX9_about_100 (fun H locs hW => ?_)
                    obtain rfl := Option.some.inj hf
                    subst hO
                    exact kx_iret C hlocks hr hW hQ dX9_about_103
                  · replace hf := if_f hs5 hf
                    by_cases hs6 : p1 = 6
                    · replace hf := if_t hs6 hf
                      refine lv_tableIn (off := 90) (tgt := 104) hx hb dX9_about_14 (by rw [hs6]; decide) (by rw [hs6]; decide) (by rw [hs6]; decide +kernel) (by decide) ?_
                      refine lv_aload_n hx hb dX9_about_104 rfl (lv_at hl 0 rfl) ?_
                      refine lv_iconst (v := 0) hx hb dX9_about_105 (by decide) ?_
                      obtain ⟨v20, h21, hf⟩ := bd1_s hf
                      refine k_callVR (b := q_now_first) (ci := 6) (qb := 0) (As := [.int 0]) (n := 1) (rest := []) (st1 := [.int v20]) C hE hW hl.1 (kX7_ends l D cI cZ cJ _ q_now_first q_now_first_numbers u_now_first_numbers 0 v20 h21) gX9_about_X7_ends rfl (by decide +kernel) rfl ⟨Nat.le_of_ble_eq_true rfl, Nat.le_of_ble_eq_true rfl⟩ ⟨Nat.zero_le _, Nat.zero_le _⟩ rfl rfl [2, 3] rfl rfl (Nat.le_of_ble_eq_true rfl) rfl rfl dX9_about_106 (fun H locs hW => ?_)
                      obtain rfl := Option.some.inj hf
                      subst hO
                      exact kx_iret C hlocks hr hW hQ dX9_about_109
                    · replace hf := if_f hs6 hf
                      refine lv_tableOut (tgt := 110) hx hb dX9_about_14 (kt_out7_0 hs0 hs1 hs2 hs3 hs4 hs5 hs6) (by decide) ?_
                      refine lv_aload_n hx hb dX9_about_110 rfl (lv_at hl 0 rfl) ?_
                      refine lv_iconst (v := 1) hx hb dX9_about_111 (by decide) ?_
                      obtain ⟨v22, h23, hf⟩ := bd1_s hf
                      refine k_callVR (b := q_now_first) (ci := 6) (qb := 0) (As := [.int 1]) (n := 1) (rest := []) (st1 := [.int v22]) C hE hW hl.1 (kX7_ends l D cI cZ cJ _ q_now_first q_now_first_numbers u_now_first_numbers 1 v22 h23) gX9_about_X7_ends rfl (by decide +kernel) rfl ⟨Nat.le_of_ble_eq_true rfl, Nat.le_of_ble_eq_true rfl⟩ ⟨Nat.zero_le _, Nat.zero_le _⟩ rfl rfl [2, 3] rfl rfl (Nat.le_of_ble_eq_true rfl) rfl rfl dX9_about_112 (fun H locs hW => ?_)
                      obtain rfl := Option.some.inj hf
                      subst hO
                      exact kx_iret C hlocks hr hW hQ dX9_about_115
    | false =>
      replace hf := cd_f hf
      refine k_callVR (b := q) (ci := 8) (qb := 0) (As := [.int p0]) (n := 1) (rest := []) (st1 := [.ref q_now_second]) C hE hW hl.1 (kMetX.ret (kX9_existingTable l hlt D cI cZ cJ _ q q_now q_trial q_past q_text q_reader q_slot0 q_slot1 q_greatestPath q_fillingsOfShape q_now_first q_now_second p0 (.inr false) h2)) gX9_about_X9_existingTable rfl (by decide +kernel) rfl ⟨Nat.le_of_ble_eq_true rfl, Nat.le_of_ble_eq_true rfl⟩ ⟨Nat.zero_le _, Nat.zero_le _⟩ rfl rfl [0, 1] rfl rfl (Nat.le_of_ble_eq_true rfl) rfl rfl dX9_about_2 (fun H locs hW => ?_)
      refine lv_astore_n (lv' := [(3, .ref q_now_second), (0, .ref q), (1, .int p0), (2, .int p1)]) hx hb dX9_about_5 rfl hl (by decide) rfl (fun ls hl => ?_)
      refine lv_iload_n hx hb dX9_about_6 rfl (lv_at hl 3 rfl) ?_
      refine lv_iconst (v := 0) hx hb dX9_about_7 (by decide) ?_
      refine lv_bipush (v := 7) hx hb dX9_about_8 (by decide) ?_
      rcases bdE_s hf with ⟨k25, h24, hf⟩ | ⟨_, h24, hf⟩
      · obtain rfl := Option.some.inj hf
        subst hO
        exact kx_thrS (As := [.int p1, .int 0, .int 7]) (n := 3) (rest := []) (wr := [(q, .inr (8, [.ref q_now, .ref q_trial, .ref q_past, .ref q_text, .ref q_reader, .ref q_slot0, .ref q_slot1, .ref q_greatestPath, .ref q_fillingsOfShape])), (q_now, .inr (2, [.ref q_now_first, .ref q_now_second])), (q_now_first, .inr (6, [.ref q_now_first_numbers])), (q_now_first_numbers, .inl (cI, 36, .inl u_now_first_numbers)), (q_now_second, .inr (6, [.ref q_now_second_numbers])), (q_now_second_numbers, .inl (cI, 36, .inl u_now_second_numbers))]) (ws' := [(q, .inr (8, [.ref q_now, .ref q_trial, .ref q_past, .ref q_text, .ref q_reader, .ref q_slot0, .ref q_slot1, .ref q_greatestPath, .ref q_fillingsOfShape])), (q_now, .inr (2, [.ref q_now_first, .ref q_now_second])), (q_now_first, .inr (6, [.ref q_now_first_numbers])), (q_now_first_numbers, .inl (cI, 36, .inl u_now_first_numbers)), (q_now_second, .inr (6, [.ref q_now_second_numbers])), (q_now_second_numbers, .inl (cI, 36, .inl u_now_second_numbers))]) C hout hlocks hE hW hl.1 (kX9_requireRange l hlt D cI cZ cJ _ p1 0 7 (.inl k25) h24) gX9_about_X9_requireRange rfl (by decide +kernel) rfl ⟨Nat.le_of_ble_eq_true rfl, Nat.le_of_ble_eq_true rfl⟩ ⟨Nat.le_of_ble_eq_true rfl, Nat.le_of_ble_eq_true rfl⟩ [] [0, 1, 2, 3, 4, 5] [0, 1, 2, 3, 4, 5] rfl rfl rfl rfl (by decide) rfl rfl (Nat.le_of_ble_eq_true rfl) rfl dX9_about_10 hQ
      · refine k_callSR (As := [.int p1, .int 0, .int 7]) (n := 3) (rest := []) (st1 := []) C hE hW hl.1 (kMetX.ret (kX9_requireRange l hlt D cI cZ cJ _ p1 0 7 (.inr ()) h24)) gX9_about_X9_requireRange rfl (by decide +kernel) rfl ⟨Nat.le_of_ble_eq_true rfl, Nat.le_of_ble_eq_true rfl⟩ ⟨Nat.zero_le _, Nat.zero_le _⟩ [] rfl rfl (Nat.le_of_ble_eq_true rfl) rfl rfl dX9_about_10 (fun H locs hW => ?_)
        refine lv_iload_n hx hb dX9_about_13 rfl (lv_at hl 3 rfl) ?_
        by_cases hs0 : p1 = 0
        · replace hf := if_t hs0 hf
          refine lv_tableIn (off := 42) (tgt := 56) hx hb dX9_about_14 (by rw [hs0]; decide) (by rw [hs0]; decide) (by rw [hs0]; decide +kernel) (by decide) ?_
          refine lv_aload_n hx hb dX9_about_56 rfl (lv_at hl 0 rfl) ?_
          refine lv_iconst (v := 0) hx hb dX9_about_57 (by decide) ?_
          obtain ⟨v26, h27, hf⟩ := bd1_s hf
          refine k_callVR (b := q_now_second) (ci := 6) (qb := 0) (As := [.int 0]) (n := 1) (rest := []) (st1 := [.int v26]) C hE hW hl.1 (kX7_columnLength l D cI cZ cJ _ q_now_second q_now_second_numbers u_now_second_numbers 0 v26 h27) gX9_about_X7_columnLength rfl (by decide +kernel) rfl ⟨Nat.le_of_ble_eq_true rfl, Nat.le_of_ble_eq_true rfl⟩ ⟨Nat.zero_le _, Nat.zero_le _⟩ rfl rfl [4, 5] rfl rfl (Nat.le_of_ble_eq_true rfl) rfl rfl dX9_about_58 (fun H locs hW => ?_)
          obtain rfl := Option.some.inj hf
          subst hO
          exact kx_iret C hlocks hr hW hQ dX9_about_61
        · replace hf := if_f hs0 hf
          by_cases hs1 : p1 = 1
          · replace hf := if_t hs1 hf
            refine lv_tableIn (off := 48) (tgt := 62) hx hb dX9_about_14 (by rw [hs1]; decide) (by rw [hs1]; decide) (by rw [hs1]; decide +kernel) (by decide) ?_
            refine lv_aload_n hx hb dX9_about_62 rfl (lv_at hl 0 rfl) ?_
            refine lv_iconst (v := 0) hx hb dX9_about_63 (by decide) ?_
            obtain ⟨v28, h29, hf⟩ := bd1_s hf
            refine k_callVR (b := q_now_second) (ci := 6) (qb := 0) (As := [.int 0]) (n := 1) (rest := []) (st1 := [.int v28]) C hE hW hl.1 (kX7_rowLength l D cI cZ cJ _ q_now_second q_now_second_numbers u_now_second_numbers 0 v28 h29) gX9_about_X7_rowLength rfl (by decide +kernel) rfl ⟨Nat.le_of_ble_eq_true rfl, Nat.le_of_ble_eq_true rfl⟩ ⟨Nat.zero_le _, Nat.zero_le _⟩ rfl rfl [4, 5] rfl rfl (Nat.le_of_ble_eq_true rfl) rfl rfl dX9_about_64 (fun H locs hW => ?_)
            obtain rfl := Option.some.inj hf
            subst hO
            exact kx_iret C hlocks hr hW hQ dX9_about_67
          · replace hf := if_f hs1 hf
            by_cases hs2 : p1 = 2
            · replace hf := if_t hs2 hf
              refine lv_tableIn (off := 54) (tgt := 68) hx hb dX9_about_14 (by rw [hs2]; decide) (by rw [hs2]; decide) (by rw [hs2]; decide +kernel) (by decide) ?_
              refine lv_aload_n hx hb dX9_about_68 rfl (lv_at hl 0 rfl) ?_
              obtain ⟨v30, h31, hf⟩ := bd1_s hf
              refine k_callVR (b := q_now_second) (ci := 6) (qb := 0) (As := []) (n := 0) (rest := []) (st1 := [.int v30]) C hE hW hl.1 (kX7_cells l D cI cZ cJ _ q_now_second q_now_second_numbers u_now_second_numbers v30 h31) gX9_about_X7_cells rfl (by decide +kernel) rfl ⟨Nat.le_of_ble_eq_true rfl, Nat.le_of_ble_eq_true rfl⟩ ⟨Nat.zero_le _, Nat.zero_le _⟩ rfl rfl [4, 5] rfl rfl (Nat.le_of_ble_eq_true rfl) rfl rfl dX9_about_69 (fun H locs hW => ?_)
              obtain rfl := Option.some.inj hf
              subst hO
              exact kx_iret C hlocks hr hW hQ dX9_about_72
            · replace hf := if_f hs2 hf
              by_cases hs3 : p1 = 3
              · replace hf := if_t hs3 hf
                refine lv_tableIn (off := 59) (tgt := 73) hx hb dX9_about_14 (by rw [hs3]; decide) (by rw [hs3]; decide) (by rw [hs3]; decide +kernel) (by decide) ?_
                refine lv_aload_n hx hb dX9_about_73 rfl (lv_at hl 0 rfl) ?_
                refine lv_iconst (v := 0) hx hb dX9_about_74 (by decide) ?_
                refine lv_iconst (v := 0) hx hb dX9_about_75 (by decide) ?_
                obtain ⟨v32, h33, hf⟩ := bd1_s hf
                refine k_callVR (b := q_now_second) (ci := 6) (qb := 0) (As := [.int 0, .int 0]) (n := 2) (rest := []) (st1 := [.int v32]) C hE hW hl.1 (kX7_has l D cI cZ cJ _ q_now_second q_now_second_numbers u_now_second_numbers 0 0 v32 h33) gX9_about_X7_has rfl (by decide +kernel) rfl ⟨Nat.le_of_ble_eq_true rfl, Nat.le_of_ble_eq_true rfl⟩ ⟨Nat.zero_le _, Nat.zero_le _⟩ rfl rfl [4, 5] rfl rfl (Nat.le_of_ble_eq_true rfl) rfl rfl dX9_about_76 (fun H locs hW => ?_)
                refine lv_if_eq (tgt := 91) hx hb dX9_about_79 (by decide) (fun hc => ?_) (fun hc => ?_)
                · replace hf := if_t hc hf
                  refine lv_bipush (v := (-9)) hx hb dX9_about_91 (by decide) ?_
                  obtain rfl := Option.some.inj hf
                  subst hO
                  exact kx_iret C hlocks hr hW hQ dX9_about_93
                · replace hf := if_f hc hf
                  refine lv_aload_n hx hb dX9_about_82 rfl (lv_at hl 0 rfl) ?_
                  refine lv_iconst (v := 0) hx hb dX9_about_83 (by decide) ?_
                  refine lv_iconst (v := 0) hx hb dX9_about_84 (by decide) ?_
                  obtain ⟨v34, h35, hf⟩ := bd1_s hf
                  refine k_callVR (b := q_now_second) (ci := 6) (qb := 0) (As := [.int 0, .int 0]) (n := 2) (rest := []) (st1 := [.int v34]) C hE hW hl.1 (kX7_at l D cI cZ cJ _ q_now_second q_now_second_numbers u_now_second_numbers 0 0 v34 h35) gX9_about_X7_at rfl (by decide +kernel) rfl ⟨Nat.le_of_ble_eq_true rfl, Nat.le_of_ble_eq_true rfl⟩ ⟨Nat.zero_le _, Nat.zero_le _⟩ rfl rfl [4, 5] rfl rfl (Nat.le_of_ble_eq_true rfl) rfl rfl dX9_about_85 (fun H locs hW => ?_)
                  refine lv_goto (tgt := 93) hx hb dX9_about_88 (by decide) ?_
                  obtain rfl := Option.some.inj hf
                  subst hO
                  exact kx_iret C hlocks hr hW hQ dX9_about_93
              · replace hf := if_f hs3 hf
                by_cases hs4 : p1 = 4
                · replace hf := if_t hs4 hf
                  refine lv_tableIn (off := 80) (tgt := 94) hx hb dX9_about_14 (by rw [hs4]; decide) (by rw [hs4]; decide) (by rw [hs4]; decide +kernel) (by decide) ?_
                  refine lv_aload_n hx hb dX9_about_94 rfl (lv_at hl 0 rfl) ?_
                  obtain ⟨v36, h37, hf⟩ := bd1_s hf
                  refine k_callVR (b := q_now_second) (ci := 6) (qb := 0) (As := []) (n := 0) (rest := []) (st1 := [.int v36]) C hE hW hl.1 (kX7_greatest l D cI cZ cJ _ q_now_second q_now_second_numbers u_now_second_numbers v36 h37) gX9_about_X7_greatest rfl (by decide +kernel) rfl ⟨Nat.le_of_ble_eq_true rfl, Nat.le_of_ble_eq_true rfl⟩ ⟨Nat.zero_le _, Nat.zero_le _⟩ rfl rfl [4, 5] rfl rfl (Nat.le_of_ble_eq_true rfl) rfl rfl dX9_about_95 (fun H locs hW => ?_)
                  obtain rfl := Option.some.inj hf
                  subst hO
                  exact kx_iret C hlocks hr hW hQ dX9_about_98
                · replace hf := if_f hs4 hf
                  by_cases hs5 : p1 = 5
                  · replace hf := if_t hs5 hf
                    refine lv_tableIn (off := 85) (tgt := 99) hx hb dX9_about_14 (by rw [hs5]; decide) (by rw [hs5]; decide) (by rw [hs5]; decide +kernel) (by decide) ?_
                    refine lv_aload_n hx hb dX9_about_99 rfl (lv_at hl 0 rfl) ?_
                    obtain ⟨v38, h39, hf⟩ := bd1_s hf
                    refine k_callVR (b := q_now_second) (ci := 6) (qb := 0) (As := []) (n := 0) (rest := []) (st1 := [.int v38]) C hE hW hl.1 (kX7_sum l D cI cZ cJ _ q_now_second q_now_second_numbers u_now_second_numbers v38 h39) gX9_about_X7_sum rfl (by decide +kernel) rfl ⟨Nat.le_of_ble_eq_true rfl, Nat.le_of_ble_eq_true rfl⟩ ⟨Nat.zero_le _, Nat.zero_le _⟩ rfl rfl [4, 5] rfl rfl (Nat.le_of_ble_eq_true rfl) rfl rfl dX9_about_100 (fun H locs hW => ?_)
                    obtain rfl := Option.some.inj hf
                    subst hO
                    exact kx_iret C hlocks hr hW hQ dX9_about_103
                  · replace hf := if_f hs5 hf
                    by_cases hs6 : p1 = 6
                    · replace hf := if_t hs6 hf
                      refine lv_tableIn (off := 90) (tgt := 104) hx hb dX9_about_14 (by rw [hs6]; decide) (by rw [hs6]; decide) (by rw [hs6]; decide +kernel) (by decide) ?_
                      refine lv_aload_n hx hb dX9_about_104 rfl (lv_at hl 0 rfl) ?_
                      refine lv_iconst (v := 0) hx hb dX9_about_105 (by decide) ?_
                      obtain ⟨v40, h41, hf⟩ := bd1_s hf
                      refine k_callVR (b := q_now_second) (ci := 6) (qb := 0) (As := [.int 0]) (n := 1) (rest := []) (st1 := [.int v40]) C hE hW hl.1 (kX7_ends l D cI cZ cJ _ q_now_second q_now_second_numbers u_now_second_numbers 0 v40 h41) gX9_about_X7_ends rfl (by decide +kernel) rfl ⟨Nat.le_of_ble_eq_true rfl, Nat.le_of_ble_eq_true rfl⟩ ⟨Nat.zero_le _, Nat.zero_le _⟩ rfl rfl [4, 5] rfl rfl (Nat.le_of_ble_eq_true rfl) rfl rfl dX9_about_106 (fun H locs hW => ?_)
                      obtain rfl := Option.some.inj hf
                      subst hO
                      exact kx_iret C hlocks hr hW hQ dX9_about_109
                    · replace hf := if_f hs6 hf
                      refine lv_tableOut (tgt := 110) hx hb dX9_about_14 (kt_out7_0 hs0 hs1 hs2 hs3 hs4 hs5 hs6) (by decide) ?_
                      refine lv_aload_n hx hb dX9_about_110 rfl (lv_at hl 0 rfl) ?_
                      refine lv_iconst (v := 1) hx hb dX9_about_111 (by decide) ?_
                      obtain ⟨v42, h43, hf⟩ := bd1_s hf
                      refine k_callVR (b := q_now_second) (ci := 6) (qb := 0) (As := [.int 1]) (n := 1) (rest := []) (st1 := [.int v42]) C hE hW hl.1 (kX7_ends l D cI cZ cJ _ q_now_second q_now_second_numbers u_now_second_numbers 1 v42 h43) gX9_about_X7_ends rfl (by decide +kernel) rfl ⟨Nat.le_of_ble_eq_true rfl, Nat.le_of_ble_eq_true rfl⟩ ⟨Nat.zero_le _, Nat.zero_le _⟩ rfl rfl [4, 5] rfl rfl (Nat.le_of_ble_eq_true rfl) rfl rfl dX9_about_112 (fun H locs hW => ?_)
                      obtain rfl := Option.some.inj hf
                      subst hO
                      exact kx_iret C hlocks hr hW hQ dX9_about_115

set_option maxHeartbeats 4000000 in
set_option maxRecDepth 100000 in
theorem kX9_tableWithCell (l : Launch) (hlt : l.stackTraces = false) (D : va_G) (cI cZ cJ : ClassId) (sz : Nat) (q q_now q_now_first q_now_first_numbers q_now_second q_now_second_numbers q_trial q_past q_text q_reader q_slot0 q_slot1 q_greatestPath q_fillingsOfShape : Nat) (u_now_first_numbers : Nat → Int32) (u_now_second_numbers : Nat → Int32) (p0 : Int32) (p1 : Int32) (p2 : Int32) (out : (Nat) ⊕ (Bool)) (hf : pX9_tableWithCell u_now_first_numbers u_now_second_numbers p0 p1 p2 = some out) : kMetX l D cI cZ cJ yX9_tableWithCell wsX9_tableWithCell 7 111 [.ref q, .int p0, .int p1, .int p2] [(q, .inr (8, [.ref q_now, .ref q_trial, .ref q_past, .ref q_text, .ref q_reader, .ref q_slot0, .ref q_slot1, .ref q_greatestPath, .ref q_fillingsOfShape])), (q_now, .inr (2, [.ref q_now_first, .ref q_now_second])), (q_now_first, .inr (6, [.ref q_now_first_numbers])), (q_now_first_numbers, .inl (cI, 36, .inl u_now_first_numbers)), (q_now_second, .inr (6, [.ref q_now_second_numbers])), (q_now_second_numbers, .inl (cI, 36, .inl u_now_second_numbers))] sz (kSel out (fun k =>  .inl (k, [(q, .inr (8, [.ref q_now, .ref q_trial, .ref q_past, .ref q_text, .ref q_reader, .ref q_slot0, .ref q_slot1, .ref q_greatestPath, .ref q_fillingsOfShape])), (q_now, .inr (2, [.ref q_now_first, .ref q_now_second])), (q_now_first, .inr (6, [.ref q_now_first_numbers])), (q_now_first_numbers, .inl (cI, 36, .inl u_now_first_numbers)), (q_now_second, .inr (6, [.ref q_now_second_numbers])), (q_now_second_numbers, .inl (cI, 36, .inl u_now_second_numbers))])) (fun r =>  .inr ((some (.ref (cond r q_now_first q_now_second))), [(q, .inr (8, [.ref q_now, .ref q_trial, .ref q_past, .ref q_text, .ref q_reader, .ref q_slot0, .ref q_slot1, .ref q_greatestPath, .ref q_fillingsOfShape])), (q_now, .inr (2, [.ref q_now_first, .ref q_now_second])), (q_now_first, .inr (6, [.ref q_now_first_numbers])), (q_now_first_numbers, .inl (cI, 36, .inl u_now_first_numbers)), (q_now_second, .inr (6, [.ref q_now_second_numbers])), (q_now_second_numbers, .inl (cI, 36, .inl u_now_second_numbers))]))) := by
  generalize hO : (kSel out (fun k =>  .inl (k, [(q, .inr (8, [.ref q_now, .ref q_trial, .ref q_past, .ref q_text, .ref q_reader, .ref q_slot0, .ref q_slot1, .ref q_greatestPath, .ref q_fillingsOfShape])), (q_now, .inr (2, [.ref q_now_first, .ref q_now_second])), (q_now_first, .inr (6, [.ref q_now_first_numbers])), (q_now_first_numbers, .inl (cI, 36, .inl u_now_first_numbers)), (q_now_second, .inr (6, [.ref q_now_second_numbers])), (q_now_second_numbers, .inl (cI, 36, .inl u_now_second_numbers))])) (fun r =>  .inr ((some (.ref (cond r q_now_first q_now_second))), [(q, .inr (8, [.ref q_now, .ref q_trial, .ref q_past, .ref q_text, .ref q_reader, .ref q_slot0, .ref q_slot1, .ref q_greatestPath, .ref q_fillingsOfShape])), (q_now, .inr (2, [.ref q_now_first, .ref q_now_second])), (q_now_first, .inr (6, [.ref q_now_first_numbers])), (q_now_first_numbers, .inl (cI, 36, .inl u_now_first_numbers)), (q_now_second, .inr (6, [.ref q_now_second_numbers])), (q_now_second_numbers, .inl (cI, 36, .inl u_now_second_numbers))]))) = o
  refine kX_of (cc := cX9_tableWithCell) (maxL := 5) (ret := (some (.object "SortedTables$Table"))) (by decide) rfl (Nat.le_of_ble_eq_true rfl) ?_
  intro p e s m args below meth c A Q ls hQ C hout hlocks hr hE hW hl
  have hx := C.1
  have hb := C.2.1
  have hts := C.2.2.2.2
  have hl : lv_has ls 5 [(0, .ref q), (1, .int p0), (2, .int p1), (3, .int p2)] := hl
  unfold pX9_tableWithCell at hf
  refine lv_aload_n hx hb dX9_tableWithCell_0 rfl (lv_at hl 0 rfl) ?_
  refine lv_iload_n hx hb dX9_tableWithCell_1 rfl (lv_at hl 1 rfl) ?_
  rcases bdE_s hf with ⟨k3, h2, hf⟩ | ⟨b1, h2, hf⟩
  · obtain rfl := Option.some.inj hf
    subst hO
    exact kx_thrV (b := q) (ci := 8) (qb := 0) (As := [.int p0]) (n := 1) (rest := []) (wr := [(q_now_first, .inr (6, [.ref q_now_first_numbers])), (q_now_first_numbers, .inl (cI, 36, .inl u_now_first_numbers)), (q_now_second, .inr (6, [.ref q_now_second_numbers])), (q_now_second_numbers, .inl (cI, 36, .inl u_now_second_numbers))]) (ws' := [(q, .inr (8, [.ref q_now, .ref q_trial, .ref q_past, .ref q_text, .ref q_reader, .ref q_slot0, .ref q_slot1, .ref q_greatestPath, .ref q_fillingsOfShape])), (q_now, .inr (2, [.ref q_now_first, .ref q_now_second])), (q_now_first, .inr (6, [.ref q_now_first_numbers])), (q_now_first_numbers, .inl (cI, 36, .inl u_now_first_numbers)), (q_now_second, .inr (6, [.ref q_now_second_numbers])), (q_now_second_numbers, .inl (cI, 36, .inl u_now_second_numbers))]) C hout hlocks hE hW hl.1 (kX9_existingTable l hlt D cI cZ cJ _ q q_now q_trial q_past q_text q_reader q_slot0 q_slot1 q_greatestPath q_fillingsOfShape q_now_first q_now_second p0 (.inl k3) h2) gX9_tableWithCell_X9_existingTable rfl (by decide +kernel) rfl ⟨Nat.le_of_ble_eq_true rfl, Nat.le_of_ble_eq_true rfl⟩ ⟨Nat.le_of_ble_eq_true rfl, Nat.le_of_ble_eq_true rfl⟩ rfl rfl [0, 1] [2, 3, 4, 5] [4, 5, 0, 1, 2, 3] rfl rfl rfl rfl (by decide) rfl rfl (Nat.le_of_ble_eq_true rfl) rfl dX9_tableWithCell_2 hQ
  · cases b1 with
    | true =>
      replace hf := cd_t hf
      refine k_callVR (b := q) (ci := 8) (qb := 0) (As := [.int p0]) (n := 1) (rest := []) (st1 := [.ref q_now_first]) C hE hW hl.1 (kMetX.ret (kX9_existingTable l hlt D cI cZ cJ _ q q_now q_trial q_past q_text q_reader q_slot0 q_slot1 q_greatestPath q_fillingsOfShape q_now_first q_now_second p0 (.inr true) h2)) gX9_tableWithCell_X9_existingTable rfl (by decide +kernel) rfl ⟨Nat.le_of_ble_eq_true rfl, Nat.le_of_ble_eq_true rfl⟩ ⟨Nat.zero_le _, Nat.zero_le _⟩ rfl rfl [0, 1] rfl rfl (Nat.le_of_ble_eq_true rfl) rfl rfl dX9_tableWithCell_2 (fun H locs hW => ?_)
      refine lv_astore (lv' := [(4, .ref q_now_first), (0, .ref q), (1, .int p0), (2, .int p1), (3, .int p2)]) hx hb dX9_tableWithCell_5 hl (by decide) rfl (fun ls hl => ?_)
      refine lv_aload hx hb dX9_tableWithCell_7 (lv_at hl 0 rfl) ?_
      refine lv_iload_n hx hb dX9_tableWithCell_9 rfl (lv_at hl 3 rfl) ?_
      refine lv_iload_n hx hb dX9_tableWithCell_10 rfl (lv_at hl 4 rfl) ?_
      obtain ⟨v4, h5, hf⟩ := bd1_s hf
      refine k_callVR (b := q_now_first) (ci := 6) (qb := 0) (As := [.int p1, .int p2]) (n := 2) (rest := []) (st1 := [.int v4]) C hE hW hl.1 (kX7_has l D cI cZ cJ _ q_now_first q_now_first_numbers u_now_first_numbers p1 p2 v4 h5) gX9_tableWithCell_X7_has rfl (by decide +kernel) rfl ⟨Nat.le_of_ble_eq_true rfl, Nat.le_of_ble_eq_true rfl⟩ ⟨Nat.zero_le _, Nat.zero_le _⟩ rfl rfl [2, 3] rfl rfl (Nat.le_of_ble_eq_true rfl) rfl rfl dX9_tableWithCell_11 (fun H locs hW => ?_)
      refine lv_if_ne (tgt := 28) hx hb dX9_tableWithCell_14 (by decide) (fun hc => ?_) (fun hc => ?_)
      · replace hf := if_f hc hf
        refine lv_aload hx hb dX9_tableWithCell_28 (lv_at hl 0 rfl) ?_
        obtain rfl := Option.some.inj hf
        subst hO
        exact kx_aret C hlocks hr hW hQ dX9_tableWithCell_30
      · replace hf := if_t hc hf
        obtain rfl := Option.some.inj hf
        subst hO
        exact kx_throwW (k := 3) (text := "there is no such cell") C hlt hout hlocks hE hW hl.1 (by decide) (by decide +kernel) (hts (.classLink RX9 303 (kEx 3)) (by decide +kernel)) (hts (.initialized (kEx 3)) (by decide +kernel)) (kx_hat (k := 3) (by decide) C hE (by decide +kernel) kx_h307.1) kx_h307.2 dX9_tableWithCell_17 dX9_tableWithCell_20 dX9_tableWithCell_21 dX9_tableWithCell_24 dX9_tableWithCell_27 (Nat.le_of_ble_eq_true rfl) (Nat.le_of_ble_eq_true rfl) (Nat.le_of_ble_eq_true rfl) (Nat.le_of_ble_eq_true rfl) hQ
    | false =>
      replace hf := cd_f hf
      refine k_callVR (b := q) (ci := 8) (qb := 0) (As := [.int p0]) (n := 1) (rest := []) (st1 := [.ref q_now_second]) C hE hW hl.1 (kMetX.ret (kX9_existingTable l hlt D cI cZ cJ _ q q_now q_trial q_past q_text q_reader q_slot0 q_slot1 q_greatestPath q_fillingsOfShape q_now_first q_now_second p0 (.inr false) h2)) gX9_tableWithCell_X9_existingTable rfl (by decide +kernel) rfl ⟨Nat.le_of_ble_eq_true rfl, Nat.le_of_ble_eq_true rfl⟩ ⟨Nat.zero_le _, Nat.zero_le _⟩ rfl rfl [0, 1] rfl rfl (Nat.le_of_ble_eq_true rfl) rfl rfl dX9_tableWithCell_2 (fun H locs hW => ?_)
      refine lv_astore (lv' := [(4, .ref q_now_second), (0, .ref q), (1, .int p0), (2, .int p1), (3, .int p2)]) hx hb dX9_tableWithCell_5 hl (by decide) rfl (fun ls hl => ?_)
      refine lv_aload hx hb dX9_tableWithCell_7 (lv_at hl 0 rfl) ?_
      refine lv_iload_n hx hb dX9_tableWithCell_9 rfl (lv_at hl 3 rfl) ?_
      refine lv_iload_n hx hb dX9_tableWithCell_10 rfl (lv_at hl 4 rfl) ?_
      obtain ⟨v6, h7, hf⟩ := bd1_s hf
      refine k_callVR (b := q_now_second) (ci := 6) (qb := 0) (As := [.int p1, .int p2]) (n := 2) (rest := []) (st1 := [.int v6]) C hE hW hl.1 (kX7_has l D cI cZ cJ _ q_now_second q_now_second_numbers u_now_second_numbers p1 p2 v6 h7) gX9_tableWithCell_X7_has rfl (by decide +kernel) rfl ⟨Nat.le_of_ble_eq_true rfl, Nat.le_of_ble_eq_true rfl⟩ ⟨Nat.zero_le _, Nat.zero_le _⟩ rfl rfl [4, 5] rfl rfl (Nat.le_of_ble_eq_true rfl) rfl rfl dX9_tableWithCell_11 (fun H locs hW => ?_)
      refine lv_if_ne (tgt := 28) hx hb dX9_tableWithCell_14 (by decide) (fun hc => ?_) (fun hc => ?_)
      · replace hf := if_f hc hf
        refine lv_aload hx hb dX9_tableWithCell_28 (lv_at hl 0 rfl) ?_
        obtain rfl := Option.some.inj hf
        subst hO
        exact kx_aret C hlocks hr hW hQ dX9_tableWithCell_30
      · replace hf := if_t hc hf
        obtain rfl := Option.some.inj hf
        subst hO
        exact kx_throwW (k := 3) (text := "there is no such cell") C hlt hout hlocks hE hW hl.1 (by decide) (by decide +kernel) (hts (.classLink RX9 303 (kEx 3)) (by decide +kernel)) (hts (.initialized (kEx 3)) (by decide +kernel)) (kx_hat (k := 3) (by decide) C hE (by decide +kernel) kx_h307.1) kx_h307.2 dX9_tableWithCell_17 dX9_tableWithCell_20 dX9_tableWithCell_21 dX9_tableWithCell_24 dX9_tableWithCell_27 (Nat.le_of_ble_eq_true rfl) (Nat.le_of_ble_eq_true rfl) (Nat.le_of_ble_eq_true rfl) (Nat.le_of_ble_eq_true rfl) hQ

set_option maxHeartbeats 4000000 in
set_option maxRecDepth 100000 in
theorem kX9_cell (l : Launch) (hlt : l.stackTraces = false) (D : va_G) (cI cZ cJ : ClassId) (sz : Nat) (q q_now q_now_first q_now_first_numbers q_now_second q_now_second_numbers q_trial q_past q_text q_reader q_slot0 q_slot1 q_greatestPath q_fillingsOfShape : Nat) (u_now_first_numbers : Nat → Int32) (u_now_second_numbers : Nat → Int32) (p0 : Int32) (p1 : Int32) (p2 : Int32) (out : (Nat) ⊕ (Int32)) (hf : pX9_cell u_now_first_numbers u_now_second_numbers p0 p1 p2 = some out) : kMetX l D cI cZ cJ yX9_cell wsX9_cell 8 135 [.ref q, .int p0, .int p1, .int p2] [(q, .inr (8, [.ref q_now, .ref q_trial, .ref q_past, .ref q_text, .ref q_reader, .ref q_slot0, .ref q_slot1, .ref q_greatestPath, .ref q_fillingsOfShape])), (q_now, .inr (2, [.ref q_now_first, .ref q_now_second])), (q_now_first, .inr (6, [.ref q_now_first_numbers])), (q_now_first_numbers, .inl (cI, 36, .inl u_now_first_numbers)), (q_now_second, .inr (6, [.ref q_now_second_numbers])), (q_now_second_numbers, .inl (cI, 36, .inl u_now_second_numbers))] sz (kSel out (fun k =>  .inl (k, [(q, .inr (8, [.ref q_now, .ref q_trial, .ref q_past, .ref q_text, .ref q_reader, .ref q_slot0, .ref q_slot1, .ref q_greatestPath, .ref q_fillingsOfShape])), (q_now, .inr (2, [.ref q_now_first, .ref q_now_second])), (q_now_first, .inr (6, [.ref q_now_first_numbers])), (q_now_first_numbers, .inl (cI, 36, .inl u_now_first_numbers)), (q_now_second, .inr (6, [.ref q_now_second_numbers])), (q_now_second_numbers, .inl (cI, 36, .inl u_now_second_numbers))])) (fun r =>  .inr ((some (.int r)), [(q, .inr (8, [.ref q_now, .ref q_trial, .ref q_past, .ref q_text, .ref q_reader, .ref q_slot0, .ref q_slot1, .ref q_greatestPath, .ref q_fillingsOfShape])), (q_now, .inr (2, [.ref q_now_first, .ref q_now_second])), (q_now_first, .inr (6, [.ref q_now_first_numbers])), (q_now_first_numbers, .inl (cI, 36, .inl u_now_first_numbers)), (q_now_second, .inr (6, [.ref q_now_second_numbers])), (q_now_second_numbers, .inl (cI, 36, .inl u_now_second_numbers))]))) := by
  generalize hO : (kSel out (fun k =>  .inl (k, [(q, .inr (8, [.ref q_now, .ref q_trial, .ref q_past, .ref q_text, .ref q_reader, .ref q_slot0, .ref q_slot1, .ref q_greatestPath, .ref q_fillingsOfShape])), (q_now, .inr (2, [.ref q_now_first, .ref q_now_second])), (q_now_first, .inr (6, [.ref q_now_first_numbers])), (q_now_first_numbers, .inl (cI, 36, .inl u_now_first_numbers)), (q_now_second, .inr (6, [.ref q_now_second_numbers])), (q_now_second_numbers, .inl (cI, 36, .inl u_now_second_numbers))])) (fun r =>  .inr ((some (.int r)), [(q, .inr (8, [.ref q_now, .ref q_trial, .ref q_past, .ref q_text, .ref q_reader, .ref q_slot0, .ref q_slot1, .ref q_greatestPath, .ref q_fillingsOfShape])), (q_now, .inr (2, [.ref q_now_first, .ref q_now_second])), (q_now_first, .inr (6, [.ref q_now_first_numbers])), (q_now_first_numbers, .inl (cI, 36, .inl u_now_first_numbers)), (q_now_second, .inr (6, [.ref q_now_second_numbers])), (q_now_second_numbers, .inl (cI, 36, .inl u_now_second_numbers))]))) = o
  refine kX_of (cc := cX9_cell) (maxL := 4) (ret := (some .int)) (by decide) rfl (Nat.le_of_ble_eq_true rfl) ?_
  intro p e s m args below meth c A Q ls hQ C hout hlocks hr hE hW hl
  have hx := C.1
  have hb := C.2.1
  have hts := C.2.2.2.2
  have hl : lv_has ls 4 [(0, .ref q), (1, .int p0), (2, .int p1), (3, .int p2)] := hl
  unfold pX9_cell at hf
  refine lv_aload_n hx hb dX9_cell_0 rfl (lv_at hl 0 rfl) ?_
  refine lv_iload_n hx hb dX9_cell_1 rfl (lv_at hl 1 rfl) ?_
  refine lv_iload_n hx hb dX9_cell_2 rfl (lv_at hl 2 rfl) ?_
  refine lv_iload_n hx hb dX9_cell_3 rfl (lv_at hl 3 rfl) ?_
  rcases bdE_s hf with ⟨k3, h2, hf⟩ | ⟨b1, h2, hf⟩
  · obtain rfl := Option.some.inj hf
    subst hO
    exact kx_thrV (b := q) (ci := 8) (qb := 0) (As := [.int p0, .int p1, .int p2]) (n := 3) (rest := []) (wr := []) (ws' := [(q, .inr (8, [.ref q_now, .ref q_trial, .ref q_past, .ref q_text, .ref q_reader, .ref q_slot0, .ref q_slot1, .ref q_greatestPath, .ref q_fillingsOfShape])), (q_now, .inr (2, [.ref q_now_first, .ref q_now_second])), (q_now_first, .inr (6, [.ref q_now_first_numbers])), (q_now_first_numbers, .inl (cI, 36, .inl u_now_first_numbers)), (q_now_second, .inr (6, [.ref q_now_second_numbers])), (q_now_second_numbers, .inl (cI, 36, .inl u_now_second_numbers))]) C hout hlocks hE hW hl.1 (kX9_tableWithCell l hlt D cI cZ cJ _ q q_now q_now_first q_now_first_numbers q_now_second q_now_second_numbers q_trial q_past q_text q_reader q_slot0 q_slot1 q_greatestPath q_fillingsOfShape u_now_first_numbers u_now_second_numbers p0 p1 p2 (.inl k3) h2) gX9_cell_X9_tableWithCell rfl (by decide +kernel) rfl ⟨Nat.le_of_ble_eq_true rfl, Nat.le_of_ble_eq_true rfl⟩ ⟨Nat.le_of_ble_eq_true rfl, Nat.le_of_ble_eq_true rfl⟩ rfl rfl [0, 1, 2, 3, 4, 5] [] [0, 1, 2, 3, 4, 5] rfl rfl rfl rfl (by decide) rfl rfl (Nat.le_of_ble_eq_true rfl) rfl dX9_cell_4 hQ
  · cases b1 with
    | true =>
      replace hf := cd_t hf
      refine k_callVR (b := q) (ci := 8) (qb := 0) (As := [.int p0, .int p1, .int p2]) (n := 3) (rest := []) (st1 := [.ref q_now_first]) C hE hW hl.1 (kMetX.ret (kX9_tableWithCell l hlt D cI cZ cJ _ q q_now q_now_first q_now_first_numbers q_now_second q_now_second_numbers q_trial q_past q_text q_reader q_slot0 q_slot1 q_greatestPath q_fillingsOfShape u_now_first_numbers u_now_second_numbers p0 p1 p2 (.inr true) h2)) gX9_cell_X9_tableWithCell rfl (by decide +kernel) rfl ⟨Nat.le_of_ble_eq_true rfl, Nat.le_of_ble_eq_true rfl⟩ ⟨Nat.zero_le _, Nat.zero_le _⟩ rfl rfl [0, 1, 2, 3, 4, 5] rfl rfl (Nat.le_of_ble_eq_true rfl) rfl rfl dX9_cell_4 (fun H locs hW => ?_)
      refine lv_iload_n hx hb dX9_cell_7 rfl (lv_at hl 2 rfl) ?_
      refine lv_iload_n hx hb dX9_cell_8 rfl (lv_at hl 3 rfl) ?_
      obtain ⟨v4, h5, hf⟩ := bd1_s hf
      refine k_callVR (b := q_now_first) (ci := 6) (qb := 0) (As := [.int p1, .int p2]) (n := 2) (rest := []) (st1 := [.int v4]) C hE hW hl.1 (kX7_at l D cI cZ cJ _ q_now_first q_now_first_numbers u_now_first_numbers p1 p2 v4 h5) gX9_cell_X7_at rfl (by decide +kernel) rfl ⟨Nat.le_of_ble_eq_true rfl, Nat.le_of_ble_eq_true rfl⟩ ⟨Nat.zero_le _, Nat.zero_le _⟩ rfl rfl [2, 3] rfl rfl (Nat.le_of_ble_eq_true rfl) rfl rfl dX9_cell_9 (fun H locs hW => ?_)
      obtain rfl := Option.some.inj hf
      subst hO
      exact kx_iret C hlocks hr hW hQ dX9_cell_12
    | false =>
      replace hf := cd_f hf
      refine k_callVR (b := q) (ci := 8) (qb := 0) (As := [.int p0, .int p1, .int p2]) (n := 3) (rest := []) (st1 := [.ref q_now_second]) C hE hW hl.1 (kMetX.ret (kX9_tableWithCell l hlt D cI cZ cJ _ q q_now q_now_first q_now_first_numbers q_now_second q_now_second_numbers q_trial q_past q_text q_reader q_slot0 q_slot1 q_greatestPath q_fillingsOfShape u_now_first_numbers u_now_second_numbers p0 p1 p2 (.inr false) h2)) gX9_cell_X9_tableWithCell rfl (by decide +kernel) rfl ⟨Nat.le_of_ble_eq_true rfl, Nat.le_of_ble_eq_true rfl⟩ ⟨Nat.zero_le _, Nat.zero_le _⟩ rfl rfl [0, 1, 2, 3, 4, 5] rfl rfl (Nat.le_of_ble_eq_true rfl) rfl rfl dX9_cell_4 (fun H locs hW => ?_)
      refine lv_iload_n hx hb dX9_cell_7 rfl (lv_at hl 2 rfl) ?_
      refine lv_iload_n hx hb dX9_cell_8 rfl (lv_at hl 3 rfl) ?_
      obtain ⟨v6, h7, hf⟩ := bd1_s hf
      refine k_callVR (b := q_now_second) (ci := 6) (qb := 0) (As := [.int p1, .int p2]) (n := 2) (rest := []) (st1 := [.int v6]) C hE hW hl.1 (kX7_at l D cI cZ cJ _ q_now_second q_now_second_numbers u_now_second_numbers p1 p2 v6 h7) gX9_cell_X7_at rfl (by decide +kernel) rfl ⟨Nat.le_of_ble_eq_true rfl, Nat.le_of_ble_eq_true rfl⟩ ⟨Nat.zero_le _, Nat.zero_le _⟩ rfl rfl [4, 5] rfl rfl (Nat.le_of_ble_eq_true rfl) rfl rfl dX9_cell_9 (fun H locs hW => ?_)
      obtain rfl := Option.some.inj hf
      subst hO
      exact kx_iret C hlocks hr hW hQ dX9_cell_12

set_option maxHeartbeats 4000000 in
set_option maxRecDepth 100000 in
theorem kX9_size (l : Launch) (hlt : l.stackTraces = false) (D : va_G) (cI cZ cJ : ClassId) (sz : Nat) (q q_now q_now_first q_now_first_numbers q_now_second q_now_second_numbers q_trial q_past q_text q_reader q_slot0 q_slot1 q_greatestPath q_fillingsOfShape : Nat) (u_now_first_numbers : Nat → Int32) (u_now_second_numbers : Nat → Int32) (p0 : Int32) (p1 : Int32) (p2 : Int32) (out : (Nat) ⊕ (Int32)) (hf : pX9_size u_now_first_numbers u_now_second_numbers p0 p1 p2 = some out) : kMetX l D cI cZ cJ yX9_size wsX9_size 7 112 [.ref q, .int p0, .int p1, .int p2] [(q, .inr (8, [.ref q_now, .ref q_trial, .ref q_past, .ref q_text, .ref q_reader, .ref q_slot0, .ref q_slot1, .ref q_greatestPath, .ref q_fillingsOfShape])), (q_now, .inr (2, [.ref q_now_first, .ref q_now_second])), (q_now_first, .inr (6, [.ref q_now_first_numbers])), (q_now_first_numbers, .inl (cI, 36, .inl u_now_first_numbers)), (q_now_second, .inr (6, [.ref q_now_second_numbers])), (q_now_second_numbers, .inl (cI, 36, .inl u_now_second_numbers))] sz (kSel out (fun k =>  .inl (k, [(q, .inr (8, [.ref q_now, .ref q_trial, .ref q_past, .ref q_text, .ref q_reader, .ref q_slot0, .ref q_slot1, .ref q_greatestPath, .ref q_fillingsOfShape])), (q_now, .inr (2, [.ref q_now_first, .ref q_now_second])), (q_now_first, .inr (6, [.ref q_now_first_numbers])), (q_now_first_numbers, .inl (cI, 36, .inl u_now_first_numbers)), (q_now_second, .inr (6, [.ref q_now_second_numbers])), (q_now_second_numbers, .inl (cI, 36, .inl u_now_second_numbers))])) (fun r =>  .inr ((some (.int r)), [(q, .inr (8, [.ref q_now, .ref q_trial, .ref q_past, .ref q_text, .ref q_reader, .ref q_slot0, .ref q_slot1, .ref q_greatestPath, .ref q_fillingsOfShape])), (q_now, .inr (2, [.ref q_now_first, .ref q_now_second])), (q_now_first, .inr (6, [.ref q_now_first_numbers])), (q_now_first_numbers, .inl (cI, 36, .inl u_now_first_numbers)), (q_now_second, .inr (6, [.ref q_now_second_numbers])), (q_now_second_numbers, .inl (cI, 36, .inl u_now_second_numbers))]))) := by
  generalize hO : (kSel out (fun k =>  .inl (k, [(q, .inr (8, [.ref q_now, .ref q_trial, .ref q_past, .ref q_text, .ref q_reader, .ref q_slot0, .ref q_slot1, .ref q_greatestPath, .ref q_fillingsOfShape])), (q_now, .inr (2, [.ref q_now_first, .ref q_now_second])), (q_now_first, .inr (6, [.ref q_now_first_numbers])), (q_now_first_numbers, .inl (cI, 36, .inl u_now_first_numbers)), (q_now_second, .inr (6, [.ref q_now_second_numbers])), (q_now_second_numbers, .inl (cI, 36, .inl u_now_second_numbers))])) (fun r =>  .inr ((some (.int r)), [(q, .inr (8, [.ref q_now, .ref q_trial, .ref q_past, .ref q_text, .ref q_reader, .ref q_slot0, .ref q_slot1, .ref q_greatestPath, .ref q_fillingsOfShape])), (q_now, .inr (2, [.ref q_now_first, .ref q_now_second])), (q_now_first, .inr (6, [.ref q_now_first_numbers])), (q_now_first_numbers, .inl (cI, 36, .inl u_now_first_numbers)), (q_now_second, .inr (6, [.ref q_now_second_numbers])), (q_now_second_numbers, .inl (cI, 36, .inl u_now_second_numbers))]))) = o
  refine kX_of (cc := cX9_size) (maxL := 5) (ret := (some .int)) (by decide) rfl (Nat.le_of_ble_eq_true rfl) ?_
  intro p e s m args below meth c A Q ls hQ C hout hlocks hr hE hW hl
  have hx := C.1
  have hb := C.2.1
  have hts := C.2.2.2.2
  have hl : lv_has ls 5 [(0, .ref q), (1, .int p0), (2, .int p1), (3, .int p2)] := hl
  unfold pX9_size at hf
  refine lv_aload_n hx hb dX9_size_0 rfl (lv_at hl 0 rfl) ?_
  refine lv_iload_n hx hb dX9_size_1 rfl (lv_at hl 1 rfl) ?_
  rcases bdE_s hf with ⟨k3, h2, hf⟩ | ⟨b1, h2, hf⟩
  · obtain rfl := Option.some.inj hf
    subst hO
    exact kx_thrV (b := q) (ci := 8) (qb := 0) (As := [.int p0]) (n := 1) (rest := []) (wr := [(q_now_first, .inr (6, [.ref q_now_first_numbers])), (q_now_first_numbers, .inl (cI, 36, .inl u_now_first_numbers)), (q_now_second, .inr (6, [.ref q_now_second_numbers])), (q_now_second_numbers, .inl (cI, 36, .inl u_now_second_numbers))]) (ws' := [(q, .inr (8, [.ref q_now, .ref q_trial, .ref q_past, .ref q_text, .ref q_reader, .ref q_slot0, .ref q_slot1, .ref q_greatestPath, .ref q_fillingsOfShape])), (q_now, .inr (2, [.ref q_now_first, .ref q_now_second])), (q_now_first, .inr (6, [.ref q_now_first_numbers])), (q_now_first_numbers, .inl (cI, 36, .inl u_now_first_numbers)), (q_now_second, .inr (6, [.ref q_now_second_numbers])), (q_now_second_numbers, .inl (cI, 36, .inl u_now_second_numbers))]) C hout hlocks hE hW hl.1 (kX9_existingTable l hlt D cI cZ cJ _ q q_now q_trial q_past q_text q_reader q_slot0 q_slot1 q_greatestPath q_fillingsOfShape q_now_first q_now_second p0 (.inl k3) h2) gX9_size_X9_existingTable rfl (by decide +kernel) rfl ⟨Nat.le_of_ble_eq_true rfl, Nat.le_of_ble_eq_true rfl⟩ ⟨Nat.le_of_ble_eq_true rfl, Nat.le_of_ble_eq_true rfl⟩ rfl rfl [0, 1] [2, 3, 4, 5] [4, 5, 0, 1, 2, 3] rfl rfl rfl rfl (by decide) rfl rfl (Nat.le_of_ble_eq_true rfl) rfl dX9_size_2 hQ
  · cases b1 with
    | true =>
      replace hf := cd_t hf
      refine k_callVR (b := q) (ci := 8) (qb := 0) (As := [.int p0]) (n := 1) (rest := []) (st1 := [.ref q_now_first]) C hE hW hl.1 (kMetX.ret (kX9_existingTable l hlt D cI cZ cJ _ q q_now q_trial q_past q_text q_reader q_slot0 q_slot1 q_greatestPath q_fillingsOfShape q_now_first q_now_second p0 (.inr true) h2)) gX9_size_X9_existingTable rfl (by decide +kernel) rfl ⟨Nat.le_of_ble_eq_true rfl, Nat.le_of_ble_eq_true rfl⟩ ⟨Nat.zero_le _, Nat.zero_le _⟩ rfl rfl [0, 1] rfl rfl (Nat.le_of_ble_eq_true rfl) rfl rfl dX9_size_2 (fun H locs hW => ?_)
      refine lv_astore (lv' := [(4, .ref q_now_first), (0, .ref q), (1, .int p0), (2, .int p1), (3, .int p2)]) hx hb dX9_size_5 hl (by decide) rfl (fun ls hl => ?_)
      refine lv_iload_n hx hb dX9_size_7 rfl (lv_at hl 3 rfl) ?_
      refine lv_iconst (v := 0) hx hb dX9_size_8 (by decide) ?_
      refine lv_iconst (v := 5) hx hb dX9_size_9 (by decide) ?_
      rcases bdE_s hf with ⟨k5, h4, hf⟩ | ⟨_, h4, hf⟩
      · obtain rfl := Option.some.inj hf
        subst hO
        exact kx_thrS (As := [.int p1, .int 0, .int 5]) (n := 3) (rest := []) (wr := [(q, .inr (8, [.ref q_now, .ref q_trial, .ref q_past, .ref q_text, .ref q_reader, .ref q_slot0, .ref q_slot1, .ref q_greatestPath, .ref q_fillingsOfShape])), (q_now, .inr (2, [.ref q_now_first, .ref q_now_second])), (q_now_first, .inr (6, [.ref q_now_first_numbers])), (q_now_first_numbers, .inl (cI, 36, .inl u_now_first_numbers)), (q_now_second, .inr (6, [.ref q_now_second_numbers])), (q_now_second_numbers, .inl (cI, 36, .inl u_now_second_numbers))]) (ws' := [(q, .inr (8, [.ref q_now, .ref q_trial, .ref q_past, .ref q_text, .ref q_reader, .ref q_slot0, .ref q_slot1, .ref q_greatestPath, .ref q_fillingsOfShape])), (q_now, .inr (2, [.ref q_now_first, .ref q_now_second])), (q_now_first, .inr (6, [.ref q_now_first_numbers])), (q_now_first_numbers, .inl (cI, 36, .inl u_now_first_numbers)), (q_now_second, .inr (6, [.ref q_now_second_numbers])), (q_now_second_numbers, .inl (cI, 36, .inl u_now_second_numbers))]) C hout hlocks hE hW hl.1 (kX9_requireRange l hlt D cI cZ cJ _ p1 0 5 (.inl k5) h4) gX9_size_X9_requireRange rfl (by decide +kernel) rfl ⟨Nat.le_of_ble_eq_true rfl, Nat.le_of_ble_eq_true rfl⟩ ⟨Nat.le_of_ble_eq_true rfl, Nat.le_of_ble_eq_true rfl⟩ [] [0, 1, 2, 3, 4, 5] [0, 1, 2, 3, 4, 5] rfl rfl rfl rfl (by decide) rfl rfl (Nat.le_of_ble_eq_true rfl) rfl dX9_size_10 hQ
      · refine k_callSR (As := [.int p1, .int 0, .int 5]) (n := 3) (rest := []) (st1 := []) C hE hW hl.1 (kMetX.ret (kX9_requireRange l hlt D cI cZ cJ _ p1 0 5 (.inr ()) h4)) gX9_size_X9_requireRange rfl (by decide +kernel) rfl ⟨Nat.le_of_ble_eq_true rfl, Nat.le_of_ble_eq_true rfl⟩ ⟨Nat.zero_le _, Nat.zero_le _⟩ [] rfl rfl (Nat.le_of_ble_eq_true rfl) rfl rfl dX9_size_10 (fun H locs hW => ?_)
        refine lv_iload_n hx hb dX9_size_13 rfl (lv_at hl 4 rfl) ?_
        refine lv_if_eq (tgt := 26) hx hb dX9_size_14 (by decide) (fun hc => ?_) (fun hc => ?_)
        · replace hf := if_t hc hf
          refine lv_aload hx hb dX9_size_26 (lv_at hl 0 rfl) ?_
          refine lv_iload_n hx hb dX9_size_28 rfl (lv_at hl 3 rfl) ?_
          obtain ⟨v6, h7, hf⟩ := bd1_s hf
          refine k_callVR (b := q_now_first) (ci := 6) (qb := 0) (As := [.int p1]) (n := 1) (rest := []) (st1 := [.int v6]) C hE hW hl.1 (kX7_rowLength l D cI cZ cJ _ q_now_first q_now_first_numbers u_now_first_numbers p1 v6 h7) gX9_size_X7_rowLength rfl (by decide +kernel) rfl ⟨Nat.le_of_ble_eq_true rfl, Nat.le_of_ble_eq_true rfl⟩ ⟨Nat.zero_le _, Nat.zero_le _⟩ rfl rfl [2, 3] rfl rfl (Nat.le_of_ble_eq_true rfl) rfl rfl dX9_size_29 (fun H locs hW => ?_)
          obtain rfl := Option.some.inj hf
          subst hO
          exact kx_iret C hlocks hr hW hQ dX9_size_32
        · replace hf := if_f hc hf
          refine lv_aload hx hb dX9_size_17 (lv_at hl 0 rfl) ?_
          refine lv_iload_n hx hb dX9_size_19 rfl (lv_at hl 3 rfl) ?_
          obtain ⟨v8, h9, hf⟩ := bd1_s hf
          refine k_callVR (b := q_now_first) (ci := 6) (qb := 0) (As := [.int p1]) (n := 1) (rest := []) (st1 := [.int v8]) C hE hW hl.1 (kX7_columnLength l D cI cZ cJ _ q_now_first q_now_first_numbers u_now_first_numbers p1 v8 h9) gX9_size_X7_columnLength rfl (by decide +kernel) rfl ⟨Nat.le_of_ble_eq_true rfl, Nat.le_of_ble_eq_true rfl⟩ ⟨Nat.zero_le _, Nat.zero_le _⟩ rfl rfl [2, 3] rfl rfl (Nat.le_of_ble_eq_true rfl) rfl rfl dX9_size_20 (fun H locs hW => ?_)
          refine lv_goto (tgt := 32) hx hb dX9_size_23 (by decide) ?_
          obtain rfl := Option.some.inj hf
          subst hO
          exact kx_iret C hlocks hr hW hQ dX9_size_32
    | false =>
      replace hf := cd_f hf
      refine k_callVR (b := q) (ci := 8) (qb := 0) (As := [.int p0]) (n := 1) (rest := []) (st1 := [.ref q_now_second]) C hE hW hl.1 (kMetX.ret (kX9_existingTable l hlt D cI cZ cJ _ q q_now q_trial q_past q_text q_reader q_slot0 q_slot1 q_greatestPath q_fillingsOfShape q_now_first q_now_second p0 (.inr false) h2)) gX9_size_X9_existingTable rfl (by decide +kernel) rfl ⟨Nat.le_of_ble_eq_true rfl, Nat.le_of_ble_eq_true rfl⟩ ⟨Nat.zero_le _, Nat.zero_le _⟩ rfl rfl [0, 1] rfl rfl (Nat.le_of_ble_eq_true rfl) rfl rfl dX9_size_2 (fun H locs hW => ?_)
      refine lv_astore (lv' := [(4, .ref q_now_second), (0, .ref q), (1, .int p0), (2, .int p1), (3, .int p2)]) hx hb dX9_size_5 hl (by decide) rfl (fun ls hl => ?_)
      refine lv_iload_n hx hb dX9_size_7 rfl (lv_at hl 3 rfl) ?_
      refine lv_iconst (v := 0) hx hb dX9_size_8 (by decide) ?_
      refine lv_iconst (v := 5) hx hb dX9_size_9 (by decide) ?_
      rcases bdE_s hf with ⟨k11, h10, hf⟩ | ⟨_, h10, hf⟩
      · obtain rfl := Option.some.inj hf
        subst hO
        exact kx_thrS (As := [.int p1, .int 0, .int 5]) (n := 3) (rest := []) (wr := [(q, .inr (8, [.ref q_now, .ref q_trial, .ref q_past, .ref q_text, .ref q_reader, .ref q_slot0, .ref q_slot1, .ref q_greatestPath, .ref q_fillingsOfShape])), (q_now, .inr (2, [.ref q_now_first, .ref q_now_second])), (q_now_first, .inr (6, [.ref q_now_first_numbers])), (q_now_first_numbers, .inl (cI, 36, .inl u_now_first_numbers)), (q_now_second, .inr (6, [.ref q_now_second_numbers])), (q_now_second_numbers, .inl (cI, 36, .inl u_now_second_numbers))]) (ws' := [(q, .inr (8, [.ref q_now, .ref q_trial, .ref q_past, .ref q_text, .ref q_reader, .ref q_slot0, .ref q_slot1, .ref q_greatestPath, .ref q_fillingsOfShape])), (q_now, .inr (2, [.ref q_now_first, .ref q_now_second])), (q_now_first, .inr (6, [.ref q_now_first_numbers])), (q_now_first_numbers, .inl (cI, 36, .inl u_now_first_numbers)), (q_now_second, .inr (6, [.ref q_now_second_numbers])), (q_now_second_numbers, .inl (cI, 36, .inl u_now_second_numbers))]) C hout hlocks hE hW hl.1 (kX9_requireRange l hlt D cI cZ cJ _ p1 0 5 (.inl k11) h10) gX9_size_X9_requireRange rfl (by decide +kernel) rfl ⟨Nat.le_of_ble_eq_true rfl, Nat.le_of_ble_eq_true rfl⟩ ⟨Nat.le_of_ble_eq_true rfl, Nat.le_of_ble_eq_true rfl⟩ [] [0, 1, 2, 3, 4, 5] [0, 1, 2, 3, 4, 5] rfl rfl rfl rfl (by decide) rfl rfl (Nat.le_of_ble_eq_true rfl) rfl dX9_size_10 hQ
      · refine k_callSR (As := [.int p1, .int 0, .int 5]) (n := 3) (rest := []) (st1 := []) C hE hW hl.1 (kMetX.ret (kX9_requireRange l hlt D cI cZ cJ _ p1 0 5 (.inr ()) h10)) gX9_size_X9_requireRange rfl (by decide +kernel) rfl ⟨Nat.le_of_ble_eq_true rfl, Nat.le_of_ble_eq_true rfl⟩ ⟨Nat.zero_le _, Nat.zero_le _⟩ [] rfl rfl (Nat.le_of_ble_eq_true rfl) rfl rfl dX9_size_10 (fun H locs hW => ?_)
        refine lv_iload_n hx hb dX9_size_13 rfl (lv_at hl 4 rfl) ?_
        refine lv_if_eq (tgt := 26) hx hb dX9_size_14 (by decide) (fun hc => ?_) (fun hc => ?_)
        · replace hf := if_t hc hf
          refine lv_aload hx hb dX9_size_26 (lv_at hl 0 rfl) ?_
          refine lv_iload_n hx hb dX9_size_28 rfl (lv_at hl 3 rfl) ?_
          obtain ⟨v12, h13, hf⟩ := bd1_s hf
          refine k_callVR (b := q_now_second) (ci := 6) (qb := 0) (As := [.int p1]) (n := 1) (rest := []) (st1 := [.int v12]) C hE hW hl.1 (kX7_rowLength l D cI cZ cJ _ q_now_second q_now_second_numbers u_now_second_numbers p1 v12 h13) gX9_size_X7_rowLength rfl (by decide +kernel) rfl ⟨Nat.le_of_ble_eq_true rfl, Nat.le_of_ble_eq_true rfl⟩ ⟨Nat.zero_le _, Nat.zero_le _⟩ rfl rfl [4, 5] rfl rfl (Nat.le_of_ble_eq_true rfl) rfl rfl dX9_size_29 (fun H locs hW => ?_)
          obtain rfl := Option.some.inj hf
          subst hO
          exact kx_iret C hlocks hr hW hQ dX9_size_32
        · replace hf := if_f hc hf
          refine lv_aload hx hb dX9_size_17 (lv_at hl 0 rfl) ?_
          refine lv_iload_n hx hb dX9_size_19 rfl (lv_at hl 3 rfl) ?_
          obtain ⟨v14, h15, hf⟩ := bd1_s hf
          refine k_callVR (b := q_now_second) (ci := 6) (qb := 0) (As := [.int p1]) (n := 1) (rest := []) (st1 := [.int v14]) C hE hW hl.1 (kX7_columnLength l D cI cZ cJ _ q_now_second q_now_second_numbers u_now_second_numbers p1 v14 h15) gX9_size_X7_columnLength rfl (by decide +kernel) rfl ⟨Nat.le_of_ble_eq_true rfl, Nat.le_of_ble_eq_true rfl⟩ ⟨Nat.zero_le _, Nat.zero_le _⟩ rfl rfl [4, 5] rfl rfl (Nat.le_of_ble_eq_true rfl) rfl rfl dX9_size_20 (fun H locs hW => ?_)
          refine lv_goto (tgt := 32) hx hb dX9_size_23 (by decide) ?_
          obtain rfl := Option.some.inj hf
          subst hO
          exact kx_iret C hlocks hr hW hQ dX9_size_32

set_option maxHeartbeats 4000000 in
set_option maxRecDepth 100000 in
theorem kX9_requireGap (l : Launch) (hlt : l.stackTraces = false) (D : va_G) (cI cZ cJ : ClassId) (sz : Nat) (r0 r0_numbers : Nat) (u0_numbers : Nat → Int32) (out : (Nat) ⊕ (Unit)) (hf : pX9_requireGap u0_numbers = some out) : kMetX l D cI cZ cJ yX9_requireGap wsX9_requireGap 6 90 [.ref r0] [(r0, .inr (6, [.ref r0_numbers])), (r0_numbers, .inl (cI, 36, .inl u0_numbers))] sz (kSel out (fun k =>  .inl (k, [(r0, .inr (6, [.ref r0_numbers])), (r0_numbers, .inl (cI, 36, .inl u0_numbers))])) (fun _ =>  .inr (none, [(r0, .inr (6, [.ref r0_numbers])), (r0_numbers, .inl (cI, 36, .inl u0_numbers))]))) := by
  generalize hO : (kSel out (fun k =>  .inl (k, [(r0, .inr (6, [.ref r0_numbers])), (r0_numbers, .inl (cI, 36, .inl u0_numbers))])) (fun _ =>  .inr (none, [(r0, .inr (6, [.ref r0_numbers])), (r0_numbers, .inl (cI, 36, .inl u0_numbers))]))) = o
  refine kX_of (cc := cX9_requireGap) (maxL := 1) (ret := none) (by decide) rfl (Nat.le_of_ble_eq_true rfl) ?_
  intro p e s m args below meth c A Q ls hQ C hout hlocks hr hE hW hl
  have hx := C.1
  have hb := C.2.1
  have hts := C.2.2.2.2
  have hl : lv_has ls 1 [(0, .ref r0)] := hl
  unfold pX9_requireGap at hf
  refine lv_aload_n hx hb dX9_requireGap_0 rfl (lv_at hl 0 rfl) ?_
  obtain ⟨v1, h2, hf⟩ := bd1_s hf
  refine k_callVR (b := r0) (ci := 6) (qb := 0) (As := []) (n := 0) (rest := []) (st1 := [.int v1]) C hE hW hl.1 (kX7_isFull l D cI cZ cJ _ r0 r0_numbers u0_numbers v1 h2) gX9_requireGap_X7_isFull rfl (by decide +kernel) rfl ⟨Nat.le_of_ble_eq_true rfl, Nat.le_of_ble_eq_true rfl⟩ ⟨Nat.zero_le _, Nat.zero_le _⟩ rfl rfl [0, 1] rfl rfl (Nat.le_of_ble_eq_true rfl) rfl rfl dX9_requireGap_1 (fun H locs hW => ?_)
  refine lv_if_eq (tgt := 18) hx hb dX9_requireGap_4 (by decide) (fun hc => ?_) (fun hc => ?_)
  · replace hf := if_t hc hf
    obtain rfl := Option.some.inj hf
    subst hO
    exact kx_vret C hlocks hr hW hQ dX9_requireGap_18
  · replace hf := if_f hc hf
    obtain rfl := Option.some.inj hf
    subst hO
    exact kx_throwW (k := 2) (text := "the table has no gap") C hlt hout hlocks hE hW hl.1 (by decide) (by decide +kernel) (hts (.classLink RX9 72 (kEx 2)) (by decide +kernel)) (hts (.initialized (kEx 2)) (by decide +kernel)) (kx_hat (k := 2) (by decide) C hE (by decide +kernel) kx_h76.1) kx_h76.2 dX9_requireGap_7 dX9_requireGap_10 dX9_requireGap_11 dX9_requireGap_14 dX9_requireGap_17 (Nat.le_of_ble_eq_true rfl) (Nat.le_of_ble_eq_true rfl) (Nat.le_of_ble_eq_true rfl) (Nat.le_of_ble_eq_true rfl) hQ

set_option maxHeartbeats 4000000 in
set_option maxRecDepth 100000 in
theorem kX9_insert (l : Launch) (hlt : l.stackTraces = false) (D : va_G) (cI cZ cJ : ClassId) (sz : Nat) (q q_now q_now_first q_now_first_numbers q_now_second q_now_second_numbers q_past q_past_numbers q_trial q_text q_reader q_slot0 q_slot1 q_greatestPath q_fillingsOfShape : Nat) (u_now_first_numbers : Nat → Int32) (u_now_second_numbers : Nat → Int32) (u_past_oldest : Int32) (u_past_remembered : Int32) (u_past_numbers : Nat → Int32) (p0 : Int32) (p1 : Int32) (out : (Nat × (Nat → Int32) × (Nat → Int32) × Int32 × Int32 × (Nat → Int32)) ⊕ (Int32 × (Nat → Int32) × (Nat → Int32) × Int32 × Int32 × (Nat → Int32))) (hf : pX9_insert u_now_first_numbers u_now_second_numbers u_past_oldest u_past_remembered u_past_numbers p0 p1 = some out) : kMetX l D cI cZ cJ yX9_insert wsX9_insert 7 112 [.ref q, .int p0, .int p1] [(q, .inr (8, [.ref q_now, .ref q_trial, .ref q_past, .ref q_text, .ref q_reader, .ref q_slot0, .ref q_slot1, .ref q_greatestPath, .ref q_fillingsOfShape])), (q_now, .inr (2, [.ref q_now_first, .ref q_now_second])), (q_now_first, .inr (6, [.ref q_now_first_numbers])), (q_now_first_numbers, .inl (cI, 36, .inl u_now_first_numbers)), (q_now_second, .inr (6, [.ref q_now_second_numbers])), (q_now_second_numbers, .inl (cI, 36, .inl u_now_second_numbers)), (q_past, .inr (3, [.ref q_past_numbers, .int u_past_oldest, .int u_past_remembered])), (q_past_numbers, .inl (cI, 1008, .inl u_past_numbers))] sz (kSel out (un6 (fun k u_now_first_numbers' u_now_second_numbers' u_past_oldest' u_past_remembered' u_past_numbers' =>  .inl (k, [(q, .inr (8, [.ref q_now, .ref q_trial, .ref q_past, .ref q_text, .ref q_reader, .ref q_slot0, .ref q_slot1, .ref q_greatestPath, .ref q_fillingsOfShape])), (q_now, .inr (2, [.ref q_now_first, .ref q_now_second])), (q_now_first, .inr (6, [.ref q_now_first_numbers])), (q_now_first_numbers, .inl (cI, 36, .inl u_now_first_numbers')), (q_now_second, .inr (6, [.ref q_now_second_numbers])), (q_now_second_numbers, .inl (cI, 36, .inl u_now_second_numbers')), (q_past, .inr (3, [.ref q_past_numbers, .int u_past_oldest', .int u_past_remembered'])), (q_past_numbers, .inl (cI, 1008, .inl u_past_numbers'))]))) (un6 (fun r u_now_first_numbers' u_now_second_numbers' u_past_oldest' u_past_remembered' u_past_numbers' =>  .inr ((some (.int r)), [(q, .inr (8, [.ref q_now, .ref q_trial, .ref q_past, .ref q_text, .ref q_reader, .ref q_slot0, .ref q_slot1, .ref q_greatestPath, .ref q_fillingsOfShape])), (q_now, .inr (2, [.ref q_now_first, .ref q_now_second])), (q_now_first, .inr (6, [.ref q_now_first_numbers])), (q_now_first_numbers, .inl (cI, 36, .inl u_now_first_numbers')), (q_now_second, .inr (6, [.ref q_now_second_numbers])), (q_now_second_numbers, .inl (cI, 36, .inl u_now_second_numbers')), (q_past, .inr (3, [.ref q_past_numbers, .int u_past_oldest', .int u_past_remembered'])), (q_past_numbers, .inl (cI, 1008, .inl u_past_numbers'))])))) := by
  generalize hO : (kSel out (un6 (fun k u_now_first_numbers' u_now_second_numbers' u_past_oldest' u_past_remembered' u_past_numbers' =>  .inl (k, [(q, .inr (8, [.ref q_now, .ref q_trial, .ref q_past, .ref q_text, .ref q_reader, .ref q_slot0, .ref q_slot1, .ref q_greatestPath, .ref q_fillingsOfShape])), (q_now, .inr (2, [.ref q_now_first, .ref q_now_second])), (q_now_first, .inr (6, [.ref q_now_first_numbers])), (q_now_first_numbers, .inl (cI, 36, .inl u_now_first_numbers')), (q_now_second, .inr (6, [.ref q_now_second_numbers])), (q_now_second_numbers, .inl (cI, 36, .inl u_now_second_numbers')), (q_past, .inr (3, [.ref q_past_numbers, .int u_past_oldest', .int u_past_remembered'])), (q_past_numbers, .inl (cI, 1008, .inl u_past_numbers'))]))) (un6 (fun r u_now_first_numbers' u_now_second_numbers' u_past_oldest' u_past_remembered' u_past_numbers' =>  .inr ((some (.int r)), [(q, .inr (8, [.ref q_now, .ref q_trial, .ref q_past, .ref q_text, .ref q_reader, .ref q_slot0, .ref q_slot1, .ref q_greatestPath, .ref q_fillingsOfShape])), (q_now, .inr (2, [.ref q_now_first, .ref q_now_second])), (q_now_first, .inr (6, [.ref q_now_first_numbers])), (q_now_first_numbers, .inl (cI, 36, .inl u_now_first_numbers')), (q_now_second, .inr (6, [.ref q_now_second_numbers])), (q_now_second_numbers, .inl (cI, 36, .inl u_now_second_numbers')), (q_past, .inr (3, [.ref q_past_numbers, .int u_past_oldest', .int u_past_remembered'])), (q_past_numbers, .inl (cI, 1008, .inl u_past_numbers'))])))) = o
  refine kX_of (cc := cX9_insert) (maxL := 4) (ret := (some .int)) (by decide) rfl (Nat.le_of_ble_eq_true rfl) ?_
  intro p e s m args below meth c A Q ls hQ C hout hlocks hr hE hW hl
  have hx := C.1
  have hb := C.2.1
  have hts := C.2.2.2.2
  have hl : lv_has ls 4 [(0, .ref q), (1, .int p0), (2, .int p1)] := hl
  have iX9 : ∀ w ∈ u_ws RX9 TX9 9, w ∈ wsX9_insert := by decide +kernel
  have f12 := hts (.fieldLink RX9 12 "SortedTables" "now" "LSortedTables$Pair;") (by decide +kernel)
  have f22 := hts (.fieldLink RX9 22 "SortedTables" "past" "LSortedTables$Past;") (by decide +kernel)
  unfold pX9_insert at hf
  refine lv_aload_n hx hb dX9_insert_0 rfl (lv_at hl 0 rfl) ?_
  refine lv_iload_n hx hb dX9_insert_1 rfl (lv_at hl 1 rfl) ?_
  rcases bdE_s hf with ⟨k3, h2, hf⟩ | ⟨b1, h2, hf⟩
  · obtain rfl := Option.some.inj hf
    subst hO
    exact kx_thrV (b := q) (ci := 8) (qb := 0) (As := [.int p0]) (n := 1) (rest := []) (wr := [(q_now_first, .inr (6, [.ref q_now_first_numbers])), (q_now_first_numbers, .inl (cI, 36, .inl u_now_first_numbers)), (q_now_second, .inr (6, [.ref q_now_second_numbers])), (q_now_second_numbers, .inl (cI, 36, .inl u_now_second_numbers)), (q_past, .inr (3, [.ref q_past_numbers, .int u_past_oldest, .int u_past_remembered])), (q_past_numbers, .inl (cI, 1008, .inl u_past_numbers))]) (ws' := [(q, .inr (8, [.ref q_now, .ref q_trial, .ref q_past, .ref q_text, .ref q_reader, .ref q_slot0, .ref q_slot1, .ref q_greatestPath, .ref q_fillingsOfShape])), (q_now, .inr (2, [.ref q_now_first, .ref q_now_second])), (q_now_first, .inr (6, [.ref q_now_first_numbers])), (q_now_first_numbers, .inl (cI, 36, .inl u_now_first_numbers)), (q_now_second, .inr (6, [.ref q_now_second_numbers])), (q_now_second_numbers, .inl (cI, 36, .inl u_now_second_numbers)), (q_past, .inr (3, [.ref q_past_numbers, .int u_past_oldest, .int u_past_remembered])), (q_past_numbers, .inl (cI, 1008, .inl u_past_numbers))]) C hout hlocks hE hW hl.1 (kX9_existingTable l hlt D cI cZ cJ _ q q_now q_trial q_past q_text q_reader q_slot0 q_slot1 q_greatestPath q_fillingsOfShape q_now_first q_now_second p0 (.inl k3) h2) gX9_insert_X9_existingTable rfl (by decide +kernel) rfl ⟨Nat.le_of_ble_eq_true rfl, Nat.le_of_ble_eq_true rfl⟩ ⟨Nat.le_of_ble_eq_true rfl, Nat.le_of_ble_eq_true rfl⟩ rfl rfl [0, 1] [2, 3, 4, 5, 6, 7] [6, 7, 0, 1, 2, 3, 4, 5] rfl rfl rfl rfl (by decide) rfl rfl (Nat.le_of_ble_eq_true rfl) rfl dX9_insert_2 hQ
  · cases b1 with
    | true =>
      replace hf := cd_t hf
      refine k_callVR (b := q) (ci := 8) (qb := 0) (As := [.int p0]) (n := 1) (rest := []) (st1 := [.ref q_now_first]) C hE hW hl.1 (kMetX.ret (kX9_existingTable l hlt D cI cZ cJ _ q q_now q_trial q_past q_text q_reader q_slot0 q_slot1 q_greatestPath q_fillingsOfShape q_now_first q_now_second p0 (.inr true) h2)) gX9_insert_X9_existingTable rfl (by decide +kernel) rfl ⟨Nat.le_of_ble_eq_true rfl, Nat.le_of_ble_eq_true rfl⟩ ⟨Nat.zero_le _, Nat.zero_le _⟩ rfl rfl [0, 1] rfl rfl (Nat.le_of_ble_eq_true rfl) rfl rfl dX9_insert_2 (fun H locs hW => ?_)
      refine lv_astore_n (lv' := [(3, .ref q_now_first), (0, .ref q), (1, .int p0), (2, .int p1)]) hx hb dX9_insert_5 rfl hl (by decide) rfl (fun ls hl => ?_)
      refine lv_iload_n hx hb dX9_insert_6 rfl (lv_at hl 3 rfl) ?_
      refine lv_iconst (v := 0) hx hb dX9_insert_7 (by decide) ?_
      refine lv_bipush (v := 99) hx hb dX9_insert_8 (by decide) ?_
      rcases bdE_s hf with ⟨k5, h4, hf⟩ | ⟨_, h4, hf⟩
      · obtain rfl := Option.some.inj hf
        subst hO
        exact kx_thrS (As := [.int p1, .int 0, .int 99]) (n := 3) (rest := []) (wr := [(q, .inr (8, [.ref q_now, .ref q_trial, .ref q_past, .ref q_text, .ref q_reader, .ref q_slot0, .ref q_slot1, .ref q_greatestPath, .ref q_fillingsOfShape])), (q_now, .inr (2, [.ref q_now_first, .ref q_now_second])), (q_now_first, .inr (6, [.ref q_now_first_numbers])), (q_now_first_numbers, .inl (cI, 36, .inl u_now_first_numbers)), (q_now_second, .inr (6, [.ref q_now_second_numbers])), (q_now_second_numbers, .inl (cI, 36, .inl u_now_second_numbers)), (q_past, .inr (3, [.ref q_past_numbers, .int u_past_oldest, .int u_past_remembered])), (q_past_numbers, .inl (cI, 1008, .inl u_past_numbers))]) (ws' := [(q, .inr (8, [.ref q_now, .ref q_trial, .ref q_past, .ref q_text, .ref q_reader, .ref q_slot0, .ref q_slot1, .ref q_greatestPath, .ref q_fillingsOfShape])), (q_now, .inr (2, [.ref q_now_first, .ref q_now_second])), (q_now_first, .inr (6, [.ref q_now_first_numbers])), (q_now_first_numbers, .inl (cI, 36, .inl u_now_first_numbers)), (q_now_second, .inr (6, [.ref q_now_second_numbers])), (q_now_second_numbers, .inl (cI, 36, .inl u_now_second_numbers)), (q_past, .inr (3, [.ref q_past_numbers, .int u_past_oldest, .int u_past_remembered])), (q_past_numbers, .inl (cI, 1008, .inl u_past_numbers))]) C hout hlocks hE hW hl.1 (kX9_requireRange l hlt D cI cZ cJ _ p1 0 99 (.inl k5) h4) gX9_insert_X9_requireRange rfl (by decide +kernel) rfl ⟨Nat.le_of_ble_eq_true rfl, Nat.le_of_ble_eq_true rfl⟩ ⟨Nat.le_of_ble_eq_true rfl, Nat.le_of_ble_eq_true rfl⟩ [] [0, 1, 2, 3, 4, 5, 6, 7] [0, 1, 2, 3, 4, 5, 6, 7] rfl rfl rfl rfl (by decide) rfl rfl (Nat.le_of_ble_eq_true rfl) rfl dX9_insert_10 hQ
      · refine k_callSR (As := [.int p1, .int 0, .int 99]) (n := 3) (rest := []) (st1 := []) C hE hW hl.1 (kMetX.ret (kX9_requireRange l hlt D cI cZ cJ _ p1 0 99 (.inr ()) h4)) gX9_insert_X9_requireRange rfl (by decide +kernel) rfl ⟨Nat.le_of_ble_eq_true rfl, Nat.le_of_ble_eq_true rfl⟩ ⟨Nat.zero_le _, Nat.zero_le _⟩ [] rfl rfl (Nat.le_of_ble_eq_true rfl) rfl rfl dX9_insert_10 (fun H locs hW => ?_)
        refine lv_aload_n hx hb dX9_insert_13 rfl (lv_at hl 0 rfl) ?_
        rcases bdE_s hf with ⟨k7, h6, hf⟩ | ⟨_, h6, hf⟩
        · obtain rfl := Option.some.inj hf
          subst hO
          exact kx_thrS (As := [.ref q_now_first]) (n := 1) (rest := []) (wr := [(q, .inr (8, [.ref q_now, .ref q_trial, .ref q_past, .ref q_text, .ref q_reader, .ref q_slot0, .ref q_slot1, .ref q_greatestPath, .ref q_fillingsOfShape])), (q_now, .inr (2, [.ref q_now_first, .ref q_now_second])), (q_now_second, .inr (6, [.ref q_now_second_numbers])), (q_now_second_numbers, .inl (cI, 36, .inl u_now_second_numbers)), (q_past, .inr (3, [.ref q_past_numbers, .int u_past_oldest, .int u_past_remembered])), (q_past_numbers, .inl (cI, 1008, .inl u_past_numbers))]) (ws' := [(q, .inr (8, [.ref q_now, .ref q_trial, .ref q_past, .ref q_text, .ref q_reader, .ref q_slot0, .ref q_slot1, .ref q_greatestPath, .ref q_fillingsOfShape])), (q_now, .inr (2, [.ref q_now_first, .ref q_now_second])), (q_now_first, .inr (6, [.ref q_now_first_numbers])), (q_now_first_numbers, .inl (cI, 36, .inl u_now_first_numbers)), (q_now_second, .inr (6, [.ref q_now_second_numbers])), (q_now_second_numbers, .inl (cI, 36, .inl u_now_second_numbers)), (q_past, .inr (3, [.ref q_past_numbers, .int u_past_oldest, .int u_past_remembered])), (q_past_numbers, .inl (cI, 1008, .inl u_past_numbers))]) C hout hlocks hE hW hl.1 (kX9_requireGap l hlt D cI cZ cJ _ q_now_first q_now_first_numbers u_now_first_numbers (.inl k7) h6) gX9_insert_X9_requireGap rfl (by decide +kernel) rfl ⟨Nat.le_of_ble_eq_true rfl, Nat.le_of_ble_eq_true rfl⟩ ⟨Nat.le_of_ble_eq_true rfl, Nat.le_of_ble_eq_true rfl⟩ [2, 3] [0, 1, 4, 5, 6, 7] [0, 1, 6, 7, 2, 3, 4, 5] rfl rfl rfl rfl (by decide) rfl rfl (Nat.le_of_ble_eq_true rfl) rfl dX9_insert_14 hQ
        · refine k_callSR (As := [.ref q_now_first]) (n := 1) (rest := []) (st1 := []) C hE hW hl.1 (kMetX.ret (kX9_requireGap l hlt D cI cZ cJ _ q_now_first q_now_first_numbers u_now_first_numbers (.inr ()) h6)) gX9_insert_X9_requireGap rfl (by decide +kernel) rfl ⟨Nat.le_of_ble_eq_true rfl, Nat.le_of_ble_eq_true rfl⟩ ⟨Nat.zero_le _, Nat.zero_le _⟩ [2, 3] rfl rfl (Nat.le_of_ble_eq_true rfl) rfl rfl dX9_insert_14 (fun H locs hW => ?_)
          refine lv_aload_n hx hb dX9_insert_17 rfl (lv_at hl 1 rfl) ?_
          refine k_get C hE hW iX9 0 rfl rfl 2 (by decide) f22 (fun _ h9 => h9) rfl dX9_insert_18 ?_
          refine lv_aload_n hx hb dX9_insert_21 rfl (lv_at hl 1 rfl) ?_
          refine k_get C hE hW iX9 0 rfl rfl 0 (by decide) f12 (fun _ h9 => h9) rfl dX9_insert_22 ?_
          obtain ⟨⟨w8, w9, w10⟩, h11, hf⟩ := bd1_s hf
          replace hf := un3_s hf
          refine k_callV (b := q_past) (ci := 3) (qb := 0) (As := [.ref q_now]) (n := 1) (rest := []) (st1 := []) (wr := [(q, .inr (8, [.ref q_now, .ref q_trial, .ref q_past, .ref q_text, .ref q_reader, .ref q_slot0, .ref q_slot1, .ref q_greatestPath, .ref q_fillingsOfShape]))]) (ws' := [(q, .inr (8, [.ref q_now, .ref q_trial, .ref q_past, .ref q_text, .ref q_reader, .ref q_slot0, .ref q_slot1, .ref q_greatestPath, .ref q_fillingsOfShape])), (q_now, .inr (2, [.ref q_now_first, .ref q_now_second])), (q_now_first, .inr (6, [.ref q_now_first_numbers])), (q_now_first_numbers, .inl (cI, 36, .inl u_now_first_numbers)), (q_now_second, .inr (6, [.ref q_now_second_numbers])), (q_now_second_numbers, .inl (cI, 36, .inl u_now_second_numbers)), (q_past, .inr (3, [.ref q_past_numbers, .int w8, .int w9])), (q_past_numbers, .inl (cI, 1008, .inl w10))]) C hE hW hl.1 (kX3_remember l D cI cZ cJ _ q_past q_past_numbers q_now q_now_first q_now_first_numbers q_now_second q_now_second_numbers u_past_oldest u_past_remembered u_past_numbers u_now_first_numbers u_now_second_numbers w8 w9 w10 h11) gX9_insert_X3_remember rfl (by decide +kernel) rfl ⟨Nat.le_of_ble_eq_true rfl, Nat.le_of_ble_eq_true rfl⟩ ⟨Nat.zero_le _, Nat.zero_le _⟩ rfl rfl [6, 7, 1, 2, 3, 4, 5] [0] [0, 3, 4, 5, 6, 7, 1, 2] rfl rfl rfl rfl (by decide) rfl rfl (Nat.le_of_ble_eq_true rfl) rfl rfl dX9_insert_25 (fun H locs hW => ?_)
          refine lv_aload_n hx hb dX9_insert_28 rfl (lv_at hl 0 rfl) ?_
          refine lv_iload_n hx hb dX9_insert_29 rfl (lv_at hl 3 rfl) ?_
          obtain ⟨⟨v12, w13⟩, h14, hf⟩ := bd1_s hf
          replace hf := un2_s hf
          refine k_callV (b := q_now_first) (ci := 6) (qb := 0) (As := [.int p1]) (n := 1) (rest := []) (st1 := [.int v12]) (wr := [(q, .inr (8, [.ref q_now, .ref q_trial, .ref q_past, .ref q_text, .ref q_reader, .ref q_slot0, .ref q_slot1, .ref q_greatestPath, .ref q_fillingsOfShape])), (q_now, .inr (2, [.ref q_now_first, .ref q_now_second])), (q_now_second, .inr (6, [.ref q_now_second_numbers])), (q_now_second_numbers, .inl (cI, 36, .inl u_now_second_numbers)), (q_past, .inr (3, [.ref q_past_numbers, .int w8, .int w9])), (q_past_numbers, .inl (cI, 1008, .inl w10))]) (ws' := [(q, .inr (8, [.ref q_now, .ref q_trial, .ref q_past, .ref q_text, .ref q_reader, .ref q_slot0, .ref q_slot1, .ref q_greatestPath, .ref q_fillingsOfShape])), (q_now, .inr (2, [.ref q_now_first, .ref q_now_second])), (q_now_first, .inr (6, [.ref q_now_first_numbers])), (q_now_first_numbers, .inl (cI, 36, .inl w13)), (q_now_second, .inr (6, [.ref q_now_second_numbers])), (q_now_second_numbers, .inl (cI, 36, .inl u_now_second_numbers)), (q_past, .inr (3, [.ref q_past_numbers, .int w8, .int w9])), (q_past_numbers, .inl (cI, 1008, .inl w10))]) C hE hW hl.1 (kX7_takeIn l D cI cZ cJ _ q_now_first q_now_first_numbers u_now_first_numbers p1 v12 w13 h14) gX9_insert_X7_takeIn rfl (by decide +kernel) rfl ⟨Nat.le_of_ble_eq_true rfl, Nat.le_of_ble_eq_true rfl⟩ ⟨Nat.zero_le _, Nat.zero_le _⟩ rfl rfl [2, 3] [0, 1, 4, 5, 6, 7] [0, 1, 6, 7, 2, 3, 4, 5] rfl rfl rfl rfl (by decide) rfl rfl (Nat.le_of_ble_eq_true rfl) rfl rfl dX9_insert_30 (fun H locs hW => ?_)
          obtain rfl := Option.some.inj hf
          subst hO
          exact kx_iret C hlocks hr hW hQ dX9_insert_33
    | false =>
      replace hf := cd_f hf
      refine k_callVR (b := q) (ci := 8) (qb := 0) (As := [.int p0]) (n := 1) (rest := []) (st1 := [.ref q_now_second]) C hE hW hl.1 (kMetX.ret (kX9_existingTable l hlt D cI cZ cJ _ q q_now q_trial q_past q_text q_reader q_slot0 q_slot1 q_greatestPath q_fillingsOfShape q_now_first q_now_second p0 (.inr false) h2)) gX9_insert_X9_existingTable rfl (by decide +kernel) rfl ⟨Nat.le_of_ble_eq_true rfl, Nat.le_of_ble_eq_true rfl⟩ ⟨Nat.zero_le _, Nat.zero_le _⟩ rfl rfl [0, 1] rfl rfl (Nat.le_of_ble_eq_true rfl) rfl rfl dX9_insert_2 (fun H locs hW => ?_)
      refine lv_astore_n (lv' := [(3, .ref q_now_second), (0, .ref q), (1, .int p0), (2, .int p1)]) hx hb dX9_insert_5 rfl hl (by decide) rfl (fun ls hl => ?_)
      refine lv_iload_n hx hb dX9_insert_6 rfl (lv_at hl 3 rfl) ?_
      refine lv_iconst (v := 0) hx hb dX9_insert_7 (by decide) ?_
      refine lv_bipush (v := 99) hx hb dX9_insert_8 (by decide) ?_
      rcases bdE_s hf with ⟨k16, h15, hf⟩ | ⟨_, h15, hf⟩
      · obtain rfl := Option.some.inj hf
        subst hO
        exact kx_thrS (As := [.int p1, .int 0, .int 99]) (n := 3) (rest := []) (wr := [(q, .inr (8, [.ref q_now, .ref q_trial, .ref q_past, .ref q_text, .ref q_reader, .ref q_slot0, .ref q_slot1, .ref q_greatestPath, .ref q_fillingsOfShape])), (q_now, .inr (2, [.ref q_now_first, .ref q_now_second])), (q_now_first, .inr (6, [.ref q_now_first_numbers])), (q_now_first_numbers, .inl (cI, 36, .inl u_now_first_numbers)), (q_now_second, .inr (6, [.ref q_now_second_numbers])), (q_now_second_numbers, .inl (cI, 36, .inl u_now_second_numbers)), (q_past, .inr (3, [.ref q_past_numbers, .int u_past_oldest, .int u_past_remembered])), (q_past_numbers, .inl (cI, 1008, .inl u_past_numbers))]) (ws' := [(q, .inr (8, [.ref q_now, .ref q_trial, .ref q_past, .ref q_text, .ref q_reader, .ref q_slot0, .ref q_slot1, .ref q_greatestPath, .ref q_fillingsOfShape])), (q_now, .inr (2, [.ref q_now_first, .ref q_now_second])), (q_now_first, .inr (6, [.ref q_now_first_numbers])), (q_now_first_numbers, .inl (cI, 36, .inl u_now_first_numbers)), (q_now_second, .inr (6, [.ref q_now_second_numbers])), (q_now_second_numbers, .inl (cI, 36, .inl u_now_second_numbers)), (q_past, .inr (3, [.ref q_past_numbers, .int u_past_oldest, .int u_past_remembered])), (q_past_numbers, .inl (cI, 1008, .inl u_past_numbers))]) C hout hlocks hE hW hl.1 (kX9_requireRange l hlt D cI cZ cJ _ p1 0 99 (.inl k16) h15) gX9_insert_X9_requireRange rfl (by decide +kernel) rfl ⟨Nat.le_of_ble_eq_true rfl, Nat.le_of_ble_eq_true rfl⟩ ⟨Nat.le_of_ble_eq_true rfl, Nat.le_of_ble_eq_true rfl⟩ [] [0, 1, 2, 3, 4, 5, 6, 7] [0, 1, 2, 3, 4, 5, 6, 7] rfl rfl rfl rfl (by decide) rfl rfl (Nat.le_of_ble_eq_true rfl) rfl dX9_insert_10 hQ
      · refine k_callSR (As := [.int p1, .int 0, .int 99]) (n := 3) (rest := []) (st1 := []) C hE hW hl.1 (kMetX.ret (kX9_requireRange l hlt D cI cZ cJ _ p1 0 99 (.inr ()) h15)) gX9_insert_X9_requireRange rfl (by decide +kernel) rfl ⟨Nat.le_of_ble_eq_true rfl, Nat.le_of_ble_eq_true rfl⟩ ⟨Nat.zero_le _, Nat.zero_le _⟩ [] rfl rfl (Nat.le_of_ble_eq_true rfl) rfl rfl dX9_insert_10 (fun H locs hW => ?_)
        refine lv_aload_n hx hb dX9_insert_13 rfl (lv_at hl 0 rfl) ?_
        rcases bdE_s hf with ⟨k18, h17, hf⟩ | ⟨_, h17, hf⟩
        · obtain rfl := Option.some.inj hf
          subst hO
          exact kx_thrS (As := [.ref q_now_second]) (n := 1) (rest := []) (wr := [(q, .inr (8, [.ref q_now, .ref q_trial, .ref q_past, .ref q_text, .ref q_reader, .ref q_slot0, .ref q_slot1, .ref q_greatestPath, .ref q_fillingsOfShape])), (q_now, .inr (2, [.ref q_now_first, .ref q_now_second])), (q_now_first, .inr (6, [.ref q_now_first_numbers])), (q_now_first_numbers, .inl (cI, 36, .inl u_now_first_numbers)), (q_past, .inr (3, [.ref q_past_numbers, .int u_past_oldest, .int u_past_remembered])), (q_past_numbers, .inl (cI, 1008, .inl u_past_numbers))]) (ws' := [(q, .inr (8, [.ref q_now, .ref q_trial, .ref q_past, .ref q_text, .ref q_reader, .ref q_slot0, .ref q_slot1, .ref q_greatestPath, .ref q_fillingsOfShape])), (q_now, .inr (2, [.ref q_now_first, .ref q_now_second])), (q_now_first, .inr (6, [.ref q_now_first_numbers])), (q_now_first_numbers, .inl (cI, 36, .inl u_now_first_numbers)), (q_now_second, .inr (6, [.ref q_now_second_numbers])), (q_now_second_numbers, .inl (cI, 36, .inl u_now_second_numbers)), (q_past, .inr (3, [.ref q_past_numbers, .int u_past_oldest, .int u_past_remembered])), (q_past_numbers, .inl (cI, 1008, .inl u_past_numbers))]) C hout hlocks hE hW hl.1 (kX9_requireGap l hlt D cI cZ cJ _ q_now_second q_now_second_numbers u_now_second_numbers (.inl k18) h17) gX9_insert_X9_requireGap rfl (by decide +kernel) rfl ⟨Nat.le_of_ble_eq_true rfl, Nat.le_of_ble_eq_true rfl⟩ ⟨Nat.le_of_ble_eq_true rfl, Nat.le_of_ble_eq_true rfl⟩ [4, 5] [0, 1, 2, 3, 6, 7] [0, 1, 2, 3, 6, 7, 4, 5] rfl rfl rfl rfl (by decide) rfl rfl (Nat.le_of_ble_eq_true rfl) rfl dX9_insert_14 hQ
        · refine k_callSR (As := [.ref q_now_second]) (n := 1) (rest := []) (st1 := []) C hE hW hl.1 (kMetX.ret (kX9_requireGap l hlt D cI cZ cJ _ q_now_second q_now_second_numbers u_now_second_numbers (.inr ()) h17)) gX9_insert_X9_requireGap rfl (by decide +kernel) rfl ⟨Nat.le_of_ble_eq_true rfl, Nat.le_of_ble_eq_true rfl⟩ ⟨Nat.zero_le _, Nat.zero_le _⟩ [4, 5] rfl rfl (Nat.le_of_ble_eq_true rfl) rfl rfl dX9_insert_14 (fun H locs hW => ?_)
          refine lv_aload_n hx hb dX9_insert_17 rfl (lv_at hl 1 rfl) ?_
          refine k_get C hE hW iX9 0 rfl rfl 2 (by decide) f22 (fun _ h9 => h9) rfl dX9_insert_18 ?_
          refine lv_aload_n hx hb dX9_insert_21 rfl (lv_at hl 1 rfl) ?_
          refine k_get C hE hW iX9 0 rfl rfl 0 (by decide) f12 (fun _ h9 => h9) rfl dX9_insert_22 ?_
          obtain ⟨⟨w19, w20, w21⟩, h22, hf⟩ := bd1_s hf
          replace hf := un3_s hf
          refine k_callV (b := q_past) (ci := 3) (qb := 0) (As := [.ref q_now]) (n := 1) (rest := []) (st1 := []) (wr := [(q, .inr (8, [.ref q_now, .ref q_trial, .ref q_past, .ref q_text, .ref q_reader, .ref q_slot0, .ref q_slot1, .ref q_greatestPath, .ref q_fillingsOfShape]))]) (ws' := [(q, .inr (8, [.ref q_now, .ref q_trial, .ref q_past, .ref q_text, .ref q_reader, .ref q_slot0, .ref q_slot1, .ref q_greatestPath, .ref q_fillingsOfShape])), (q_now, .inr (2, [.ref q_now_first, .ref q_now_second])), (q_now_first, .inr (6, [.ref q_now_first_numbers])), (q_now_first_numbers, .inl (cI, 36, .inl u_now_first_numbers)), (q_now_second, .inr (6, [.ref q_now_second_numbers])), (q_now_second_numbers, .inl (cI, 36, .inl u_now_second_numbers)), (q_past, .inr (3, [.ref q_past_numbers, .int w19, .int w20])), (q_past_numbers, .inl (cI, 1008, .inl w21))]) C hE hW hl.1 (kX3_remember l D cI cZ cJ _ q_past q_past_numbers q_now q_now_first q_now_first_numbers q_now_second q_now_second_numbers u_past_oldest u_past_remembered u_past_numbers u_now_first_numbers u_now_second_numbers w19 w20 w21 h22) gX9_insert_X3_remember rfl (by decide +kernel) rfl ⟨Nat.le_of_ble_eq_true rfl, Nat.le_of_ble_eq_true rfl⟩ ⟨Nat.zero_le _, Nat.zero_le _⟩ rfl rfl [6, 7, 1, 2, 3, 4, 5] [0] [0, 3, 4, 5, 6, 7, 1, 2] rfl rfl rfl rfl (by decide) rfl rfl (Nat.le_of_ble_eq_true rfl) rfl rfl dX9_insert_25 (fun H locs hW => ?_)
          refine lv_aload_n hx hb dX9_insert_28 rfl (lv_at hl 0 rfl) ?_
          refine lv_iload_n hx hb dX9_insert_29 rfl (lv_at hl 3 rfl) ?_
          obtain ⟨⟨v23, w24⟩, h25, hf⟩ := bd1_s hf
          replace hf := un2_s hf
          refine k_callV (b := q_now_second) (ci := 6) (qb := 0) (As := [.int p1]) (n := 1) (rest := []) (st1 := [.int v23]) (wr := [(q, .inr (8, [.ref q_now, .ref q_trial, .ref q_past, .ref q_text, .ref q_reader, .ref q_slot0, .ref q_slot1, .ref q_greatestPath, .ref q_fillingsOfShape])), (q_now, .inr (2, [.ref q_now_first, .ref q_now_second])), (q_now_first, .inr (6, [.ref q_now_first_numbers])), (q_now_first_numbers, .inl (cI, 36, .inl u_now_first_numbers)), (q_past, .inr (3, [.ref q_past_numbers, .int w19, .int w20])), (q_past_numbers, .inl (cI, 1008, .inl w21))]) (ws' := [(q, .inr (8, [.ref q_now, .ref q_trial, .ref q_past, .ref q_text, .ref q_reader, .ref q_slot0, .ref q_slot1, .ref q_greatestPath, .ref q_fillingsOfShape])), (q_now, .inr (2, [.ref q_now_first, .ref q_now_second])), (q_now_first, .inr (6, [.ref q_now_first_numbers])), (q_now_first_numbers, .inl (cI, 36, .inl u_now_first_numbers)), (q_now_second, .inr (6, [.ref q_now_second_numbers])), (q_now_second_numbers, .inl (cI, 36, .inl w24)), (q_past, .inr (3, [.ref q_past_numbers, .int w19, .int w20])), (q_past_numbers, .inl (cI, 1008, .inl w21))]) C hE hW hl.1 (kX7_takeIn l D cI cZ cJ _ q_now_second q_now_second_numbers u_now_second_numbers p1 v23 w24 h25) gX9_insert_X7_takeIn rfl (by decide +kernel) rfl ⟨Nat.le_of_ble_eq_true rfl, Nat.le_of_ble_eq_true rfl⟩ ⟨Nat.zero_le _, Nat.zero_le _⟩ rfl rfl [4, 5] [0, 1, 2, 3, 6, 7] [0, 1, 2, 3, 6, 7, 4, 5] rfl rfl rfl rfl (by decide) rfl rfl (Nat.le_of_ble_eq_true rfl) rfl rfl dX9_insert_30 (fun H locs hW => ?_)
          obtain rfl := Option.some.inj hf
          subst hO
          exact kx_iret C hlocks hr hW hQ dX9_insert_33

set_option maxHeartbeats 4000000 in
set_option maxRecDepth 100000 in
theorem kX9_remove (l : Launch) (hlt : l.stackTraces = false) (D : va_G) (cI cZ cJ : ClassId) (sz : Nat) (q q_now q_now_first q_now_first_numbers q_now_second q_now_second_numbers q_past q_past_numbers q_trial q_text q_reader q_slot0 q_slot1 q_greatestPath q_fillingsOfShape : Nat) (u_now_first_numbers : Nat → Int32) (u_now_second_numbers : Nat → Int32) (u_past_oldest : Int32) (u_past_remembered : Int32) (u_past_numbers : Nat → Int32) (p0 : Int32) (p1 : Int32) (p2 : Int32) (out : (Nat × (Nat → Int32) × (Nat → Int32) × Int32 × Int32 × (Nat → Int32)) ⊕ (Int32 × (Nat → Int32) × (Nat → Int32) × Int32 × Int32 × (Nat → Int32))) (hf : pX9_remove u_now_first_numbers u_now_second_numbers u_past_oldest u_past_remembered u_past_numbers p0 p1 p2 = some out) : kMetX l D cI cZ cJ yX9_remove wsX9_remove 8 135 [.ref q, .int p0, .int p1, .int p2] [(q, .inr (8, [.ref q_now, .ref q_trial, .ref q_past, .ref q_text, .ref q_reader, .ref q_slot0, .ref q_slot1, .ref q_greatestPath, .ref q_fillingsOfShape])), (q_now, .inr (2, [.ref q_now_first, .ref q_now_second])), (q_now_first, .inr (6, [.ref q_now_first_numbers])), (q_now_first_numbers, .inl (cI, 36, .inl u_now_first_numbers)), (q_now_second, .inr (6, [.ref q_now_second_numbers])), (q_now_second_numbers, .inl (cI, 36, .inl u_now_second_numbers)), (q_past, .inr (3, [.ref q_past_numbers, .int u_past_oldest, .int u_past_remembered])), (q_past_numbers, .inl (cI, 1008, .inl u_past_numbers))] sz (kSel out (un6 (fun k u_now_first_numbers' u_now_second_numbers' u_past_oldest' u_past_remembered' u_past_numbers' =>  .inl (k, [(q, .inr (8, [.ref q_now, .ref q_trial, .ref q_past, .ref q_text, .ref q_reader, .ref q_slot0, .ref q_slot1, .ref q_greatestPath, .ref q_fillingsOfShape])), (q_now, .inr (2, [.ref q_now_first, .ref q_now_second])), (q_now_first, .inr (6, [.ref q_now_first_numbers])), (q_now_first_numbers, .inl (cI, 36, .inl u_now_first_numbers')), (q_now_second, .inr (6, [.ref q_now_second_numbers])), (q_now_second_numbers, .inl (cI, 36, .inl u_now_second_numbers')), (q_past, .inr (3, [.ref q_past_numbers, .int u_past_oldest', .int u_past_remembered'])), (q_past_numbers, .inl (cI, 1008, .inl u_past_numbers'))]))) (un6 (fun r u_now_first_numbers' u_now_second_numbers' u_past_oldest' u_past_remembered' u_past_numbers' =>  .inr ((some (.int r)), [(q, .inr (8, [.ref q_now, .ref q_trial, .ref q_past, .ref q_text, .ref q_reader, .ref q_slot0, .ref q_slot1, .ref q_greatestPath, .ref q_fillingsOfShape])), (q_now, .inr (2, [.ref q_now_first, .ref q_now_second])), (q_now_first, .inr (6, [.ref q_now_first_numbers])), (q_now_first_numbers, .inl (cI, 36, .inl u_now_first_numbers')), (q_now_second, .inr (6, [.ref q_now_second_numbers])), (q_now_second_numbers, .inl (cI, 36, .inl u_now_second_numbers')), (q_past, .inr (3, [.ref q_past_numbers, .int u_past_oldest', .int u_past_remembered'])), (q_past_numbers, .inl (cI, 1008, .inl u_past_numbers'))])))) := by
  generalize hO : (kSel out (un6 (fun k u_now_first_numbers' u_now_second_numbers' u_past_oldest' u_past_remembered' u_past_numbers' =>  .inl (k, [(q, .inr (8, [.ref q_now, .ref q_trial, .ref q_past, .ref q_text, .ref q_reader, .ref q_slot0, .ref q_slot1, .ref q_greatestPath, .ref q_fillingsOfShape])), (q_now, .inr (2, [.ref q_now_first, .ref q_now_second])), (q_now_first, .inr (6, [.ref q_now_first_numbers])), (q_now_first_numbers, .inl (cI, 36, .inl u_now_first_numbers')), (q_now_second, .inr (6, [.ref q_now_second_numbers])), (q_now_second_numbers, .inl (cI, 36, .inl u_now_second_numbers')), (q_past, .inr (3, [.ref q_past_numbers, .int u_past_oldest', .int u_past_remembered'])), (q_past_numbers, .inl (cI, 1008, .inl u_past_numbers'))]))) (un6 (fun r u_now_first_numbers' u_now_second_numbers' u_past_oldest' u_past_remembered' u_past_numbers' =>  .inr ((some (.int r)), [(q, .inr (8, [.ref q_now, .ref q_trial, .ref q_past, .ref q_text, .ref q_reader, .ref q_slot0, .ref q_slot1, .ref q_greatestPath, .ref q_fillingsOfShape])), (q_now, .inr (2, [.ref q_now_first, .ref q_now_second])), (q_now_first, .inr (6, [.ref q_now_first_numbers])), (q_now_first_numbers, .inl (cI, 36, .inl u_now_first_numbers')), (q_now_second, .inr (6, [.ref q_now_second_numbers])), (q_now_second_numbers, .inl (cI, 36, .inl u_now_second_numbers')), (q_past, .inr (3, [.ref q_past_numbers, .int u_past_oldest', .int u_past_remembered'])), (q_past_numbers, .inl (cI, 1008, .inl u_past_numbers'))])))) = o
  refine kX_of (cc := cX9_remove) (maxL := 6) (ret := (some .int)) (by decide) rfl (Nat.le_of_ble_eq_true rfl) ?_
  intro p e s m args below meth c A Q ls hQ C hout hlocks hr hE hW hl
  have hx := C.1
  have hb := C.2.1
  have hts := C.2.2.2.2
  have hl : lv_has ls 6 [(0, .ref q), (1, .int p0), (2, .int p1), (3, .int p2)] := hl
  have iX9 : ∀ w ∈ u_ws RX9 TX9 9, w ∈ wsX9_remove := by decide +kernel
  have f12 := hts (.fieldLink RX9 12 "SortedTables" "now" "LSortedTables$Pair;") (by decide +kernel)
  have f22 := hts (.fieldLink RX9 22 "SortedTables" "past" "LSortedTables$Past;") (by decide +kernel)
  unfold pX9_remove at hf
  refine lv_aload_n hx hb dX9_remove_0 rfl (lv_at hl 0 rfl) ?_
  refine lv_iload_n hx hb dX9_remove_1 rfl (lv_at hl 1 rfl) ?_
  refine lv_iload_n hx hb dX9_remove_2 rfl (lv_at hl 2 rfl) ?_
  refine lv_iload_n hx hb dX9_remove_3 rfl (lv_at hl 3 rfl) ?_
  rcases bdE_s hf with ⟨k3, h2, hf⟩ | ⟨b1, h2, hf⟩
  · obtain rfl := Option.some.inj hf
    subst hO
    exact kx_thrV (b := q) (ci := 8) (qb := 0) (As := [.int p0, .int p1, .int p2]) (n := 3) (rest := []) (wr := [(q_past, .inr (3, [.ref q_past_numbers, .int u_past_oldest, .int u_past_remembered])), (q_past_numbers, .inl (cI, 1008, .inl u_past_numbers))]) (ws' := [(q, .inr (8, [.ref q_now, .ref q_trial, .ref q_past, .ref q_text, .ref q_reader, .ref q_slot0, .ref q_slot1, .ref q_greatestPath, .ref q_fillingsOfShape])), (q_now, .inr (2, [.ref q_now_first, .ref q_now_second])), (q_now_first, .inr (6, [.ref q_now_first_numbers])), (q_now_first_numbers, .inl (cI, 36, .inl u_now_first_numbers)), (q_now_second, .inr (6, [.ref q_now_second_numbers])), (q_now_second_numbers, .inl (cI, 36, .inl u_now_second_numbers)), (q_past, .inr (3, [.ref q_past_numbers, .int u_past_oldest, .int u_past_remembered])), (q_past_numbers, .inl (cI, 1008, .inl u_past_numbers))]) C hout hlocks hE hW hl.1 (kX9_tableWithCell l hlt D cI cZ cJ _ q q_now q_now_first q_now_first_numbers q_now_second q_now_second_numbers q_trial q_past q_text q_reader q_slot0 q_slot1 q_greatestPath q_fillingsOfShape u_now_first_numbers u_now_second_numbers p0 p1 p2 (.inl k3) h2) gX9_remove_X9_tableWithCell rfl (by decide +kernel) rfl ⟨Nat.le_of_ble_eq_true rfl, Nat.le_of_ble_eq_true rfl⟩ ⟨Nat.le_of_ble_eq_true rfl, Nat.le_of_ble_eq_true rfl⟩ rfl rfl [0, 1, 2, 3, 4, 5] [6, 7] [2, 3, 4, 5, 6, 7, 0, 1] rfl rfl rfl rfl (by decide) rfl rfl (Nat.le_of_ble_eq_true rfl) rfl dX9_remove_4 hQ
  · cases b1 with
    | true =>
      replace hf := cd_t hf
      refine k_callVR (b := q) (ci := 8) (qb := 0) (As := [.int p0, .int p1, .int p2]) (n := 3) (rest := []) (st1 := [.ref q_now_first]) C hE hW hl.1 (kMetX.ret (kX9_tableWithCell l hlt D cI cZ cJ _ q q_now q_now_first q_now_first_numbers q_now_second q_now_second_numbers q_trial q_past q_text q_reader q_slot0 q_slot1 q_greatestPath q_fillingsOfShape u_now_first_numbers u_now_second_numbers p0 p1 p2 (.inr true) h2)) gX9_remove_X9_tableWithCell rfl (by decide +kernel) rfl ⟨Nat.le_of_ble_eq_true rfl, Nat.le_of_ble_eq_true rfl⟩ ⟨Nat.zero_le _, Nat.zero_le _⟩ rfl rfl [0, 1, 2, 3, 4, 5] rfl rfl (Nat.le_of_ble_eq_true rfl) rfl rfl dX9_remove_4 (fun H locs hW => ?_)
      refine lv_astore (lv' := [(4, .ref q_now_first), (0, .ref q), (1, .int p0), (2, .int p1), (3, .int p2)]) hx hb dX9_remove_7 hl (by decide) rfl (fun ls hl => ?_)
      refine lv_aload hx hb dX9_remove_9 (lv_at hl 0 rfl) ?_
      refine lv_iload_n hx hb dX9_remove_11 rfl (lv_at hl 3 rfl) ?_
      refine lv_iload_n hx hb dX9_remove_12 rfl (lv_at hl 4 rfl) ?_
      obtain ⟨v4, h5, hf⟩ := bd1_s hf
      refine k_callVR (b := q_now_first) (ci := 6) (qb := 0) (As := [.int p1, .int p2]) (n := 2) (rest := []) (st1 := [.int v4]) C hE hW hl.1 (kX7_at l D cI cZ cJ _ q_now_first q_now_first_numbers u_now_first_numbers p1 p2 v4 h5) gX9_remove_X7_at rfl (by decide +kernel) rfl ⟨Nat.le_of_ble_eq_true rfl, Nat.le_of_ble_eq_true rfl⟩ ⟨Nat.zero_le _, Nat.zero_le _⟩ rfl rfl [2, 3] rfl rfl (Nat.le_of_ble_eq_true rfl) rfl rfl dX9_remove_13 (fun H locs hW => ?_)
      refine lv_istore (lv' := [(5, .int v4), (4, .ref q_now_first), (0, .ref q), (1, .int p0), (2, .int p1), (3, .int p2)]) hx hb dX9_remove_16 hl (by decide) rfl (fun ls hl => ?_)
      refine lv_aload_n hx hb dX9_remove_18 rfl (lv_at hl 2 rfl) ?_
      refine k_get C hE hW iX9 0 rfl rfl 2 (by decide) f22 (fun _ h9 => h9) rfl dX9_remove_19 ?_
      refine lv_aload_n hx hb dX9_remove_22 rfl (lv_at hl 2 rfl) ?_
      refine k_get C hE hW iX9 0 rfl rfl 0 (by decide) f12 (fun _ h9 => h9) rfl dX9_remove_23 ?_
      obtain ⟨⟨w6, w7, w8⟩, h9, hf⟩ := bd1_s hf
      replace hf := un3_s hf
      refine k_callV (b := q_past) (ci := 3) (qb := 0) (As := [.ref q_now]) (n := 1) (rest := []) (st1 := []) (wr := [(q, .inr (8, [.ref q_now, .ref q_trial, .ref q_past, .ref q_text, .ref q_reader, .ref q_slot0, .ref q_slot1, .ref q_greatestPath, .ref q_fillingsOfShape]))]) (ws' := [(q, .inr (8, [.ref q_now, .ref q_trial, .ref q_past, .ref q_text, .ref q_reader, .ref q_slot0, .ref q_slot1, .ref q_greatestPath, .ref q_fillingsOfShape])), (q_now, .inr (2, [.ref q_now_first, .ref q_now_second])), (q_now_first, .inr (6, [.ref q_now_first_numbers])), (q_now_first_numbers, .inl (cI, 36, .inl u_now_first_numbers)), (q_now_second, .inr (6, [.ref q_now_second_numbers])), (q_now_second_numbers, .inl (cI, 36, .inl u_now_second_numbers)), (q_past, .inr (3, [.ref q_past_numbers, .int w6, .int w7])), (q_past_numbers, .inl (cI, 1008, .inl w8))]) C hE hW hl.1 (kX3_remember l D cI cZ cJ _ q_past q_past_numbers q_now q_now_first q_now_first_numbers q_now_second q_now_second_numbers u_past_oldest u_past_remembered u_past_numbers u_now_first_numbers u_now_second_numbers w6 w7 w8 h9) gX9_remove_X3_remember rfl (by decide +kernel) rfl ⟨Nat.le_of_ble_eq_true rfl, Nat.le_of_ble_eq_true rfl⟩ ⟨Nat.zero_le _, Nat.zero_le _⟩ rfl rfl [6, 7, 1, 2, 3, 4, 5] [0] [0, 3, 4, 5, 6, 7, 1, 2] rfl rfl rfl rfl (by decide) rfl rfl (Nat.le_of_ble_eq_true rfl) rfl rfl dX9_remove_26 (fun H locs hW => ?_)
      refine lv_aload hx hb dX9_remove_29 (lv_at hl 1 rfl) ?_
      refine lv_iload_n hx hb dX9_remove_31 rfl (lv_at hl 4 rfl) ?_
      refine lv_iload_n hx hb dX9_remove_32 rfl (lv_at hl 5 rfl) ?_
      obtain ⟨⟨v10, w11⟩, h12, hf⟩ := bd1_s hf
      replace hf := un2_s hf
      refine k_callV (b := q_now_first) (ci := 6) (qb := 0) (As := [.int p1, .int p2]) (n := 2) (rest := []) (st1 := [.int v10]) (wr := [(q, .inr (8, [.ref q_now, .ref q_trial, .ref q_past, .ref q_text, .ref q_reader, .ref q_slot0, .ref q_slot1, .ref q_greatestPath, .ref q_fillingsOfShape])), (q_now, .inr (2, [.ref q_now_first, .ref q_now_second])), (q_now_second, .inr (6, [.ref q_now_second_numbers])), (q_now_second_numbers, .inl (cI, 36, .inl u_now_second_numbers)), (q_past, .inr (3, [.ref q_past_numbers, .int w6, .int w7])), (q_past_numbers, .inl (cI, 1008, .inl w8))]) (ws' := [(q, .inr (8, [.ref q_now, .ref q_trial, .ref q_past, .ref q_text, .ref q_reader, .ref q_slot0, .ref q_slot1, .ref q_greatestPath, .ref q_fillingsOfShape])), (q_now, .inr (2, [.ref q_now_first, .ref q_now_second])), (q_now_first, .inr (6, [.ref q_now_first_numbers])), (q_now_first_numbers, .inl (cI, 36, .inl w11)), (q_now_second, .inr (6, [.ref q_now_second_numbers])), (q_now_second_numbers, .inl (cI, 36, .inl u_now_second_numbers)), (q_past, .inr (3, [.ref q_past_numbers, .int w6, .int w7])), (q_past_numbers, .inl (cI, 1008, .inl w8))]) C hE hW hl.1 (kX7_takeAway l D cI cZ cJ _ q_now_first q_now_first_numbers u_now_first_numbers p1 p2 v10 w11 h12) gX9_remove_X7_takeAway rfl (by decide +kernel) rfl ⟨Nat.le_of_ble_eq_true rfl, Nat.le_of_ble_eq_true rfl⟩ ⟨Nat.zero_le _, Nat.zero_le _⟩ rfl rfl [2, 3] [0, 1, 4, 5, 6, 7] [0, 1, 6, 7, 2, 3, 4, 5] rfl rfl rfl rfl (by decide) rfl rfl (Nat.le_of_ble_eq_true rfl) rfl rfl dX9_remove_33 (fun H locs hW => ?_)
      refine lv_pop hx hb dX9_remove_36 rfl ?_
      refine lv_iload hx hb dX9_remove_37 (lv_at hl 0 rfl) ?_
      obtain rfl := Option.some.inj hf
      subst hO
      exact kx_iret C hlocks hr hW hQ dX9_remove_39
    | false =>
      replace hf := cd_f hf
      refine k_callVR (b := q) (ci := 8) (qb := 0) (As := [.int p0, .int p1, .int p2]) (n := 3) (rest := []) (st1 := [.ref q_now_second]) C hE hW hl.1 (kMetX.ret (kX9_tableWithCell l hlt D cI cZ cJ _ q q_now q_now_first q_now_first_numbers q_now_second q_now_second_numbers q_trial q_past q_text q_reader q_slot0 q_slot1 q_greatestPath q_fillingsOfShape u_now_first_numbers u_now_second_numbers p0 p1 p2 (.inr false) h2)) gX9_remove_X9_tableWithCell rfl (by decide +kernel) rfl ⟨Nat.le_of_ble_eq_true rfl, Nat.le_of_ble_eq_true rfl⟩ ⟨Nat.zero_le _, Nat.zero_le _⟩ rfl rfl [0, 1, 2, 3, 4, 5] rfl rfl (Nat.le_of_ble_eq_true rfl) rfl rfl dX9_remove_4 (fun H locs hW => ?_)
      refine lv_astore (lv' := [(4, .ref q_now_second), (0, .ref q), (1, .int p0), (2, .int p1), (3, .int p2)]) hx hb dX9_remove_7 hl (by decide) rfl (fun ls hl => ?_)
      refine lv_aload hx hb dX9_remove_9 (lv_at hl 0 rfl) ?_
      refine lv_iload_n hx hb dX9_remove_11 rfl (lv_at hl 3 rfl) ?_
      refine lv_iload_n hx hb dX9_remove_12 rfl (lv_at hl 4 rfl) ?_
      obtain ⟨v13, h14, hf⟩ := bd1_s hf
      refine k_callVR (b := q_now_second) (ci := 6) (qb := 0) (As := [.int p1, .int p2]) (n := 2) (rest := []) (st1 := [.int v13]) C hE hW hl.1 (kX7_at l D cI cZ cJ _ q_now_second q_now_second_numbers u_now_second_numbers p1 p2 v13 h14) gX9_remove_X7_at rfl (by decide +kernel) rfl ⟨Nat.le_of_ble_eq_true rfl, Nat.le_of_ble_eq_true rfl⟩ ⟨Nat.zero_le _, Nat.zero_le _⟩ rfl rfl [4, 5] rfl rfl (Nat.le_of_ble_eq_true rfl) rfl rfl dX9_remove_13 (fun H locs hW => ?_)
      refine lv_istore (lv' := [(5, .int v13), (4, .ref q_now_second), (0, .ref q), (1, .int p0), (2, .int p1), (3, .int p2)]) hx hb dX9_remove_16 hl (by decide) rfl (fun ls hl => ?_)
      refine lv_aload_n hx hb dX9_remove_18 rfl (lv_at hl 2 rfl) ?_
      refine k_get C hE hW iX9 0 rfl rfl 2 (by decide) f22 (fun _ h9 => h9) rfl dX9_remove_19 ?_
      refine lv_aload_n hx hb dX9_remove_22 rfl (lv_at hl 2 rfl) ?_
      refine k_get C hE hW iX9 0 rfl rfl 0 (by decide) f12 (fun _ h9 => h9) rfl dX9_remove_23 ?_
      obtain ⟨⟨w15, w16, w17⟩, h18, hf⟩ := bd1_s hf
      replace hf := un3_s hf
      refine k_callV (b := q_past) (ci := 3) (qb := 0) (As := [.ref q_now]) (n := 1) (rest := []) (st1 := []) (wr := [(q, .inr (8, [.ref q_now, .ref q_trial, .ref q_past, .ref q_text, .ref q_reader, .ref q_slot0, .ref q_slot1, .ref q_greatestPath, .ref q_fillingsOfShape]))]) (ws' := [(q, .inr (8, [.ref q_now, .ref q_trial, .ref q_past, .ref q_text, .ref q_reader, .ref q_slot0, .ref q_slot1, .ref q_greatestPath, .ref q_fillingsOfShape])), (q_now, .inr (2, [.ref q_now_first, .ref q_now_second])), (q_now_first, .inr (6, [.ref q_now_first_numbers])), (q_now_first_numbers, .inl (cI, 36, .inl u_now_first_numbers)), (q_now_second, .inr (6, [.ref q_now_second_numbers])), (q_now_second_numbers, .inl (cI, 36, .inl u_now_second_numbers)), (q_past, .inr (3, [.ref q_past_numbers, .int w15, .int w16])), (q_past_numbers, .inl (cI, 1008, .inl w17))]) C hE hW hl.1 (kX3_remember l D cI cZ cJ _ q_past q_past_numbers q_now q_now_first q_now_first_numbers q_now_second q_now_second_numbers u_past_oldest u_past_remembered u_past_numbers u_now_first_numbers u_now_second_numbers w15 w16 w17 h18) gX9_remove_X3_remember rfl (by decide +kernel) rfl ⟨Nat.le_of_ble_eq_true rfl, Nat.le_of_ble_eq_true rfl⟩ ⟨Nat.zero_le _, Nat.zero_le _⟩ rfl rfl [6, 7, 1, 2, 3, 4, 5] [0] [0, 3, 4, 5, 6, 7, 1, 2] rfl rfl rfl rfl (by decide) rfl rfl (Nat.le_of_ble_eq_true rfl) rfl rfl dX9_remove_26 (fun H locs hW => ?_)
      refine lv_aload hx hb dX9_remove_29 (lv_at hl 1 rfl) ?_
      refine lv_iload_n hx hb dX9_remove_31 rfl (lv_at hl 4 rfl) ?_
      refine lv_iload_n hx hb dX9_remove_32 rfl (lv_at hl 5 rfl) ?_
      obtain ⟨⟨v19, w20⟩, h21, hf⟩ := bd1_s hf
      replace hf := un2_s hf
      refine k_callV (b := q_now_second) (ci := 6) (qb := 0) (As := [.int p1, .int p2]) (n := 2) (rest := []) (st1 := [.int v19]) (wr := [(q, .inr (8, [.ref q_now, .ref q_trial, .ref q_past, .ref q_text, .ref q_reader, .ref q_slot0, .ref q_slot1, .ref q_greatestPath, .ref q_fillingsOfShape])), (q_now, .inr (2, [.ref q_now_first, .ref q_now_second])), (q_now_first, .inr (6, [.ref q_now_first_numbers])), (q_now_first_numbers, .inl (cI, 36, .inl u_now_first_numbers)), (q_past, .inr (3, [.ref q_past_numbers, .int w15, .int w16])), (q_past_numbers, .inl (cI, 1008, .inl w17))]) (ws' := [(q, .inr (8, [.ref q_now, .ref q_trial, .ref q_past, .ref q_text, .ref q_reader, .ref q_slot0, .ref q_slot1, .ref q_greatestPath, .ref q_fillingsOfShape])), (q_now, .inr (2, [.ref q_now_first, .ref q_now_second])), (q_now_first, .inr (6, [.ref q_now_first_numbers])), (q_now_first_numbers, .inl (cI, 36, .inl u_now_first_numbers)), (q_now_second, .inr (6, [.ref q_now_second_numbers])), (q_now_second_numbers, .inl (cI, 36, .inl w20)), (q_past, .inr (3, [.ref q_past_numbers, .int w15, .int w16])), (q_past_numbers, .inl (cI, 1008, .inl w17))]) C hE hW hl.1 (kX7_takeAway l D cI cZ cJ _ q_now_second q_now_second_numbers u_now_second_numbers p1 p2 v19 w20 h21) gX9_remove_X7_takeAway rfl (by decide +kernel) rfl ⟨Nat.le_of_ble_eq_true rfl, Nat.le_of_ble_eq_true rfl⟩ ⟨Nat.zero_le _, Nat.zero_le _⟩ rfl rfl [4, 5] [0, 1, 2, 3, 6, 7] [0, 1, 2, 3, 6, 7, 4, 5] rfl rfl rfl rfl (by decide) rfl rfl (Nat.le_of_ble_eq_true rfl) rfl rfl dX9_remove_33 (fun H locs hW => ?_)
      refine lv_pop hx hb dX9_remove_36 rfl ?_
      refine lv_iload hx hb dX9_remove_37 (lv_at hl 0 rfl) ?_
      obtain rfl := Option.some.inj hf
      subst hO
      exact kx_iret C hlocks hr hW hQ dX9_remove_39

set_option maxHeartbeats 4000000 in
set_option maxRecDepth 100000 in
theorem kX9_change (l : Launch) (hlt : l.stackTraces = false) (D : va_G) (cI cZ cJ : ClassId) (sz : Nat) (q q_now q_now_first q_now_first_numbers q_now_second q_now_second_numbers q_past q_past_numbers q_trial q_text q_reader q_slot0 q_slot1 q_greatestPath q_fillingsOfShape : Nat) (u_now_first_numbers : Nat → Int32) (u_now_second_numbers : Nat → Int32) (u_past_oldest : Int32) (u_past_remembered : Int32) (u_past_numbers : Nat → Int32) (p0 : Int32) (p1 : Int32) (p2 : Int32) (p3 : Int32) (out : (Nat × (Nat → Int32) × (Nat → Int32) × Int32 × Int32 × (Nat → Int32)) ⊕ (Int32 × (Nat → Int32) × (Nat → Int32) × Int32 × Int32 × (Nat → Int32))) (hf : pX9_change u_now_first_numbers u_now_second_numbers u_past_oldest u_past_remembered u_past_numbers p0 p1 p2 p3 = some out) : kMetX l D cI cZ cJ yX9_change wsX9_change 8 135 [.ref q, .int p0, .int p1, .int p2, .int p3] [(q, .inr (8, [.ref q_now, .ref q_trial, .ref q_past, .ref q_text, .ref q_reader, .ref q_slot0, .ref q_slot1, .ref q_greatestPath, .ref q_fillingsOfShape])), (q_now, .inr (2, [.ref q_now_first, .ref q_now_second])), (q_now_first, .inr (6, [.ref q_now_first_numbers])), (q_now_first_numbers, .inl (cI, 36, .inl u_now_first_numbers)), (q_now_second, .inr (6, [.ref q_now_second_numbers])), (q_now_second_numbers, .inl (cI, 36, .inl u_now_second_numbers)), (q_past, .inr (3, [.ref q_past_numbers, .int u_past_oldest, .int u_past_remembered])), (q_past_numbers, .inl (cI, 1008, .inl u_past_numbers))] sz (kSel out (un6 (fun k u_now_first_numbers' u_now_second_numbers' u_past_oldest' u_past_remembered' u_past_numbers' =>  .inl (k, [(q, .inr (8, [.ref q_now, .ref q_trial, .ref q_past, .ref q_text, .ref q_reader, .ref q_slot0, .ref q_slot1, .ref q_greatestPath, .ref q_fillingsOfShape])), (q_now, .inr (2, [.ref q_now_first, .ref q_now_second])), (q_now_first, .inr (6, [.ref q_now_first_numbers])), (q_now_first_numbers, .inl (cI, 36, .inl u_now_first_numbers')), (q_now_second, .inr (6, [.ref q_now_second_numbers])), (q_now_second_numbers, .inl (cI, 36, .inl u_now_second_numbers')), (q_past, .inr (3, [.ref q_past_numbers, .int u_past_oldest', .int u_past_remembered'])), (q_past_numbers, .inl (cI, 1008, .inl u_past_numbers'))]))) (un6 (fun r u_now_first_numbers' u_now_second_numbers' u_past_oldest' u_past_remembered' u_past_numbers' =>  .inr ((some (.int r)), [(q, .inr (8, [.ref q_now, .ref q_trial, .ref q_past, .ref q_text, .ref q_reader, .ref q_slot0, .ref q_slot1, .ref q_greatestPath, .ref q_fillingsOfShape])), (q_now, .inr (2, [.ref q_now_first, .ref q_now_second])), (q_now_first, .inr (6, [.ref q_now_first_numbers])), (q_now_first_numbers, .inl (cI, 36, .inl u_now_first_numbers')), (q_now_second, .inr (6, [.ref q_now_second_numbers])), (q_now_second_numbers, .inl (cI, 36, .inl u_now_second_numbers')), (q_past, .inr (3, [.ref q_past_numbers, .int u_past_oldest', .int u_past_remembered'])), (q_past_numbers, .inl (cI, 1008, .inl u_past_numbers'))])))) := by
  generalize hO : (kSel out (un6 (fun k u_now_first_numbers' u_now_second_numbers' u_past_oldest' u_past_remembered' u_past_numbers' =>  .inl (k, [(q, .inr (8, [.ref q_now, .ref q_trial, .ref q_past, .ref q_text, .ref q_reader, .ref q_slot0, .ref q_slot1, .ref q_greatestPath, .ref q_fillingsOfShape])), (q_now, .inr (2, [.ref q_now_first, .ref q_now_second])), (q_now_first, .inr (6, [.ref q_now_first_numbers])), (q_now_first_numbers, .inl (cI, 36, .inl u_now_first_numbers')), (q_now_second, .inr (6, [.ref q_now_second_numbers])), (q_now_second_numbers, .inl (cI, 36, .inl u_now_second_numbers')), (q_past, .inr (3, [.ref q_past_numbers, .int u_past_oldest', .int u_past_remembered'])), (q_past_numbers, .inl (cI, 1008, .inl u_past_numbers'))]))) (un6 (fun r u_now_first_numbers' u_now_second_numbers' u_past_oldest' u_past_remembered' u_past_numbers' =>  .inr ((some (.int r)), [(q, .inr (8, [.ref q_now, .ref q_trial, .ref q_past, .ref q_text, .ref q_reader, .ref q_slot0, .ref q_slot1, .ref q_greatestPath, .ref q_fillingsOfShape])), (q_now, .inr (2, [.ref q_now_first, .ref q_now_second])), (q_now_first, .inr (6, [.ref q_now_first_numbers])), (q_now_first_numbers, .inl (cI, 36, .inl u_now_first_numbers')), (q_now_second, .inr (6, [.ref q_now_second_numbers])), (q_now_second_numbers, .inl (cI, 36, .inl u_now_second_numbers')), (q_past, .inr (3, [.ref q_past_numbers, .int u_past_oldest', .int u_past_remembered'])), (q_past_numbers, .inl (cI, 1008, .inl u_past_numbers'))])))) = o
  refine kX_of (cc := cX9_change) (maxL := 6) (ret := (some .int)) (by decide) rfl (Nat.le_of_ble_eq_true rfl) ?_
  intro p e s m args below meth c A Q ls hQ C hout hlocks hr hE hW hl
  have hx := C.1
  have hb := C.2.1
  have hts := C.2.2.2.2
  have hl : lv_has ls 6 [(0, .ref q), (1, .int p0), (2, .int p1), (3, .int p2), (4, .int p3)] := hl
  have iX9 : ∀ w ∈ u_ws RX9 TX9 9, w ∈ wsX9_change := by decide +kernel
  have f12 := hts (.fieldLink RX9 12 "SortedTables" "now" "LSortedTables$Pair;") (by decide +kernel)
  have f22 := hts (.fieldLink RX9 22 "SortedTables" "past" "LSortedTables$Past;") (by decide +kernel)
  unfold pX9_change at hf
  refine lv_aload_n hx hb dX9_change_0 rfl (lv_at hl 0 rfl) ?_
  refine lv_iload_n hx hb dX9_change_1 rfl (lv_at hl 1 rfl) ?_
  refine lv_iload_n hx hb dX9_change_2 rfl (lv_at hl 2 rfl) ?_
  refine lv_iload_n hx hb dX9_change_3 rfl (lv_at hl 3 rfl) ?_
  rcases bdE_s hf with ⟨k3, h2, hf⟩ | ⟨b1, h2, hf⟩
  · obtain rfl := Option.some.inj hf
    subst hO
    exact kx_thrV (b := q) (ci := 8) (qb := 0) (As := [.int p0, .int p1, .int p2]) (n := 3) (rest := []) (wr := [(q_past, .inr (3, [.ref q_past_numbers, .int u_past_oldest, .int u_past_remembered])), (q_past_numbers, .inl (cI, 1008, .inl u_past_numbers))]) (ws' := [(q, .inr (8, [.ref q_now, .ref q_trial, .ref q_past, .ref q_text, .ref q_reader, .ref q_slot0, .ref q_slot1, .ref q_greatestPath, .ref q_fillingsOfShape])), (q_now, .inr (2, [.ref q_now_first, .ref q_now_second])), (q_now_first, .inr (6, [.ref q_now_first_numbers])), (q_now_first_numbers, .inl (cI, 36, .inl u_now_first_numbers)), (q_now_second, .inr (6, [.ref q_now_second_numbers])), (q_now_second_numbers, .inl (cI, 36, .inl u_now_second_numbers)), (q_past, .inr (3, [.ref q_past_numbers, .int u_past_oldest, .int u_past_remembered])), (q_past_numbers, .inl (cI, 1008, .inl u_past_numbers))]) C hout hlocks hE hW hl.1 (kX9_tableWithCell l hlt D cI cZ cJ _ q q_now q_now_first q_now_first_numbers q_now_second q_now_second_numbers q_trial q_past q_text q_reader q_slot0 q_slot1 q_greatestPath q_fillingsOfShape u_now_first_numbers u_now_second_numbers p0 p1 p2 (.inl k3) h2) gX9_change_X9_tableWithCell rfl (by decide +kernel) rfl ⟨Nat.le_of_ble_eq_true rfl, Nat.le_of_ble_eq_true rfl⟩ ⟨Nat.le_of_ble_eq_true rfl, Nat.le_of_ble_eq_true rfl⟩ rfl rfl [0, 1, 2, 3, 4, 5] [6, 7] [2, 3, 4, 5, 6, 7, 0, 1] rfl rfl rfl rfl (by decide) rfl rfl (Nat.le_of_ble_eq_true rfl) rfl dX9_change_4 hQ
  · cases b1 with
    | true =>
      replace hf := cd_t hf
      refine k_callVR (b := q) (ci := 8) (qb := 0) (As := [.int p0, .int p1, .int p2]) (n := 3) (rest := []) (st1 := [.ref q_now_first]) C hE hW hl.1 (kMetX.ret (kX9_tableWithCell l hlt D cI cZ cJ _ q q_now q_now_first q_now_first_numbers q_now_second q_now_second_numbers q_trial q_past q_text q_reader q_slot0 q_slot1 q_greatestPath q_fillingsOfShape u_now_first_numbers u_now_second_numbers p0 p1 p2 (.inr true) h2)) gX9_change_X9_tableWithCell rfl (by decide +kernel) rfl ⟨Nat.le_of_ble_eq_true rfl, Nat.le_of_ble_eq_true rfl⟩ ⟨Nat.zero_le _, Nat.zero_le _⟩ rfl rfl [0, 1, 2, 3, 4, 5] rfl rfl (Nat.le_of_ble_eq_true rfl) rfl rfl dX9_change_4 (fun H locs hW => ?_)
      refine lv_astore (lv' := [(5, .ref q_now_first), (0, .ref q), (1, .int p0), (2, .int p1), (3, .int p2), (4, .int p3)]) hx hb dX9_change_7 hl (by decide) rfl (fun ls hl => ?_)
      refine lv_iload hx hb dX9_change_9 (lv_at hl 5 rfl) ?_
      refine lv_iconst (v := 0) hx hb dX9_change_11 (by decide) ?_
      refine lv_bipush (v := 99) hx hb dX9_change_12 (by decide) ?_
      rcases bdE_s hf with ⟨k5, h4, hf⟩ | ⟨_, h4, hf⟩
      · obtain rfl := Option.some.inj hf
        subst hO
        exact kx_thrS (As := [.int p3, .int 0, .int 99]) (n := 3) (rest := []) (wr := [(q, .inr (8, [.ref q_now, .ref q_trial, .ref q_past, .ref q_text, .ref q_reader, .ref q_slot0, .ref q_slot1, .ref q_greatestPath, .ref q_fillingsOfShape])), (q_now, .inr (2, [.ref q_now_first, .ref q_now_second])), (q_now_first, .inr (6, [.ref q_now_first_numbers])), (q_now_first_numbers, .inl (cI, 36, .inl u_now_first_numbers)), (q_now_second, .inr (6, [.ref q_now_second_numbers])), (q_now_second_numbers, .inl (cI, 36, .inl u_now_second_numbers)), (q_past, .inr (3, [.ref q_past_numbers, .int u_past_oldest, .int u_past_remembered])), (q_past_numbers, .inl (cI, 1008, .inl u_past_numbers))]) (ws' := [(q, .inr (8, [.ref q_now, .ref q_trial, .ref q_past, .ref q_text, .ref q_reader, .ref q_slot0, .ref q_slot1, .ref q_greatestPath, .ref q_fillingsOfShape])), (q_now, .inr (2, [.ref q_now_first, .ref q_now_second])), (q_now_first, .inr (6, [.ref q_now_first_numbers])), (q_now_first_numbers, .inl (cI, 36, .inl u_now_first_numbers)), (q_now_second, .inr (6, [.ref q_now_second_numbers])), (q_now_second_numbers, .inl (cI, 36, .inl u_now_second_numbers)), (q_past, .inr (3, [.ref q_past_numbers, .int u_past_oldest, .int u_past_remembered])), (q_past_numbers, .inl (cI, 1008, .inl u_past_numbers))]) C hout hlocks hE hW hl.1 (kX9_requireRange l hlt D cI cZ cJ _ p3 0 99 (.inl k5) h4) gX9_change_X9_requireRange rfl (by decide +kernel) rfl ⟨Nat.le_of_ble_eq_true rfl, Nat.le_of_ble_eq_true rfl⟩ ⟨Nat.le_of_ble_eq_true rfl, Nat.le_of_ble_eq_true rfl⟩ [] [0, 1, 2, 3, 4, 5, 6, 7] [0, 1, 2, 3, 4, 5, 6, 7] rfl rfl rfl rfl (by decide) rfl rfl (Nat.le_of_ble_eq_true rfl) rfl dX9_change_14 hQ
      · refine k_callSR (As := [.int p3, .int 0, .int 99]) (n := 3) (rest := []) (st1 := []) C hE hW hl.1 (kMetX.ret (kX9_requireRange l hlt D cI cZ cJ _ p3 0 99 (.inr ()) h4)) gX9_change_X9_requireRange rfl (by decide +kernel) rfl ⟨Nat.le_of_ble_eq_true rfl, Nat.le_of_ble_eq_true rfl⟩ ⟨Nat.zero_le _, Nat.zero_le _⟩ [] rfl rfl (Nat.le_of_ble_eq_true rfl) rfl rfl dX9_change_14 (fun H locs hW => ?_)
        refine lv_aload_n hx hb dX9_change_17 rfl (lv_at hl 1 rfl) ?_
        refine k_get C hE hW iX9 0 rfl rfl 2 (by decide) f22 (fun _ h9 => h9) rfl dX9_change_18 ?_
        refine lv_aload_n hx hb dX9_change_21 rfl (lv_at hl 1 rfl) ?_
        refine k_get C hE hW iX9 0 rfl rfl 0 (by decide) f12 (fun _ h9 => h9) rfl dX9_change_22 ?_
        obtain ⟨⟨w6, w7, w8⟩, h9, hf⟩ := bd1_s hf
        replace hf := un3_s hf
        refine k_callV (b := q_past) (ci := 3) (qb := 0) (As := [.ref q_now]) (n := 1) (rest := []) (st1 := []) (wr := [(q, .inr (8, [.ref q_now, .ref q_trial, .ref q_past, .ref q_text, .ref q_reader, .ref q_slot0, .ref q_slot1, .ref q_greatestPath, .ref q_fillingsOfShape]))]) (ws' := [(q, .inr (8, [.ref q_now, .ref q_trial, .ref q_past, .ref q_text, .ref q_reader, .ref q_slot0, .ref q_slot1, .ref q_greatestPath, .ref q_fillingsOfShape])), (q_now, .inr (2, [.ref q_now_first, .ref q_now_second])), (q_now_first, .inr (6, [.ref q_now_first_numbers])), (q_now_first_numbers, .inl (cI, 36, .inl u_now_first_numbers)), (q_now_second, .inr (6, [.ref q_now_second_numbers])), (q_now_second_numbers, .inl (cI, 36, .inl u_now_second_numbers)), (q_past, .inr (3, [.ref q_past_numbers, .int w6, .int w7])), (q_past_numbers, .inl (cI, 1008, .inl w8))]) C hE hW hl.1 (kX3_remember l D cI cZ cJ _ q_past q_past_numbers q_now q_now_first q_now_first_numbers q_now_second q_now_second_numbers u_past_oldest u_past_remembered u_past_numbers u_now_first_numbers u_now_second_numbers w6 w7 w8 h9) gX9_change_X3_remember rfl (by decide +kernel) rfl ⟨Nat.le_of_ble_eq_true rfl, Nat.le_of_ble_eq_true rfl⟩ ⟨Nat.zero_le _, Nat.zero_le _⟩ rfl rfl [6, 7, 1, 2, 3, 4, 5] [0] [0, 3, 4, 5, 6, 7, 1, 2] rfl rfl rfl rfl (by decide) rfl rfl (Nat.le_of_ble_eq_true rfl) rfl rfl dX9_change_25 (fun H locs hW => ?_)
        refine lv_aload hx hb dX9_change_28 (lv_at hl 0 rfl) ?_
        refine lv_iload_n hx hb dX9_change_30 rfl (lv_at hl 3 rfl) ?_
        refine lv_iload_n hx hb dX9_change_31 rfl (lv_at hl 4 rfl) ?_
        refine lv_iload hx hb dX9_change_32 (lv_at hl 5 rfl) ?_
        obtain ⟨⟨v10, w11⟩, h12, hf⟩ := bd1_s hf
        replace hf := un2_s hf
        refine k_callV (b := q_now_first) (ci := 6) (qb := 0) (As := [.int p1, .int p2, .int p3]) (n := 3) (rest := []) (st1 := [.int v10]) (wr := [(q, .inr (8, [.ref q_now, .ref q_trial, .ref q_past, .ref q_text, .ref q_reader, .ref q_slot0, .ref q_slot1, .ref q_greatestPath, .ref q_fillingsOfShape])), (q_now, .inr (2, [.ref q_now_first, .ref q_now_second])), (q_now_second, .inr (6, [.ref q_now_second_numbers])), (q_now_second_numbers, .inl (cI, 36, .inl u_now_second_numbers)), (q_past, .inr (3, [.ref q_past_numbers, .int w6, .int w7])), (q_past_numbers, .inl (cI, 1008, .inl w8))]) (ws' := [(q, .inr (8, [.ref q_now, .ref q_trial, .ref q_past, .ref q_text, .ref q_reader, .ref q_slot0, .ref q_slot1, .ref q_greatestPath, .ref q_fillingsOfShape])), (q_now, .inr (2, [.ref q_now_first, .ref q_now_second])), (q_now_first, .inr (6, [.ref q_now_first_numbers])), (q_now_first_numbers, .inl (cI, 36, .inl w11)), (q_now_second, .inr (6, [.ref q_now_second_numbers])), (q_now_second_numbers, .inl (cI, 36, .inl u_now_second_numbers)), (q_past, .inr (3, [.ref q_past_numbers, .int w6, .int w7])), (q_past_numbers, .inl (cI, 1008, .inl w8))]) C hE hW hl.1 (kX7_replace l D cI cZ cJ _ q_now_first q_now_first_numbers u_now_first_numbers p1 p2 p3 v10 w11 h12) gX9_change_X7_replace rfl (by decide +kernel) rfl ⟨Nat.le_of_ble_eq_true rfl, Nat.le_of_ble_eq_true rfl⟩ ⟨Nat.zero_le _, Nat.zero_le _⟩ rfl rfl [2, 3] [0, 1, 4, 5, 6, 7] [0, 1, 6, 7, 2, 3, 4, 5] rfl rfl rfl rfl (by decide) rfl rfl (Nat.le_of_ble_eq_true rfl) rfl rfl dX9_change_34 (fun H locs hW => ?_)
        obtain rfl := Option.some.inj hf
        subst hO
        exact kx_iret C hlocks hr hW hQ dX9_change_37
    | false =>
      replace hf := cd_f hf
      refine k_callVR (b := q) (ci := 8) (qb := 0) (As := [.int p0, .int p1, .int p2]) (n := 3) (rest := []) (st1 := [.ref q_now_second]) C hE hW hl.1 (kMetX.ret (kX9_tableWithCell l hlt D cI cZ cJ _ q q_now q_now_first q_now_first_numbers q_now_second q_now_second_numbers q_trial q_past q_text q_reader q_slot0 q_slot1 q_greatestPath q_fillingsOfShape u_now_first_numbers u_now_second_numbers p0 p1 p2 (.inr false) h2)) gX9_change_X9_tableWithCell rfl (by decide +kernel) rfl ⟨Nat.le_of_ble_eq_true rfl, Nat.le_of_ble_eq_true rfl⟩ ⟨Nat.zero_le _, Nat.zero_le _⟩ rfl rfl [0, 1, 2, 3, 4, 5] rfl rfl (Nat.le_of_ble_eq_true rfl) rfl rfl dX9_change_4 (fun H locs hW => ?_)
      refine lv_astore (lv' := [(5, .ref q_now_second), (0, .ref q), (1, .int p0), (2, .int p1), (3, .int p2), (4, .int p3)]) hx hb dX9_change_7 hl (by decide) rfl (fun ls hl => ?_)
      refine lv_iload hx hb dX9_change_9 (lv_at hl 5 rfl) ?_
      refine lv_iconst (v := 0) hx hb dX9_change_11 (by decide) ?_
      refine lv_bipush (v := 99) hx hb dX9_change_12 (by decide) ?_
      rcases bdE_s hf with ⟨k14, h13, hf⟩ | ⟨_, h13, hf⟩
      · obtain rfl := Option.some.inj hf
        subst hO
        exact kx_thrS (As := [.int p3, .int 0, .int 99]) (n := 3) (rest := []) (wr := [(q, .inr (8, [.ref q_now, .ref q_trial, .ref q_past, .ref q_text, .ref q_reader, .ref q_slot0, .ref q_slot1, .ref q_greatestPath, .ref q_fillingsOfShape])), (q_now, .inr (2, [.ref q_now_first, .ref q_now_second])), (q_now_first, .inr (6, [.ref q_now_first_numbers])), (q_now_first_numbers, .inl (cI, 36, .inl u_now_first_numbers)), (q_now_second, .inr (6, [.ref q_now_second_numbers])), (q_now_second_numbers, .inl (cI, 36, .inl u_now_second_numbers)), (q_past, .inr (3, [.ref q_past_numbers, .int u_past_oldest, .int u_past_remembered])), (q_past_numbers, .inl (cI, 1008, .inl u_past_numbers))]) (ws' := [(q, .inr (8, [.ref q_now, .ref q_trial, .ref q_past, .ref q_text, .ref q_reader, .ref q_slot0, .ref q_slot1, .ref q_greatestPath, .ref q_fillingsOfShape])), (q_now, .inr (2, [.ref q_now_first, .ref q_now_second])), (q_now_first, .inr (6, [.ref q_now_first_numbers])), (q_now_first_numbers, .inl (cI, 36, .inl u_now_first_numbers)), (q_now_second, .inr (6, [.ref q_now_second_numbers])), (q_now_second_numbers, .inl (cI, 36, .inl u_now_second_numbers)), (q_past, .inr (3, [.ref q_past_numbers, .int u_past_oldest, .int u_past_remembered])), (q_past_numbers, .inl (cI, 1008, .inl u_past_numbers))]) C hout hlocks hE hW hl.1 (kX9_requireRange l hlt D cI cZ cJ _ p3 0 99 (.inl k14) h13) gX9_change_X9_requireRange rfl (by decide +kernel) rfl ⟨Nat.le_of_ble_eq_true rfl, Nat.le_of_ble_eq_true rfl⟩ ⟨Nat.le_of_ble_eq_true rfl, Nat.le_of_ble_eq_true rfl⟩ [] [0, 1, 2, 3, 4, 5, 6, 7] [0, 1, 2, 3, 4, 5, 6, 7] rfl rfl rfl rfl (by decide) rfl rfl (Nat.le_of_ble_eq_true rfl) rfl dX9_change_14 hQ
      · refine k_callSR (As := [.int p3, .int 0, .int 99]) (n := 3) (rest := []) (st1 := []) C hE hW hl.1 (kMetX.ret (kX9_requireRange l hlt D cI cZ cJ _ p3 0 99 (.inr ()) h13)) gX9_change_X9_requireRange rfl (by decide +kernel) rfl ⟨Nat.le_of_ble_eq_true rfl, Nat.le_of_ble_eq_true rfl⟩ ⟨Nat.zero_le _, Nat.zero_le _⟩ [] rfl rfl (Nat.le_of_ble_eq_true rfl) rfl rfl dX9_change_14 (fun H locs hW => ?_)
        refine lv_aload_n hx hb dX9_change_17 rfl (lv_at hl 1 rfl) ?_
        refine k_get C hE hW iX9 0 rfl rfl 2 (by decide) f22 (fun _ h9 => h9) rfl dX9_change_18 ?_
        refine lv_aload_n hx hb dX9_change_21 rfl (lv_at hl 1 rfl) ?_
        refine k_get C hE hW iX9 0 rfl rfl 0 (by decide) f12 (fun _ h9 => h9) rfl dX9_change_22 ?_
        obtain ⟨⟨w15, w16, w17⟩, h18, hf⟩ := bd1_s hf
        replace hf := un3_s hf
        refine k_callV (b := q_past) (ci := 3) (qb := 0) (As := [.ref q_now]) (n := 1) (rest := []) (st1 := []) (wr := [(q, .inr (8, [.ref q_now, .ref q_trial, .ref q_past, .ref q_text, .ref q_reader, .ref q_slot0, .ref q_slot1, .ref q_greatestPath, .ref q_fillingsOfShape]))]) (ws' := [(q, .inr (8, [.ref q_now, .ref q_trial, .ref q_past, .ref q_text, .ref q_reader, .ref q_slot0, .ref q_slot1, .ref q_greatestPath, .ref q_fillingsOfShape])), (q_now, .inr (2, [.ref q_now_first, .ref q_now_second])), (q_now_first, .inr (6, [.ref q_now_first_numbers])), (q_now_first_numbers, .inl (cI, 36, .inl u_now_first_numbers)), (q_now_second, .inr (6, [.ref q_now_second_numbers])), (q_now_second_numbers, .inl (cI, 36, .inl u_now_second_numbers)), (q_past, .inr (3, [.ref q_past_numbers, .int w15, .int w16])), (q_past_numbers, .inl (cI, 1008, .inl w17))]) C hE hW hl.1 (kX3_remember l D cI cZ cJ _ q_past q_past_numbers q_now q_now_first q_now_first_numbers q_now_second q_now_second_numbers u_past_oldest u_past_remembered u_past_numbers u_now_first_numbers u_now_second_numbers w15 w16 w17 h18) gX9_change_X3_remember rfl (by decide +kernel) rfl ⟨Nat.le_of_ble_eq_true rfl, Nat.le_of_ble_eq_true rfl⟩ ⟨Nat.zero_le _, Nat.zero_le _⟩ rfl rfl [6, 7, 1, 2, 3, 4, 5] [0] [0, 3, 4, 5, 6, 7, 1, 2] rfl rfl rfl rfl (by decide) rfl rfl (Nat.le_of_ble_eq_true rfl) rfl rfl dX9_change_25 (fun H locs hW => ?_)
        refine lv_aload hx hb dX9_change_28 (lv_at hl 0 rfl) ?_
        refine lv_iload_n hx hb dX9_change_30 rfl (lv_at hl 3 rfl) ?_
        refine lv_iload_n hx hb dX9_change_31 rfl (lv_at hl 4 rfl) ?_
        refine lv_iload hx hb dX9_change_32 (lv_at hl 5 rfl) ?_
        obtain ⟨⟨v19, w20⟩, h21, hf⟩ := bd1_s hf
        replace hf := un2_s hf
        refine k_callV (b := q_now_second) (ci := 6) (qb := 0) (As := [.int p1, .int p2, .int p3]) (n := 3) (rest := []) (st1 := [.int v19]) (wr := [(q, .inr (8, [.ref q_now, .ref q_trial, .ref q_past, .ref q_text, .ref q_reader, .ref q_slot0, .ref q_slot1, .ref q_greatestPath, .ref q_fillingsOfShape])), (q_now, .inr (2, [.ref q_now_first, .ref q_now_second])), (q_now_first, .inr (6, [.ref q_now_first_numbers])), (q_now_first_numbers, .inl (cI, 36, .inl u_now_first_numbers)), (q_past, .inr (3, [.ref q_past_numbers, .int w15, .int w16])), (q_past_numbers, .inl (cI, 1008, .inl w17))]) (ws' := [(q, .inr (8, [.ref q_now, .ref q_trial, .ref q_past, .ref q_text, .ref q_reader, .ref q_slot0, .ref q_slot1, .ref q_greatestPath, .ref q_fillingsOfShape])), (q_now, .inr (2, [.ref q_now_first, .ref q_now_second])), (q_now_first, .inr (6, [.ref q_now_first_numbers])), (q_now_first_numbers, .inl (cI, 36, .inl u_now_first_numbers)), (q_now_second, .inr (6, [.ref q_now_second_numbers])), (q_now_second_numbers, .inl (cI, 36, .inl w20)), (q_past, .inr (3, [.ref q_past_numbers, .int w15, .int w16])), (q_past_numbers, .inl (cI, 1008, .inl w17))]) C hE hW hl.1 (kX7_replace l D cI cZ cJ _ q_now_second q_now_second_numbers u_now_second_numbers p1 p2 p3 v19 w20 h21) gX9_change_X7_replace rfl (by decide +kernel) rfl ⟨Nat.le_of_ble_eq_true rfl, Nat.le_of_ble_eq_true rfl⟩ ⟨Nat.zero_le _, Nat.zero_le _⟩ rfl rfl [4, 5] [0, 1, 2, 3, 6, 7] [0, 1, 2, 3, 6, 7, 4, 5] rfl rfl rfl rfl (by decide) rfl rfl (Nat.le_of_ble_eq_true rfl) rfl rfl dX9_change_34 (fun H locs hW => ?_)
        obtain rfl := Option.some.inj hf
        subst hO
        exact kx_iret C hlocks hr hW hQ dX9_change_37
