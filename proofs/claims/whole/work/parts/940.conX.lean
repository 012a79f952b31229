set_option maxHeartbeats 4000000 in
set_option maxRecDepth 100000 in
theorem kX7_at (l : Launch) (D : va_G) (cI cZ cJ : ClassId) (sz : Nat) (q q_numbers : Nat) (u_numbers : Nat → Int32) (p0 : Int32) (p1 : Int32) (r : Int32) (hf : pX7_at u_numbers p0 p1 = some r) : kMet l D cI cZ cJ yX7_at wsX7_at 0 0 [.ref q, .int p0, .int p1] [(q, .inr (6, [.ref q_numbers])), (q_numbers, .inl (cI, 36, .inl u_numbers))] sz (some (.int r)) [(q, .inr (6, [.ref q_numbers])), (q_numbers, .inl (cI, 36, .inl u_numbers))] := by
  refine kM_of (cc := cX7_at) (maxL := 3) (ret := (some .int)) (by decide) rfl (Nat.le_of_ble_eq_true rfl) ?_
  intro p e s m args below meth c A Q ls hQ C hlocks hr hE hW hl
  have hx := C.1
  have hb := C.2.1
  have hts := C.2.2.2.2
  have hl : lv_has ls 3 [(0, .ref q), (1, .int p0), (2, .int p1)] := hl
  have iX7 : ∀ w ∈ u_ws RX7 TX7 1, w ∈ wsX7_at := by decide +kernel
  have f9 := hts (.fieldLink RX7 9 "SortedTables$Table" "numbers" "[I") (by decide +kernel)
  unfold pX7_at at hf
  refine lv_iload_n hx hb dX7_at_0 rfl (lv_at hl 1 rfl) ?_
  refine lv_if_lt (tgt := 20) hx hb dX7_at_1 (by decide) (fun hc => ?_) (fun hc => ?_)
  · replace hf := if_t hc hf
    refine lv_iconst (v := (-1)) hx hb dX7_at_20 (by decide) ?_
    obtain rfl := Option.some.inj hf
    exact k_iret C hlocks hr hW hQ dX7_at_21
  · replace hf := if_f hc hf
    refine lv_iload_n hx hb dX7_at_4 rfl (lv_at hl 1 rfl) ?_
    refine lv_bipush (v := 6) hx hb dX7_at_5 (by decide) ?_
    refine lv_icmp_ge (tgt := 20) hx hb dX7_at_7 (by decide) (fun hc => ?_) (fun hc => ?_)
    · replace hf := if_t hc hf
      refine lv_iconst (v := (-1)) hx hb dX7_at_20 (by decide) ?_
      obtain rfl := Option.some.inj hf
      exact k_iret C hlocks hr hW hQ dX7_at_21
    · replace hf := if_f hc hf
      refine lv_iload_n hx hb dX7_at_10 rfl (lv_at hl 2 rfl) ?_
      refine lv_if_lt (tgt := 20) hx hb dX7_at_11 (by decide) (fun hc => ?_) (fun hc => ?_)
      · replace hf := if_t hc hf
        refine lv_iconst (v := (-1)) hx hb dX7_at_20 (by decide) ?_
        obtain rfl := Option.some.inj hf
        exact k_iret C hlocks hr hW hQ dX7_at_21
      · replace hf := if_f hc hf
        refine lv_iload_n hx hb dX7_at_14 rfl (lv_at hl 2 rfl) ?_
        refine lv_bipush (v := 6) hx hb dX7_at_15 (by decide) ?_
        refine lv_icmp_lt (tgt := 22) hx hb dX7_at_17 (by decide) (fun hc => ?_) (fun hc => ?_)
        · replace hf := if_t hc hf
          refine lv_aload_n hx hb dX7_at_22 rfl (lv_at hl 0 rfl) ?_
          refine k_get C hE hW iX7 0 rfl rfl 0 (by decide) f9 (fun _ h9 => h9) rfl dX7_at_23 ?_
          refine lv_iload_n hx hb dX7_at_26 rfl (lv_at hl 1 rfl) ?_
          refine lv_bipush (v := 6) hx hb dX7_at_27 (by decide) ?_
          refine lv_imul hx hb dX7_at_29 ?_
          refine lv_iload_n hx hb dX7_at_30 rfl (lv_at hl 2 rfl) ?_
          refine lv_iadd hx hb dX7_at_31 ?_
          obtain ⟨v1, h2, hf⟩ := bd1_s hf
          refine k_iald C hE hW 1 rfl h2 dX7_at_32 ?_
          obtain rfl := Option.some.inj hf
          exact k_iret C hlocks hr hW hQ dX7_at_33
        · replace hf := if_f hc hf
          refine lv_iconst (v := (-1)) hx hb dX7_at_20 (by decide) ?_
          obtain rfl := Option.some.inj hf
          exact k_iret C hlocks hr hW hQ dX7_at_21

set_option maxHeartbeats 4000000 in
set_option maxRecDepth 100000 in
theorem kX7_has (l : Launch) (D : va_G) (cI cZ cJ : ClassId) (sz : Nat) (q q_numbers : Nat) (u_numbers : Nat → Int32) (p0 : Int32) (p1 : Int32) (r : Int32) (hf : pX7_has u_numbers p0 p1 = some r) : kMet l D cI cZ cJ yX7_has wsX7_has 1 22 [.ref q, .int p0, .int p1] [(q, .inr (6, [.ref q_numbers])), (q_numbers, .inl (cI, 36, .inl u_numbers))] sz (some (.int r)) [(q, .inr (6, [.ref q_numbers])), (q_numbers, .inl (cI, 36, .inl u_numbers))] := by
  refine kM_of (cc := cX7_has) (maxL := 3) (ret := (some .boolean)) (by decide) rfl (Nat.le_of_ble_eq_true rfl) ?_
  intro p e s m args below meth c A Q ls hQ C hlocks hr hE hW hl
  have hx := C.1
  have hb := C.2.1
  have hts := C.2.2.2.2
  have hl : lv_has ls 3 [(0, .ref q), (1, .int p0), (2, .int p1)] := hl
  unfold pX7_has at hf
  refine lv_aload_n hx hb dX7_has_0 rfl (lv_at hl 0 rfl) ?_
  refine lv_iload_n hx hb dX7_has_1 rfl (lv_at hl 1 rfl) ?_
  refine lv_iload_n hx hb dX7_has_2 rfl (lv_at hl 2 rfl) ?_
  obtain ⟨v1, h2, hf⟩ := bd1_s hf
  refine k_callVR (b := q) (ci := 6) (qb := 0) (As := [.int p0, .int p1]) (n := 2) (rest := []) (st1 := [.int v1]) C hE hW hl.1 (kX7_at l D cI cZ cJ _ q q_numbers u_numbers p0 p1 v1 h2) gX7_has_X7_at rfl (by decide +kernel) rfl ⟨Nat.le_of_ble_eq_true rfl, Nat.le_of_ble_eq_true rfl⟩ ⟨Nat.zero_le _, Nat.zero_le _⟩ rfl rfl [0, 1] rfl rfl (Nat.le_of_ble_eq_true rfl) rfl rfl dX7_has_3 (fun H locs hW => ?_)
  refine lv_iconst (v := (-1)) hx hb dX7_has_6 (by decide) ?_
  refine lv_icmp_eq (tgt := 14) hx hb dX7_has_7 (by decide) (fun hc => ?_) (fun hc => ?_)
  · replace hf := if_t hc hf
    refine lv_iconst (v := 0) hx hb dX7_has_14 (by decide) ?_
    obtain rfl := Option.some.inj hf
    exact k_zret C hlocks hr hW (by decide) hQ dX7_has_15
  · replace hf := if_f hc hf
    refine lv_iconst (v := 1) hx hb dX7_has_10 (by decide) ?_
    refine lv_goto (tgt := 15) hx hb dX7_has_11 (by decide) ?_
    obtain rfl := Option.some.inj hf
    exact k_zret C hlocks hr hW (by decide) hQ dX7_has_15

set_option maxHeartbeats 4000000 in
set_option maxRecDepth 100000 in
theorem kX7_columnLength (l : Launch) (D : va_G) (cI cZ cJ : ClassId) (sz : Nat) (q q_numbers : Nat) (u_numbers : Nat → Int32) (p0 : Int32) (r : Int32) (hf : pX7_columnLength u_numbers p0 = some r) : kMet l D cI cZ cJ yX7_columnLength wsX7_columnLength 1 22 [.ref q, .int p0] [(q, .inr (6, [.ref q_numbers])), (q_numbers, .inl (cI, 36, .inl u_numbers))] sz (some (.int r)) [(q, .inr (6, [.ref q_numbers])), (q_numbers, .inl (cI, 36, .inl u_numbers))] := by
  refine kM_of (cc := cX7_columnLength) (maxL := 4) (ret := (some .int)) (by decide) rfl (Nat.le_of_ble_eq_true rfl) ?_
  intro p e s m args below meth c A Q ls hQ C hlocks hr hE hW hl
  have hx := C.1
  have hb := C.2.1
  have hts := C.2.2.2.2
  have hl : lv_has ls 4 [(0, .ref q), (1, .int p0)] := hl
  unfold pX7_columnLength at hf
  refine lv_iconst (v := 0) hx hb dX7_columnLength_0 (by decide) ?_
  refine lv_istore_n (lv' := [(2, .int 0), (0, .ref q), (1, .int p0)]) hx hb dX7_columnLength_1 rfl hl (by decide) rfl (fun ls hl => ?_)
  refine lv_iconst (v := 0) hx hb dX7_columnLength_2 (by decide) ?_
  refine lv_istore_n (lv' := [(3, .int 0), (2, .int 0), (0, .ref q), (1, .int p0)]) hx hb dX7_columnLength_3 rfl hl (by decide) rfl (fun ls hl => ?_)
  obtain ⟨x3, hx50, hf⟩ := bd1_s hf
  have J6 : ∀ (H : Heap) (locs : List Loc) (ls : Array Slot), kH D A s H locs [(q, .inr (6, [.ref q_numbers])), (q_numbers, .inl (cI, 36, .inl u_numbers))] → lv_has ls 4 [(2, .int x3)] → W p l e (kRm 1 22 0 0) s m args below meth c H locs 0 0 Q (F0 m 29 ls []) := by
    intro H locs ls hW hl
    refine lv_iload_n hx hb dX7_columnLength_29 rfl (lv_at hl 0 rfl) ?_
    obtain rfl := Option.some.inj hf
    exact k_iret C hlocks hr hW hQ dX7_columnLength_30
  have L7 : ∀ (n : Nat) (i1 : Int32) (i2 : Int32), lpI n (un2 (pX7_columnLength_L4 u_numbers p0)) (i1, i2) = some x3 → ∀ (H : Heap) (locs : List Loc) (ls : Array Slot), kH D A s H locs [(q, .inr (6, [.ref q_numbers])), (q_numbers, .inl (cI, 36, .inl u_numbers))] → lv_has ls 4 [(3, .int i1), (2, .int i2), (0, .ref q), (1, .int p0)] → W p l e (kRm 1 22 0 0) s m args below meth c H locs 0 0 Q (F0 m 4 ls []) := by
    intro n
    induction n with
    | zero => intro i1 i2 hx5; exact (lpI_0 hx5).elim
    | succ n ih9 =>
      intro i1 i2 hx5 H locs ls hW hl
      obtain ⟨ooho4, ho4, hx5⟩ := lpI_s hx5
      replace ho4 := un2_s ho4
      unfold pX7_columnLength_L4 at ho4
      refine lv_iload_n hx hb dX7_columnLength_4 rfl (lv_at hl 0 rfl) ?_
      refine lv_bipush (v := 6) hx hb dX7_columnLength_5 (by decide) ?_
      refine lv_icmp_ge (tgt := 29) hx hb dX7_columnLength_7 (by decide) (fun hc => ?_) (fun hc => ?_)
      · replace ho4 := if_t hc ho4
        obtain rfl := Option.some.inj ho4
        obtain rfl := lpK_r hx5
        exact J6 _ _ _ hW (lv_sub hl [1] rfl)
      · replace ho4 := if_f hc ho4
        refine lv_aload_n hx hb dX7_columnLength_10 rfl (lv_at hl 2 rfl) ?_
        refine lv_iload_n hx hb dX7_columnLength_11 rfl (lv_at hl 0 rfl) ?_
        refine lv_iload_n hx hb dX7_columnLength_12 rfl (lv_at hl 3 rfl) ?_
        obtain ⟨v10, h11, ho4⟩ := bd1_s ho4
        refine k_callVR (b := q) (ci := 6) (qb := 0) (As := [.int i1, .int p0]) (n := 2) (rest := []) (st1 := [.int v10]) C hE hW hl.1 (kX7_at l D cI cZ cJ _ q q_numbers u_numbers i1 p0 v10 h11) gX7_columnLength_X7_at rfl (by decide +kernel) rfl ⟨Nat.le_of_ble_eq_true rfl, Nat.le_of_ble_eq_true rfl⟩ ⟨Nat.zero_le _, Nat.zero_le _⟩ rfl rfl [0, 1] rfl rfl (Nat.le_of_ble_eq_true rfl) rfl rfl dX7_columnLength_13 (fun H locs hW => ?_)
        refine lv_iconst (v := (-1)) hx hb dX7_columnLength_16 (by decide) ?_
        refine lv_icmp_eq (tgt := 23) hx hb dX7_columnLength_17 (by decide) (fun hc => ?_) (fun hc => ?_)
        · replace ho4 := if_t hc ho4
          refine lv_iinc (v := (i1 + 1)) (lv' := [(3, .int (i1 + 1)), (2, .int i2), (0, .ref q), (1, .int p0)]) hx hb dX7_columnLength_23 hl (k := 0) rfl rfl (by decide) rfl (fun ls hl => ?_)
          refine lv_goto (tgt := 4) hx hb dX7_columnLength_26 (by decide) ?_
          obtain rfl := Option.some.inj ho4
          exact ih9 _ _ hx5 _ _ _ hW (lv_sub hl [0, 1, 2, 3] rfl)
        · replace ho4 := if_f hc ho4
          refine lv_iinc (v := (i2 + 1)) (lv' := [(2, .int (i2 + 1)), (3, .int i1), (0, .ref q), (1, .int p0)]) hx hb dX7_columnLength_20 hl (k := 1) rfl rfl (by decide) rfl (fun ls hl => ?_)
          refine lv_iinc (v := (i1 + 1)) (lv' := [(3, .int (i1 + 1)), (2, .int (i2 + 1)), (0, .ref q), (1, .int p0)]) hx hb dX7_columnLength_23 hl (k := 1) rfl rfl (by decide) rfl (fun ls hl => ?_)
          refine lv_goto (tgt := 4) hx hb dX7_columnLength_26 (by decide) ?_
          obtain rfl := Option.some.inj ho4
          exact ih9 _ _ hx5 _ _ _ hW (lv_sub hl [0, 1, 2, 3] rfl)
  exact L7 lpF _ _ hx50 _ _ _ hW (lv_sub hl [0, 1, 2, 3] rfl)

set_option maxHeartbeats 4000000 in
set_option maxRecDepth 100000 in
theorem kX7_rowLength (l : Launch) (D : va_G) (cI cZ cJ : ClassId) (sz : Nat) (q q_numbers : Nat) (u_numbers : Nat → Int32) (p0 : Int32) (r : Int32) (hf : pX7_rowLength u_numbers p0 = some r) : kMet l D cI cZ cJ yX7_rowLength wsX7_rowLength 0 0 [.ref q, .int p0] [(q, .inr (6, [.ref q_numbers])), (q_numbers, .inl (cI, 36, .inl u_numbers))] sz (some (.int r)) [(q, .inr (6, [.ref q_numbers])), (q_numbers, .inl (cI, 36, .inl u_numbers))] := by
  refine kM_of (cc := cX7_rowLength) (maxL := 4) (ret := (some .int)) (by decide) rfl (Nat.le_of_ble_eq_true rfl) ?_
  intro p e s m args below meth c A Q ls hQ C hlocks hr hE hW hl
  have hx := C.1
  have hb := C.2.1
  have hts := C.2.2.2.2
  have hl : lv_has ls 4 [(0, .ref q), (1, .int p0)] := hl
  have iX7 : ∀ w ∈ u_ws RX7 TX7 1, w ∈ wsX7_rowLength := by decide +kernel
  have f9 := hts (.fieldLink RX7 9 "SortedTables$Table" "numbers" "[I") (by decide +kernel)
  unfold pX7_rowLength at hf
  refine lv_iload_n hx hb dX7_rowLength_0 rfl (lv_at hl 1 rfl) ?_
  refine lv_if_lt (tgt := 10) hx hb dX7_rowLength_1 (by decide) (fun hc => ?_) (fun hc => ?_)
  · replace hf := if_t hc hf
    refine lv_iconst (v := 0) hx hb dX7_rowLength_10 (by decide) ?_
    obtain rfl := Option.some.inj hf
    exact k_iret C hlocks hr hW hQ dX7_rowLength_11
  · replace hf := if_f hc hf
    refine lv_iload_n hx hb dX7_rowLength_4 rfl (lv_at hl 1 rfl) ?_
    refine lv_bipush (v := 6) hx hb dX7_rowLength_5 (by decide) ?_
    refine lv_icmp_lt (tgt := 12) hx hb dX7_rowLength_7 (by decide) (fun hc => ?_) (fun hc => ?_)
    · replace hf := if_t hc hf
      refine lv_iconst (v := 0) hx hb dX7_rowLength_12 (by decide) ?_
      refine lv_istore_n (lv' := [(2, .int 0), (0, .ref q), (1, .int p0)]) hx hb dX7_rowLength_13 rfl hl (by decide) rfl (fun ls hl => ?_)
      refine lv_iconst (v := 0) hx hb dX7_rowLength_14 (by decide) ?_
      refine lv_istore_n (lv' := [(3, .int 0), (2, .int 0), (0, .ref q), (1, .int p0)]) hx hb dX7_rowLength_15 rfl hl (by decide) rfl (fun ls hl => ?_)
      obtain ⟨x3, hx50, hf⟩ := bd1_s hf
      have J6 : ∀ (H : Heap) (locs : List Loc) (ls : Array Slot), kH D A s H locs [(q, .inr (6, [.ref q_numbers])), (q_numbers, .inl (cI, 36, .inl u_numbers))] → lv_has ls 4 [(2, .int x3)] → W p l e (kRm 0 0 0 0) s m args below meth c H locs 0 0 Q (F0 m 46 ls []) := by
        intro H locs ls hW hl
        refine lv_iload_n hx hb dX7_rowLength_46 rfl (lv_at hl 0 rfl) ?_
        obtain rfl := Option.some.inj hf
        exact k_iret C hlocks hr hW hQ dX7_rowLength_47
      have L7 : ∀ (n : Nat) (i1 : Int32) (i2 : Int32), lpI n (un2 (pX7_rowLength_L16 u_numbers p0)) (i1, i2) = some x3 → ∀ (H : Heap) (locs : List Loc) (ls : Array Slot), kH D A s H locs [(q, .inr (6, [.ref q_numbers])), (q_numbers, .inl (cI, 36, .inl u_numbers))] → lv_has ls 4 [(3, .int i1), (2, .int i2), (0, .ref q), (1, .int p0)] → W p l e (kRm 0 0 0 0) s m args below meth c H locs 0 0 Q (F0 m 16 ls []) := by
        intro n
        induction n with
        | zero => intro i1 i2 hx5; exact (lpI_0 hx5).elim
        | succ n ih9 =>
          intro i1 i2 hx5 H locs ls hW hl
          obtain ⟨ooho4, ho4, hx5⟩ := lpI_s hx5
          replace ho4 := un2_s ho4
          unfold pX7_rowLength_L16 at ho4
          refine lv_iload_n hx hb dX7_rowLength_16 rfl (lv_at hl 0 rfl) ?_
          refine lv_bipush (v := 6) hx hb dX7_rowLength_17 (by decide) ?_
          refine lv_icmp_ge (tgt := 46) hx hb dX7_rowLength_19 (by decide) (fun hc => ?_) (fun hc => ?_)
          · replace ho4 := if_t hc ho4
            obtain rfl := Option.some.inj ho4
            obtain rfl := lpK_r hx5
            exact J6 _ _ _ hW (lv_sub hl [1] rfl)
          · replace ho4 := if_f hc ho4
            refine lv_aload_n hx hb dX7_rowLength_22 rfl (lv_at hl 2 rfl) ?_
            refine k_get C hE hW iX7 0 rfl rfl 0 (by decide) f9 (fun _ h9 => h9) rfl dX7_rowLength_23 ?_
            refine lv_iload_n hx hb dX7_rowLength_26 rfl (lv_at hl 3 rfl) ?_
            refine lv_bipush (v := 6) hx hb dX7_rowLength_27 (by decide) ?_
            refine lv_imul hx hb dX7_rowLength_29 ?_
            refine lv_iload_n hx hb dX7_rowLength_30 rfl (lv_at hl 0 rfl) ?_
            refine lv_iadd hx hb dX7_rowLength_31 ?_
            obtain ⟨v10, h11, ho4⟩ := bd1_s ho4
            refine k_iald C hE hW 1 rfl h11 dX7_rowLength_32 ?_
            refine lv_iconst (v := (-1)) hx hb dX7_rowLength_33 (by decide) ?_
            refine lv_icmp_eq (tgt := 40) hx hb dX7_rowLength_34 (by decide) (fun hc => ?_) (fun hc => ?_)
            · replace ho4 := if_t hc ho4
              refine lv_iinc (v := (i1 + 1)) (lv' := [(3, .int (i1 + 1)), (2, .int i2), (0, .ref q), (1, .int p0)]) hx hb dX7_rowLength_40 hl (k := 0) rfl rfl (by decide) rfl (fun ls hl => ?_)
              refine lv_goto (tgt := 16) hx hb dX7_rowLength_43 (by decide) ?_
              obtain rfl := Option.some.inj ho4
              exact ih9 _ _ hx5 _ _ _ hW (lv_sub hl [0, 1, 2, 3] rfl)
            · replace ho4 := if_f hc ho4
              refine lv_iinc (v := (i2 + 1)) (lv' := [(2, .int (i2 + 1)), (3, .int i1), (0, .ref q), (1, .int p0)]) hx hb dX7_rowLength_37 hl (k := 1) rfl rfl (by decide) rfl (fun ls hl => ?_)
              refine lv_iinc (v := (i1 + 1)) (lv' := [(3, .int (i1 + 1)), (2, .int (i2 + 1)), (0, .ref q), (1, .int p0)]) hx hb dX7_rowLength_40 hl (k := 1) rfl rfl (by decide) rfl (fun ls hl => ?_)
              refine lv_goto (tgt := 16) hx hb dX7_rowLength_43 (by decide) ?_
              obtain rfl := Option.some.inj ho4
              exact ih9 _ _ hx5 _ _ _ hW (lv_sub hl [0, 1, 2, 3] rfl)
      exact L7 lpF _ _ hx50 _ _ _ hW (lv_sub hl [0, 1, 2, 3] rfl)
    · replace hf := if_f hc hf
      refine lv_iconst (v := 0) hx hb dX7_rowLength_10 (by decide) ?_
      obtain rfl := Option.some.inj hf
      exact k_iret C hlocks hr hW hQ dX7_rowLength_11

set_option maxHeartbeats 4000000 in
set_option maxRecDepth 100000 in
theorem kX7_hookOf (l : Launch) (D : va_G) (cI cZ cJ : ClassId) (sz : Nat) (q q_numbers : Nat) (u_numbers : Nat → Int32) (p0 : Int32) (p1 : Int32) (r : Int32) (hf : pX7_hookOf u_numbers p0 p1 = some r) : kMet l D cI cZ cJ yX7_hookOf wsX7_hookOf 2 45 [.ref q, .int p0, .int p1] [(q, .inr (6, [.ref q_numbers])), (q_numbers, .inl (cI, 36, .inl u_numbers))] sz (some (.int r)) [(q, .inr (6, [.ref q_numbers])), (q_numbers, .inl (cI, 36, .inl u_numbers))] := by
  refine kM_of (cc := cX7_hookOf) (maxL := 3) (ret := (some .int)) (by decide) rfl (Nat.le_of_ble_eq_true rfl) ?_
  intro p e s m args below meth c A Q ls hQ C hlocks hr hE hW hl
  have hx := C.1
  have hb := C.2.1
  have hts := C.2.2.2.2
  have hl : lv_has ls 3 [(0, .ref q), (1, .int p0), (2, .int p1)] := hl
  unfold pX7_hookOf at hf
  refine lv_aload_n hx hb dX7_hookOf_0 rfl (lv_at hl 0 rfl) ?_
  refine lv_iload_n hx hb dX7_hookOf_1 rfl (lv_at hl 1 rfl) ?_
  obtain ⟨v1, h2, hf⟩ := bd1_s hf
  refine k_callVR (b := q) (ci := 6) (qb := 0) (As := [.int p0]) (n := 1) (rest := []) (st1 := [.int v1]) C hE hW hl.1 (kX7_rowLength l D cI cZ cJ _ q q_numbers u_numbers p0 v1 h2) gX7_hookOf_X7_rowLength rfl (by decide +kernel) rfl ⟨Nat.le_of_ble_eq_true rfl, Nat.le_of_ble_eq_true rfl⟩ ⟨Nat.zero_le _, Nat.zero_le _⟩ rfl rfl [0, 1] rfl rfl (Nat.le_of_ble_eq_true rfl) rfl rfl dX7_hookOf_2 (fun H locs hW => ?_)
  refine lv_iload_n hx hb dX7_hookOf_5 rfl (lv_at hl 2 rfl) ?_
  refine lv_isub hx hb dX7_hookOf_6 ?_
  refine lv_aload_n hx hb dX7_hookOf_7 rfl (lv_at hl 0 rfl) ?_
  refine lv_iload_n hx hb dX7_hookOf_8 rfl (lv_at hl 2 rfl) ?_
  obtain ⟨v3, h4, hf⟩ := bd1_s hf
  refine k_callVR (b := q) (ci := 6) (qb := 0) (As := [.int p1]) (n := 1) (rest := [.int (v1 - p1)]) (st1 := [.int v3, .int (v1 - p1)]) C hE hW hl.1 (kX7_columnLength l D cI cZ cJ _ q q_numbers u_numbers p1 v3 h4) gX7_hookOf_X7_columnLength rfl (by decide +kernel) rfl ⟨Nat.le_of_ble_eq_true rfl, Nat.le_of_ble_eq_true rfl⟩ ⟨Nat.zero_le _, Nat.zero_le _⟩ rfl rfl [0, 1] rfl rfl (Nat.le_of_ble_eq_true rfl) rfl rfl dX7_hookOf_9 (fun H locs hW => ?_)
  refine lv_iadd hx hb dX7_hookOf_12 ?_
  refine lv_iload_n hx hb dX7_hookOf_13 rfl (lv_at hl 1 rfl) ?_
  refine lv_isub hx hb dX7_hookOf_14 ?_
  refine lv_iconst (v := 1) hx hb dX7_hookOf_15 (by decide) ?_
  refine lv_isub hx hb dX7_hookOf_16 ?_
  obtain rfl := Option.some.inj hf
  exact k_iret C hlocks hr hW hQ dX7_hookOf_17

set_option maxHeartbeats 4000000 in
set_option maxRecDepth 100000 in
theorem kX0_divideByHooks (l : Launch) (D : va_G) (cI cZ cJ : ClassId) (sz : Nat) (q q_times r0 r0_numbers : Nat) (u_times : Nat → Int32) (u0_numbers : Nat → Int32) (u_times' : Nat → Int32) (hf : pX0_divideByHooks u_times u0_numbers = some u_times') : kMet l D cI cZ cJ yX0_divideByHooks wsX0_divideByHooks 3 67 [.ref q, .ref r0] [(q, .inr (0, [.ref q_times])), (q_times, .inl (cI, 37, .inl u_times)), (r0, .inr (6, [.ref r0_numbers])), (r0_numbers, .inl (cI, 36, .inl u0_numbers))] sz none [(q, .inr (0, [.ref q_times])), (q_times, .inl (cI, 37, .inl u_times')), (r0, .inr (6, [.ref r0_numbers])), (r0_numbers, .inl (cI, 36, .inl u0_numbers))] := by
  refine kM_of (cc := cX0_divideByHooks) (maxL := 5) (ret := none) (by decide) rfl (Nat.le_of_ble_eq_true rfl) ?_
  intro p e s m args below meth c A Q ls hQ C hlocks hr hE hW hl
  have hx := C.1
  have hb := C.2.1
  have hts := C.2.2.2.2
  have hl : lv_has ls 5 [(0, .ref q), (1, .ref r0)] := hl
  have iX0 : ∀ w ∈ u_ws RX0 TX0 1, w ∈ wsX0_divideByHooks := by decide +kernel
  have f9 := hts (.fieldLink RX0 9 "SortedTables$Fillings" "times" "[I") (by decide +kernel)
  unfold pX0_divideByHooks at hf
  refine lv_iconst (v := 0) hx hb dX0_divideByHooks_0 (by decide) ?_
  refine lv_istore_n (lv' := [(2, .int 0), (0, .ref q), (1, .ref r0)]) hx hb dX0_divideByHooks_1 rfl hl (by decide) rfl (fun ls hl => ?_)
  obtain ⟨w3, hx50, hf⟩ := bd1_s hf
  have J6 : ∀ (H : Heap) (locs : List Loc) (ls : Array Slot), kH D A s H locs [(q, .inr (0, [.ref q_times])), (q_times, .inl (cI, 37, .inl w3)), (r0, .inr (6, [.ref r0_numbers])), (r0_numbers, .inl (cI, 36, .inl u0_numbers))] → lv_has ls 5 [] → W p l e (kRm 3 67 0 0) s m args below meth c H locs 0 0 Q (F0 m 73 ls []) := by
    intro H locs ls hW hl
    obtain rfl := Option.some.inj hf
    exact k_vret C hlocks hr hW hQ dX0_divideByHooks_73
  have L7 : ∀ (n : Nat) (i1 : Int32) (w2 : Nat → Int32), lpI n (un2 (pX0_divideByHooks_L2 u0_numbers)) (i1, w2) = some w3 → ∀ (H : Heap) (locs : List Loc) (ls : Array Slot), kH D A s H locs [(q, .inr (0, [.ref q_times])), (q_times, .inl (cI, 37, .inl w2)), (r0, .inr (6, [.ref r0_numbers])), (r0_numbers, .inl (cI, 36, .inl u0_numbers))] → lv_has ls 5 [(2, .int i1), (0, .ref q), (1, .ref r0)] → W p l e (kRm 3 67 0 0) s m args below meth c H locs 0 0 Q (F0 m 2 ls []) := by
    intro n
    induction n with
    | zero => intro i1 w2 hx5; exact (lpI_0 hx5).elim
    | succ n ih9 =>
      intro i1 w2 hx5 H locs ls hW hl
      obtain ⟨ooho4, ho4, hx5⟩ := lpI_s hx5
      replace ho4 := un2_s ho4
      unfold pX0_divideByHooks_L2 at ho4
      refine lv_iload_n hx hb dX0_divideByHooks_2 rfl (lv_at hl 0 rfl) ?_
      refine lv_bipush (v := 6) hx hb dX0_divideByHooks_3 (by decide) ?_
      refine lv_icmp_ge (tgt := 73) hx hb dX0_divideByHooks_5 (by decide) (fun hc => ?_) (fun hc => ?_)
      · replace ho4 := if_t hc ho4
        obtain rfl := Option.some.inj ho4
        obtain rfl := lpK_r hx5
        exact J6 _ _ _ hW (lv_sub hl [] rfl)
      · replace ho4 := if_f hc ho4
        refine lv_iconst (v := 0) hx hb dX0_divideByHooks_8 (by decide) ?_
        refine lv_istore_n (lv' := [(3, .int 0), (2, .int i1), (0, .ref q), (1, .ref r0)]) hx hb dX0_divideByHooks_9 rfl hl (by decide) rfl (fun ls hl => ?_)
        obtain ⟨w12, hx140, ho4⟩ := bd1_s ho4
        have J15 : ∀ (H : Heap) (locs : List Loc) (ls : Array Slot), kH D A s H locs [(q, .inr (0, [.ref q_times])), (q_times, .inl (cI, 37, .inl w12)), (r0, .inr (6, [.ref r0_numbers])), (r0_numbers, .inl (cI, 36, .inl u0_numbers))] → lv_has ls 5 [(2, .int i1), (0, .ref q), (1, .ref r0)] → W p l e (kRm 3 67 0 0) s m args below meth c H locs 0 0 Q (F0 m 67 ls []) := by
          intro H locs ls hW hl
          refine lv_iinc (v := (i1 + 1)) (lv' := [(2, .int (i1 + 1)), (0, .ref q), (1, .ref r0)]) hx hb dX0_divideByHooks_67 hl (k := 0) rfl rfl (by decide) rfl (fun ls hl => ?_)
          refine lv_goto (tgt := 2) hx hb dX0_divideByHooks_70 (by decide) ?_
          obtain rfl := Option.some.inj ho4
          exact ih9 _ _ hx5 _ _ _ hW (lv_sub hl [0, 1, 2] rfl)
        have L16 : ∀ (n : Nat) (i10 : Int32) (w11 : Nat → Int32), lpI n (un2 (pX0_divideByHooks_L10 u0_numbers i1)) (i10, w11) = some w12 → ∀ (H : Heap) (locs : List Loc) (ls : Array Slot), kH D A s H locs [(q, .inr (0, [.ref q_times])), (q_times, .inl (cI, 37, .inl w11)), (r0, .inr (6, [.ref r0_numbers])), (r0_numbers, .inl (cI, 36, .inl u0_numbers))] → lv_has ls 5 [(3, .int i10), (2, .int i1), (0, .ref q), (1, .ref r0)] → W p l e (kRm 3 67 0 0) s m args below meth c H locs 0 0 Q (F0 m 10 ls []) := by
          intro n
          induction n with
          | zero => intro i10 w11 hx14; exact (lpI_0 hx14).elim
          | succ n ih18 =>
            intro i10 w11 hx14 H locs ls hW hl
            obtain ⟨ooho13, ho13, hx14⟩ := lpI_s hx14
            replace ho13 := un2_s ho13
            unfold pX0_divideByHooks_L10 at ho13
            refine lv_iload_n hx hb dX0_divideByHooks_10 rfl (lv_at hl 0 rfl) ?_
            refine lv_bipush (v := 6) hx hb dX0_divideByHooks_11 (by decide) ?_
            refine lv_icmp_ge (tgt := 67) hx hb dX0_divideByHooks_13 (by decide) (fun hc => ?_) (fun hc => ?_)
            · replace ho13 := if_t hc ho13
              obtain rfl := Option.some.inj ho13
              obtain rfl := lpK_r hx14
              exact J15 _ _ _ hW (lv_sub hl [1, 2, 3] rfl)
            · replace ho13 := if_f hc ho13
              refine lv_aload_n hx hb dX0_divideByHooks_16 rfl (lv_at hl 3 rfl) ?_
              refine lv_iload_n hx hb dX0_divideByHooks_17 rfl (lv_at hl 1 rfl) ?_
              refine lv_iload_n hx hb dX0_divideByHooks_18 rfl (lv_at hl 0 rfl) ?_
              obtain ⟨v19, h20, ho13⟩ := bd1_s ho13
              refine k_callVR (b := r0) (ci := 6) (qb := 0) (As := [.int i1, .int i10]) (n := 2) (rest := []) (st1 := [.int v19]) C hE hW hl.1 (kX7_has l D cI cZ cJ _ r0 r0_numbers u0_numbers i1 i10 v19 h20) gX0_divideByHooks_X7_has rfl (by decide +kernel) rfl ⟨Nat.le_of_ble_eq_true rfl, Nat.le_of_ble_eq_true rfl⟩ ⟨Nat.zero_le _, Nat.zero_le _⟩ rfl rfl [2, 3] rfl rfl (Nat.le_of_ble_eq_true rfl) rfl rfl dX0_divideByHooks_19 (fun H locs hW => ?_)
              obtain ⟨j21, hd22, ho13⟩ := bd1_s ho13
              have J23 : ∀ (H : Heap) (locs : List Loc) (ls : Array Slot), kH D A s H locs [(q, .inr (0, [.ref q_times])), (q_times, .inl (cI, 37, .inl w11)), (r0, .inr (6, [.ref r0_numbers])), (r0_numbers, .inl (cI, 36, .inl u0_numbers))] → lv_has ls 5 [(0, .ref q), (1, .ref r0), (2, .int i1), (3, .int i10)] → W p l e (kRm 3 67 0 0) s m args below meth c H locs 0 0 Q (F0 m 35 ls [.int j21]) := by
                intro H locs ls hW hl
                refine lv_istore (lv' := [(4, .int j21), (0, .ref q), (1, .ref r0), (2, .int i1), (3, .int i10)]) hx hb dX0_divideByHooks_35 hl (by decide) rfl (fun ls hl => ?_)
                refine lv_iload hx hb dX0_divideByHooks_37 (lv_at hl 0 rfl) ?_
                refine lv_iconst (v := 1) hx hb dX0_divideByHooks_39 (by decide) ?_
                refine lv_icmp_lt (tgt := 61) hx hb dX0_divideByHooks_40 (by decide) (fun hc => ?_) (fun hc => ?_)
                · replace ho13 := if_t hc ho13
                  refine lv_iinc (v := (i10 + 1)) (lv' := [(3, .int (i10 + 1)), (4, .int j21), (0, .ref q), (1, .ref r0), (2, .int i1)]) hx hb dX0_divideByHooks_61 hl (k := 4) rfl rfl (by decide) rfl (fun ls hl => ?_)
                  refine lv_goto (tgt := 10) hx hb dX0_divideByHooks_64 (by decide) ?_
                  obtain rfl := Option.some.inj ho13
                  exact ih18 _ _ hx14 _ _ _ hW (lv_sub hl [0, 4, 2, 3] rfl)
                · replace ho13 := if_f hc ho13
                  refine lv_iload hx hb dX0_divideByHooks_43 (lv_at hl 0 rfl) ?_
                  refine lv_bipush (v := 36) hx hb dX0_divideByHooks_45 (by decide) ?_
                  refine lv_icmp_gt (tgt := 61) hx hb dX0_divideByHooks_47 (by decide) (fun hc => ?_) (fun hc => ?_)
                  · replace ho13 := if_t hc ho13
                    refine lv_iinc (v := (i10 + 1)) (lv' := [(3, .int (i10 + 1)), (4, .int j21), (0, .ref q), (1, .ref r0), (2, .int i1)]) hx hb dX0_divideByHooks_61 hl (k := 4) rfl rfl (by decide) rfl (fun ls hl => ?_)
                    refine lv_goto (tgt := 10) hx hb dX0_divideByHooks_64 (by decide) ?_
                    obtain rfl := Option.some.inj ho13
                    exact ih18 _ _ hx14 _ _ _ hW (lv_sub hl [0, 4, 2, 3] rfl)
                  · replace ho13 := if_f hc ho13
                    refine lv_aload_n hx hb dX0_divideByHooks_50 rfl (lv_at hl 1 rfl) ?_
                    refine k_get C hE hW iX0 0 rfl rfl 0 (by decide) f9 (fun _ h9 => h9) rfl dX0_divideByHooks_51 ?_
                    refine lv_iload hx hb dX0_divideByHooks_54 (lv_at hl 0 rfl) ?_
                    refine lv_dup2_11 hx hb dX0_divideByHooks_56 rfl rfl ?_
                    obtain ⟨v26, h27, ho13⟩ := bd1_s ho13
                    refine k_iald C hE hW 1 rfl h27 dX0_divideByHooks_57 ?_
                    refine lv_iconst (v := 1) hx hb dX0_divideByHooks_58 (by decide) ?_
                    refine lv_isub hx hb dX0_divideByHooks_59 ?_
                    obtain ⟨w28, h29, ho13⟩ := bd1_s ho13
                    refine k_iast (ws' := [(q, .inr (0, [.ref q_times])), (q_times, .inl (cI, 37, .inl w28)), (r0, .inr (6, [.ref r0_numbers])), (r0_numbers, .inl (cI, 36, .inl u0_numbers))]) C hE hW 1 rfl h29 rfl dX0_divideByHooks_60 (fun H locs hW => ?_)
                    refine lv_iinc (v := (i10 + 1)) (lv' := [(3, .int (i10 + 1)), (4, .int j21), (0, .ref q), (1, .ref r0), (2, .int i1)]) hx hb dX0_divideByHooks_61 hl (k := 4) rfl rfl (by decide) rfl (fun ls hl => ?_)
                    refine lv_goto (tgt := 10) hx hb dX0_divideByHooks_64 (by decide) ?_
                    obtain rfl := Option.some.inj ho13
                    exact ih18 _ _ hx14 _ _ _ hW (lv_sub hl [0, 4, 2, 3] rfl)
              refine lv_if_eq (tgt := 34) hx hb dX0_divideByHooks_22 (by decide) (fun hc => ?_) (fun hc => ?_)
              · replace hd22 := if_t hc hd22
                refine lv_iconst (v := 0) hx hb dX0_divideByHooks_34 (by decide) ?_
                obtain rfl := Option.some.inj hd22
                exact J23 _ _ _ hW (lv_sub hl [2, 3, 1, 0] rfl)
              · replace hd22 := if_f hc hd22
                refine lv_aload_n hx hb dX0_divideByHooks_25 rfl (lv_at hl 3 rfl) ?_
                refine lv_iload_n hx hb dX0_divideByHooks_26 rfl (lv_at hl 1 rfl) ?_
                refine lv_iload_n hx hb dX0_divideByHooks_27 rfl (lv_at hl 0 rfl) ?_
                obtain ⟨v24, h25, hd22⟩ := bd1_s hd22
                refine k_callVR (b := r0) (ci := 6) (qb := 0) (As := [.int i1, .int i10]) (n := 2) (rest := []) (st1 := [.int v24]) C hE hW hl.1 (kX7_hookOf l D cI cZ cJ _ r0 r0_numbers u0_numbers i1 i10 v24 h25) gX0_divideByHooks_X7_hookOf rfl (by decide +kernel) rfl ⟨Nat.le_of_ble_eq_true rfl, Nat.le_of_ble_eq_true rfl⟩ ⟨Nat.zero_le _, Nat.zero_le _⟩ rfl rfl [2, 3] rfl rfl (Nat.le_of_ble_eq_true rfl) rfl rfl dX0_divideByHooks_28 (fun H locs hW => ?_)
                refine lv_goto (tgt := 35) hx hb dX0_divideByHooks_31 (by decide) ?_
                obtain rfl := Option.some.inj hd22
                exact J23 _ _ _ hW (lv_sub hl [2, 3, 1, 0] rfl)
        exact L16 lpF _ _ hx140 _ _ _ hW (lv_sub hl [0, 1, 2, 3] rfl)
  exact L7 lpF _ _ hx50 _ _ _ hW (lv_sub hl [0, 1, 2] rfl)

set_option maxHeartbeats 4000000 in
set_option maxRecDepth 100000 in
theorem kX0_powerIn (l : Launch) (D : va_G) (cI cZ cJ : ClassId) (sz : Nat) (p0 : Int32) (p1 : Int32) (r : Int32) (hf : pX0_powerIn p0 p1 = some r) : kMet l D cI cZ cJ yX0_powerIn wsX0_powerIn 0 0 [.int p0, .int p1] [] sz (some (.int r)) [] := by
  refine kM_of (cc := cX0_powerIn) (maxL := 4) (ret := (some .int)) (by decide) rfl (Nat.le_of_ble_eq_true rfl) ?_
  intro p e s m args below meth c A Q ls hQ C hlocks hr hE hW hl
  have hx := C.1
  have hb := C.2.1
  have hts := C.2.2.2.2
  have hl : lv_has ls 4 [(0, .int p0), (1, .int p1)] := hl
  unfold pX0_powerIn at hf
  refine lv_iconst (v := 0) hx hb dX0_powerIn_0 (by decide) ?_
  refine lv_istore_n (lv' := [(2, .int 0), (0, .int p0), (1, .int p1)]) hx hb dX0_powerIn_1 rfl hl (by decide) rfl (fun ls hl => ?_)
  refine lv_iload_n hx hb dX0_powerIn_2 rfl (lv_at hl 2 rfl) ?_
  refine lv_istore_n (lv' := [(3, .int p1), (2, .int 0), (0, .int p0), (1, .int p1)]) hx hb dX0_powerIn_3 rfl hl (by decide) rfl (fun ls hl => ?_)
  obtain ⟨x3, hx50, hf⟩ := bd1_s hf
  have J6 : ∀ (H : Heap) (locs : List Loc) (ls : Array Slot), kH D A s H locs [] → lv_has ls 4 [(2, .int x3)] → W p l e (kRm 0 0 0 0) s m args below meth c H locs 0 0 Q (F0 m 31 ls []) := by
    intro H locs ls hW hl
    refine lv_iload_n hx hb dX0_powerIn_31 rfl (lv_at hl 0 rfl) ?_
    obtain rfl := Option.some.inj hf
    exact k_iret C hlocks hr hW hQ dX0_powerIn_32
  have L7 : ∀ (n : Nat) (i1 : Int32) (i2 : Int32), lpI n (un2 (pX0_powerIn_L4 p0 p1)) (i1, i2) = some x3 → ∀ (H : Heap) (locs : List Loc) (ls : Array Slot), kH D A s H locs [] → lv_has ls 4 [(3, .int i1), (2, .int i2), (0, .int p0), (1, .int p1)] → W p l e (kRm 0 0 0 0) s m args below meth c H locs 0 0 Q (F0 m 4 ls []) := by
    intro n
    induction n with
    | zero => intro i1 i2 hx5; exact (lpI_0 hx5).elim
    | succ n ih9 =>
      intro i1 i2 hx5 H locs ls hW hl
      obtain ⟨ooho4, ho4, hx5⟩ := lpI_s hx5
      replace ho4 := un2_s ho4
      unfold pX0_powerIn_L4 at ho4
      refine lv_iload_n hx hb dX0_powerIn_4 rfl (lv_at hl 0 rfl) ?_
      refine lv_iconst (v := 1) hx hb dX0_powerIn_5 (by decide) ?_
      refine lv_icmp_le (tgt := 31) hx hb dX0_powerIn_6 (by decide) (fun hc => ?_) (fun hc => ?_)
      · replace ho4 := if_t hc ho4
        obtain rfl := Option.some.inj ho4
        obtain rfl := lpK_r hx5
        exact J6 _ _ _ hW (lv_sub hl [1] rfl)
      · replace ho4 := if_f hc ho4
        refine lv_iload_n hx hb dX0_powerIn_9 rfl (lv_at hl 0 rfl) ?_
        refine lv_bipush (v := 36) hx hb dX0_powerIn_10 (by decide) ?_
        refine lv_icmp_gt (tgt := 31) hx hb dX0_powerIn_12 (by decide) (fun hc => ?_) (fun hc => ?_)
        · replace ho4 := if_t hc ho4
          obtain rfl := Option.some.inj ho4
          obtain rfl := lpK_r hx5
          exact J6 _ _ _ hW (lv_sub hl [1] rfl)
        · replace ho4 := if_f hc ho4
          refine lv_iload_n hx hb dX0_powerIn_15 rfl (lv_at hl 2 rfl) ?_
          refine lv_iload_n hx hb dX0_powerIn_16 rfl (lv_at hl 0 rfl) ?_
          obtain ⟨v10, h11, ho4⟩ := bd1_s ho4
          refine k_irem C h11 dX0_powerIn_17 ?_
          refine lv_if_ne (tgt := 24) hx hb dX0_powerIn_18 (by decide) (fun hc => ?_) (fun hc => ?_)
          · replace ho4 := if_f hc ho4
            refine lv_iload_n hx hb dX0_powerIn_24 rfl (lv_at hl 0 rfl) ?_
            refine lv_iload_n hx hb dX0_powerIn_25 rfl (lv_at hl 3 rfl) ?_
            refine lv_imul hx hb dX0_powerIn_26 ?_
            refine lv_istore_n (lv' := [(3, .int (i1 * p1)), (2, .int i2), (0, .int p0), (1, .int p1)]) hx hb dX0_powerIn_27 rfl hl (by decide) rfl (fun ls hl => ?_)
            refine lv_goto (tgt := 4) hx hb dX0_powerIn_28 (by decide) ?_
            obtain rfl := Option.some.inj ho4
            exact ih9 _ _ hx5 _ _ _ hW (lv_sub hl [0, 1, 2, 3] rfl)
          · replace ho4 := if_t hc ho4
            refine lv_iinc (v := (i2 + 1)) (lv' := [(2, .int (i2 + 1)), (3, .int i1), (0, .int p0), (1, .int p1)]) hx hb dX0_powerIn_21 hl (k := 1) rfl rfl (by decide) rfl (fun ls hl => ?_)
            refine lv_iload_n hx hb dX0_powerIn_24 rfl (lv_at hl 1 rfl) ?_
            refine lv_iload_n hx hb dX0_powerIn_25 rfl (lv_at hl 3 rfl) ?_
            refine lv_imul hx hb dX0_powerIn_26 ?_
            refine lv_istore_n (lv' := [(3, .int (i1 * p1)), (2, .int (i2 + 1)), (0, .int p0), (1, .int p1)]) hx hb dX0_powerIn_27 rfl hl (by decide) rfl (fun ls hl => ?_)
            refine lv_goto (tgt := 4) hx hb dX0_powerIn_28 (by decide) ?_
            obtain rfl := Option.some.inj ho4
            exact ih9 _ _ hx5 _ _ _ hW (lv_sub hl [0, 1, 2, 3] rfl)
  exact L7 lpF _ _ hx50 _ _ _ hW (lv_sub hl [0, 1, 2, 3] rfl)

set_option maxHeartbeats 4000000 in
set_option maxRecDepth 100000 in
theorem kX0_powerOf (l : Launch) (D : va_G) (cI cZ cJ : ClassId) (sz : Nat) (q q_times : Nat) (u_times : Nat → Int32) (p0 : Int32) (r : Int32) (hf : pX0_powerOf u_times p0 = some r) : kMet l D cI cZ cJ yX0_powerOf wsX0_powerOf 1 23 [.ref q, .int p0] [(q, .inr (0, [.ref q_times])), (q_times, .inl (cI, 37, .inl u_times))] sz (some (.int r)) [(q, .inr (0, [.ref q_times])), (q_times, .inl (cI, 37, .inl u_times))] := by
  refine kM_of (cc := cX0_powerOf) (maxL := 4) (ret := (some .int)) (by decide) rfl (Nat.le_of_ble_eq_true rfl) ?_
  intro p e s m args below meth c A Q ls hQ C hlocks hr hE hW hl
  have hx := C.1
  have hb := C.2.1
  have hts := C.2.2.2.2
  have hl : lv_has ls 4 [(0, .ref q), (1, .int p0)] := hl
  have iX0 : ∀ w ∈ u_ws RX0 TX0 1, w ∈ wsX0_powerOf := by decide +kernel
  have f9 := hts (.fieldLink RX0 9 "SortedTables$Fillings" "times" "[I") (by decide +kernel)
  unfold pX0_powerOf at hf
  refine lv_iconst (v := 0) hx hb dX0_powerOf_0 (by decide) ?_
  refine lv_istore_n (lv' := [(2, .int 0), (0, .ref q), (1, .int p0)]) hx hb dX0_powerOf_1 rfl hl (by decide) rfl (fun ls hl => ?_)
  refine lv_iconst (v := 1) hx hb dX0_powerOf_2 (by decide) ?_
  refine lv_istore_n (lv' := [(3, .int 1), (2, .int 0), (0, .ref q), (1, .int p0)]) hx hb dX0_powerOf_3 rfl hl (by decide) rfl (fun ls hl => ?_)
  obtain ⟨x3, hx50, hf⟩ := bd1_s hf
  have J6 : ∀ (H : Heap) (locs : List Loc) (ls : Array Slot), kH D A s H locs [(q, .inr (0, [.ref q_times])), (q_times, .inl (cI, 37, .inl u_times))] → lv_has ls 4 [(2, .int x3)] → W p l e (kRm 1 23 0 0) s m args below meth c H locs 0 0 Q (F0 m 31 ls []) := by
    intro H locs ls hW hl
    refine lv_iload_n hx hb dX0_powerOf_31 rfl (lv_at hl 0 rfl) ?_
    obtain rfl := Option.some.inj hf
    exact k_iret C hlocks hr hW hQ dX0_powerOf_32
  have L7 : ∀ (n : Nat) (i1 : Int32) (i2 : Int32), lpI n (un2 (pX0_powerOf_L4 u_times p0)) (i1, i2) = some x3 → ∀ (H : Heap) (locs : List Loc) (ls : Array Slot), kH D A s H locs [(q, .inr (0, [.ref q_times])), (q_times, .inl (cI, 37, .inl u_times))] → lv_has ls 4 [(3, .int i1), (2, .int i2), (0, .ref q), (1, .int p0)] → W p l e (kRm 1 23 0 0) s m args below meth c H locs 0 0 Q (F0 m 4 ls []) := by
    intro n
    induction n with
    | zero => intro i1 i2 hx5; exact (lpI_0 hx5).elim
    | succ n ih9 =>
      intro i1 i2 hx5 H locs ls hW hl
      obtain ⟨ooho4, ho4, hx5⟩ := lpI_s hx5
      replace ho4 := un2_s ho4
      unfold pX0_powerOf_L4 at ho4
      refine lv_iload_n hx hb dX0_powerOf_4 rfl (lv_at hl 0 rfl) ?_
      refine lv_bipush (v := 36) hx hb dX0_powerOf_5 (by decide) ?_
      refine lv_icmp_gt (tgt := 31) hx hb dX0_powerOf_7 (by decide) (fun hc => ?_) (fun hc => ?_)
      · replace ho4 := if_t hc ho4
        obtain rfl := Option.some.inj ho4
        obtain rfl := lpK_r hx5
        exact J6 _ _ _ hW (lv_sub hl [1] rfl)
      · replace ho4 := if_f hc ho4
        refine lv_iload_n hx hb dX0_powerOf_10 rfl (lv_at hl 1 rfl) ?_
        refine lv_aload_n hx hb dX0_powerOf_11 rfl (lv_at hl 2 rfl) ?_
        refine k_get C hE hW iX0 0 rfl rfl 0 (by decide) f9 (fun _ h9 => h9) rfl dX0_powerOf_12 ?_
        refine lv_iload_n hx hb dX0_powerOf_15 rfl (lv_at hl 0 rfl) ?_
        obtain ⟨v10, h11, ho4⟩ := bd1_s ho4
        refine k_iald C hE hW 1 rfl h11 dX0_powerOf_16 ?_
        refine lv_iload_n hx hb dX0_powerOf_17 rfl (lv_at hl 0 rfl) ?_
        refine lv_iload_n hx hb dX0_powerOf_18 rfl (lv_at hl 3 rfl) ?_
        obtain ⟨v12, h13, ho4⟩ := bd1_s ho4
        refine k_callSR (As := [.int i1, .int p0]) (n := 2) (rest := [.int v10, .int i2]) (st1 := [.int v12, .int v10, .int i2]) C hE hW hl.1 (kX0_powerIn l D cI cZ cJ _ i1 p0 v12 h13) gX0_powerOf_X0_powerIn rfl (by decide +kernel) rfl ⟨Nat.le_of_ble_eq_true rfl, Nat.le_of_ble_eq_true rfl⟩ ⟨Nat.zero_le _, Nat.zero_le _⟩ [] rfl rfl (Nat.le_of_ble_eq_true rfl) rfl rfl dX0_powerOf_19 (fun H locs hW => ?_)
        refine lv_imul hx hb dX0_powerOf_22 ?_
        refine lv_iadd hx hb dX0_powerOf_23 ?_
        refine lv_istore_n (lv' := [(2, .int (i2 + (v10 * v12))), (3, .int i1), (0, .ref q), (1, .int p0)]) hx hb dX0_powerOf_24 rfl hl (by decide) rfl (fun ls hl => ?_)
        refine lv_iinc (v := (i1 + 1)) (lv' := [(3, .int (i1 + 1)), (2, .int (i2 + (v10 * v12))), (0, .ref q), (1, .int p0)]) hx hb dX0_powerOf_25 hl (k := 1) rfl rfl (by decide) rfl (fun ls hl => ?_)
        refine lv_goto (tgt := 4) hx hb dX0_powerOf_28 (by decide) ?_
        obtain rfl := Option.some.inj ho4
        exact ih9 _ _ hx5 _ _ _ hW (lv_sub hl [0, 1, 2, 3] rfl)
  exact L7 lpF _ _ hx50 _ _ _ hW (lv_sub hl [0, 1, 2, 3] rfl)

set_option maxHeartbeats 4000000 in
set_option maxRecDepth 100000 in
theorem kX7_cells (l : Launch) (D : va_G) (cI cZ cJ : ClassId) (sz : Nat) (q q_numbers : Nat) (u_numbers : Nat → Int32) (r : Int32) (hf : pX7_cells u_numbers = some r) : kMet l D cI cZ cJ yX7_cells wsX7_cells 1 23 [.ref q] [(q, .inr (6, [.ref q_numbers])), (q_numbers, .inl (cI, 36, .inl u_numbers))] sz (some (.int r)) [(q, .inr (6, [.ref q_numbers])), (q_numbers, .inl (cI, 36, .inl u_numbers))] := by
  refine kM_of (cc := cX7_cells) (maxL := 3) (ret := (some .int)) (by decide) rfl (Nat.le_of_ble_eq_true rfl) ?_
  intro p e s m args below meth c A Q ls hQ C hlocks hr hE hW hl
  have hx := C.1
  have hb := C.2.1
  have hts := C.2.2.2.2
  have hl : lv_has ls 3 [(0, .ref q)] := hl
  unfold pX7_cells at hf
  refine lv_iconst (v := 0) hx hb dX7_cells_0 (by decide) ?_
  refine lv_istore_n (lv' := [(1, .int 0), (0, .ref q)]) hx hb dX7_cells_1 rfl hl (by decide) rfl (fun ls hl => ?_)
  refine lv_iconst (v := 0) hx hb dX7_cells_2 (by decide) ?_
  refine lv_istore_n (lv' := [(2, .int 0), (1, .int 0), (0, .ref q)]) hx hb dX7_cells_3 rfl hl (by decide) rfl (fun ls hl => ?_)
  obtain ⟨x3, hx50, hf⟩ := bd1_s hf
  have J6 : ∀ (H : Heap) (locs : List Loc) (ls : Array Slot), kH D A s H locs [(q, .inr (6, [.ref q_numbers])), (q_numbers, .inl (cI, 36, .inl u_numbers))] → lv_has ls 3 [(1, .int x3)] → W p l e (kRm 1 23 0 0) s m args below meth c H locs 0 0 Q (F0 m 24 ls []) := by
    intro H locs ls hW hl
    refine lv_iload_n hx hb dX7_cells_24 rfl (lv_at hl 0 rfl) ?_
    obtain rfl := Option.some.inj hf
    exact k_iret C hlocks hr hW hQ dX7_cells_25
  have L7 : ∀ (n : Nat) (i1 : Int32) (i2 : Int32), lpI n (un2 (pX7_cells_L4 u_numbers)) (i1, i2) = some x3 → ∀ (H : Heap) (locs : List Loc) (ls : Array Slot), kH D A s H locs [(q, .inr (6, [.ref q_numbers])), (q_numbers, .inl (cI, 36, .inl u_numbers))] → lv_has ls 3 [(2, .int i1), (1, .int i2), (0, .ref q)] → W p l e (kRm 1 23 0 0) s m args below meth c H locs 0 0 Q (F0 m 4 ls []) := by
    intro n
    induction n with
    | zero => intro i1 i2 hx5; exact (lpI_0 hx5).elim
    | succ n ih9 =>
      intro i1 i2 hx5 H locs ls hW hl
      obtain ⟨ooho4, ho4, hx5⟩ := lpI_s hx5
      replace ho4 := un2_s ho4
      unfold pX7_cells_L4 at ho4
      refine lv_iload_n hx hb dX7_cells_4 rfl (lv_at hl 0 rfl) ?_
      refine lv_bipush (v := 6) hx hb dX7_cells_5 (by decide) ?_
      refine lv_icmp_ge (tgt := 24) hx hb dX7_cells_7 (by decide) (fun hc => ?_) (fun hc => ?_)
      · replace ho4 := if_t hc ho4
        obtain rfl := Option.some.inj ho4
        obtain rfl := lpK_r hx5
        exact J6 _ _ _ hW (lv_sub hl [1] rfl)
      · replace ho4 := if_f hc ho4
        refine lv_iload_n hx hb dX7_cells_10 rfl (lv_at hl 1 rfl) ?_
        refine lv_aload_n hx hb dX7_cells_11 rfl (lv_at hl 2 rfl) ?_
        refine lv_iload_n hx hb dX7_cells_12 rfl (lv_at hl 0 rfl) ?_
        obtain ⟨v10, h11, ho4⟩ := bd1_s ho4
        refine k_callVR (b := q) (ci := 6) (qb := 0) (As := [.int i1]) (n := 1) (rest := [.int i2]) (st1 := [.int v10, .int i2]) C hE hW hl.1 (kX7_rowLength l D cI cZ cJ _ q q_numbers u_numbers i1 v10 h11) gX7_cells_X7_rowLength rfl (by decide +kernel) rfl ⟨Nat.le_of_ble_eq_true rfl, Nat.le_of_ble_eq_true rfl⟩ ⟨Nat.zero_le _, Nat.zero_le _⟩ rfl rfl [0, 1] rfl rfl (Nat.le_of_ble_eq_true rfl) rfl rfl dX7_cells_13 (fun H locs hW => ?_)
        refine lv_iadd hx hb dX7_cells_16 ?_
        refine lv_istore_n (lv' := [(1, .int (i2 + v10)), (2, .int i1), (0, .ref q)]) hx hb dX7_cells_17 rfl hl (by decide) rfl (fun ls hl => ?_)
        refine lv_iinc (v := (i1 + 1)) (lv' := [(2, .int (i1 + 1)), (1, .int (i2 + v10)), (0, .ref q)]) hx hb dX7_cells_18 hl (k := 1) rfl rfl (by decide) rfl (fun ls hl => ?_)
        refine lv_goto (tgt := 4) hx hb dX7_cells_21 (by decide) ?_
        obtain rfl := Option.some.inj ho4
        exact ih9 _ _ hx5 _ _ _ hW (lv_sub hl [0, 1, 2] rfl)
  exact L7 lpF _ _ hx50 _ _ _ hW (lv_sub hl [0, 1, 2] rfl)

set_option maxHeartbeats 4000000 in
set_option maxRecDepth 100000 in
theorem kX0_countFor (l : Launch) (D : va_G) (cI cZ cJ : ClassId) (sz : Nat) (q q_times r0 r0_numbers : Nat) (u_times : Nat → Int32) (u0_numbers : Nat → Int32) (r : Int64) (u_times' : Nat → Int32) (hf : pX0_countFor u_times u0_numbers = some (r, u_times')) : kMet l D cI cZ cJ yX0_countFor wsX0_countFor 4 91 [.ref q, .ref r0] [(q, .inr (0, [.ref q_times])), (q_times, .inl (cI, 37, .inl u_times)), (r0, .inr (6, [.ref r0_numbers])), (r0_numbers, .inl (cI, 36, .inl u0_numbers))] sz (some (.long r)) [(q, .inr (0, [.ref q_times])), (q_times, .inl (cI, 37, .inl u_times')), (r0, .inr (6, [.ref r0_numbers])), (r0_numbers, .inl (cI, 36, .inl u0_numbers))] := by
  refine kM_of (cc := cX0_countFor) (maxL := 11) (ret := (some .long)) (by decide) rfl (Nat.le_of_ble_eq_true rfl) ?_
  intro p e s m args below meth c A Q ls hQ C hlocks hr hE hW hl
  have hx := C.1
  have hb := C.2.1
  have hts := C.2.2.2.2
  have hl : lv_has ls 11 [(0, .ref q), (1, .ref r0)] := hl
  have iX0 : ∀ w ∈ u_ws RX0 TX0 1, w ∈ wsX0_countFor := by decide +kernel
  have f9 := hts (.fieldLink RX0 9 "SortedTables$Fillings" "times" "[I") (by decide +kernel)
  obtain ⟨tP, hZ1, hZ2⟩ := hE.2.1.2.2
  unfold pX0_countFor at hf
  refine lv_aload_n hx hb dX0_countFor_0 rfl (lv_at hl 1 rfl) ?_
  obtain ⟨v1, h2, hf⟩ := bd1_s hf
  refine k_callVR (b := r0) (ci := 6) (qb := 0) (As := []) (n := 0) (rest := []) (st1 := [.int v1]) C hE hW hl.1 (kX7_cells l D cI cZ cJ _ r0 r0_numbers u0_numbers v1 h2) gX0_countFor_X7_cells rfl (by decide +kernel) rfl ⟨Nat.le_of_ble_eq_true rfl, Nat.le_of_ble_eq_true rfl⟩ ⟨Nat.zero_le _, Nat.zero_le _⟩ rfl rfl [2, 3] rfl rfl (Nat.le_of_ble_eq_true rfl) rfl rfl dX0_countFor_1 (fun H locs hW => ?_)
  refine lv_istore_n (lv' := [(2, .int v1), (0, .ref q), (1, .ref r0)]) hx hb dX0_countFor_4 rfl hl (by decide) rfl (fun ls hl => ?_)
  refine lv_iconst (v := 0) hx hb dX0_countFor_5 (by decide) ?_
  refine lv_istore_n (lv' := [(3, .int 0), (2, .int v1), (0, .ref q), (1, .ref r0)]) hx hb dX0_countFor_6 rfl hl (by decide) rfl (fun ls hl => ?_)
  obtain ⟨w5, hx70, hf⟩ := bd1_s hf
  have J8 : ∀ (H : Heap) (locs : List Loc) (ls : Array Slot), kH D A s H locs [(q, .inr (0, [.ref q_times])), (q_times, .inl (cI, 37, .inl w5)), (r0, .inr (6, [.ref r0_numbers])), (r0_numbers, .inl (cI, 36, .inl u0_numbers))] → lv_has ls 11 [(0, .ref q), (1, .ref r0)] → W p l e (kRm 4 91 0 0) s m args below meth c H locs 0 0 Q (F0 m 40 ls []) := by
    intro H locs ls hW hl
    refine lv_aload_n hx hb dX0_countFor_40 rfl (lv_at hl 0 rfl) ?_
    refine lv_aload_n hx hb dX0_countFor_41 rfl (lv_at hl 1 rfl) ?_
    obtain ⟨w18, h19, hf⟩ := bd1_s hf
    refine k_callV (b := q) (ci := 0) (qb := 0) (As := [.ref r0]) (n := 1) (rest := []) (st1 := []) (wr := []) (ws' := [(q, .inr (0, [.ref q_times])), (q_times, .inl (cI, 37, .inl w18)), (r0, .inr (6, [.ref r0_numbers])), (r0_numbers, .inl (cI, 36, .inl u0_numbers))]) C hE hW hl.1 (kX0_divideByHooks l D cI cZ cJ _ q q_times r0 r0_numbers w5 u0_numbers w18 h19) gX0_countFor_X0_divideByHooks rfl (by decide +kernel) rfl ⟨Nat.le_of_ble_eq_true rfl, Nat.le_of_ble_eq_true rfl⟩ ⟨Nat.zero_le _, Nat.zero_le _⟩ rfl rfl [0, 1, 2, 3] [] [0, 1, 2, 3] rfl rfl rfl rfl (by decide) rfl rfl (Nat.le_of_ble_eq_true rfl) rfl rfl dX0_countFor_42 (fun H locs hW => ?_)
    refine lv_lconst (v := 1) hx hb dX0_countFor_45 (by decide) ?_
    refine lv_lstore_n (lv' := [(3, .long 1), (0, .ref q), (1, .ref r0)]) hx hb dX0_countFor_46 rfl hl (by decide) rfl (fun ls hl => ?_)
    refine va_getsN hx hb hZ1 hW.2.2 C.2.2.2.1 (va_Nw.use rfl hE.1.2.2.1) (fun _ h9 => h9) dX0_countFor_47 ?_
    refine lv_astore (lv' := [(5, .ref tP), (3, .long 1), (0, .ref q), (1, .ref r0)]) hx hb dX0_countFor_50 hl (by decide) rfl (fun ls hl => ?_)
    refine lv_aload hx hb dX0_countFor_52 (lv_at hl 0 rfl) ?_
    refine va_tlen (v := 11) hx hb hZ2 hW.2.2 (by decide) dX0_countFor_54 ?_
    refine lv_istore (lv' := [(6, .int 11), (5, .ref tP), (3, .long 1), (0, .ref q), (1, .ref r0)]) hx hb dX0_countFor_55 hl (by decide) rfl (fun ls hl => ?_)
    refine lv_iconst (v := 0) hx hb dX0_countFor_57 (by decide) ?_
    refine lv_istore (lv' := [(7, .int 0), (6, .int 11), (5, .ref tP), (3, .long 1), (0, .ref q), (1, .ref r0)]) hx hb dX0_countFor_58 hl (by decide) rfl (fun ls hl => ?_)
    obtain ⟨x22, hx240, hf⟩ := bd1_s hf
    have J25 : ∀ (H : Heap) (locs : List Loc) (ls : Array Slot), kH D A s H locs [(q, .inr (0, [.ref q_times])), (q_times, .inl (cI, 37, .inl w18)), (r0, .inr (6, [.ref r0_numbers])), (r0_numbers, .inl (cI, 36, .inl u0_numbers))] → lv_has ls 11 [(3, .long x22)] → W p l e (kRm 4 91 0 0) s m args below meth c H locs 0 0 Q (F0 m 110 ls []) := by
      intro H locs ls hW hl
      refine lv_lload_n hx hb dX0_countFor_110 rfl (lv_at hl 0 rfl) ?_
      obtain ⟨rfl, rfl⟩ := sm2 hf
      exact k_lret C hlocks hr hW hQ dX0_countFor_111
    have L26 : ∀ (n : Nat) (i20 : Int32) (i21 : Int64), lpI n (un2 (pX0_countFor_L60 w18)) (i20, i21) = some x22 → ∀ (H : Heap) (locs : List Loc) (ls : Array Slot), kH D A s H locs [(q, .inr (0, [.ref q_times])), (q_times, .inl (cI, 37, .inl w18)), (r0, .inr (6, [.ref r0_numbers])), (r0_numbers, .inl (cI, 36, .inl u0_numbers))] → lv_has ls 11 [(7, .int i20), (6, .int 11), (5, .ref tP), (3, .long i21), (0, .ref q)] → W p l e (kRm 4 91 0 0) s m args below meth c H locs 0 0 Q (F0 m 60 ls []) := by
      intro n
      induction n with
      | zero => intro i20 i21 hx24; exact (lpI_0 hx24).elim
      | succ n ih28 =>
        intro i20 i21 hx24 H locs ls hW hl
        obtain ⟨ooho23, ho23, hx24⟩ := lpI_s hx24
        replace ho23 := un2_s ho23
        unfold pX0_countFor_L60 at ho23
        refine lv_iload hx hb dX0_countFor_60 (lv_at hl 0 rfl) ?_
        refine lv_iload hx hb dX0_countFor_62 (lv_at hl 1 rfl) ?_
        refine lv_icmp_ge (tgt := 110) hx hb dX0_countFor_64 (by decide) (fun hc => ?_) (fun hc => ?_)
        · replace ho23 := if_t hc ho23
          obtain rfl := Option.some.inj ho23
          obtain rfl := lpK_r hx24
          exact J25 _ _ _ hW (lv_sub hl [3] rfl)
        · replace ho23 := if_f hc ho23
          refine lv_aload hx hb dX0_countFor_67 (lv_at hl 2 rfl) ?_
          refine lv_iload hx hb dX0_countFor_69 (lv_at hl 0 rfl) ?_
          obtain ⟨v29, h30, ho23⟩ := bd1_s ho23
          refine va_ti hx hb hZ2 hW.2.2 (gI_s h30).1 (congrArg Value.int (gI_s h30).2) dX0_countFor_71 ?_
          refine lv_istore (lv' := [(8, .int v29), (7, .int i20), (6, .int 11), (5, .ref tP), (3, .long i21), (0, .ref q)]) hx hb dX0_countFor_72 hl (by decide) rfl (fun ls hl => ?_)
          refine lv_aload_n hx hb dX0_countFor_74 rfl (lv_at hl 5 rfl) ?_
          refine lv_iload hx hb dX0_countFor_75 (lv_at hl 0 rfl) ?_
          obtain ⟨v31, h32, ho23⟩ := bd1_s ho23
          refine k_callVR (b := q) (ci := 0) (qb := 0) (As := [.int v29]) (n := 1) (rest := []) (st1 := [.int v31]) C hE hW hl.1 (kX0_powerOf l D cI cZ cJ _ q q_times w18 v29 v31 h32) gX0_countFor_X0_powerOf rfl (by decide +kernel) rfl ⟨Nat.le_of_ble_eq_true rfl, Nat.le_of_ble_eq_true rfl⟩ ⟨Nat.zero_le _, Nat.zero_le _⟩ rfl rfl [0, 1] rfl rfl (Nat.le_of_ble_eq_true rfl) rfl rfl dX0_countFor_77 (fun H locs hW => ?_)
          refine lv_istore (lv' := [(9, .int v31), (8, .int v29), (7, .int i20), (6, .int 11), (5, .ref tP), (3, .long i21), (0, .ref q)]) hx hb dX0_countFor_80 hl (by decide) rfl (fun ls hl => ?_)
          refine lv_iconst (v := 0) hx hb dX0_countFor_82 (by decide) ?_
          refine lv_istore (lv' := [(10, .int 0), (9, .int v31), (8, .int v29), (7, .int i20), (6, .int 11), (5, .ref tP), (3, .long i21), (0, .ref q)]) hx hb dX0_countFor_83 hl (by decide) rfl (fun ls hl => ?_)
          obtain ⟨x35, hx370, ho23⟩ := bd1_s ho23
          have J38 : ∀ (H : Heap) (locs : List Loc) (ls : Array Slot), kH D A s H locs [(q, .inr (0, [.ref q_times])), (q_times, .inl (cI, 37, .inl w18)), (r0, .inr (6, [.ref r0_numbers])), (r0_numbers, .inl (cI, 36, .inl u0_numbers))] → lv_has ls 11 [(7, .int i20), (6, .int 11), (5, .ref tP), (3, .long x35), (0, .ref q)] → W p l e (kRm 4 91 0 0) s m args below meth c H locs 0 0 Q (F0 m 104 ls []) := by
            intro H locs ls hW hl
            refine lv_iinc (v := (i20 + 1)) (lv' := [(7, .int (i20 + 1)), (6, .int 11), (5, .ref tP), (3, .long x35), (0, .ref q)]) hx hb dX0_countFor_104 hl (k := 0) rfl rfl (by decide) rfl (fun ls hl => ?_)
            refine lv_goto (tgt := 60) hx hb dX0_countFor_107 (by decide) ?_
            obtain rfl := Option.some.inj ho23
            exact ih28 _ _ hx24 _ _ _ hW (lv_sub hl [0, 1, 2, 3, 4] rfl)
          have L39 : ∀ (n : Nat) (i33 : Int32) (i34 : Int64), lpI n (un2 (pX0_countFor_L85 v29 v31)) (i33, i34) = some x35 → ∀ (H : Heap) (locs : List Loc) (ls : Array Slot), kH D A s H locs [(q, .inr (0, [.ref q_times])), (q_times, .inl (cI, 37, .inl w18)), (r0, .inr (6, [.ref r0_numbers])), (r0_numbers, .inl (cI, 36, .inl u0_numbers))] → lv_has ls 11 [(10, .int i33), (9, .int v31), (8, .int v29), (7, .int i20), (6, .int 11), (5, .ref tP), (3, .long i34), (0, .ref q)] → W p l e (kRm 4 91 0 0) s m args below meth c H locs 0 0 Q (F0 m 85 ls []) := by
            intro n
            induction n with
            | zero => intro i33 i34 hx37; exact (lpI_0 hx37).elim
            | succ n ih41 =>
              intro i33 i34 hx37 H locs ls hW hl
              obtain ⟨ooho36, ho36, hx37⟩ := lpI_s hx37
              replace ho36 := un2_s ho36
              unfold pX0_countFor_L85 at ho36
              refine lv_iload hx hb dX0_countFor_85 (lv_at hl 0 rfl) ?_
              refine lv_iload hx hb dX0_countFor_87 (lv_at hl 1 rfl) ?_
              refine lv_icmp_ge (tgt := 104) hx hb dX0_countFor_89 (by decide) (fun hc => ?_) (fun hc => ?_)
              · replace ho36 := if_t hc ho36
                obtain rfl := Option.some.inj ho36
                obtain rfl := lpK_r hx37
                exact J38 _ _ _ hW (lv_sub hl [3, 4, 5, 6, 7] rfl)
              · replace ho36 := if_f hc ho36
                refine lv_lload_n hx hb dX0_countFor_92 rfl (lv_at hl 6 rfl) ?_
                refine lv_iload hx hb dX0_countFor_93 (lv_at hl 2 rfl) ?_
                refine lv_i2l hx hb dX0_countFor_95 rfl ?_
                refine lv_lmul hx hb dX0_countFor_96 ?_
                refine lv_lstore_n (lv' := [(3, .long (i34 * (v29 : Int32).toInt64)), (10, .int i33), (9, .int v31), (8, .int v29), (7, .int i20), (6, .int 11), (5, .ref tP), (0, .ref q)]) hx hb dX0_countFor_97 rfl hl (by decide) rfl (fun ls hl => ?_)
                refine lv_iinc (v := (i33 + 1)) (lv' := [(10, .int (i33 + 1)), (3, .long (i34 * (v29 : Int32).toInt64)), (9, .int v31), (8, .int v29), (7, .int i20), (6, .int 11), (5, .ref tP), (0, .ref q)]) hx hb dX0_countFor_98 hl (k := 1) rfl rfl (by decide) rfl (fun ls hl => ?_)
                refine lv_goto (tgt := 85) hx hb dX0_countFor_101 (by decide) ?_
                obtain rfl := Option.some.inj ho36
                exact ih41 _ _ hx37 _ _ _ hW (lv_sub hl [0, 2, 3, 4, 5, 6, 1, 7] rfl)
          exact L39 lpF _ _ hx370 _ _ _ hW (lv_sub hl [0, 1, 2, 3, 4, 5, 6, 7] rfl)
    exact L26 lpF _ _ hx240 _ _ _ hW (lv_sub hl [0, 1, 2, 3, 4] rfl)
  have L9 : ∀ (n : Nat) (i3 : Int32) (w4 : Nat → Int32), lpI n (un2 (pX0_countFor_L7 v1)) (i3, w4) = some w5 → ∀ (H : Heap) (locs : List Loc) (ls : Array Slot), kH D A s H locs [(q, .inr (0, [.ref q_times])), (q_times, .inl (cI, 37, .inl w4)), (r0, .inr (6, [.ref r0_numbers])), (r0_numbers, .inl (cI, 36, .inl u0_numbers))] → lv_has ls 11 [(3, .int i3), (2, .int v1), (0, .ref q), (1, .ref r0)] → W p l e (kRm 4 91 0 0) s m args below meth c H locs 0 0 Q (F0 m 7 ls []) := by
    intro n
    induction n with
    | zero => intro i3 w4 hx7; exact (lpI_0 hx7).elim
    | succ n ih11 =>
      intro i3 w4 hx7 H locs ls hW hl
      obtain ⟨ooho6, ho6, hx7⟩ := lpI_s hx7
      replace ho6 := un2_s ho6
      unfold pX0_countFor_L7 at ho6
      refine lv_iload_n hx hb dX0_countFor_7 rfl (lv_at hl 0 rfl) ?_
      refine lv_bipush (v := 36) hx hb dX0_countFor_8 (by decide) ?_
      refine lv_icmp_gt (tgt := 40) hx hb dX0_countFor_10 (by decide) (fun hc => ?_) (fun hc => ?_)
      · replace ho6 := if_t hc ho6
        obtain rfl := Option.some.inj ho6
        obtain rfl := lpK_r hx7
        exact J8 _ _ _ hW (lv_sub hl [2, 3] rfl)
      · replace ho6 := if_f hc ho6
        refine lv_aload_n hx hb dX0_countFor_13 rfl (lv_at hl 2 rfl) ?_
        refine k_get C hE hW iX0 0 rfl rfl 0 (by decide) f9 (fun _ h9 => h9) rfl dX0_countFor_14 ?_
        refine lv_iload_n hx hb dX0_countFor_17 rfl (lv_at hl 0 rfl) ?_
        refine lv_iload_n hx hb dX0_countFor_18 rfl (lv_at hl 0 rfl) ?_
        refine lv_iconst (v := 1) hx hb dX0_countFor_19 (by decide) ?_
        refine lv_icmp_lt (tgt := 32) hx hb dX0_countFor_20 (by decide) (fun hc => ?_) (fun hc => ?_)
        · replace ho6 := if_t hc ho6
          refine lv_iconst (v := 0) hx hb dX0_countFor_32 (by decide) ?_
          obtain ⟨w12, h13, ho6⟩ := bd1_s ho6
          refine k_iast (ws' := [(q, .inr (0, [.ref q_times])), (q_times, .inl (cI, 37, .inl w12)), (r0, .inr (6, [.ref r0_numbers])), (r0_numbers, .inl (cI, 36, .inl u0_numbers))]) C hE hW 1 rfl h13 rfl dX0_countFor_33 (fun H locs hW => ?_)
          refine lv_iinc (v := (i3 + 1)) (lv' := [(3, .int (i3 + 1)), (2, .int v1), (0, .ref q), (1, .ref r0)]) hx hb dX0_countFor_34 hl (k := 0) rfl rfl (by decide) rfl (fun ls hl => ?_)
          refine lv_goto (tgt := 7) hx hb dX0_countFor_37 (by decide) ?_
          obtain rfl := Option.some.inj ho6
          exact ih11 _ _ hx7 _ _ _ hW (lv_sub hl [0, 1, 2, 3] rfl)
        · replace ho6 := if_f hc ho6
          refine lv_iload_n hx hb dX0_countFor_23 rfl (lv_at hl 0 rfl) ?_
          refine lv_iload_n hx hb dX0_countFor_24 rfl (lv_at hl 1 rfl) ?_
          refine lv_icmp_gt (tgt := 32) hx hb dX0_countFor_25 (by decide) (fun hc => ?_) (fun hc => ?_)
          · replace ho6 := if_t hc ho6
            refine lv_iconst (v := 0) hx hb dX0_countFor_32 (by decide) ?_
            obtain ⟨w14, h15, ho6⟩ := bd1_s ho6
            refine k_iast (ws' := [(q, .inr (0, [.ref q_times])), (q_times, .inl (cI, 37, .inl w14)), (r0, .inr (6, [.ref r0_numbers])), (r0_numbers, .inl (cI, 36, .inl u0_numbers))]) C hE hW 1 rfl h15 rfl dX0_countFor_33 (fun H locs hW => ?_)
            refine lv_iinc (v := (i3 + 1)) (lv' := [(3, .int (i3 + 1)), (2, .int v1), (0, .ref q), (1, .ref r0)]) hx hb dX0_countFor_34 hl (k := 0) rfl rfl (by decide) rfl (fun ls hl => ?_)
            refine lv_goto (tgt := 7) hx hb dX0_countFor_37 (by decide) ?_
            obtain rfl := Option.some.inj ho6
            exact ih11 _ _ hx7 _ _ _ hW (lv_sub hl [0, 1, 2, 3] rfl)
          · replace ho6 := if_f hc ho6
            refine lv_iconst (v := 1) hx hb dX0_countFor_28 (by decide) ?_
            refine lv_goto (tgt := 33) hx hb dX0_countFor_29 (by decide) ?_
            obtain ⟨w16, h17, ho6⟩ := bd1_s ho6
            refine k_iast (ws' := [(q, .inr (0, [.ref q_times])), (q_times, .inl (cI, 37, .inl w16)), (r0, .inr (6, [.ref r0_numbers])), (r0_numbers, .inl (cI, 36, .inl u0_numbers))]) C hE hW 1 rfl h17 rfl dX0_countFor_33 (fun H locs hW => ?_)
            refine lv_iinc (v := (i3 + 1)) (lv' := [(3, .int (i3 + 1)), (2, .int v1), (0, .ref q), (1, .ref r0)]) hx hb dX0_countFor_34 hl (k := 0) rfl rfl (by decide) rfl (fun ls hl => ?_)
            refine lv_goto (tgt := 7) hx hb dX0_countFor_37 (by decide) ?_
            obtain rfl := Option.some.inj ho6
            exact ih11 _ _ hx7 _ _ _ hW (lv_sub hl [0, 1, 2, 3] rfl)
  exact L9 lpF _ _ hx70 _ _ _ hW (lv_sub hl [0, 1, 2, 3] rfl)

set_option maxHeartbeats 4000000 in
set_option maxRecDepth 100000 in
theorem kX1_sum (l : Launch) (D : va_G) (cI cZ cJ : ClassId) (sz : Nat) (q q_sums : Nat) (u_sum : Int32) (u_end : Int32) (r : Int32) (hf : pX1_sum u_sum = some r) : kMet l D cI cZ cJ yX1_sum wsX1_sum 0 0 [.ref q] [(q, .inr (1, [.ref q_sums, .int u_sum, .int u_end]))] sz (some (.int r)) [(q, .inr (1, [.ref q_sums, .int u_sum, .int u_end]))] := by
  refine kM_of (cc := cX1_sum) (maxL := 1) (ret := (some .int)) (by decide) rfl (Nat.le_of_ble_eq_true rfl) ?_
  intro p e s m args below meth c A Q ls hQ C hlocks hr hE hW hl
  have hx := C.1
  have hb := C.2.1
  have hts := C.2.2.2.2
  have hl : lv_has ls 1 [(0, .ref q)] := hl
  have iX1 : ∀ w ∈ u_ws RX1 TX1 3, w ∈ wsX1_sum := by decide +kernel
  have f15 := hts (.fieldLink RX1 15 "SortedTables$GreatestPath" "sum" "I") (by decide +kernel)
  unfold pX1_sum at hf
  refine lv_aload_n hx hb dX1_sum_0 rfl (lv_at hl 0 rfl) ?_
  refine k_get C hE hW iX1 0 rfl rfl 1 (by decide) f15 (fun _ h9 => h9) rfl dX1_sum_1 ?_
  obtain rfl := Option.some.inj hf
  exact k_iret C hlocks hr hW hQ dX1_sum_4

set_option maxHeartbeats 4000000 in
set_option maxRecDepth 100000 in
theorem kX1_end (l : Launch) (D : va_G) (cI cZ cJ : ClassId) (sz : Nat) (q q_sums : Nat) (u_sum : Int32) (u_end : Int32) (r : Int32) (hf : pX1_end u_end = some r) : kMet l D cI cZ cJ yX1_end wsX1_end 0 0 [.ref q] [(q, .inr (1, [.ref q_sums, .int u_sum, .int u_end]))] sz (some (.int r)) [(q, .inr (1, [.ref q_sums, .int u_sum, .int u_end]))] := by
  refine kM_of (cc := cX1_end) (maxL := 1) (ret := (some .int)) (by decide) rfl (Nat.le_of_ble_eq_true rfl) ?_
  intro p e s m args below meth c A Q ls hQ C hlocks hr hE hW hl
  have hx := C.1
  have hb := C.2.1
  have hts := C.2.2.2.2
  have hl : lv_has ls 1 [(0, .ref q)] := hl
  have iX1 : ∀ w ∈ u_ws RX1 TX1 3, w ∈ wsX1_end := by decide +kernel
  have f19 := hts (.fieldLink RX1 19 "SortedTables$GreatestPath" "end" "I") (by decide +kernel)
  unfold pX1_end at hf
  refine lv_aload_n hx hb dX1_end_0 rfl (lv_at hl 0 rfl) ?_
  refine k_get C hE hW iX1 0 rfl rfl 2 (by decide) f19 (fun _ h9 => h9) rfl dX1_end_1 ?_
  obtain rfl := Option.some.inj hf
  exact k_iret C hlocks hr hW hQ dX1_end_4

set_option maxHeartbeats 4000000 in
set_option maxRecDepth 100000 in
theorem kX9_placeOf (l : Launch) (D : va_G) (cI cZ cJ : ClassId) (sz : Nat) (p0 : Int32) (p1 : Int32) (r : Int32) (hf : pX9_placeOf p0 p1 = some r) : kMet l D cI cZ cJ yX9_placeOf wsX9_placeOf 0 0 [.int p0, .int p1] [] sz (some (.int r)) [] := by
  refine kM_of (cc := cX9_placeOf) (maxL := 2) (ret := (some .int)) (by decide) rfl (Nat.le_of_ble_eq_true rfl) ?_
  intro p e s m args below meth c A Q ls hQ C hlocks hr hE hW hl
  have hx := C.1
  have hb := C.2.1
  have hts := C.2.2.2.2
  have hl : lv_has ls 2 [(0, .int p0), (1, .int p1)] := hl
  unfold pX9_placeOf at hf
  refine lv_bipush (v := 10) hx hb dX9_placeOf_0 (by decide) ?_
  refine lv_iload_n hx hb dX9_placeOf_2 rfl (lv_at hl 0 rfl) ?_
  refine lv_imul hx hb dX9_placeOf_3 ?_
  refine lv_iload_n hx hb dX9_placeOf_4 rfl (lv_at hl 1 rfl) ?_
  refine lv_iadd hx hb dX9_placeOf_5 ?_
  obtain rfl := Option.some.inj hf
  exact k_iret C hlocks hr hW hQ dX9_placeOf_6

set_option maxHeartbeats 4000000 in
set_option maxRecDepth 100000 in
theorem kX1_endAt (l : Launch) (D : va_G) (cI cZ cJ : ClassId) (sz : Nat) (q q_sums : Nat) (u_sum : Int32) (u_end : Int32) (u_sums : Nat → Int32) (p0 : Int32) (p1 : Int32) (u_sum' : Int32) (u_end' : Int32) (hf : pX1_endAt u_sum u_end u_sums p0 p1 = some (u_sum', u_end')) : kMet l D cI cZ cJ yX1_endAt wsX1_endAt 1 21 [.ref q, .int p0, .int p1] [(q, .inr (1, [.ref q_sums, .int u_sum, .int u_end])), (q_sums, .inl (cI, 6, .inl u_sums))] sz none [(q, .inr (1, [.ref q_sums, .int u_sum', .int u_end'])), (q_sums, .inl (cI, 6, .inl u_sums))] := by
  refine kM_of (cc := cX1_endAt) (maxL := 3) (ret := none) (by decide) rfl (Nat.le_of_ble_eq_true rfl) ?_
  intro p e s m args below meth c A Q ls hQ C hlocks hr hE hW hl
  have hx := C.1
  have hb := C.2.1
  have hts := C.2.2.2.2
  have hl : lv_has ls 3 [(0, .ref q), (1, .int p0), (2, .int p1)] := hl
  have iX1 : ∀ w ∈ u_ws RX1 TX1 3, w ∈ wsX1_endAt := by decide +kernel
  have f15 := hts (.fieldLink RX1 15 "SortedTables$GreatestPath" "sum" "I") (by decide +kernel)
  have f19 := hts (.fieldLink RX1 19 "SortedTables$GreatestPath" "end" "I") (by decide +kernel)
  have f9 := hts (.fieldLink RX1 9 "SortedTables$GreatestPath" "sums" "[I") (by decide +kernel)
  unfold pX1_endAt at hf
  refine lv_iload_n hx hb dX1_endAt_0 rfl (lv_at hl 2 rfl) ?_
  refine lv_if_lt (tgt := 42) hx hb dX1_endAt_1 (by decide) (fun hc => ?_) (fun hc => ?_)
  · replace hf := if_t hc hf
    obtain ⟨rfl, rfl⟩ := sm2 hf
    exact k_vret C hlocks hr hW hQ dX1_endAt_42
  · replace hf := if_f hc hf
    refine lv_iload_n hx hb dX1_endAt_4 rfl (lv_at hl 2 rfl) ?_
    refine lv_bipush (v := 6) hx hb dX1_endAt_5 (by decide) ?_
    refine lv_icmp_ge (tgt := 42) hx hb dX1_endAt_7 (by decide) (fun hc => ?_) (fun hc => ?_)
    · replace hf := if_t hc hf
      obtain ⟨rfl, rfl⟩ := sm2 hf
      exact k_vret C hlocks hr hW hQ dX1_endAt_42
    · replace hf := if_f hc hf
      refine lv_aload_n hx hb dX1_endAt_10 rfl (lv_at hl 0 rfl) ?_
      refine k_get C hE hW iX1 0 rfl rfl 0 (by decide) f9 (fun _ h9 => h9) rfl dX1_endAt_11 ?_
      refine lv_iload_n hx hb dX1_endAt_14 rfl (lv_at hl 2 rfl) ?_
      obtain ⟨v1, h2, hf⟩ := bd1_s hf
      refine k_iald C hE hW 1 rfl h2 dX1_endAt_15 ?_
      refine lv_aload_n hx hb dX1_endAt_16 rfl (lv_at hl 0 rfl) ?_
      refine k_get C hE hW iX1 0 rfl rfl 1 (by decide) f15 (fun _ h9 => h9) rfl dX1_endAt_17 ?_
      refine lv_icmp_le (tgt := 42) hx hb dX1_endAt_20 (by decide) (fun hc => ?_) (fun hc => ?_)
      · replace hf := if_t hc hf
        obtain ⟨rfl, rfl⟩ := sm2 hf
        exact k_vret C hlocks hr hW hQ dX1_endAt_42
      · replace hf := if_f hc hf
        refine lv_aload_n hx hb dX1_endAt_23 rfl (lv_at hl 0 rfl) ?_
        refine lv_aload_n hx hb dX1_endAt_24 rfl (lv_at hl 0 rfl) ?_
        refine k_get C hE hW iX1 0 rfl rfl 0 (by decide) f9 (fun _ h9 => h9) rfl dX1_endAt_25 ?_
        refine lv_iload_n hx hb dX1_endAt_28 rfl (lv_at hl 2 rfl) ?_
        obtain ⟨v3, h4, hf⟩ := bd1_s hf
        refine k_iald C hE hW 1 rfl h4 dX1_endAt_29 ?_
        refine k_put (v := .int v3) (ty := .int) (ws' := [(q, .inr (1, [.ref q_sums, .int v3, .int u_end])), (q_sums, .inl (cI, 6, .inl u_sums))]) C hE hW iX1 tyX1_ok nmX1 0 rfl rfl 1 (by decide) f15 (fun _ h9 => h9) rfl (by decide +kernel) rfl rfl (Nat.le_of_ble_eq_true rfl) rfl dX1_endAt_30 (fun H locs hW => ?_)
        refine lv_aload_n hx hb dX1_endAt_33 rfl (lv_at hl 0 rfl) ?_
        refine lv_iload_n hx hb dX1_endAt_34 rfl (lv_at hl 1 rfl) ?_
        refine lv_iload_n hx hb dX1_endAt_35 rfl (lv_at hl 2 rfl) ?_
        obtain ⟨v5, h6, hf⟩ := bd1_s hf
        refine k_callSN (As := [.int p0, .int p1]) (n := 2) (rest := [.ref q]) (st1 := [.int v5, .ref q]) C hE hW hl.1 (kX9_placeOf l D cI cZ cJ _ p0 p1 v5 h6) gX1_endAt_X9_placeOf_n53 rfl (by decide +kernel) (by decide +kernel) (by decide +kernel) (by decide +kernel) rfl ⟨Nat.le_of_ble_eq_true rfl, Nat.le_of_ble_eq_true rfl⟩ ⟨Nat.zero_le _, Nat.zero_le _⟩ (Nat.le_of_ble_eq_true rfl) rfl rfl dX1_endAt_36 (fun H locs hW => ?_)
        refine k_put (v := .int v5) (ty := .int) (ws' := [(q, .inr (1, [.ref q_sums, .int v3, .int v5])), (q_sums, .inl (cI, 6, .inl u_sums))]) C hE hW iX1 tyX1_ok nmX1 0 rfl rfl 2 (by decide) f19 (fun _ h9 => h9) rfl (by decide +kernel) rfl rfl (Nat.le_of_ble_eq_true rfl) rfl dX1_endAt_39 (fun H locs hW => ?_)
        obtain ⟨rfl, rfl⟩ := sm2 hf
        exact k_vret C hlocks hr hW hQ dX1_endAt_42

set_option maxHeartbeats 4000000 in
set_option maxRecDepth 100000 in
theorem kX1_goOverRow (l : Launch) (D : va_G) (cI cZ cJ : ClassId) (sz : Nat) (q q_sums r0 r0_numbers : Nat) (u_sum : Int32) (u_end : Int32) (u_sums : Nat → Int32) (u0_numbers : Nat → Int32) (p1 : Int32) (u_sums' : Nat → Int32) (hf : pX1_goOverRow u_sums u0_numbers p1 = some u_sums') : kMet l D cI cZ cJ yX1_goOverRow wsX1_goOverRow 2 44 [.ref q, .ref r0, .int p1] [(q, .inr (1, [.ref q_sums, .int u_sum, .int u_end])), (q_sums, .inl (cI, 6, .inl u_sums)), (r0, .inr (6, [.ref r0_numbers])), (r0_numbers, .inl (cI, 36, .inl u0_numbers))] sz none [(q, .inr (1, [.ref q_sums, .int u_sum, .int u_end])), (q_sums, .inl (cI, 6, .inl u_sums')), (r0, .inr (6, [.ref r0_numbers])), (r0_numbers, .inl (cI, 36, .inl u0_numbers))] := by
  refine kM_of (cc := cX1_goOverRow) (maxL := 5) (ret := none) (by decide) rfl (Nat.le_of_ble_eq_true rfl) ?_
  intro p e s m args below meth c A Q ls hQ C hlocks hr hE hW hl
  have hx := C.1
  have hb := C.2.1
  have hts := C.2.2.2.2
  have hl : lv_has ls 5 [(0, .ref q), (1, .ref r0), (2, .int p1)] := hl
  have iX1 : ∀ w ∈ u_ws RX1 TX1 3, w ∈ wsX1_goOverRow := by decide +kernel
  have f9 := hts (.fieldLink RX1 9 "SortedTables$GreatestPath" "sums" "[I") (by decide +kernel)
  unfold pX1_goOverRow at hf
  refine lv_iconst (v := 0) hx hb dX1_goOverRow_0 (by decide) ?_
  refine lv_istore_n (lv' := [(3, .int 0), (0, .ref q), (1, .ref r0), (2, .int p1)]) hx hb dX1_goOverRow_1 rfl hl (by decide) rfl (fun ls hl => ?_)
  refine lv_iconst (v := 0) hx hb dX1_goOverRow_2 (by decide) ?_
  refine lv_istore (lv' := [(4, .int 0), (3, .int 0), (0, .ref q), (1, .ref r0), (2, .int p1)]) hx hb dX1_goOverRow_3 hl (by decide) rfl (fun ls hl => ?_)
  obtain ⟨w4, hx60, hf⟩ := bd1_s hf
  have J7 : ∀ (H : Heap) (locs : List Loc) (ls : Array Slot), kH D A s H locs [(q, .inr (1, [.ref q_sums, .int u_sum, .int u_end])), (q_sums, .inl (cI, 6, .inl w4)), (r0, .inr (6, [.ref r0_numbers])), (r0_numbers, .inl (cI, 36, .inl u0_numbers))] → lv_has ls 5 [] → W p l e (kRm 2 44 0 0) s m args below meth c H locs 0 0 Q (F0 m 56 ls []) := by
    intro H locs ls hW hl
    obtain rfl := Option.some.inj hf
    exact k_vret C hlocks hr hW hQ dX1_goOverRow_56
  have L8 : ∀ (n : Nat) (i1 : Int32) (i2 : Int32) (w3 : Nat → Int32), lpI n (un3 (pX1_goOverRow_L5 u0_numbers p1)) (i1, i2, w3) = some w4 → ∀ (H : Heap) (locs : List Loc) (ls : Array Slot), kH D A s H locs [(q, .inr (1, [.ref q_sums, .int u_sum, .int u_end])), (q_sums, .inl (cI, 6, .inl w3)), (r0, .inr (6, [.ref r0_numbers])), (r0_numbers, .inl (cI, 36, .inl u0_numbers))] → lv_has ls 5 [(4, .int i1), (3, .int i2), (0, .ref q), (1, .ref r0), (2, .int p1)] → W p l e (kRm 2 44 0 0) s m args below meth c H locs 0 0 Q (F0 m 5 ls []) := by
    intro n
    induction n with
    | zero => intro i1 i2 w3 hx6; exact (lpI_0 hx6).elim
    | succ n ih10 =>
      intro i1 i2 w3 hx6 H locs ls hW hl
      obtain ⟨ooho5, ho5, hx6⟩ := lpI_s hx6
      replace ho5 := un3_s ho5
      unfold pX1_goOverRow_L5 at ho5
      refine lv_iload hx hb dX1_goOverRow_5 (lv_at hl 0 rfl) ?_
      refine lv_bipush (v := 6) hx hb dX1_goOverRow_7 (by decide) ?_
      refine lv_icmp_ge (tgt := 56) hx hb dX1_goOverRow_9 (by decide) (fun hc => ?_) (fun hc => ?_)
      · replace ho5 := if_t hc ho5
        obtain rfl := Option.some.inj ho5
        obtain rfl := lpK_r hx6
        exact J7 _ _ _ hW (lv_sub hl [] rfl)
      · replace ho5 := if_f hc ho5
        refine lv_aload_n hx hb dX1_goOverRow_12 rfl (lv_at hl 3 rfl) ?_
        refine lv_iload_n hx hb dX1_goOverRow_13 rfl (lv_at hl 4 rfl) ?_
        refine lv_iload hx hb dX1_goOverRow_14 (lv_at hl 0 rfl) ?_
        obtain ⟨v11, h12, ho5⟩ := bd1_s ho5
        refine k_callVR (b := r0) (ci := 6) (qb := 0) (As := [.int p1, .int i1]) (n := 2) (rest := []) (st1 := [.int v11]) C hE hW hl.1 (kX7_has l D cI cZ cJ _ r0 r0_numbers u0_numbers p1 i1 v11 h12) gX1_goOverRow_X7_has rfl (by decide +kernel) rfl ⟨Nat.le_of_ble_eq_true rfl, Nat.le_of_ble_eq_true rfl⟩ ⟨Nat.zero_le _, Nat.zero_le _⟩ rfl rfl [2, 3] rfl rfl (Nat.le_of_ble_eq_true rfl) rfl rfl dX1_goOverRow_16 (fun H locs hW => ?_)
        refine lv_if_eq (tgt := 50) hx hb dX1_goOverRow_19 (by decide) (fun hc => ?_) (fun hc => ?_)
        · replace ho5 := if_t hc ho5
          refine lv_iinc (v := (i1 + 1)) (lv' := [(4, .int (i1 + 1)), (3, .int i2), (0, .ref q), (1, .ref r0), (2, .int p1)]) hx hb dX1_goOverRow_50 hl (k := 0) rfl rfl (by decide) rfl (fun ls hl => ?_)
          refine lv_goto (tgt := 5) hx hb dX1_goOverRow_53 (by decide) ?_
          obtain rfl := Option.some.inj ho5
          exact ih10 _ _ _ hx6 _ _ _ hW (lv_sub hl [0, 1, 2, 3, 4] rfl)
        · replace ho5 := if_f hc ho5
          refine lv_aload_n hx hb dX1_goOverRow_22 rfl (lv_at hl 3 rfl) ?_
          refine lv_iload_n hx hb dX1_goOverRow_23 rfl (lv_at hl 4 rfl) ?_
          refine lv_iload hx hb dX1_goOverRow_24 (lv_at hl 0 rfl) ?_
          obtain ⟨v13, h14, ho5⟩ := bd1_s ho5
          refine k_callVR (b := r0) (ci := 6) (qb := 0) (As := [.int p1, .int i1]) (n := 2) (rest := []) (st1 := [.int v13]) C hE hW hl.1 (kX7_at l D cI cZ cJ _ r0 r0_numbers u0_numbers p1 i1 v13 h14) gX1_goOverRow_X7_at rfl (by decide +kernel) rfl ⟨Nat.le_of_ble_eq_true rfl, Nat.le_of_ble_eq_true rfl⟩ ⟨Nat.zero_le _, Nat.zero_le _⟩ rfl rfl [2, 3] rfl rfl (Nat.le_of_ble_eq_true rfl) rfl rfl dX1_goOverRow_26 (fun H locs hW => ?_)
          refine lv_aload_n hx hb dX1_goOverRow_29 rfl (lv_at hl 2 rfl) ?_
          refine k_get C hE hW iX1 0 rfl rfl 0 (by decide) f9 (fun _ h9 => h9) rfl dX1_goOverRow_30 ?_
          refine lv_iload hx hb dX1_goOverRow_33 (lv_at hl 0 rfl) ?_
          obtain ⟨v15, h16, ho5⟩ := bd1_s ho5
          refine k_iald C hE hW 1 rfl h16 dX1_goOverRow_35 ?_
          refine lv_iload_n hx hb dX1_goOverRow_36 rfl (lv_at hl 1 rfl) ?_
          refine k_mmax C hl.1 (by decide +kernel) (by decide +kernel) (by decide +kernel) (by decide +kernel) (Nat.le_of_ble_eq_true rfl) (Nat.le_of_ble_eq_true rfl) (Nat.zero_le _) (Nat.zero_le _) dX1_goOverRow_37 ?_
          refine lv_iadd hx hb dX1_goOverRow_40 ?_
          refine lv_istore_n (lv' := [(3, .int (v13 + (if v15 < i2 then i2 else v15))), (4, .int i1), (0, .ref q), (1, .ref r0), (2, .int p1)]) hx hb dX1_goOverRow_41 rfl hl (by decide) rfl (fun ls hl => ?_)
          refine lv_aload_n hx hb dX1_goOverRow_42 rfl (lv_at hl 2 rfl) ?_
          refine k_get C hE hW iX1 0 rfl rfl 0 (by decide) f9 (fun _ h9 => h9) rfl dX1_goOverRow_43 ?_
          refine lv_iload hx hb dX1_goOverRow_46 (lv_at hl 1 rfl) ?_
          refine lv_iload_n hx hb dX1_goOverRow_48 rfl (lv_at hl 0 rfl) ?_
          obtain ⟨w17, h18, ho5⟩ := bd1_s ho5
          refine k_iast (ws' := [(q, .inr (1, [.ref q_sums, .int u_sum, .int u_end])), (q_sums, .inl (cI, 6, .inl w17)), (r0, .inr (6, [.ref r0_numbers])), (r0_numbers, .inl (cI, 36, .inl u0_numbers))]) C hE hW 1 rfl h18 rfl dX1_goOverRow_49 (fun H locs hW => ?_)
          refine lv_iinc (v := (i1 + 1)) (lv' := [(4, .int (i1 + 1)), (3, .int (v13 + (if v15 < i2 then i2 else v15))), (0, .ref q), (1, .ref r0), (2, .int p1)]) hx hb dX1_goOverRow_50 hl (k := 1) rfl rfl (by decide) rfl (fun ls hl => ?_)
          refine lv_goto (tgt := 5) hx hb dX1_goOverRow_53 (by decide) ?_
          obtain rfl := Option.some.inj ho5
          exact ih10 _ _ _ hx6 _ _ _ hW (lv_sub hl [0, 1, 2, 3, 4] rfl)
  exact L8 lpF _ _ _ hx60 _ _ _ hW (lv_sub hl [0, 1, 2, 3, 4] rfl)

set_option maxHeartbeats 4000000 in
set_option maxRecDepth 100000 in
theorem kX7_hasCorner (l : Launch) (D : va_G) (cI cZ cJ : ClassId) (sz : Nat) (q q_numbers : Nat) (u_numbers : Nat → Int32) (p0 : Int32) (r : Int32) (hf : pX7_hasCorner u_numbers p0 = some r) : kMet l D cI cZ cJ yX7_hasCorner wsX7_hasCorner 1 23 [.ref q, .int p0] [(q, .inr (6, [.ref q_numbers])), (q_numbers, .inl (cI, 36, .inl u_numbers))] sz (some (.int r)) [(q, .inr (6, [.ref q_numbers])), (q_numbers, .inl (cI, 36, .inl u_numbers))] := by
  refine kM_of (cc := cX7_hasCorner) (maxL := 2) (ret := (some .boolean)) (by decide) rfl (Nat.le_of_ble_eq_true rfl) ?_
  intro p e s m args below meth c A Q ls hQ C hlocks hr hE hW hl
  have hx := C.1
  have hb := C.2.1
  have hts := C.2.2.2.2
  have hl : lv_has ls 2 [(0, .ref q), (1, .int p0)] := hl
  unfold pX7_hasCorner at hf
  refine lv_aload_n hx hb dX7_hasCorner_0 rfl (lv_at hl 0 rfl) ?_
  refine lv_iload_n hx hb dX7_hasCorner_1 rfl (lv_at hl 1 rfl) ?_
  obtain ⟨v1, h2, hf⟩ := bd1_s hf
  refine k_callVR (b := q) (ci := 6) (qb := 0) (As := [.int p0]) (n := 1) (rest := []) (st1 := [.int v1]) C hE hW hl.1 (kX7_rowLength l D cI cZ cJ _ q q_numbers u_numbers p0 v1 h2) gX7_hasCorner_X7_rowLength rfl (by decide +kernel) rfl ⟨Nat.le_of_ble_eq_true rfl, Nat.le_of_ble_eq_true rfl⟩ ⟨Nat.zero_le _, Nat.zero_le _⟩ rfl rfl [0, 1] rfl rfl (Nat.le_of_ble_eq_true rfl) rfl rfl dX7_hasCorner_2 (fun H locs hW => ?_)
  refine lv_aload_n hx hb dX7_hasCorner_5 rfl (lv_at hl 0 rfl) ?_
  refine lv_iload_n hx hb dX7_hasCorner_6 rfl (lv_at hl 1 rfl) ?_
  refine lv_iconst (v := 1) hx hb dX7_hasCorner_7 (by decide) ?_
  refine lv_iadd hx hb dX7_hasCorner_8 ?_
  obtain ⟨v3, h4, hf⟩ := bd1_s hf
  refine k_callVR (b := q) (ci := 6) (qb := 0) (As := [.int (p0 + 1)]) (n := 1) (rest := [.int v1]) (st1 := [.int v3, .int v1]) C hE hW hl.1 (kX7_rowLength l D cI cZ cJ _ q q_numbers u_numbers (p0 + 1) v3 h4) gX7_hasCorner_X7_rowLength rfl (by decide +kernel) rfl ⟨Nat.le_of_ble_eq_true rfl, Nat.le_of_ble_eq_true rfl⟩ ⟨Nat.zero_le _, Nat.zero_le _⟩ rfl rfl [0, 1] rfl rfl (Nat.le_of_ble_eq_true rfl) rfl rfl dX7_hasCorner_9 (fun H locs hW => ?_)
  refine lv_icmp_le (tgt := 19) hx hb dX7_hasCorner_12 (by decide) (fun hc => ?_) (fun hc => ?_)
  · replace hf := if_t hc hf
    refine lv_iconst (v := 0) hx hb dX7_hasCorner_19 (by decide) ?_
    obtain rfl := Option.some.inj hf
    exact k_zret C hlocks hr hW (by decide) hQ dX7_hasCorner_20
  · replace hf := if_f hc hf
    refine lv_iconst (v := 1) hx hb dX7_hasCorner_15 (by decide) ?_
    refine lv_goto (tgt := 20) hx hb dX7_hasCorner_16 (by decide) ?_
    obtain rfl := Option.some.inj hf
    exact k_zret C hlocks hr hW (by decide) hQ dX7_hasCorner_20

set_option maxHeartbeats 4000000 in
set_option maxRecDepth 100000 in
theorem kX1_search (l : Launch) (D : va_G) (cI cZ cJ : ClassId) (sz : Nat) (q q_sums r0 r0_numbers : Nat) (u_sum : Int32) (u_end : Int32) (u_sums : Nat → Int32) (u0_numbers : Nat → Int32) (u_sum' : Int32) (u_end' : Int32) (u_sums' : Nat → Int32) (hf : pX1_search u_sum u_end u_sums u0_numbers = some (u_sum', u_end', u_sums')) : kMet l D cI cZ cJ yX1_search wsX1_search 3 68 [.ref q, .ref r0] [(q, .inr (1, [.ref q_sums, .int u_sum, .int u_end])), (q_sums, .inl (cI, 6, .inl u_sums)), (r0, .inr (6, [.ref r0_numbers])), (r0_numbers, .inl (cI, 36, .inl u0_numbers))] sz none [(q, .inr (1, [.ref q_sums, .int u_sum', .int u_end'])), (q_sums, .inl (cI, 6, .inl u_sums')), (r0, .inr (6, [.ref r0_numbers])), (r0_numbers, .inl (cI, 36, .inl u0_numbers))] := by
  refine kM_of (cc := cX1_search) (maxL := 3) (ret := none) (by decide) rfl (Nat.le_of_ble_eq_true rfl) ?_
  intro p e s m args below meth c A Q ls hQ C hlocks hr hE hW hl
  have hx := C.1
  have hb := C.2.1
  have hts := C.2.2.2.2
  have hl : lv_has ls 3 [(0, .ref q), (1, .ref r0)] := hl
  have iX1 : ∀ w ∈ u_ws RX1 TX1 3, w ∈ wsX1_search := by decide +kernel
  have f15 := hts (.fieldLink RX1 15 "SortedTables$GreatestPath" "sum" "I") (by decide +kernel)
  have f19 := hts (.fieldLink RX1 19 "SortedTables$GreatestPath" "end" "I") (by decide +kernel)
  have f9 := hts (.fieldLink RX1 9 "SortedTables$GreatestPath" "sums" "[I") (by decide +kernel)
  unfold pX1_search at hf
  refine lv_aload_n hx hb dX1_search_0 rfl (lv_at hl 0 rfl) ?_
  refine lv_bipush (v := (-9)) hx hb dX1_search_1 (by decide) ?_
  refine k_put (v := .int (-9)) (ty := .int) (ws' := [(q, .inr (1, [.ref q_sums, .int (-9), .int u_end])), (q_sums, .inl (cI, 6, .inl u_sums)), (r0, .inr (6, [.ref r0_numbers])), (r0_numbers, .inl (cI, 36, .inl u0_numbers))]) C hE hW iX1 tyX1_ok nmX1 0 rfl rfl 1 (by decide) f15 (fun _ h9 => h9) rfl (by decide +kernel) rfl rfl (Nat.le_of_ble_eq_true rfl) rfl dX1_search_3 (fun H locs hW => ?_)
  refine lv_aload_n hx hb dX1_search_6 rfl (lv_at hl 0 rfl) ?_
  refine lv_bipush (v := (-9)) hx hb dX1_search_7 (by decide) ?_
  refine k_put (v := .int (-9)) (ty := .int) (ws' := [(q, .inr (1, [.ref q_sums, .int (-9), .int (-9)])), (q_sums, .inl (cI, 6, .inl u_sums)), (r0, .inr (6, [.ref r0_numbers])), (r0_numbers, .inl (cI, 36, .inl u0_numbers))]) C hE hW iX1 tyX1_ok nmX1 0 rfl rfl 2 (by decide) f19 (fun _ h9 => h9) rfl (by decide +kernel) rfl rfl (Nat.le_of_ble_eq_true rfl) rfl dX1_search_9 (fun H locs hW => ?_)
  refine lv_iconst (v := 0) hx hb dX1_search_12 (by decide) ?_
  refine lv_istore_n (lv' := [(2, .int 0), (0, .ref q), (1, .ref r0)]) hx hb dX1_search_13 rfl hl (by decide) rfl (fun ls hl => ?_)
  obtain ⟨w3, hx50, hf⟩ := bd1_s hf
  have J6 : ∀ (H : Heap) (locs : List Loc) (ls : Array Slot), kH D A s H locs [(q, .inr (1, [.ref q_sums, .int (-9), .int (-9)])), (q_sums, .inl (cI, 6, .inl w3)), (r0, .inr (6, [.ref r0_numbers])), (r0_numbers, .inl (cI, 36, .inl u0_numbers))] → lv_has ls 3 [(0, .ref q), (1, .ref r0)] → W p l e (kRm 3 68 0 0) s m args below meth c H locs 0 0 Q (F0 m 33 ls []) := by
    intro H locs ls hW hl
    refine lv_iconst (v := 0) hx hb dX1_search_33 (by decide) ?_
    refine lv_istore_n (lv' := [(2, .int 0), (0, .ref q), (1, .ref r0)]) hx hb dX1_search_34 rfl hl (by decide) rfl (fun ls hl => ?_)
    obtain ⟨⟨w16, w17, w18⟩, hx200, hf⟩ := bd1_s hf
    replace hf := un3_s hf
    have J21 : ∀ (H : Heap) (locs : List Loc) (ls : Array Slot), kH D A s H locs [(q, .inr (1, [.ref q_sums, .int w16, .int w17])), (q_sums, .inl (cI, 6, .inl w18)), (r0, .inr (6, [.ref r0_numbers])), (r0_numbers, .inl (cI, 36, .inl u0_numbers))] → lv_has ls 3 [] → W p l e (kRm 3 68 0 0) s m args below meth c H locs 0 0 Q (F0 m 73 ls []) := by
      intro H locs ls hW hl
      obtain ⟨rfl, rfl, rfl⟩ := sm3 hf
      exact k_vret C hlocks hr hW hQ dX1_search_73
    have L22 : ∀ (n : Nat) (i12 : Int32) (w13 : Int32) (w14 : Int32) (w15 : Nat → Int32), lpI n (un4 (pX1_search_L35 u0_numbers)) (i12, w13, w14, w15) = some (w16, w17, w18) → ∀ (H : Heap) (locs : List Loc) (ls : Array Slot), kH D A s H locs [(q, .inr (1, [.ref q_sums, .int w13, .int w14])), (q_sums, .inl (cI, 6, .inl w15)), (r0, .inr (6, [.ref r0_numbers])), (r0_numbers, .inl (cI, 36, .inl u0_numbers))] → lv_has ls 3 [(2, .int i12), (0, .ref q), (1, .ref r0)] → W p l e (kRm 3 68 0 0) s m args below meth c H locs 0 0 Q (F0 m 35 ls []) := by
      intro n
      induction n with
      | zero => intro i12 w13 w14 w15 hx20; exact (lpI_0 hx20).elim
      | succ n ih24 =>
        intro i12 w13 w14 w15 hx20 H locs ls hW hl
        obtain ⟨ooho19, ho19, hx20⟩ := lpI_s hx20
        replace ho19 := un4_s ho19
        unfold pX1_search_L35 at ho19
        refine lv_iload_n hx hb dX1_search_35 rfl (lv_at hl 0 rfl) ?_
        refine lv_bipush (v := 6) hx hb dX1_search_36 (by decide) ?_
        refine lv_icmp_ge (tgt := 73) hx hb dX1_search_38 (by decide) (fun hc => ?_) (fun hc => ?_)
        · replace ho19 := if_t hc ho19
          obtain rfl := Option.some.inj ho19
          obtain ⟨rfl, rfl, rfl⟩ := pr3 (lpK_r hx20)
          exact J21 _ _ _ hW (lv_sub hl [] rfl)
        · replace ho19 := if_f hc ho19
          refine lv_aload_n hx hb dX1_search_41 rfl (lv_at hl 1 rfl) ?_
          refine lv_aload_n hx hb dX1_search_42 rfl (lv_at hl 2 rfl) ?_
          refine lv_iload_n hx hb dX1_search_43 rfl (lv_at hl 0 rfl) ?_
          obtain ⟨w25, h26, ho19⟩ := bd1_s ho19
          refine k_callV (b := q) (ci := 1) (qb := 0) (As := [.ref r0, .int i12]) (n := 2) (rest := []) (st1 := []) (wr := []) (ws' := [(q, .inr (1, [.ref q_sums, .int w13, .int w14])), (q_sums, .inl (cI, 6, .inl w25)), (r0, .inr (6, [.ref r0_numbers])), (r0_numbers, .inl (cI, 36, .inl u0_numbers))]) C hE hW hl.1 (kX1_goOverRow l D cI cZ cJ _ q q_sums r0 r0_numbers w13 w14 w15 u0_numbers i12 w25 h26) gX1_search_X1_goOverRow rfl (by decide +kernel) rfl ⟨Nat.le_of_ble_eq_true rfl, Nat.le_of_ble_eq_true rfl⟩ ⟨Nat.zero_le _, Nat.zero_le _⟩ rfl rfl [0, 1, 2, 3] [] [0, 1, 2, 3] rfl rfl rfl rfl (by decide) rfl rfl (Nat.le_of_ble_eq_true rfl) rfl rfl dX1_search_44 (fun H locs hW => ?_)
          refine lv_aload_n hx hb dX1_search_47 rfl (lv_at hl 2 rfl) ?_
          refine lv_iload_n hx hb dX1_search_48 rfl (lv_at hl 0 rfl) ?_
          obtain ⟨v27, h28, ho19⟩ := bd1_s ho19
          refine k_callVR (b := r0) (ci := 6) (qb := 0) (As := [.int i12]) (n := 1) (rest := []) (st1 := [.int v27]) C hE hW hl.1 (kX7_hasCorner l D cI cZ cJ _ r0 r0_numbers u0_numbers i12 v27 h28) gX1_search_X7_hasCorner rfl (by decide +kernel) rfl ⟨Nat.le_of_ble_eq_true rfl, Nat.le_of_ble_eq_true rfl⟩ ⟨Nat.zero_le _, Nat.zero_le _⟩ rfl rfl [2, 3] rfl rfl (Nat.le_of_ble_eq_true rfl) rfl rfl dX1_search_49 (fun H locs hW => ?_)
          refine lv_if_eq (tgt := 67) hx hb dX1_search_52 (by decide) (fun hc => ?_) (fun hc => ?_)
          · replace ho19 := if_t hc ho19
            refine lv_iinc (v := (i12 + 1)) (lv' := [(2, .int (i12 + 1)), (0, .ref q), (1, .ref r0)]) hx hb dX1_search_67 hl (k := 0) rfl rfl (by decide) rfl (fun ls hl => ?_)
            refine lv_goto (tgt := 35) hx hb dX1_search_70 (by decide) ?_
            obtain rfl := Option.some.inj ho19
            exact ih24 _ _ _ _ hx20 _ _ _ hW (lv_sub hl [0, 1, 2] rfl)
          · replace ho19 := if_f hc ho19
            refine lv_aload_n hx hb dX1_search_55 rfl (lv_at hl 1 rfl) ?_
            refine lv_iload_n hx hb dX1_search_56 rfl (lv_at hl 0 rfl) ?_
            refine lv_aload_n hx hb dX1_search_57 rfl (lv_at hl 2 rfl) ?_
            refine lv_iload_n hx hb dX1_search_58 rfl (lv_at hl 0 rfl) ?_
            obtain ⟨v29, h30, ho19⟩ := bd1_s ho19
            refine k_callVR (b := r0) (ci := 6) (qb := 0) (As := [.int i12]) (n := 1) (rest := [.int i12, .ref q]) (st1 := [.int v29, .int i12, .ref q]) C hE hW hl.1 (kX7_rowLength l D cI cZ cJ _ r0 r0_numbers u0_numbers i12 v29 h30) gX1_search_X7_rowLength rfl (by decide +kernel) rfl ⟨Nat.le_of_ble_eq_true rfl, Nat.le_of_ble_eq_true rfl⟩ ⟨Nat.zero_le _, Nat.zero_le _⟩ rfl rfl [2, 3] rfl rfl (Nat.le_of_ble_eq_true rfl) rfl rfl dX1_search_59 (fun H locs hW => ?_)
            refine lv_iconst (v := 1) hx hb dX1_search_62 (by decide) ?_
            refine lv_isub hx hb dX1_search_63 ?_
            obtain ⟨⟨w31, w32⟩, h33, ho19⟩ := bd1_s ho19
            replace ho19 := un2_s ho19
            refine k_callV (b := q) (ci := 1) (qb := 0) (As := [.int i12, .int (v29 - 1)]) (n := 2) (rest := []) (st1 := []) (wr := [(r0, .inr (6, [.ref r0_numbers])), (r0_numbers, .inl (cI, 36, .inl u0_numbers))]) (ws' := [(q, .inr (1, [.ref q_sums, .int w31, .int w32])), (q_sums, .inl (cI, 6, .inl w25)), (r0, .inr (6, [.ref r0_numbers])), (r0_numbers, .inl (cI, 36, .inl u0_numbers))]) C hE hW hl.1 (kX1_endAt l D cI cZ cJ _ q q_sums w13 w14 w25 i12 (v29 - 1) w31 w32 h33) gX1_search_X1_endAt rfl (by decide +kernel) rfl ⟨Nat.le_of_ble_eq_true rfl, Nat.le_of_ble_eq_true rfl⟩ ⟨Nat.zero_le _, Nat.zero_le _⟩ rfl rfl [0, 1] [2, 3] [2, 3, 0, 1] rfl rfl rfl rfl (by decide) rfl rfl (Nat.le_of_ble_eq_true rfl) rfl rfl dX1_search_64 (fun H locs hW => ?_)
            refine lv_iinc (v := (i12 + 1)) (lv' := [(2, .int (i12 + 1)), (0, .ref q), (1, .ref r0)]) hx hb dX1_search_67 hl (k := 0) rfl rfl (by decide) rfl (fun ls hl => ?_)
            refine lv_goto (tgt := 35) hx hb dX1_search_70 (by decide) ?_
            obtain rfl := Option.some.inj ho19
            exact ih24 _ _ _ _ hx20 _ _ _ hW (lv_sub hl [0, 1, 2] rfl)
    exact L22 lpF _ _ _ _ hx200 _ _ _ hW (lv_sub hl [0, 1, 2] rfl)
  have L7 : ∀ (n : Nat) (i1 : Int32) (w2 : Nat → Int32), lpI n (un2 (pX1_search_L14)) (i1, w2) = some w3 → ∀ (H : Heap) (locs : List Loc) (ls : Array Slot), kH D A s H locs [(q, .inr (1, [.ref q_sums, .int (-9), .int (-9)])), (q_sums, .inl (cI, 6, .inl w2)), (r0, .inr (6, [.ref r0_numbers])), (r0_numbers, .inl (cI, 36, .inl u0_numbers))] → lv_has ls 3 [(2, .int i1), (0, .ref q), (1, .ref r0)] → W p l e (kRm 3 68 0 0) s m args below meth c H locs 0 0 Q (F0 m 14 ls []) := by
    intro n
    induction n with
    | zero => intro i1 w2 hx5; exact (lpI_0 hx5).elim
    | succ n ih9 =>
      intro i1 w2 hx5 H locs ls hW hl
      obtain ⟨ooho4, ho4, hx5⟩ := lpI_s hx5
      replace ho4 := un2_s ho4
      unfold pX1_search_L14 at ho4
      refine lv_iload_n hx hb dX1_search_14 rfl (lv_at hl 0 rfl) ?_
      refine lv_bipush (v := 6) hx hb dX1_search_15 (by decide) ?_
      refine lv_icmp_ge (tgt := 33) hx hb dX1_search_17 (by decide) (fun hc => ?_) (fun hc => ?_)
      · replace ho4 := if_t hc ho4
        obtain rfl := Option.some.inj ho4
        obtain rfl := lpK_r hx5
        exact J6 _ _ _ hW (lv_sub hl [1, 2] rfl)
      · replace ho4 := if_f hc ho4
        refine lv_aload_n hx hb dX1_search_20 rfl (lv_at hl 1 rfl) ?_
        refine k_get C hE hW iX1 0 rfl rfl 0 (by decide) f9 (fun _ h9 => h9) rfl dX1_search_21 ?_
        refine lv_iload_n hx hb dX1_search_24 rfl (lv_at hl 0 rfl) ?_
        refine lv_iconst (v := 0) hx hb dX1_search_25 (by decide) ?_
        obtain ⟨w10, h11, ho4⟩ := bd1_s ho4
        refine k_iast (ws' := [(q, .inr (1, [.ref q_sums, .int (-9), .int (-9)])), (q_sums, .inl (cI, 6, .inl w10)), (r0, .inr (6, [.ref r0_numbers])), (r0_numbers, .inl (cI, 36, .inl u0_numbers))]) C hE hW 1 rfl h11 rfl dX1_search_26 (fun H locs hW => ?_)
        refine lv_iinc (v := (i1 + 1)) (lv' := [(2, .int (i1 + 1)), (0, .ref q), (1, .ref r0)]) hx hb dX1_search_27 hl (k := 0) rfl rfl (by decide) rfl (fun ls hl => ?_)
        refine lv_goto (tgt := 14) hx hb dX1_search_30 (by decide) ?_
        obtain rfl := Option.some.inj ho4
        exact ih9 _ _ hx5 _ _ _ hW (lv_sub hl [0, 1, 2] rfl)
  exact L7 lpF _ _ hx50 _ _ _ hW (lv_sub hl [0, 1, 2] rfl)

set_option maxHeartbeats 4000000 in
set_option maxRecDepth 100000 in
theorem kX2_table (l : Launch) (D : va_G) (cI cZ cJ : ClassId) (sz : Nat) (q q_first q_second : Nat) (p0 : Int32) (r : Bool) (hf : pX2_table p0 = some r) : kMet l D cI cZ cJ yX2_table wsX2_table 0 0 [.ref q, .int p0] [(q, .inr (2, [.ref q_first, .ref q_second]))] sz (some (.ref (cond r q_first q_second))) [(q, .inr (2, [.ref q_first, .ref q_second]))] := by
  refine kM_of (cc := cX2_table) (maxL := 2) (ret := (some (.object "SortedTables$Table"))) (by decide) rfl (Nat.le_of_ble_eq_true rfl) ?_
  intro p e s m args below meth c A Q ls hQ C hlocks hr hE hW hl
  have hx := C.1
  have hb := C.2.1
  have hts := C.2.2.2.2
  have hl : lv_has ls 2 [(0, .ref q), (1, .int p0)] := hl
  have iX2 : ∀ w ∈ u_ws RX2 TX2 2, w ∈ wsX2_table := by decide +kernel
  have f12 := hts (.fieldLink RX2 12 "SortedTables$Pair" "first" "LSortedTables$Table;") (by decide +kernel)
  have f18 := hts (.fieldLink RX2 18 "SortedTables$Pair" "second" "LSortedTables$Table;") (by decide +kernel)
  unfold pX2_table at hf
  refine lv_iload_n hx hb dX2_table_0 rfl (lv_at hl 1 rfl) ?_
  refine lv_if_ne (tgt := 11) hx hb dX2_table_1 (by decide) (fun hc => ?_) (fun hc => ?_)
  · replace hf := if_f hc hf
    refine lv_aload_n hx hb dX2_table_11 rfl (lv_at hl 0 rfl) ?_
    refine k_get C hE hW iX2 0 rfl rfl 1 (by decide) f18 (fun _ h9 => h9) rfl dX2_table_12 ?_
    obtain rfl := Option.some.inj hf
    exact k_aret C hlocks hr hW hQ dX2_table_15
  · replace hf := if_t hc hf
    refine lv_aload_n hx hb dX2_table_4 rfl (lv_at hl 0 rfl) ?_
    refine k_get C hE hW iX2 0 rfl rfl 0 (by decide) f12 (fun _ h9 => h9) rfl dX2_table_5 ?_
    refine lv_goto (tgt := 15) hx hb dX2_table_8 (by decide) ?_
    obtain rfl := Option.some.inj hf
    exact k_aret C hlocks hr hW hQ dX2_table_15

set_option maxHeartbeats 4000000 in
set_option maxRecDepth 100000 in
theorem kX7_copyFrom (l : Launch) (D : va_G) (cI cZ cJ : ClassId) (sz : Nat) (q q_numbers r0 r0_numbers : Nat) (u_numbers : Nat → Int32) (u0_numbers : Nat → Int32) (u_numbers' : Nat → Int32) (hf : pX7_copyFrom u_numbers u0_numbers = some u_numbers') : kMet l D cI cZ cJ yX7_copyFrom wsX7_copyFrom 1 40 [.ref q, .ref r0] [(q, .inr (6, [.ref q_numbers])), (q_numbers, .inl (cI, 36, .inl u_numbers)), (r0, .inr (6, [.ref r0_numbers])), (r0_numbers, .inl (cI, 36, .inl u0_numbers))] sz none [(q, .inr (6, [.ref q_numbers])), (q_numbers, .inl (cI, 36, .inl u_numbers')), (r0, .inr (6, [.ref r0_numbers])), (r0_numbers, .inl (cI, 36, .inl u0_numbers))] := by
  refine kM_of (cc := cX7_copyFrom) (maxL := 2) (ret := none) (by decide) rfl (Nat.le_of_ble_eq_true rfl) ?_
  intro p e s m args below meth c A Q ls hQ C hlocks hr hE hW hl
  have hx := C.1
  have hb := C.2.1
  have hts := C.2.2.2.2
  have hl : lv_has ls 2 [(0, .ref q), (1, .ref r0)] := hl
  have iX7 : ∀ w ∈ u_ws RX7 TX7 1, w ∈ wsX7_copyFrom := by decide +kernel
  have f9 := hts (.fieldLink RX7 9 "SortedTables$Table" "numbers" "[I") (by decide +kernel)
  unfold pX7_copyFrom at hf
  refine lv_aload_n hx hb dX7_copyFrom_0 rfl (lv_at hl 1 rfl) ?_
  refine k_get C hE hW iX7 2 rfl rfl 0 (by decide) f9 (fun _ h9 => h9) rfl dX7_copyFrom_1 ?_
  refine lv_iconst (v := 0) hx hb dX7_copyFrom_4 (by decide) ?_
  refine lv_aload_n hx hb dX7_copyFrom_5 rfl (lv_at hl 0 rfl) ?_
  refine k_get C hE hW iX7 0 rfl rfl 0 (by decide) f9 (fun _ h9 => h9) rfl dX7_copyFrom_6 ?_
  refine lv_iconst (v := 0) hx hb dX7_copyFrom_9 (by decide) ?_
  refine lv_bipush (v := 36) hx hb dX7_copyFrom_10 (by decide) ?_
  obtain ⟨w1, h2, hf⟩ := bd1_s hf
  refine k_copy (ws' := [(q, .inr (6, [.ref q_numbers])), (q_numbers, .inl (cI, 36, .inl w1)), (r0, .inr (6, [.ref r0_numbers])), (r0_numbers, .inl (cI, 36, .inl u0_numbers))]) C hE hW hl.1 (hts (.methodLink RX7 22 arraycopyName) (by decide +kernel)) (hts (.native arraycopyName) (by decide +kernel)) (hts (.static arraycopyName) (by decide +kernel)) (hts (.initialized "java/lang/System") (by decide +kernel)) 3 1 rfl rfl h2 rfl (Nat.le_of_ble_eq_true rfl) (Nat.le_of_ble_eq_true rfl) dX7_copyFrom_12 (fun H locs hW => ?_)
  obtain rfl := Option.some.inj hf
  exact k_vret C hlocks hr hW hQ dX7_copyFrom_15

set_option maxHeartbeats 4000000 in
set_option maxRecDepth 100000 in
theorem kX2_copyFrom (l : Launch) (D : va_G) (cI cZ cJ : ClassId) (sz : Nat) (q q_first q_first_numbers q_second q_second_numbers r0 r0_first r0_first_numbers r0_second r0_second_numbers : Nat) (u_first_numbers : Nat → Int32) (u_second_numbers : Nat → Int32) (u0_first_numbers : Nat → Int32) (u0_second_numbers : Nat → Int32) (u_first_numbers' : Nat → Int32) (u_second_numbers' : Nat → Int32) (hf : pX2_copyFrom u_first_numbers u_second_numbers u0_first_numbers u0_second_numbers = some (u_first_numbers', u_second_numbers')) : kMet l D cI cZ cJ yX2_copyFrom wsX2_copyFrom 2 61 [.ref q, .ref r0] [(q, .inr (2, [.ref q_first, .ref q_second])), (q_first, .inr (6, [.ref q_first_numbers])), (q_first_numbers, .inl (cI, 36, .inl u_first_numbers)), (q_second, .inr (6, [.ref q_second_numbers])), (q_second_numbers, .inl (cI, 36, .inl u_second_numbers)), (r0, .inr (2, [.ref r0_first, .ref r0_second])), (r0_first, .inr (6, [.ref r0_first_numbers])), (r0_first_numbers, .inl (cI, 36, .inl u0_first_numbers)), (r0_second, .inr (6, [.ref r0_second_numbers])), (r0_second_numbers, .inl (cI, 36, .inl u0_second_numbers))] sz none [(q, .inr (2, [.ref q_first, .ref q_second])), (q_first, .inr (6, [.ref q_first_numbers])), (q_first_numbers, .inl (cI, 36, .inl u_first_numbers')), (q_second, .inr (6, [.ref q_second_numbers])), (q_second_numbers, .inl (cI, 36, .inl u_second_numbers')), (r0, .inr (2, [.ref r0_first, .ref r0_second])), (r0_first, .inr (6, [.ref r0_first_numbers])), (r0_first_numbers, .inl (cI, 36, .inl u0_first_numbers)), (r0_second, .inr (6, [.ref r0_second_numbers])), (r0_second_numbers, .inl (cI, 36, .inl u0_second_numbers))] := by
  refine kM_of (cc := cX2_copyFrom) (maxL := 2) (ret := none) (by decide) rfl (Nat.le_of_ble_eq_true rfl) ?_
  intro p e s m args below meth c A Q ls hQ C hlocks hr hE hW hl
  have hx := C.1
  have hb := C.2.1
  have hts := C.2.2.2.2
  have hl : lv_has ls 2 [(0, .ref q), (1, .ref r0)] := hl
  have iX2 : ∀ w ∈ u_ws RX2 TX2 2, w ∈ wsX2_copyFrom := by decide +kernel
  have f12 := hts (.fieldLink RX2 12 "SortedTables$Pair" "first" "LSortedTables$Table;") (by decide +kernel)
  have f18 := hts (.fieldLink RX2 18 "SortedTables$Pair" "second" "LSortedTables$Table;") (by decide +kernel)
  unfold pX2_copyFrom at hf
  refine lv_aload_n hx hb dX2_copyFrom_0 rfl (lv_at hl 0 rfl) ?_
  refine k_get C hE hW iX2 0 rfl rfl 0 (by decide) f12 (fun _ h9 => h9) rfl dX2_copyFrom_1 ?_
  refine lv_aload_n hx hb dX2_copyFrom_4 rfl (lv_at hl 1 rfl) ?_
  refine k_get C hE hW iX2 5 rfl rfl 0 (by decide) f12 (fun _ h9 => h9) rfl dX2_copyFrom_5 ?_
  obtain ⟨w1, h2, hf⟩ := bd1_s hf
  refine k_callV (b := q_first) (ci := 6) (qb := 0) (As := [.ref r0_first]) (n := 1) (rest := []) (st1 := []) (wr := [(q, .inr (2, [.ref q_first, .ref q_second])), (q_second, .inr (6, [.ref q_second_numbers])), (q_second_numbers, .inl (cI, 36, .inl u_second_numbers)), (r0, .inr (2, [.ref r0_first, .ref r0_second])), (r0_second, .inr (6, [.ref r0_second_numbers])), (r0_second_numbers, .inl (cI, 36, .inl u0_second_numbers))]) (ws' := [(q, .inr (2, [.ref q_first, .ref q_second])), (q_first, .inr (6, [.ref q_first_numbers])), (q_first_numbers, .inl (cI, 36, .inl w1)), (q_second, .inr (6, [.ref q_second_numbers])), (q_second_numbers, .inl (cI, 36, .inl u_second_numbers)), (r0, .inr (2, [.ref r0_first, .ref r0_second])), (r0_first, .inr (6, [.ref r0_first_numbers])), (r0_first_numbers, .inl (cI, 36, .inl u0_first_numbers)), (r0_second, .inr (6, [.ref r0_second_numbers])), (r0_second_numbers, .inl (cI, 36, .inl u0_second_numbers))]) C hE hW hl.1 (kX7_copyFrom l D cI cZ cJ _ q_first q_first_numbers r0_first r0_first_numbers u_first_numbers u0_first_numbers w1 h2) gX2_copyFrom_X7_copyFrom rfl (by decide +kernel) rfl ⟨Nat.le_of_ble_eq_true rfl, Nat.le_of_ble_eq_true rfl⟩ ⟨Nat.zero_le _, Nat.zero_le _⟩ rfl rfl [1, 2, 6, 7] [0, 3, 4, 5, 8, 9] [0, 6, 7, 1, 2, 3, 8, 9, 4, 5] rfl rfl rfl rfl (by decide) rfl rfl (Nat.le_of_ble_eq_true rfl) rfl rfl dX2_copyFrom_8 (fun H locs hW => ?_)
  refine lv_aload_n hx hb dX2_copyFrom_11 rfl (lv_at hl 0 rfl) ?_
  refine k_get C hE hW iX2 0 rfl rfl 1 (by decide) f18 (fun _ h9 => h9) rfl dX2_copyFrom_12 ?_
  refine lv_aload_n hx hb dX2_copyFrom_15 rfl (lv_at hl 1 rfl) ?_
  refine k_get C hE hW iX2 5 rfl rfl 1 (by decide) f18 (fun _ h9 => h9) rfl dX2_copyFrom_16 ?_
  obtain ⟨w3, h4, hf⟩ := bd1_s hf
  refine k_callV (b := q_second) (ci := 6) (qb := 0) (As := [.ref r0_second]) (n := 1) (rest := []) (st1 := []) (wr := [(q, .inr (2, [.ref q_first, .ref q_second])), (q_first, .inr (6, [.ref q_first_numbers])), (q_first_numbers, .inl (cI, 36, .inl w1)), (r0, .inr (2, [.ref r0_first, .ref r0_second])), (r0_first, .inr (6, [.ref r0_first_numbers])), (r0_first_numbers, .inl (cI, 36, .inl u0_first_numbers))]) (ws' := [(q, .inr (2, [.ref q_first, .ref q_second])), (q_first, .inr (6, [.ref q_first_numbers])), (q_first_numbers, .inl (cI, 36, .inl w1)), (q_second, .inr (6, [.ref q_second_numbers])), (q_second_numbers, .inl (cI, 36, .inl w3)), (r0, .inr (2, [.ref r0_first, .ref r0_second])), (r0_first, .inr (6, [.ref r0_first_numbers])), (r0_first_numbers, .inl (cI, 36, .inl u0_first_numbers)), (r0_second, .inr (6, [.ref r0_second_numbers])), (r0_second_numbers, .inl (cI, 36, .inl u0_second_numbers))]) C hE hW hl.1 (kX7_copyFrom l D cI cZ cJ _ q_second q_second_numbers r0_second r0_second_numbers u_second_numbers u0_second_numbers w3 h4) gX2_copyFrom_X7_copyFrom rfl (by decide +kernel) rfl ⟨Nat.le_of_ble_eq_true rfl, Nat.le_of_ble_eq_true rfl⟩ ⟨Nat.zero_le _, Nat.zero_le _⟩ rfl rfl [3, 4, 8, 9] [0, 1, 2, 5, 6, 7] [0, 1, 2, 6, 7, 3, 4, 5, 8, 9] rfl rfl rfl rfl (by decide) rfl rfl (Nat.le_of_ble_eq_true rfl) rfl rfl dX2_copyFrom_19 (fun H locs hW => ?_)
  obtain ⟨rfl, rfl⟩ := sm2 hf
  exact k_vret C hlocks hr hW hQ dX2_copyFrom_22

set_option maxHeartbeats 4000000 in
set_option maxRecDepth 100000 in
theorem kX7_writeTo (l : Launch) (D : va_G) (cI cZ cJ : ClassId) (sz : Nat) (q q_numbers r0 : Nat) (u_numbers : Nat → Int32) (u0 : Nat → Int32) (p1 : Int32) (u0' : Nat → Int32) (hf : pX7_writeTo u_numbers u0 p1 = some u0') : kMet l D cI cZ cJ yX7_writeTo wsX7_writeTo 1 40 [.ref q, .ref r0, .int p1] [(q, .inr (6, [.ref q_numbers])), (q_numbers, .inl (cI, 36, .inl u_numbers)), (r0, .inl (cI, 1008, .inl u0))] sz none [(q, .inr (6, [.ref q_numbers])), (q_numbers, .inl (cI, 36, .inl u_numbers)), (r0, .inl (cI, 1008, .inl u0'))] := by
  refine kM_of (cc := cX7_writeTo) (maxL := 3) (ret := none) (by decide) rfl (Nat.le_of_ble_eq_true rfl) ?_
  intro p e s m args below meth c A Q ls hQ C hlocks hr hE hW hl
  have hx := C.1
  have hb := C.2.1
  have hts := C.2.2.2.2
  have hl : lv_has ls 3 [(0, .ref q), (1, .ref r0), (2, .int p1)] := hl
  have iX7 : ∀ w ∈ u_ws RX7 TX7 1, w ∈ wsX7_writeTo := by decide +kernel
  have f9 := hts (.fieldLink RX7 9 "SortedTables$Table" "numbers" "[I") (by decide +kernel)
  unfold pX7_writeTo at hf
  refine lv_iload_n hx hb dX7_writeTo_0 rfl (lv_at hl 2 rfl) ?_
  refine lv_if_lt (tgt := 25) hx hb dX7_writeTo_1 (by decide) (fun hc => ?_) (fun hc => ?_)
  · replace hf := if_t hc hf
    obtain rfl := Option.some.inj hf
    exact k_vret C hlocks hr hW hQ dX7_writeTo_25
  · replace hf := if_f hc hf
    refine lv_iload_n hx hb dX7_writeTo_4 rfl (lv_at hl 2 rfl) ?_
    refine lv_aload_n hx hb dX7_writeTo_5 rfl (lv_at hl 1 rfl) ?_
    refine k_alen (v := 1008) C hE hW 2 rfl rfl dX7_writeTo_6 ?_
    refine lv_bipush (v := 36) hx hb dX7_writeTo_7 (by decide) ?_
    refine lv_isub hx hb dX7_writeTo_9 ?_
    refine lv_icmp_gt (tgt := 25) hx hb dX7_writeTo_10 (by decide) (fun hc => ?_) (fun hc => ?_)
    · replace hf := if_t hc hf
      obtain rfl := Option.some.inj hf
      exact k_vret C hlocks hr hW hQ dX7_writeTo_25
    · replace hf := if_f hc hf
      refine lv_aload_n hx hb dX7_writeTo_13 rfl (lv_at hl 0 rfl) ?_
      refine k_get C hE hW iX7 0 rfl rfl 0 (by decide) f9 (fun _ h9 => h9) rfl dX7_writeTo_14 ?_
      refine lv_iconst (v := 0) hx hb dX7_writeTo_17 (by decide) ?_
      refine lv_aload_n hx hb dX7_writeTo_18 rfl (lv_at hl 1 rfl) ?_
      refine lv_iload_n hx hb dX7_writeTo_19 rfl (lv_at hl 2 rfl) ?_
      refine lv_bipush (v := 36) hx hb dX7_writeTo_20 (by decide) ?_
      obtain ⟨w1, h2, hf⟩ := bd1_s hf
      refine k_copy (ws' := [(q, .inr (6, [.ref q_numbers])), (q_numbers, .inl (cI, 36, .inl u_numbers)), (r0, .inl (cI, 1008, .inl w1))]) C hE hW hl.1 (hts (.methodLink RX7 22 arraycopyName) (by decide +kernel)) (hts (.native arraycopyName) (by decide +kernel)) (hts (.static arraycopyName) (by decide +kernel)) (hts (.initialized "java/lang/System") (by decide +kernel)) 1 2 rfl rfl h2 rfl (Nat.le_of_ble_eq_true rfl) (Nat.le_of_ble_eq_true rfl) dX7_writeTo_22 (fun H locs hW => ?_)
      obtain rfl := Option.some.inj hf
      exact k_vret C hlocks hr hW hQ dX7_writeTo_25

set_option maxHeartbeats 4000000 in
set_option maxRecDepth 100000 in
theorem kX2_writeTo (l : Launch) (D : va_G) (cI cZ cJ : ClassId) (sz : Nat) (q q_first q_first_numbers q_second q_second_numbers r0 : Nat) (u_first_numbers : Nat → Int32) (u_second_numbers : Nat → Int32) (u0 : Nat → Int32) (p1 : Int32) (u0' : Nat → Int32) (hf : pX2_writeTo u_first_numbers u_second_numbers u0 p1 = some u0') : kMet l D cI cZ cJ yX2_writeTo wsX2_writeTo 2 62 [.ref q, .ref r0, .int p1] [(q, .inr (2, [.ref q_first, .ref q_second])), (q_first, .inr (6, [.ref q_first_numbers])), (q_first_numbers, .inl (cI, 36, .inl u_first_numbers)), (q_second, .inr (6, [.ref q_second_numbers])), (q_second_numbers, .inl (cI, 36, .inl u_second_numbers)), (r0, .inl (cI, 1008, .inl u0))] sz none [(q, .inr (2, [.ref q_first, .ref q_second])), (q_first, .inr (6, [.ref q_first_numbers])), (q_first_numbers, .inl (cI, 36, .inl u_first_numbers)), (q_second, .inr (6, [.ref q_second_numbers])), (q_second_numbers, .inl (cI, 36, .inl u_second_numbers)), (r0, .inl (cI, 1008, .inl u0'))] := by
  refine kM_of (cc := cX2_writeTo) (maxL := 3) (ret := none) (by decide) rfl (Nat.le_of_ble_eq_true rfl) ?_
  intro p e s m args below meth c A Q ls hQ C hlocks hr hE hW hl
  have hx := C.1
  have hb := C.2.1
  have hts := C.2.2.2.2
  have hl : lv_has ls 3 [(0, .ref q), (1, .ref r0), (2, .int p1)] := hl
  have iX2 : ∀ w ∈ u_ws RX2 TX2 2, w ∈ wsX2_writeTo := by decide +kernel
  have f12 := hts (.fieldLink RX2 12 "SortedTables$Pair" "first" "LSortedTables$Table;") (by decide +kernel)
  have f18 := hts (.fieldLink RX2 18 "SortedTables$Pair" "second" "LSortedTables$Table;") (by decide +kernel)
  unfold pX2_writeTo at hf
  refine lv_aload_n hx hb dX2_writeTo_0 rfl (lv_at hl 0 rfl) ?_
  refine k_get C hE hW iX2 0 rfl rfl 0 (by decide) f12 (fun _ h9 => h9) rfl dX2_writeTo_1 ?_
  refine lv_aload_n hx hb dX2_writeTo_4 rfl (lv_at hl 1 rfl) ?_
  refine lv_iload_n hx hb dX2_writeTo_5 rfl (lv_at hl 2 rfl) ?_
  obtain ⟨w1, h2, hf⟩ := bd1_s hf
  refine k_callV (b := q_first) (ci := 6) (qb := 0) (As := [.ref r0, .int p1]) (n := 2) (rest := []) (st1 := []) (wr := [(q, .inr (2, [.ref q_first, .ref q_second])), (q_second, .inr (6, [.ref q_second_numbers])), (q_second_numbers, .inl (cI, 36, .inl u_second_numbers))]) (ws' := [(q, .inr (2, [.ref q_first, .ref q_second])), (q_first, .inr (6, [.ref q_first_numbers])), (q_first_numbers, .inl (cI, 36, .inl u_first_numbers)), (q_second, .inr (6, [.ref q_second_numbers])), (q_second_numbers, .inl (cI, 36, .inl u_second_numbers)), (r0, .inl (cI, 1008, .inl w1))]) C hE hW hl.1 (kX7_writeTo l D cI cZ cJ _ q_first q_first_numbers r0 u_first_numbers u0 p1 w1 h2) gX2_writeTo_X7_writeTo rfl (by decide +kernel) rfl ⟨Nat.le_of_ble_eq_true rfl, Nat.le_of_ble_eq_true rfl⟩ ⟨Nat.zero_le _, Nat.zero_le _⟩ rfl rfl [1, 2, 5] [0, 3, 4] [0, 3, 4, 1, 2, 5] rfl rfl rfl rfl (by decide) rfl rfl (Nat.le_of_ble_eq_true rfl) rfl rfl dX2_writeTo_6 (fun H locs hW => ?_)
  refine lv_aload_n hx hb dX2_writeTo_9 rfl (lv_at hl 0 rfl) ?_
  refine k_get C hE hW iX2 0 rfl rfl 1 (by decide) f18 (fun _ h9 => h9) rfl dX2_writeTo_10 ?_
  refine lv_aload_n hx hb dX2_writeTo_13 rfl (lv_at hl 1 rfl) ?_
  refine lv_iload_n hx hb dX2_writeTo_14 rfl (lv_at hl 2 rfl) ?_
  refine lv_bipush (v := 36) hx hb dX2_writeTo_15 (by decide) ?_
  refine lv_iadd hx hb dX2_writeTo_17 ?_
  obtain ⟨w3, h4, hf⟩ := bd1_s hf
  refine k_callV (b := q_second) (ci := 6) (qb := 0) (As := [.ref r0, .int (p1 + 36)]) (n := 2) (rest := []) (st1 := []) (wr := [(q, .inr (2, [.ref q_first, .ref q_second])), (q_first, .inr (6, [.ref q_first_numbers])), (q_first_numbers, .inl (cI, 36, .inl u_first_numbers))]) (ws' := [(q, .inr (2, [.ref q_first, .ref q_second])), (q_first, .inr (6, [.ref q_first_numbers])), (q_first_numbers, .inl (cI, 36, .inl u_first_numbers)), (q_second, .inr (6, [.ref q_second_numbers])), (q_second_numbers, .inl (cI, 36, .inl u_second_numbers)), (r0, .inl (cI, 1008, .inl w3))]) C hE hW hl.1 (kX7_writeTo l D cI cZ cJ _ q_second q_second_numbers r0 u_second_numbers w1 (p1 + 36) w3 h4) gX2_writeTo_X7_writeTo rfl (by decide +kernel) rfl ⟨Nat.le_of_ble_eq_true rfl, Nat.le_of_ble_eq_true rfl⟩ ⟨Nat.zero_le _, Nat.zero_le _⟩ rfl rfl [3, 4, 5] [0, 1, 2] [0, 1, 2, 3, 4, 5] rfl rfl rfl rfl (by decide) rfl rfl (Nat.le_of_ble_eq_true rfl) rfl rfl dX2_writeTo_18 (fun H locs hW => ?_)
  obtain rfl := Option.some.inj hf
  exact k_vret C hlocks hr hW hQ dX2_writeTo_21

set_option maxHeartbeats 4000000 in
set_option maxRecDepth 100000 in
theorem kX7_readFrom (l : Launch) (D : va_G) (cI cZ cJ : ClassId) (sz : Nat) (q q_numbers r0 : Nat) (u_numbers : Nat → Int32) (u0 : Nat → Int32) (p1 : Int32) (u_numbers' : Nat → Int32) (hf : pX7_readFrom u_numbers u0 p1 = some u_numbers') : kMet l D cI cZ cJ yX7_readFrom wsX7_readFrom 1 40 [.ref q, .ref r0, .int p1] [(q, .inr (6, [.ref q_numbers])), (q_numbers, .inl (cI, 36, .inl u_numbers)), (r0, .inl (cI, 1008, .inl u0))] sz none [(q, .inr (6, [.ref q_numbers])), (q_numbers, .inl (cI, 36, .inl u_numbers')), (r0, .inl (cI, 1008, .inl u0))] := by
  refine kM_of (cc := cX7_readFrom) (maxL := 3) (ret := none) (by decide) rfl (Nat.le_of_ble_eq_true rfl) ?_
  intro p e s m args below meth c A Q ls hQ C hlocks hr hE hW hl
  have hx := C.1
  have hb := C.2.1
  have hts := C.2.2.2.2
  have hl : lv_has ls 3 [(0, .ref q), (1, .ref r0), (2, .int p1)] := hl
  have iX7 : ∀ w ∈ u_ws RX7 TX7 1, w ∈ wsX7_readFrom := by decide +kernel
  have f9 := hts (.fieldLink RX7 9 "SortedTables$Table" "numbers" "[I") (by decide +kernel)
  unfold pX7_readFrom at hf
  refine lv_iload_n hx hb dX7_readFrom_0 rfl (lv_at hl 2 rfl) ?_
  refine lv_if_lt (tgt := 25) hx hb dX7_readFrom_1 (by decide) (fun hc => ?_) (fun hc => ?_)
  · replace hf := if_t hc hf
    obtain rfl := Option.some.inj hf
    exact k_vret C hlocks hr hW hQ dX7_readFrom_25
  · replace hf := if_f hc hf
    refine lv_iload_n hx hb dX7_readFrom_4 rfl (lv_at hl 2 rfl) ?_
    refine lv_aload_n hx hb dX7_readFrom_5 rfl (lv_at hl 1 rfl) ?_
    refine k_alen (v := 1008) C hE hW 2 rfl rfl dX7_readFrom_6 ?_
    refine lv_bipush (v := 36) hx hb dX7_readFrom_7 (by decide) ?_
    refine lv_isub hx hb dX7_readFrom_9 ?_
    refine lv_icmp_gt (tgt := 25) hx hb dX7_readFrom_10 (by decide) (fun hc => ?_) (fun hc => ?_)
    · replace hf := if_t hc hf
      obtain rfl := Option.some.inj hf
      exact k_vret C hlocks hr hW hQ dX7_readFrom_25
    · replace hf := if_f hc hf
      refine lv_aload_n hx hb dX7_readFrom_13 rfl (lv_at hl 1 rfl) ?_
      refine lv_iload_n hx hb dX7_readFrom_14 rfl (lv_at hl 2 rfl) ?_
      refine lv_aload_n hx hb dX7_readFrom_15 rfl (lv_at hl 0 rfl) ?_
      refine k_get C hE hW iX7 0 rfl rfl 0 (by decide) f9 (fun _ h9 => h9) rfl dX7_readFrom_16 ?_
      refine lv_iconst (v := 0) hx hb dX7_readFrom_19 (by decide) ?_
      refine lv_bipush (v := 36) hx hb dX7_readFrom_20 (by decide) ?_
      obtain ⟨w1, h2, hf⟩ := bd1_s hf
      refine k_copy (ws' := [(q, .inr (6, [.ref q_numbers])), (q_numbers, .inl (cI, 36, .inl w1)), (r0, .inl (cI, 1008, .inl u0))]) C hE hW hl.1 (hts (.methodLink RX7 22 arraycopyName) (by decide +kernel)) (hts (.native arraycopyName) (by decide +kernel)) (hts (.static arraycopyName) (by decide +kernel)) (hts (.initialized "java/lang/System") (by decide +kernel)) 2 1 rfl rfl h2 rfl (Nat.le_of_ble_eq_true rfl) (Nat.le_of_ble_eq_true rfl) dX7_readFrom_22 (fun H locs hW => ?_)
      obtain rfl := Option.some.inj hf
      exact k_vret C hlocks hr hW hQ dX7_readFrom_25

set_option maxHeartbeats 4000000 in
set_option maxRecDepth 100000 in
theorem kX2_readFrom (l : Launch) (D : va_G) (cI cZ cJ : ClassId) (sz : Nat) (q q_first q_first_numbers q_second q_second_numbers r0 : Nat) (u_first_numbers : Nat → Int32) (u_second_numbers : Nat → Int32) (u0 : Nat → Int32) (p1 : Int32) (u_first_numbers' : Nat → Int32) (u_second_numbers' : Nat → Int32) (hf : pX2_readFrom u_first_numbers u_second_numbers u0 p1 = some (u_first_numbers', u_second_numbers')) : kMet l D cI cZ cJ yX2_readFrom wsX2_readFrom 2 62 [.ref q, .ref r0, .int p1] [(q, .inr (2, [.ref q_first, .ref q_second])), (q_first, .inr (6, [.ref q_first_numbers])), (q_first_numbers, .inl (cI, 36, .inl u_first_numbers)), (q_second, .inr (6, [.ref q_second_numbers])), (q_second_numbers, .inl (cI, 36, .inl u_second_numbers)), (r0, .inl (cI, 1008, .inl u0))] sz none [(q, .inr (2, [.ref q_first, .ref q_second])), (q_first, .inr (6, [.ref q_first_numbers])), (q_first_numbers, .inl (cI, 36, .inl u_first_numbers')), (q_second, .inr (6, [.ref q_second_numbers])), (q_second_numbers, .inl (cI, 36, .inl u_second_numbers')), (r0, .inl (cI, 1008, .inl u0))] := by
  refine kM_of (cc := cX2_readFrom) (maxL := 3) (ret := none) (by decide) rfl (Nat.le_of_ble_eq_true rfl) ?_
  intro p e s m args below meth c A Q ls hQ C hlocks hr hE hW hl
  have hx := C.1
  have hb := C.2.1
  have hts := C.2.2.2.2
  have hl : lv_has ls 3 [(0, .ref q), (1, .ref r0), (2, .int p1)] := hl
  have iX2 : ∀ w ∈ u_ws RX2 TX2 2, w ∈ wsX2_readFrom := by decide +kernel
  have f12 := hts (.fieldLink RX2 12 "SortedTables$Pair" "first" "LSortedTables$Table;") (by decide +kernel)
  have f18 := hts (.fieldLink RX2 18 "SortedTables$Pair" "second" "LSortedTables$Table;") (by decide +kernel)
  unfold pX2_readFrom at hf
  refine lv_aload_n hx hb dX2_readFrom_0 rfl (lv_at hl 0 rfl) ?_
  refine k_get C hE hW iX2 0 rfl rfl 0 (by decide) f12 (fun _ h9 => h9) rfl dX2_readFrom_1 ?_
  refine lv_aload_n hx hb dX2_readFrom_4 rfl (lv_at hl 1 rfl) ?_
  refine lv_iload_n hx hb dX2_readFrom_5 rfl (lv_at hl 2 rfl) ?_
  obtain ⟨w1, h2, hf⟩ := bd1_s hf
  refine k_callV (b := q_first) (ci := 6) (qb := 0) (As := [.ref r0, .int p1]) (n := 2) (rest := []) (st1 := []) (wr := [(q, .inr (2, [.ref q_first, .ref q_second])), (q_second, .inr (6, [.ref q_second_numbers])), (q_second_numbers, .inl (cI, 36, .inl u_second_numbers))]) (ws' := [(q, .inr (2, [.ref q_first, .ref q_second])), (q_first, .inr (6, [.ref q_first_numbers])), (q_first_numbers, .inl (cI, 36, .inl w1)), (q_second, .inr (6, [.ref q_second_numbers])), (q_second_numbers, .inl (cI, 36, .inl u_second_numbers)), (r0, .inl (cI, 1008, .inl u0))]) C hE hW hl.1 (kX7_readFrom l D cI cZ cJ _ q_first q_first_numbers r0 u_first_numbers u0 p1 w1 h2) gX2_readFrom_X7_readFrom rfl (by decide +kernel) rfl ⟨Nat.le_of_ble_eq_true rfl, Nat.le_of_ble_eq_true rfl⟩ ⟨Nat.zero_le _, Nat.zero_le _⟩ rfl rfl [1, 2, 5] [0, 3, 4] [0, 3, 4, 1, 2, 5] rfl rfl rfl rfl (by decide) rfl rfl (Nat.le_of_ble_eq_true rfl) rfl rfl dX2_readFrom_6 (fun H locs hW => ?_)
  refine lv_aload_n hx hb dX2_readFrom_9 rfl (lv_at hl 0 rfl) ?_
  refine k_get C hE hW iX2 0 rfl rfl 1 (by decide) f18 (fun _ h9 => h9) rfl dX2_readFrom_10 ?_
  refine lv_aload_n hx hb dX2_readFrom_13 rfl (lv_at hl 1 rfl) ?_
  refine lv_iload_n hx hb dX2_readFrom_14 rfl (lv_at hl 2 rfl) ?_
  refine lv_bipush (v := 36) hx hb dX2_readFrom_15 (by decide) ?_
  refine lv_iadd hx hb dX2_readFrom_17 ?_
  obtain ⟨w3, h4, hf⟩ := bd1_s hf
  refine k_callV (b := q_second) (ci := 6) (qb := 0) (As := [.ref r0, .int (p1 + 36)]) (n := 2) (rest := []) (st1 := []) (wr := [(q, .inr (2, [.ref q_first, .ref q_second])), (q_first, .inr (6, [.ref q_first_numbers])), (q_first_numbers, .inl (cI, 36, .inl w1))]) (ws' := [(q, .inr (2, [.ref q_first, .ref q_second])), (q_first, .inr (6, [.ref q_first_numbers])), (q_first_numbers, .inl (cI, 36, .inl w1)), (q_second, .inr (6, [.ref q_second_numbers])), (q_second_numbers, .inl (cI, 36, .inl w3)), (r0, .inl (cI, 1008, .inl u0))]) C hE hW hl.1 (kX7_readFrom l D cI cZ cJ _ q_second q_second_numbers r0 u_second_numbers u0 (p1 + 36) w3 h4) gX2_readFrom_X7_readFrom rfl (by decide +kernel) rfl ⟨Nat.le_of_ble_eq_true rfl, Nat.le_of_ble_eq_true rfl⟩ ⟨Nat.zero_le _, Nat.zero_le _⟩ rfl rfl [3, 4, 5] [0, 1, 2] [0, 1, 2, 3, 4, 5] rfl rfl rfl rfl (by decide) rfl rfl (Nat.le_of_ble_eq_true rfl) rfl rfl dX2_readFrom_18 (fun H locs hW => ?_)
  obtain ⟨rfl, rfl⟩ := sm2 hf
  exact k_vret C hlocks hr hW hQ dX2_readFrom_21

set_option maxHeartbeats 4000000 in
set_option maxRecDepth 100000 in
theorem kX7_wipe (l : Launch) (D : va_G) (cI cZ cJ : ClassId) (sz : Nat) (q q_numbers : Nat) (u_numbers : Nat → Int32) (u_numbers' : Nat → Int32) (hf : pX7_wipe u_numbers = some u_numbers') : kMet l D cI cZ cJ yX7_wipe wsX7_wipe 0 0 [.ref q] [(q, .inr (6, [.ref q_numbers])), (q_numbers, .inl (cI, 36, .inl u_numbers))] sz none [(q, .inr (6, [.ref q_numbers])), (q_numbers, .inl (cI, 36, .inl u_numbers'))] := by
  refine kM_of (cc := cX7_wipe) (maxL := 2) (ret := none) (by decide) rfl (Nat.le_of_ble_eq_true rfl) ?_
  intro p e s m args below meth c A Q ls hQ C hlocks hr hE hW hl
  have hx := C.1
  have hb := C.2.1
  have hts := C.2.2.2.2
  have hl : lv_has ls 2 [(0, .ref q)] := hl
  have iX7 : ∀ w ∈ u_ws RX7 TX7 1, w ∈ wsX7_wipe := by decide +kernel
  have f9 := hts (.fieldLink RX7 9 "SortedTables$Table" "numbers" "[I") (by decide +kernel)
  unfold pX7_wipe at hf
  refine lv_iconst (v := 0) hx hb dX7_wipe_0 (by decide) ?_
  refine lv_istore_n (lv' := [(1, .int 0), (0, .ref q)]) hx hb dX7_wipe_1 rfl hl (by decide) rfl (fun ls hl => ?_)
  obtain ⟨w3, hx50, hf⟩ := bd1_s hf
  have J6 : ∀ (H : Heap) (locs : List Loc) (ls : Array Slot), kH D A s H locs [(q, .inr (6, [.ref q_numbers])), (q_numbers, .inl (cI, 36, .inl w3))] → lv_has ls 2 [] → W p l e (kRm 0 0 0 0) s m args below meth c H locs 0 0 Q (F0 m 21 ls []) := by
    intro H locs ls hW hl
    obtain rfl := Option.some.inj hf
    exact k_vret C hlocks hr hW hQ dX7_wipe_21
  have L7 : ∀ (n : Nat) (i1 : Int32) (w2 : Nat → Int32), lpI n (un2 (pX7_wipe_L2)) (i1, w2) = some w3 → ∀ (H : Heap) (locs : List Loc) (ls : Array Slot), kH D A s H locs [(q, .inr (6, [.ref q_numbers])), (q_numbers, .inl (cI, 36, .inl w2))] → lv_has ls 2 [(1, .int i1), (0, .ref q)] → W p l e (kRm 0 0 0 0) s m args below meth c H locs 0 0 Q (F0 m 2 ls []) := by
    intro n
    induction n with
    | zero => intro i1 w2 hx5; exact (lpI_0 hx5).elim
    | succ n ih9 =>
      intro i1 w2 hx5 H locs ls hW hl
      obtain ⟨ooho4, ho4, hx5⟩ := lpI_s hx5
      replace ho4 := un2_s ho4
      unfold pX7_wipe_L2 at ho4
      refine lv_iload_n hx hb dX7_wipe_2 rfl (lv_at hl 0 rfl) ?_
      refine lv_bipush (v := 36) hx hb dX7_wipe_3 (by decide) ?_
      refine lv_icmp_ge (tgt := 21) hx hb dX7_wipe_5 (by decide) (fun hc => ?_) (fun hc => ?_)
      · replace ho4 := if_t hc ho4
        obtain rfl := Option.some.inj ho4
        obtain rfl := lpK_r hx5
        exact J6 _ _ _ hW (lv_sub hl [] rfl)
      · replace ho4 := if_f hc ho4
        refine lv_aload_n hx hb dX7_wipe_8 rfl (lv_at hl 1 rfl) ?_
        refine k_get C hE hW iX7 0 rfl rfl 0 (by decide) f9 (fun _ h9 => h9) rfl dX7_wipe_9 ?_
        refine lv_iload_n hx hb dX7_wipe_12 rfl (lv_at hl 0 rfl) ?_
        refine lv_iconst (v := (-1)) hx hb dX7_wipe_13 (by decide) ?_
        obtain ⟨w10, h11, ho4⟩ := bd1_s ho4
        refine k_iast (ws' := [(q, .inr (6, [.ref q_numbers])), (q_numbers, .inl (cI, 36, .inl w10))]) C hE hW 1 rfl h11 rfl dX7_wipe_14 (fun H locs hW => ?_)
        refine lv_iinc (v := (i1 + 1)) (lv' := [(1, .int (i1 + 1)), (0, .ref q)]) hx hb dX7_wipe_15 hl (k := 0) rfl rfl (by decide) rfl (fun ls hl => ?_)
        refine lv_goto (tgt := 2) hx hb dX7_wipe_18 (by decide) ?_
        obtain rfl := Option.some.inj ho4
        exact ih9 _ _ hx5 _ _ _ hW (lv_sub hl [0, 1] rfl)
  exact L7 lpF _ _ hx50 _ _ _ hW (lv_sub hl [0, 1] rfl)

set_option maxHeartbeats 4000000 in
set_option maxRecDepth 100000 in
theorem kX2_wipe (l : Launch) (D : va_G) (cI cZ cJ : ClassId) (sz : Nat) (q q_first q_first_numbers q_second q_second_numbers : Nat) (u_first_numbers : Nat → Int32) (u_second_numbers : Nat → Int32) (u_first_numbers' : Nat → Int32) (u_second_numbers' : Nat → Int32) (hf : pX2_wipe u_first_numbers u_second_numbers = some (u_first_numbers', u_second_numbers')) : kMet l D cI cZ cJ yX2_wipe wsX2_wipe 1 21 [.ref q] [(q, .inr (2, [.ref q_first, .ref q_second])), (q_first, .inr (6, [.ref q_first_numbers])), (q_first_numbers, .inl (cI, 36, .inl u_first_numbers)), (q_second, .inr (6, [.ref q_second_numbers])), (q_second_numbers, .inl (cI, 36, .inl u_second_numbers))] sz none [(q, .inr (2, [.ref q_first, .ref q_second])), (q_first, .inr (6, [.ref q_first_numbers])), (q_first_numbers, .inl (cI, 36, .inl u_first_numbers')), (q_second, .inr (6, [.ref q_second_numbers])), (q_second_numbers, .inl (cI, 36, .inl u_second_numbers'))] := by
  refine kM_of (cc := cX2_wipe) (maxL := 1) (ret := none) (by decide) rfl (Nat.le_of_ble_eq_true rfl) ?_
  intro p e s m args below meth c A Q ls hQ C hlocks hr hE hW hl
  have hx := C.1
  have hb := C.2.1
  have hts := C.2.2.2.2
  have hl : lv_has ls 1 [(0, .ref q)] := hl
  have iX2 : ∀ w ∈ u_ws RX2 TX2 2, w ∈ wsX2_wipe := by decide +kernel
  have f12 := hts (.fieldLink RX2 12 "SortedTables$Pair" "first" "LSortedTables$Table;") (by decide +kernel)
  have f18 := hts (.fieldLink RX2 18 "SortedTables$Pair" "second" "LSortedTables$Table;") (by decide +kernel)
  unfold pX2_wipe at hf
  refine lv_aload_n hx hb dX2_wipe_0 rfl (lv_at hl 0 rfl) ?_
  refine k_get C hE hW iX2 0 rfl rfl 0 (by decide) f12 (fun _ h9 => h9) rfl dX2_wipe_1 ?_
  obtain ⟨w1, h2, hf⟩ := bd1_s hf
  refine k_callV (b := q_first) (ci := 6) (qb := 0) (As := []) (n := 0) (rest := []) (st1 := []) (wr := [(q, .inr (2, [.ref q_first, .ref q_second])), (q_second, .inr (6, [.ref q_second_numbers])), (q_second_numbers, .inl (cI, 36, .inl u_second_numbers))]) (ws' := [(q, .inr (2, [.ref q_first, .ref q_second])), (q_first, .inr (6, [.ref q_first_numbers])), (q_first_numbers, .inl (cI, 36, .inl w1)), (q_second, .inr (6, [.ref q_second_numbers])), (q_second_numbers, .inl (cI, 36, .inl u_second_numbers))]) C hE hW hl.1 (kX7_wipe l D cI cZ cJ _ q_first q_first_numbers u_first_numbers w1 h2) gX2_wipe_X7_wipe rfl (by decide +kernel) rfl ⟨Nat.le_of_ble_eq_true rfl, Nat.le_of_ble_eq_true rfl⟩ ⟨Nat.zero_le _, Nat.zero_le _⟩ rfl rfl [1, 2] [0, 3, 4] [0, 3, 4, 1, 2] rfl rfl rfl rfl (by decide) rfl rfl (Nat.le_of_ble_eq_true rfl) rfl rfl dX2_wipe_4 (fun H locs hW => ?_)
  refine lv_aload_n hx hb dX2_wipe_7 rfl (lv_at hl 0 rfl) ?_
  refine k_get C hE hW iX2 0 rfl rfl 1 (by decide) f18 (fun _ h9 => h9) rfl dX2_wipe_8 ?_
  obtain ⟨w3, h4, hf⟩ := bd1_s hf
  refine k_callV (b := q_second) (ci := 6) (qb := 0) (As := []) (n := 0) (rest := []) (st1 := []) (wr := [(q, .inr (2, [.ref q_first, .ref q_second])), (q_first, .inr (6, [.ref q_first_numbers])), (q_first_numbers, .inl (cI, 36, .inl w1))]) (ws' := [(q, .inr (2, [.ref q_first, .ref q_second])), (q_first, .inr (6, [.ref q_first_numbers])), (q_first_numbers, .inl (cI, 36, .inl w1)), (q_second, .inr (6, [.ref q_second_numbers])), (q_second_numbers, .inl (cI, 36, .inl w3))]) C hE hW hl.1 (kX7_wipe l D cI cZ cJ _ q_second q_second_numbers u_second_numbers w3 h4) gX2_wipe_X7_wipe rfl (by decide +kernel) rfl ⟨Nat.le_of_ble_eq_true rfl, Nat.le_of_ble_eq_true rfl⟩ ⟨Nat.zero_le _, Nat.zero_le _⟩ rfl rfl [3, 4] [0, 1, 2] [0, 1, 2, 3, 4] rfl rfl rfl rfl (by decide) rfl rfl (Nat.le_of_ble_eq_true rfl) rfl rfl dX2_wipe_11 (fun H locs hW => ?_)
  obtain ⟨rfl, rfl⟩ := sm2 hf
  exact k_vret C hlocks hr hW hQ dX2_wipe_14

set_option maxHeartbeats 4000000 in
set_option maxRecDepth 100000 in
theorem kX7_swapWith (l : Launch) (D : va_G) (cI cZ cJ : ClassId) (sz : Nat) (q q_numbers r0 r0_numbers : Nat) (u_numbers : Nat → Int32) (u0_numbers : Nat → Int32) (u_numbers' : Nat → Int32) (u0_numbers' : Nat → Int32) (hf : pX7_swapWith u_numbers u0_numbers = some (u_numbers', u0_numbers')) : kMet l D cI cZ cJ yX7_swapWith wsX7_swapWith 0 0 [.ref q, .ref r0] [(q, .inr (6, [.ref q_numbers])), (q_numbers, .inl (cI, 36, .inl u_numbers)), (r0, .inr (6, [.ref r0_numbers])), (r0_numbers, .inl (cI, 36, .inl u0_numbers))] sz none [(q, .inr (6, [.ref q_numbers])), (q_numbers, .inl (cI, 36, .inl u_numbers')), (r0, .inr (6, [.ref r0_numbers])), (r0_numbers, .inl (cI, 36, .inl u0_numbers'))] := by
  refine kM_of (cc := cX7_swapWith) (maxL := 4) (ret := none) (by decide) rfl (Nat.le_of_ble_eq_true rfl) ?_
  intro p e s m args below meth c A Q ls hQ C hlocks hr hE hW hl
  have hx := C.1
  have hb := C.2.1
  have hts := C.2.2.2.2
  have hl : lv_has ls 4 [(0, .ref q), (1, .ref r0)] := hl
  have iX7 : ∀ w ∈ u_ws RX7 TX7 1, w ∈ wsX7_swapWith := by decide +kernel
  have f9 := hts (.fieldLink RX7 9 "SortedTables$Table" "numbers" "[I") (by decide +kernel)
  unfold pX7_swapWith at hf
  refine lv_iconst (v := 0) hx hb dX7_swapWith_0 (by decide) ?_
  refine lv_istore_n (lv' := [(2, .int 0), (0, .ref q), (1, .ref r0)]) hx hb dX7_swapWith_1 rfl hl (by decide) rfl (fun ls hl => ?_)
  obtain ⟨⟨w4, w5⟩, hx70, hf⟩ := bd1_s hf
  replace hf := un2_s hf
  have J8 : ∀ (H : Heap) (locs : List Loc) (ls : Array Slot), kH D A s H locs [(q, .inr (6, [.ref q_numbers])), (q_numbers, .inl (cI, 36, .inl w4)), (r0, .inr (6, [.ref r0_numbers])), (r0_numbers, .inl (cI, 36, .inl w5))] → lv_has ls 4 [] → W p l e (kRm 0 0 0 0) s m args below meth c H locs 0 0 Q (F0 m 40 ls []) := by
    intro H locs ls hW hl
    obtain ⟨rfl, rfl⟩ := sm2 hf
    exact k_vret C hlocks hr hW hQ dX7_swapWith_40
  have L9 : ∀ (n : Nat) (i1 : Int32) (w2 : Nat → Int32) (w3 : Nat → Int32), lpI n (un3 (pX7_swapWith_L2)) (i1, w2, w3) = some (w4, w5) → ∀ (H : Heap) (locs : List Loc) (ls : Array Slot), kH D A s H locs [(q, .inr (6, [.ref q_numbers])), (q_numbers, .inl (cI, 36, .inl w2)), (r0, .inr (6, [.ref r0_numbers])), (r0_numbers, .inl (cI, 36, .inl w3))] → lv_has ls 4 [(2, .int i1), (0, .ref q), (1, .ref r0)] → W p l e (kRm 0 0 0 0) s m args below meth c H locs 0 0 Q (F0 m 2 ls []) := by
    intro n
    induction n with
    | zero => intro i1 w2 w3 hx7; exact (lpI_0 hx7).elim
    | succ n ih11 =>
      intro i1 w2 w3 hx7 H locs ls hW hl
      obtain ⟨ooho6, ho6, hx7⟩ := lpI_s hx7
      replace ho6 := un3_s ho6
      unfold pX7_swapWith_L2 at ho6
      refine lv_iload_n hx hb dX7_swapWith_2 rfl (lv_at hl 0 rfl) ?_
      refine lv_bipush (v := 36) hx hb dX7_swapWith_3 (by decide) ?_
      refine lv_icmp_ge (tgt := 40) hx hb dX7_swapWith_5 (by decide) (fun hc => ?_) (fun hc => ?_)
      · replace ho6 := if_t hc ho6
        obtain rfl := Option.some.inj ho6
        obtain ⟨rfl, rfl⟩ := pr2 (lpK_r hx7)
        exact J8 _ _ _ hW (lv_sub hl [] rfl)
      · replace ho6 := if_f hc ho6
        refine lv_aload_n hx hb dX7_swapWith_8 rfl (lv_at hl 1 rfl) ?_
        refine k_get C hE hW iX7 0 rfl rfl 0 (by decide) f9 (fun _ h9 => h9) rfl dX7_swapWith_9 ?_
        refine lv_iload_n hx hb dX7_swapWith_12 rfl (lv_at hl 0 rfl) ?_
        obtain ⟨v12, h13, ho6⟩ := bd1_s ho6
        refine k_iald C hE hW 1 rfl h13 dX7_swapWith_13 ?_
        refine lv_istore_n (lv' := [(3, .int v12), (2, .int i1), (0, .ref q), (1, .ref r0)]) hx hb dX7_swapWith_14 rfl hl (by decide) rfl (fun ls hl => ?_)
        refine lv_aload_n hx hb dX7_swapWith_15 rfl (lv_at hl 2 rfl) ?_
        refine k_get C hE hW iX7 0 rfl rfl 0 (by decide) f9 (fun _ h9 => h9) rfl dX7_swapWith_16 ?_
        refine lv_iload_n hx hb dX7_swapWith_19 rfl (lv_at hl 1 rfl) ?_
        refine lv_aload_n hx hb dX7_swapWith_20 rfl (lv_at hl 3 rfl) ?_
        refine k_get C hE hW iX7 2 rfl rfl 0 (by decide) f9 (fun _ h9 => h9) rfl dX7_swapWith_21 ?_
        refine lv_iload_n hx hb dX7_swapWith_24 rfl (lv_at hl 1 rfl) ?_
        obtain ⟨v14, h15, ho6⟩ := bd1_s ho6
        refine k_iald C hE hW 3 rfl h15 dX7_swapWith_25 ?_
        obtain ⟨w16, h17, ho6⟩ := bd1_s ho6
        refine k_iast (ws' := [(q, .inr (6, [.ref q_numbers])), (q_numbers, .inl (cI, 36, .inl w16)), (r0, .inr (6, [.ref r0_numbers])), (r0_numbers, .inl (cI, 36, .inl w3))]) C hE hW 1 rfl h17 rfl dX7_swapWith_26 (fun H locs hW => ?_)
        refine lv_aload_n hx hb dX7_swapWith_27 rfl (lv_at hl 3 rfl) ?_
        refine k_get C hE hW iX7 2 rfl rfl 0 (by decide) f9 (fun _ h9 => h9) rfl dX7_swapWith_28 ?_
        refine lv_iload_n hx hb dX7_swapWith_31 rfl (lv_at hl 1 rfl) ?_
        refine lv_iload_n hx hb dX7_swapWith_32 rfl (lv_at hl 0 rfl) ?_
        obtain ⟨w18, h19, ho6⟩ := bd1_s ho6
        refine k_iast (ws' := [(q, .inr (6, [.ref q_numbers])), (q_numbers, .inl (cI, 36, .inl w16)), (r0, .inr (6, [.ref r0_numbers])), (r0_numbers, .inl (cI, 36, .inl w18))]) C hE hW 3 rfl h19 rfl dX7_swapWith_33 (fun H locs hW => ?_)
        refine lv_iinc (v := (i1 + 1)) (lv' := [(2, .int (i1 + 1)), (3, .int v12), (0, .ref q), (1, .ref r0)]) hx hb dX7_swapWith_34 hl (k := 1) rfl rfl (by decide) rfl (fun ls hl => ?_)
        refine lv_goto (tgt := 2) hx hb dX7_swapWith_37 (by decide) ?_
        obtain rfl := Option.some.inj ho6
        exact ih11 _ _ _ hx7 _ _ _ hW (lv_sub hl [0, 2, 3] rfl)
  exact L9 lpF _ _ _ hx70 _ _ _ hW (lv_sub hl [0, 1, 2] rfl)

set_option maxHeartbeats 4000000 in
set_option maxRecDepth 100000 in
theorem kX2_swap (l : Launch) (D : va_G) (cI cZ cJ : ClassId) (sz : Nat) (q q_first q_first_numbers q_second q_second_numbers : Nat) (u_first_numbers : Nat → Int32) (u_second_numbers : Nat → Int32) (u_first_numbers' : Nat → Int32) (u_second_numbers' : Nat → Int32) (hf : pX2_swap u_first_numbers u_second_numbers = some (u_first_numbers', u_second_numbers')) : kMet l D cI cZ cJ yX2_swap wsX2_swap 1 23 [.ref q] [(q, .inr (2, [.ref q_first, .ref q_second])), (q_first, .inr (6, [.ref q_first_numbers])), (q_first_numbers, .inl (cI, 36, .inl u_first_numbers)), (q_second, .inr (6, [.ref q_second_numbers])), (q_second_numbers, .inl (cI, 36, .inl u_second_numbers))] sz none [(q, .inr (2, [.ref q_first, .ref q_second])), (q_first, .inr (6, [.ref q_first_numbers])), (q_first_numbers, .inl (cI, 36, .inl u_first_numbers')), (q_second, .inr (6, [.ref q_second_numbers])), (q_second_numbers, .inl (cI, 36, .inl u_second_numbers'))] := by
  refine kM_of (cc := cX2_swap) (maxL := 1) (ret := none) (by decide) rfl (Nat.le_of_ble_eq_true rfl) ?_
  intro p e s m args below meth c A Q ls hQ C hlocks hr hE hW hl
  have hx := C.1
  have hb := C.2.1
  have hts := C.2.2.2.2
  have hl : lv_has ls 1 [(0, .ref q)] := hl
  have iX2 : ∀ w ∈ u_ws RX2 TX2 2, w ∈ wsX2_swap := by decide +kernel
  have f12 := hts (.fieldLink RX2 12 "SortedTables$Pair" "first" "LSortedTables$Table;") (by decide +kernel)
  have f18 := hts (.fieldLink RX2 18 "SortedTables$Pair" "second" "LSortedTables$Table;") (by decide +kernel)
  unfold pX2_swap at hf
  refine lv_aload_n hx hb dX2_swap_0 rfl (lv_at hl 0 rfl) ?_
  refine k_get C hE hW iX2 0 rfl rfl 0 (by decide) f12 (fun _ h9 => h9) rfl dX2_swap_1 ?_
  refine lv_aload_n hx hb dX2_swap_4 rfl (lv_at hl 0 rfl) ?_
  refine k_get C hE hW iX2 0 rfl rfl 1 (by decide) f18 (fun _ h9 => h9) rfl dX2_swap_5 ?_
  obtain ⟨⟨w1, w2⟩, h3, hf⟩ := bd1_s hf
  replace hf := un2_s hf
  refine k_callV (b := q_first) (ci := 6) (qb := 0) (As := [.ref q_second]) (n := 1) (rest := []) (st1 := []) (wr := [(q, .inr (2, [.ref q_first, .ref q_second]))]) (ws' := [(q, .inr (2, [.ref q_first, .ref q_second])), (q_first, .inr (6, [.ref q_first_numbers])), (q_first_numbers, .inl (cI, 36, .inl w1)), (q_second, .inr (6, [.ref q_second_numbers])), (q_second_numbers, .inl (cI, 36, .inl w2))]) C hE hW hl.1 (kX7_swapWith l D cI cZ cJ _ q_first q_first_numbers q_second q_second_numbers u_first_numbers u_second_numbers w1 w2 h3) gX2_swap_X7_swapWith rfl (by decide +kernel) rfl ⟨Nat.le_of_ble_eq_true rfl, Nat.le_of_ble_eq_true rfl⟩ ⟨Nat.zero_le _, Nat.zero_le _⟩ rfl rfl [1, 2, 3, 4] [0] [0, 1, 2, 3, 4] rfl rfl rfl rfl (by decide) rfl rfl (Nat.le_of_ble_eq_true rfl) rfl rfl dX2_swap_8 (fun H locs hW => ?_)
  obtain ⟨rfl, rfl⟩ := sm2 hf
  exact k_vret C hlocks hr hW hQ dX2_swap_11

set_option maxHeartbeats 4000000 in
set_option maxRecDepth 100000 in
theorem kX2_cells (l : Launch) (D : va_G) (cI cZ cJ : ClassId) (sz : Nat) (q q_first q_first_numbers q_second q_second_numbers : Nat) (u_first_numbers : Nat → Int32) (u_second_numbers : Nat → Int32) (r : Int32) (hf : pX2_cells u_first_numbers u_second_numbers = some r) : kMet l D cI cZ cJ yX2_cells wsX2_cells 2 45 [.ref q] [(q, .inr (2, [.ref q_first, .ref q_second])), (q_first, .inr (6, [.ref q_first_numbers])), (q_first_numbers, .inl (cI, 36, .inl u_first_numbers)), (q_second, .inr (6, [.ref q_second_numbers])), (q_second_numbers, .inl (cI, 36, .inl u_second_numbers))] sz (some (.int r)) [(q, .inr (2, [.ref q_first, .ref q_second])), (q_first, .inr (6, [.ref q_first_numbers])), (q_first_numbers, .inl (cI, 36, .inl u_first_numbers)), (q_second, .inr (6, [.ref q_second_numbers])), (q_second_numbers, .inl (cI, 36, .inl u_second_numbers))] := by
  refine kM_of (cc := cX2_cells) (maxL := 1) (ret := (some .int)) (by decide) rfl (Nat.le_of_ble_eq_true rfl) ?_
  intro p e s m args below meth c A Q ls hQ C hlocks hr hE hW hl
  have hx := C.1
  have hb := C.2.1
  have hts := C.2.2.2.2
  have hl : lv_has ls 1 [(0, .ref q)] := hl
  have iX2 : ∀ w ∈ u_ws RX2 TX2 2, w ∈ wsX2_cells := by decide +kernel
  have f12 := hts (.fieldLink RX2 12 "SortedTables$Pair" "first" "LSortedTables$Table;") (by decide +kernel)
  have f18 := hts (.fieldLink RX2 18 "SortedTables$Pair" "second" "LSortedTables$Table;") (by decide +kernel)
  unfold pX2_cells at hf
  refine lv_aload_n hx hb dX2_cells_0 rfl (lv_at hl 0 rfl) ?_
  refine k_get C hE hW iX2 0 rfl rfl 0 (by decide) f12 (fun _ h9 => h9) rfl dX2_cells_1 ?_
  obtain ⟨v1, h2, hf⟩ := bd1_s hf
  refine k_callVR (b := q_first) (ci := 6) (qb := 0) (As := []) (n := 0) (rest := []) (st1 := [.int v1]) C hE hW hl.1 (kX7_cells l D cI cZ cJ _ q_first q_first_numbers u_first_numbers v1 h2) gX2_cells_X7_cells rfl (by decide +kernel) rfl ⟨Nat.le_of_ble_eq_true rfl, Nat.le_of_ble_eq_true rfl⟩ ⟨Nat.zero_le _, Nat.zero_le _⟩ rfl rfl [1, 2] rfl rfl (Nat.le_of_ble_eq_true rfl) rfl rfl dX2_cells_4 (fun H locs hW => ?_)
  refine lv_aload_n hx hb dX2_cells_7 rfl (lv_at hl 0 rfl) ?_
  refine k_get C hE hW iX2 0 rfl rfl 1 (by decide) f18 (fun _ h9 => h9) rfl dX2_cells_8 ?_
  obtain ⟨v3, h4, hf⟩ := bd1_s hf
  refine k_callVR (b := q_second) (ci := 6) (qb := 0) (As := []) (n := 0) (rest := [.int v1]) (st1 := [.int v3, .int v1]) C hE hW hl.1 (kX7_cells l D cI cZ cJ _ q_second q_second_numbers u_second_numbers v3 h4) gX2_cells_X7_cells rfl (by decide +kernel) rfl ⟨Nat.le_of_ble_eq_true rfl, Nat.le_of_ble_eq_true rfl⟩ ⟨Nat.zero_le _, Nat.zero_le _⟩ rfl rfl [3, 4] rfl rfl (Nat.le_of_ble_eq_true rfl) rfl rfl dX2_cells_11 (fun H locs hW => ?_)
  refine lv_iadd hx hb dX2_cells_14 ?_
  obtain rfl := Option.some.inj hf
  exact k_iret C hlocks hr hW hQ dX2_cells_15

set_option maxHeartbeats 4000000 in
set_option maxRecDepth 100000 in
theorem kX7_put (l : Launch) (D : va_G) (cI cZ cJ : ClassId) (sz : Nat) (q q_numbers : Nat) (u_numbers : Nat → Int32) (p0 : Int32) (p1 : Int32) (p2 : Int32) (u_numbers' : Nat → Int32) (hf : pX7_put u_numbers p0 p1 p2 = some u_numbers') : kMet l D cI cZ cJ yX7_put wsX7_put 0 0 [.ref q, .int p0, .int p1, .int p2] [(q, .inr (6, [.ref q_numbers])), (q_numbers, .inl (cI, 36, .inl u_numbers))] sz none [(q, .inr (6, [.ref q_numbers])), (q_numbers, .inl (cI, 36, .inl u_numbers'))] := by
  refine kM_of (cc := cX7_put) (maxL := 4) (ret := none) (by decide) rfl (Nat.le_of_ble_eq_true rfl) ?_
  intro p e s m args below meth c A Q ls hQ C hlocks hr hE hW hl
  have hx := C.1
  have hb := C.2.1
  have hts := C.2.2.2.2
  have hl : lv_has ls 4 [(0, .ref q), (1, .int p0), (2, .int p1), (3, .int p2)] := hl
  have iX7 : ∀ w ∈ u_ws RX7 TX7 1, w ∈ wsX7_put := by decide +kernel
  have f9 := hts (.fieldLink RX7 9 "SortedTables$Table" "numbers" "[I") (by decide +kernel)
  unfold pX7_put at hf
  refine lv_iload_n hx hb dX7_put_0 rfl (lv_at hl 1 rfl) ?_
  refine lv_if_lt (tgt := 32) hx hb dX7_put_1 (by decide) (fun hc => ?_) (fun hc => ?_)
  · replace hf := if_t hc hf
    obtain rfl := Option.some.inj hf
    exact k_vret C hlocks hr hW hQ dX7_put_32
  · replace hf := if_f hc hf
    refine lv_iload_n hx hb dX7_put_4 rfl (lv_at hl 1 rfl) ?_
    refine lv_bipush (v := 6) hx hb dX7_put_5 (by decide) ?_
    refine lv_icmp_ge (tgt := 32) hx hb dX7_put_7 (by decide) (fun hc => ?_) (fun hc => ?_)
    · replace hf := if_t hc hf
      obtain rfl := Option.some.inj hf
      exact k_vret C hlocks hr hW hQ dX7_put_32
    · replace hf := if_f hc hf
      refine lv_iload_n hx hb dX7_put_10 rfl (lv_at hl 2 rfl) ?_
      refine lv_if_lt (tgt := 32) hx hb dX7_put_11 (by decide) (fun hc => ?_) (fun hc => ?_)
      · replace hf := if_t hc hf
        obtain rfl := Option.some.inj hf
        exact k_vret C hlocks hr hW hQ dX7_put_32
      · replace hf := if_f hc hf
        refine lv_iload_n hx hb dX7_put_14 rfl (lv_at hl 2 rfl) ?_
        refine lv_bipush (v := 6) hx hb dX7_put_15 (by decide) ?_
        refine lv_icmp_ge (tgt := 32) hx hb dX7_put_17 (by decide) (fun hc => ?_) (fun hc => ?_)
        · replace hf := if_t hc hf
          obtain rfl := Option.some.inj hf
          exact k_vret C hlocks hr hW hQ dX7_put_32
        · replace hf := if_f hc hf
          refine lv_aload_n hx hb dX7_put_20 rfl (lv_at hl 0 rfl) ?_
          refine k_get C hE hW iX7 0 rfl rfl 0 (by decide) f9 (fun _ h9 => h9) rfl dX7_put_21 ?_
          refine lv_iload_n hx hb dX7_put_24 rfl (lv_at hl 1 rfl) ?_
          refine lv_bipush (v := 6) hx hb dX7_put_25 (by decide) ?_
          refine lv_imul hx hb dX7_put_27 ?_
          refine lv_iload_n hx hb dX7_put_28 rfl (lv_at hl 2 rfl) ?_
          refine lv_iadd hx hb dX7_put_29 ?_
          refine lv_iload_n hx hb dX7_put_30 rfl (lv_at hl 3 rfl) ?_
          obtain ⟨w1, h2, hf⟩ := bd1_s hf
          refine k_iast (ws' := [(q, .inr (6, [.ref q_numbers])), (q_numbers, .inl (cI, 36, .inl w1))]) C hE hW 1 rfl h2 rfl dX7_put_31 (fun H locs hW => ?_)
          obtain rfl := Option.some.inj hf
          exact k_vret C hlocks hr hW hQ dX7_put_32

set_option maxHeartbeats 4000000 in
set_option maxRecDepth 100000 in
theorem kX7_orHole (l : Launch) (D : va_G) (cI cZ cJ : ClassId) (sz : Nat) (p0 : Int32) (r : Int32) (hf : pX7_orHole p0 = some r) : kMet l D cI cZ cJ yX7_orHole wsX7_orHole 0 0 [.int p0] [] sz (some (.int r)) [] := by
  refine kM_of (cc := cX7_orHole) (maxL := 1) (ret := (some .int)) (by decide) rfl (Nat.le_of_ble_eq_true rfl) ?_
  intro p e s m args below meth c A Q ls hQ C hlocks hr hE hW hl
  have hx := C.1
  have hb := C.2.1
  have hts := C.2.2.2.2
  have hl : lv_has ls 1 [(0, .int p0)] := hl
  unfold pX7_orHole at hf
  refine lv_iload_n hx hb dX7_orHole_0 rfl (lv_at hl 0 rfl) ?_
  refine lv_iconst (v := (-1)) hx hb dX7_orHole_1 (by decide) ?_
  refine lv_icmp_ne (tgt := 10) hx hb dX7_orHole_2 (by decide) (fun hc => ?_) (fun hc => ?_)
  · replace hf := if_f hc hf
    refine lv_iload_n hx hb dX7_orHole_10 rfl (lv_at hl 0 rfl) ?_
    obtain rfl := Option.some.inj hf
    exact k_iret C hlocks hr hW hQ dX7_orHole_11
  · replace hf := if_t hc hf
    refine lv_bipush (v := 100) hx hb dX7_orHole_5 (by decide) ?_
    refine lv_goto (tgt := 11) hx hb dX7_orHole_7 (by decide) ?_
    obtain rfl := Option.some.inj hf
    exact k_iret C hlocks hr hW hQ dX7_orHole_11

set_option maxHeartbeats 4000000 in
set_option maxRecDepth 100000 in
theorem kX7_slideDown (l : Launch) (D : va_G) (cI cZ cJ : ClassId) (sz : Nat) (q q_numbers : Nat) (u_numbers : Nat → Int32) (p0 : Int32) (p1 : Int32) (r : Int32) (u_numbers' : Nat → Int32) (hf : pX7_slideDown u_numbers p0 p1 = some (r, u_numbers')) : kMet l D cI cZ cJ yX7_slideDown wsX7_slideDown 1 23 [.ref q, .int p0, .int p1] [(q, .inr (6, [.ref q_numbers])), (q_numbers, .inl (cI, 36, .inl u_numbers))] sz (some (.int r)) [(q, .inr (6, [.ref q_numbers])), (q_numbers, .inl (cI, 36, .inl u_numbers'))] := by
  refine kM_of (cc := cX7_slideDown) (maxL := 9) (ret := (some .int)) (by decide) rfl (Nat.le_of_ble_eq_true rfl) ?_
  intro p e s m args below meth c A Q ls hQ C hlocks hr hE hW hl
  have hx := C.1
  have hb := C.2.1
  have hts := C.2.2.2.2
  have hl : lv_has ls 9 [(0, .ref q), (1, .int p0), (2, .int p1)] := hl
  unfold pX7_slideDown at hf
  refine lv_iload_n hx hb dX7_slideDown_0 rfl (lv_at hl 1 rfl) ?_
  refine lv_istore_n (lv' := [(3, .int p0), (0, .ref q), (1, .int p0), (2, .int p1)]) hx hb dX7_slideDown_1 rfl hl (by decide) rfl (fun ls hl => ?_)
  refine lv_iload_n hx hb dX7_slideDown_2 rfl (lv_at hl 3 rfl) ?_
  refine lv_istore (lv' := [(4, .int p1), (3, .int p0), (0, .ref q), (1, .int p0), (2, .int p1)]) hx hb dX7_slideDown_3 hl (by decide) rfl (fun ls hl => ?_)
  refine lv_aload_n hx hb dX7_slideDown_5 rfl (lv_at hl 2 rfl) ?_
  refine lv_iload_n hx hb dX7_slideDown_6 rfl (lv_at hl 1 rfl) ?_
  refine lv_iload hx hb dX7_slideDown_7 (lv_at hl 0 rfl) ?_
  obtain ⟨v1, h2, hf⟩ := bd1_s hf
  refine k_callVR (b := q) (ci := 6) (qb := 0) (As := [.int p0, .int p1]) (n := 2) (rest := []) (st1 := [.int v1]) C hE hW hl.1 (kX7_at l D cI cZ cJ _ q q_numbers u_numbers p0 p1 v1 h2) gX7_slideDown_X7_at rfl (by decide +kernel) rfl ⟨Nat.le_of_ble_eq_true rfl, Nat.le_of_ble_eq_true rfl⟩ ⟨Nat.zero_le _, Nat.zero_le _⟩ rfl rfl [0, 1] rfl rfl (Nat.le_of_ble_eq_true rfl) rfl rfl dX7_slideDown_9 (fun H locs hW => ?_)
  refine lv_istore (lv' := [(5, .int v1), (4, .int p1), (3, .int p0), (0, .ref q), (1, .int p0), (2, .int p1)]) hx hb dX7_slideDown_12 hl (by decide) rfl (fun ls hl => ?_)
  refine lv_iconst (v := 0) hx hb dX7_slideDown_14 (by decide) ?_
  refine lv_istore (lv' := [(6, .int 0), (5, .int v1), (4, .int p1), (3, .int p0), (0, .ref q), (1, .int p0), (2, .int p1)]) hx hb dX7_slideDown_15 hl (by decide) rfl (fun ls hl => ?_)
  obtain ⟨⟨x7, x8, w9⟩, hx110, hf⟩ := bd1_s hf
  replace hf := un3_s hf
  have J12 : ∀ (H : Heap) (locs : List Loc) (ls : Array Slot), kH D A s H locs [(q, .inr (6, [.ref q_numbers])), (q_numbers, .inl (cI, 36, .inl w9))] → lv_has ls 9 [(4, .int x7), (3, .int x8)] → W p l e (kRm 1 23 0 0) s m args below meth c H locs 0 0 Q (F0 m 118 ls []) := by
    intro H locs ls hW hl
    refine lv_iload_n hx hb dX7_slideDown_118 rfl (lv_at hl 1 rfl) ?_
    refine lv_iload hx hb dX7_slideDown_119 (lv_at hl 0 rfl) ?_
    obtain ⟨v46, h47, hf⟩ := bd1_s hf
    refine k_callSN (As := [.int x8, .int x7]) (n := 2) (rest := []) (st1 := [.int v46]) C hE hW hl.1 (kX9_placeOf l D cI cZ cJ _ x8 x7 v46 h47) gX7_slideDown_X9_placeOf_n51 rfl (by decide +kernel) (by decide +kernel) (by decide +kernel) (by decide +kernel) rfl ⟨Nat.le_of_ble_eq_true rfl, Nat.le_of_ble_eq_true rfl⟩ ⟨Nat.zero_le _, Nat.zero_le _⟩ (Nat.le_of_ble_eq_true rfl) rfl rfl dX7_slideDown_121 (fun H locs hW => ?_)
    obtain ⟨rfl, rfl⟩ := sm2 hf
    exact k_iret C hlocks hr hW hQ dX7_slideDown_124
  have L13 : ∀ (n : Nat) (i3 : Int32) (i4 : Int32) (i5 : Int32) (w6 : Nat → Int32), lpI n (un4 (pX7_slideDown_L17 v1)) (i3, i4, i5, w6) = some (x7, x8, w9) → ∀ (H : Heap) (locs : List Loc) (ls : Array Slot), kH D A s H locs [(q, .inr (6, [.ref q_numbers])), (q_numbers, .inl (cI, 36, .inl w6))] → lv_has ls 9 [(6, .int i3), (5, .int v1), (4, .int i4), (3, .int i5), (0, .ref q)] → W p l e (kRm 1 23 0 0) s m args below meth c H locs 0 0 Q (F0 m 17 ls []) := by
    intro n
    induction n with
    | zero => intro i3 i4 i5 w6 hx11; exact (lpI_0 hx11).elim
    | succ n ih15 =>
      intro i3 i4 i5 w6 hx11 H locs ls hW hl
      obtain ⟨ooho10, ho10, hx11⟩ := lpI_s hx11
      replace ho10 := un4_s ho10
      unfold pX7_slideDown_L17 at ho10
      refine lv_iload hx hb dX7_slideDown_17 (lv_at hl 0 rfl) ?_
      refine lv_bipush (v := 12) hx hb dX7_slideDown_19 (by decide) ?_
      refine lv_icmp_ge (tgt := 118) hx hb dX7_slideDown_21 (by decide) (fun hc => ?_) (fun hc => ?_)
      · replace ho10 := if_t hc ho10
        obtain rfl := Option.some.inj ho10
        obtain ⟨rfl, rfl, rfl⟩ := pr3 (lpK_r hx11)
        exact J12 _ _ _ hW (lv_sub hl [2, 3] rfl)
      · replace ho10 := if_f hc ho10
        refine lv_aload_n hx hb dX7_slideDown_24 rfl (lv_at hl 4 rfl) ?_
        refine lv_iload_n hx hb dX7_slideDown_25 rfl (lv_at hl 3 rfl) ?_
        refine lv_iconst (v := 1) hx hb dX7_slideDown_26 (by decide) ?_
        refine lv_iadd hx hb dX7_slideDown_27 ?_
        refine lv_iload hx hb dX7_slideDown_28 (lv_at hl 2 rfl) ?_
        obtain ⟨v16, h17, ho10⟩ := bd1_s ho10
        refine k_callVR (b := q) (ci := 6) (qb := 0) (As := [.int (i5 + 1), .int i4]) (n := 2) (rest := []) (st1 := [.int v16]) C hE hW hl.1 (kX7_at l D cI cZ cJ _ q q_numbers w6 (i5 + 1) i4 v16 h17) gX7_slideDown_X7_at rfl (by decide +kernel) rfl ⟨Nat.le_of_ble_eq_true rfl, Nat.le_of_ble_eq_true rfl⟩ ⟨Nat.zero_le _, Nat.zero_le _⟩ rfl rfl [0, 1] rfl rfl (Nat.le_of_ble_eq_true rfl) rfl rfl dX7_slideDown_30 (fun H locs hW => ?_)
        obtain ⟨v18, h19, ho10⟩ := bd1_s ho10
        refine k_callSR (As := [.int v16]) (n := 1) (rest := []) (st1 := [.int v18]) C hE hW hl.1 (kX7_orHole l D cI cZ cJ _ v16 v18 h19) gX7_slideDown_X7_orHole rfl (by decide +kernel) rfl ⟨Nat.le_of_ble_eq_true rfl, Nat.le_of_ble_eq_true rfl⟩ ⟨Nat.zero_le _, Nat.zero_le _⟩ [] rfl rfl (Nat.le_of_ble_eq_true rfl) rfl rfl dX7_slideDown_33 (fun H locs hW => ?_)
        refine lv_istore (lv' := [(7, .int v18), (6, .int i3), (5, .int v1), (4, .int i4), (3, .int i5), (0, .ref q)]) hx hb dX7_slideDown_36 hl (by decide) rfl (fun ls hl => ?_)
        refine lv_aload_n hx hb dX7_slideDown_38 rfl (lv_at hl 5 rfl) ?_
        refine lv_iload_n hx hb dX7_slideDown_39 rfl (lv_at hl 4 rfl) ?_
        refine lv_iload hx hb dX7_slideDown_40 (lv_at hl 3 rfl) ?_
        refine lv_iconst (v := 1) hx hb dX7_slideDown_42 (by decide) ?_
        refine lv_iadd hx hb dX7_slideDown_43 ?_
        obtain ⟨v20, h21, ho10⟩ := bd1_s ho10
        refine k_callVR (b := q) (ci := 6) (qb := 0) (As := [.int i5, .int (i4 + 1)]) (n := 2) (rest := []) (st1 := [.int v20]) C hE hW hl.1 (kX7_at l D cI cZ cJ _ q q_numbers w6 i5 (i4 + 1) v20 h21) gX7_slideDown_X7_at rfl (by decide +kernel) rfl ⟨Nat.le_of_ble_eq_true rfl, Nat.le_of_ble_eq_true rfl⟩ ⟨Nat.zero_le _, Nat.zero_le _⟩ rfl rfl [0, 1] rfl rfl (Nat.le_of_ble_eq_true rfl) rfl rfl dX7_slideDown_44 (fun H locs hW => ?_)
        obtain ⟨v22, h23, ho10⟩ := bd1_s ho10
        refine k_callSR (As := [.int v20]) (n := 1) (rest := []) (st1 := [.int v22]) C hE hW hl.1 (kX7_orHole l D cI cZ cJ _ v20 v22 h23) gX7_slideDown_X7_orHole rfl (by decide +kernel) rfl ⟨Nat.le_of_ble_eq_true rfl, Nat.le_of_ble_eq_true rfl⟩ ⟨Nat.zero_le _, Nat.zero_le _⟩ [] rfl rfl (Nat.le_of_ble_eq_true rfl) rfl rfl dX7_slideDown_47 (fun H locs hW => ?_)
        refine lv_istore (lv' := [(8, .int v22), (7, .int v18), (6, .int i3), (5, .int v1), (4, .int i4), (3, .int i5), (0, .ref q)]) hx hb dX7_slideDown_50 hl (by decide) rfl (fun ls hl => ?_)
        refine lv_iload hx hb dX7_slideDown_52 (lv_at hl 1 rfl) ?_
        refine lv_iload hx hb dX7_slideDown_54 (lv_at hl 3 rfl) ?_
        refine lv_icmp_lt (tgt := 69) hx hb dX7_slideDown_56 (by decide) (fun hc => ?_) (fun hc => ?_)
        · replace ho10 := if_t hc ho10
          refine lv_iload hx hb dX7_slideDown_69 (lv_at hl 1 rfl) ?_
          refine lv_iload hx hb dX7_slideDown_71 (lv_at hl 0 rfl) ?_
          obtain ⟨⟨j24, j25, w26⟩, hd27, ho10⟩ := bd1_s ho10
          replace ho10 := un3_s ho10
          have J28 : ∀ (H : Heap) (locs : List Loc) (ls : Array Slot), kH D A s H locs [(q, .inr (6, [.ref q_numbers])), (q_numbers, .inl (cI, 36, .inl w26))] → lv_has ls 9 [(0, .ref q), (3, .int j24), (4, .int j25), (5, .int v1), (6, .int i3)] → W p l e (kRm 1 23 0 0) s m args below meth c H locs 0 0 Q (F0 m 103 ls []) := by
            intro H locs ls hW hl
            refine lv_aload_n hx hb dX7_slideDown_103 rfl (lv_at hl 0 rfl) ?_
            refine lv_iload_n hx hb dX7_slideDown_104 rfl (lv_at hl 1 rfl) ?_
            refine lv_iload hx hb dX7_slideDown_105 (lv_at hl 2 rfl) ?_
            refine lv_iload hx hb dX7_slideDown_107 (lv_at hl 3 rfl) ?_
            obtain ⟨w33, h34, ho10⟩ := bd1_s ho10
            refine k_callV (b := q) (ci := 6) (qb := 0) (As := [.int j24, .int j25, .int v1]) (n := 3) (rest := []) (st1 := []) (wr := []) (ws' := [(q, .inr (6, [.ref q_numbers])), (q_numbers, .inl (cI, 36, .inl w33))]) C hE hW hl.1 (kX7_put l D cI cZ cJ _ q q_numbers w26 j24 j25 v1 w33 h34) gX7_slideDown_X7_put rfl (by decide +kernel) rfl ⟨Nat.le_of_ble_eq_true rfl, Nat.le_of_ble_eq_true rfl⟩ ⟨Nat.zero_le _, Nat.zero_le _⟩ rfl rfl [0, 1] [] [0, 1] rfl rfl rfl rfl (by decide) rfl rfl (Nat.le_of_ble_eq_true rfl) rfl rfl dX7_slideDown_109 (fun H locs hW => ?_)
            refine lv_iinc (v := (i3 + 1)) (lv' := [(6, .int (i3 + 1)), (0, .ref q), (3, .int j24), (4, .int j25), (5, .int v1)]) hx hb dX7_slideDown_112 hl (k := 4) rfl rfl (by decide) rfl (fun ls hl => ?_)
            refine lv_goto (tgt := 17) hx hb dX7_slideDown_115 (by decide) ?_
            obtain rfl := Option.some.inj ho10
            exact ih15 _ _ _ _ hx11 _ _ _ hW (lv_sub hl [0, 4, 3, 2, 1] rfl)
          refine lv_icmp_gt (tgt := 91) hx hb dX7_slideDown_73 (by decide) (fun hc => ?_) (fun hc => ?_)
          · replace hd27 := if_t hc hd27
            refine lv_aload_n hx hb dX7_slideDown_91 rfl (lv_at hl 6 rfl) ?_
            refine lv_iload_n hx hb dX7_slideDown_92 rfl (lv_at hl 5 rfl) ?_
            refine lv_iload hx hb dX7_slideDown_93 (lv_at hl 4 rfl) ?_
            refine lv_iload hx hb dX7_slideDown_95 (lv_at hl 0 rfl) ?_
            obtain ⟨w29, h30, hd27⟩ := bd1_s hd27
            refine k_callV (b := q) (ci := 6) (qb := 0) (As := [.int i5, .int i4, .int v22]) (n := 3) (rest := []) (st1 := []) (wr := []) (ws' := [(q, .inr (6, [.ref q_numbers])), (q_numbers, .inl (cI, 36, .inl w29))]) C hE hW hl.1 (kX7_put l D cI cZ cJ _ q q_numbers w6 i5 i4 v22 w29 h30) gX7_slideDown_X7_put rfl (by decide +kernel) rfl ⟨Nat.le_of_ble_eq_true rfl, Nat.le_of_ble_eq_true rfl⟩ ⟨Nat.zero_le _, Nat.zero_le _⟩ rfl rfl [0, 1] [] [0, 1] rfl rfl rfl rfl (by decide) rfl rfl (Nat.le_of_ble_eq_true rfl) rfl rfl dX7_slideDown_97 (fun H locs hW => ?_)
            refine lv_iinc (v := (i4 + 1)) (lv' := [(4, .int (i4 + 1)), (8, .int v22), (7, .int v18), (6, .int i3), (5, .int v1), (3, .int i5), (0, .ref q)]) hx hb dX7_slideDown_100 hl (k := 4) rfl rfl (by decide) rfl (fun ls hl => ?_)
            obtain ⟨rfl, rfl, rfl⟩ := sm3 hd27
            exact J28 _ _ _ hW (lv_sub hl [6, 5, 0, 4, 3] rfl)
          · replace hd27 := if_f hc hd27
            refine lv_aload_n hx hb dX7_slideDown_76 rfl (lv_at hl 6 rfl) ?_
            refine lv_iload_n hx hb dX7_slideDown_77 rfl (lv_at hl 5 rfl) ?_
            refine lv_iload hx hb dX7_slideDown_78 (lv_at hl 4 rfl) ?_
            refine lv_iload hx hb dX7_slideDown_80 (lv_at hl 1 rfl) ?_
            obtain ⟨w31, h32, hd27⟩ := bd1_s hd27
            refine k_callV (b := q) (ci := 6) (qb := 0) (As := [.int i5, .int i4, .int v18]) (n := 3) (rest := []) (st1 := []) (wr := []) (ws' := [(q, .inr (6, [.ref q_numbers])), (q_numbers, .inl (cI, 36, .inl w31))]) C hE hW hl.1 (kX7_put l D cI cZ cJ _ q q_numbers w6 i5 i4 v18 w31 h32) gX7_slideDown_X7_put rfl (by decide +kernel) rfl ⟨Nat.le_of_ble_eq_true rfl, Nat.le_of_ble_eq_true rfl⟩ ⟨Nat.zero_le _, Nat.zero_le _⟩ rfl rfl [0, 1] [] [0, 1] rfl rfl rfl rfl (by decide) rfl rfl (Nat.le_of_ble_eq_true rfl) rfl rfl dX7_slideDown_82 (fun H locs hW => ?_)
            refine lv_iinc (v := (i5 + 1)) (lv' := [(3, .int (i5 + 1)), (8, .int v22), (7, .int v18), (6, .int i3), (5, .int v1), (4, .int i4), (0, .ref q)]) hx hb dX7_slideDown_85 hl (k := 5) rfl rfl (by decide) rfl (fun ls hl => ?_)
            refine lv_goto (tgt := 103) hx hb dX7_slideDown_88 (by decide) ?_
            obtain ⟨rfl, rfl, rfl⟩ := sm3 hd27
            exact J28 _ _ _ hW (lv_sub hl [6, 0, 5, 4, 3] rfl)
        · replace ho10 := if_f hc ho10
          refine lv_iload hx hb dX7_slideDown_59 (lv_at hl 0 rfl) ?_
          refine lv_iload hx hb dX7_slideDown_61 (lv_at hl 3 rfl) ?_
          refine lv_icmp_lt (tgt := 69) hx hb dX7_slideDown_63 (by decide) (fun hc => ?_) (fun hc => ?_)
          · replace ho10 := if_t hc ho10
            refine lv_iload hx hb dX7_slideDown_69 (lv_at hl 1 rfl) ?_
            refine lv_iload hx hb dX7_slideDown_71 (lv_at hl 0 rfl) ?_
            obtain ⟨⟨j35, j36, w37⟩, hd38, ho10⟩ := bd1_s ho10
            replace ho10 := un3_s ho10
            have J39 : ∀ (H : Heap) (locs : List Loc) (ls : Array Slot), kH D A s H locs [(q, .inr (6, [.ref q_numbers])), (q_numbers, .inl (cI, 36, .inl w37))] → lv_has ls 9 [(0, .ref q), (3, .int j35), (4, .int j36), (5, .int v1), (6, .int i3)] → W p l e (kRm 1 23 0 0) s m args below meth c H locs 0 0 Q (F0 m 103 ls []) := by
              intro H locs ls hW hl
              refine lv_aload_n hx hb dX7_slideDown_103 rfl (lv_at hl 0 rfl) ?_
              refine lv_iload_n hx hb dX7_slideDown_104 rfl (lv_at hl 1 rfl) ?_
              refine lv_iload hx hb dX7_slideDown_105 (lv_at hl 2 rfl) ?_
              refine lv_iload hx hb dX7_slideDown_107 (lv_at hl 3 rfl) ?_
              obtain ⟨w44, h45, ho10⟩ := bd1_s ho10
              refine k_callV (b := q) (ci := 6) (qb := 0) (As := [.int j35, .int j36, .int v1]) (n := 3) (rest := []) (st1 := []) (wr := []) (ws' := [(q, .inr (6, [.ref q_numbers])), (q_numbers, .inl (cI, 36, .inl w44))]) C hE hW hl.1 (kX7_put l D cI cZ cJ _ q q_numbers w37 j35 j36 v1 w44 h45) gX7_slideDown_X7_put rfl (by decide +kernel) rfl ⟨Nat.le_of_ble_eq_true rfl, Nat.le_of_ble_eq_true rfl⟩ ⟨Nat.zero_le _, Nat.zero_le _⟩ rfl rfl [0, 1] [] [0, 1] rfl rfl rfl rfl (by decide) rfl rfl (Nat.le_of_ble_eq_true rfl) rfl rfl dX7_slideDown_109 (fun H locs hW => ?_)
              refine lv_iinc (v := (i3 + 1)) (lv' := [(6, .int (i3 + 1)), (0, .ref q), (3, .int j35), (4, .int j36), (5, .int v1)]) hx hb dX7_slideDown_112 hl (k := 4) rfl rfl (by decide) rfl (fun ls hl => ?_)
              refine lv_goto (tgt := 17) hx hb dX7_slideDown_115 (by decide) ?_
              obtain rfl := Option.some.inj ho10
              exact ih15 _ _ _ _ hx11 _ _ _ hW (lv_sub hl [0, 4, 3, 2, 1] rfl)
            refine lv_icmp_gt (tgt := 91) hx hb dX7_slideDown_73 (by decide) (fun hc => ?_) (fun hc => ?_)
            · replace hd38 := if_t hc hd38
              refine lv_aload_n hx hb dX7_slideDown_91 rfl (lv_at hl 6 rfl) ?_
              refine lv_iload_n hx hb dX7_slideDown_92 rfl (lv_at hl 5 rfl) ?_
              refine lv_iload hx hb dX7_slideDown_93 (lv_at hl 4 rfl) ?_
              refine lv_iload hx hb dX7_slideDown_95 (lv_at hl 0 rfl) ?_
              obtain ⟨w40, h41, hd38⟩ := bd1_s hd38
              refine k_callV (b := q) (ci := 6) (qb := 0) (As := [.int i5, .int i4, .int v22]) (n := 3) (rest := []) (st1 := []) (wr := []) (ws' := [(q, .inr (6, [.ref q_numbers])), (q_numbers, .inl (cI, 36, .inl w40))]) C hE hW hl.1 (kX7_put l D cI cZ cJ _ q q_numbers w6 i5 i4 v22 w40 h41) gX7_slideDown_X7_put rfl (by decide +kernel) rfl ⟨Nat.le_of_ble_eq_true rfl, Nat.le_of_ble_eq_true rfl⟩ ⟨Nat.zero_le _, Nat.zero_le _⟩ rfl rfl [0, 1] [] [0, 1] rfl rfl rfl rfl (by decide) rfl rfl (Nat.le_of_ble_eq_true rfl) rfl rfl dX7_slideDown_97 (fun H locs hW => ?_)
              refine lv_iinc (v := (i4 + 1)) (lv' := [(4, .int (i4 + 1)), (8, .int v22), (7, .int v18), (6, .int i3), (5, .int v1), (3, .int i5), (0, .ref q)]) hx hb dX7_slideDown_100 hl (k := 4) rfl rfl (by decide) rfl (fun ls hl => ?_)
              obtain ⟨rfl, rfl, rfl⟩ := sm3 hd38
              exact J39 _ _ _ hW (lv_sub hl [6, 5, 0, 4, 3] rfl)
            · replace hd38 := if_f hc hd38
              refine lv_aload_n hx hb dX7_slideDown_76 rfl (lv_at hl 6 rfl) ?_
              refine lv_iload_n hx hb dX7_slideDown_77 rfl (lv_at hl 5 rfl) ?_
              refine lv_iload hx hb dX7_slideDown_78 (lv_at hl 4 rfl) ?_
              refine lv_iload hx hb dX7_slideDown_80 (lv_at hl 1 rfl) ?_
              obtain ⟨w42, h43, hd38⟩ := bd1_s hd38
              refine k_callV (b := q) (ci := 6) (qb := 0) (As := [.int i5, .int i4, .int v18]) (n := 3) (rest := []) (st1 := []) (wr := []) (ws' := [(q, .inr (6, [.ref q_numbers])), (q_numbers, .inl (cI, 36, .inl w42))]) C hE hW hl.1 (kX7_put l D cI cZ cJ _ q q_numbers w6 i5 i4 v18 w42 h43) gX7_slideDown_X7_put rfl (by decide +kernel) rfl ⟨Nat.le_of_ble_eq_true rfl, Nat.le_of_ble_eq_true rfl⟩ ⟨Nat.zero_le _, Nat.zero_le _⟩ rfl rfl [0, 1] [] [0, 1] rfl rfl rfl rfl (by decide) rfl rfl (Nat.le_of_ble_eq_true rfl) rfl rfl dX7_slideDown_82 (fun H locs hW => ?_)
              refine lv_iinc (v := (i5 + 1)) (lv' := [(3, .int (i5 + 1)), (8, .int v22), (7, .int v18), (6, .int i3), (5, .int v1), (4, .int i4), (0, .ref q)]) hx hb dX7_slideDown_85 hl (k := 5) rfl rfl (by decide) rfl (fun ls hl => ?_)
              refine lv_goto (tgt := 103) hx hb dX7_slideDown_88 (by decide) ?_
              obtain ⟨rfl, rfl, rfl⟩ := sm3 hd38
              exact J39 _ _ _ hW (lv_sub hl [6, 0, 5, 4, 3] rfl)
          · replace ho10 := if_f hc ho10
            refine lv_goto (tgt := 118) hx hb dX7_slideDown_66 (by decide) ?_
            obtain rfl := Option.some.inj ho10
            obtain ⟨rfl, rfl, rfl⟩ := pr3 (lpK_r hx11)
            exact J12 _ _ _ hW (lv_sub hl [4, 5] rfl)
  exact L13 lpF _ _ _ _ hx110 _ _ _ hW (lv_sub hl [0, 1, 2, 3, 4] rfl)

set_option maxHeartbeats 4000000 in
set_option maxRecDepth 100000 in
theorem kX9_columnOf (l : Launch) (D : va_G) (cI cZ cJ : ClassId) (sz : Nat) (p0 : Int32) (r : Int32) (hf : pX9_columnOf p0 = some r) : kMet l D cI cZ cJ yX9_columnOf wsX9_columnOf 0 0 [.int p0] [] sz (some (.int r)) [] := by
  refine kM_of (cc := cX9_columnOf) (maxL := 1) (ret := (some .int)) (by decide) rfl (Nat.le_of_ble_eq_true rfl) ?_
  intro p e s m args below meth c A Q ls hQ C hlocks hr hE hW hl
  have hx := C.1
  have hb := C.2.1
  have hts := C.2.2.2.2
  have hl : lv_has ls 1 [(0, .int p0)] := hl
  unfold pX9_columnOf at hf
  refine lv_iload_n hx hb dX9_columnOf_0 rfl (lv_at hl 0 rfl) ?_
  refine lv_bipush (v := 10) hx hb dX9_columnOf_1 (by decide) ?_
  refine lv_irem hx hb dX9_columnOf_3 (by decide) ?_
  obtain rfl := Option.some.inj hf
  exact k_iret C hlocks hr hW hQ dX9_columnOf_4

set_option maxHeartbeats 4000000 in
set_option maxRecDepth 100000 in
theorem kX9_rowOf (l : Launch) (D : va_G) (cI cZ cJ : ClassId) (sz : Nat) (p0 : Int32) (r : Int32) (hf : pX9_rowOf p0 = some r) : kMet l D cI cZ cJ yX9_rowOf wsX9_rowOf 0 0 [.int p0] [] sz (some (.int r)) [] := by
  refine kM_of (cc := cX9_rowOf) (maxL := 1) (ret := (some .int)) (by decide) rfl (Nat.le_of_ble_eq_true rfl) ?_
  intro p e s m args below meth c A Q ls hQ C hlocks hr hE hW hl
  have hx := C.1
  have hb := C.2.1
  have hts := C.2.2.2.2
  have hl : lv_has ls 1 [(0, .int p0)] := hl
  unfold pX9_rowOf at hf
  refine lv_iload_n hx hb dX9_rowOf_0 rfl (lv_at hl 0 rfl) ?_
  refine lv_bipush (v := 10) hx hb dX9_rowOf_1 (by decide) ?_
  refine lv_idiv hx hb dX9_rowOf_3 (by decide) ?_
  obtain rfl := Option.some.inj hf
  exact k_iret C hlocks hr hW hQ dX9_rowOf_4

set_option maxHeartbeats 4000000 in
set_option maxRecDepth 100000 in
theorem kX7_takeAway (l : Launch) (D : va_G) (cI cZ cJ : ClassId) (sz : Nat) (q q_numbers : Nat) (u_numbers : Nat → Int32) (p0 : Int32) (p1 : Int32) (r : Int32) (u_numbers' : Nat → Int32) (hf : pX7_takeAway u_numbers p0 p1 = some (r, u_numbers')) : kMet l D cI cZ cJ yX7_takeAway wsX7_takeAway 2 51 [.ref q, .int p0, .int p1] [(q, .inr (6, [.ref q_numbers])), (q_numbers, .inl (cI, 36, .inl u_numbers))] sz (some (.int r)) [(q, .inr (6, [.ref q_numbers])), (q_numbers, .inl (cI, 36, .inl u_numbers'))] := by
  refine kM_of (cc := cX7_takeAway) (maxL := 4) (ret := (some .int)) (by decide) rfl (Nat.le_of_ble_eq_true rfl) ?_
  intro p e s m args below meth c A Q ls hQ C hlocks hr hE hW hl
  have hx := C.1
  have hb := C.2.1
  have hts := C.2.2.2.2
  have hl : lv_has ls 4 [(0, .ref q), (1, .int p0), (2, .int p1)] := hl
  unfold pX7_takeAway at hf
  refine lv_aload_n hx hb dX7_takeAway_0 rfl (lv_at hl 0 rfl) ?_
  refine lv_iload_n hx hb dX7_takeAway_1 rfl (lv_at hl 1 rfl) ?_
  refine lv_iload_n hx hb dX7_takeAway_2 rfl (lv_at hl 2 rfl) ?_
  refine lv_bipush (v := 100) hx hb dX7_takeAway_3 (by decide) ?_
  obtain ⟨w1, h2, hf⟩ := bd1_s hf
  refine k_callV (b := q) (ci := 6) (qb := 0) (As := [.int p0, .int p1, .int 100]) (n := 3) (rest := []) (st1 := []) (wr := []) (ws' := [(q, .inr (6, [.ref q_numbers])), (q_numbers, .inl (cI, 36, .inl w1))]) C hE hW hl.1 (kX7_put l D cI cZ cJ _ q q_numbers u_numbers p0 p1 100 w1 h2) gX7_takeAway_X7_put rfl (by decide +kernel) rfl ⟨Nat.le_of_ble_eq_true rfl, Nat.le_of_ble_eq_true rfl⟩ ⟨Nat.zero_le _, Nat.zero_le _⟩ rfl rfl [0, 1] [] [0, 1] rfl rfl rfl rfl (by decide) rfl rfl (Nat.le_of_ble_eq_true rfl) rfl rfl dX7_takeAway_5 (fun H locs hW => ?_)
  refine lv_aload_n hx hb dX7_takeAway_8 rfl (lv_at hl 0 rfl) ?_
  refine lv_iload_n hx hb dX7_takeAway_9 rfl (lv_at hl 1 rfl) ?_
  refine lv_iload_n hx hb dX7_takeAway_10 rfl (lv_at hl 2 rfl) ?_
  obtain ⟨⟨v3, w4⟩, h5, hf⟩ := bd1_s hf
  replace hf := un2_s hf
  refine k_callV (b := q) (ci := 6) (qb := 0) (As := [.int p0, .int p1]) (n := 2) (rest := []) (st1 := [.int v3]) (wr := []) (ws' := [(q, .inr (6, [.ref q_numbers])), (q_numbers, .inl (cI, 36, .inl w4))]) C hE hW hl.1 (kX7_slideDown l D cI cZ cJ _ q q_numbers w1 p0 p1 v3 w4 h5) gX7_takeAway_X7_slideDown rfl (by decide +kernel) rfl ⟨Nat.le_of_ble_eq_true rfl, Nat.le_of_ble_eq_true rfl⟩ ⟨Nat.zero_le _, Nat.zero_le _⟩ rfl rfl [0, 1] [] [0, 1] rfl rfl rfl rfl (by decide) rfl rfl (Nat.le_of_ble_eq_true rfl) rfl rfl dX7_takeAway_11 (fun H locs hW => ?_)
  refine lv_istore_n (lv' := [(3, .int v3), (0, .ref q), (1, .int p0), (2, .int p1)]) hx hb dX7_takeAway_14 rfl hl (by decide) rfl (fun ls hl => ?_)
  refine lv_aload_n hx hb dX7_takeAway_15 rfl (lv_at hl 1 rfl) ?_
  refine lv_iload_n hx hb dX7_takeAway_16 rfl (lv_at hl 0 rfl) ?_
  obtain ⟨v6, h7, hf⟩ := bd1_s hf
  refine k_callSN (As := [.int v3]) (n := 1) (rest := [.ref q]) (st1 := [.int v6, .ref q]) C hE hW hl.1 (kX9_rowOf l D cI cZ cJ _ v3 v6 h7) gX7_takeAway_X9_rowOf_n61 rfl (by decide +kernel) (by decide +kernel) (by decide +kernel) (by decide +kernel) rfl ⟨Nat.le_of_ble_eq_true rfl, Nat.le_of_ble_eq_true rfl⟩ ⟨Nat.zero_le _, Nat.zero_le _⟩ (Nat.le_of_ble_eq_true rfl) rfl rfl dX7_takeAway_17 (fun H locs hW => ?_)
  refine lv_iload_n hx hb dX7_takeAway_20 rfl (lv_at hl 0 rfl) ?_
  obtain ⟨v8, h9, hf⟩ := bd1_s hf
  refine k_callSN (As := [.int v3]) (n := 1) (rest := [.int v6, .ref q]) (st1 := [.int v8, .int v6, .ref q]) C hE hW hl.1 (kX9_columnOf l D cI cZ cJ _ v3 v8 h9) gX7_takeAway_X9_columnOf_n64 rfl (by decide +kernel) (by decide +kernel) (by decide +kernel) (by decide +kernel) rfl ⟨Nat.le_of_ble_eq_true rfl, Nat.le_of_ble_eq_true rfl⟩ ⟨Nat.zero_le _, Nat.zero_le _⟩ (Nat.le_of_ble_eq_true rfl) rfl rfl dX7_takeAway_21 (fun H locs hW => ?_)
  refine lv_iconst (v := (-1)) hx hb dX7_takeAway_24 (by decide) ?_
  obtain ⟨w10, h11, hf⟩ := bd1_s hf
  refine k_callV (b := q) (ci := 6) (qb := 0) (As := [.int v6, .int v8, .int (-1)]) (n := 3) (rest := []) (st1 := []) (wr := []) (ws' := [(q, .inr (6, [.ref q_numbers])), (q_numbers, .inl (cI, 36, .inl w10))]) C hE hW hl.1 (kX7_put l D cI cZ cJ _ q q_numbers w4 v6 v8 (-1) w10 h11) gX7_takeAway_X7_put rfl (by decide +kernel) rfl ⟨Nat.le_of_ble_eq_true rfl, Nat.le_of_ble_eq_true rfl⟩ ⟨Nat.zero_le _, Nat.zero_le _⟩ rfl rfl [0, 1] [] [0, 1] rfl rfl rfl rfl (by decide) rfl rfl (Nat.le_of_ble_eq_true rfl) rfl rfl dX7_takeAway_25 (fun H locs hW => ?_)
  refine lv_iload_n hx hb dX7_takeAway_28 rfl (lv_at hl 0 rfl) ?_
  obtain ⟨rfl, rfl⟩ := sm2 hf
  exact k_iret C hlocks hr hW hQ dX7_takeAway_29

set_option maxHeartbeats 4000000 in
set_option maxRecDepth 100000 in
theorem kX7_nearestGap (l : Launch) (D : va_G) (cI cZ cJ : ClassId) (sz : Nat) (q q_numbers : Nat) (u_numbers : Nat → Int32) (r : Int32) (hf : pX7_nearestGap u_numbers = some r) : kMet l D cI cZ cJ yX7_nearestGap wsX7_nearestGap 1 23 [.ref q] [(q, .inr (6, [.ref q_numbers])), (q_numbers, .inl (cI, 36, .inl u_numbers))] sz (some (.int r)) [(q, .inr (6, [.ref q_numbers])), (q_numbers, .inl (cI, 36, .inl u_numbers))] := by
  refine kM_of (cc := cX7_nearestGap) (maxL := 6) (ret := (some .int)) (by decide) rfl (Nat.le_of_ble_eq_true rfl) ?_
  intro p e s m args below meth c A Q ls hQ C hlocks hr hE hW hl
  have hx := C.1
  have hb := C.2.1
  have hts := C.2.2.2.2
  have hl : lv_has ls 6 [(0, .ref q)] := hl
  unfold pX7_nearestGap at hf
  refine lv_bipush (v := (-9)) hx hb dX7_nearestGap_0 (by decide) ?_
  refine lv_istore_n (lv' := [(1, .int (-9)), (0, .ref q)]) hx hb dX7_nearestGap_2 rfl hl (by decide) rfl (fun ls hl => ?_)
  refine lv_bipush (v := 12) hx hb dX7_nearestGap_3 (by decide) ?_
  refine lv_istore_n (lv' := [(2, .int 12), (1, .int (-9)), (0, .ref q)]) hx hb dX7_nearestGap_5 rfl hl (by decide) rfl (fun ls hl => ?_)
  refine lv_bipush (v := 6) hx hb dX7_nearestGap_6 (by decide) ?_
  refine lv_istore_n (lv' := [(3, .int 6), (2, .int 12), (1, .int (-9)), (0, .ref q)]) hx hb dX7_nearestGap_8 rfl hl (by decide) rfl (fun ls hl => ?_)
  refine lv_iconst (v := 0) hx hb dX7_nearestGap_9 (by decide) ?_
  refine lv_istore (lv' := [(4, .int 0), (3, .int 6), (2, .int 12), (1, .int (-9)), (0, .ref q)]) hx hb dX7_nearestGap_10 hl (by decide) rfl (fun ls hl => ?_)
  obtain ⟨x5, hx70, hf⟩ := bd1_s hf
  have J8 : ∀ (H : Heap) (locs : List Loc) (ls : Array Slot), kH D A s H locs [(q, .inr (6, [.ref q_numbers])), (q_numbers, .inl (cI, 36, .inl u_numbers))] → lv_has ls 6 [(1, .int x5)] → W p l e (kRm 1 23 0 0) s m args below meth c H locs 0 0 Q (F0 m 65 ls []) := by
    intro H locs ls hW hl
    refine lv_iload_n hx hb dX7_nearestGap_65 rfl (lv_at hl 0 rfl) ?_
    obtain rfl := Option.some.inj hf
    exact k_iret C hlocks hr hW hQ dX7_nearestGap_66
  have L9 : ∀ (n : Nat) (i1 : Int32) (i2 : Int32) (i3 : Int32) (i4 : Int32), lpI n (un4 (pX7_nearestGap_L12 u_numbers)) (i1, i2, i3, i4) = some x5 → ∀ (H : Heap) (locs : List Loc) (ls : Array Slot), kH D A s H locs [(q, .inr (6, [.ref q_numbers])), (q_numbers, .inl (cI, 36, .inl u_numbers))] → lv_has ls 6 [(4, .int i1), (3, .int i2), (2, .int i3), (1, .int i4), (0, .ref q)] → W p l e (kRm 1 23 0 0) s m args below meth c H locs 0 0 Q (F0 m 12 ls []) := by
    intro n
    induction n with
    | zero => intro i1 i2 i3 i4 hx7; exact (lpI_0 hx7).elim
    | succ n ih11 =>
      intro i1 i2 i3 i4 hx7 H locs ls hW hl
      obtain ⟨ooho6, ho6, hx7⟩ := lpI_s hx7
      replace ho6 := un4_s ho6
      unfold pX7_nearestGap_L12 at ho6
      refine lv_iload hx hb dX7_nearestGap_12 (lv_at hl 0 rfl) ?_
      refine lv_bipush (v := 6) hx hb dX7_nearestGap_14 (by decide) ?_
      refine lv_icmp_ge (tgt := 65) hx hb dX7_nearestGap_16 (by decide) (fun hc => ?_) (fun hc => ?_)
      · replace ho6 := if_t hc ho6
        obtain rfl := Option.some.inj ho6
        obtain rfl := lpK_r hx7
        exact J8 _ _ _ hW (lv_sub hl [3] rfl)
      · replace ho6 := if_f hc ho6
        refine lv_aload_n hx hb dX7_nearestGap_19 rfl (lv_at hl 4 rfl) ?_
        refine lv_iload hx hb dX7_nearestGap_20 (lv_at hl 0 rfl) ?_
        obtain ⟨v12, h13, ho6⟩ := bd1_s ho6
        refine k_callVR (b := q) (ci := 6) (qb := 0) (As := [.int i1]) (n := 1) (rest := []) (st1 := [.int v12]) C hE hW hl.1 (kX7_rowLength l D cI cZ cJ _ q q_numbers u_numbers i1 v12 h13) gX7_nearestGap_X7_rowLength rfl (by decide +kernel) rfl ⟨Nat.le_of_ble_eq_true rfl, Nat.le_of_ble_eq_true rfl⟩ ⟨Nat.zero_le _, Nat.zero_le _⟩ rfl rfl [0, 1] rfl rfl (Nat.le_of_ble_eq_true rfl) rfl rfl dX7_nearestGap_22 (fun H locs hW => ?_)
        refine lv_istore (lv' := [(5, .int v12), (4, .int i1), (3, .int i2), (2, .int i3), (1, .int i4), (0, .ref q)]) hx hb dX7_nearestGap_25 hl (by decide) rfl (fun ls hl => ?_)
        refine lv_iload hx hb dX7_nearestGap_27 (lv_at hl 0 rfl) ?_
        refine lv_iload_n hx hb dX7_nearestGap_29 rfl (lv_at hl 2 rfl) ?_
        refine lv_icmp_ge (tgt := 56) hx hb dX7_nearestGap_30 (by decide) (fun hc => ?_) (fun hc => ?_)
        · replace ho6 := if_t hc ho6
          refine lv_iload hx hb dX7_nearestGap_56 (lv_at hl 0 rfl) ?_
          refine lv_istore_n (lv' := [(3, .int v12), (5, .int v12), (4, .int i1), (2, .int i3), (1, .int i4), (0, .ref q)]) hx hb dX7_nearestGap_58 rfl hl (by decide) rfl (fun ls hl => ?_)
          refine lv_iinc (v := (i1 + 1)) (lv' := [(4, .int (i1 + 1)), (3, .int v12), (5, .int v12), (2, .int i3), (1, .int i4), (0, .ref q)]) hx hb dX7_nearestGap_59 hl (k := 2) rfl rfl (by decide) rfl (fun ls hl => ?_)
          refine lv_goto (tgt := 12) hx hb dX7_nearestGap_62 (by decide) ?_
          obtain rfl := Option.some.inj ho6
          exact ih11 _ _ _ _ hx7 _ _ _ hW (lv_sub hl [0, 1, 3, 4, 5] rfl)
        · replace ho6 := if_f hc ho6
          refine lv_iload hx hb dX7_nearestGap_33 (lv_at hl 1 rfl) ?_
          refine lv_iload hx hb dX7_nearestGap_35 (lv_at hl 0 rfl) ?_
          refine lv_iadd hx hb dX7_nearestGap_37 ?_
          refine lv_iload_n hx hb dX7_nearestGap_38 rfl (lv_at hl 3 rfl) ?_
          refine lv_icmp_ge (tgt := 56) hx hb dX7_nearestGap_39 (by decide) (fun hc => ?_) (fun hc => ?_)
          · replace ho6 := if_t hc ho6
            refine lv_iload hx hb dX7_nearestGap_56 (lv_at hl 0 rfl) ?_
            refine lv_istore_n (lv' := [(3, .int v12), (5, .int v12), (4, .int i1), (2, .int i3), (1, .int i4), (0, .ref q)]) hx hb dX7_nearestGap_58 rfl hl (by decide) rfl (fun ls hl => ?_)
            refine lv_iinc (v := (i1 + 1)) (lv' := [(4, .int (i1 + 1)), (3, .int v12), (5, .int v12), (2, .int i3), (1, .int i4), (0, .ref q)]) hx hb dX7_nearestGap_59 hl (k := 2) rfl rfl (by decide) rfl (fun ls hl => ?_)
            refine lv_goto (tgt := 12) hx hb dX7_nearestGap_62 (by decide) ?_
            obtain rfl := Option.some.inj ho6
            exact ih11 _ _ _ _ hx7 _ _ _ hW (lv_sub hl [0, 1, 3, 4, 5] rfl)
          · replace ho6 := if_f hc ho6
            refine lv_iload hx hb dX7_nearestGap_42 (lv_at hl 1 rfl) ?_
            refine lv_iload hx hb dX7_nearestGap_44 (lv_at hl 0 rfl) ?_
            obtain ⟨v14, h15, ho6⟩ := bd1_s ho6
            refine k_callSN (As := [.int i1, .int v12]) (n := 2) (rest := []) (st1 := [.int v14]) C hE hW hl.1 (kX9_placeOf l D cI cZ cJ _ i1 v12 v14 h15) gX7_nearestGap_X9_placeOf_n51 rfl (by decide +kernel) (by decide +kernel) (by decide +kernel) (by decide +kernel) rfl ⟨Nat.le_of_ble_eq_true rfl, Nat.le_of_ble_eq_true rfl⟩ ⟨Nat.zero_le _, Nat.zero_le _⟩ (Nat.le_of_ble_eq_true rfl) rfl rfl dX7_nearestGap_46 (fun H locs hW => ?_)
            refine lv_istore_n (lv' := [(1, .int v14), (5, .int v12), (4, .int i1), (3, .int i2), (2, .int i3), (0, .ref q)]) hx hb dX7_nearestGap_49 rfl hl (by decide) rfl (fun ls hl => ?_)
            refine lv_iload hx hb dX7_nearestGap_50 (lv_at hl 2 rfl) ?_
            refine lv_iload hx hb dX7_nearestGap_52 (lv_at hl 1 rfl) ?_
            refine lv_iadd hx hb dX7_nearestGap_54 ?_
            refine lv_istore_n (lv' := [(2, .int (i1 + v12)), (1, .int v14), (5, .int v12), (4, .int i1), (3, .int i2), (0, .ref q)]) hx hb dX7_nearestGap_55 rfl hl (by decide) rfl (fun ls hl => ?_)
            refine lv_iload hx hb dX7_nearestGap_56 (lv_at hl 2 rfl) ?_
            refine lv_istore_n (lv' := [(3, .int v12), (2, .int (i1 + v12)), (1, .int v14), (5, .int v12), (4, .int i1), (0, .ref q)]) hx hb dX7_nearestGap_58 rfl hl (by decide) rfl (fun ls hl => ?_)
            refine lv_iinc (v := (i1 + 1)) (lv' := [(4, .int (i1 + 1)), (3, .int v12), (2, .int (i1 + v12)), (1, .int v14), (5, .int v12), (0, .ref q)]) hx hb dX7_nearestGap_59 hl (k := 4) rfl rfl (by decide) rfl (fun ls hl => ?_)
            refine lv_goto (tgt := 12) hx hb dX7_nearestGap_62 (by decide) ?_
            obtain rfl := Option.some.inj ho6
            exact ih11 _ _ _ _ hx7 _ _ _ hW (lv_sub hl [0, 1, 2, 3, 5] rfl)
  exact L9 lpF _ _ _ _ hx70 _ _ _ hW (lv_sub hl [0, 1, 2, 3, 4] rfl)

set_option maxHeartbeats 4000000 in
set_option maxRecDepth 100000 in
theorem kX7_slideUp (l : Launch) (D : va_G) (cI cZ cJ : ClassId) (sz : Nat) (q q_numbers : Nat) (u_numbers : Nat → Int32) (p0 : Int32) (p1 : Int32) (r : Int32) (u_numbers' : Nat → Int32) (hf : pX7_slideUp u_numbers p0 p1 = some (r, u_numbers')) : kMet l D cI cZ cJ yX7_slideUp wsX7_slideUp 1 23 [.ref q, .int p0, .int p1] [(q, .inr (6, [.ref q_numbers])), (q_numbers, .inl (cI, 36, .inl u_numbers))] sz (some (.int r)) [(q, .inr (6, [.ref q_numbers])), (q_numbers, .inl (cI, 36, .inl u_numbers'))] := by
  refine kM_of (cc := cX7_slideUp) (maxL := 9) (ret := (some .int)) (by decide) rfl (Nat.le_of_ble_eq_true rfl) ?_
  intro p e s m args below meth c A Q ls hQ C hlocks hr hE hW hl
  have hx := C.1
  have hb := C.2.1
  have hts := C.2.2.2.2
  have hl : lv_has ls 9 [(0, .ref q), (1, .int p0), (2, .int p1)] := hl
  unfold pX7_slideUp at hf
  refine lv_iload_n hx hb dX7_slideUp_0 rfl (lv_at hl 1 rfl) ?_
  refine lv_istore_n (lv' := [(3, .int p0), (0, .ref q), (1, .int p0), (2, .int p1)]) hx hb dX7_slideUp_1 rfl hl (by decide) rfl (fun ls hl => ?_)
  refine lv_iload_n hx hb dX7_slideUp_2 rfl (lv_at hl 3 rfl) ?_
  refine lv_istore (lv' := [(4, .int p1), (3, .int p0), (0, .ref q), (1, .int p0), (2, .int p1)]) hx hb dX7_slideUp_3 hl (by decide) rfl (fun ls hl => ?_)
  refine lv_aload_n hx hb dX7_slideUp_5 rfl (lv_at hl 2 rfl) ?_
  refine lv_iload_n hx hb dX7_slideUp_6 rfl (lv_at hl 1 rfl) ?_
  refine lv_iload hx hb dX7_slideUp_7 (lv_at hl 0 rfl) ?_
  obtain ⟨v1, h2, hf⟩ := bd1_s hf
  refine k_callVR (b := q) (ci := 6) (qb := 0) (As := [.int p0, .int p1]) (n := 2) (rest := []) (st1 := [.int v1]) C hE hW hl.1 (kX7_at l D cI cZ cJ _ q q_numbers u_numbers p0 p1 v1 h2) gX7_slideUp_X7_at rfl (by decide +kernel) rfl ⟨Nat.le_of_ble_eq_true rfl, Nat.le_of_ble_eq_true rfl⟩ ⟨Nat.zero_le _, Nat.zero_le _⟩ rfl rfl [0, 1] rfl rfl (Nat.le_of_ble_eq_true rfl) rfl rfl dX7_slideUp_9 (fun H locs hW => ?_)
  refine lv_istore (lv' := [(5, .int v1), (4, .int p1), (3, .int p0), (0, .ref q), (1, .int p0), (2, .int p1)]) hx hb dX7_slideUp_12 hl (by decide) rfl (fun ls hl => ?_)
  refine lv_iconst (v := 0) hx hb dX7_slideUp_14 (by decide) ?_
  refine lv_istore (lv' := [(6, .int 0), (5, .int v1), (4, .int p1), (3, .int p0), (0, .ref q), (1, .int p0), (2, .int p1)]) hx hb dX7_slideUp_15 hl (by decide) rfl (fun ls hl => ?_)
  obtain ⟨⟨x7, x8, w9⟩, hx110, hf⟩ := bd1_s hf
  replace hf := un3_s hf
  have J12 : ∀ (H : Heap) (locs : List Loc) (ls : Array Slot), kH D A s H locs [(q, .inr (6, [.ref q_numbers])), (q_numbers, .inl (cI, 36, .inl w9))] → lv_has ls 9 [(4, .int x7), (3, .int x8)] → W p l e (kRm 1 23 0 0) s m args below meth c H locs 0 0 Q (F0 m 112 ls []) := by
    intro H locs ls hW hl
    refine lv_iload_n hx hb dX7_slideUp_112 rfl (lv_at hl 1 rfl) ?_
    refine lv_iload hx hb dX7_slideUp_113 (lv_at hl 0 rfl) ?_
    obtain ⟨v42, h43, hf⟩ := bd1_s hf
    refine k_callSN (As := [.int x8, .int x7]) (n := 2) (rest := []) (st1 := [.int v42]) C hE hW hl.1 (kX9_placeOf l D cI cZ cJ _ x8 x7 v42 h43) gX7_slideUp_X9_placeOf_n51 rfl (by decide +kernel) (by decide +kernel) (by decide +kernel) (by decide +kernel) rfl ⟨Nat.le_of_ble_eq_true rfl, Nat.le_of_ble_eq_true rfl⟩ ⟨Nat.zero_le _, Nat.zero_le _⟩ (Nat.le_of_ble_eq_true rfl) rfl rfl dX7_slideUp_115 (fun H locs hW => ?_)
    obtain ⟨rfl, rfl⟩ := sm2 hf
    exact k_iret C hlocks hr hW hQ dX7_slideUp_118
  have L13 : ∀ (n : Nat) (i3 : Int32) (i4 : Int32) (i5 : Int32) (w6 : Nat → Int32), lpI n (un4 (pX7_slideUp_L17 v1)) (i3, i4, i5, w6) = some (x7, x8, w9) → ∀ (H : Heap) (locs : List Loc) (ls : Array Slot), kH D A s H locs [(q, .inr (6, [.ref q_numbers])), (q_numbers, .inl (cI, 36, .inl w6))] → lv_has ls 9 [(6, .int i3), (5, .int v1), (4, .int i4), (3, .int i5), (0, .ref q)] → W p l e (kRm 1 23 0 0) s m args below meth c H locs 0 0 Q (F0 m 17 ls []) := by
    intro n
    induction n with
    | zero => intro i3 i4 i5 w6 hx11; exact (lpI_0 hx11).elim
    | succ n ih15 =>
      intro i3 i4 i5 w6 hx11 H locs ls hW hl
      obtain ⟨ooho10, ho10, hx11⟩ := lpI_s hx11
      replace ho10 := un4_s ho10
      unfold pX7_slideUp_L17 at ho10
      refine lv_iload hx hb dX7_slideUp_17 (lv_at hl 0 rfl) ?_
      refine lv_bipush (v := 12) hx hb dX7_slideUp_19 (by decide) ?_
      refine lv_icmp_ge (tgt := 112) hx hb dX7_slideUp_21 (by decide) (fun hc => ?_) (fun hc => ?_)
      · replace ho10 := if_t hc ho10
        obtain rfl := Option.some.inj ho10
        obtain ⟨rfl, rfl, rfl⟩ := pr3 (lpK_r hx11)
        exact J12 _ _ _ hW (lv_sub hl [2, 3] rfl)
      · replace ho10 := if_f hc ho10
        refine lv_aload_n hx hb dX7_slideUp_24 rfl (lv_at hl 4 rfl) ?_
        refine lv_iload_n hx hb dX7_slideUp_25 rfl (lv_at hl 3 rfl) ?_
        refine lv_iconst (v := 1) hx hb dX7_slideUp_26 (by decide) ?_
        refine lv_isub hx hb dX7_slideUp_27 ?_
        refine lv_iload hx hb dX7_slideUp_28 (lv_at hl 2 rfl) ?_
        obtain ⟨v16, h17, ho10⟩ := bd1_s ho10
        refine k_callVR (b := q) (ci := 6) (qb := 0) (As := [.int (i5 - 1), .int i4]) (n := 2) (rest := []) (st1 := [.int v16]) C hE hW hl.1 (kX7_at l D cI cZ cJ _ q q_numbers w6 (i5 - 1) i4 v16 h17) gX7_slideUp_X7_at rfl (by decide +kernel) rfl ⟨Nat.le_of_ble_eq_true rfl, Nat.le_of_ble_eq_true rfl⟩ ⟨Nat.zero_le _, Nat.zero_le _⟩ rfl rfl [0, 1] rfl rfl (Nat.le_of_ble_eq_true rfl) rfl rfl dX7_slideUp_30 (fun H locs hW => ?_)
        refine lv_istore (lv' := [(7, .int v16), (6, .int i3), (5, .int v1), (4, .int i4), (3, .int i5), (0, .ref q)]) hx hb dX7_slideUp_33 hl (by decide) rfl (fun ls hl => ?_)
        refine lv_aload_n hx hb dX7_slideUp_35 rfl (lv_at hl 5 rfl) ?_
        refine lv_iload_n hx hb dX7_slideUp_36 rfl (lv_at hl 4 rfl) ?_
        refine lv_iload hx hb dX7_slideUp_37 (lv_at hl 3 rfl) ?_
        refine lv_iconst (v := 1) hx hb dX7_slideUp_39 (by decide) ?_
        refine lv_isub hx hb dX7_slideUp_40 ?_
        obtain ⟨v18, h19, ho10⟩ := bd1_s ho10
        refine k_callVR (b := q) (ci := 6) (qb := 0) (As := [.int i5, .int (i4 - 1)]) (n := 2) (rest := []) (st1 := [.int v18]) C hE hW hl.1 (kX7_at l D cI cZ cJ _ q q_numbers w6 i5 (i4 - 1) v18 h19) gX7_slideUp_X7_at rfl (by decide +kernel) rfl ⟨Nat.le_of_ble_eq_true rfl, Nat.le_of_ble_eq_true rfl⟩ ⟨Nat.zero_le _, Nat.zero_le _⟩ rfl rfl [0, 1] rfl rfl (Nat.le_of_ble_eq_true rfl) rfl rfl dX7_slideUp_41 (fun H locs hW => ?_)
        refine lv_istore (lv' := [(8, .int v18), (7, .int v16), (6, .int i3), (5, .int v1), (4, .int i4), (3, .int i5), (0, .ref q)]) hx hb dX7_slideUp_44 hl (by decide) rfl (fun ls hl => ?_)
        refine lv_iload hx hb dX7_slideUp_46 (lv_at hl 1 rfl) ?_
        refine lv_iload hx hb dX7_slideUp_48 (lv_at hl 3 rfl) ?_
        refine lv_icmp_gt (tgt := 63) hx hb dX7_slideUp_50 (by decide) (fun hc => ?_) (fun hc => ?_)
        · replace ho10 := if_t hc ho10
          refine lv_iload hx hb dX7_slideUp_63 (lv_at hl 1 rfl) ?_
          refine lv_iload hx hb dX7_slideUp_65 (lv_at hl 0 rfl) ?_
          obtain ⟨⟨j20, j21, w22⟩, hd23, ho10⟩ := bd1_s ho10
          replace ho10 := un3_s ho10
          have J24 : ∀ (H : Heap) (locs : List Loc) (ls : Array Slot), kH D A s H locs [(q, .inr (6, [.ref q_numbers])), (q_numbers, .inl (cI, 36, .inl w22))] → lv_has ls 9 [(0, .ref q), (3, .int j20), (4, .int j21), (5, .int v1), (6, .int i3)] → W p l e (kRm 1 23 0 0) s m args below meth c H locs 0 0 Q (F0 m 97 ls []) := by
            intro H locs ls hW hl
            refine lv_aload_n hx hb dX7_slideUp_97 rfl (lv_at hl 0 rfl) ?_
            refine lv_iload_n hx hb dX7_slideUp_98 rfl (lv_at hl 1 rfl) ?_
            refine lv_iload hx hb dX7_slideUp_99 (lv_at hl 2 rfl) ?_
            refine lv_iload hx hb dX7_slideUp_101 (lv_at hl 3 rfl) ?_
            obtain ⟨w29, h30, ho10⟩ := bd1_s ho10
            refine k_callV (b := q) (ci := 6) (qb := 0) (As := [.int j20, .int j21, .int v1]) (n := 3) (rest := []) (st1 := []) (wr := []) (ws' := [(q, .inr (6, [.ref q_numbers])), (q_numbers, .inl (cI, 36, .inl w29))]) C hE hW hl.1 (kX7_put l D cI cZ cJ _ q q_numbers w22 j20 j21 v1 w29 h30) gX7_slideUp_X7_put rfl (by decide +kernel) rfl ⟨Nat.le_of_ble_eq_true rfl, Nat.le_of_ble_eq_true rfl⟩ ⟨Nat.zero_le _, Nat.zero_le _⟩ rfl rfl [0, 1] [] [0, 1] rfl rfl rfl rfl (by decide) rfl rfl (Nat.le_of_ble_eq_true rfl) rfl rfl dX7_slideUp_103 (fun H locs hW => ?_)
            refine lv_iinc (v := (i3 + 1)) (lv' := [(6, .int (i3 + 1)), (0, .ref q), (3, .int j20), (4, .int j21), (5, .int v1)]) hx hb dX7_slideUp_106 hl (k := 4) rfl rfl (by decide) rfl (fun ls hl => ?_)
            refine lv_goto (tgt := 17) hx hb dX7_slideUp_109 (by decide) ?_
            obtain rfl := Option.some.inj ho10
            exact ih15 _ _ _ _ hx11 _ _ _ hW (lv_sub hl [0, 4, 3, 2, 1] rfl)
          refine lv_icmp_lt (tgt := 85) hx hb dX7_slideUp_67 (by decide) (fun hc => ?_) (fun hc => ?_)
          · replace hd23 := if_t hc hd23
            refine lv_aload_n hx hb dX7_slideUp_85 rfl (lv_at hl 6 rfl) ?_
            refine lv_iload_n hx hb dX7_slideUp_86 rfl (lv_at hl 5 rfl) ?_
            refine lv_iload hx hb dX7_slideUp_87 (lv_at hl 4 rfl) ?_
            refine lv_iload hx hb dX7_slideUp_89 (lv_at hl 0 rfl) ?_
            obtain ⟨w25, h26, hd23⟩ := bd1_s hd23
            refine k_callV (b := q) (ci := 6) (qb := 0) (As := [.int i5, .int i4, .int v18]) (n := 3) (rest := []) (st1 := []) (wr := []) (ws' := [(q, .inr (6, [.ref q_numbers])), (q_numbers, .inl (cI, 36, .inl w25))]) C hE hW hl.1 (kX7_put l D cI cZ cJ _ q q_numbers w6 i5 i4 v18 w25 h26) gX7_slideUp_X7_put rfl (by decide +kernel) rfl ⟨Nat.le_of_ble_eq_true rfl, Nat.le_of_ble_eq_true rfl⟩ ⟨Nat.zero_le _, Nat.zero_le _⟩ rfl rfl [0, 1] [] [0, 1] rfl rfl rfl rfl (by decide) rfl rfl (Nat.le_of_ble_eq_true rfl) rfl rfl dX7_slideUp_91 (fun H locs hW => ?_)
            refine lv_iinc (v := (i4 + (-1))) (lv' := [(4, .int (i4 + (-1))), (8, .int v18), (7, .int v16), (6, .int i3), (5, .int v1), (3, .int i5), (0, .ref q)]) hx hb dX7_slideUp_94 hl (k := 4) rfl rfl (by decide) rfl (fun ls hl => ?_)
            obtain ⟨rfl, rfl, rfl⟩ := sm3 hd23
            exact J24 _ _ _ hW (lv_sub hl [6, 5, 0, 4, 3] rfl)
          · replace hd23 := if_f hc hd23
            refine lv_aload_n hx hb dX7_slideUp_70 rfl (lv_at hl 6 rfl) ?_
            refine lv_iload_n hx hb dX7_slideUp_71 rfl (lv_at hl 5 rfl) ?_
            refine lv_iload hx hb dX7_slideUp_72 (lv_at hl 4 rfl) ?_
            refine lv_iload hx hb dX7_slideUp_74 (lv_at hl 1 rfl) ?_
            obtain ⟨w27, h28, hd23⟩ := bd1_s hd23
            refine k_callV (b := q) (ci := 6) (qb := 0) (As := [.int i5, .int i4, .int v16]) (n := 3) (rest := []) (st1 := []) (wr := []) (ws' := [(q, .inr (6, [.ref q_numbers])), (q_numbers, .inl (cI, 36, .inl w27))]) C hE hW hl.1 (kX7_put l D cI cZ cJ _ q q_numbers w6 i5 i4 v16 w27 h28) gX7_slideUp_X7_put rfl (by decide +kernel) rfl ⟨Nat.le_of_ble_eq_true rfl, Nat.le_of_ble_eq_true rfl⟩ ⟨Nat.zero_le _, Nat.zero_le _⟩ rfl rfl [0, 1] [] [0, 1] rfl rfl rfl rfl (by decide) rfl rfl (Nat.le_of_ble_eq_true rfl) rfl rfl dX7_slideUp_76 (fun H locs hW => ?_)
            refine lv_iinc (v := (i5 + (-1))) (lv' := [(3, .int (i5 + (-1))), (8, .int v18), (7, .int v16), (6, .int i3), (5, .int v1), (4, .int i4), (0, .ref q)]) hx hb dX7_slideUp_79 hl (k := 5) rfl rfl (by decide) rfl (fun ls hl => ?_)
            refine lv_goto (tgt := 97) hx hb dX7_slideUp_82 (by decide) ?_
            obtain ⟨rfl, rfl, rfl⟩ := sm3 hd23
            exact J24 _ _ _ hW (lv_sub hl [6, 0, 5, 4, 3] rfl)
        · replace ho10 := if_f hc ho10
          refine lv_iload hx hb dX7_slideUp_53 (lv_at hl 0 rfl) ?_
          refine lv_iload hx hb dX7_slideUp_55 (lv_at hl 3 rfl) ?_
          refine lv_icmp_gt (tgt := 63) hx hb dX7_slideUp_57 (by decide) (fun hc => ?_) (fun hc => ?_)
          · replace ho10 := if_t hc ho10
            refine lv_iload hx hb dX7_slideUp_63 (lv_at hl 1 rfl) ?_
            refine lv_iload hx hb dX7_slideUp_65 (lv_at hl 0 rfl) ?_
            obtain ⟨⟨j31, j32, w33⟩, hd34, ho10⟩ := bd1_s ho10
            replace ho10 := un3_s ho10
            have J35 : ∀ (H : Heap) (locs : List Loc) (ls : Array Slot), kH D A s H locs [(q, .inr (6, [.ref q_numbers])), (q_numbers, .inl (cI, 36, .inl w33))] → lv_has ls 9 [(0, .ref q), (3, .int j31), (4, .int j32), (5, .int v1), (6, .int i3)] → W p l e (kRm 1 23 0 0) s m args below meth c H locs 0 0 Q (F0 m 97 ls []) := by
              intro H locs ls hW hl
              refine lv_aload_n hx hb dX7_slideUp_97 rfl (lv_at hl 0 rfl) ?_
              refine lv_iload_n hx hb dX7_slideUp_98 rfl (lv_at hl 1 rfl) ?_
              refine lv_iload hx hb dX7_slideUp_99 (lv_at hl 2 rfl) ?_
              refine lv_iload hx hb dX7_slideUp_101 (lv_at hl 3 rfl) ?_
              obtain ⟨w40, h41, ho10⟩ := bd1_s ho10
              refine k_callV (b := q) (ci := 6) (qb := 0) (As := [.int j31, .int j32, .int v1]) (n := 3) (rest := []) (st1 := []) (wr := []) (ws' := [(q, .inr (6, [.ref q_numbers])), (q_numbers, .inl (cI, 36, .inl w40))]) C hE hW hl.1 (kX7_put l D cI cZ cJ _ q q_numbers w33 j31 j32 v1 w40 h41) gX7_slideUp_X7_put rfl (by decide +kernel) rfl ⟨Nat.le_of_ble_eq_true rfl, Nat.le_of_ble_eq_true rfl⟩ ⟨Nat.zero_le _, Nat.zero_le _⟩ rfl rfl [0, 1] [] [0, 1] rfl rfl rfl rfl (by decide) rfl rfl (Nat.le_of_ble_eq_true rfl) rfl rfl dX7_slideUp_103 (fun H locs hW => ?_)
              refine lv_iinc (v := (i3 + 1)) (lv' := [(6, .int (i3 + 1)), (0, .ref q), (3, .int j31), (4, .int j32), (5, .int v1)]) hx hb dX7_slideUp_106 hl (k := 4) rfl rfl (by decide) rfl (fun ls hl => ?_)
              refine lv_goto (tgt := 17) hx hb dX7_slideUp_109 (by decide) ?_
              obtain rfl := Option.some.inj ho10
              exact ih15 _ _ _ _ hx11 _ _ _ hW (lv_sub hl [0, 4, 3, 2, 1] rfl)
            refine lv_icmp_lt (tgt := 85) hx hb dX7_slideUp_67 (by decide) (fun hc => ?_) (fun hc => ?_)
            · replace hd34 := if_t hc hd34
              refine lv_aload_n hx hb dX7_slideUp_85 rfl (lv_at hl 6 rfl) ?_
              refine lv_iload_n hx hb dX7_slideUp_86 rfl (lv_at hl 5 rfl) ?_
              refine lv_iload hx hb dX7_slideUp_87 (lv_at hl 4 rfl) ?_
              refine lv_iload hx hb dX7_slideUp_89 (lv_at hl 0 rfl) ?_
              obtain ⟨w36, h37, hd34⟩ := bd1_s hd34
              refine k_callV (b := q) (ci := 6) (qb := 0) (As := [.int i5, .int i4, .int v18]) (n := 3) (rest := []) (st1 := []) (wr := []) (ws' := [(q, .inr (6, [.ref q_numbers])), (q_numbers, .inl (cI, 36, .inl w36))]) C hE hW hl.1 (kX7_put l D cI cZ cJ _ q q_numbers w6 i5 i4 v18 w36 h37) gX7_slideUp_X7_put rfl (by decide +kernel) rfl ⟨Nat.le_of_ble_eq_true rfl, Nat.le_of_ble_eq_true rfl⟩ ⟨Nat.zero_le _, Nat.zero_le _⟩ rfl rfl [0, 1] [] [0, 1] rfl rfl rfl rfl (by decide) rfl rfl (Nat.le_of_ble_eq_true rfl) rfl rfl dX7_slideUp_91 (fun H locs hW => ?_)
              refine lv_iinc (v := (i4 + (-1))) (lv' := [(4, .int (i4 + (-1))), (8, .int v18), (7, .int v16), (6, .int i3), (5, .int v1), (3, .int i5), (0, .ref q)]) hx hb dX7_slideUp_94 hl (k := 4) rfl rfl (by decide) rfl (fun ls hl => ?_)
              obtain ⟨rfl, rfl, rfl⟩ := sm3 hd34
              exact J35 _ _ _ hW (lv_sub hl [6, 5, 0, 4, 3] rfl)
            · replace hd34 := if_f hc hd34
              refine lv_aload_n hx hb dX7_slideUp_70 rfl (lv_at hl 6 rfl) ?_
              refine lv_iload_n hx hb dX7_slideUp_71 rfl (lv_at hl 5 rfl) ?_
              refine lv_iload hx hb dX7_slideUp_72 (lv_at hl 4 rfl) ?_
              refine lv_iload hx hb dX7_slideUp_74 (lv_at hl 1 rfl) ?_
              obtain ⟨w38, h39, hd34⟩ := bd1_s hd34
              refine k_callV (b := q) (ci := 6) (qb := 0) (As := [.int i5, .int i4, .int v16]) (n := 3) (rest := []) (st1 := []) (wr := []) (ws' := [(q, .inr (6, [.ref q_numbers])), (q_numbers, .inl (cI, 36, .inl w38))]) C hE hW hl.1 (kX7_put l D cI cZ cJ _ q q_numbers w6 i5 i4 v16 w38 h39) gX7_slideUp_X7_put rfl (by decide +kernel) rfl ⟨Nat.le_of_ble_eq_true rfl, Nat.le_of_ble_eq_true rfl⟩ ⟨Nat.zero_le _, Nat.zero_le _⟩ rfl rfl [0, 1] [] [0, 1] rfl rfl rfl rfl (by decide) rfl rfl (Nat.le_of_ble_eq_true rfl) rfl rfl dX7_slideUp_76 (fun H locs hW => ?_)
              refine lv_iinc (v := (i5 + (-1))) (lv' := [(3, .int (i5 + (-1))), (8, .int v18), (7, .int v16), (6, .int i3), (5, .int v1), (4, .int i4), (0, .ref q)]) hx hb dX7_slideUp_79 hl (k := 5) rfl rfl (by decide) rfl (fun ls hl => ?_)
              refine lv_goto (tgt := 97) hx hb dX7_slideUp_82 (by decide) ?_
              obtain ⟨rfl, rfl, rfl⟩ := sm3 hd34
              exact J35 _ _ _ hW (lv_sub hl [6, 0, 5, 4, 3] rfl)
          · replace ho10 := if_f hc ho10
            refine lv_goto (tgt := 112) hx hb dX7_slideUp_60 (by decide) ?_
            obtain rfl := Option.some.inj ho10
            obtain ⟨rfl, rfl, rfl⟩ := pr3 (lpK_r hx11)
            exact J12 _ _ _ hW (lv_sub hl [4, 5] rfl)
  exact L13 lpF _ _ _ _ hx110 _ _ _ hW (lv_sub hl [0, 1, 2, 3, 4] rfl)

set_option maxHeartbeats 4000000 in
set_option maxRecDepth 100000 in
theorem kX7_takeIn (l : Launch) (D : va_G) (cI cZ cJ : ClassId) (sz : Nat) (q q_numbers : Nat) (u_numbers : Nat → Int32) (p0 : Int32) (r : Int32) (u_numbers' : Nat → Int32) (hf : pX7_takeIn u_numbers p0 = some (r, u_numbers')) : kMet l D cI cZ cJ yX7_takeIn wsX7_takeIn 2 51 [.ref q, .int p0] [(q, .inr (6, [.ref q_numbers])), (q_numbers, .inl (cI, 36, .inl u_numbers))] sz (some (.int r)) [(q, .inr (6, [.ref q_numbers])), (q_numbers, .inl (cI, 36, .inl u_numbers'))] := by
  refine kM_of (cc := cX7_takeIn) (maxL := 3) (ret := (some .int)) (by decide) rfl (Nat.le_of_ble_eq_true rfl) ?_
  intro p e s m args below meth c A Q ls hQ C hlocks hr hE hW hl
  have hx := C.1
  have hb := C.2.1
  have hts := C.2.2.2.2
  have hl : lv_has ls 3 [(0, .ref q), (1, .int p0)] := hl
  unfold pX7_takeIn at hf
  refine lv_aload_n hx hb dX7_takeIn_0 rfl (lv_at hl 0 rfl) ?_
  obtain ⟨v1, h2, hf⟩ := bd1_s hf
  refine k_callVR (b := q) (ci := 6) (qb := 0) (As := []) (n := 0) (rest := []) (st1 := [.int v1]) C hE hW hl.1 (kX7_nearestGap l D cI cZ cJ _ q q_numbers u_numbers v1 h2) gX7_takeIn_X7_nearestGap rfl (by decide +kernel) rfl ⟨Nat.le_of_ble_eq_true rfl, Nat.le_of_ble_eq_true rfl⟩ ⟨Nat.zero_le _, Nat.zero_le _⟩ rfl rfl [0, 1] rfl rfl (Nat.le_of_ble_eq_true rfl) rfl rfl dX7_takeIn_1 (fun H locs hW => ?_)
  refine lv_istore_n (lv' := [(2, .int v1), (0, .ref q), (1, .int p0)]) hx hb dX7_takeIn_4 rfl hl (by decide) rfl (fun ls hl => ?_)
  refine lv_iload_n hx hb dX7_takeIn_5 rfl (lv_at hl 0 rfl) ?_
  refine lv_bipush (v := (-9)) hx hb dX7_takeIn_6 (by decide) ?_
  refine lv_icmp_ne (tgt := 14) hx hb dX7_takeIn_8 (by decide) (fun hc => ?_) (fun hc => ?_)
  · replace hf := if_f hc hf
    refine lv_aload_n hx hb dX7_takeIn_14 rfl (lv_at hl 1 rfl) ?_
    refine lv_iload_n hx hb dX7_takeIn_15 rfl (lv_at hl 0 rfl) ?_
    obtain ⟨v3, h4, hf⟩ := bd1_s hf
    refine k_callSN (As := [.int v1]) (n := 1) (rest := [.ref q]) (st1 := [.int v3, .ref q]) C hE hW hl.1 (kX9_rowOf l D cI cZ cJ _ v1 v3 h4) gX7_takeIn_X9_rowOf_n61 rfl (by decide +kernel) (by decide +kernel) (by decide +kernel) (by decide +kernel) rfl ⟨Nat.le_of_ble_eq_true rfl, Nat.le_of_ble_eq_true rfl⟩ ⟨Nat.zero_le _, Nat.zero_le _⟩ (Nat.le_of_ble_eq_true rfl) rfl rfl dX7_takeIn_16 (fun H locs hW => ?_)
    refine lv_iload_n hx hb dX7_takeIn_19 rfl (lv_at hl 0 rfl) ?_
    obtain ⟨v5, h6, hf⟩ := bd1_s hf
    refine k_callSN (As := [.int v1]) (n := 1) (rest := [.int v3, .ref q]) (st1 := [.int v5, .int v3, .ref q]) C hE hW hl.1 (kX9_columnOf l D cI cZ cJ _ v1 v5 h6) gX7_takeIn_X9_columnOf_n64 rfl (by decide +kernel) (by decide +kernel) (by decide +kernel) (by decide +kernel) rfl ⟨Nat.le_of_ble_eq_true rfl, Nat.le_of_ble_eq_true rfl⟩ ⟨Nat.zero_le _, Nat.zero_le _⟩ (Nat.le_of_ble_eq_true rfl) rfl rfl dX7_takeIn_20 (fun H locs hW => ?_)
    refine lv_iload_n hx hb dX7_takeIn_23 rfl (lv_at hl 2 rfl) ?_
    obtain ⟨w7, h8, hf⟩ := bd1_s hf
    refine k_callV (b := q) (ci := 6) (qb := 0) (As := [.int v3, .int v5, .int p0]) (n := 3) (rest := []) (st1 := []) (wr := []) (ws' := [(q, .inr (6, [.ref q_numbers])), (q_numbers, .inl (cI, 36, .inl w7))]) C hE hW hl.1 (kX7_put l D cI cZ cJ _ q q_numbers u_numbers v3 v5 p0 w7 h8) gX7_takeIn_X7_put rfl (by decide +kernel) rfl ⟨Nat.le_of_ble_eq_true rfl, Nat.le_of_ble_eq_true rfl⟩ ⟨Nat.zero_le _, Nat.zero_le _⟩ rfl rfl [0, 1] [] [0, 1] rfl rfl rfl rfl (by decide) rfl rfl (Nat.le_of_ble_eq_true rfl) rfl rfl dX7_takeIn_24 (fun H locs hW => ?_)
    refine lv_aload_n hx hb dX7_takeIn_27 rfl (lv_at hl 1 rfl) ?_
    refine lv_iload_n hx hb dX7_takeIn_28 rfl (lv_at hl 0 rfl) ?_
    obtain ⟨v9, h10, hf⟩ := bd1_s hf
    refine k_callSN (As := [.int v1]) (n := 1) (rest := [.ref q]) (st1 := [.int v9, .ref q]) C hE hW hl.1 (kX9_rowOf l D cI cZ cJ _ v1 v9 h10) gX7_takeIn_X9_rowOf_n61 rfl (by decide +kernel) (by decide +kernel) (by decide +kernel) (by decide +kernel) rfl ⟨Nat.le_of_ble_eq_true rfl, Nat.le_of_ble_eq_true rfl⟩ ⟨Nat.zero_le _, Nat.zero_le _⟩ (Nat.le_of_ble_eq_true rfl) rfl rfl dX7_takeIn_29 (fun H locs hW => ?_)
    refine lv_iload_n hx hb dX7_takeIn_32 rfl (lv_at hl 0 rfl) ?_
    obtain ⟨v11, h12, hf⟩ := bd1_s hf
    refine k_callSN (As := [.int v1]) (n := 1) (rest := [.int v9, .ref q]) (st1 := [.int v11, .int v9, .ref q]) C hE hW hl.1 (kX9_columnOf l D cI cZ cJ _ v1 v11 h12) gX7_takeIn_X9_columnOf_n64 rfl (by decide +kernel) (by decide +kernel) (by decide +kernel) (by decide +kernel) rfl ⟨Nat.le_of_ble_eq_true rfl, Nat.le_of_ble_eq_true rfl⟩ ⟨Nat.zero_le _, Nat.zero_le _⟩ (Nat.le_of_ble_eq_true rfl) rfl rfl dX7_takeIn_33 (fun H locs hW => ?_)
    obtain ⟨⟨v13, w14⟩, h15, hf⟩ := bd1_s hf
    replace hf := un2_s hf
    refine k_callV (b := q) (ci := 6) (qb := 0) (As := [.int v9, .int v11]) (n := 2) (rest := []) (st1 := [.int v13]) (wr := []) (ws' := [(q, .inr (6, [.ref q_numbers])), (q_numbers, .inl (cI, 36, .inl w14))]) C hE hW hl.1 (kX7_slideUp l D cI cZ cJ _ q q_numbers w7 v9 v11 v13 w14 h15) gX7_takeIn_X7_slideUp rfl (by decide +kernel) rfl ⟨Nat.le_of_ble_eq_true rfl, Nat.le_of_ble_eq_true rfl⟩ ⟨Nat.zero_le _, Nat.zero_le _⟩ rfl rfl [0, 1] [] [0, 1] rfl rfl rfl rfl (by decide) rfl rfl (Nat.le_of_ble_eq_true rfl) rfl rfl dX7_takeIn_36 (fun H locs hW => ?_)
    obtain ⟨rfl, rfl⟩ := sm2 hf
    exact k_iret C hlocks hr hW hQ dX7_takeIn_39
  · replace hf := if_t hc hf
    refine lv_bipush (v := (-9)) hx hb dX7_takeIn_11 (by decide) ?_
    obtain ⟨rfl, rfl⟩ := sm2 hf
    exact k_iret C hlocks hr hW hQ dX7_takeIn_13

set_option maxHeartbeats 4000000 in
set_option maxRecDepth 100000 in
theorem kX2_moveOver (l : Launch) (D : va_G) (cI cZ cJ : ClassId) (sz : Nat) (q q_first q_first_numbers q_second q_second_numbers : Nat) (u_first_numbers : Nat → Int32) (u_second_numbers : Nat → Int32) (p0 : Int32) (p1 : Int32) (p2 : Int32) (r : Int32) (u_first_numbers' : Nat → Int32) (u_second_numbers' : Nat → Int32) (hf : pX2_moveOver u_first_numbers u_second_numbers p0 p1 p2 = some (r, u_first_numbers', u_second_numbers')) : kMet l D cI cZ cJ yX2_moveOver wsX2_moveOver 3 74 [.ref q, .int p0, .int p1, .int p2] [(q, .inr (2, [.ref q_first, .ref q_second])), (q_first, .inr (6, [.ref q_first_numbers])), (q_first_numbers, .inl (cI, 36, .inl u_first_numbers)), (q_second, .inr (6, [.ref q_second_numbers])), (q_second_numbers, .inl (cI, 36, .inl u_second_numbers))] sz (some (.int r)) [(q, .inr (2, [.ref q_first, .ref q_second])), (q_first, .inr (6, [.ref q_first_numbers])), (q_first_numbers, .inl (cI, 36, .inl u_first_numbers')), (q_second, .inr (6, [.ref q_second_numbers])), (q_second_numbers, .inl (cI, 36, .inl u_second_numbers'))] := by
  refine kM_of (cc := cX2_moveOver) (maxL := 6) (ret := (some .int)) (by decide) rfl (Nat.le_of_ble_eq_true rfl) ?_
  intro p e s m args below meth c A Q ls hQ C hlocks hr hE hW hl
  have hx := C.1
  have hb := C.2.1
  have hts := C.2.2.2.2
  have hl : lv_has ls 6 [(0, .ref q), (1, .int p0), (2, .int p1), (3, .int p2)] := hl
  unfold pX2_moveOver at hf
  refine lv_aload_n hx hb dX2_moveOver_0 rfl (lv_at hl 0 rfl) ?_
  refine lv_iload_n hx hb dX2_moveOver_1 rfl (lv_at hl 1 rfl) ?_
  obtain ⟨b1, h2, hf⟩ := bd1_s hf
  cases b1 with
  | true =>
    replace hf := cd_t hf
    refine k_callVR (b := q) (ci := 2) (qb := 0) (As := [.int p0]) (n := 1) (rest := []) (st1 := [.ref q_first]) C hE hW hl.1 (kX2_table l D cI cZ cJ _ q q_first q_second p0 true h2) gX2_moveOver_X2_table rfl (by decide +kernel) rfl ⟨Nat.le_of_ble_eq_true rfl, Nat.le_of_ble_eq_true rfl⟩ ⟨Nat.zero_le _, Nat.zero_le _⟩ rfl rfl [0] rfl rfl (Nat.le_of_ble_eq_true rfl) rfl rfl dX2_moveOver_2 (fun H locs hW => ?_)
    refine lv_astore (lv' := [(4, .ref q_first), (0, .ref q), (1, .int p0), (2, .int p1), (3, .int p2)]) hx hb dX2_moveOver_5 hl (by decide) rfl (fun ls hl => ?_)
    refine lv_aload hx hb dX2_moveOver_7 (lv_at hl 0 rfl) ?_
    refine lv_iload_n hx hb dX2_moveOver_9 rfl (lv_at hl 3 rfl) ?_
    refine lv_iload_n hx hb dX2_moveOver_10 rfl (lv_at hl 4 rfl) ?_
    obtain ⟨v3, h4, hf⟩ := bd1_s hf
    refine k_callVR (b := q_first) (ci := 6) (qb := 0) (As := [.int p1, .int p2]) (n := 2) (rest := []) (st1 := [.int v3]) C hE hW hl.1 (kX7_at l D cI cZ cJ _ q_first q_first_numbers u_first_numbers p1 p2 v3 h4) gX2_moveOver_X7_at rfl (by decide +kernel) rfl ⟨Nat.le_of_ble_eq_true rfl, Nat.le_of_ble_eq_true rfl⟩ ⟨Nat.zero_le _, Nat.zero_le _⟩ rfl rfl [1, 2] rfl rfl (Nat.le_of_ble_eq_true rfl) rfl rfl dX2_moveOver_11 (fun H locs hW => ?_)
    refine lv_istore (lv' := [(5, .int v3), (4, .ref q_first), (0, .ref q), (1, .int p0), (2, .int p1), (3, .int p2)]) hx hb dX2_moveOver_14 hl (by decide) rfl (fun ls hl => ?_)
    refine lv_aload hx hb dX2_moveOver_16 (lv_at hl 1 rfl) ?_
    refine lv_iload_n hx hb dX2_moveOver_18 rfl (lv_at hl 4 rfl) ?_
    refine lv_iload_n hx hb dX2_moveOver_19 rfl (lv_at hl 5 rfl) ?_
    obtain ⟨⟨v5, w6⟩, h7, hf⟩ := bd1_s hf
    replace hf := un2_s hf
    refine k_callV (b := q_first) (ci := 6) (qb := 0) (As := [.int p1, .int p2]) (n := 2) (rest := []) (st1 := [.int v5]) (wr := [(q, .inr (2, [.ref q_first, .ref q_second])), (q_second, .inr (6, [.ref q_second_numbers])), (q_second_numbers, .inl (cI, 36, .inl u_second_numbers))]) (ws' := [(q, .inr (2, [.ref q_first, .ref q_second])), (q_first, .inr (6, [.ref q_first_numbers])), (q_first_numbers, .inl (cI, 36, .inl w6)), (q_second, .inr (6, [.ref q_second_numbers])), (q_second_numbers, .inl (cI, 36, .inl u_second_numbers))]) C hE hW hl.1 (kX7_takeAway l D cI cZ cJ _ q_first q_first_numbers u_first_numbers p1 p2 v5 w6 h7) gX2_moveOver_X7_takeAway rfl (by decide +kernel) rfl ⟨Nat.le_of_ble_eq_true rfl, Nat.le_of_ble_eq_true rfl⟩ ⟨Nat.zero_le _, Nat.zero_le _⟩ rfl rfl [1, 2] [0, 3, 4] [0, 3, 4, 1, 2] rfl rfl rfl rfl (by decide) rfl rfl (Nat.le_of_ble_eq_true rfl) rfl rfl dX2_moveOver_20 (fun H locs hW => ?_)
    refine lv_pop hx hb dX2_moveOver_23 rfl ?_
    refine lv_aload_n hx hb dX2_moveOver_24 rfl (lv_at hl 2 rfl) ?_
    refine lv_iconst (v := 1) hx hb dX2_moveOver_25 (by decide) ?_
    refine lv_iload_n hx hb dX2_moveOver_26 rfl (lv_at hl 3 rfl) ?_
    refine lv_isub hx hb dX2_moveOver_27 ?_
    obtain ⟨b8, h9, hf⟩ := bd1_s hf
    cases b8 with
    | true =>
      replace hf := cd_t hf
      refine k_callVR (b := q) (ci := 2) (qb := 0) (As := [.int (1 - p0)]) (n := 1) (rest := []) (st1 := [.ref q_first]) C hE hW hl.1 (kX2_table l D cI cZ cJ _ q q_first q_second (1 - p0) true h9) gX2_moveOver_X2_table rfl (by decide +kernel) rfl ⟨Nat.le_of_ble_eq_true rfl, Nat.le_of_ble_eq_true rfl⟩ ⟨Nat.zero_le _, Nat.zero_le _⟩ rfl rfl [0] rfl rfl (Nat.le_of_ble_eq_true rfl) rfl rfl dX2_moveOver_28 (fun H locs hW => ?_)
      refine lv_iload hx hb dX2_moveOver_31 (lv_at hl 0 rfl) ?_
      obtain ⟨⟨v10, w11⟩, h12, hf⟩ := bd1_s hf
      replace hf := un2_s hf
      refine k_callV (b := q_first) (ci := 6) (qb := 0) (As := [.int v3]) (n := 1) (rest := []) (st1 := [.int v10]) (wr := [(q, .inr (2, [.ref q_first, .ref q_second])), (q_second, .inr (6, [.ref q_second_numbers])), (q_second_numbers, .inl (cI, 36, .inl u_second_numbers))]) (ws' := [(q, .inr (2, [.ref q_first, .ref q_second])), (q_first, .inr (6, [.ref q_first_numbers])), (q_first_numbers, .inl (cI, 36, .inl w11)), (q_second, .inr (6, [.ref q_second_numbers])), (q_second_numbers, .inl (cI, 36, .inl u_second_numbers))]) C hE hW hl.1 (kX7_takeIn l D cI cZ cJ _ q_first q_first_numbers w6 v3 v10 w11 h12) gX2_moveOver_X7_takeIn rfl (by decide +kernel) rfl ⟨Nat.le_of_ble_eq_true rfl, Nat.le_of_ble_eq_true rfl⟩ ⟨Nat.zero_le _, Nat.zero_le _⟩ rfl rfl [1, 2] [0, 3, 4] [0, 3, 4, 1, 2] rfl rfl rfl rfl (by decide) rfl rfl (Nat.le_of_ble_eq_true rfl) rfl rfl dX2_moveOver_33 (fun H locs hW => ?_)
      obtain ⟨rfl, rfl, rfl⟩ := sm3 hf
      exact k_iret C hlocks hr hW hQ dX2_moveOver_36
    | false =>
      replace hf := cd_f hf
      refine k_callVR (b := q) (ci := 2) (qb := 0) (As := [.int (1 - p0)]) (n := 1) (rest := []) (st1 := [.ref q_second]) C hE hW hl.1 (kX2_table l D cI cZ cJ _ q q_first q_second (1 - p0) false h9) gX2_moveOver_X2_table rfl (by decide +kernel) rfl ⟨Nat.le_of_ble_eq_true rfl, Nat.le_of_ble_eq_true rfl⟩ ⟨Nat.zero_le _, Nat.zero_le _⟩ rfl rfl [0] rfl rfl (Nat.le_of_ble_eq_true rfl) rfl rfl dX2_moveOver_28 (fun H locs hW => ?_)
      refine lv_iload hx hb dX2_moveOver_31 (lv_at hl 0 rfl) ?_
      obtain ⟨⟨v13, w14⟩, h15, hf⟩ := bd1_s hf
      replace hf := un2_s hf
      refine k_callV (b := q_second) (ci := 6) (qb := 0) (As := [.int v3]) (n := 1) (rest := []) (st1 := [.int v13]) (wr := [(q, .inr (2, [.ref q_first, .ref q_second])), (q_first, .inr (6, [.ref q_first_numbers])), (q_first_numbers, .inl (cI, 36, .inl w6))]) (ws' := [(q, .inr (2, [.ref q_first, .ref q_second])), (q_first, .inr (6, [.ref q_first_numbers])), (q_first_numbers, .inl (cI, 36, .inl w6)), (q_second, .inr (6, [.ref q_second_numbers])), (q_second_numbers, .inl (cI, 36, .inl w14))]) C hE hW hl.1 (kX7_takeIn l D cI cZ cJ _ q_second q_second_numbers u_second_numbers v3 v13 w14 h15) gX2_moveOver_X7_takeIn rfl (by decide +kernel) rfl ⟨Nat.le_of_ble_eq_true rfl, Nat.le_of_ble_eq_true rfl⟩ ⟨Nat.zero_le _, Nat.zero_le _⟩ rfl rfl [3, 4] [0, 1, 2] [0, 1, 2, 3, 4] rfl rfl rfl rfl (by decide) rfl rfl (Nat.le_of_ble_eq_true rfl) rfl rfl dX2_moveOver_33 (fun H locs hW => ?_)
      obtain ⟨rfl, rfl, rfl⟩ := sm3 hf
      exact k_iret C hlocks hr hW hQ dX2_moveOver_36
  | false =>
    replace hf := cd_f hf
    refine k_callVR (b := q) (ci := 2) (qb := 0) (As := [.int p0]) (n := 1) (rest := []) (st1 := [.ref q_second]) C hE hW hl.1 (kX2_table l D cI cZ cJ _ q q_first q_second p0 false h2) gX2_moveOver_X2_table rfl (by decide +kernel) rfl ⟨Nat.le_of_ble_eq_true rfl, Nat.le_of_ble_eq_true rfl⟩ ⟨Nat.zero_le _, Nat.zero_le _⟩ rfl rfl [0] rfl rfl (Nat.le_of_ble_eq_true rfl) rfl rfl dX2_moveOver_2 (fun H locs hW => ?_)
    refine lv_astore (lv' := [(4, .ref q_second), (0, .ref q), (1, .int p0), (2, .int p1), (3, .int p2)]) hx hb dX2_moveOver_5 hl (by decide) rfl (fun ls hl => ?_)
    refine lv_aload hx hb dX2_moveOver_7 (lv_at hl 0 rfl) ?_
    refine lv_iload_n hx hb dX2_moveOver_9 rfl (lv_at hl 3 rfl) ?_
    refine lv_iload_n hx hb dX2_moveOver_10 rfl (lv_at hl 4 rfl) ?_
    obtain ⟨v16, h17, hf⟩ := bd1_s hf
    refine k_callVR (b := q_second) (ci := 6) (qb := 0) (As := [.int p1, .int p2]) (n := 2) (rest := []) (st1 := [.int v16]) C hE hW hl.1 (kX7_at l D cI cZ cJ _ q_second q_second_numbers u_second_numbers p1 p2 v16 h17) gX2_moveOver_X7_at rfl (by decide +kernel) rfl ⟨Nat.le_of_ble_eq_true rfl, Nat.le_of_ble_eq_true rfl⟩ ⟨Nat.zero_le _, Nat.zero_le _⟩ rfl rfl [3, 4] rfl rfl (Nat.le_of_ble_eq_true rfl) rfl rfl dX2_moveOver_11 (fun H locs hW => ?_)
    refine lv_istore (lv' := [(5, .int v16), (4, .ref q_second), (0, .ref q), (1, .int p0), (2, .int p1), (3, .int p2)]) hx hb dX2_moveOver_14 hl (by decide) rfl (fun ls hl => ?_)
    refine lv_aload hx hb dX2_moveOver_16 (lv_at hl 1 rfl) ?_
    refine lv_iload_n hx hb dX2_moveOver_18 rfl (lv_at hl 4 rfl) ?_
    refine lv_iload_n hx hb dX2_moveOver_19 rfl (lv_at hl 5 rfl) ?_
    obtain ⟨⟨v18, w19⟩, h20, hf⟩ := bd1_s hf
    replace hf := un2_s hf
    refine k_callV (b := q_second) (ci := 6) (qb := 0) (As := [.int p1, .int p2]) (n := 2) (rest := []) (st1 := [.int v18]) (wr := [(q, .inr (2, [.ref q_first, .ref q_second])), (q_first, .inr (6, [.ref q_first_numbers])), (q_first_numbers, .inl (cI, 36, .inl u_first_numbers))]) (ws' := [(q, .inr (2, [.ref q_first, .ref q_second])), (q_first, .inr (6, [.ref q_first_numbers])), (q_first_numbers, .inl (cI, 36, .inl u_first_numbers)), (q_second, .inr (6, [.ref q_second_numbers])), (q_second_numbers, .inl (cI, 36, .inl w19))]) C hE hW hl.1 (kX7_takeAway l D cI cZ cJ _ q_second q_second_numbers u_second_numbers p1 p2 v18 w19 h20) gX2_moveOver_X7_takeAway rfl (by decide +kernel) rfl ⟨Nat.le_of_ble_eq_true rfl, Nat.le_of_ble_eq_true rfl⟩ ⟨Nat.zero_le _, Nat.zero_le _⟩ rfl rfl [3, 4] [0, 1, 2] [0, 1, 2, 3, 4] rfl rfl rfl rfl (by decide) rfl rfl (Nat.le_of_ble_eq_true rfl) rfl rfl dX2_moveOver_20 (fun H locs hW => ?_)
    refine lv_pop hx hb dX2_moveOver_23 rfl ?_
    refine lv_aload_n hx hb dX2_moveOver_24 rfl (lv_at hl 2 rfl) ?_
    refine lv_iconst (v := 1) hx hb dX2_moveOver_25 (by decide) ?_
    refine lv_iload_n hx hb dX2_moveOver_26 rfl (lv_at hl 3 rfl) ?_
    refine lv_isub hx hb dX2_moveOver_27 ?_
    obtain ⟨b21, h22, hf⟩ := bd1_s hf
    cases b21 with
    | true =>
      replace hf := cd_t hf
      refine k_callVR (b := q) (ci := 2) (qb := 0) (As := [.int (1 - p0)]) (n := 1) (rest := []) (st1 := [.ref q_first]) C hE hW hl.1 (kX2_table l D cI cZ cJ _ q q_first q_second (1 - p0) true h22) gX2_moveOver_X2_table rfl (by decide +kernel) rfl ⟨Nat.le_of_ble_eq_true rfl, Nat.le_of_ble_eq_true rfl⟩ ⟨Nat.zero_le _, Nat.zero_le _⟩ rfl rfl [0] rfl rfl (Nat.le_of_ble_eq_true rfl) rfl rfl dX2_moveOver_28 (fun H locs hW => ?_)
      refine lv_iload hx hb dX2_moveOver_31 (lv_at hl 0 rfl) ?_
      obtain ⟨⟨v23, w24⟩, h25, hf⟩ := bd1_s hf
      replace hf := un2_s hf
      refine k_callV (b := q_first) (ci := 6) (qb := 0) (As := [.int v16]) (n := 1) (rest := []) (st1 := [.int v23]) (wr := [(q, .inr (2, [.ref q_first, .ref q_second])), (q_second, .inr (6, [.ref q_second_numbers])), (q_second_numbers, .inl (cI, 36, .inl w19))]) (ws' := [(q, .inr (2, [.ref q_first, .ref q_second])), (q_first, .inr (6, [.ref q_first_numbers])), (q_first_numbers, .inl (cI, 36, .inl w24)), (q_second, .inr (6, [.ref q_second_numbers])), (q_second_numbers, .inl (cI, 36, .inl w19))]) C hE hW hl.1 (kX7_takeIn l D cI cZ cJ _ q_first q_first_numbers u_first_numbers v16 v23 w24 h25) gX2_moveOver_X7_takeIn rfl (by decide +kernel) rfl ⟨Nat.le_of_ble_eq_true rfl, Nat.le_of_ble_eq_true rfl⟩ ⟨Nat.zero_le _, Nat.zero_le _⟩ rfl rfl [1, 2] [0, 3, 4] [0, 3, 4, 1, 2] rfl rfl rfl rfl (by decide) rfl rfl (Nat.le_of_ble_eq_true rfl) rfl rfl dX2_moveOver_33 (fun H locs hW => ?_)
      obtain ⟨rfl, rfl, rfl⟩ := sm3 hf
      exact k_iret C hlocks hr hW hQ dX2_moveOver_36
    | false =>
      replace hf := cd_f hf
      refine k_callVR (b := q) (ci := 2) (qb := 0) (As := [.int (1 - p0)]) (n := 1) (rest := []) (st1 := [.ref q_second]) C hE hW hl.1 (kX2_table l D cI cZ cJ _ q q_first q_second (1 - p0) false h22) gX2_moveOver_X2_table rfl (by decide +kernel) rfl ⟨Nat.le_of_ble_eq_true rfl, Nat.le_of_ble_eq_true rfl⟩ ⟨Nat.zero_le _, Nat.zero_le _⟩ rfl rfl [0] rfl rfl (Nat.le_of_ble_eq_true rfl) rfl rfl dX2_moveOver_28 (fun H locs hW => ?_)
      refine lv_iload hx hb dX2_moveOver_31 (lv_at hl 0 rfl) ?_
      obtain ⟨⟨v26, w27⟩, h28, hf⟩ := bd1_s hf
      replace hf := un2_s hf
      refine k_callV (b := q_second) (ci := 6) (qb := 0) (As := [.int v16]) (n := 1) (rest := []) (st1 := [.int v26]) (wr := [(q, .inr (2, [.ref q_first, .ref q_second])), (q_first, .inr (6, [.ref q_first_numbers])), (q_first_numbers, .inl (cI, 36, .inl u_first_numbers))]) (ws' := [(q, .inr (2, [.ref q_first, .ref q_second])), (q_first, .inr (6, [.ref q_first_numbers])), (q_first_numbers, .inl (cI, 36, .inl u_first_numbers)), (q_second, .inr (6, [.ref q_second_numbers])), (q_second_numbers, .inl (cI, 36, .inl w27))]) C hE hW hl.1 (kX7_takeIn l D cI cZ cJ _ q_second q_second_numbers w19 v16 v26 w27 h28) gX2_moveOver_X7_takeIn rfl (by decide +kernel) rfl ⟨Nat.le_of_ble_eq_true rfl, Nat.le_of_ble_eq_true rfl⟩ ⟨Nat.zero_le _, Nat.zero_le _⟩ rfl rfl [3, 4] [0, 1, 2] [0, 1, 2, 3, 4] rfl rfl rfl rfl (by decide) rfl rfl (Nat.le_of_ble_eq_true rfl) rfl rfl dX2_moveOver_33 (fun H locs hW => ?_)
      obtain ⟨rfl, rfl, rfl⟩ := sm3 hf
      exact k_iret C hlocks hr hW hQ dX2_moveOver_36

set_option maxHeartbeats 4000000 in
set_option maxRecDepth 100000 in
theorem kX7_isNotUpTo (l : Launch) (D : va_G) (cI cZ cJ : ClassId) (sz : Nat) (p0 : Int32) (p1 : Int32) (r : Int32) (hf : pX7_isNotUpTo p0 p1 = some r) : kMet l D cI cZ cJ yX7_isNotUpTo wsX7_isNotUpTo 0 0 [.int p0, .int p1] [] sz (some (.int r)) [] := by
  refine kM_of (cc := cX7_isNotUpTo) (maxL := 2) (ret := (some .boolean)) (by decide) rfl (Nat.le_of_ble_eq_true rfl) ?_
  intro p e s m args below meth c A Q ls hQ C hlocks hr hE hW hl
  have hx := C.1
  have hb := C.2.1
  have hts := C.2.2.2.2
  have hl : lv_has ls 2 [(0, .int p0), (1, .int p1)] := hl
  unfold pX7_isNotUpTo at hf
  refine lv_iload_n hx hb dX7_isNotUpTo_0 rfl (lv_at hl 0 rfl) ?_
  refine lv_iconst (v := (-1)) hx hb dX7_isNotUpTo_1 (by decide) ?_
  refine lv_icmp_eq (tgt := 10) hx hb dX7_isNotUpTo_2 (by decide) (fun hc => ?_) (fun hc => ?_)
  · replace hf := if_t hc hf
    refine lv_iconst (v := 1) hx hb dX7_isNotUpTo_10 (by decide) ?_
    refine lv_goto (tgt := 15) hx hb dX7_isNotUpTo_11 (by decide) ?_
    obtain rfl := Option.some.inj hf
    exact k_zret C hlocks hr hW (by decide) hQ dX7_isNotUpTo_15
  · replace hf := if_f hc hf
    refine lv_iload_n hx hb dX7_isNotUpTo_5 rfl (lv_at hl 0 rfl) ?_
    refine lv_iload_n hx hb dX7_isNotUpTo_6 rfl (lv_at hl 1 rfl) ?_
    refine lv_icmp_le (tgt := 14) hx hb dX7_isNotUpTo_7 (by decide) (fun hc => ?_) (fun hc => ?_)
    · replace hf := if_t hc hf
      refine lv_iconst (v := 0) hx hb dX7_isNotUpTo_14 (by decide) ?_
      obtain rfl := Option.some.inj hf
      exact k_zret C hlocks hr hW (by decide) hQ dX7_isNotUpTo_15
    · replace hf := if_f hc hf
      refine lv_iconst (v := 1) hx hb dX7_isNotUpTo_10 (by decide) ?_
      refine lv_goto (tgt := 15) hx hb dX7_isNotUpTo_11 (by decide) ?_
      obtain rfl := Option.some.inj hf
      exact k_zret C hlocks hr hW (by decide) hQ dX7_isNotUpTo_15

set_option maxHeartbeats 4000000 in
set_option maxRecDepth 100000 in
theorem kX7_countWithin (l : Launch) (D : va_G) (cI cZ cJ : ClassId) (sz : Nat) (q q_numbers : Nat) (u_numbers : Nat → Int32) (p0 : Int32) (p1 : Int32) (p2 : Int32) (p3 : Int32) (p4 : Int32) (r : Int32) (hf : pX7_countWithin u_numbers p0 p1 p2 p3 p4 = some r) : kMet l D cI cZ cJ yX7_countWithin wsX7_countWithin 1 22 [.ref q, .int p0, .int p1, .int p2, .int p3, .int p4] [(q, .inr (6, [.ref q_numbers])), (q_numbers, .inl (cI, 36, .inl u_numbers))] sz (some (.int r)) [(q, .inr (6, [.ref q_numbers])), (q_numbers, .inl (cI, 36, .inl u_numbers))] := by
  refine kM_of (cc := cX7_countWithin) (maxL := 9) (ret := (some .int)) (by decide) rfl (Nat.le_of_ble_eq_true rfl) ?_
  intro p e s m args below meth c A Q ls hQ C hlocks hr hE hW hl
  have hx := C.1
  have hb := C.2.1
  have hts := C.2.2.2.2
  have hl : lv_has ls 9 [(0, .ref q), (1, .int p0), (2, .int p1), (3, .int p2), (4, .int p3), (5, .int p4)] := hl
  unfold pX7_countWithin at hf
  refine lv_iconst (v := 0) hx hb dX7_countWithin_0 (by decide) ?_
  refine lv_istore (lv' := [(6, .int 0), (0, .ref q), (1, .int p0), (2, .int p1), (3, .int p2), (4, .int p3), (5, .int p4)]) hx hb dX7_countWithin_1 hl (by decide) rfl (fun ls hl => ?_)
  refine lv_iload hx hb dX7_countWithin_3 (lv_at hl 5 rfl) ?_
  refine lv_istore (lv' := [(7, .int p3), (6, .int 0), (0, .ref q), (1, .int p0), (2, .int p1), (3, .int p2), (4, .int p3), (5, .int p4)]) hx hb dX7_countWithin_5 hl (by decide) rfl (fun ls hl => ?_)
  refine lv_iload_n hx hb dX7_countWithin_7 rfl (lv_at hl 3 rfl) ?_
  refine lv_istore (lv' := [(8, .int p0), (7, .int p3), (6, .int 0), (0, .ref q), (1, .int p0), (2, .int p1), (3, .int p2), (4, .int p3), (5, .int p4)]) hx hb dX7_countWithin_8 hl (by decide) rfl (fun ls hl => ?_)
  obtain ⟨x4, hx60, hf⟩ := bd1_s hf
  have J7 : ∀ (H : Heap) (locs : List Loc) (ls : Array Slot), kH D A s H locs [(q, .inr (6, [.ref q_numbers])), (q_numbers, .inl (cI, 36, .inl u_numbers))] → lv_has ls 9 [(6, .int x4)] → W p l e (kRm 1 22 0 0) s m args below meth c H locs 0 0 Q (F0 m 61 ls []) := by
    intro H locs ls hW hl
    refine lv_iload hx hb dX7_countWithin_61 (lv_at hl 0 rfl) ?_
    obtain rfl := Option.some.inj hf
    exact k_iret C hlocks hr hW hQ dX7_countWithin_63
  have L8 : ∀ (n : Nat) (i1 : Int32) (i2 : Int32) (i3 : Int32), lpI n (un3 (pX7_countWithin_L10 u_numbers p1 p2 p4)) (i1, i2, i3) = some x4 → ∀ (H : Heap) (locs : List Loc) (ls : Array Slot), kH D A s H locs [(q, .inr (6, [.ref q_numbers])), (q_numbers, .inl (cI, 36, .inl u_numbers))] → lv_has ls 9 [(8, .int i1), (7, .int i2), (6, .int i3), (0, .ref q), (2, .int p1), (3, .int p2), (5, .int p4)] → W p l e (kRm 1 22 0 0) s m args below meth c H locs 0 0 Q (F0 m 10 ls []) := by
    intro n
    induction n with
    | zero => intro i1 i2 i3 hx6; exact (lpI_0 hx6).elim
    | succ n ih10 =>
      intro i1 i2 i3 hx6 H locs ls hW hl
      obtain ⟨ooho5, ho5, hx6⟩ := lpI_s hx6
      replace ho5 := un3_s ho5
      unfold pX7_countWithin_L10 at ho5
      refine lv_iload hx hb dX7_countWithin_10 (lv_at hl 0 rfl) ?_
      refine lv_iload_n hx hb dX7_countWithin_12 rfl (lv_at hl 5 rfl) ?_
      refine lv_icmp_gt (tgt := 61) hx hb dX7_countWithin_13 (by decide) (fun hc => ?_) (fun hc => ?_)
      · replace ho5 := if_t hc ho5
        obtain rfl := Option.some.inj ho5
        obtain rfl := lpK_r hx6
        exact J7 _ _ _ hW (lv_sub hl [2] rfl)
      · replace ho5 := if_f hc ho5
        obtain ⟨x12, hx140, ho5⟩ := bd1_s ho5
        have J15 : ∀ (H : Heap) (locs : List Loc) (ls : Array Slot), kH D A s H locs [(q, .inr (6, [.ref q_numbers])), (q_numbers, .inl (cI, 36, .inl u_numbers))] → lv_has ls 9 [(8, .int i1), (7, .int x12), (6, .int i3), (0, .ref q), (2, .int p1), (3, .int p2), (5, .int p4)] → W p l e (kRm 1 22 0 0) s m args below meth c H locs 0 0 Q (F0 m 44 ls []) := by
          intro H locs ls hW hl
          refine lv_iload hx hb dX7_countWithin_44 (lv_at hl 2 rfl) ?_
          refine lv_iload hx hb dX7_countWithin_46 (lv_at hl 1 rfl) ?_
          refine lv_iload_n hx hb dX7_countWithin_48 rfl (lv_at hl 4 rfl) ?_
          refine lv_isub hx hb dX7_countWithin_49 ?_
          refine lv_iconst (v := 1) hx hb dX7_countWithin_50 (by decide) ?_
          refine lv_iadd hx hb dX7_countWithin_51 ?_
          refine lv_iadd hx hb dX7_countWithin_52 ?_
          refine lv_istore (lv' := [(6, .int (i3 + ((x12 - p1) + 1))), (8, .int i1), (7, .int x12), (0, .ref q), (2, .int p1), (3, .int p2), (5, .int p4)]) hx hb dX7_countWithin_53 hl (by decide) rfl (fun ls hl => ?_)
          refine lv_iinc (v := (i1 + 1)) (lv' := [(8, .int (i1 + 1)), (6, .int (i3 + ((x12 - p1) + 1))), (7, .int x12), (0, .ref q), (2, .int p1), (3, .int p2), (5, .int p4)]) hx hb dX7_countWithin_55 hl (k := 1) rfl rfl (by decide) rfl (fun ls hl => ?_)
          refine lv_goto (tgt := 10) hx hb dX7_countWithin_58 (by decide) ?_
          obtain rfl := Option.some.inj ho5
          exact ih10 _ _ _ hx6 _ _ _ hW (lv_sub hl [0, 2, 1, 3, 4, 5, 6] rfl)
        have L16 : ∀ (n : Nat) (i11 : Int32), lpI n (pX7_countWithin_L16 u_numbers p1 p4 i1) i11 = some x12 → ∀ (H : Heap) (locs : List Loc) (ls : Array Slot), kH D A s H locs [(q, .inr (6, [.ref q_numbers])), (q_numbers, .inl (cI, 36, .inl u_numbers))] → lv_has ls 9 [(8, .int i1), (7, .int i11), (6, .int i3), (0, .ref q), (2, .int p1), (3, .int p2), (5, .int p4)] → W p l e (kRm 1 22 0 0) s m args below meth c H locs 0 0 Q (F0 m 16 ls []) := by
          intro n
          induction n with
          | zero => intro i11 hx14; exact (lpI_0 hx14).elim
          | succ n ih18 =>
            intro i11 hx14 H locs ls hW hl
            obtain ⟨ooho13, ho13, hx14⟩ := lpI_s hx14
            unfold pX7_countWithin_L16 at ho13
            refine lv_iload hx hb dX7_countWithin_16 (lv_at hl 1 rfl) ?_
            refine lv_iload_n hx hb dX7_countWithin_18 rfl (lv_at hl 4 rfl) ?_
            refine lv_icmp_lt (tgt := 44) hx hb dX7_countWithin_19 (by decide) (fun hc => ?_) (fun hc => ?_)
            · replace ho13 := if_t hc ho13
              obtain rfl := Option.some.inj ho13
              obtain rfl := lpK_r hx14
              exact J15 _ _ _ hW (lv_sub hl [0, 1, 2, 3, 4, 5, 6] rfl)
            · replace ho13 := if_f hc ho13
              refine lv_aload_n hx hb dX7_countWithin_22 rfl (lv_at hl 3 rfl) ?_
              refine lv_iload hx hb dX7_countWithin_23 (lv_at hl 0 rfl) ?_
              refine lv_iload hx hb dX7_countWithin_25 (lv_at hl 1 rfl) ?_
              obtain ⟨v19, h20, ho13⟩ := bd1_s ho13
              refine k_callVR (b := q) (ci := 6) (qb := 0) (As := [.int i1, .int i11]) (n := 2) (rest := []) (st1 := [.int v19]) C hE hW hl.1 (kX7_at l D cI cZ cJ _ q q_numbers u_numbers i1 i11 v19 h20) gX7_countWithin_X7_at rfl (by decide +kernel) rfl ⟨Nat.le_of_ble_eq_true rfl, Nat.le_of_ble_eq_true rfl⟩ ⟨Nat.zero_le _, Nat.zero_le _⟩ rfl rfl [0, 1] rfl rfl (Nat.le_of_ble_eq_true rfl) rfl rfl dX7_countWithin_27 (fun H locs hW => ?_)
              refine lv_iload hx hb dX7_countWithin_30 (lv_at hl 6 rfl) ?_
              obtain ⟨v21, h22, ho13⟩ := bd1_s ho13
              refine k_callSR (As := [.int v19, .int p4]) (n := 2) (rest := []) (st1 := [.int v21]) C hE hW hl.1 (kX7_isNotUpTo l D cI cZ cJ _ v19 p4 v21 h22) gX7_countWithin_X7_isNotUpTo rfl (by decide +kernel) rfl ⟨Nat.le_of_ble_eq_true rfl, Nat.le_of_ble_eq_true rfl⟩ ⟨Nat.zero_le _, Nat.zero_le _⟩ [] rfl rfl (Nat.le_of_ble_eq_true rfl) rfl rfl dX7_countWithin_32 (fun H locs hW => ?_)
              refine lv_if_eq (tgt := 44) hx hb dX7_countWithin_35 (by decide) (fun hc => ?_) (fun hc => ?_)
              · replace ho13 := if_t hc ho13
                obtain rfl := Option.some.inj ho13
                obtain rfl := lpK_r hx14
                exact J15 _ _ _ hW (lv_sub hl [0, 1, 2, 3, 4, 5, 6] rfl)
              · replace ho13 := if_f hc ho13
                refine lv_iinc (v := (i11 + (-1))) (lv' := [(7, .int (i11 + (-1))), (8, .int i1), (6, .int i3), (0, .ref q), (2, .int p1), (3, .int p2), (5, .int p4)]) hx hb dX7_countWithin_38 hl (k := 1) rfl rfl (by decide) rfl (fun ls hl => ?_)
                refine lv_goto (tgt := 16) hx hb dX7_countWithin_41 (by decide) ?_
                obtain rfl := Option.some.inj ho13
                exact ih18 _ hx14 _ _ _ hW (lv_sub hl [1, 0, 2, 3, 4, 5, 6] rfl)
        exact L16 lpF _ hx140 _ _ _ hW (lv_sub hl [0, 1, 2, 3, 4, 5, 6] rfl)
  exact L8 lpF _ _ _ hx60 _ _ _ hW (lv_sub hl [0, 1, 2, 3, 5, 6, 8] rfl)

set_option maxHeartbeats 4000000 in
set_option maxRecDepth 100000 in
theorem kX7_cellsUpTo (l : Launch) (D : va_G) (cI cZ cJ : ClassId) (sz : Nat) (q q_numbers : Nat) (u_numbers : Nat → Int32) (p0 : Int32) (r : Int32) (hf : pX7_cellsUpTo u_numbers p0 = some r) : kMet l D cI cZ cJ yX7_cellsUpTo wsX7_cellsUpTo 2 50 [.ref q, .int p0] [(q, .inr (6, [.ref q_numbers])), (q_numbers, .inl (cI, 36, .inl u_numbers))] sz (some (.int r)) [(q, .inr (6, [.ref q_numbers])), (q_numbers, .inl (cI, 36, .inl u_numbers))] := by
  refine kM_of (cc := cX7_cellsUpTo) (maxL := 2) (ret := (some .int)) (by decide) rfl (Nat.le_of_ble_eq_true rfl) ?_
  intro p e s m args below meth c A Q ls hQ C hlocks hr hE hW hl
  have hx := C.1
  have hb := C.2.1
  have hts := C.2.2.2.2
  have hl : lv_has ls 2 [(0, .ref q), (1, .int p0)] := hl
  unfold pX7_cellsUpTo at hf
  refine lv_aload_n hx hb dX7_cellsUpTo_0 rfl (lv_at hl 0 rfl) ?_
  refine lv_iconst (v := 0) hx hb dX7_cellsUpTo_1 (by decide) ?_
  refine lv_iconst (v := 0) hx hb dX7_cellsUpTo_2 (by decide) ?_
  refine lv_iconst (v := 5) hx hb dX7_cellsUpTo_3 (by decide) ?_
  refine lv_iconst (v := 5) hx hb dX7_cellsUpTo_4 (by decide) ?_
  refine lv_iload_n hx hb dX7_cellsUpTo_5 rfl (lv_at hl 1 rfl) ?_
  obtain ⟨v1, h2, hf⟩ := bd1_s hf
  refine k_callVR (b := q) (ci := 6) (qb := 0) (As := [.int 0, .int 0, .int 5, .int 5, .int p0]) (n := 5) (rest := []) (st1 := [.int v1]) C hE hW hl.1 (kX7_countWithin l D cI cZ cJ _ q q_numbers u_numbers 0 0 5 5 p0 v1 h2) gX7_cellsUpTo_X7_countWithin rfl (by decide +kernel) rfl ⟨Nat.le_of_ble_eq_true rfl, Nat.le_of_ble_eq_true rfl⟩ ⟨Nat.zero_le _, Nat.zero_le _⟩ rfl rfl [0, 1] rfl rfl (Nat.le_of_ble_eq_true rfl) rfl rfl dX7_cellsUpTo_6 (fun H locs hW => ?_)
  obtain rfl := Option.some.inj hf
  exact k_iret C hlocks hr hW hQ dX7_cellsUpTo_9

set_option maxHeartbeats 4000000 in
set_option maxRecDepth 100000 in
theorem kX2_cellsUpTo (l : Launch) (D : va_G) (cI cZ cJ : ClassId) (sz : Nat) (q q_first q_first_numbers q_second q_second_numbers : Nat) (u_first_numbers : Nat → Int32) (u_second_numbers : Nat → Int32) (p0 : Int32) (r : Int32) (hf : pX2_cellsUpTo u_first_numbers u_second_numbers p0 = some r) : kMet l D cI cZ cJ yX2_cellsUpTo wsX2_cellsUpTo 3 71 [.ref q, .int p0] [(q, .inr (2, [.ref q_first, .ref q_second])), (q_first, .inr (6, [.ref q_first_numbers])), (q_first_numbers, .inl (cI, 36, .inl u_first_numbers)), (q_second, .inr (6, [.ref q_second_numbers])), (q_second_numbers, .inl (cI, 36, .inl u_second_numbers))] sz (some (.int r)) [(q, .inr (2, [.ref q_first, .ref q_second])), (q_first, .inr (6, [.ref q_first_numbers])), (q_first_numbers, .inl (cI, 36, .inl u_first_numbers)), (q_second, .inr (6, [.ref q_second_numbers])), (q_second_numbers, .inl (cI, 36, .inl u_second_numbers))] := by
  refine kM_of (cc := cX2_cellsUpTo) (maxL := 2) (ret := (some .int)) (by decide) rfl (Nat.le_of_ble_eq_true rfl) ?_
  intro p e s m args below meth c A Q ls hQ C hlocks hr hE hW hl
  have hx := C.1
  have hb := C.2.1
  have hts := C.2.2.2.2
  have hl : lv_has ls 2 [(0, .ref q), (1, .int p0)] := hl
  have iX2 : ∀ w ∈ u_ws RX2 TX2 2, w ∈ wsX2_cellsUpTo := by decide +kernel
  have f12 := hts (.fieldLink RX2 12 "SortedTables$Pair" "first" "LSortedTables$Table;") (by decide +kernel)
  have f18 := hts (.fieldLink RX2 18 "SortedTables$Pair" "second" "LSortedTables$Table;") (by decide +kernel)
  unfold pX2_cellsUpTo at hf
  refine lv_aload_n hx hb dX2_cellsUpTo_0 rfl (lv_at hl 0 rfl) ?_
  refine k_get C hE hW iX2 0 rfl rfl 0 (by decide) f12 (fun _ h9 => h9) rfl dX2_cellsUpTo_1 ?_
  refine lv_iload_n hx hb dX2_cellsUpTo_4 rfl (lv_at hl 1 rfl) ?_
  obtain ⟨v1, h2, hf⟩ := bd1_s hf
  refine k_callVR (b := q_first) (ci := 6) (qb := 0) (As := [.int p0]) (n := 1) (rest := []) (st1 := [.int v1]) C hE hW hl.1 (kX7_cellsUpTo l D cI cZ cJ _ q_first q_first_numbers u_first_numbers p0 v1 h2) gX2_cellsUpTo_X7_cellsUpTo rfl (by decide +kernel) rfl ⟨Nat.le_of_ble_eq_true rfl, Nat.le_of_ble_eq_true rfl⟩ ⟨Nat.zero_le _, Nat.zero_le _⟩ rfl rfl [1, 2] rfl rfl (Nat.le_of_ble_eq_true rfl) rfl rfl dX2_cellsUpTo_5 (fun H locs hW => ?_)
  refine lv_aload_n hx hb dX2_cellsUpTo_8 rfl (lv_at hl 0 rfl) ?_
  refine k_get C hE hW iX2 0 rfl rfl 1 (by decide) f18 (fun _ h9 => h9) rfl dX2_cellsUpTo_9 ?_
  refine lv_iload_n hx hb dX2_cellsUpTo_12 rfl (lv_at hl 1 rfl) ?_
  obtain ⟨v3, h4, hf⟩ := bd1_s hf
  refine k_callVR (b := q_second) (ci := 6) (qb := 0) (As := [.int p0]) (n := 1) (rest := [.int v1]) (st1 := [.int v3, .int v1]) C hE hW hl.1 (kX7_cellsUpTo l D cI cZ cJ _ q_second q_second_numbers u_second_numbers p0 v3 h4) gX2_cellsUpTo_X7_cellsUpTo rfl (by decide +kernel) rfl ⟨Nat.le_of_ble_eq_true rfl, Nat.le_of_ble_eq_true rfl⟩ ⟨Nat.zero_le _, Nat.zero_le _⟩ rfl rfl [3, 4] rfl rfl (Nat.le_of_ble_eq_true rfl) rfl rfl dX2_cellsUpTo_13 (fun H locs hW => ?_)
  refine lv_iadd hx hb dX2_cellsUpTo_16 ?_
  obtain rfl := Option.some.inj hf
  exact k_iret C hlocks hr hW hQ dX2_cellsUpTo_17

set_option maxHeartbeats 4000000 in
set_option maxRecDepth 100000 in
theorem kX2_kthNumberOfBoth (l : Launch) (D : va_G) (cI cZ cJ : ClassId) (sz : Nat) (q q_first q_first_numbers q_second q_second_numbers : Nat) (u_first_numbers : Nat → Int32) (u_second_numbers : Nat → Int32) (p0 : Int32) (r : Int32) (hf : pX2_kthNumberOfBoth u_first_numbers u_second_numbers p0 = some r) : kMet l D cI cZ cJ yX2_kthNumberOfBoth wsX2_kthNumberOfBoth 4 92 [.ref q, .int p0] [(q, .inr (2, [.ref q_first, .ref q_second])), (q_first, .inr (6, [.ref q_first_numbers])), (q_first_numbers, .inl (cI, 36, .inl u_first_numbers)), (q_second, .inr (6, [.ref q_second_numbers])), (q_second_numbers, .inl (cI, 36, .inl u_second_numbers))] sz (some (.int r)) [(q, .inr (2, [.ref q_first, .ref q_second])), (q_first, .inr (6, [.ref q_first_numbers])), (q_first_numbers, .inl (cI, 36, .inl u_first_numbers)), (q_second, .inr (6, [.ref q_second_numbers])), (q_second_numbers, .inl (cI, 36, .inl u_second_numbers))] := by
  refine kM_of (cc := cX2_kthNumberOfBoth) (maxL := 4) (ret := (some .int)) (by decide) rfl (Nat.le_of_ble_eq_true rfl) ?_
  intro p e s m args below meth c A Q ls hQ C hlocks hr hE hW hl
  have hx := C.1
  have hb := C.2.1
  have hts := C.2.2.2.2
  have hl : lv_has ls 4 [(0, .ref q), (1, .int p0)] := hl
  unfold pX2_kthNumberOfBoth at hf
  refine lv_aload_n hx hb dX2_kthNumberOfBoth_0 rfl (lv_at hl 0 rfl) ?_
  refine lv_bipush (v := 99) hx hb dX2_kthNumberOfBoth_1 (by decide) ?_
  obtain ⟨v1, h2, hf⟩ := bd1_s hf
  refine k_callVR (b := q) (ci := 2) (qb := 0) (As := [.int 99]) (n := 1) (rest := []) (st1 := [.int v1]) C hE hW hl.1 (kX2_cellsUpTo l D cI cZ cJ _ q q_first q_first_numbers q_second q_second_numbers u_first_numbers u_second_numbers 99 v1 h2) gX2_kthNumberOfBoth_X2_cellsUpTo rfl (by decide +kernel) rfl ⟨Nat.le_of_ble_eq_true rfl, Nat.le_of_ble_eq_true rfl⟩ ⟨Nat.zero_le _, Nat.zero_le _⟩ rfl rfl [0, 1, 2, 3, 4] rfl rfl (Nat.le_of_ble_eq_true rfl) rfl rfl dX2_kthNumberOfBoth_3 (fun H locs hW => ?_)
  refine lv_iload_n hx hb dX2_kthNumberOfBoth_6 rfl (lv_at hl 1 rfl) ?_
  refine lv_icmp_gt (tgt := 13) hx hb dX2_kthNumberOfBoth_7 (by decide) (fun hc => ?_) (fun hc => ?_)
  · replace hf := if_t hc hf
    refine lv_iconst (v := 0) hx hb dX2_kthNumberOfBoth_13 (by decide) ?_
    refine lv_istore_n (lv' := [(2, .int 0), (0, .ref q), (1, .int p0)]) hx hb dX2_kthNumberOfBoth_14 rfl hl (by decide) rfl (fun ls hl => ?_)
    refine lv_bipush (v := 64) hx hb dX2_kthNumberOfBoth_15 (by decide) ?_
    refine lv_istore_n (lv' := [(3, .int 64), (2, .int 0), (0, .ref q), (1, .int p0)]) hx hb dX2_kthNumberOfBoth_17 rfl hl (by decide) rfl (fun ls hl => ?_)
    obtain ⟨x5, hx70, hf⟩ := bd1_s hf
    have J8 : ∀ (H : Heap) (locs : List Loc) (ls : Array Slot), kH D A s H locs [(q, .inr (2, [.ref q_first, .ref q_second])), (q_first, .inr (6, [.ref q_first_numbers])), (q_first_numbers, .inl (cI, 36, .inl u_first_numbers)), (q_second, .inr (6, [.ref q_second_numbers])), (q_second_numbers, .inl (cI, 36, .inl u_second_numbers))] → lv_has ls 4 [(2, .int x5)] → W p l e (kRm 4 92 0 0) s m args below meth c H locs 0 0 Q (F0 m 46 ls []) := by
      intro H locs ls hW hl
      refine lv_iload_n hx hb dX2_kthNumberOfBoth_46 rfl (lv_at hl 0 rfl) ?_
      obtain rfl := Option.some.inj hf
      exact k_iret C hlocks hr hW hQ dX2_kthNumberOfBoth_47
    have L9 : ∀ (n : Nat) (i3 : Int32) (i4 : Int32), lpI n (un2 (pX2_kthNumberOfBoth_L18 u_first_numbers u_second_numbers p0)) (i3, i4) = some x5 → ∀ (H : Heap) (locs : List Loc) (ls : Array Slot), kH D A s H locs [(q, .inr (2, [.ref q_first, .ref q_second])), (q_first, .inr (6, [.ref q_first_numbers])), (q_first_numbers, .inl (cI, 36, .inl u_first_numbers)), (q_second, .inr (6, [.ref q_second_numbers])), (q_second_numbers, .inl (cI, 36, .inl u_second_numbers))] → lv_has ls 4 [(3, .int i3), (2, .int i4), (0, .ref q), (1, .int p0)] → W p l e (kRm 4 92 0 0) s m args below meth c H locs 0 0 Q (F0 m 18 ls []) := by
      intro n
      induction n with
      | zero => intro i3 i4 hx7; exact (lpI_0 hx7).elim
      | succ n ih11 =>
        intro i3 i4 hx7 H locs ls hW hl
        obtain ⟨ooho6, ho6, hx7⟩ := lpI_s hx7
        replace ho6 := un2_s ho6
        unfold pX2_kthNumberOfBoth_L18 at ho6
        refine lv_iload_n hx hb dX2_kthNumberOfBoth_18 rfl (lv_at hl 0 rfl) ?_
        refine lv_if_le (tgt := 46) hx hb dX2_kthNumberOfBoth_19 (by decide) (fun hc => ?_) (fun hc => ?_)
        · replace ho6 := if_t hc ho6
          obtain rfl := Option.some.inj ho6
          obtain rfl := lpK_r hx7
          exact J8 _ _ _ hW (lv_sub hl [1] rfl)
        · replace ho6 := if_f hc ho6
          refine lv_aload_n hx hb dX2_kthNumberOfBoth_22 rfl (lv_at hl 2 rfl) ?_
          refine lv_iload_n hx hb dX2_kthNumberOfBoth_23 rfl (lv_at hl 1 rfl) ?_
          refine lv_iload_n hx hb dX2_kthNumberOfBoth_24 rfl (lv_at hl 0 rfl) ?_
          refine lv_iadd hx hb dX2_kthNumberOfBoth_25 ?_
          refine lv_iconst (v := 1) hx hb dX2_kthNumberOfBoth_26 (by decide) ?_
          refine lv_isub hx hb dX2_kthNumberOfBoth_27 ?_
          obtain ⟨v12, h13, ho6⟩ := bd1_s ho6
          refine k_callVR (b := q) (ci := 2) (qb := 0) (As := [.int ((i4 + i3) - 1)]) (n := 1) (rest := []) (st1 := [.int v12]) C hE hW hl.1 (kX2_cellsUpTo l D cI cZ cJ _ q q_first q_first_numbers q_second q_second_numbers u_first_numbers u_second_numbers ((i4 + i3) - 1) v12 h13) gX2_kthNumberOfBoth_X2_cellsUpTo rfl (by decide +kernel) rfl ⟨Nat.le_of_ble_eq_true rfl, Nat.le_of_ble_eq_true rfl⟩ ⟨Nat.zero_le _, Nat.zero_le _⟩ rfl rfl [0, 1, 2, 3, 4] rfl rfl (Nat.le_of_ble_eq_true rfl) rfl rfl dX2_kthNumberOfBoth_28 (fun H locs hW => ?_)
          refine lv_iload_n hx hb dX2_kthNumberOfBoth_31 rfl (lv_at hl 3 rfl) ?_
          refine lv_icmp_gt (tgt := 39) hx hb dX2_kthNumberOfBoth_32 (by decide) (fun hc => ?_) (fun hc => ?_)
          · replace ho6 := if_t hc ho6
            refine lv_iload_n hx hb dX2_kthNumberOfBoth_39 rfl (lv_at hl 0 rfl) ?_
            refine lv_iconst (v := 2) hx hb dX2_kthNumberOfBoth_40 (by decide) ?_
            refine lv_idiv hx hb dX2_kthNumberOfBoth_41 (by decide) ?_
            refine lv_istore_n (lv' := [(3, .int (i3 / 2)), (2, .int i4), (0, .ref q), (1, .int p0)]) hx hb dX2_kthNumberOfBoth_42 rfl hl (by decide) rfl (fun ls hl => ?_)
            refine lv_goto (tgt := 18) hx hb dX2_kthNumberOfBoth_43 (by decide) ?_
            obtain rfl := Option.some.inj ho6
            exact ih11 _ _ hx7 _ _ _ hW (lv_sub hl [0, 1, 2, 3] rfl)
          · replace ho6 := if_f hc ho6
            refine lv_iload_n hx hb dX2_kthNumberOfBoth_35 rfl (lv_at hl 1 rfl) ?_
            refine lv_iload_n hx hb dX2_kthNumberOfBoth_36 rfl (lv_at hl 0 rfl) ?_
            refine lv_iadd hx hb dX2_kthNumberOfBoth_37 ?_
            refine lv_istore_n (lv' := [(2, .int (i4 + i3)), (3, .int i3), (0, .ref q), (1, .int p0)]) hx hb dX2_kthNumberOfBoth_38 rfl hl (by decide) rfl (fun ls hl => ?_)
            refine lv_iload_n hx hb dX2_kthNumberOfBoth_39 rfl (lv_at hl 1 rfl) ?_
            refine lv_iconst (v := 2) hx hb dX2_kthNumberOfBoth_40 (by decide) ?_
            refine lv_idiv hx hb dX2_kthNumberOfBoth_41 (by decide) ?_
            refine lv_istore_n (lv' := [(3, .int (i3 / 2)), (2, .int (i4 + i3)), (0, .ref q), (1, .int p0)]) hx hb dX2_kthNumberOfBoth_42 rfl hl (by decide) rfl (fun ls hl => ?_)
            refine lv_goto (tgt := 18) hx hb dX2_kthNumberOfBoth_43 (by decide) ?_
            obtain rfl := Option.some.inj ho6
            exact ih11 _ _ hx7 _ _ _ hW (lv_sub hl [0, 1, 2, 3] rfl)
    exact L9 lpF _ _ hx70 _ _ _ hW (lv_sub hl [0, 1, 2, 3] rfl)
  · replace hf := if_f hc hf
    refine lv_bipush (v := (-9)) hx hb dX2_kthNumberOfBoth_10 (by decide) ?_
    obtain rfl := Option.some.inj hf
    exact k_iret C hlocks hr hW hQ dX2_kthNumberOfBoth_12

set_option maxHeartbeats 4000000 in
set_option maxRecDepth 100000 in
theorem kX2_tableOfKth (l : Launch) (D : va_G) (cI cZ cJ : ClassId) (sz : Nat) (q q_first q_first_numbers q_second q_second_numbers : Nat) (u_first_numbers : Nat → Int32) (u_second_numbers : Nat → Int32) (p0 : Int32) (p1 : Int32) (r : Int32) (hf : pX2_tableOfKth u_first_numbers u_second_numbers p0 p1 = some r) : kMet l D cI cZ cJ yX2_tableOfKth wsX2_tableOfKth 3 71 [.ref q, .int p0, .int p1] [(q, .inr (2, [.ref q_first, .ref q_second])), (q_first, .inr (6, [.ref q_first_numbers])), (q_first_numbers, .inl (cI, 36, .inl u_first_numbers)), (q_second, .inr (6, [.ref q_second_numbers])), (q_second_numbers, .inl (cI, 36, .inl u_second_numbers))] sz (some (.int r)) [(q, .inr (2, [.ref q_first, .ref q_second])), (q_first, .inr (6, [.ref q_first_numbers])), (q_first_numbers, .inl (cI, 36, .inl u_first_numbers)), (q_second, .inr (6, [.ref q_second_numbers])), (q_second_numbers, .inl (cI, 36, .inl u_second_numbers))] := by
  refine kM_of (cc := cX2_tableOfKth) (maxL := 4) (ret := (some .int)) (by decide) rfl (Nat.le_of_ble_eq_true rfl) ?_
  intro p e s m args below meth c A Q ls hQ C hlocks hr hE hW hl
  have hx := C.1
  have hb := C.2.1
  have hts := C.2.2.2.2
  have hl : lv_has ls 4 [(0, .ref q), (1, .int p0), (2, .int p1)] := hl
  have iX2 : ∀ w ∈ u_ws RX2 TX2 2, w ∈ wsX2_tableOfKth := by decide +kernel
  have f12 := hts (.fieldLink RX2 12 "SortedTables$Pair" "first" "LSortedTables$Table;") (by decide +kernel)
  have f18 := hts (.fieldLink RX2 18 "SortedTables$Pair" "second" "LSortedTables$Table;") (by decide +kernel)
  unfold pX2_tableOfKth at hf
  refine lv_aload_n hx hb dX2_tableOfKth_0 rfl (lv_at hl 0 rfl) ?_
  refine k_get C hE hW iX2 0 rfl rfl 0 (by decide) f12 (fun _ h9 => h9) rfl dX2_tableOfKth_1 ?_
  refine lv_iload_n hx hb dX2_tableOfKth_4 rfl (lv_at hl 2 rfl) ?_
  obtain ⟨v1, h2, hf⟩ := bd1_s hf
  refine k_callVR (b := q_first) (ci := 6) (qb := 0) (As := [.int p1]) (n := 1) (rest := []) (st1 := [.int v1]) C hE hW hl.1 (kX7_cellsUpTo l D cI cZ cJ _ q_first q_first_numbers u_first_numbers p1 v1 h2) gX2_tableOfKth_X7_cellsUpTo rfl (by decide +kernel) rfl ⟨Nat.le_of_ble_eq_true rfl, Nat.le_of_ble_eq_true rfl⟩ ⟨Nat.zero_le _, Nat.zero_le _⟩ rfl rfl [1, 2] rfl rfl (Nat.le_of_ble_eq_true rfl) rfl rfl dX2_tableOfKth_5 (fun H locs hW => ?_)
  refine lv_aload_n hx hb dX2_tableOfKth_8 rfl (lv_at hl 0 rfl) ?_
  refine k_get C hE hW iX2 0 rfl rfl 1 (by decide) f18 (fun _ h9 => h9) rfl dX2_tableOfKth_9 ?_
  refine lv_iload_n hx hb dX2_tableOfKth_12 rfl (lv_at hl 2 rfl) ?_
  refine lv_iconst (v := 1) hx hb dX2_tableOfKth_13 (by decide) ?_
  refine lv_isub hx hb dX2_tableOfKth_14 ?_
  obtain ⟨v3, h4, hf⟩ := bd1_s hf
  refine k_callVR (b := q_second) (ci := 6) (qb := 0) (As := [.int (p1 - 1)]) (n := 1) (rest := [.int v1]) (st1 := [.int v3, .int v1]) C hE hW hl.1 (kX7_cellsUpTo l D cI cZ cJ _ q_second q_second_numbers u_second_numbers (p1 - 1) v3 h4) gX2_tableOfKth_X7_cellsUpTo rfl (by decide +kernel) rfl ⟨Nat.le_of_ble_eq_true rfl, Nat.le_of_ble_eq_true rfl⟩ ⟨Nat.zero_le _, Nat.zero_le _⟩ rfl rfl [3, 4] rfl rfl (Nat.le_of_ble_eq_true rfl) rfl rfl dX2_tableOfKth_15 (fun H locs hW => ?_)
  refine lv_iadd hx hb dX2_tableOfKth_18 ?_
  refine lv_istore_n (lv' := [(3, .int (v1 + v3)), (0, .ref q), (1, .int p0), (2, .int p1)]) hx hb dX2_tableOfKth_19 rfl hl (by decide) rfl (fun ls hl => ?_)
  refine lv_iload_n hx hb dX2_tableOfKth_20 rfl (lv_at hl 2 rfl) ?_
  refine lv_iload_n hx hb dX2_tableOfKth_21 rfl (lv_at hl 0 rfl) ?_
  refine lv_icmp_ge (tgt := 29) hx hb dX2_tableOfKth_22 (by decide) (fun hc => ?_) (fun hc => ?_)
  · replace hf := if_t hc hf
    refine lv_iconst (v := 1) hx hb dX2_tableOfKth_29 (by decide) ?_
    obtain rfl := Option.some.inj hf
    exact k_iret C hlocks hr hW hQ dX2_tableOfKth_30
  · replace hf := if_f hc hf
    refine lv_iconst (v := 0) hx hb dX2_tableOfKth_25 (by decide) ?_
    refine lv_goto (tgt := 30) hx hb dX2_tableOfKth_26 (by decide) ?_
    obtain rfl := Option.some.inj hf
    exact k_iret C hlocks hr hW hQ dX2_tableOfKth_30

set_option maxHeartbeats 4000000 in
set_option maxRecDepth 100000 in
theorem kX2_pairsUpTo (l : Launch) (D : va_G) (cI cZ cJ : ClassId) (sz : Nat) (q q_first q_first_numbers q_second q_second_numbers : Nat) (u_first_numbers : Nat → Int32) (u_second_numbers : Nat → Int32) (p0 : Int32) (r : Int32) (hf : pX2_pairsUpTo u_first_numbers u_second_numbers p0 = some r) : kMet l D cI cZ cJ yX2_pairsUpTo wsX2_pairsUpTo 3 71 [.ref q, .int p0] [(q, .inr (2, [.ref q_first, .ref q_second])), (q_first, .inr (6, [.ref q_first_numbers])), (q_first_numbers, .inl (cI, 36, .inl u_first_numbers)), (q_second, .inr (6, [.ref q_second_numbers])), (q_second_numbers, .inl (cI, 36, .inl u_second_numbers))] sz (some (.int r)) [(q, .inr (2, [.ref q_first, .ref q_second])), (q_first, .inr (6, [.ref q_first_numbers])), (q_first_numbers, .inl (cI, 36, .inl u_first_numbers)), (q_second, .inr (6, [.ref q_second_numbers])), (q_second_numbers, .inl (cI, 36, .inl u_second_numbers))] := by
  refine kM_of (cc := cX2_pairsUpTo) (maxL := 5) (ret := (some .int)) (by decide) rfl (Nat.le_of_ble_eq_true rfl) ?_
  intro p e s m args below meth c A Q ls hQ C hlocks hr hE hW hl
  have hx := C.1
  have hb := C.2.1
  have hts := C.2.2.2.2
  have hl : lv_has ls 5 [(0, .ref q), (1, .int p0)] := hl
  have iX2 : ∀ w ∈ u_ws RX2 TX2 2, w ∈ wsX2_pairsUpTo := by decide +kernel
  have f12 := hts (.fieldLink RX2 12 "SortedTables$Pair" "first" "LSortedTables$Table;") (by decide +kernel)
  have f18 := hts (.fieldLink RX2 18 "SortedTables$Pair" "second" "LSortedTables$Table;") (by decide +kernel)
  unfold pX2_pairsUpTo at hf
  refine lv_iconst (v := 0) hx hb dX2_pairsUpTo_0 (by decide) ?_
  refine lv_istore_n (lv' := [(2, .int 0), (0, .ref q), (1, .int p0)]) hx hb dX2_pairsUpTo_1 rfl hl (by decide) rfl (fun ls hl => ?_)
  refine lv_iconst (v := 0) hx hb dX2_pairsUpTo_2 (by decide) ?_
  refine lv_istore_n (lv' := [(3, .int 0), (2, .int 0), (0, .ref q), (1, .int p0)]) hx hb dX2_pairsUpTo_3 rfl hl (by decide) rfl (fun ls hl => ?_)
  obtain ⟨x3, hx50, hf⟩ := bd1_s hf
  have J6 : ∀ (H : Heap) (locs : List Loc) (ls : Array Slot), kH D A s H locs [(q, .inr (2, [.ref q_first, .ref q_second])), (q_first, .inr (6, [.ref q_first_numbers])), (q_first_numbers, .inl (cI, 36, .inl u_first_numbers)), (q_second, .inr (6, [.ref q_second_numbers])), (q_second_numbers, .inl (cI, 36, .inl u_second_numbers))] → lv_has ls 5 [(2, .int x3)] → W p l e (kRm 3 71 0 0) s m args below meth c H locs 0 0 Q (F0 m 67 ls []) := by
    intro H locs ls hW hl
    refine lv_iload_n hx hb dX2_pairsUpTo_67 rfl (lv_at hl 0 rfl) ?_
    obtain rfl := Option.some.inj hf
    exact k_iret C hlocks hr hW hQ dX2_pairsUpTo_68
  have L7 : ∀ (n : Nat) (i1 : Int32) (i2 : Int32), lpI n (un2 (pX2_pairsUpTo_L4 u_first_numbers u_second_numbers p0)) (i1, i2) = some x3 → ∀ (H : Heap) (locs : List Loc) (ls : Array Slot), kH D A s H locs [(q, .inr (2, [.ref q_first, .ref q_second])), (q_first, .inr (6, [.ref q_first_numbers])), (q_first_numbers, .inl (cI, 36, .inl u_first_numbers)), (q_second, .inr (6, [.ref q_second_numbers])), (q_second_numbers, .inl (cI, 36, .inl u_second_numbers))] → lv_has ls 5 [(3, .int i1), (2, .int i2), (0, .ref q), (1, .int p0)] → W p l e (kRm 3 71 0 0) s m args below meth c H locs 0 0 Q (F0 m 4 ls []) := by
    intro n
    induction n with
    | zero => intro i1 i2 hx5; exact (lpI_0 hx5).elim
    | succ n ih9 =>
      intro i1 i2 hx5 H locs ls hW hl
      obtain ⟨ooho4, ho4, hx5⟩ := lpI_s hx5
      replace ho4 := un2_s ho4
      unfold pX2_pairsUpTo_L4 at ho4
      refine lv_iload_n hx hb dX2_pairsUpTo_4 rfl (lv_at hl 0 rfl) ?_
      refine lv_bipush (v := 6) hx hb dX2_pairsUpTo_5 (by decide) ?_
      refine lv_icmp_ge (tgt := 67) hx hb dX2_pairsUpTo_7 (by decide) (fun hc => ?_) (fun hc => ?_)
      · replace ho4 := if_t hc ho4
        obtain rfl := Option.some.inj ho4
        obtain rfl := lpK_r hx5
        exact J6 _ _ _ hW (lv_sub hl [1] rfl)
      · replace ho4 := if_f hc ho4
        refine lv_iconst (v := 0) hx hb dX2_pairsUpTo_10 (by decide) ?_
        refine lv_istore (lv' := [(4, .int 0), (3, .int i1), (2, .int i2), (0, .ref q), (1, .int p0)]) hx hb dX2_pairsUpTo_11 hl (by decide) rfl (fun ls hl => ?_)
        obtain ⟨x12, hx140, ho4⟩ := bd1_s ho4
        have J15 : ∀ (H : Heap) (locs : List Loc) (ls : Array Slot), kH D A s H locs [(q, .inr (2, [.ref q_first, .ref q_second])), (q_first, .inr (6, [.ref q_first_numbers])), (q_first_numbers, .inl (cI, 36, .inl u_first_numbers)), (q_second, .inr (6, [.ref q_second_numbers])), (q_second_numbers, .inl (cI, 36, .inl u_second_numbers))] → lv_has ls 5 [(3, .int i1), (2, .int x12), (0, .ref q), (1, .int p0)] → W p l e (kRm 3 71 0 0) s m args below meth c H locs 0 0 Q (F0 m 61 ls []) := by
          intro H locs ls hW hl
          refine lv_iinc (v := (i1 + 1)) (lv' := [(3, .int (i1 + 1)), (2, .int x12), (0, .ref q), (1, .int p0)]) hx hb dX2_pairsUpTo_61 hl (k := 0) rfl rfl (by decide) rfl (fun ls hl => ?_)
          refine lv_goto (tgt := 4) hx hb dX2_pairsUpTo_64 (by decide) ?_
          obtain rfl := Option.some.inj ho4
          exact ih9 _ _ hx5 _ _ _ hW (lv_sub hl [0, 1, 2, 3] rfl)
        have L16 : ∀ (n : Nat) (i10 : Int32) (i11 : Int32), lpI n (un2 (pX2_pairsUpTo_L13 u_first_numbers u_second_numbers p0 i1)) (i10, i11) = some x12 → ∀ (H : Heap) (locs : List Loc) (ls : Array Slot), kH D A s H locs [(q, .inr (2, [.ref q_first, .ref q_second])), (q_first, .inr (6, [.ref q_first_numbers])), (q_first_numbers, .inl (cI, 36, .inl u_first_numbers)), (q_second, .inr (6, [.ref q_second_numbers])), (q_second_numbers, .inl (cI, 36, .inl u_second_numbers))] → lv_has ls 5 [(4, .int i10), (3, .int i1), (2, .int i11), (0, .ref q), (1, .int p0)] → W p l e (kRm 3 71 0 0) s m args below meth c H locs 0 0 Q (F0 m 13 ls []) := by
          intro n
          induction n with
          | zero => intro i10 i11 hx14; exact (lpI_0 hx14).elim
          | succ n ih18 =>
            intro i10 i11 hx14 H locs ls hW hl
            obtain ⟨ooho13, ho13, hx14⟩ := lpI_s hx14
            replace ho13 := un2_s ho13
            unfold pX2_pairsUpTo_L13 at ho13
            refine lv_iload hx hb dX2_pairsUpTo_13 (lv_at hl 0 rfl) ?_
            refine lv_bipush (v := 6) hx hb dX2_pairsUpTo_15 (by decide) ?_
            refine lv_icmp_ge (tgt := 61) hx hb dX2_pairsUpTo_17 (by decide) (fun hc => ?_) (fun hc => ?_)
            · replace ho13 := if_t hc ho13
              obtain rfl := Option.some.inj ho13
              obtain rfl := lpK_r hx14
              exact J15 _ _ _ hW (lv_sub hl [1, 2, 3, 4] rfl)
            · replace ho13 := if_f hc ho13
              refine lv_aload_n hx hb dX2_pairsUpTo_20 rfl (lv_at hl 3 rfl) ?_
              refine k_get C hE hW iX2 0 rfl rfl 0 (by decide) f12 (fun _ h9 => h9) rfl dX2_pairsUpTo_21 ?_
              refine lv_iload_n hx hb dX2_pairsUpTo_24 rfl (lv_at hl 1 rfl) ?_
              refine lv_iload hx hb dX2_pairsUpTo_25 (lv_at hl 0 rfl) ?_
              obtain ⟨v19, h20, ho13⟩ := bd1_s ho13
              refine k_callVR (b := q_first) (ci := 6) (qb := 0) (As := [.int i1, .int i10]) (n := 2) (rest := []) (st1 := [.int v19]) C hE hW hl.1 (kX7_has l D cI cZ cJ _ q_first q_first_numbers u_first_numbers i1 i10 v19 h20) gX2_pairsUpTo_X7_has rfl (by decide +kernel) rfl ⟨Nat.le_of_ble_eq_true rfl, Nat.le_of_ble_eq_true rfl⟩ ⟨Nat.zero_le _, Nat.zero_le _⟩ rfl rfl [1, 2] rfl rfl (Nat.le_of_ble_eq_true rfl) rfl rfl dX2_pairsUpTo_27 (fun H locs hW => ?_)
              refine lv_if_eq (tgt := 55) hx hb dX2_pairsUpTo_30 (by decide) (fun hc => ?_) (fun hc => ?_)
              · replace ho13 := if_t hc ho13
                refine lv_iinc (v := (i10 + 1)) (lv' := [(4, .int (i10 + 1)), (3, .int i1), (2, .int i11), (0, .ref q), (1, .int p0)]) hx hb dX2_pairsUpTo_55 hl (k := 0) rfl rfl (by decide) rfl (fun ls hl => ?_)
                refine lv_goto (tgt := 13) hx hb dX2_pairsUpTo_58 (by decide) ?_
                obtain rfl := Option.some.inj ho13
                exact ih18 _ _ hx14 _ _ _ hW (lv_sub hl [0, 1, 2, 3, 4] rfl)
              · replace ho13 := if_f hc ho13
                refine lv_iload_n hx hb dX2_pairsUpTo_33 rfl (lv_at hl 2 rfl) ?_
                refine lv_aload_n hx hb dX2_pairsUpTo_34 rfl (lv_at hl 3 rfl) ?_
                refine k_get C hE hW iX2 0 rfl rfl 1 (by decide) f18 (fun _ h9 => h9) rfl dX2_pairsUpTo_35 ?_
                refine lv_iload_n hx hb dX2_pairsUpTo_38 rfl (lv_at hl 4 rfl) ?_
                refine lv_aload_n hx hb dX2_pairsUpTo_39 rfl (lv_at hl 3 rfl) ?_
                refine k_get C hE hW iX2 0 rfl rfl 0 (by decide) f12 (fun _ h9 => h9) rfl dX2_pairsUpTo_40 ?_
                refine lv_iload_n hx hb dX2_pairsUpTo_43 rfl (lv_at hl 1 rfl) ?_
                refine lv_iload hx hb dX2_pairsUpTo_44 (lv_at hl 0 rfl) ?_
                obtain ⟨v21, h22, ho13⟩ := bd1_s ho13
                refine k_callVR (b := q_first) (ci := 6) (qb := 0) (As := [.int i1, .int i10]) (n := 2) (rest := [.int p0, .ref q_second, .int i11]) (st1 := [.int v21, .int p0, .ref q_second, .int i11]) C hE hW hl.1 (kX7_at l D cI cZ cJ _ q_first q_first_numbers u_first_numbers i1 i10 v21 h22) gX2_pairsUpTo_X7_at rfl (by decide +kernel) rfl ⟨Nat.le_of_ble_eq_true rfl, Nat.le_of_ble_eq_true rfl⟩ ⟨Nat.zero_le _, Nat.zero_le _⟩ rfl rfl [1, 2] rfl rfl (Nat.le_of_ble_eq_true rfl) rfl rfl dX2_pairsUpTo_46 (fun H locs hW => ?_)
                refine lv_isub hx hb dX2_pairsUpTo_49 ?_
                obtain ⟨v23, h24, ho13⟩ := bd1_s ho13
                refine k_callVR (b := q_second) (ci := 6) (qb := 0) (As := [.int (p0 - v21)]) (n := 1) (rest := [.int i11]) (st1 := [.int v23, .int i11]) C hE hW hl.1 (kX7_cellsUpTo l D cI cZ cJ _ q_second q_second_numbers u_second_numbers (p0 - v21) v23 h24) gX2_pairsUpTo_X7_cellsUpTo rfl (by decide +kernel) rfl ⟨Nat.le_of_ble_eq_true rfl, Nat.le_of_ble_eq_true rfl⟩ ⟨Nat.zero_le _, Nat.zero_le _⟩ rfl rfl [3, 4] rfl rfl (Nat.le_of_ble_eq_true rfl) rfl rfl dX2_pairsUpTo_50 (fun H locs hW => ?_)
                refine lv_iadd hx hb dX2_pairsUpTo_53 ?_
                refine lv_istore_n (lv' := [(2, .int (i11 + v23)), (4, .int i10), (3, .int i1), (0, .ref q), (1, .int p0)]) hx hb dX2_pairsUpTo_54 rfl hl (by decide) rfl (fun ls hl => ?_)
                refine lv_iinc (v := (i10 + 1)) (lv' := [(4, .int (i10 + 1)), (2, .int (i11 + v23)), (3, .int i1), (0, .ref q), (1, .int p0)]) hx hb dX2_pairsUpTo_55 hl (k := 1) rfl rfl (by decide) rfl (fun ls hl => ?_)
                refine lv_goto (tgt := 13) hx hb dX2_pairsUpTo_58 (by decide) ?_
                obtain rfl := Option.some.inj ho13
                exact ih18 _ _ hx14 _ _ _ hW (lv_sub hl [0, 2, 1, 3, 4] rfl)
        exact L16 lpF _ _ hx140 _ _ _ hW (lv_sub hl [0, 1, 2, 3, 4] rfl)
  exact L7 lpF _ _ hx50 _ _ _ hW (lv_sub hl [0, 1, 2, 3] rfl)

set_option maxHeartbeats 4000000 in
set_option maxRecDepth 100000 in
theorem kX2_kthSumOfPair (l : Launch) (D : va_G) (cI cZ cJ : ClassId) (sz : Nat) (q q_first q_first_numbers q_second q_second_numbers : Nat) (u_first_numbers : Nat → Int32) (u_second_numbers : Nat → Int32) (p0 : Int32) (r : Int32) (hf : pX2_kthSumOfPair u_first_numbers u_second_numbers p0 = some r) : kMet l D cI cZ cJ yX2_kthSumOfPair wsX2_kthSumOfPair 4 95 [.ref q, .int p0] [(q, .inr (2, [.ref q_first, .ref q_second])), (q_first, .inr (6, [.ref q_first_numbers])), (q_first_numbers, .inl (cI, 36, .inl u_first_numbers)), (q_second, .inr (6, [.ref q_second_numbers])), (q_second_numbers, .inl (cI, 36, .inl u_second_numbers))] sz (some (.int r)) [(q, .inr (2, [.ref q_first, .ref q_second])), (q_first, .inr (6, [.ref q_first_numbers])), (q_first_numbers, .inl (cI, 36, .inl u_first_numbers)), (q_second, .inr (6, [.ref q_second_numbers])), (q_second_numbers, .inl (cI, 36, .inl u_second_numbers))] := by
  refine kM_of (cc := cX2_kthSumOfPair) (maxL := 4) (ret := (some .int)) (by decide) rfl (Nat.le_of_ble_eq_true rfl) ?_
  intro p e s m args below meth c A Q ls hQ C hlocks hr hE hW hl
  have hx := C.1
  have hb := C.2.1
  have hts := C.2.2.2.2
  have hl : lv_has ls 4 [(0, .ref q), (1, .int p0)] := hl
  unfold pX2_kthSumOfPair at hf
  refine lv_aload_n hx hb dX2_kthSumOfPair_0 rfl (lv_at hl 0 rfl) ?_
  refine lv_sipush (v := 198) hx hb dX2_kthSumOfPair_1 (by decide) ?_
  obtain ⟨v1, h2, hf⟩ := bd1_s hf
  refine k_callVR (b := q) (ci := 2) (qb := 0) (As := [.int 198]) (n := 1) (rest := []) (st1 := [.int v1]) C hE hW hl.1 (kX2_pairsUpTo l D cI cZ cJ _ q q_first q_first_numbers q_second q_second_numbers u_first_numbers u_second_numbers 198 v1 h2) gX2_kthSumOfPair_X2_pairsUpTo rfl (by decide +kernel) rfl ⟨Nat.le_of_ble_eq_true rfl, Nat.le_of_ble_eq_true rfl⟩ ⟨Nat.zero_le _, Nat.zero_le _⟩ rfl rfl [0, 1, 2, 3, 4] rfl rfl (Nat.le_of_ble_eq_true rfl) rfl rfl dX2_kthSumOfPair_4 (fun H locs hW => ?_)
  refine lv_iload_n hx hb dX2_kthSumOfPair_7 rfl (lv_at hl 1 rfl) ?_
  refine lv_icmp_gt (tgt := 14) hx hb dX2_kthSumOfPair_8 (by decide) (fun hc => ?_) (fun hc => ?_)
  · replace hf := if_t hc hf
    refine lv_iconst (v := 0) hx hb dX2_kthSumOfPair_14 (by decide) ?_
    refine lv_istore_n (lv' := [(2, .int 0), (0, .ref q), (1, .int p0)]) hx hb dX2_kthSumOfPair_15 rfl hl (by decide) rfl (fun ls hl => ?_)
    refine lv_sipush (v := 128) hx hb dX2_kthSumOfPair_16 (by decide) ?_
    refine lv_istore_n (lv' := [(3, .int 128), (2, .int 0), (0, .ref q), (1, .int p0)]) hx hb dX2_kthSumOfPair_19 rfl hl (by decide) rfl (fun ls hl => ?_)
    obtain ⟨x5, hx70, hf⟩ := bd1_s hf
    have J8 : ∀ (H : Heap) (locs : List Loc) (ls : Array Slot), kH D A s H locs [(q, .inr (2, [.ref q_first, .ref q_second])), (q_first, .inr (6, [.ref q_first_numbers])), (q_first_numbers, .inl (cI, 36, .inl u_first_numbers)), (q_second, .inr (6, [.ref q_second_numbers])), (q_second_numbers, .inl (cI, 36, .inl u_second_numbers))] → lv_has ls 4 [(2, .int x5)] → W p l e (kRm 4 95 0 0) s m args below meth c H locs 0 0 Q (F0 m 48 ls []) := by
      intro H locs ls hW hl
      refine lv_iload_n hx hb dX2_kthSumOfPair_48 rfl (lv_at hl 0 rfl) ?_
      obtain rfl := Option.some.inj hf
      exact k_iret C hlocks hr hW hQ dX2_kthSumOfPair_49
    have L9 : ∀ (n : Nat) (i3 : Int32) (i4 : Int32), lpI n (un2 (pX2_kthSumOfPair_L20 u_first_numbers u_second_numbers p0)) (i3, i4) = some x5 → ∀ (H : Heap) (locs : List Loc) (ls : Array Slot), kH D A s H locs [(q, .inr (2, [.ref q_first, .ref q_second])), (q_first, .inr (6, [.ref q_first_numbers])), (q_first_numbers, .inl (cI, 36, .inl u_first_numbers)), (q_second, .inr (6, [.ref q_second_numbers])), (q_second_numbers, .inl (cI, 36, .inl u_second_numbers))] → lv_has ls 4 [(3, .int i3), (2, .int i4), (0, .ref q), (1, .int p0)] → W p l e (kRm 4 95 0 0) s m args below meth c H locs 0 0 Q (F0 m 20 ls []) := by
      intro n
      induction n with
      | zero => intro i3 i4 hx7; exact (lpI_0 hx7).elim
      | succ n ih11 =>
        intro i3 i4 hx7 H locs ls hW hl
        obtain ⟨ooho6, ho6, hx7⟩ := lpI_s hx7
        replace ho6 := un2_s ho6
        unfold pX2_kthSumOfPair_L20 at ho6
        refine lv_iload_n hx hb dX2_kthSumOfPair_20 rfl (lv_at hl 0 rfl) ?_
        refine lv_if_le (tgt := 48) hx hb dX2_kthSumOfPair_21 (by decide) (fun hc => ?_) (fun hc => ?_)
        · replace ho6 := if_t hc ho6
          obtain rfl := Option.some.inj ho6
          obtain rfl := lpK_r hx7
          exact J8 _ _ _ hW (lv_sub hl [1] rfl)
        · replace ho6 := if_f hc ho6
          refine lv_aload_n hx hb dX2_kthSumOfPair_24 rfl (lv_at hl 2 rfl) ?_
          refine lv_iload_n hx hb dX2_kthSumOfPair_25 rfl (lv_at hl 1 rfl) ?_
          refine lv_iload_n hx hb dX2_kthSumOfPair_26 rfl (lv_at hl 0 rfl) ?_
          refine lv_iadd hx hb dX2_kthSumOfPair_27 ?_
          refine lv_iconst (v := 1) hx hb dX2_kthSumOfPair_28 (by decide) ?_
          refine lv_isub hx hb dX2_kthSumOfPair_29 ?_
          obtain ⟨v12, h13, ho6⟩ := bd1_s ho6
          refine k_callVR (b := q) (ci := 2) (qb := 0) (As := [.int ((i4 + i3) - 1)]) (n := 1) (rest := []) (st1 := [.int v12]) C hE hW hl.1 (kX2_pairsUpTo l D cI cZ cJ _ q q_first q_first_numbers q_second q_second_numbers u_first_numbers u_second_numbers ((i4 + i3) - 1) v12 h13) gX2_kthSumOfPair_X2_pairsUpTo rfl (by decide +kernel) rfl ⟨Nat.le_of_ble_eq_true rfl, Nat.le_of_ble_eq_true rfl⟩ ⟨Nat.zero_le _, Nat.zero_le _⟩ rfl rfl [0, 1, 2, 3, 4] rfl rfl (Nat.le_of_ble_eq_true rfl) rfl rfl dX2_kthSumOfPair_30 (fun H locs hW => ?_)
          refine lv_iload_n hx hb dX2_kthSumOfPair_33 rfl (lv_at hl 3 rfl) ?_
          refine lv_icmp_gt (tgt := 41) hx hb dX2_kthSumOfPair_34 (by decide) (fun hc => ?_) (fun hc => ?_)
          · replace ho6 := if_t hc ho6
            refine lv_iload_n hx hb dX2_kthSumOfPair_41 rfl (lv_at hl 0 rfl) ?_
            refine lv_iconst (v := 2) hx hb dX2_kthSumOfPair_42 (by decide) ?_
            refine lv_idiv hx hb dX2_kthSumOfPair_43 (by decide) ?_
            refine lv_istore_n (lv' := [(3, .int (i3 / 2)), (2, .int i4), (0, .ref q), (1, .int p0)]) hx hb dX2_kthSumOfPair_44 rfl hl (by decide) rfl (fun ls hl => ?_)
            refine lv_goto (tgt := 20) hx hb dX2_kthSumOfPair_45 (by decide) ?_
            obtain rfl := Option.some.inj ho6
            exact ih11 _ _ hx7 _ _ _ hW (lv_sub hl [0, 1, 2, 3] rfl)
          · replace ho6 := if_f hc ho6
            refine lv_iload_n hx hb dX2_kthSumOfPair_37 rfl (lv_at hl 1 rfl) ?_
            refine lv_iload_n hx hb dX2_kthSumOfPair_38 rfl (lv_at hl 0 rfl) ?_
            refine lv_iadd hx hb dX2_kthSumOfPair_39 ?_
            refine lv_istore_n (lv' := [(2, .int (i4 + i3)), (3, .int i3), (0, .ref q), (1, .int p0)]) hx hb dX2_kthSumOfPair_40 rfl hl (by decide) rfl (fun ls hl => ?_)
            refine lv_iload_n hx hb dX2_kthSumOfPair_41 rfl (lv_at hl 1 rfl) ?_
            refine lv_iconst (v := 2) hx hb dX2_kthSumOfPair_42 (by decide) ?_
            refine lv_idiv hx hb dX2_kthSumOfPair_43 (by decide) ?_
            refine lv_istore_n (lv' := [(3, .int (i3 / 2)), (2, .int (i4 + i3)), (0, .ref q), (1, .int p0)]) hx hb dX2_kthSumOfPair_44 rfl hl (by decide) rfl (fun ls hl => ?_)
            refine lv_goto (tgt := 20) hx hb dX2_kthSumOfPair_45 (by decide) ?_
            obtain rfl := Option.some.inj ho6
            exact ih11 _ _ hx7 _ _ _ hW (lv_sub hl [0, 1, 2, 3] rfl)
    exact L9 lpF _ _ hx70 _ _ _ hW (lv_sub hl [0, 1, 2, 3] rfl)
  · replace hf := if_f hc hf
    refine lv_bipush (v := (-9)) hx hb dX2_kthSumOfPair_11 (by decide) ?_
    obtain rfl := Option.some.inj hf
    exact k_iret C hlocks hr hW hQ dX2_kthSumOfPair_13

set_option maxHeartbeats 4000000 in
set_option maxRecDepth 100000 in
theorem kX3_isEmpty (l : Launch) (D : va_G) (cI cZ cJ : ClassId) (sz : Nat) (q q_numbers : Nat) (u_oldest : Int32) (u_remembered : Int32) (r : Int32) (hf : pX3_isEmpty u_remembered = some r) : kMet l D cI cZ cJ yX3_isEmpty wsX3_isEmpty 0 0 [.ref q] [(q, .inr (3, [.ref q_numbers, .int u_oldest, .int u_remembered]))] sz (some (.int r)) [(q, .inr (3, [.ref q_numbers, .int u_oldest, .int u_remembered]))] := by
  refine kM_of (cc := cX3_isEmpty) (maxL := 1) (ret := (some .boolean)) (by decide) rfl (Nat.le_of_ble_eq_true rfl) ?_
  intro p e s m args below meth c A Q ls hQ C hlocks hr hE hW hl
  have hx := C.1
  have hb := C.2.1
  have hts := C.2.2.2.2
  have hl : lv_has ls 1 [(0, .ref q)] := hl
  have iX3 : ∀ w ∈ u_ws RX3 TX3 3, w ∈ wsX3_isEmpty := by decide +kernel
  have f19 := hts (.fieldLink RX3 19 "SortedTables$Past" "remembered" "I") (by decide +kernel)
  unfold pX3_isEmpty at hf
  refine lv_aload_n hx hb dX3_isEmpty_0 rfl (lv_at hl 0 rfl) ?_
  refine k_get C hE hW iX3 0 rfl rfl 2 (by decide) f19 (fun _ h9 => h9) rfl dX3_isEmpty_1 ?_
  refine lv_if_ne (tgt := 11) hx hb dX3_isEmpty_4 (by decide) (fun hc => ?_) (fun hc => ?_)
  · replace hf := if_f hc hf
    refine lv_iconst (v := 0) hx hb dX3_isEmpty_11 (by decide) ?_
    obtain rfl := Option.some.inj hf
    exact k_zret C hlocks hr hW (by decide) hQ dX3_isEmpty_12
  · replace hf := if_t hc hf
    refine lv_iconst (v := 1) hx hb dX3_isEmpty_7 (by decide) ?_
    refine lv_goto (tgt := 12) hx hb dX3_isEmpty_8 (by decide) ?_
    obtain rfl := Option.some.inj hf
    exact k_zret C hlocks hr hW (by decide) hQ dX3_isEmpty_12

set_option maxHeartbeats 4000000 in
set_option maxRecDepth 100000 in
theorem kX3_remembered (l : Launch) (D : va_G) (cI cZ cJ : ClassId) (sz : Nat) (q q_numbers : Nat) (u_oldest : Int32) (u_remembered : Int32) (r : Int32) (hf : pX3_remembered u_remembered = some r) : kMet l D cI cZ cJ yX3_remembered wsX3_remembered 0 0 [.ref q] [(q, .inr (3, [.ref q_numbers, .int u_oldest, .int u_remembered]))] sz (some (.int r)) [(q, .inr (3, [.ref q_numbers, .int u_oldest, .int u_remembered]))] := by
  refine kM_of (cc := cX3_remembered) (maxL := 1) (ret := (some .int)) (by decide) rfl (Nat.le_of_ble_eq_true rfl) ?_
  intro p e s m args below meth c A Q ls hQ C hlocks hr hE hW hl
  have hx := C.1
  have hb := C.2.1
  have hts := C.2.2.2.2
  have hl : lv_has ls 1 [(0, .ref q)] := hl
  have iX3 : ∀ w ∈ u_ws RX3 TX3 3, w ∈ wsX3_remembered := by decide +kernel
  have f19 := hts (.fieldLink RX3 19 "SortedTables$Past" "remembered" "I") (by decide +kernel)
  unfold pX3_remembered at hf
  refine lv_aload_n hx hb dX3_remembered_0 rfl (lv_at hl 0 rfl) ?_
  refine k_get C hE hW iX3 0 rfl rfl 2 (by decide) f19 (fun _ h9 => h9) rfl dX3_remembered_1 ?_
  obtain rfl := Option.some.inj hf
  exact k_iret C hlocks hr hW hQ dX3_remembered_4

set_option maxHeartbeats 4000000 in
set_option maxRecDepth 100000 in
theorem kX3_forgetAll (l : Launch) (D : va_G) (cI cZ cJ : ClassId) (sz : Nat) (q q_numbers : Nat) (u_oldest : Int32) (u_remembered : Int32) (u_remembered' : Int32) (hf : pX3_forgetAll u_remembered = some u_remembered') : kMet l D cI cZ cJ yX3_forgetAll wsX3_forgetAll 0 0 [.ref q] [(q, .inr (3, [.ref q_numbers, .int u_oldest, .int u_remembered]))] sz none [(q, .inr (3, [.ref q_numbers, .int u_oldest, .int u_remembered']))] := by
  refine kM_of (cc := cX3_forgetAll) (maxL := 1) (ret := none) (by decide) rfl (Nat.le_of_ble_eq_true rfl) ?_
  intro p e s m args below meth c A Q ls hQ C hlocks hr hE hW hl
  have hx := C.1
  have hb := C.2.1
  have hts := C.2.2.2.2
  have hl : lv_has ls 1 [(0, .ref q)] := hl
  have iX3 : ∀ w ∈ u_ws RX3 TX3 3, w ∈ wsX3_forgetAll := by decide +kernel
  have f19 := hts (.fieldLink RX3 19 "SortedTables$Past" "remembered" "I") (by decide +kernel)
  unfold pX3_forgetAll at hf
  refine lv_aload_n hx hb dX3_forgetAll_0 rfl (lv_at hl 0 rfl) ?_
  refine lv_iconst (v := 0) hx hb dX3_forgetAll_1 (by decide) ?_
  refine k_put (v := .int 0) (ty := .int) (ws' := [(q, .inr (3, [.ref q_numbers, .int u_oldest, .int 0]))]) C hE hW iX3 tyX3_ok nmX3 0 rfl rfl 2 (by decide) f19 (fun _ h9 => h9) rfl (by decide +kernel) rfl rfl (Nat.le_of_ble_eq_true rfl) rfl dX3_forgetAll_2 (fun H locs hW => ?_)
  obtain rfl := Option.some.inj hf
  exact k_vret C hlocks hr hW hQ dX3_forgetAll_5

set_option maxHeartbeats 4000000 in
set_option maxRecDepth 100000 in
theorem kX3_startBehindNewest (l : Launch) (D : va_G) (cI cZ cJ : ClassId) (sz : Nat) (q q_numbers : Nat) (u_oldest : Int32) (u_remembered : Int32) (r : Int32) (hf : pX3_startBehindNewest u_oldest u_remembered = some r) : kMet l D cI cZ cJ yX3_startBehindNewest wsX3_startBehindNewest 0 0 [.ref q] [(q, .inr (3, [.ref q_numbers, .int u_oldest, .int u_remembered]))] sz (some (.int r)) [(q, .inr (3, [.ref q_numbers, .int u_oldest, .int u_remembered]))] := by
  refine kM_of (cc := cX3_startBehindNewest) (maxL := 1) (ret := (some .int)) (by decide) rfl (Nat.le_of_ble_eq_true rfl) ?_
  intro p e s m args below meth c A Q ls hQ C hlocks hr hE hW hl
  have hx := C.1
  have hb := C.2.1
  have hts := C.2.2.2.2
  have hl : lv_has ls 1 [(0, .ref q)] := hl
  have iX3 : ∀ w ∈ u_ws RX3 TX3 3, w ∈ wsX3_startBehindNewest := by decide +kernel
  have f15 := hts (.fieldLink RX3 15 "SortedTables$Past" "oldest" "I") (by decide +kernel)
  have f19 := hts (.fieldLink RX3 19 "SortedTables$Past" "remembered" "I") (by decide +kernel)
  unfold pX3_startBehindNewest at hf
  refine lv_aload_n hx hb dX3_startBehindNewest_0 rfl (lv_at hl 0 rfl) ?_
  refine k_get C hE hW iX3 0 rfl rfl 1 (by decide) f15 (fun _ h9 => h9) rfl dX3_startBehindNewest_1 ?_
  refine lv_aload_n hx hb dX3_startBehindNewest_4 rfl (lv_at hl 0 rfl) ?_
  refine k_get C hE hW iX3 0 rfl rfl 2 (by decide) f19 (fun _ h9 => h9) rfl dX3_startBehindNewest_5 ?_
  refine lv_iadd hx hb dX3_startBehindNewest_8 ?_
  refine lv_bipush (v := 14) hx hb dX3_startBehindNewest_9 (by decide) ?_
  refine lv_irem hx hb dX3_startBehindNewest_11 (by decide) ?_
  refine lv_bipush (v := 72) hx hb dX3_startBehindNewest_12 (by decide) ?_
  refine lv_imul hx hb dX3_startBehindNewest_14 ?_
  obtain rfl := Option.some.inj hf
  exact k_iret C hlocks hr hW hQ dX3_startBehindNewest_15

set_option maxHeartbeats 4000000 in
set_option maxRecDepth 100000 in
theorem kX3_remember (l : Launch) (D : va_G) (cI cZ cJ : ClassId) (sz : Nat) (q q_numbers r0 r0_first r0_first_numbers r0_second r0_second_numbers : Nat) (u_oldest : Int32) (u_remembered : Int32) (u_numbers : Nat → Int32) (u0_first_numbers : Nat → Int32) (u0_second_numbers : Nat → Int32) (u_oldest' : Int32) (u_remembered' : Int32) (u_numbers' : Nat → Int32) (hf : pX3_remember u_oldest u_remembered u_numbers u0_first_numbers u0_second_numbers = some (u_oldest', u_remembered', u_numbers')) : kMet l D cI cZ cJ yX3_remember wsX3_remember 3 84 [.ref q, .ref r0] [(q, .inr (3, [.ref q_numbers, .int u_oldest, .int u_remembered])), (q_numbers, .inl (cI, 1008, .inl u_numbers)), (r0, .inr (2, [.ref r0_first, .ref r0_second])), (r0_first, .inr (6, [.ref r0_first_numbers])), (r0_first_numbers, .inl (cI, 36, .inl u0_first_numbers)), (r0_second, .inr (6, [.ref r0_second_numbers])), (r0_second_numbers, .inl (cI, 36, .inl u0_second_numbers))] sz none [(q, .inr (3, [.ref q_numbers, .int u_oldest', .int u_remembered'])), (q_numbers, .inl (cI, 1008, .inl u_numbers')), (r0, .inr (2, [.ref r0_first, .ref r0_second])), (r0_first, .inr (6, [.ref r0_first_numbers])), (r0_first_numbers, .inl (cI, 36, .inl u0_first_numbers)), (r0_second, .inr (6, [.ref r0_second_numbers])), (r0_second_numbers, .inl (cI, 36, .inl u0_second_numbers))] := by
  refine kM_of (cc := cX3_remember) (maxL := 2) (ret := none) (by decide) rfl (Nat.le_of_ble_eq_true rfl) ?_
  intro p e s m args below meth c A Q ls hQ C hlocks hr hE hW hl
  have hx := C.1
  have hb := C.2.1
  have hts := C.2.2.2.2
  have hl : lv_has ls 2 [(0, .ref q), (1, .ref r0)] := hl
  have iX3 : ∀ w ∈ u_ws RX3 TX3 3, w ∈ wsX3_remember := by decide +kernel
  have f15 := hts (.fieldLink RX3 15 "SortedTables$Past" "oldest" "I") (by decide +kernel)
  have f19 := hts (.fieldLink RX3 19 "SortedTables$Past" "remembered" "I") (by decide +kernel)
  have f9 := hts (.fieldLink RX3 9 "SortedTables$Past" "numbers" "[I") (by decide +kernel)
  unfold pX3_remember at hf
  refine lv_aload_n hx hb dX3_remember_0 rfl (lv_at hl 0 rfl) ?_
  refine k_get C hE hW iX3 0 rfl rfl 2 (by decide) f19 (fun _ h9 => h9) rfl dX3_remember_1 ?_
  refine lv_bipush (v := 14) hx hb dX3_remember_4 (by decide) ?_
  obtain ⟨⟨w1, w2⟩, hd3, hf⟩ := bd1_s hf
  replace hf := un2_s hf
  have J4 : ∀ (H : Heap) (locs : List Loc) (ls : Array Slot), kH D A s H locs [(q, .inr (3, [.ref q_numbers, .int w1, .int w2])), (q_numbers, .inl (cI, 1008, .inl u_numbers)), (r0, .inr (2, [.ref r0_first, .ref r0_second])), (r0_first, .inr (6, [.ref r0_first_numbers])), (r0_first_numbers, .inl (cI, 36, .inl u0_first_numbers)), (r0_second, .inr (6, [.ref r0_second_numbers])), (r0_second_numbers, .inl (cI, 36, .inl u0_second_numbers))] → lv_has ls 2 [(0, .ref q), (1, .ref r0)] → W p l e (kRm 3 84 0 0) s m args below meth c H locs 0 0 Q (F0 m 32 ls []) := by
    intro H locs ls hW hl
    refine lv_aload_n hx hb dX3_remember_32 rfl (lv_at hl 1 rfl) ?_
    refine lv_aload_n hx hb dX3_remember_33 rfl (lv_at hl 0 rfl) ?_
    refine k_get C hE hW iX3 0 rfl rfl 0 (by decide) f9 (fun _ h9 => h9) rfl dX3_remember_34 ?_
    refine lv_aload_n hx hb dX3_remember_37 rfl (lv_at hl 0 rfl) ?_
    obtain ⟨v5, h6, hf⟩ := bd1_s hf
    refine k_callVR (b := q) (ci := 3) (qb := 0) (As := []) (n := 0) (rest := [.ref q_numbers, .ref r0]) (st1 := [.int v5, .ref q_numbers, .ref r0]) C hE hW hl.1 (kX3_startBehindNewest l D cI cZ cJ _ q q_numbers w1 w2 v5 h6) gX3_remember_X3_startBehindNewest rfl (by decide +kernel) rfl ⟨Nat.le_of_ble_eq_true rfl, Nat.le_of_ble_eq_true rfl⟩ ⟨Nat.zero_le _, Nat.zero_le _⟩ rfl rfl [0] rfl rfl (Nat.le_of_ble_eq_true rfl) rfl rfl dX3_remember_38 (fun H locs hW => ?_)
    obtain ⟨w7, h8, hf⟩ := bd1_s hf
    refine k_callV (b := r0) (ci := 2) (qb := 0) (As := [.ref q_numbers, .int v5]) (n := 2) (rest := []) (st1 := []) (wr := [(q, .inr (3, [.ref q_numbers, .int w1, .int w2]))]) (ws' := [(q, .inr (3, [.ref q_numbers, .int w1, .int w2])), (q_numbers, .inl (cI, 1008, .inl w7)), (r0, .inr (2, [.ref r0_first, .ref r0_second])), (r0_first, .inr (6, [.ref r0_first_numbers])), (r0_first_numbers, .inl (cI, 36, .inl u0_first_numbers)), (r0_second, .inr (6, [.ref r0_second_numbers])), (r0_second_numbers, .inl (cI, 36, .inl u0_second_numbers))]) C hE hW hl.1 (kX2_writeTo l D cI cZ cJ _ r0 r0_first r0_first_numbers r0_second r0_second_numbers q_numbers u0_first_numbers u0_second_numbers u_numbers v5 w7 h8) gX3_remember_X2_writeTo rfl (by decide +kernel) rfl ⟨Nat.le_of_ble_eq_true rfl, Nat.le_of_ble_eq_true rfl⟩ ⟨Nat.zero_le _, Nat.zero_le _⟩ rfl rfl [2, 3, 4, 5, 6, 1] [0] [0, 6, 1, 2, 3, 4, 5] rfl rfl rfl rfl (by decide) rfl rfl (Nat.le_of_ble_eq_true rfl) rfl rfl dX3_remember_41 (fun H locs hW => ?_)
    refine lv_aload_n hx hb dX3_remember_44 rfl (lv_at hl 0 rfl) ?_
    refine lv_dup hx hb dX3_remember_45 rfl ?_
    refine k_get C hE hW iX3 0 rfl rfl 2 (by decide) f19 (fun _ h9 => h9) rfl dX3_remember_46 ?_
    refine lv_iconst (v := 1) hx hb dX3_remember_49 (by decide) ?_
    refine lv_iadd hx hb dX3_remember_50 ?_
    refine k_put (v := .int (w2 + 1)) (ty := .int) (ws' := [(q, .inr (3, [.ref q_numbers, .int w1, .int (w2 + 1)])), (q_numbers, .inl (cI, 1008, .inl w7)), (r0, .inr (2, [.ref r0_first, .ref r0_second])), (r0_first, .inr (6, [.ref r0_first_numbers])), (r0_first_numbers, .inl (cI, 36, .inl u0_first_numbers)), (r0_second, .inr (6, [.ref r0_second_numbers])), (r0_second_numbers, .inl (cI, 36, .inl u0_second_numbers))]) C hE hW iX3 tyX3_ok nmX3 0 rfl rfl 2 (by decide) f19 (fun _ h9 => h9) rfl (by decide +kernel) rfl rfl (Nat.le_of_ble_eq_true rfl) rfl dX3_remember_51 (fun H locs hW => ?_)
    obtain ⟨rfl, rfl, rfl⟩ := sm3 hf
    exact k_vret C hlocks hr hW hQ dX3_remember_54
  refine lv_icmp_ne (tgt := 32) hx hb dX3_remember_6 (by decide) (fun hc => ?_) (fun hc => ?_)
  · replace hd3 := if_f hc hd3
    obtain ⟨rfl, rfl⟩ := sm2 hd3
    exact J4 _ _ _ hW (lv_sub hl [0, 1] rfl)
  · replace hd3 := if_t hc hd3
    refine lv_aload_n hx hb dX3_remember_9 rfl (lv_at hl 0 rfl) ?_
    refine lv_aload_n hx hb dX3_remember_10 rfl (lv_at hl 0 rfl) ?_
    refine k_get C hE hW iX3 0 rfl rfl 1 (by decide) f15 (fun _ h9 => h9) rfl dX3_remember_11 ?_
    refine lv_iconst (v := 1) hx hb dX3_remember_14 (by decide) ?_
    refine lv_iadd hx hb dX3_remember_15 ?_
    refine lv_bipush (v := 14) hx hb dX3_remember_16 (by decide) ?_
    refine lv_irem hx hb dX3_remember_18 (by decide) ?_
    refine k_put (v := .int (irm (u_oldest + 1) 14)) (ty := .int) (ws' := [(q, .inr (3, [.ref q_numbers, .int (irm (u_oldest + 1) 14), .int u_remembered])), (q_numbers, .inl (cI, 1008, .inl u_numbers)), (r0, .inr (2, [.ref r0_first, .ref r0_second])), (r0_first, .inr (6, [.ref r0_first_numbers])), (r0_first_numbers, .inl (cI, 36, .inl u0_first_numbers)), (r0_second, .inr (6, [.ref r0_second_numbers])), (r0_second_numbers, .inl (cI, 36, .inl u0_second_numbers))]) C hE hW iX3 tyX3_ok nmX3 0 rfl rfl 1 (by decide) f15 (fun _ h9 => h9) rfl (by decide +kernel) rfl rfl (Nat.le_of_ble_eq_true rfl) rfl dX3_remember_19 (fun H locs hW => ?_)
    refine lv_aload_n hx hb dX3_remember_22 rfl (lv_at hl 0 rfl) ?_
    refine lv_dup hx hb dX3_remember_23 rfl ?_
    refine k_get C hE hW iX3 0 rfl rfl 2 (by decide) f19 (fun _ h9 => h9) rfl dX3_remember_24 ?_
    refine lv_iconst (v := 1) hx hb dX3_remember_27 (by decide) ?_
    refine lv_isub hx hb dX3_remember_28 ?_
    refine k_put (v := .int (u_remembered - 1)) (ty := .int) (ws' := [(q, .inr (3, [.ref q_numbers, .int (irm (u_oldest + 1) 14), .int (u_remembered - 1)])), (q_numbers, .inl (cI, 1008, .inl u_numbers)), (r0, .inr (2, [.ref r0_first, .ref r0_second])), (r0_first, .inr (6, [.ref r0_first_numbers])), (r0_first_numbers, .inl (cI, 36, .inl u0_first_numbers)), (r0_second, .inr (6, [.ref r0_second_numbers])), (r0_second_numbers, .inl (cI, 36, .inl u0_second_numbers))]) C hE hW iX3 tyX3_ok nmX3 0 rfl rfl 2 (by decide) f19 (fun _ h9 => h9) rfl (by decide +kernel) rfl rfl (Nat.le_of_ble_eq_true rfl) rfl dX3_remember_29 (fun H locs hW => ?_)
    obtain ⟨rfl, rfl⟩ := sm2 hd3
    exact J4 _ _ _ hW (lv_sub hl [0, 1] rfl)

set_option maxHeartbeats 4000000 in
set_option maxRecDepth 100000 in
theorem kX3_takeBack (l : Launch) (D : va_G) (cI cZ cJ : ClassId) (sz : Nat) (q q_numbers r0 r0_first r0_first_numbers r0_second r0_second_numbers : Nat) (u_oldest : Int32) (u_remembered : Int32) (u_numbers : Nat → Int32) (u0_first_numbers : Nat → Int32) (u0_second_numbers : Nat → Int32) (u_remembered' : Int32) (u0_first_numbers' : Nat → Int32) (u0_second_numbers' : Nat → Int32) (hf : pX3_takeBack u_oldest u_remembered u_numbers u0_first_numbers u0_second_numbers = some (u_remembered', u0_first_numbers', u0_second_numbers')) : kMet l D cI cZ cJ yX3_takeBack wsX3_takeBack 3 84 [.ref q, .ref r0] [(q, .inr (3, [.ref q_numbers, .int u_oldest, .int u_remembered])), (q_numbers, .inl (cI, 1008, .inl u_numbers)), (r0, .inr (2, [.ref r0_first, .ref r0_second])), (r0_first, .inr (6, [.ref r0_first_numbers])), (r0_first_numbers, .inl (cI, 36, .inl u0_first_numbers)), (r0_second, .inr (6, [.ref r0_second_numbers])), (r0_second_numbers, .inl (cI, 36, .inl u0_second_numbers))] sz none [(q, .inr (3, [.ref q_numbers, .int u_oldest, .int u_remembered'])), (q_numbers, .inl (cI, 1008, .inl u_numbers)), (r0, .inr (2, [.ref r0_first, .ref r0_second])), (r0_first, .inr (6, [.ref r0_first_numbers])), (r0_first_numbers, .inl (cI, 36, .inl u0_first_numbers')), (r0_second, .inr (6, [.ref r0_second_numbers])), (r0_second_numbers, .inl (cI, 36, .inl u0_second_numbers'))] := by
  refine kM_of (cc := cX3_takeBack) (maxL := 2) (ret := none) (by decide) rfl (Nat.le_of_ble_eq_true rfl) ?_
  intro p e s m args below meth c A Q ls hQ C hlocks hr hE hW hl
  have hx := C.1
  have hb := C.2.1
  have hts := C.2.2.2.2
  have hl : lv_has ls 2 [(0, .ref q), (1, .ref r0)] := hl
  have iX3 : ∀ w ∈ u_ws RX3 TX3 3, w ∈ wsX3_takeBack := by decide +kernel
  have f19 := hts (.fieldLink RX3 19 "SortedTables$Past" "remembered" "I") (by decide +kernel)
  have f9 := hts (.fieldLink RX3 9 "SortedTables$Past" "numbers" "[I") (by decide +kernel)
  unfold pX3_takeBack at hf
  refine lv_aload_n hx hb dX3_takeBack_0 rfl (lv_at hl 0 rfl) ?_
  refine k_get C hE hW iX3 0 rfl rfl 2 (by decide) f19 (fun _ h9 => h9) rfl dX3_takeBack_1 ?_
  refine lv_if_le (tgt := 29) hx hb dX3_takeBack_4 (by decide) (fun hc => ?_) (fun hc => ?_)
  · replace hf := if_t hc hf
    obtain ⟨rfl, rfl, rfl⟩ := sm3 hf
    exact k_vret C hlocks hr hW hQ dX3_takeBack_29
  · replace hf := if_f hc hf
    refine lv_aload_n hx hb dX3_takeBack_7 rfl (lv_at hl 0 rfl) ?_
    refine lv_dup hx hb dX3_takeBack_8 rfl ?_
    refine k_get C hE hW iX3 0 rfl rfl 2 (by decide) f19 (fun _ h9 => h9) rfl dX3_takeBack_9 ?_
    refine lv_iconst (v := 1) hx hb dX3_takeBack_12 (by decide) ?_
    refine lv_isub hx hb dX3_takeBack_13 ?_
    refine k_put (v := .int (u_remembered - 1)) (ty := .int) (ws' := [(q, .inr (3, [.ref q_numbers, .int u_oldest, .int (u_remembered - 1)])), (q_numbers, .inl (cI, 1008, .inl u_numbers)), (r0, .inr (2, [.ref r0_first, .ref r0_second])), (r0_first, .inr (6, [.ref r0_first_numbers])), (r0_first_numbers, .inl (cI, 36, .inl u0_first_numbers)), (r0_second, .inr (6, [.ref r0_second_numbers])), (r0_second_numbers, .inl (cI, 36, .inl u0_second_numbers))]) C hE hW iX3 tyX3_ok nmX3 0 rfl rfl 2 (by decide) f19 (fun _ h9 => h9) rfl (by decide +kernel) rfl rfl (Nat.le_of_ble_eq_true rfl) rfl dX3_takeBack_14 (fun H locs hW => ?_)
    refine lv_aload_n hx hb dX3_takeBack_17 rfl (lv_at hl 1 rfl) ?_
    refine lv_aload_n hx hb dX3_takeBack_18 rfl (lv_at hl 0 rfl) ?_
    refine k_get C hE hW iX3 0 rfl rfl 0 (by decide) f9 (fun _ h9 => h9) rfl dX3_takeBack_19 ?_
    refine lv_aload_n hx hb dX3_takeBack_22 rfl (lv_at hl 0 rfl) ?_
    obtain ⟨v1, h2, hf⟩ := bd1_s hf
    refine k_callVR (b := q) (ci := 3) (qb := 0) (As := []) (n := 0) (rest := [.ref q_numbers, .ref r0]) (st1 := [.int v1, .ref q_numbers, .ref r0]) C hE hW hl.1 (kX3_startBehindNewest l D cI cZ cJ _ q q_numbers u_oldest (u_remembered - 1) v1 h2) gX3_takeBack_X3_startBehindNewest rfl (by decide +kernel) rfl ⟨Nat.le_of_ble_eq_true rfl, Nat.le_of_ble_eq_true rfl⟩ ⟨Nat.zero_le _, Nat.zero_le _⟩ rfl rfl [0] rfl rfl (Nat.le_of_ble_eq_true rfl) rfl rfl dX3_takeBack_23 (fun H locs hW => ?_)
    obtain ⟨⟨w3, w4⟩, h5, hf⟩ := bd1_s hf
    replace hf := un2_s hf
    refine k_callV (b := r0) (ci := 2) (qb := 0) (As := [.ref q_numbers, .int v1]) (n := 2) (rest := []) (st1 := []) (wr := [(q, .inr (3, [.ref q_numbers, .int u_oldest, .int (u_remembered - 1)]))]) (ws' := [(q, .inr (3, [.ref q_numbers, .int u_oldest, .int (u_remembered - 1)])), (q_numbers, .inl (cI, 1008, .inl u_numbers)), (r0, .inr (2, [.ref r0_first, .ref r0_second])), (r0_first, .inr (6, [.ref r0_first_numbers])), (r0_first_numbers, .inl (cI, 36, .inl w3)), (r0_second, .inr (6, [.ref r0_second_numbers])), (r0_second_numbers, .inl (cI, 36, .inl w4))]) C hE hW hl.1 (kX2_readFrom l D cI cZ cJ _ r0 r0_first r0_first_numbers r0_second r0_second_numbers q_numbers u0_first_numbers u0_second_numbers u_numbers v1 w3 w4 h5) gX3_takeBack_X2_readFrom rfl (by decide +kernel) rfl ⟨Nat.le_of_ble_eq_true rfl, Nat.le_of_ble_eq_true rfl⟩ ⟨Nat.zero_le _, Nat.zero_le _⟩ rfl rfl [2, 3, 4, 5, 6, 1] [0] [0, 6, 1, 2, 3, 4, 5] rfl rfl rfl rfl (by decide) rfl rfl (Nat.le_of_ble_eq_true rfl) rfl rfl dX3_takeBack_26 (fun H locs hW => ?_)
    obtain ⟨rfl, rfl, rfl⟩ := sm3 hf
    exact k_vret C hlocks hr hW hQ dX3_takeBack_29

set_option maxHeartbeats 4000000 in
set_option maxRecDepth 100000 in
theorem kX4_tables (l : Launch) (D : va_G) (cI cZ cJ : ClassId) (sz : Nat) (q q_tables : Nat) (u_begun : Int32) (u_table : Int32) (u_row : Int32) (u_column : Int32) (u_tens : Int32)  (hf : pX4_tables = some ()) : kMet l D cI cZ cJ yX4_tables wsX4_tables 0 0 [.ref q] [(q, .inr (4, [.ref q_tables, .int u_begun, .int u_table, .int u_row, .int u_column, .int u_tens]))] sz (some (.ref q_tables)) [(q, .inr (4, [.ref q_tables, .int u_begun, .int u_table, .int u_row, .int u_column, .int u_tens]))] := by
  refine kM_of (cc := cX4_tables) (maxL := 1) (ret := (some (.object "SortedTables$Pair"))) (by decide) rfl (Nat.le_of_ble_eq_true rfl) ?_
  intro p e s m args below meth c A Q ls hQ C hlocks hr hE hW hl
  have hx := C.1
  have hb := C.2.1
  have hts := C.2.2.2.2
  have hl : lv_has ls 1 [(0, .ref q)] := hl
  have iX4 : ∀ w ∈ u_ws RX4 TX4 6, w ∈ wsX4_tables := by decide +kernel
  have f12 := hts (.fieldLink RX4 12 "SortedTables$Reader" "tables" "LSortedTables$Pair;") (by decide +kernel)
  unfold pX4_tables at hf
  refine lv_aload_n hx hb dX4_tables_0 rfl (lv_at hl 0 rfl) ?_
  refine k_get C hE hW iX4 0 rfl rfl 0 (by decide) f12 (fun _ h9 => h9) rfl dX4_tables_1 ?_
  exact k_aret C hlocks hr hW hQ dX4_tables_4

set_option maxHeartbeats 4000000 in
set_option maxRecDepth 100000 in
theorem kX4_begin (l : Launch) (D : va_G) (cI cZ cJ : ClassId) (sz : Nat) (q q_tables : Nat) (u_begun : Int32) (u_table : Int32) (u_row : Int32) (u_column : Int32) (u_tens : Int32) (p0 : Int32) (u_table' : Int32) (u_row' : Int32) (u_column' : Int32) (u_tens' : Int32) (hf : pX4_begin u_table u_row u_column u_tens p0 = some (u_table', u_row', u_column', u_tens')) : kMet l D cI cZ cJ yX4_begin wsX4_begin 0 0 [.ref q, .int p0] [(q, .inr (4, [.ref q_tables, .int u_begun, .int u_table, .int u_row, .int u_column, .int u_tens]))] sz none [(q, .inr (4, [.ref q_tables, .int u_begun, .int u_table', .int u_row', .int u_column', .int u_tens']))] := by
  refine kM_of (cc := cX4_begin) (maxL := 2) (ret := none) (by decide) rfl (Nat.le_of_ble_eq_true rfl) ?_
  intro p e s m args below meth c A Q ls hQ C hlocks hr hE hW hl
  have hx := C.1
  have hb := C.2.1
  have hts := C.2.2.2.2
  have hl : lv_has ls 2 [(0, .ref q), (1, .int p0)] := hl
  have iX4 : ∀ w ∈ u_ws RX4 TX4 6, w ∈ wsX4_begin := by decide +kernel
  have f22 := hts (.fieldLink RX4 22 "SortedTables$Reader" "table" "I") (by decide +kernel)
  have f26 := hts (.fieldLink RX4 26 "SortedTables$Reader" "row" "I") (by decide +kernel)
  have f29 := hts (.fieldLink RX4 29 "SortedTables$Reader" "column" "I") (by decide +kernel)
  have f32 := hts (.fieldLink RX4 32 "SortedTables$Reader" "tens" "I") (by decide +kernel)
  unfold pX4_begin at hf
  refine lv_aload_n hx hb dX4_begin_0 rfl (lv_at hl 0 rfl) ?_
  refine lv_iload_n hx hb dX4_begin_1 rfl (lv_at hl 1 rfl) ?_
  refine k_put (v := .int p0) (ty := .int) (ws' := [(q, .inr (4, [.ref q_tables, .int u_begun, .int p0, .int u_row, .int u_column, .int u_tens]))]) C hE hW iX4 tyX4_ok nmX4 0 rfl rfl 2 (by decide) f22 (fun _ h9 => h9) rfl (by decide +kernel) rfl rfl (Nat.le_of_ble_eq_true rfl) rfl dX4_begin_2 (fun H locs hW => ?_)
  refine lv_aload_n hx hb dX4_begin_5 rfl (lv_at hl 0 rfl) ?_
  refine lv_iconst (v := 0) hx hb dX4_begin_6 (by decide) ?_
  refine k_put (v := .int 0) (ty := .int) (ws' := [(q, .inr (4, [.ref q_tables, .int u_begun, .int p0, .int 0, .int u_column, .int u_tens]))]) C hE hW iX4 tyX4_ok nmX4 0 rfl rfl 3 (by decide) f26 (fun _ h9 => h9) rfl (by decide +kernel) rfl rfl (Nat.le_of_ble_eq_true rfl) rfl dX4_begin_7 (fun H locs hW => ?_)
  refine lv_aload_n hx hb dX4_begin_10 rfl (lv_at hl 0 rfl) ?_
  refine lv_iconst (v := 0) hx hb dX4_begin_11 (by decide) ?_
  refine k_put (v := .int 0) (ty := .int) (ws' := [(q, .inr (4, [.ref q_tables, .int u_begun, .int p0, .int 0, .int 0, .int u_tens]))]) C hE hW iX4 tyX4_ok nmX4 0 rfl rfl 4 (by decide) f29 (fun _ h9 => h9) rfl (by decide +kernel) rfl rfl (Nat.le_of_ble_eq_true rfl) rfl dX4_begin_12 (fun H locs hW => ?_)
  refine lv_aload_n hx hb dX4_begin_15 rfl (lv_at hl 0 rfl) ?_
  refine lv_iconst (v := (-1)) hx hb dX4_begin_16 (by decide) ?_
  refine k_put (v := .int (-1)) (ty := .int) (ws' := [(q, .inr (4, [.ref q_tables, .int u_begun, .int p0, .int 0, .int 0, .int (-1)]))]) C hE hW iX4 tyX4_ok nmX4 0 rfl rfl 5 (by decide) f32 (fun _ h9 => h9) rfl (by decide +kernel) rfl rfl (Nat.le_of_ble_eq_true rfl) rfl dX4_begin_17 (fun H locs hW => ?_)
  obtain ⟨rfl, rfl, rfl, rfl⟩ := sm4 hf
  exact k_vret C hlocks hr hW hQ dX4_begin_20

set_option maxHeartbeats 4000000 in
set_option maxRecDepth 100000 in
theorem kX4_canEndTable (l : Launch) (D : va_G) (cI cZ cJ : ClassId) (sz : Nat) (q q_tables : Nat) (u_begun : Int32) (u_table : Int32) (u_row : Int32) (u_column : Int32) (u_tens : Int32) (r : Int32) (hf : pX4_canEndTable u_row u_column u_tens = some r) : kMet l D cI cZ cJ yX4_canEndTable wsX4_canEndTable 0 0 [.ref q] [(q, .inr (4, [.ref q_tables, .int u_begun, .int u_table, .int u_row, .int u_column, .int u_tens]))] sz (some (.int r)) [(q, .inr (4, [.ref q_tables, .int u_begun, .int u_table, .int u_row, .int u_column, .int u_tens]))] := by
  refine kM_of (cc := cX4_canEndTable) (maxL := 1) (ret := (some .boolean)) (by decide) rfl (Nat.le_of_ble_eq_true rfl) ?_
  intro p e s m args below meth c A Q ls hQ C hlocks hr hE hW hl
  have hx := C.1
  have hb := C.2.1
  have hts := C.2.2.2.2
  have hl : lv_has ls 1 [(0, .ref q)] := hl
  have iX4 : ∀ w ∈ u_ws RX4 TX4 6, w ∈ wsX4_canEndTable := by decide +kernel
  have f26 := hts (.fieldLink RX4 26 "SortedTables$Reader" "row" "I") (by decide +kernel)
  have f29 := hts (.fieldLink RX4 29 "SortedTables$Reader" "column" "I") (by decide +kernel)
  have f32 := hts (.fieldLink RX4 32 "SortedTables$Reader" "tens" "I") (by decide +kernel)
  unfold pX4_canEndTable at hf
  refine lv_aload_n hx hb dX4_canEndTable_0 rfl (lv_at hl 0 rfl) ?_
  refine k_get C hE hW iX4 0 rfl rfl 5 (by decide) f32 (fun _ h9 => h9) rfl dX4_canEndTable_1 ?_
  refine lv_iconst (v := (-1)) hx hb dX4_canEndTable_4 (by decide) ?_
  refine lv_icmp_ne (tgt := 26) hx hb dX4_canEndTable_5 (by decide) (fun hc => ?_) (fun hc => ?_)
  · replace hf := if_f hc hf
    refine lv_iconst (v := 0) hx hb dX4_canEndTable_26 (by decide) ?_
    obtain rfl := Option.some.inj hf
    exact k_zret C hlocks hr hW (by decide) hQ dX4_canEndTable_27
  · replace hf := if_t hc hf
    refine lv_aload_n hx hb dX4_canEndTable_8 rfl (lv_at hl 0 rfl) ?_
    refine k_get C hE hW iX4 0 rfl rfl 4 (by decide) f29 (fun _ h9 => h9) rfl dX4_canEndTable_9 ?_
    refine lv_if_gt (tgt := 22) hx hb dX4_canEndTable_12 (by decide) (fun hc => ?_) (fun hc => ?_)
    · replace hf := if_t hc hf
      refine lv_iconst (v := 1) hx hb dX4_canEndTable_22 (by decide) ?_
      refine lv_goto (tgt := 27) hx hb dX4_canEndTable_23 (by decide) ?_
      obtain rfl := Option.some.inj hf
      exact k_zret C hlocks hr hW (by decide) hQ dX4_canEndTable_27
    · replace hf := if_f hc hf
      refine lv_aload_n hx hb dX4_canEndTable_15 rfl (lv_at hl 0 rfl) ?_
      refine k_get C hE hW iX4 0 rfl rfl 3 (by decide) f26 (fun _ h9 => h9) rfl dX4_canEndTable_16 ?_
      refine lv_if_ne (tgt := 26) hx hb dX4_canEndTable_19 (by decide) (fun hc => ?_) (fun hc => ?_)
      · replace hf := if_f hc hf
        refine lv_iconst (v := 0) hx hb dX4_canEndTable_26 (by decide) ?_
        obtain rfl := Option.some.inj hf
        exact k_zret C hlocks hr hW (by decide) hQ dX4_canEndTable_27
      · replace hf := if_t hc hf
        refine lv_iconst (v := 1) hx hb dX4_canEndTable_22 (by decide) ?_
        refine lv_goto (tgt := 27) hx hb dX4_canEndTable_23 (by decide) ?_
        obtain rfl := Option.some.inj hf
        exact k_zret C hlocks hr hW (by decide) hQ dX4_canEndTable_27

set_option maxHeartbeats 4000000 in
set_option maxRecDepth 100000 in
theorem kX4_takesSemicolon (l : Launch) (D : va_G) (cI cZ cJ : ClassId) (sz : Nat) (q q_tables : Nat) (u_begun : Int32) (u_table : Int32) (u_row : Int32) (u_column : Int32) (u_tens : Int32) (r : Int32) (u_table' : Int32) (u_row' : Int32) (u_column' : Int32) (u_tens' : Int32) (hf : pX4_takesSemicolon u_table u_row u_column u_tens = some (r, u_table', u_row', u_column', u_tens')) : kMet l D cI cZ cJ yX4_takesSemicolon wsX4_takesSemicolon 1 21 [.ref q] [(q, .inr (4, [.ref q_tables, .int u_begun, .int u_table, .int u_row, .int u_column, .int u_tens]))] sz (some (.int r)) [(q, .inr (4, [.ref q_tables, .int u_begun, .int u_table', .int u_row', .int u_column', .int u_tens']))] := by
  refine kM_of (cc := cX4_takesSemicolon) (maxL := 1) (ret := (some .boolean)) (by decide) rfl (Nat.le_of_ble_eq_true rfl) ?_
  intro p e s m args below meth c A Q ls hQ C hlocks hr hE hW hl
  have hx := C.1
  have hb := C.2.1
  have hts := C.2.2.2.2
  have hl : lv_has ls 1 [(0, .ref q)] := hl
  have iX4 : ∀ w ∈ u_ws RX4 TX4 6, w ∈ wsX4_takesSemicolon := by decide +kernel
  have f22 := hts (.fieldLink RX4 22 "SortedTables$Reader" "table" "I") (by decide +kernel)
  unfold pX4_takesSemicolon at hf
  refine lv_aload_n hx hb dX4_takesSemicolon_0 rfl (lv_at hl 0 rfl) ?_
  refine k_get C hE hW iX4 0 rfl rfl 2 (by decide) f22 (fun _ h9 => h9) rfl dX4_takesSemicolon_1 ?_
  refine lv_if_ne (tgt := 14) hx hb dX4_takesSemicolon_4 (by decide) (fun hc => ?_) (fun hc => ?_)
  · replace hf := if_f hc hf
    refine lv_iconst (v := 0) hx hb dX4_takesSemicolon_14 (by decide) ?_
    obtain ⟨rfl, rfl, rfl, rfl, rfl⟩ := sm5 hf
    exact k_zret C hlocks hr hW (by decide) hQ dX4_takesSemicolon_15
  · replace hf := if_t hc hf
    refine lv_aload_n hx hb dX4_takesSemicolon_7 rfl (lv_at hl 0 rfl) ?_
    obtain ⟨v1, h2, hf⟩ := bd1_s hf
    refine k_callVR (b := q) (ci := 4) (qb := 0) (As := []) (n := 0) (rest := []) (st1 := [.int v1]) C hE hW hl.1 (kX4_canEndTable l D cI cZ cJ _ q q_tables u_begun u_table u_row u_column u_tens v1 h2) gX4_takesSemicolon_X4_canEndTable rfl (by decide +kernel) rfl ⟨Nat.le_of_ble_eq_true rfl, Nat.le_of_ble_eq_true rfl⟩ ⟨Nat.zero_le _, Nat.zero_le _⟩ rfl rfl [0] rfl rfl (Nat.le_of_ble_eq_true rfl) rfl rfl dX4_takesSemicolon_8 (fun H locs hW => ?_)
    refine lv_if_ne (tgt := 16) hx hb dX4_takesSemicolon_11 (by decide) (fun hc => ?_) (fun hc => ?_)
    · replace hf := if_f hc hf
      refine lv_aload_n hx hb dX4_takesSemicolon_16 rfl (lv_at hl 0 rfl) ?_
      refine lv_iconst (v := 1) hx hb dX4_takesSemicolon_17 (by decide) ?_
      obtain ⟨⟨w3, w4, w5, w6⟩, h7, hf⟩ := bd1_s hf
      replace hf := un4_s hf
      refine k_callV (b := q) (ci := 4) (qb := 0) (As := [.int 1]) (n := 1) (rest := []) (st1 := []) (wr := []) (ws' := [(q, .inr (4, [.ref q_tables, .int u_begun, .int w3, .int w4, .int w5, .int w6]))]) C hE hW hl.1 (kX4_begin l D cI cZ cJ _ q q_tables u_begun u_table u_row u_column u_tens 1 w3 w4 w5 w6 h7) gX4_takesSemicolon_X4_begin rfl (by decide +kernel) rfl ⟨Nat.le_of_ble_eq_true rfl, Nat.le_of_ble_eq_true rfl⟩ ⟨Nat.zero_le _, Nat.zero_le _⟩ rfl rfl [0] [] [0] rfl rfl rfl rfl (by decide) rfl rfl (Nat.le_of_ble_eq_true rfl) rfl rfl dX4_takesSemicolon_18 (fun H locs hW => ?_)
      refine lv_iconst (v := 1) hx hb dX4_takesSemicolon_21 (by decide) ?_
      obtain ⟨rfl, rfl, rfl, rfl, rfl⟩ := sm5 hf
      exact k_zret C hlocks hr hW (by decide) hQ dX4_takesSemicolon_22
    · replace hf := if_t hc hf
      refine lv_iconst (v := 0) hx hb dX4_takesSemicolon_14 (by decide) ?_
      obtain ⟨rfl, rfl, rfl, rfl, rfl⟩ := sm5 hf
      exact k_zret C hlocks hr hW (by decide) hQ dX4_takesSemicolon_15

set_option maxHeartbeats 4000000 in
set_option maxRecDepth 100000 in
theorem kX4_takesSlash (l : Launch) (D : va_G) (cI cZ cJ : ClassId) (sz : Nat) (q q_tables : Nat) (u_begun : Int32) (u_table : Int32) (u_row : Int32) (u_column : Int32) (u_tens : Int32) (r : Int32) (u_row' : Int32) (u_column' : Int32) (hf : pX4_takesSlash u_row u_column u_tens = some (r, u_row', u_column')) : kMet l D cI cZ cJ yX4_takesSlash wsX4_takesSlash 0 0 [.ref q] [(q, .inr (4, [.ref q_tables, .int u_begun, .int u_table, .int u_row, .int u_column, .int u_tens]))] sz (some (.int r)) [(q, .inr (4, [.ref q_tables, .int u_begun, .int u_table, .int u_row', .int u_column', .int u_tens]))] := by
  refine kM_of (cc := cX4_takesSlash) (maxL := 1) (ret := (some .boolean)) (by decide) rfl (Nat.le_of_ble_eq_true rfl) ?_
  intro p e s m args below meth c A Q ls hQ C hlocks hr hE hW hl
  have hx := C.1
  have hb := C.2.1
  have hts := C.2.2.2.2
  have hl : lv_has ls 1 [(0, .ref q)] := hl
  have iX4 : ∀ w ∈ u_ws RX4 TX4 6, w ∈ wsX4_takesSlash := by decide +kernel
  have f26 := hts (.fieldLink RX4 26 "SortedTables$Reader" "row" "I") (by decide +kernel)
  have f29 := hts (.fieldLink RX4 29 "SortedTables$Reader" "column" "I") (by decide +kernel)
  have f32 := hts (.fieldLink RX4 32 "SortedTables$Reader" "tens" "I") (by decide +kernel)
  unfold pX4_takesSlash at hf
  refine lv_aload_n hx hb dX4_takesSlash_0 rfl (lv_at hl 0 rfl) ?_
  refine k_get C hE hW iX4 0 rfl rfl 5 (by decide) f32 (fun _ h9 => h9) rfl dX4_takesSlash_1 ?_
  refine lv_iconst (v := (-1)) hx hb dX4_takesSlash_4 (by decide) ?_
  refine lv_icmp_ne (tgt := 23) hx hb dX4_takesSlash_5 (by decide) (fun hc => ?_) (fun hc => ?_)
  · replace hf := if_f hc hf
    refine lv_iconst (v := 0) hx hb dX4_takesSlash_23 (by decide) ?_
    obtain ⟨rfl, rfl, rfl⟩ := sm3 hf
    exact k_zret C hlocks hr hW (by decide) hQ dX4_takesSlash_24
  · replace hf := if_t hc hf
    refine lv_aload_n hx hb dX4_takesSlash_8 rfl (lv_at hl 0 rfl) ?_
    refine k_get C hE hW iX4 0 rfl rfl 4 (by decide) f29 (fun _ h9 => h9) rfl dX4_takesSlash_9 ?_
    refine lv_if_eq (tgt := 23) hx hb dX4_takesSlash_12 (by decide) (fun hc => ?_) (fun hc => ?_)
    · replace hf := if_t hc hf
      refine lv_iconst (v := 0) hx hb dX4_takesSlash_23 (by decide) ?_
      obtain ⟨rfl, rfl, rfl⟩ := sm3 hf
      exact k_zret C hlocks hr hW (by decide) hQ dX4_takesSlash_24
    · replace hf := if_f hc hf
      refine lv_aload_n hx hb dX4_takesSlash_15 rfl (lv_at hl 0 rfl) ?_
      refine k_get C hE hW iX4 0 rfl rfl 3 (by decide) f26 (fun _ h9 => h9) rfl dX4_takesSlash_16 ?_
      refine lv_iconst (v := 5) hx hb dX4_takesSlash_19 (by decide) ?_
      refine lv_icmp_ne (tgt := 25) hx hb dX4_takesSlash_20 (by decide) (fun hc => ?_) (fun hc => ?_)
      · replace hf := if_f hc hf
        refine lv_aload_n hx hb dX4_takesSlash_25 rfl (lv_at hl 0 rfl) ?_
        refine lv_dup hx hb dX4_takesSlash_26 rfl ?_
        refine k_get C hE hW iX4 0 rfl rfl 3 (by decide) f26 (fun _ h9 => h9) rfl dX4_takesSlash_27 ?_
        refine lv_iconst (v := 1) hx hb dX4_takesSlash_30 (by decide) ?_
        refine lv_iadd hx hb dX4_takesSlash_31 ?_
        refine k_put (v := .int (u_row + 1)) (ty := .int) (ws' := [(q, .inr (4, [.ref q_tables, .int u_begun, .int u_table, .int (u_row + 1), .int u_column, .int u_tens]))]) C hE hW iX4 tyX4_ok nmX4 0 rfl rfl 3 (by decide) f26 (fun _ h9 => h9) rfl (by decide +kernel) rfl rfl (Nat.le_of_ble_eq_true rfl) rfl dX4_takesSlash_32 (fun H locs hW => ?_)
        refine lv_aload_n hx hb dX4_takesSlash_35 rfl (lv_at hl 0 rfl) ?_
        refine lv_iconst (v := 0) hx hb dX4_takesSlash_36 (by decide) ?_
        refine k_put (v := .int 0) (ty := .int) (ws' := [(q, .inr (4, [.ref q_tables, .int u_begun, .int u_table, .int (u_row + 1), .int 0, .int u_tens]))]) C hE hW iX4 tyX4_ok nmX4 0 rfl rfl 4 (by decide) f29 (fun _ h9 => h9) rfl (by decide +kernel) rfl rfl (Nat.le_of_ble_eq_true rfl) rfl dX4_takesSlash_37 (fun H locs hW => ?_)
        refine lv_iconst (v := 1) hx hb dX4_takesSlash_40 (by decide) ?_
        obtain ⟨rfl, rfl, rfl⟩ := sm3 hf
        exact k_zret C hlocks hr hW (by decide) hQ dX4_takesSlash_41
      · replace hf := if_t hc hf
        refine lv_iconst (v := 0) hx hb dX4_takesSlash_23 (by decide) ?_
        obtain ⟨rfl, rfl, rfl⟩ := sm3 hf
        exact k_zret C hlocks hr hW (by decide) hQ dX4_takesSlash_24

set_option maxHeartbeats 4000000 in
set_option maxRecDepth 100000 in
theorem kX4_leastNumber (l : Launch) (D : va_G) (cI cZ cJ : ClassId) (sz : Nat) (q r0 r0_numbers q_tables : Nat) (u_begun : Int32) (u_table : Int32) (u_row : Int32) (u_column : Int32) (u_tens : Int32) (u0_numbers : Nat → Int32) (r : Int32) (hf : pX4_leastNumber u_row u_column u0_numbers = some r) : kMet l D cI cZ cJ yX4_leastNumber wsX4_leastNumber 1 22 [.ref q, .ref r0] [(q, .inr (4, [.ref q_tables, .int u_begun, .int u_table, .int u_row, .int u_column, .int u_tens])), (r0, .inr (6, [.ref r0_numbers])), (r0_numbers, .inl (cI, 36, .inl u0_numbers))] sz (some (.int r)) [(q, .inr (4, [.ref q_tables, .int u_begun, .int u_table, .int u_row, .int u_column, .int u_tens])), (r0, .inr (6, [.ref r0_numbers])), (r0_numbers, .inl (cI, 36, .inl u0_numbers))] := by
  refine kM_of (cc := cX4_leastNumber) (maxL := 2) (ret := (some .int)) (by decide) rfl (Nat.le_of_ble_eq_true rfl) ?_
  intro p e s m args below meth c A Q ls hQ C hlocks hr hE hW hl
  have hx := C.1
  have hb := C.2.1
  have hts := C.2.2.2.2
  have hl : lv_has ls 2 [(0, .ref q), (1, .ref r0)] := hl
  have iX4 : ∀ w ∈ u_ws RX4 TX4 6, w ∈ wsX4_leastNumber := by decide +kernel
  have f26 := hts (.fieldLink RX4 26 "SortedTables$Reader" "row" "I") (by decide +kernel)
  have f29 := hts (.fieldLink RX4 29 "SortedTables$Reader" "column" "I") (by decide +kernel)
  unfold pX4_leastNumber at hf
  refine lv_aload_n hx hb dX4_leastNumber_0 rfl (lv_at hl 1 rfl) ?_
  refine lv_aload_n hx hb dX4_leastNumber_1 rfl (lv_at hl 0 rfl) ?_
  refine k_get C hE hW iX4 0 rfl rfl 3 (by decide) f26 (fun _ h9 => h9) rfl dX4_leastNumber_2 ?_
  refine lv_iconst (v := 1) hx hb dX4_leastNumber_5 (by decide) ?_
  refine lv_isub hx hb dX4_leastNumber_6 ?_
  refine lv_aload_n hx hb dX4_leastNumber_7 rfl (lv_at hl 0 rfl) ?_
  refine k_get C hE hW iX4 0 rfl rfl 4 (by decide) f29 (fun _ h9 => h9) rfl dX4_leastNumber_8 ?_
  obtain ⟨v1, h2, hf⟩ := bd1_s hf
  refine k_callVR (b := r0) (ci := 6) (qb := 0) (As := [.int (u_row - 1), .int u_column]) (n := 2) (rest := []) (st1 := [.int v1]) C hE hW hl.1 (kX7_at l D cI cZ cJ _ r0 r0_numbers u0_numbers (u_row - 1) u_column v1 h2) gX4_leastNumber_X7_at rfl (by decide +kernel) rfl ⟨Nat.le_of_ble_eq_true rfl, Nat.le_of_ble_eq_true rfl⟩ ⟨Nat.zero_le _, Nat.zero_le _⟩ rfl rfl [1, 2] rfl rfl (Nat.le_of_ble_eq_true rfl) rfl rfl dX4_leastNumber_11 (fun H locs hW => ?_)
  refine lv_aload_n hx hb dX4_leastNumber_14 rfl (lv_at hl 1 rfl) ?_
  refine lv_aload_n hx hb dX4_leastNumber_15 rfl (lv_at hl 0 rfl) ?_
  refine k_get C hE hW iX4 0 rfl rfl 3 (by decide) f26 (fun _ h9 => h9) rfl dX4_leastNumber_16 ?_
  refine lv_aload_n hx hb dX4_leastNumber_19 rfl (lv_at hl 0 rfl) ?_
  refine k_get C hE hW iX4 0 rfl rfl 4 (by decide) f29 (fun _ h9 => h9) rfl dX4_leastNumber_20 ?_
  refine lv_iconst (v := 1) hx hb dX4_leastNumber_23 (by decide) ?_
  refine lv_isub hx hb dX4_leastNumber_24 ?_
  obtain ⟨v3, h4, hf⟩ := bd1_s hf
  refine k_callVR (b := r0) (ci := 6) (qb := 0) (As := [.int u_row, .int (u_column - 1)]) (n := 2) (rest := [.int v1]) (st1 := [.int v3, .int v1]) C hE hW hl.1 (kX7_at l D cI cZ cJ _ r0 r0_numbers u0_numbers u_row (u_column - 1) v3 h4) gX4_leastNumber_X7_at rfl (by decide +kernel) rfl ⟨Nat.le_of_ble_eq_true rfl, Nat.le_of_ble_eq_true rfl⟩ ⟨Nat.zero_le _, Nat.zero_le _⟩ rfl rfl [1, 2] rfl rfl (Nat.le_of_ble_eq_true rfl) rfl rfl dX4_leastNumber_25 (fun H locs hW => ?_)
  refine k_mmax C hl.1 (by decide +kernel) (by decide +kernel) (by decide +kernel) (by decide +kernel) (Nat.le_of_ble_eq_true rfl) (Nat.le_of_ble_eq_true rfl) (Nat.zero_le _) (Nat.zero_le _) dX4_leastNumber_28 ?_
  obtain rfl := Option.some.inj hf
  exact k_iret C hlocks hr hW hQ dX4_leastNumber_31

set_option maxHeartbeats 4000000 in
set_option maxRecDepth 100000 in
theorem kX4_takesTens (l : Launch) (D : va_G) (cI cZ cJ : ClassId) (sz : Nat) (q q_tables q_tables_first q_tables_first_numbers q_tables_second q_tables_second_numbers : Nat) (u_begun : Int32) (u_table : Int32) (u_row : Int32) (u_column : Int32) (u_tens : Int32) (u_tables_first_numbers : Nat → Int32) (u_tables_second_numbers : Nat → Int32) (p0 : Int32) (r : Int32) (u_tens' : Int32) (hf : pX4_takesTens u_table u_row u_column u_tens u_tables_first_numbers u_tables_second_numbers p0 = some (r, u_tens')) : kMet l D cI cZ cJ yX4_takesTens wsX4_takesTens 2 43 [.ref q, .int p0] [(q, .inr (4, [.ref q_tables, .int u_begun, .int u_table, .int u_row, .int u_column, .int u_tens])), (q_tables, .inr (2, [.ref q_tables_first, .ref q_tables_second])), (q_tables_first, .inr (6, [.ref q_tables_first_numbers])), (q_tables_first_numbers, .inl (cI, 36, .inl u_tables_first_numbers)), (q_tables_second, .inr (6, [.ref q_tables_second_numbers])), (q_tables_second_numbers, .inl (cI, 36, .inl u_tables_second_numbers))] sz (some (.int r)) [(q, .inr (4, [.ref q_tables, .int u_begun, .int u_table, .int u_row, .int u_column, .int u_tens'])), (q_tables, .inr (2, [.ref q_tables_first, .ref q_tables_second])), (q_tables_first, .inr (6, [.ref q_tables_first_numbers])), (q_tables_first_numbers, .inl (cI, 36, .inl u_tables_first_numbers)), (q_tables_second, .inr (6, [.ref q_tables_second_numbers])), (q_tables_second_numbers, .inl (cI, 36, .inl u_tables_second_numbers))] := by
  refine kM_of (cc := cX4_takesTens) (maxL := 4) (ret := (some .boolean)) (by decide) rfl (Nat.le_of_ble_eq_true rfl) ?_
  intro p e s m args below meth c A Q ls hQ C hlocks hr hE hW hl
  have hx := C.1
  have hb := C.2.1
  have hts := C.2.2.2.2
  have hl : lv_has ls 4 [(0, .ref q), (1, .int p0)] := hl
  have iX4 : ∀ w ∈ u_ws RX4 TX4 6, w ∈ wsX4_takesTens := by decide +kernel
  have f12 := hts (.fieldLink RX4 12 "SortedTables$Reader" "tables" "LSortedTables$Pair;") (by decide +kernel)
  have f22 := hts (.fieldLink RX4 22 "SortedTables$Reader" "table" "I") (by decide +kernel)
  have f26 := hts (.fieldLink RX4 26 "SortedTables$Reader" "row" "I") (by decide +kernel)
  have f29 := hts (.fieldLink RX4 29 "SortedTables$Reader" "column" "I") (by decide +kernel)
  have f32 := hts (.fieldLink RX4 32 "SortedTables$Reader" "tens" "I") (by decide +kernel)
  unfold pX4_takesTens at hf
  refine lv_aload_n hx hb dX4_takesTens_0 rfl (lv_at hl 0 rfl) ?_
  refine k_get C hE hW iX4 0 rfl rfl 0 (by decide) f12 (fun _ h9 => h9) rfl dX4_takesTens_1 ?_
  refine lv_aload_n hx hb dX4_takesTens_4 rfl (lv_at hl 0 rfl) ?_
  refine k_get C hE hW iX4 0 rfl rfl 2 (by decide) f22 (fun _ h9 => h9) rfl dX4_takesTens_5 ?_
  obtain ⟨b1, h2, hf⟩ := bd1_s hf
  cases b1 with
  | true =>
    replace hf := cd_t hf
    refine k_callVR (b := q_tables) (ci := 2) (qb := 0) (As := [.int u_table]) (n := 1) (rest := []) (st1 := [.ref q_tables_first]) C hE hW hl.1 (kX2_table l D cI cZ cJ _ q_tables q_tables_first q_tables_second u_table true h2) gX4_takesTens_X2_table rfl (by decide +kernel) rfl ⟨Nat.le_of_ble_eq_true rfl, Nat.le_of_ble_eq_true rfl⟩ ⟨Nat.zero_le _, Nat.zero_le _⟩ rfl rfl [1] rfl rfl (Nat.le_of_ble_eq_true rfl) rfl rfl dX4_takesTens_8 (fun H locs hW => ?_)
    refine lv_astore_n (lv' := [(2, .ref q_tables_first), (0, .ref q), (1, .int p0)]) hx hb dX4_takesTens_11 rfl hl (by decide) rfl (fun ls hl => ?_)
    refine lv_aload_n hx hb dX4_takesTens_12 rfl (lv_at hl 1 rfl) ?_
    refine k_get C hE hW iX4 0 rfl rfl 3 (by decide) f26 (fun _ h9 => h9) rfl dX4_takesTens_13 ?_
    obtain ⟨j3, hd4, hf⟩ := bd1_s hf
    have J5 : ∀ (H : Heap) (locs : List Loc) (ls : Array Slot), kH D A s H locs [(q, .inr (4, [.ref q_tables, .int u_begun, .int u_table, .int u_row, .int u_column, .int u_tens])), (q_tables, .inr (2, [.ref q_tables_first, .ref q_tables_second])), (q_tables_first, .inr (6, [.ref q_tables_first_numbers])), (q_tables_first_numbers, .inl (cI, 36, .inl u_tables_first_numbers)), (q_tables_second, .inr (6, [.ref q_tables_second_numbers])), (q_tables_second_numbers, .inl (cI, 36, .inl u_tables_second_numbers))] → lv_has ls 4 [(0, .ref q), (1, .int p0), (2, .ref q_tables_first)] → W p l e (kRm 2 43 0 0) s m args below meth c H locs 0 0 Q (F0 m 34 ls [.int j3]) := by
      intro H locs ls hW hl
      refine lv_istore_n (lv' := [(3, .int j3), (0, .ref q), (1, .int p0), (2, .ref q_tables_first)]) hx hb dX4_takesTens_34 rfl hl (by decide) rfl (fun ls hl => ?_)
      refine lv_aload_n hx hb dX4_takesTens_35 rfl (lv_at hl 1 rfl) ?_
      refine k_get C hE hW iX4 0 rfl rfl 4 (by decide) f29 (fun _ h9 => h9) rfl dX4_takesTens_36 ?_
      refine lv_iload_n hx hb dX4_takesTens_39 rfl (lv_at hl 0 rfl) ?_
      refine lv_icmp_ge (tgt := 58) hx hb dX4_takesTens_40 (by decide) (fun hc => ?_) (fun hc => ?_)
      · replace hf := if_t hc hf
        refine lv_iconst (v := 0) hx hb dX4_takesTens_58 (by decide) ?_
        obtain ⟨rfl, rfl⟩ := sm2 hf
        exact k_zret C hlocks hr hW (by decide) hQ dX4_takesTens_59
      · replace hf := if_f hc hf
        refine lv_bipush (v := 10) hx hb dX4_takesTens_43 (by decide) ?_
        refine lv_iload_n hx hb dX4_takesTens_45 rfl (lv_at hl 2 rfl) ?_
        refine lv_imul hx hb dX4_takesTens_46 ?_
        refine lv_bipush (v := 9) hx hb dX4_takesTens_47 (by decide) ?_
        refine lv_iadd hx hb dX4_takesTens_49 ?_
        refine lv_aload_n hx hb dX4_takesTens_50 rfl (lv_at hl 1 rfl) ?_
        refine lv_aload_n hx hb dX4_takesTens_51 rfl (lv_at hl 3 rfl) ?_
        obtain ⟨v8, h9, hf⟩ := bd1_s hf
        refine k_callVR (b := q) (ci := 4) (qb := 0) (As := [.ref q_tables_first]) (n := 1) (rest := [.int ((10 * p0) + 9)]) (st1 := [.int v8, .int ((10 * p0) + 9)]) C hE hW hl.1 (kX4_leastNumber l D cI cZ cJ _ q q_tables_first q_tables_first_numbers q_tables u_begun u_table u_row u_column u_tens u_tables_first_numbers v8 h9) gX4_takesTens_X4_leastNumber rfl (by decide +kernel) rfl ⟨Nat.le_of_ble_eq_true rfl, Nat.le_of_ble_eq_true rfl⟩ ⟨Nat.zero_le _, Nat.zero_le _⟩ rfl rfl [0, 2, 3] rfl rfl (Nat.le_of_ble_eq_true rfl) rfl rfl dX4_takesTens_52 (fun H locs hW => ?_)
        refine lv_icmp_ge (tgt := 60) hx hb dX4_takesTens_55 (by decide) (fun hc => ?_) (fun hc => ?_)
        · replace hf := if_t hc hf
          refine lv_aload_n hx hb dX4_takesTens_60 rfl (lv_at hl 1 rfl) ?_
          refine lv_iload_n hx hb dX4_takesTens_61 rfl (lv_at hl 2 rfl) ?_
          refine k_put (v := .int p0) (ty := .int) (ws' := [(q, .inr (4, [.ref q_tables, .int u_begun, .int u_table, .int u_row, .int u_column, .int p0])), (q_tables, .inr (2, [.ref q_tables_first, .ref q_tables_second])), (q_tables_first, .inr (6, [.ref q_tables_first_numbers])), (q_tables_first_numbers, .inl (cI, 36, .inl u_tables_first_numbers)), (q_tables_second, .inr (6, [.ref q_tables_second_numbers])), (q_tables_second_numbers, .inl (cI, 36, .inl u_tables_second_numbers))]) C hE hW iX4 tyX4_ok nmX4 0 rfl rfl 5 (by decide) f32 (fun _ h9 => h9) rfl (by decide +kernel) rfl rfl (Nat.le_of_ble_eq_true rfl) rfl dX4_takesTens_62 (fun H locs hW => ?_)
          refine lv_iconst (v := 1) hx hb dX4_takesTens_65 (by decide) ?_
          obtain ⟨rfl, rfl⟩ := sm2 hf
          exact k_zret C hlocks hr hW (by decide) hQ dX4_takesTens_66
        · replace hf := if_f hc hf
          refine lv_iconst (v := 0) hx hb dX4_takesTens_58 (by decide) ?_
          obtain ⟨rfl, rfl⟩ := sm2 hf
          exact k_zret C hlocks hr hW (by decide) hQ dX4_takesTens_59
    refine lv_if_ne (tgt := 24) hx hb dX4_takesTens_16 (by decide) (fun hc => ?_) (fun hc => ?_)
    · replace hd4 := if_f hc hd4
      refine lv_aload_n hx hb dX4_takesTens_24 rfl (lv_at hl 0 rfl) ?_
      refine lv_aload_n hx hb dX4_takesTens_25 rfl (lv_at hl 1 rfl) ?_
      refine k_get C hE hW iX4 0 rfl rfl 3 (by decide) f26 (fun _ h9 => h9) rfl dX4_takesTens_26 ?_
      refine lv_iconst (v := 1) hx hb dX4_takesTens_29 (by decide) ?_
      refine lv_isub hx hb dX4_takesTens_30 ?_
      obtain ⟨v6, h7, hd4⟩ := bd1_s hd4
      refine k_callVR (b := q_tables_first) (ci := 6) (qb := 0) (As := [.int (u_row - 1)]) (n := 1) (rest := []) (st1 := [.int v6]) C hE hW hl.1 (kX7_rowLength l D cI cZ cJ _ q_tables_first q_tables_first_numbers u_tables_first_numbers (u_row - 1) v6 h7) gX4_takesTens_X7_rowLength rfl (by decide +kernel) rfl ⟨Nat.le_of_ble_eq_true rfl, Nat.le_of_ble_eq_true rfl⟩ ⟨Nat.zero_le _, Nat.zero_le _⟩ rfl rfl [2, 3] rfl rfl (Nat.le_of_ble_eq_true rfl) rfl rfl dX4_takesTens_31 (fun H locs hW => ?_)
      obtain rfl := Option.some.inj hd4
      exact J5 _ _ _ hW (lv_sub hl [1, 2, 0] rfl)
    · replace hd4 := if_t hc hd4
      refine lv_bipush (v := 6) hx hb dX4_takesTens_19 (by decide) ?_
      refine lv_goto (tgt := 34) hx hb dX4_takesTens_21 (by decide) ?_
      obtain rfl := Option.some.inj hd4
      exact J5 _ _ _ hW (lv_sub hl [1, 2, 0] rfl)
  | false =>
    replace hf := cd_f hf
    refine k_callVR (b := q_tables) (ci := 2) (qb := 0) (As := [.int u_table]) (n := 1) (rest := []) (st1 := [.ref q_tables_second]) C hE hW hl.1 (kX2_table l D cI cZ cJ _ q_tables q_tables_first q_tables_second u_table false h2) gX4_takesTens_X2_table rfl (by decide +kernel) rfl ⟨Nat.le_of_ble_eq_true rfl, Nat.le_of_ble_eq_true rfl⟩ ⟨Nat.zero_le _, Nat.zero_le _⟩ rfl rfl [1] rfl rfl (Nat.le_of_ble_eq_true rfl) rfl rfl dX4_takesTens_8 (fun H locs hW => ?_)
    refine lv_astore_n (lv' := [(2, .ref q_tables_second), (0, .ref q), (1, .int p0)]) hx hb dX4_takesTens_11 rfl hl (by decide) rfl (fun ls hl => ?_)
    refine lv_aload_n hx hb dX4_takesTens_12 rfl (lv_at hl 1 rfl) ?_
    refine k_get C hE hW iX4 0 rfl rfl 3 (by decide) f26 (fun _ h9 => h9) rfl dX4_takesTens_13 ?_
    obtain ⟨j10, hd11, hf⟩ := bd1_s hf
    have J12 : ∀ (H : Heap) (locs : List Loc) (ls : Array Slot), kH D A s H locs [(q, .inr (4, [.ref q_tables, .int u_begun, .int u_table, .int u_row, .int u_column, .int u_tens])), (q_tables, .inr (2, [.ref q_tables_first, .ref q_tables_second])), (q_tables_first, .inr (6, [.ref q_tables_first_numbers])), (q_tables_first_numbers, .inl (cI, 36, .inl u_tables_first_numbers)), (q_tables_second, .inr (6, [.ref q_tables_second_numbers])), (q_tables_second_numbers, .inl (cI, 36, .inl u_tables_second_numbers))] → lv_has ls 4 [(0, .ref q), (1, .int p0), (2, .ref q_tables_second)] → W p l e (kRm 2 43 0 0) s m args below meth c H locs 0 0 Q (F0 m 34 ls [.int j10]) := by
      intro H locs ls hW hl
      refine lv_istore_n (lv' := [(3, .int j10), (0, .ref q), (1, .int p0), (2, .ref q_tables_second)]) hx hb dX4_takesTens_34 rfl hl (by decide) rfl (fun ls hl => ?_)
      refine lv_aload_n hx hb dX4_takesTens_35 rfl (lv_at hl 1 rfl) ?_
      refine k_get C hE hW iX4 0 rfl rfl 4 (by decide) f29 (fun _ h9 => h9) rfl dX4_takesTens_36 ?_
      refine lv_iload_n hx hb dX4_takesTens_39 rfl (lv_at hl 0 rfl) ?_
      refine lv_icmp_ge (tgt := 58) hx hb dX4_takesTens_40 (by decide) (fun hc => ?_) (fun hc => ?_)
      · replace hf := if_t hc hf
        refine lv_iconst (v := 0) hx hb dX4_takesTens_58 (by decide) ?_
        obtain ⟨rfl, rfl⟩ := sm2 hf
        exact k_zret C hlocks hr hW (by decide) hQ dX4_takesTens_59
      · replace hf := if_f hc hf
        refine lv_bipush (v := 10) hx hb dX4_takesTens_43 (by decide) ?_
        refine lv_iload_n hx hb dX4_takesTens_45 rfl (lv_at hl 2 rfl) ?_
        refine lv_imul hx hb dX4_takesTens_46 ?_
        refine lv_bipush (v := 9) hx hb dX4_takesTens_47 (by decide) ?_
        refine lv_iadd hx hb dX4_takesTens_49 ?_
        refine lv_aload_n hx hb dX4_takesTens_50 rfl (lv_at hl 1 rfl) ?_
        refine lv_aload_n hx hb dX4_takesTens_51 rfl (lv_at hl 3 rfl) ?_
        obtain ⟨v15, h16, hf⟩ := bd1_s hf
        refine k_callVR (b := q) (ci := 4) (qb := 0) (As := [.ref q_tables_second]) (n := 1) (rest := [.int ((10 * p0) + 9)]) (st1 := [.int v15, .int ((10 * p0) + 9)]) C hE hW hl.1 (kX4_leastNumber l D cI cZ cJ _ q q_tables_second q_tables_second_numbers q_tables u_begun u_table u_row u_column u_tens u_tables_second_numbers v15 h16) gX4_takesTens_X4_leastNumber rfl (by decide +kernel) rfl ⟨Nat.le_of_ble_eq_true rfl, Nat.le_of_ble_eq_true rfl⟩ ⟨Nat.zero_le _, Nat.zero_le _⟩ rfl rfl [0, 4, 5] rfl rfl (Nat.le_of_ble_eq_true rfl) rfl rfl dX4_takesTens_52 (fun H locs hW => ?_)
        refine lv_icmp_ge (tgt := 60) hx hb dX4_takesTens_55 (by decide) (fun hc => ?_) (fun hc => ?_)
        · replace hf := if_t hc hf
          refine lv_aload_n hx hb dX4_takesTens_60 rfl (lv_at hl 1 rfl) ?_
          refine lv_iload_n hx hb dX4_takesTens_61 rfl (lv_at hl 2 rfl) ?_
          refine k_put (v := .int p0) (ty := .int) (ws' := [(q, .inr (4, [.ref q_tables, .int u_begun, .int u_table, .int u_row, .int u_column, .int p0])), (q_tables, .inr (2, [.ref q_tables_first, .ref q_tables_second])), (q_tables_first, .inr (6, [.ref q_tables_first_numbers])), (q_tables_first_numbers, .inl (cI, 36, .inl u_tables_first_numbers)), (q_tables_second, .inr (6, [.ref q_tables_second_numbers])), (q_tables_second_numbers, .inl (cI, 36, .inl u_tables_second_numbers))]) C hE hW iX4 tyX4_ok nmX4 0 rfl rfl 5 (by decide) f32 (fun _ h9 => h9) rfl (by decide +kernel) rfl rfl (Nat.le_of_ble_eq_true rfl) rfl dX4_takesTens_62 (fun H locs hW => ?_)
          refine lv_iconst (v := 1) hx hb dX4_takesTens_65 (by decide) ?_
          obtain ⟨rfl, rfl⟩ := sm2 hf
          exact k_zret C hlocks hr hW (by decide) hQ dX4_takesTens_66
        · replace hf := if_f hc hf
          refine lv_iconst (v := 0) hx hb dX4_takesTens_58 (by decide) ?_
          obtain ⟨rfl, rfl⟩ := sm2 hf
          exact k_zret C hlocks hr hW (by decide) hQ dX4_takesTens_59
    refine lv_if_ne (tgt := 24) hx hb dX4_takesTens_16 (by decide) (fun hc => ?_) (fun hc => ?_)
    · replace hd11 := if_f hc hd11
      refine lv_aload_n hx hb dX4_takesTens_24 rfl (lv_at hl 0 rfl) ?_
      refine lv_aload_n hx hb dX4_takesTens_25 rfl (lv_at hl 1 rfl) ?_
      refine k_get C hE hW iX4 0 rfl rfl 3 (by decide) f26 (fun _ h9 => h9) rfl dX4_takesTens_26 ?_
      refine lv_iconst (v := 1) hx hb dX4_takesTens_29 (by decide) ?_
      refine lv_isub hx hb dX4_takesTens_30 ?_
      obtain ⟨v13, h14, hd11⟩ := bd1_s hd11
      refine k_callVR (b := q_tables_second) (ci := 6) (qb := 0) (As := [.int (u_row - 1)]) (n := 1) (rest := []) (st1 := [.int v13]) C hE hW hl.1 (kX7_rowLength l D cI cZ cJ _ q_tables_second q_tables_second_numbers u_tables_second_numbers (u_row - 1) v13 h14) gX4_takesTens_X7_rowLength rfl (by decide +kernel) rfl ⟨Nat.le_of_ble_eq_true rfl, Nat.le_of_ble_eq_true rfl⟩ ⟨Nat.zero_le _, Nat.zero_le _⟩ rfl rfl [4, 5] rfl rfl (Nat.le_of_ble_eq_true rfl) rfl rfl dX4_takesTens_31 (fun H locs hW => ?_)
      obtain rfl := Option.some.inj hd11
      exact J12 _ _ _ hW (lv_sub hl [1, 2, 0] rfl)
    · replace hd11 := if_t hc hd11
      refine lv_bipush (v := 6) hx hb dX4_takesTens_19 (by decide) ?_
      refine lv_goto (tgt := 34) hx hb dX4_takesTens_21 (by decide) ?_
      obtain rfl := Option.some.inj hd11
      exact J12 _ _ _ hW (lv_sub hl [1, 2, 0] rfl)

set_option maxHeartbeats 4000000 in
set_option maxRecDepth 100000 in
theorem kX4_takesUnits (l : Launch) (D : va_G) (cI cZ cJ : ClassId) (sz : Nat) (q q_tables q_tables_first q_tables_first_numbers q_tables_second q_tables_second_numbers : Nat) (u_begun : Int32) (u_table : Int32) (u_row : Int32) (u_column : Int32) (u_tens : Int32) (u_tables_first_numbers : Nat → Int32) (u_tables_second_numbers : Nat → Int32) (p0 : Int32) (r : Int32) (u_column' : Int32) (u_tens' : Int32) (u_tables_first_numbers' : Nat → Int32) (u_tables_second_numbers' : Nat → Int32) (hf : pX4_takesUnits u_table u_row u_column u_tens u_tables_first_numbers u_tables_second_numbers p0 = some (r, u_column', u_tens', u_tables_first_numbers', u_tables_second_numbers')) : kMet l D cI cZ cJ yX4_takesUnits wsX4_takesUnits 2 43 [.ref q, .int p0] [(q, .inr (4, [.ref q_tables, .int u_begun, .int u_table, .int u_row, .int u_column, .int u_tens])), (q_tables, .inr (2, [.ref q_tables_first, .ref q_tables_second])), (q_tables_first, .inr (6, [.ref q_tables_first_numbers])), (q_tables_first_numbers, .inl (cI, 36, .inl u_tables_first_numbers)), (q_tables_second, .inr (6, [.ref q_tables_second_numbers])), (q_tables_second_numbers, .inl (cI, 36, .inl u_tables_second_numbers))] sz (some (.int r)) [(q, .inr (4, [.ref q_tables, .int u_begun, .int u_table, .int u_row, .int u_column', .int u_tens'])), (q_tables, .inr (2, [.ref q_tables_first, .ref q_tables_second])), (q_tables_first, .inr (6, [.ref q_tables_first_numbers])), (q_tables_first_numbers, .inl (cI, 36, .inl u_tables_first_numbers')), (q_tables_second, .inr (6, [.ref q_tables_second_numbers])), (q_tables_second_numbers, .inl (cI, 36, .inl u_tables_second_numbers'))] := by
  refine kM_of (cc := cX4_takesUnits) (maxL := 4) (ret := (some .boolean)) (by decide) rfl (Nat.le_of_ble_eq_true rfl) ?_
  intro p e s m args below meth c A Q ls hQ C hlocks hr hE hW hl
  have hx := C.1
  have hb := C.2.1
  have hts := C.2.2.2.2
  have hl : lv_has ls 4 [(0, .ref q), (1, .int p0)] := hl
  have iX4 : ∀ w ∈ u_ws RX4 TX4 6, w ∈ wsX4_takesUnits := by decide +kernel
  have f12 := hts (.fieldLink RX4 12 "SortedTables$Reader" "tables" "LSortedTables$Pair;") (by decide +kernel)
  have f22 := hts (.fieldLink RX4 22 "SortedTables$Reader" "table" "I") (by decide +kernel)
  have f26 := hts (.fieldLink RX4 26 "SortedTables$Reader" "row" "I") (by decide +kernel)
  have f29 := hts (.fieldLink RX4 29 "SortedTables$Reader" "column" "I") (by decide +kernel)
  have f32 := hts (.fieldLink RX4 32 "SortedTables$Reader" "tens" "I") (by decide +kernel)
  unfold pX4_takesUnits at hf
  refine lv_aload_n hx hb dX4_takesUnits_0 rfl (lv_at hl 0 rfl) ?_
  refine k_get C hE hW iX4 0 rfl rfl 0 (by decide) f12 (fun _ h9 => h9) rfl dX4_takesUnits_1 ?_
  refine lv_aload_n hx hb dX4_takesUnits_4 rfl (lv_at hl 0 rfl) ?_
  refine k_get C hE hW iX4 0 rfl rfl 2 (by decide) f22 (fun _ h9 => h9) rfl dX4_takesUnits_5 ?_
  obtain ⟨b1, h2, hf⟩ := bd1_s hf
  cases b1 with
  | true =>
    replace hf := cd_t hf
    refine k_callVR (b := q_tables) (ci := 2) (qb := 0) (As := [.int u_table]) (n := 1) (rest := []) (st1 := [.ref q_tables_first]) C hE hW hl.1 (kX2_table l D cI cZ cJ _ q_tables q_tables_first q_tables_second u_table true h2) gX4_takesUnits_X2_table rfl (by decide +kernel) rfl ⟨Nat.le_of_ble_eq_true rfl, Nat.le_of_ble_eq_true rfl⟩ ⟨Nat.zero_le _, Nat.zero_le _⟩ rfl rfl [1] rfl rfl (Nat.le_of_ble_eq_true rfl) rfl rfl dX4_takesUnits_8 (fun H locs hW => ?_)
    refine lv_astore_n (lv' := [(2, .ref q_tables_first), (0, .ref q), (1, .int p0)]) hx hb dX4_takesUnits_11 rfl hl (by decide) rfl (fun ls hl => ?_)
    refine lv_bipush (v := 10) hx hb dX4_takesUnits_12 (by decide) ?_
    refine lv_aload_n hx hb dX4_takesUnits_14 rfl (lv_at hl 1 rfl) ?_
    refine k_get C hE hW iX4 0 rfl rfl 5 (by decide) f32 (fun _ h9 => h9) rfl dX4_takesUnits_15 ?_
    refine lv_imul hx hb dX4_takesUnits_18 ?_
    refine lv_iload_n hx hb dX4_takesUnits_19 rfl (lv_at hl 2 rfl) ?_
    refine lv_iadd hx hb dX4_takesUnits_20 ?_
    refine lv_istore_n (lv' := [(3, .int ((10 * u_tens) + p0)), (2, .ref q_tables_first), (0, .ref q), (1, .int p0)]) hx hb dX4_takesUnits_21 rfl hl (by decide) rfl (fun ls hl => ?_)
    refine lv_iload_n hx hb dX4_takesUnits_22 rfl (lv_at hl 0 rfl) ?_
    refine lv_aload_n hx hb dX4_takesUnits_23 rfl (lv_at hl 2 rfl) ?_
    refine lv_aload_n hx hb dX4_takesUnits_24 rfl (lv_at hl 1 rfl) ?_
    obtain ⟨v3, h4, hf⟩ := bd1_s hf
    refine k_callVR (b := q) (ci := 4) (qb := 0) (As := [.ref q_tables_first]) (n := 1) (rest := [.int ((10 * u_tens) + p0)]) (st1 := [.int v3, .int ((10 * u_tens) + p0)]) C hE hW hl.1 (kX4_leastNumber l D cI cZ cJ _ q q_tables_first q_tables_first_numbers q_tables u_begun u_table u_row u_column u_tens u_tables_first_numbers v3 h4) gX4_takesUnits_X4_leastNumber rfl (by decide +kernel) rfl ⟨Nat.le_of_ble_eq_true rfl, Nat.le_of_ble_eq_true rfl⟩ ⟨Nat.zero_le _, Nat.zero_le _⟩ rfl rfl [0, 2, 3] rfl rfl (Nat.le_of_ble_eq_true rfl) rfl rfl dX4_takesUnits_25 (fun H locs hW => ?_)
    refine lv_icmp_ge (tgt := 33) hx hb dX4_takesUnits_28 (by decide) (fun hc => ?_) (fun hc => ?_)
    · replace hf := if_t hc hf
      refine lv_aload_n hx hb dX4_takesUnits_33 rfl (lv_at hl 1 rfl) ?_
      refine lv_aload_n hx hb dX4_takesUnits_34 rfl (lv_at hl 2 rfl) ?_
      refine k_get C hE hW iX4 0 rfl rfl 3 (by decide) f26 (fun _ h9 => h9) rfl dX4_takesUnits_35 ?_
      refine lv_aload_n hx hb dX4_takesUnits_38 rfl (lv_at hl 2 rfl) ?_
      refine k_get C hE hW iX4 0 rfl rfl 4 (by decide) f29 (fun _ h9 => h9) rfl dX4_takesUnits_39 ?_
      refine lv_iload_n hx hb dX4_takesUnits_42 rfl (lv_at hl 0 rfl) ?_
      obtain ⟨w5, h6, hf⟩ := bd1_s hf
      refine k_callV (b := q_tables_first) (ci := 6) (qb := 0) (As := [.int u_row, .int u_column, .int ((10 * u_tens) + p0)]) (n := 3) (rest := []) (st1 := []) (wr := [(q, .inr (4, [.ref q_tables, .int u_begun, .int u_table, .int u_row, .int u_column, .int u_tens])), (q_tables, .inr (2, [.ref q_tables_first, .ref q_tables_second])), (q_tables_second, .inr (6, [.ref q_tables_second_numbers])), (q_tables_second_numbers, .inl (cI, 36, .inl u_tables_second_numbers))]) (ws' := [(q, .inr (4, [.ref q_tables, .int u_begun, .int u_table, .int u_row, .int u_column, .int u_tens])), (q_tables, .inr (2, [.ref q_tables_first, .ref q_tables_second])), (q_tables_first, .inr (6, [.ref q_tables_first_numbers])), (q_tables_first_numbers, .inl (cI, 36, .inl w5)), (q_tables_second, .inr (6, [.ref q_tables_second_numbers])), (q_tables_second_numbers, .inl (cI, 36, .inl u_tables_second_numbers))]) C hE hW hl.1 (kX7_put l D cI cZ cJ _ q_tables_first q_tables_first_numbers u_tables_first_numbers u_row u_column ((10 * u_tens) + p0) w5 h6) gX4_takesUnits_X7_put rfl (by decide +kernel) rfl ⟨Nat.le_of_ble_eq_true rfl, Nat.le_of_ble_eq_true rfl⟩ ⟨Nat.zero_le _, Nat.zero_le _⟩ rfl rfl [2, 3] [0, 1, 4, 5] [0, 1, 4, 5, 2, 3] rfl rfl rfl rfl (by decide) rfl rfl (Nat.le_of_ble_eq_true rfl) rfl rfl dX4_takesUnits_43 (fun H locs hW => ?_)
      refine lv_aload_n hx hb dX4_takesUnits_46 rfl (lv_at hl 2 rfl) ?_
      refine lv_dup hx hb dX4_takesUnits_47 rfl ?_
      refine k_get C hE hW iX4 0 rfl rfl 4 (by decide) f29 (fun _ h9 => h9) rfl dX4_takesUnits_48 ?_
      refine lv_iconst (v := 1) hx hb dX4_takesUnits_51 (by decide) ?_
      refine lv_iadd hx hb dX4_takesUnits_52 ?_
      refine k_put (v := .int (u_column + 1)) (ty := .int) (ws' := [(q, .inr (4, [.ref q_tables, .int u_begun, .int u_table, .int u_row, .int (u_column + 1), .int u_tens])), (q_tables, .inr (2, [.ref q_tables_first, .ref q_tables_second])), (q_tables_first, .inr (6, [.ref q_tables_first_numbers])), (q_tables_first_numbers, .inl (cI, 36, .inl w5)), (q_tables_second, .inr (6, [.ref q_tables_second_numbers])), (q_tables_second_numbers, .inl (cI, 36, .inl u_tables_second_numbers))]) C hE hW iX4 tyX4_ok nmX4 0 rfl rfl 4 (by decide) f29 (fun _ h9 => h9) rfl (by decide +kernel) rfl rfl (Nat.le_of_ble_eq_true rfl) rfl dX4_takesUnits_53 (fun H locs hW => ?_)
      refine lv_aload_n hx hb dX4_takesUnits_56 rfl (lv_at hl 2 rfl) ?_
      refine lv_iconst (v := (-1)) hx hb dX4_takesUnits_57 (by decide) ?_
      refine k_put (v := .int (-1)) (ty := .int) (ws' := [(q, .inr (4, [.ref q_tables, .int u_begun, .int u_table, .int u_row, .int (u_column + 1), .int (-1)])), (q_tables, .inr (2, [.ref q_tables_first, .ref q_tables_second])), (q_tables_first, .inr (6, [.ref q_tables_first_numbers])), (q_tables_first_numbers, .inl (cI, 36, .inl w5)), (q_tables_second, .inr (6, [.ref q_tables_second_numbers])), (q_tables_second_numbers, .inl (cI, 36, .inl u_tables_second_numbers))]) C hE hW iX4 tyX4_ok nmX4 0 rfl rfl 5 (by decide) f32 (fun _ h9 => h9) rfl (by decide +kernel) rfl rfl (Nat.le_of_ble_eq_true rfl) rfl dX4_takesUnits_58 (fun H locs hW => ?_)
      refine lv_iconst (v := 1) hx hb dX4_takesUnits_61 (by decide) ?_
      obtain ⟨rfl, rfl, rfl, rfl, rfl⟩ := sm5 hf
      exact k_zret C hlocks hr hW (by decide) hQ dX4_takesUnits_62
    · replace hf := if_f hc hf
      refine lv_iconst (v := 0) hx hb dX4_takesUnits_31 (by decide) ?_
      obtain ⟨rfl, rfl, rfl, rfl, rfl⟩ := sm5 hf
      exact k_zret C hlocks hr hW (by decide) hQ dX4_takesUnits_32
  | false =>
    replace hf := cd_f hf
    refine k_callVR (b := q_tables) (ci := 2) (qb := 0) (As := [.int u_table]) (n := 1) (rest := []) (st1 := [.ref q_tables_second]) C hE hW hl.1 (kX2_table l D cI cZ cJ _ q_tables q_tables_first q_tables_second u_table false h2) gX4_takesUnits_X2_table rfl (by decide +kernel) rfl ⟨Nat.le_of_ble_eq_true rfl, Nat.le_of_ble_eq_true rfl⟩ ⟨Nat.zero_le _, Nat.zero_le _⟩ rfl rfl [1] rfl rfl (Nat.le_of_ble_eq_true rfl) rfl rfl dX4_takesUnits_8 (fun H locs hW => ?_)
    refine lv_astore_n (lv' := [(2, .ref q_tables_second), (0, .ref q), (1, .int p0)]) hx hb dX4_takesUnits_11 rfl hl (by decide) rfl (fun ls hl => ?_)
    refine lv_bipush (v := 10) hx hb dX4_takesUnits_12 (by decide) ?_
    refine lv_aload_n hx hb dX4_takesUnits_14 rfl (lv_at hl 1 rfl) ?_
    refine k_get C hE hW iX4 0 rfl rfl 5 (by decide) f32 (fun _ h9 => h9) rfl dX4_takesUnits_15 ?_
    refine lv_imul hx hb dX4_takesUnits_18 ?_
    refine lv_iload_n hx hb dX4_takesUnits_19 rfl (lv_at hl 2 rfl) ?_
    refine lv_iadd hx hb dX4_takesUnits_20 ?_
    refine lv_istore_n (lv' := [(3, .int ((10 * u_tens) + p0)), (2, .ref q_tables_second), (0, .ref q), (1, .int p0)]) hx hb dX4_takesUnits_21 rfl hl (by decide) rfl (fun ls hl => ?_)
    refine lv_iload_n hx hb dX4_takesUnits_22 rfl (lv_at hl 0 rfl) ?_
    refine lv_aload_n hx hb dX4_takesUnits_23 rfl (lv_at hl 2 rfl) ?_
    refine lv_aload_n hx hb dX4_takesUnits_24 rfl (lv_at hl 1 rfl) ?_
    obtain ⟨v7, h8, hf⟩ := bd1_s hf
    refine k_callVR (b := q) (ci := 4) (qb := 0) (As := [.ref q_tables_second]) (n := 1) (rest := [.int ((10 * u_tens) + p0)]) (st1 := [.int v7, .int ((10 * u_tens) + p0)]) C hE hW hl.1 (kX4_leastNumber l D cI cZ cJ _ q q_tables_second q_tables_second_numbers q_tables u_begun u_table u_row u_column u_tens u_tables_second_numbers v7 h8) gX4_takesUnits_X4_leastNumber rfl (by decide +kernel) rfl ⟨Nat.le_of_ble_eq_true rfl, Nat.le_of_ble_eq_true rfl⟩ ⟨Nat.zero_le _, Nat.zero_le _⟩ rfl rfl [0, 4, 5] rfl rfl (Nat.le_of_ble_eq_true rfl) rfl rfl dX4_takesUnits_25 (fun H locs hW => ?_)
    refine lv_icmp_ge (tgt := 33) hx hb dX4_takesUnits_28 (by decide) (fun hc => ?_) (fun hc => ?_)
    · replace hf := if_t hc hf
      refine lv_aload_n hx hb dX4_takesUnits_33 rfl (lv_at hl 1 rfl) ?_
      refine lv_aload_n hx hb dX4_takesUnits_34 rfl (lv_at hl 2 rfl) ?_
      refine k_get C hE hW iX4 0 rfl rfl 3 (by decide) f26 (fun _ h9 => h9) rfl dX4_takesUnits_35 ?_
      refine lv_aload_n hx hb dX4_takesUnits_38 rfl (lv_at hl 2 rfl) ?_
      refine k_get C hE hW iX4 0 rfl rfl 4 (by decide) f29 (fun _ h9 => h9) rfl dX4_takesUnits_39 ?_
      refine lv_iload_n hx hb dX4_takesUnits_42 rfl (lv_at hl 0 rfl) ?_
      obtain ⟨w9, h10, hf⟩ := bd1_s hf
      refine k_callV (b := q_tables_second) (ci := 6) (qb := 0) (As := [.int u_row, .int u_column, .int ((10 * u_tens) + p0)]) (n := 3) (rest := []) (st1 := []) (wr := [(q, .inr (4, [.ref q_tables, .int u_begun, .int u_table, .int u_row, .int u_column, .int u_tens])), (q_tables, .inr (2, [.ref q_tables_first, .ref q_tables_second])), (q_tables_first, .inr (6, [.ref q_tables_first_numbers])), (q_tables_first_numbers, .inl (cI, 36, .inl u_tables_first_numbers))]) (ws' := [(q, .inr (4, [.ref q_tables, .int u_begun, .int u_table, .int u_row, .int u_column, .int u_tens])), (q_tables, .inr (2, [.ref q_tables_first, .ref q_tables_second])), (q_tables_first, .inr (6, [.ref q_tables_first_numbers])), (q_tables_first_numbers, .inl (cI, 36, .inl u_tables_first_numbers)), (q_tables_second, .inr (6, [.ref q_tables_second_numbers])), (q_tables_second_numbers, .inl (cI, 36, .inl w9))]) C hE hW hl.1 (kX7_put l D cI cZ cJ _ q_tables_second q_tables_second_numbers u_tables_second_numbers u_row u_column ((10 * u_tens) + p0) w9 h10) gX4_takesUnits_X7_put rfl (by decide +kernel) rfl ⟨Nat.le_of_ble_eq_true rfl, Nat.le_of_ble_eq_true rfl⟩ ⟨Nat.zero_le _, Nat.zero_le _⟩ rfl rfl [4, 5] [0, 1, 2, 3] [0, 1, 2, 3, 4, 5] rfl rfl rfl rfl (by decide) rfl rfl (Nat.le_of_ble_eq_true rfl) rfl rfl dX4_takesUnits_43 (fun H locs hW => ?_)
      refine lv_aload_n hx hb dX4_takesUnits_46 rfl (lv_at hl 2 rfl) ?_
      refine lv_dup hx hb dX4_takesUnits_47 rfl ?_
      refine k_get C hE hW iX4 0 rfl rfl 4 (by decide) f29 (fun _ h9 => h9) rfl dX4_takesUnits_48 ?_
      refine lv_iconst (v := 1) hx hb dX4_takesUnits_51 (by decide) ?_
      refine lv_iadd hx hb dX4_takesUnits_52 ?_
      refine k_put (v := .int (u_column + 1)) (ty := .int) (ws' := [(q, .inr (4, [.ref q_tables, .int u_begun, .int u_table, .int u_row, .int (u_column + 1), .int u_tens])), (q_tables, .inr (2, [.ref q_tables_first, .ref q_tables_second])), (q_tables_first, .inr (6, [.ref q_tables_first_numbers])), (q_tables_first_numbers, .inl (cI, 36, .inl u_tables_first_numbers)), (q_tables_second, .inr (6, [.ref q_tables_second_numbers])), (q_tables_second_numbers, .inl (cI, 36, .inl w9))]) C hE hW iX4 tyX4_ok nmX4 0 rfl rfl 4 (by decide) f29 (fun _ h9 => h9) rfl (by decide +kernel) rfl rfl (Nat.le_of_ble_eq_true rfl) rfl dX4_takesUnits_53 (fun H locs hW => ?_)
      refine lv_aload_n hx hb dX4_takesUnits_56 rfl (lv_at hl 2 rfl) ?_
      refine lv_iconst (v := (-1)) hx hb dX4_takesUnits_57 (by decide) ?_
      refine k_put (v := .int (-1)) (ty := .int) (ws' := [(q, .inr (4, [.ref q_tables, .int u_begun, .int u_table, .int u_row, .int (u_column + 1), .int (-1)])), (q_tables, .inr (2, [.ref q_tables_first, .ref q_tables_second])), (q_tables_first, .inr (6, [.ref q_tables_first_numbers])), (q_tables_first_numbers, .inl (cI, 36, .inl u_tables_first_numbers)), (q_tables_second, .inr (6, [.ref q_tables_second_numbers])), (q_tables_second_numbers, .inl (cI, 36, .inl w9))]) C hE hW iX4 tyX4_ok nmX4 0 rfl rfl 5 (by decide) f32 (fun _ h9 => h9) rfl (by decide +kernel) rfl rfl (Nat.le_of_ble_eq_true rfl) rfl dX4_takesUnits_58 (fun H locs hW => ?_)
      refine lv_iconst (v := 1) hx hb dX4_takesUnits_61 (by decide) ?_
      obtain ⟨rfl, rfl, rfl, rfl, rfl⟩ := sm5 hf
      exact k_zret C hlocks hr hW (by decide) hQ dX4_takesUnits_62
    · replace hf := if_f hc hf
      refine lv_iconst (v := 0) hx hb dX4_takesUnits_31 (by decide) ?_
      obtain ⟨rfl, rfl, rfl, rfl, rfl⟩ := sm5 hf
      exact k_zret C hlocks hr hW (by decide) hQ dX4_takesUnits_32
