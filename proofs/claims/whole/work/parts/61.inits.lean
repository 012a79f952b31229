def un31 {γ : Type} (g : Nat → Nat → Nat → Nat → Nat → Nat → Nat → Nat → Nat → Nat → Nat → Nat → Nat → Nat → Nat → Nat → Nat → Nat → Nat → Nat → Nat → Nat → Nat → Nat → Nat → Nat → Nat → Nat → Nat → Nat → Nat → γ) : Nat × Nat × Nat × Nat × Nat × Nat × Nat × Nat × Nat × Nat × Nat × Nat × Nat × Nat × Nat × Nat × Nat × Nat × Nat × Nat × Nat × Nat × Nat × Nat × Nat × Nat × Nat × Nat × Nat × Nat × Nat → γ
  | (a1, a2, a3, a4, a5, a6, a7, a8, a9, a10, a11, a12, a13, a14, a15, a16, a17, a18, a19, a20, a21, a22, a23, a24, a25, a26, a27, a28, a29, a30, a31) => g a1 a2 a3 a4 a5 a6 a7 a8 a9 a10 a11 a12 a13 a14 a15 a16 a17 a18 a19 a20 a21 a22 a23 a24 a25 a26 a27 a28 a29 a30 a31
set_option maxHeartbeats 4000000 in
set_option maxRecDepth 100000 in
theorem kX7_init (l : Launch) (D : va_G) (cI cZ cJ : ClassId) (sz : Nat) (q : Nat) (w0 : Nat → Int32) (hw0 : pX7_wipe (fun _ => 0) = some w0) : kMetI l D cI cZ cJ yX7_init wsX7_init 1 21 1 36 [.ref q] [(q, .inr (6, [.null]))] sz (fun n1 : Nat => [(q, .inr (6, [.ref n1])), (n1, .inl (cI, 36, .inl w0))]) := by
  refine kI_of (cc := cX7_init) (maxL := 1) (by decide) rfl rfl (Nat.le_of_ble_eq_true rfl) ?_
  intro p e s m args below meth c A Q ls hQ C hlocks hr hin hE hW hl
  have hx := C.1
  have hb := C.2.1
  have hts := C.2.2.2.2
  have hl : lv_has ls 1 [(0, .ref q)] := hl
  have iX7 : ∀ w ∈ u_ws RX7 TX7 1, w ∈ wsX7_init := by decide +kernel
  have f9 := hts (.fieldLink RX7 9 "SortedTables$Table" "numbers" "[I") (by decide +kernel)
  refine lv_aload_n hx hb dX7_init_0 rfl (lv_at hl 0 rfl) ?_
  refine k_obj C hl.1 (by decide +kernel) (by decide +kernel) (by decide +kernel) dX7_init_1 (Nat.le_of_ble_eq_true rfl) (Nat.le_of_ble_eq_true rfl) ?_
  refine lv_aload_n hx hb dX7_init_4 rfl (lv_at hl 0 rfl) ?_
  refine lv_bipush (v := 36) hx hb dX7_init_5 (by decide) ?_
  refine k_newI C hE hW (by decide +kernel) (by decide) rfl (Nat.le_of_ble_eq_true rfl) (Nat.le_of_ble_eq_true rfl) (Nat.le_of_ble_eq_true rfl) dX7_init_7 (fun n1 H hW => ?_)
  have hW : kH D A s H _ [(q, .inr (6, [.null])), (n1, .inl (cI, 36, .inl (fun _ => 0)))] := hW
  refine k_putF (v := .ref n1) (ty := .array .int) (ws' := [(q, .inr (6, [.ref n1])), (n1, .inl (cI, 36, .inl (fun _ => 0)))]) C hE hW iX7 tyX7_ok nmX7 0 rfl rfl 0 (by decide) f9 (fun _ h9 => h9) rfl hin rfl (by decide +kernel) rfl rfl (Nat.le_of_ble_eq_true rfl) rfl dX7_init_9 (fun H locs hW => ?_)
  refine lv_aload_n hx hb dX7_init_12 rfl (lv_at hl 0 rfl) ?_
  refine k_callV (b := q) (ci := 6) (qb := 0) (As := []) (n := 0) (rest := []) (st1 := []) (wr := []) (ws' := [(q, .inr (6, [.ref n1])), (n1, .inl (cI, 36, .inl w0))]) C hE hW hl.1 (kX7_wipe l D cI cZ cJ _ q n1 (fun _ => 0) w0 hw0) gX7_init_X7_wipe rfl (by decide +kernel) rfl ⟨Nat.le_of_ble_eq_true rfl, Nat.le_of_ble_eq_true rfl⟩ ⟨Nat.le_of_ble_eq_true rfl, Nat.le_of_ble_eq_true rfl⟩ rfl rfl [0, 1] [] [0, 1] rfl rfl rfl rfl (by decide) rfl rfl (Nat.le_of_ble_eq_true rfl) rfl rfl dX7_init_13 (fun H locs hW => ?_)
  exact kI_vret n1 C hlocks hr hW hQ dX7_init_16

set_option maxHeartbeats 4000000 in
set_option maxRecDepth 100000 in
theorem kX2_init (l : Launch) (D : va_G) (cI cZ cJ : ClassId) (sz : Nat) (q : Nat) (w0 : Nat → Int32) (hw0 : pX7_wipe (fun _ => 0) = some w0) : kMetI l D cI cZ cJ yX2_init wsX2_init 2 41 4 74 [.ref q] [(q, .inr (2, [.null, .null]))] sz (un4 (fun (n1 n2 n3 n4 : Nat) => [(q, .inr (2, [.ref n1, .ref n3])), (n1, .inr (6, [.ref n2])), (n2, .inl (cI, 36, .inl w0)), (n3, .inr (6, [.ref n4])), (n4, .inl (cI, 36, .inl w0))])) := by
  refine kI_of (cc := cX2_init) (maxL := 1) (by decide) rfl rfl (Nat.le_of_ble_eq_true rfl) ?_
  intro p e s m args below meth c A Q ls hQ C hlocks hr hin hE hW hl
  have hx := C.1
  have hb := C.2.1
  have hts := C.2.2.2.2
  have hl : lv_has ls 1 [(0, .ref q)] := hl
  have iX2 : ∀ w ∈ u_ws RX2 TX2 2, w ∈ wsX2_init := by decide +kernel
  have iX7 : ∀ w ∈ u_ws RX7 TX7 1, w ∈ wsX2_init := by decide +kernel
  have f12 := hts (.fieldLink RX2 12 "SortedTables$Pair" "first" "LSortedTables$Table;") (by decide +kernel)
  have f18 := hts (.fieldLink RX2 18 "SortedTables$Pair" "second" "LSortedTables$Table;") (by decide +kernel)
  refine lv_aload_n hx hb dX2_init_0 rfl (lv_at hl 0 rfl) ?_
  refine k_obj C hl.1 (by decide +kernel) (by decide +kernel) (by decide +kernel) dX2_init_1 (Nat.le_of_ble_eq_true rfl) (Nat.le_of_ble_eq_true rfl) ?_
  refine lv_aload_n hx hb dX2_init_4 rfl (lv_at hl 0 rfl) ?_
  refine k_newO (ci := 6) (fs := [.null]) (ty := tyX7) C hE hW iX7 tyX7_ok (by decide +kernel) (by decide +kernel) (by decide +kernel) rfl (fun j hj => by rcases (show j = 0 by omega) with rfl <;> rfl) (Nat.le_of_ble_eq_true rfl) (Nat.le_of_ble_eq_true rfl) dX2_init_5 (fun n1 H hW => ?_)
  have hW : kH D A s H _ [(q, .inr (2, [.null, .null])), (n1, .inr (6, [.null]))] := hW
  refine lv_dup hx hb dX2_init_8 rfl ?_
  refine k_callI (b := n1) (As := []) (n := 0) (rest := [.ref n1, .ref q]) (wr := [(q, .inr (2, [.null, .null]))]) C hE hW hl.1 (kX7_init l D cI cZ cJ _ n1 w0 hw0) gX2_init_X7_init rfl (by decide +kernel) (by decide +kernel) (by decide +kernel) rfl (by decide +kernel) rfl ⟨Nat.le_of_ble_eq_true rfl, Nat.le_of_ble_eq_true rfl⟩ ⟨Nat.le_of_ble_eq_true rfl, Nat.le_of_ble_eq_true rfl⟩ [1] [0] rfl rfl rfl rfl (by decide) (Nat.le_of_ble_eq_true rfl) rfl dX2_init_9 (fun x H locs hW => ?_)
  obtain n2 := x
  have hW : kH D A s H locs [(q, .inr (2, [.null, .null])), (n1, .inr (6, [.ref n2])), (n2, .inl (cI, 36, .inl w0))] := hW
  refine k_putF (v := .ref n1) (ty := .object "SortedTables$Table") (ws' := [(q, .inr (2, [.ref n1, .null])), (n1, .inr (6, [.ref n2])), (n2, .inl (cI, 36, .inl w0))]) C hE hW iX2 tyX2_ok nmX2 0 rfl rfl 0 (by decide) f12 (fun _ h9 => h9) rfl hin rfl (by decide +kernel) rfl rfl (Nat.le_of_ble_eq_true rfl) rfl dX2_init_12 (fun H locs hW => ?_)
  refine lv_aload_n hx hb dX2_init_15 rfl (lv_at hl 0 rfl) ?_
  refine k_newO (ci := 6) (fs := [.null]) (ty := tyX7) C hE hW iX7 tyX7_ok (by decide +kernel) (by decide +kernel) (by decide +kernel) rfl (fun j hj => by rcases (show j = 0 by omega) with rfl <;> rfl) (Nat.le_of_ble_eq_true rfl) (Nat.le_of_ble_eq_true rfl) dX2_init_16 (fun n3 H hW => ?_)
  have hW : kH D A s H _ [(q, .inr (2, [.ref n1, .null])), (n1, .inr (6, [.ref n2])), (n2, .inl (cI, 36, .inl w0)), (n3, .inr (6, [.null]))] := hW
  refine lv_dup hx hb dX2_init_19 rfl ?_
  refine k_callI (b := n3) (As := []) (n := 0) (rest := [.ref n3, .ref q]) (wr := [(q, .inr (2, [.ref n1, .null])), (n1, .inr (6, [.ref n2])), (n2, .inl (cI, 36, .inl w0))]) C hE hW hl.1 (kX7_init l D cI cZ cJ _ n3 w0 hw0) gX2_init_X7_init rfl (by decide +kernel) (by decide +kernel) (by decide +kernel) rfl (by decide +kernel) rfl ⟨Nat.le_of_ble_eq_true rfl, Nat.le_of_ble_eq_true rfl⟩ ⟨Nat.le_of_ble_eq_true rfl, Nat.le_of_ble_eq_true rfl⟩ [3] [0, 1, 2] rfl rfl rfl rfl (by decide) (Nat.le_of_ble_eq_true rfl) rfl dX2_init_20 (fun x H locs hW => ?_)
  obtain n4 := x
  have hW : kH D A s H locs [(q, .inr (2, [.ref n1, .null])), (n1, .inr (6, [.ref n2])), (n2, .inl (cI, 36, .inl w0)), (n3, .inr (6, [.ref n4])), (n4, .inl (cI, 36, .inl w0))] := hW
  refine k_putF (v := .ref n3) (ty := .object "SortedTables$Table") (ws' := [(q, .inr (2, [.ref n1, .ref n3])), (n1, .inr (6, [.ref n2])), (n2, .inl (cI, 36, .inl w0)), (n3, .inr (6, [.ref n4])), (n4, .inl (cI, 36, .inl w0))]) C hE hW iX2 tyX2_ok nmX2 0 rfl rfl 1 (by decide) f18 (fun _ h9 => h9) rfl hin rfl (by decide +kernel) rfl rfl (Nat.le_of_ble_eq_true rfl) rfl dX2_init_23 (fun H locs hW => ?_)
  exact kI_vret (n1, n2, n3, n4) C hlocks hr hW hQ dX2_init_26

set_option maxHeartbeats 4000000 in
set_option maxRecDepth 100000 in
theorem kX3_init (l : Launch) (D : va_G) (cI cZ cJ : ClassId) (sz : Nat) (q : Nat) : kMetI l D cI cZ cJ yX3_init wsX3_init 1 20 1 1008 [.ref q] [(q, .inr (3, [.null, .int 0, .int 0]))] sz (fun n1 : Nat => [(q, .inr (3, [.ref n1, .int 0, .int 0])), (n1, .inl (cI, 1008, .inl (fun _ => 0)))]) := by
  refine kI_of (cc := cX3_init) (maxL := 1) (by decide) rfl rfl (Nat.le_of_ble_eq_true rfl) ?_
  intro p e s m args below meth c A Q ls hQ C hlocks hr hin hE hW hl
  have hx := C.1
  have hb := C.2.1
  have hts := C.2.2.2.2
  have hl : lv_has ls 1 [(0, .ref q)] := hl
  have iX3 : ∀ w ∈ u_ws RX3 TX3 3, w ∈ wsX3_init := by decide +kernel
  have f9 := hts (.fieldLink RX3 9 "SortedTables$Past" "numbers" "[I") (by decide +kernel)
  have f15 := hts (.fieldLink RX3 15 "SortedTables$Past" "oldest" "I") (by decide +kernel)
  have f19 := hts (.fieldLink RX3 19 "SortedTables$Past" "remembered" "I") (by decide +kernel)
  refine lv_aload_n hx hb dX3_init_0 rfl (lv_at hl 0 rfl) ?_
  refine k_obj C hl.1 (by decide +kernel) (by decide +kernel) (by decide +kernel) dX3_init_1 (Nat.le_of_ble_eq_true rfl) (Nat.le_of_ble_eq_true rfl) ?_
  refine lv_aload_n hx hb dX3_init_4 rfl (lv_at hl 0 rfl) ?_
  refine lv_sipush (v := 1008) hx hb dX3_init_5 (by decide) ?_
  refine k_newI C hE hW (by decide +kernel) (by decide) rfl (Nat.le_of_ble_eq_true rfl) (Nat.le_of_ble_eq_true rfl) (Nat.le_of_ble_eq_true rfl) dX3_init_8 (fun n1 H hW => ?_)
  have hW : kH D A s H _ [(q, .inr (3, [.null, .int 0, .int 0])), (n1, .inl (cI, 1008, .inl (fun _ => 0)))] := hW
  refine k_putF (v := .ref n1) (ty := .array .int) (ws' := [(q, .inr (3, [.ref n1, .int 0, .int 0])), (n1, .inl (cI, 1008, .inl (fun _ => 0)))]) C hE hW iX3 tyX3_ok nmX3 0 rfl rfl 0 (by decide) f9 (fun _ h9 => h9) rfl hin rfl (by decide +kernel) rfl rfl (Nat.le_of_ble_eq_true rfl) rfl dX3_init_10 (fun H locs hW => ?_)
  refine lv_aload_n hx hb dX3_init_13 rfl (lv_at hl 0 rfl) ?_
  refine lv_iconst (v := 0) hx hb dX3_init_14 (by decide) ?_
  refine k_put (v := .int 0) (ty := .int) (ws' := [(q, .inr (3, [.ref n1, .int 0, .int 0])), (n1, .inl (cI, 1008, .inl (fun _ => 0)))]) C hE hW iX3 tyX3_ok nmX3 0 rfl rfl 1 (by decide) f15 (fun _ h9 => h9) rfl (by decide +kernel) rfl rfl (Nat.le_of_ble_eq_true rfl) rfl dX3_init_15 (fun H locs hW => ?_)
  refine lv_aload_n hx hb dX3_init_18 rfl (lv_at hl 0 rfl) ?_
  refine lv_iconst (v := 0) hx hb dX3_init_19 (by decide) ?_
  refine k_put (v := .int 0) (ty := .int) (ws' := [(q, .inr (3, [.ref n1, .int 0, .int 0])), (n1, .inl (cI, 1008, .inl (fun _ => 0)))]) C hE hW iX3 tyX3_ok nmX3 0 rfl rfl 2 (by decide) f19 (fun _ h9 => h9) rfl (by decide +kernel) rfl rfl (Nat.le_of_ble_eq_true rfl) rfl dX3_init_20 (fun H locs hW => ?_)
  exact kI_vret n1 C hlocks hr hW hQ dX3_init_23

set_option maxHeartbeats 4000000 in
set_option maxRecDepth 100000 in
theorem kX8_init (l : Launch) (D : va_G) (cI cZ cJ : ClassId) (sz : Nat) (q : Nat) : kMetI l D cI cZ cJ yX8_init wsX8_init 1 20 1 160 [.ref q] [(q, .inr (7, [.null, .int 0]))] sz (fun n1 : Nat => [(q, .inr (7, [.ref n1, .int 0])), (n1, .inl (cI, 160, .inl (fun _ => 0)))]) := by
  refine kI_of (cc := cX8_init) (maxL := 1) (by decide) rfl rfl (Nat.le_of_ble_eq_true rfl) ?_
  intro p e s m args below meth c A Q ls hQ C hlocks hr hin hE hW hl
  have hx := C.1
  have hb := C.2.1
  have hts := C.2.2.2.2
  have hl : lv_has ls 1 [(0, .ref q)] := hl
  have iX8 : ∀ w ∈ u_ws RX8 TX8 2, w ∈ wsX8_init := by decide +kernel
  have f9 := hts (.fieldLink RX8 9 "SortedTables$Text" "codes" "[I") (by decide +kernel)
  have f15 := hts (.fieldLink RX8 15 "SortedTables$Text" "length" "I") (by decide +kernel)
  refine lv_aload_n hx hb dX8_init_0 rfl (lv_at hl 0 rfl) ?_
  refine k_obj C hl.1 (by decide +kernel) (by decide +kernel) (by decide +kernel) dX8_init_1 (Nat.le_of_ble_eq_true rfl) (Nat.le_of_ble_eq_true rfl) ?_
  refine lv_aload_n hx hb dX8_init_4 rfl (lv_at hl 0 rfl) ?_
  refine lv_sipush (v := 160) hx hb dX8_init_5 (by decide) ?_
  refine k_newI C hE hW (by decide +kernel) (by decide) rfl (Nat.le_of_ble_eq_true rfl) (Nat.le_of_ble_eq_true rfl) (Nat.le_of_ble_eq_true rfl) dX8_init_8 (fun n1 H hW => ?_)
  have hW : kH D A s H _ [(q, .inr (7, [.null, .int 0])), (n1, .inl (cI, 160, .inl (fun _ => 0)))] := hW
  refine k_putF (v := .ref n1) (ty := .array .int) (ws' := [(q, .inr (7, [.ref n1, .int 0])), (n1, .inl (cI, 160, .inl (fun _ => 0)))]) C hE hW iX8 tyX8_ok nmX8 0 rfl rfl 0 (by decide) f9 (fun _ h9 => h9) rfl hin rfl (by decide +kernel) rfl rfl (Nat.le_of_ble_eq_true rfl) rfl dX8_init_10 (fun H locs hW => ?_)
  refine lv_aload_n hx hb dX8_init_13 rfl (lv_at hl 0 rfl) ?_
  refine lv_iconst (v := 0) hx hb dX8_init_14 (by decide) ?_
  refine k_put (v := .int 0) (ty := .int) (ws' := [(q, .inr (7, [.ref n1, .int 0])), (n1, .inl (cI, 160, .inl (fun _ => 0)))]) C hE hW iX8 tyX8_ok nmX8 0 rfl rfl 1 (by decide) f15 (fun _ h9 => h9) rfl (by decide +kernel) rfl rfl (Nat.le_of_ble_eq_true rfl) rfl dX8_init_15 (fun H locs hW => ?_)
  exact kI_vret n1 C hlocks hr hW hQ dX8_init_18

set_option maxHeartbeats 4000000 in
set_option maxRecDepth 100000 in
theorem kX4_init (l : Launch) (D : va_G) (cI cZ cJ : ClassId) (sz : Nat) (q : Nat) (r0 : Nat) (r1 : Nat) : kMetI l D cI cZ cJ yX4_init wsX4_init 1 20 0 0 [.ref q, .ref r0, .ref r1] [(q, .inr (4, [.null, .null, .int 0, .int 0, .int 0, .int 0, .int 0]))] sz (fun _ : Unit => [(q, .inr (4, [.ref r0, .ref r1, .int 0, .int 0, .int 0, .int 0, .int (-1)]))]) := by
  refine kI_of (cc := cX4_init) (maxL := 3) (by decide) rfl rfl (Nat.le_of_ble_eq_true rfl) ?_
  intro p e s m args below meth c A Q ls hQ C hlocks hr hin hE hW hl
  have hx := C.1
  have hb := C.2.1
  have hts := C.2.2.2.2
  have hl : lv_has ls 3 [(0, .ref q), (1, .ref r0), (2, .ref r1)] := hl
  have iX4 : ∀ w ∈ u_ws RX4 TX4 7, w ∈ wsX4_init := by decide +kernel
  have f9 := hts (.fieldLink RX4 9 "SortedTables$Reader" "begun" "Z") (by decide +kernel)
  have f15 := hts (.fieldLink RX4 15 "SortedTables$Reader" "table" "I") (by decide +kernel)
  have f19 := hts (.fieldLink RX4 19 "SortedTables$Reader" "row" "I") (by decide +kernel)
  have f22 := hts (.fieldLink RX4 22 "SortedTables$Reader" "column" "I") (by decide +kernel)
  have f25 := hts (.fieldLink RX4 25 "SortedTables$Reader" "tens" "I") (by decide +kernel)
  have f28 := hts (.fieldLink RX4 28 "SortedTables$Reader" "text" "LSortedTables$Text;") (by decide +kernel)
  have f32 := hts (.fieldLink RX4 32 "SortedTables$Reader" "tables" "LSortedTables$Pair;") (by decide +kernel)
  refine lv_aload_n hx hb dX4_init_0 rfl (lv_at hl 0 rfl) ?_
  refine k_obj C hl.1 (by decide +kernel) (by decide +kernel) (by decide +kernel) dX4_init_1 (Nat.le_of_ble_eq_true rfl) (Nat.le_of_ble_eq_true rfl) ?_
  refine lv_aload_n hx hb dX4_init_4 rfl (lv_at hl 0 rfl) ?_
  refine lv_iconst (v := 0) hx hb dX4_init_5 (by decide) ?_
  refine k_put (v := .int 0) (ty := .boolean) (ws' := [(q, .inr (4, [.null, .null, .int 0, .int 0, .int 0, .int 0, .int 0]))]) C hE hW iX4 tyX4_ok nmX4 0 rfl rfl 2 (by decide) f9 (fun _ h9 => h9) rfl (by decide +kernel) rfl rfl (Nat.le_of_ble_eq_true rfl) rfl dX4_init_6 (fun H locs hW => ?_)
  refine lv_aload_n hx hb dX4_init_9 rfl (lv_at hl 0 rfl) ?_
  refine lv_iconst (v := 0) hx hb dX4_init_10 (by decide) ?_
  refine k_put (v := .int 0) (ty := .int) (ws' := [(q, .inr (4, [.null, .null, .int 0, .int 0, .int 0, .int 0, .int 0]))]) C hE hW iX4 tyX4_ok nmX4 0 rfl rfl 3 (by decide) f15 (fun _ h9 => h9) rfl (by decide +kernel) rfl rfl (Nat.le_of_ble_eq_true rfl) rfl dX4_init_11 (fun H locs hW => ?_)
  refine lv_aload_n hx hb dX4_init_14 rfl (lv_at hl 0 rfl) ?_
  refine lv_iconst (v := 0) hx hb dX4_init_15 (by decide) ?_
  refine k_put (v := .int 0) (ty := .int) (ws' := [(q, .inr (4, [.null, .null, .int 0, .int 0, .int 0, .int 0, .int 0]))]) C hE hW iX4 tyX4_ok nmX4 0 rfl rfl 4 (by decide) f19 (fun _ h9 => h9) rfl (by decide +kernel) rfl rfl (Nat.le_of_ble_eq_true rfl) rfl dX4_init_16 (fun H locs hW => ?_)
  refine lv_aload_n hx hb dX4_init_19 rfl (lv_at hl 0 rfl) ?_
  refine lv_iconst (v := 0) hx hb dX4_init_20 (by decide) ?_
  refine k_put (v := .int 0) (ty := .int) (ws' := [(q, .inr (4, [.null, .null, .int 0, .int 0, .int 0, .int 0, .int 0]))]) C hE hW iX4 tyX4_ok nmX4 0 rfl rfl 5 (by decide) f22 (fun _ h9 => h9) rfl (by decide +kernel) rfl rfl (Nat.le_of_ble_eq_true rfl) rfl dX4_init_21 (fun H locs hW => ?_)
  refine lv_aload_n hx hb dX4_init_24 rfl (lv_at hl 0 rfl) ?_
  refine lv_iconst (v := (-1)) hx hb dX4_init_25 (by decide) ?_
  refine k_put (v := .int (-1)) (ty := .int) (ws' := [(q, .inr (4, [.null, .null, .int 0, .int 0, .int 0, .int 0, .int (-1)]))]) C hE hW iX4 tyX4_ok nmX4 0 rfl rfl 6 (by decide) f25 (fun _ h9 => h9) rfl (by decide +kernel) rfl rfl (Nat.le_of_ble_eq_true rfl) rfl dX4_init_26 (fun H locs hW => ?_)
  refine lv_aload_n hx hb dX4_init_29 rfl (lv_at hl 0 rfl) ?_
  refine lv_aload_n hx hb dX4_init_30 rfl (lv_at hl 1 rfl) ?_
  refine k_putF (v := .ref r0) (ty := .object "SortedTables$Text") (ws' := [(q, .inr (4, [.ref r0, .null, .int 0, .int 0, .int 0, .int 0, .int (-1)]))]) C hE hW iX4 tyX4_ok nmX4 0 rfl rfl 0 (by decide) f28 (fun _ h9 => h9) rfl hin rfl (by decide +kernel) rfl rfl (Nat.le_of_ble_eq_true rfl) rfl dX4_init_31 (fun H locs hW => ?_)
  refine lv_aload_n hx hb dX4_init_34 rfl (lv_at hl 0 rfl) ?_
  refine lv_aload_n hx hb dX4_init_35 rfl (lv_at hl 2 rfl) ?_
  refine k_putF (v := .ref r1) (ty := .object "SortedTables$Pair") (ws' := [(q, .inr (4, [.ref r0, .ref r1, .int 0, .int 0, .int 0, .int 0, .int (-1)]))]) C hE hW iX4 tyX4_ok nmX4 0 rfl rfl 1 (by decide) f32 (fun _ h9 => h9) rfl hin rfl (by decide +kernel) rfl rfl (Nat.le_of_ble_eq_true rfl) rfl dX4_init_36 (fun H locs hW => ?_)
  exact kI_vret () C hlocks hr hW hQ dX4_init_39

set_option maxHeartbeats 4000000 in
set_option maxRecDepth 100000 in
theorem kX6_init (l : Launch) (D : va_G) (cI cZ cJ : ClassId) (sz : Nat) (q : Nat) (w0 : Nat → Int32) (hw0 : pX7_wipe (fun _ => 0) = some w0) : kMetI l D cI cZ cJ yX6_init wsX6_init 3 61 5 76 [.ref q] [(q, .inr (5, [.null, .int 0]))] sz (un5 (fun (n1 n2 n3 n4 n5 : Nat) => [(q, .inr (5, [.ref n1, .int 0])), (n1, .inr (2, [.ref n2, .ref n4])), (n2, .inr (6, [.ref n3])), (n3, .inl (cI, 36, .inl w0)), (n4, .inr (6, [.ref n5])), (n5, .inl (cI, 36, .inl w0))])) := by
  refine kI_of (cc := cX6_init) (maxL := 1) (by decide) rfl rfl (Nat.le_of_ble_eq_true rfl) ?_
  intro p e s m args below meth c A Q ls hQ C hlocks hr hin hE hW hl
  have hx := C.1
  have hb := C.2.1
  have hts := C.2.2.2.2
  have hl : lv_has ls 1 [(0, .ref q)] := hl
  have iX2 : ∀ w ∈ u_ws RX2 TX2 2, w ∈ wsX6_init := by decide +kernel
  have iX6 : ∀ w ∈ u_ws RX6 TX6 2, w ∈ wsX6_init := by decide +kernel
  have f10 := hts (.fieldLink RX6 10 "SortedTables$Slot" "tables" "LSortedTables$Pair;") (by decide +kernel)
  have f16 := hts (.fieldLink RX6 16 "SortedTables$Slot" "filled" "Z") (by decide +kernel)
  refine lv_aload_n hx hb dX6_init_0 rfl (lv_at hl 0 rfl) ?_
  refine k_obj C hl.1 (by decide +kernel) (by decide +kernel) (by decide +kernel) dX6_init_1 (Nat.le_of_ble_eq_true rfl) (Nat.le_of_ble_eq_true rfl) ?_
  refine lv_aload_n hx hb dX6_init_4 rfl (lv_at hl 0 rfl) ?_
  refine k_newO (ci := 2) (fs := [.null, .null]) (ty := tyX2) C hE hW iX2 tyX2_ok (by decide +kernel) (by decide +kernel) (by decide +kernel) rfl (fun j hj => by rcases (show j = 0 ∨ j = 1 by omega) with rfl | rfl <;> rfl) (Nat.le_of_ble_eq_true rfl) (Nat.le_of_ble_eq_true rfl) dX6_init_5 (fun n1 H hW => ?_)
  have hW : kH D A s H _ [(q, .inr (5, [.null, .int 0])), (n1, .inr (2, [.null, .null]))] := hW
  refine lv_dup hx hb dX6_init_8 rfl ?_
  refine k_callIN (b := n1) (As := []) (n := 0) (rest := [.ref n1, .ref q]) (wr := [(q, .inr (5, [.null, .int 0]))]) C hE hW hl.1 (kX2_init l D cI cZ cJ _ n1 w0 hw0) gX6_init_X2_init_n9 rfl (by decide +kernel) (by decide +kernel) (by decide +kernel) rfl (by decide +kernel) rfl ⟨Nat.le_of_ble_eq_true rfl, Nat.le_of_ble_eq_true rfl⟩ ⟨Nat.le_of_ble_eq_true rfl, Nat.le_of_ble_eq_true rfl⟩ [1] [0] rfl rfl rfl rfl (by decide) (Nat.le_of_ble_eq_true rfl) rfl dX6_init_9 (fun x H locs hW => ?_)
  obtain ⟨n2, n3, n4, n5⟩ := x
  have hW : kH D A s H locs [(q, .inr (5, [.null, .int 0])), (n1, .inr (2, [.ref n2, .ref n4])), (n2, .inr (6, [.ref n3])), (n3, .inl (cI, 36, .inl w0)), (n4, .inr (6, [.ref n5])), (n5, .inl (cI, 36, .inl w0))] := hW
  refine k_putF (v := .ref n1) (ty := .object "SortedTables$Pair") (ws' := [(q, .inr (5, [.ref n1, .int 0])), (n1, .inr (2, [.ref n2, .ref n4])), (n2, .inr (6, [.ref n3])), (n3, .inl (cI, 36, .inl w0)), (n4, .inr (6, [.ref n5])), (n5, .inl (cI, 36, .inl w0))]) C hE hW iX6 tyX6_ok nmX6 0 rfl rfl 0 (by decide) f10 (fun _ h9 => h9) rfl hin rfl (by decide +kernel) rfl rfl (Nat.le_of_ble_eq_true rfl) rfl dX6_init_12 (fun H locs hW => ?_)
  refine lv_aload_n hx hb dX6_init_15 rfl (lv_at hl 0 rfl) ?_
  refine lv_iconst (v := 0) hx hb dX6_init_16 (by decide) ?_
  refine k_put (v := .int 0) (ty := .boolean) (ws' := [(q, .inr (5, [.ref n1, .int 0])), (n1, .inr (2, [.ref n2, .ref n4])), (n2, .inr (6, [.ref n3])), (n3, .inl (cI, 36, .inl w0)), (n4, .inr (6, [.ref n5])), (n5, .inl (cI, 36, .inl w0))]) C hE hW iX6 tyX6_ok nmX6 0 rfl rfl 1 (by decide) f16 (fun _ h9 => h9) rfl (by decide +kernel) rfl rfl (Nat.le_of_ble_eq_true rfl) rfl dX6_init_17 (fun H locs hW => ?_)
  exact kI_vret (n1, n2, n3, n4, n5) C hlocks hr hW hQ dX6_init_20

set_option maxHeartbeats 4000000 in
set_option maxRecDepth 100000 in
theorem kX1_init (l : Launch) (D : va_G) (cI cZ cJ : ClassId) (sz : Nat) (q : Nat) : kMetI l D cI cZ cJ yX1_init wsX1_init 1 20 1 6 [.ref q] [(q, .inr (1, [.null, .int 0, .int 0]))] sz (fun n1 : Nat => [(q, .inr (1, [.ref n1, .int -9, .int -9])), (n1, .inl (cI, 6, .inl (fun _ => 0)))]) := by
  refine kI_of (cc := cX1_init) (maxL := 1) (by decide) rfl rfl (Nat.le_of_ble_eq_true rfl) ?_
  intro p e s m args below meth c A Q ls hQ C hlocks hr hin hE hW hl
  have hx := C.1
  have hb := C.2.1
  have hts := C.2.2.2.2
  have hl : lv_has ls 1 [(0, .ref q)] := hl
  have iX1 : ∀ w ∈ u_ws RX1 TX1 3, w ∈ wsX1_init := by decide +kernel
  have f9 := hts (.fieldLink RX1 9 "SortedTables$GreatestPath" "sums" "[I") (by decide +kernel)
  have f15 := hts (.fieldLink RX1 15 "SortedTables$GreatestPath" "sum" "I") (by decide +kernel)
  have f19 := hts (.fieldLink RX1 19 "SortedTables$GreatestPath" "end" "I") (by decide +kernel)
  refine lv_aload_n hx hb dX1_init_0 rfl (lv_at hl 0 rfl) ?_
  refine k_obj C hl.1 (by decide +kernel) (by decide +kernel) (by decide +kernel) dX1_init_1 (Nat.le_of_ble_eq_true rfl) (Nat.le_of_ble_eq_true rfl) ?_
  refine lv_aload_n hx hb dX1_init_4 rfl (lv_at hl 0 rfl) ?_
  refine lv_bipush (v := 6) hx hb dX1_init_5 (by decide) ?_
  refine k_newI C hE hW (by decide +kernel) (by decide) rfl (Nat.le_of_ble_eq_true rfl) (Nat.le_of_ble_eq_true rfl) (Nat.le_of_ble_eq_true rfl) dX1_init_7 (fun n1 H hW => ?_)
  have hW : kH D A s H _ [(q, .inr (1, [.null, .int 0, .int 0])), (n1, .inl (cI, 6, .inl (fun _ => 0)))] := hW
  refine k_putF (v := .ref n1) (ty := .array .int) (ws' := [(q, .inr (1, [.ref n1, .int 0, .int 0])), (n1, .inl (cI, 6, .inl (fun _ => 0)))]) C hE hW iX1 tyX1_ok nmX1 0 rfl rfl 0 (by decide) f9 (fun _ h9 => h9) rfl hin rfl (by decide +kernel) rfl rfl (Nat.le_of_ble_eq_true rfl) rfl dX1_init_9 (fun H locs hW => ?_)
  refine lv_aload_n hx hb dX1_init_12 rfl (lv_at hl 0 rfl) ?_
  refine lv_bipush (v := -9) hx hb dX1_init_13 (by decide) ?_
  refine k_put (v := .int -9) (ty := .int) (ws' := [(q, .inr (1, [.ref n1, .int -9, .int 0])), (n1, .inl (cI, 6, .inl (fun _ => 0)))]) C hE hW iX1 tyX1_ok nmX1 0 rfl rfl 1 (by decide) f15 (fun _ h9 => h9) rfl (by decide +kernel) rfl rfl (Nat.le_of_ble_eq_true rfl) rfl dX1_init_15 (fun H locs hW => ?_)
  refine lv_aload_n hx hb dX1_init_18 rfl (lv_at hl 0 rfl) ?_
  refine lv_bipush (v := -9) hx hb dX1_init_19 (by decide) ?_
  refine k_put (v := .int -9) (ty := .int) (ws' := [(q, .inr (1, [.ref n1, .int -9, .int -9])), (n1, .inl (cI, 6, .inl (fun _ => 0)))]) C hE hW iX1 tyX1_ok nmX1 0 rfl rfl 2 (by decide) f19 (fun _ h9 => h9) rfl (by decide +kernel) rfl rfl (Nat.le_of_ble_eq_true rfl) rfl dX1_init_21 (fun H locs hW => ?_)
  exact kI_vret n1 C hlocks hr hW hQ dX1_init_24

set_option maxHeartbeats 4000000 in
set_option maxRecDepth 100000 in
theorem kX0_init (l : Launch) (D : va_G) (cI cZ cJ : ClassId) (sz : Nat) (q : Nat) : kMetI l D cI cZ cJ yX0_init wsX0_init 1 20 1 37 [.ref q] [(q, .inr (0, [.null]))] sz (fun n1 : Nat => [(q, .inr (0, [.ref n1])), (n1, .inl (cI, 37, .inl (fun _ => 0)))]) := by
  refine kI_of (cc := cX0_init) (maxL := 1) (by decide) rfl rfl (Nat.le_of_ble_eq_true rfl) ?_
  intro p e s m args below meth c A Q ls hQ C hlocks hr hin hE hW hl
  have hx := C.1
  have hb := C.2.1
  have hts := C.2.2.2.2
  have hl : lv_has ls 1 [(0, .ref q)] := hl
  have iX0 : ∀ w ∈ u_ws RX0 TX0 1, w ∈ wsX0_init := by decide +kernel
  have f9 := hts (.fieldLink RX0 9 "SortedTables$Fillings" "times" "[I") (by decide +kernel)
  refine lv_aload_n hx hb dX0_init_0 rfl (lv_at hl 0 rfl) ?_
  refine k_obj C hl.1 (by decide +kernel) (by decide +kernel) (by decide +kernel) dX0_init_1 (Nat.le_of_ble_eq_true rfl) (Nat.le_of_ble_eq_true rfl) ?_
  refine lv_aload_n hx hb dX0_init_4 rfl (lv_at hl 0 rfl) ?_
  refine lv_bipush (v := 37) hx hb dX0_init_5 (by decide) ?_
  refine k_newI C hE hW (by decide +kernel) (by decide) rfl (Nat.le_of_ble_eq_true rfl) (Nat.le_of_ble_eq_true rfl) (Nat.le_of_ble_eq_true rfl) dX0_init_7 (fun n1 H hW => ?_)
  have hW : kH D A s H _ [(q, .inr (0, [.null])), (n1, .inl (cI, 37, .inl (fun _ => 0)))] := hW
  refine k_putF (v := .ref n1) (ty := .array .int) (ws' := [(q, .inr (0, [.ref n1])), (n1, .inl (cI, 37, .inl (fun _ => 0)))]) C hE hW iX0 tyX0_ok nmX0 0 rfl rfl 0 (by decide) f9 (fun _ h9 => h9) rfl hin rfl (by decide +kernel) rfl rfl (Nat.le_of_ble_eq_true rfl) rfl dX0_init_9 (fun H locs hW => ?_)
  exact kI_vret n1 C hlocks hr hW hQ dX0_init_12

set_option maxHeartbeats 4000000 in
set_option maxRecDepth 100000 in
theorem kX9_init (l : Launch) (D : va_G) (cI cZ cJ : ClassId) (sz : Nat) (q : Nat) (w0 : Nat → Int32) (hw0 : pX7_wipe (fun _ => 0) = some w0) : kMetI l D cI cZ cJ yX9_init wsX9_init 4 81 31 1535 [.ref q] [(q, .inr (8, [.null, .null, .null, .null, .null, .null, .null, .null, .null]))] sz (un31 (fun (n1 n2 n3 n4 n5 n6 n7 n8 n9 n10 n11 n12 n13 n14 n15 n16 n17 n18 n19 n20 n21 n22 n23 n24 n25 n26 n27 n28 n29 n30 n31 : Nat) => [(q, .inr (8, [.ref n1, .ref n6, .ref n11, .ref n13, .ref n15, .ref n16, .ref n22, .ref n28, .ref n30])), (n1, .inr (2, [.ref n2, .ref n4])), (n2, .inr (6, [.ref n3])), (n3, .inl (cI, 36, .inl w0)), (n4, .inr (6, [.ref n5])), (n5, .inl (cI, 36, .inl w0)), (n6, .inr (2, [.ref n7, .ref n9])), (n7, .inr (6, [.ref n8])), (n8, .inl (cI, 36, .inl w0)), (n9, .inr (6, [.ref n10])), (n10, .inl (cI, 36, .inl w0)), (n11, .inr (3, [.ref n12, .int 0, .int 0])), (n12, .inl (cI, 1008, .inl (fun _ => 0))), (n13, .inr (7, [.ref n14, .int 0])), (n14, .inl (cI, 160, .inl (fun _ => 0))), (n15, .inr (4, [.ref n13, .ref n6, .int 0, .int 0, .int 0, .int 0, .int (-1)])), (n16, .inr (5, [.ref n17, .int 0])), (n17, .inr (2, [.ref n18, .ref n20])), (n18, .inr (6, [.ref n19])), (n19, .inl (cI, 36, .inl w0)), (n20, .inr (6, [.ref n21])), (n21, .inl (cI, 36, .inl w0)), (n22, .inr (5, [.ref n23, .int 0])), (n23, .inr (2, [.ref n24, .ref n26])), (n24, .inr (6, [.ref n25])), (n25, .inl (cI, 36, .inl w0)), (n26, .inr (6, [.ref n27])), (n27, .inl (cI, 36, .inl w0)), (n28, .inr (1, [.ref n29, .int -9, .int -9])), (n29, .inl (cI, 6, .inl (fun _ => 0))), (n30, .inr (0, [.ref n31])), (n31, .inl (cI, 37, .inl (fun _ => 0)))])) := by
  refine kI_of (cc := cX9_init) (maxL := 1) (by decide) rfl rfl (Nat.le_of_ble_eq_true rfl) ?_
  intro p e s m args below meth c A Q ls hQ C hlocks hr hin hE hW hl
  have hx := C.1
  have hb := C.2.1
  have hts := C.2.2.2.2
  have hl : lv_has ls 1 [(0, .ref q)] := hl
  have iX0 : ∀ w ∈ u_ws RX0 TX0 1, w ∈ wsX9_init := by decide +kernel
  have iX1 : ∀ w ∈ u_ws RX1 TX1 3, w ∈ wsX9_init := by decide +kernel
  have iX2 : ∀ w ∈ u_ws RX2 TX2 2, w ∈ wsX9_init := by decide +kernel
  have iX3 : ∀ w ∈ u_ws RX3 TX3 3, w ∈ wsX9_init := by decide +kernel
  have iX4 : ∀ w ∈ u_ws RX4 TX4 7, w ∈ wsX9_init := by decide +kernel
  have iX6 : ∀ w ∈ u_ws RX6 TX6 2, w ∈ wsX9_init := by decide +kernel
  have iX8 : ∀ w ∈ u_ws RX8 TX8 2, w ∈ wsX9_init := by decide +kernel
  have iX9 : ∀ w ∈ u_ws RX9 TX9 9, w ∈ wsX9_init := by decide +kernel
  have f12 := hts (.fieldLink RX9 12 "SortedTables" "now" "LSortedTables$Pair;") (by decide +kernel)
  have f16 := hts (.fieldLink RX9 16 "SortedTables" "trial" "LSortedTables$Pair;") (by decide +kernel)
  have f22 := hts (.fieldLink RX9 22 "SortedTables" "past" "LSortedTables$Past;") (by decide +kernel)
  have f29 := hts (.fieldLink RX9 29 "SortedTables" "text" "LSortedTables$Text;") (by decide +kernel)
  have f38 := hts (.fieldLink RX9 38 "SortedTables" "reader" "LSortedTables$Reader;") (by decide +kernel)
  have f45 := hts (.fieldLink RX9 45 "SortedTables" "slot0" "LSortedTables$Slot;") (by decide +kernel)
  have f49 := hts (.fieldLink RX9 49 "SortedTables" "slot1" "LSortedTables$Slot;") (by decide +kernel)
  have f55 := hts (.fieldLink RX9 55 "SortedTables" "greatestPath" "LSortedTables$GreatestPath;") (by decide +kernel)
  have f62 := hts (.fieldLink RX9 62 "SortedTables" "fillingsOfShape" "LSortedTables$Fillings;") (by decide +kernel)
  refine lv_aload_n hx hb dX9_init_0 rfl (lv_at hl 0 rfl) ?_
  refine k_obj C hl.1 (by decide +kernel) (by decide +kernel) (by decide +kernel) dX9_init_1 (Nat.le_of_ble_eq_true rfl) (Nat.le_of_ble_eq_true rfl) ?_
  refine lv_aload_n hx hb dX9_init_4 rfl (lv_at hl 0 rfl) ?_
  refine k_newO (ci := 2) (fs := [.null, .null]) (ty := tyX2) C hE hW iX2 tyX2_ok (by decide +kernel) (by decide +kernel) (by decide +kernel) rfl (fun j hj => by rcases (show j = 0 ∨ j = 1 by omega) with rfl | rfl <;> rfl) (Nat.le_of_ble_eq_true rfl) (Nat.le_of_ble_eq_true rfl) dX9_init_5 (fun n1 H hW => ?_)
  have hW : kH D A s H _ [(q, .inr (8, [.null, .null, .null, .null, .null, .null, .null, .null, .null])), (n1, .inr (2, [.null, .null]))] := hW
  refine lv_dup hx hb dX9_init_8 rfl ?_
  refine k_callIN (b := n1) (As := []) (n := 0) (rest := [.ref n1, .ref q]) (wr := [(q, .inr (8, [.null, .null, .null, .null, .null, .null, .null, .null, .null]))]) C hE hW hl.1 (kX2_init l D cI cZ cJ _ n1 w0 hw0) gX9_init_X2_init_n11 rfl (by decide +kernel) (by decide +kernel) (by decide +kernel) rfl (by decide +kernel) rfl ⟨Nat.le_of_ble_eq_true rfl, Nat.le_of_ble_eq_true rfl⟩ ⟨Nat.le_of_ble_eq_true rfl, Nat.le_of_ble_eq_true rfl⟩ [1] [0] rfl rfl rfl rfl (by decide) (Nat.le_of_ble_eq_true rfl) rfl dX9_init_9 (fun x H locs hW => ?_)
  obtain ⟨n2, n3, n4, n5⟩ := x
  have hW : kH D A s H locs [(q, .inr (8, [.null, .null, .null, .null, .null, .null, .null, .null, .null])), (n1, .inr (2, [.ref n2, .ref n4])), (n2, .inr (6, [.ref n3])), (n3, .inl (cI, 36, .inl w0)), (n4, .inr (6, [.ref n5])), (n5, .inl (cI, 36, .inl w0))] := hW
  refine k_putF (v := .ref n1) (ty := .object "SortedTables$Pair") (ws' := [(q, .inr (8, [.ref n1, .null, .null, .null, .null, .null, .null, .null, .null])), (n1, .inr (2, [.ref n2, .ref n4])), (n2, .inr (6, [.ref n3])), (n3, .inl (cI, 36, .inl w0)), (n4, .inr (6, [.ref n5])), (n5, .inl (cI, 36, .inl w0))]) C hE hW iX9 tyX9_ok nmX9 0 rfl rfl 0 (by decide) f12 (fun _ h9 => h9) rfl hin rfl (by decide +kernel) rfl rfl (Nat.le_of_ble_eq_true rfl) rfl dX9_init_12 (fun H locs hW => ?_)
  refine lv_aload_n hx hb dX9_init_15 rfl (lv_at hl 0 rfl) ?_
  refine k_newO (ci := 2) (fs := [.null, .null]) (ty := tyX2) C hE hW iX2 tyX2_ok (by decide +kernel) (by decide +kernel) (by decide +kernel) rfl (fun j hj => by rcases (show j = 0 ∨ j = 1 by omega) with rfl | rfl <;> rfl) (Nat.le_of_ble_eq_true rfl) (Nat.le_of_ble_eq_true rfl) dX9_init_16 (fun n6 H hW => ?_)
  have hW : kH D A s H _ [(q, .inr (8, [.ref n1, .null, .null, .null, .null, .null, .null, .null, .null])), (n1, .inr (2, [.ref n2, .ref n4])), (n2, .inr (6, [.ref n3])), (n3, .inl (cI, 36, .inl w0)), (n4, .inr (6, [.ref n5])), (n5, .inl (cI, 36, .inl w0)), (n6, .inr (2, [.null, .null]))] := hW
  refine lv_dup hx hb dX9_init_19 rfl ?_
  refine k_callIN (b := n6) (As := []) (n := 0) (rest := [.ref n6, .ref q]) (wr := [(q, .inr (8, [.ref n1, .null, .null, .null, .null, .null, .null, .null, .null])), (n1, .inr (2, [.ref n2, .ref n4])), (n2, .inr (6, [.ref n3])), (n3, .inl (cI, 36, .inl w0)), (n4, .inr (6, [.ref n5])), (n5, .inl (cI, 36, .inl w0))]) C hE hW hl.1 (kX2_init l D cI cZ cJ _ n6 w0 hw0) gX9_init_X2_init_n11 rfl (by decide +kernel) (by decide +kernel) (by decide +kernel) rfl (by decide +kernel) rfl ⟨Nat.le_of_ble_eq_true rfl, Nat.le_of_ble_eq_true rfl⟩ ⟨Nat.le_of_ble_eq_true rfl, Nat.le_of_ble_eq_true rfl⟩ [6] [0, 1, 2, 3, 4, 5] rfl rfl rfl rfl (by decide) (Nat.le_of_ble_eq_true rfl) rfl dX9_init_20 (fun x H locs hW => ?_)
  obtain ⟨n7, n8, n9, n10⟩ := x
  have hW : kH D A s H locs [(q, .inr (8, [.ref n1, .null, .null, .null, .null, .null, .null, .null, .null])), (n1, .inr (2, [.ref n2, .ref n4])), (n2, .inr (6, [.ref n3])), (n3, .inl (cI, 36, .inl w0)), (n4, .inr (6, [.ref n5])), (n5, .inl (cI, 36, .inl w0)), (n6, .inr (2, [.ref n7, .ref n9])), (n7, .inr (6, [.ref n8])), (n8, .inl (cI, 36, .inl w0)), (n9, .inr (6, [.ref n10])), (n10, .inl (cI, 36, .inl w0))] := hW
  refine k_putF (v := .ref n6) (ty := .object "SortedTables$Pair") (ws' := [(q, .inr (8, [.ref n1, .ref n6, .null, .null, .null, .null, .null, .null, .null])), (n1, .inr (2, [.ref n2, .ref n4])), (n2, .inr (6, [.ref n3])), (n3, .inl (cI, 36, .inl w0)), (n4, .inr (6, [.ref n5])), (n5, .inl (cI, 36, .inl w0)), (n6, .inr (2, [.ref n7, .ref n9])), (n7, .inr (6, [.ref n8])), (n8, .inl (cI, 36, .inl w0)), (n9, .inr (6, [.ref n10])), (n10, .inl (cI, 36, .inl w0))]) C hE hW iX9 tyX9_ok nmX9 0 rfl rfl 1 (by decide) f16 (fun _ h9 => h9) rfl hin rfl (by decide +kernel) rfl rfl (Nat.le_of_ble_eq_true rfl) rfl dX9_init_23 (fun H locs hW => ?_)
  refine lv_aload_n hx hb dX9_init_26 rfl (lv_at hl 0 rfl) ?_
  refine k_newO (ci := 3) (fs := [.null, .int 0, .int 0]) (ty := tyX3) C hE hW iX3 tyX3_ok (by decide +kernel) (by decide +kernel) (by decide +kernel) rfl (fun j hj => by rcases (show j = 0 ∨ j = 1 ∨ j = 2 by omega) with rfl | rfl | rfl <;> rfl) (Nat.le_of_ble_eq_true rfl) (Nat.le_of_ble_eq_true rfl) dX9_init_27 (fun n11 H hW => ?_)
  have hW : kH D A s H _ [(q, .inr (8, [.ref n1, .ref n6, .null, .null, .null, .null, .null, .null, .null])), (n1, .inr (2, [.ref n2, .ref n4])), (n2, .inr (6, [.ref n3])), (n3, .inl (cI, 36, .inl w0)), (n4, .inr (6, [.ref n5])), (n5, .inl (cI, 36, .inl w0)), (n6, .inr (2, [.ref n7, .ref n9])), (n7, .inr (6, [.ref n8])), (n8, .inl (cI, 36, .inl w0)), (n9, .inr (6, [.ref n10])), (n10, .inl (cI, 36, .inl w0)), (n11, .inr (3, [.null, .int 0, .int 0]))] := hW
  refine lv_dup hx hb dX9_init_30 rfl ?_
  refine k_callIN (b := n11) (As := []) (n := 0) (rest := [.ref n11, .ref q]) (wr := [(q, .inr (8, [.ref n1, .ref n6, .null, .null, .null, .null, .null, .null, .null])), (n1, .inr (2, [.ref n2, .ref n4])), (n2, .inr (6, [.ref n3])), (n3, .inl (cI, 36, .inl w0)), (n4, .inr (6, [.ref n5])), (n5, .inl (cI, 36, .inl w0)), (n6, .inr (2, [.ref n7, .ref n9])), (n7, .inr (6, [.ref n8])), (n8, .inl (cI, 36, .inl w0)), (n9, .inr (6, [.ref n10])), (n10, .inl (cI, 36, .inl w0))]) C hE hW hl.1 (kX3_init l D cI cZ cJ _ n11) gX9_init_X3_init_n21 rfl (by decide +kernel) (by decide +kernel) (by decide +kernel) rfl (by decide +kernel) rfl ⟨Nat.le_of_ble_eq_true rfl, Nat.le_of_ble_eq_true rfl⟩ ⟨Nat.le_of_ble_eq_true rfl, Nat.le_of_ble_eq_true rfl⟩ [11] [0, 1, 2, 3, 4, 5, 6, 7, 8, 9, 10] rfl rfl rfl rfl (by decide) (Nat.le_of_ble_eq_true rfl) rfl dX9_init_31 (fun x H locs hW => ?_)
  obtain n12 := x
  have hW : kH D A s H locs [(q, .inr (8, [.ref n1, .ref n6, .null, .null, .null, .null, .null, .null, .null])), (n1, .inr (2, [.ref n2, .ref n4])), (n2, .inr (6, [.ref n3])), (n3, .inl (cI, 36, .inl w0)), (n4, .inr (6, [.ref n5])), (n5, .inl (cI, 36, .inl w0)), (n6, .inr (2, [.ref n7, .ref n9])), (n7, .inr (6, [.ref n8])), (n8, .inl (cI, 36, .inl w0)), (n9, .inr (6, [.ref n10])), (n10, .inl (cI, 36, .inl w0)), (n11, .inr (3, [.ref n12, .int 0, .int 0])), (n12, .inl (cI, 1008, .inl (fun _ => 0)))] := hW
  refine k_putF (v := .ref n11) (ty := .object "SortedTables$Past") (ws' := [(q, .inr (8, [.ref n1, .ref n6, .ref n11, .null, .null, .null, .null, .null, .null])), (n1, .inr (2, [.ref n2, .ref n4])), (n2, .inr (6, [.ref n3])), (n3, .inl (cI, 36, .inl w0)), (n4, .inr (6, [.ref n5])), (n5, .inl (cI, 36, .inl w0)), (n6, .inr (2, [.ref n7, .ref n9])), (n7, .inr (6, [.ref n8])), (n8, .inl (cI, 36, .inl w0)), (n9, .inr (6, [.ref n10])), (n10, .inl (cI, 36, .inl w0)), (n11, .inr (3, [.ref n12, .int 0, .int 0])), (n12, .inl (cI, 1008, .inl (fun _ => 0)))]) C hE hW iX9 tyX9_ok nmX9 0 rfl rfl 2 (by decide) f22 (fun _ h9 => h9) rfl hin rfl (by decide +kernel) rfl rfl (Nat.le_of_ble_eq_true rfl) rfl dX9_init_34 (fun H locs hW => ?_)
  refine lv_aload_n hx hb dX9_init_37 rfl (lv_at hl 0 rfl) ?_
  refine k_newO (ci := 7) (fs := [.null, .int 0]) (ty := tyX8) C hE hW iX8 tyX8_ok (by decide +kernel) (by decide +kernel) (by decide +kernel) rfl (fun j hj => by rcases (show j = 0 ∨ j = 1 by omega) with rfl | rfl <;> rfl) (Nat.le_of_ble_eq_true rfl) (Nat.le_of_ble_eq_true rfl) dX9_init_38 (fun n13 H hW => ?_)
  have hW : kH D A s H _ [(q, .inr (8, [.ref n1, .ref n6, .ref n11, .null, .null, .null, .null, .null, .null])), (n1, .inr (2, [.ref n2, .ref n4])), (n2, .inr (6, [.ref n3])), (n3, .inl (cI, 36, .inl w0)), (n4, .inr (6, [.ref n5])), (n5, .inl (cI, 36, .inl w0)), (n6, .inr (2, [.ref n7, .ref n9])), (n7, .inr (6, [.ref n8])), (n8, .inl (cI, 36, .inl w0)), (n9, .inr (6, [.ref n10])), (n10, .inl (cI, 36, .inl w0)), (n11, .inr (3, [.ref n12, .int 0, .int 0])), (n12, .inl (cI, 1008, .inl (fun _ => 0))), (n13, .inr (7, [.null, .int 0]))] := hW
  refine lv_dup hx hb dX9_init_41 rfl ?_
  refine k_callIN (b := n13) (As := []) (n := 0) (rest := [.ref n13, .ref q]) (wr := [(q, .inr (8, [.ref n1, .ref n6, .ref n11, .null, .null, .null, .null, .null, .null])), (n1, .inr (2, [.ref n2, .ref n4])), (n2, .inr (6, [.ref n3])), (n3, .inl (cI, 36, .inl w0)), (n4, .inr (6, [.ref n5])), (n5, .inl (cI, 36, .inl w0)), (n6, .inr (2, [.ref n7, .ref n9])), (n7, .inr (6, [.ref n8])), (n8, .inl (cI, 36, .inl w0)), (n9, .inr (6, [.ref n10])), (n10, .inl (cI, 36, .inl w0)), (n11, .inr (3, [.ref n12, .int 0, .int 0])), (n12, .inl (cI, 1008, .inl (fun _ => 0)))]) C hE hW hl.1 (kX8_init l D cI cZ cJ _ n13) gX9_init_X8_init_n28 rfl (by decide +kernel) (by decide +kernel) (by decide +kernel) rfl (by decide +kernel) rfl ⟨Nat.le_of_ble_eq_true rfl, Nat.le_of_ble_eq_true rfl⟩ ⟨Nat.le_of_ble_eq_true rfl, Nat.le_of_ble_eq_true rfl⟩ [13] [0, 1, 2, 3, 4, 5, 6, 7, 8, 9, 10, 11, 12] rfl rfl rfl rfl (by decide) (Nat.le_of_ble_eq_true rfl) rfl dX9_init_42 (fun x H locs hW => ?_)
  obtain n14 := x
  have hW : kH D A s H locs [(q, .inr (8, [.ref n1, .ref n6, .ref n11, .null, .null, .null, .null, .null, .null])), (n1, .inr (2, [.ref n2, .ref n4])), (n2, .inr (6, [.ref n3])), (n3, .inl (cI, 36, .inl w0)), (n4, .inr (6, [.ref n5])), (n5, .inl (cI, 36, .inl w0)), (n6, .inr (2, [.ref n7, .ref n9])), (n7, .inr (6, [.ref n8])), (n8, .inl (cI, 36, .inl w0)), (n9, .inr (6, [.ref n10])), (n10, .inl (cI, 36, .inl w0)), (n11, .inr (3, [.ref n12, .int 0, .int 0])), (n12, .inl (cI, 1008, .inl (fun _ => 0))), (n13, .inr (7, [.ref n14, .int 0])), (n14, .inl (cI, 160, .inl (fun _ => 0)))] := hW
  refine k_putF (v := .ref n13) (ty := .object "SortedTables$Text") (ws' := [(q, .inr (8, [.ref n1, .ref n6, .ref n11, .ref n13, .null, .null, .null, .null, .null])), (n1, .inr (2, [.ref n2, .ref n4])), (n2, .inr (6, [.ref n3])), (n3, .inl (cI, 36, .inl w0)), (n4, .inr (6, [.ref n5])), (n5, .inl (cI, 36, .inl w0)), (n6, .inr (2, [.ref n7, .ref n9])), (n7, .inr (6, [.ref n8])), (n8, .inl (cI, 36, .inl w0)), (n9, .inr (6, [.ref n10])), (n10, .inl (cI, 36, .inl w0)), (n11, .inr (3, [.ref n12, .int 0, .int 0])), (n12, .inl (cI, 1008, .inl (fun _ => 0))), (n13, .inr (7, [.ref n14, .int 0])), (n14, .inl (cI, 160, .inl (fun _ => 0)))]) C hE hW iX9 tyX9_ok nmX9 0 rfl rfl 3 (by decide) f29 (fun _ h9 => h9) rfl hin rfl (by decide +kernel) rfl rfl (Nat.le_of_ble_eq_true rfl) rfl dX9_init_45 (fun H locs hW => ?_)
  refine lv_aload_n hx hb dX9_init_48 rfl (lv_at hl 0 rfl) ?_
  refine k_newO (ci := 4) (fs := [.null, .null, .int 0, .int 0, .int 0, .int 0, .int 0]) (ty := tyX4) C hE hW iX4 tyX4_ok (by decide +kernel) (by decide +kernel) (by decide +kernel) rfl (fun j hj => by rcases (show j = 0 ∨ j = 1 ∨ j = 2 ∨ j = 3 ∨ j = 4 ∨ j = 5 ∨ j = 6 by omega) with rfl | rfl | rfl | rfl | rfl | rfl | rfl <;> rfl) (Nat.le_of_ble_eq_true rfl) (Nat.le_of_ble_eq_true rfl) dX9_init_49 (fun n15 H hW => ?_)
  have hW : kH D A s H _ [(q, .inr (8, [.ref n1, .ref n6, .ref n11, .ref n13, .null, .null, .null, .null, .null])), (n1, .inr (2, [.ref n2, .ref n4])), (n2, .inr (6, [.ref n3])), (n3, .inl (cI, 36, .inl w0)), (n4, .inr (6, [.ref n5])), (n5, .inl (cI, 36, .inl w0)), (n6, .inr (2, [.ref n7, .ref n9])), (n7, .inr (6, [.ref n8])), (n8, .inl (cI, 36, .inl w0)), (n9, .inr (6, [.ref n10])), (n10, .inl (cI, 36, .inl w0)), (n11, .inr (3, [.ref n12, .int 0, .int 0])), (n12, .inl (cI, 1008, .inl (fun _ => 0))), (n13, .inr (7, [.ref n14, .int 0])), (n14, .inl (cI, 160, .inl (fun _ => 0))), (n15, .inr (4, [.null, .null, .int 0, .int 0, .int 0, .int 0, .int 0]))] := hW
  refine lv_dup hx hb dX9_init_52 rfl ?_
  refine lv_aload_n hx hb dX9_init_53 rfl (lv_at hl 0 rfl) ?_
  refine k_get C hE hW iX9 0 rfl rfl 3 (by decide) f29 (fun _ h9 => h9) rfl dX9_init_54 ?_
  refine lv_aload_n hx hb dX9_init_57 rfl (lv_at hl 0 rfl) ?_
  refine k_get C hE hW iX9 0 rfl rfl 1 (by decide) f16 (fun _ h9 => h9) rfl dX9_init_58 ?_
  refine k_callI (b := n15) (As := [.ref n13, .ref n6]) (n := 2) (rest := [.ref n15, .ref q]) (wr := [(q, .inr (8, [.ref n1, .ref n6, .ref n11, .ref n13, .null, .null, .null, .null, .null])), (n1, .inr (2, [.ref n2, .ref n4])), (n2, .inr (6, [.ref n3])), (n3, .inl (cI, 36, .inl w0)), (n4, .inr (6, [.ref n5])), (n5, .inl (cI, 36, .inl w0)), (n6, .inr (2, [.ref n7, .ref n9])), (n7, .inr (6, [.ref n8])), (n8, .inl (cI, 36, .inl w0)), (n9, .inr (6, [.ref n10])), (n10, .inl (cI, 36, .inl w0)), (n11, .inr (3, [.ref n12, .int 0, .int 0])), (n12, .inl (cI, 1008, .inl (fun _ => 0))), (n13, .inr (7, [.ref n14, .int 0])), (n14, .inl (cI, 160, .inl (fun _ => 0)))]) C hE hW hl.1 (kX4_init l D cI cZ cJ _ n15 n13 n6) gX9_init_X4_init rfl (by decide +kernel) (by decide +kernel) (by decide +kernel) rfl (by decide +kernel) rfl ⟨Nat.le_of_ble_eq_true rfl, Nat.le_of_ble_eq_true rfl⟩ ⟨Nat.le_of_ble_eq_true rfl, Nat.le_of_ble_eq_true rfl⟩ [15] [0, 1, 2, 3, 4, 5, 6, 7, 8, 9, 10, 11, 12, 13, 14] rfl rfl rfl rfl (by decide) (Nat.le_of_ble_eq_true rfl) rfl dX9_init_61 (fun x H locs hW => ?_)
  have hW : kH D A s H locs [(q, .inr (8, [.ref n1, .ref n6, .ref n11, .ref n13, .null, .null, .null, .null, .null])), (n1, .inr (2, [.ref n2, .ref n4])), (n2, .inr (6, [.ref n3])), (n3, .inl (cI, 36, .inl w0)), (n4, .inr (6, [.ref n5])), (n5, .inl (cI, 36, .inl w0)), (n6, .inr (2, [.ref n7, .ref n9])), (n7, .inr (6, [.ref n8])), (n8, .inl (cI, 36, .inl w0)), (n9, .inr (6, [.ref n10])), (n10, .inl (cI, 36, .inl w0)), (n11, .inr (3, [.ref n12, .int 0, .int 0])), (n12, .inl (cI, 1008, .inl (fun _ => 0))), (n13, .inr (7, [.ref n14, .int 0])), (n14, .inl (cI, 160, .inl (fun _ => 0))), (n15, .inr (4, [.ref n13, .ref n6, .int 0, .int 0, .int 0, .int 0, .int (-1)]))] := hW
  refine k_putF (v := .ref n15) (ty := .object "SortedTables$Reader") (ws' := [(q, .inr (8, [.ref n1, .ref n6, .ref n11, .ref n13, .ref n15, .null, .null, .null, .null])), (n1, .inr (2, [.ref n2, .ref n4])), (n2, .inr (6, [.ref n3])), (n3, .inl (cI, 36, .inl w0)), (n4, .inr (6, [.ref n5])), (n5, .inl (cI, 36, .inl w0)), (n6, .inr (2, [.ref n7, .ref n9])), (n7, .inr (6, [.ref n8])), (n8, .inl (cI, 36, .inl w0)), (n9, .inr (6, [.ref n10])), (n10, .inl (cI, 36, .inl w0)), (n11, .inr (3, [.ref n12, .int 0, .int 0])), (n12, .inl (cI, 1008, .inl (fun _ => 0))), (n13, .inr (7, [.ref n14, .int 0])), (n14, .inl (cI, 160, .inl (fun _ => 0))), (n15, .inr (4, [.ref n13, .ref n6, .int 0, .int 0, .int 0, .int 0, .int (-1)]))]) C hE hW iX9 tyX9_ok nmX9 0 rfl rfl 4 (by decide) f38 (fun _ h9 => h9) rfl hin rfl (by decide +kernel) rfl rfl (Nat.le_of_ble_eq_true rfl) rfl dX9_init_64 (fun H locs hW => ?_)
  refine lv_aload_n hx hb dX9_init_67 rfl (lv_at hl 0 rfl) ?_
  refine k_newO (ci := 5) (fs := [.null, .int 0]) (ty := tyX6) C hE hW iX6 tyX6_ok (by decide +kernel) (by decide +kernel) (by decide +kernel) rfl (fun j hj => by rcases (show j = 0 ∨ j = 1 by omega) with rfl | rfl <;> rfl) (Nat.le_of_ble_eq_true rfl) (Nat.le_of_ble_eq_true rfl) dX9_init_68 (fun n16 H hW => ?_)
  have hW : kH D A s H _ [(q, .inr (8, [.ref n1, .ref n6, .ref n11, .ref n13, .ref n15, .null, .null, .null, .null])), (n1, .inr (2, [.ref n2, .ref n4])), (n2, .inr (6, [.ref n3])), (n3, .inl (cI, 36, .inl w0)), (n4, .inr (6, [.ref n5])), (n5, .inl (cI, 36, .inl w0)), (n6, .inr (2, [.ref n7, .ref n9])), (n7, .inr (6, [.ref n8])), (n8, .inl (cI, 36, .inl w0)), (n9, .inr (6, [.ref n10])), (n10, .inl (cI, 36, .inl w0)), (n11, .inr (3, [.ref n12, .int 0, .int 0])), (n12, .inl (cI, 1008, .inl (fun _ => 0))), (n13, .inr (7, [.ref n14, .int 0])), (n14, .inl (cI, 160, .inl (fun _ => 0))), (n15, .inr (4, [.ref n13, .ref n6, .int 0, .int 0, .int 0, .int 0, .int (-1)])), (n16, .inr (5, [.null, .int 0]))] := hW
  refine lv_dup hx hb dX9_init_71 rfl ?_
  refine k_callIN (b := n16) (As := []) (n := 0) (rest := [.ref n16, .ref q]) (wr := [(q, .inr (8, [.ref n1, .ref n6, .ref n11, .ref n13, .ref n15, .null, .null, .null, .null])), (n1, .inr (2, [.ref n2, .ref n4])), (n2, .inr (6, [.ref n3])), (n3, .inl (cI, 36, .inl w0)), (n4, .inr (6, [.ref n5])), (n5, .inl (cI, 36, .inl w0)), (n6, .inr (2, [.ref n7, .ref n9])), (n7, .inr (6, [.ref n8])), (n8, .inl (cI, 36, .inl w0)), (n9, .inr (6, [.ref n10])), (n10, .inl (cI, 36, .inl w0)), (n11, .inr (3, [.ref n12, .int 0, .int 0])), (n12, .inl (cI, 1008, .inl (fun _ => 0))), (n13, .inr (7, [.ref n14, .int 0])), (n14, .inl (cI, 160, .inl (fun _ => 0))), (n15, .inr (4, [.ref n13, .ref n6, .int 0, .int 0, .int 0, .int 0, .int (-1)]))]) C hE hW hl.1 (kX6_init l D cI cZ cJ _ n16 w0 hw0) gX9_init_X6_init_n44 rfl (by decide +kernel) (by decide +kernel) (by decide +kernel) rfl (by decide +kernel) rfl ⟨Nat.le_of_ble_eq_true rfl, Nat.le_of_ble_eq_true rfl⟩ ⟨Nat.le_of_ble_eq_true rfl, Nat.le_of_ble_eq_true rfl⟩ [16] [0, 1, 2, 3, 4, 5, 6, 7, 8, 9, 10, 11, 12, 13, 14, 15] rfl rfl rfl rfl (by decide) (Nat.le_of_ble_eq_true rfl) rfl dX9_init_72 (fun x H locs hW => ?_)
  obtain ⟨n17, n18, n19, n20, n21⟩ := x
  have hW : kH D A s H locs [(q, .inr (8, [.ref n1, .ref n6, .ref n11, .ref n13, .ref n15, .null, .null, .null, .null])), (n1, .inr (2, [.ref n2, .ref n4])), (n2, .inr (6, [.ref n3])), (n3, .inl (cI, 36, .inl w0)), (n4, .inr (6, [.ref n5])), (n5, .inl (cI, 36, .inl w0)), (n6, .inr (2, [.ref n7, .ref n9])), (n7, .inr (6, [.ref n8])), (n8, .inl (cI, 36, .inl w0)), (n9, .inr (6, [.ref n10])), (n10, .inl (cI, 36, .inl w0)), (n11, .inr (3, [.ref n12, .int 0, .int 0])), (n12, .inl (cI, 1008, .inl (fun _ => 0))), (n13, .inr (7, [.ref n14, .int 0])), (n14, .inl (cI, 160, .inl (fun _ => 0))), (n15, .inr (4, [.ref n13, .ref n6, .int 0, .int 0, .int 0, .int 0, .int (-1)])), (n16, .inr (5, [.ref n17, .int 0])), (n17, .inr (2, [.ref n18, .ref n20])), (n18, .inr (6, [.ref n19])), (n19, .inl (cI, 36, .inl w0)), (n20, .inr (6, [.ref n21])), (n21, .inl (cI, 36, .inl w0))] := hW
  refine k_putF (v := .ref n16) (ty := .object "SortedTables$Slot") (ws' := [(q, .inr (8, [.ref n1, .ref n6, .ref n11, .ref n13, .ref n15, .ref n16, .null, .null, .null])), (n1, .inr (2, [.ref n2, .ref n4])), (n2, .inr (6, [.ref n3])), (n3, .inl (cI, 36, .inl w0)), (n4, .inr (6, [.ref n5])), (n5, .inl (cI, 36, .inl w0)), (n6, .inr (2, [.ref n7, .ref n9])), (n7, .inr (6, [.ref n8])), (n8, .inl (cI, 36, .inl w0)), (n9, .inr (6, [.ref n10])), (n10, .inl (cI, 36, .inl w0)), (n11, .inr (3, [.ref n12, .int 0, .int 0])), (n12, .inl (cI, 1008, .inl (fun _ => 0))), (n13, .inr (7, [.ref n14, .int 0])), (n14, .inl (cI, 160, .inl (fun _ => 0))), (n15, .inr (4, [.ref n13, .ref n6, .int 0, .int 0, .int 0, .int 0, .int (-1)])), (n16, .inr (5, [.ref n17, .int 0])), (n17, .inr (2, [.ref n18, .ref n20])), (n18, .inr (6, [.ref n19])), (n19, .inl (cI, 36, .inl w0)), (n20, .inr (6, [.ref n21])), (n21, .inl (cI, 36, .inl w0))]) C hE hW iX9 tyX9_ok nmX9 0 rfl rfl 5 (by decide) f45 (fun _ h9 => h9) rfl hin rfl (by decide +kernel) rfl rfl (Nat.le_of_ble_eq_true rfl) rfl dX9_init_75 (fun H locs hW => ?_)
  refine lv_aload_n hx hb dX9_init_78 rfl (lv_at hl 0 rfl) ?_
  refine k_newO (ci := 5) (fs := [.null, .int 0]) (ty := tyX6) C hE hW iX6 tyX6_ok (by decide +kernel) (by decide +kernel) (by decide +kernel) rfl (fun j hj => by rcases (show j = 0 ∨ j = 1 by omega) with rfl | rfl <;> rfl) (Nat.le_of_ble_eq_true rfl) (Nat.le_of_ble_eq_true rfl) dX9_init_79 (fun n22 H hW => ?_)
  have hW : kH D A s H _ [(q, .inr (8, [.ref n1, .ref n6, .ref n11, .ref n13, .ref n15, .ref n16, .null, .null, .null])), (n1, .inr (2, [.ref n2, .ref n4])), (n2, .inr (6, [.ref n3])), (n3, .inl (cI, 36, .inl w0)), (n4, .inr (6, [.ref n5])), (n5, .inl (cI, 36, .inl w0)), (n6, .inr (2, [.ref n7, .ref n9])), (n7, .inr (6, [.ref n8])), (n8, .inl (cI, 36, .inl w0)), (n9, .inr (6, [.ref n10])), (n10, .inl (cI, 36, .inl w0)), (n11, .inr (3, [.ref n12, .int 0, .int 0])), (n12, .inl (cI, 1008, .inl (fun _ => 0))), (n13, .inr (7, [.ref n14, .int 0])), (n14, .inl (cI, 160, .inl (fun _ => 0))), (n15, .inr (4, [.ref n13, .ref n6, .int 0, .int 0, .int 0, .int 0, .int (-1)])), (n16, .inr (5, [.ref n17, .int 0])), (n17, .inr (2, [.ref n18, .ref n20])), (n18, .inr (6, [.ref n19])), (n19, .inl (cI, 36, .inl w0)), (n20, .inr (6, [.ref n21])), (n21, .inl (cI, 36, .inl w0)), (n22, .inr (5, [.null, .int 0]))] := hW
  refine lv_dup hx hb dX9_init_82 rfl ?_
  refine k_callIN (b := n22) (As := []) (n := 0) (rest := [.ref n22, .ref q]) (wr := [(q, .inr (8, [.ref n1, .ref n6, .ref n11, .ref n13, .ref n15, .ref n16, .null, .null, .null])), (n1, .inr (2, [.ref n2, .ref n4])), (n2, .inr (6, [.ref n3])), (n3, .inl (cI, 36, .inl w0)), (n4, .inr (6, [.ref n5])), (n5, .inl (cI, 36, .inl w0)), (n6, .inr (2, [.ref n7, .ref n9])), (n7, .inr (6, [.ref n8])), (n8, .inl (cI, 36, .inl w0)), (n9, .inr (6, [.ref n10])), (n10, .inl (cI, 36, .inl w0)), (n11, .inr (3, [.ref n12, .int 0, .int 0])), (n12, .inl (cI, 1008, .inl (fun _ => 0))), (n13, .inr (7, [.ref n14, .int 0])), (n14, .inl (cI, 160, .inl (fun _ => 0))), (n15, .inr (4, [.ref n13, .ref n6, .int 0, .int 0, .int 0, .int 0, .int (-1)])), (n16, .inr (5, [.ref n17, .int 0])), (n17, .inr (2, [.ref n18, .ref n20])), (n18, .inr (6, [.ref n19])), (n19, .inl (cI, 36, .inl w0)), (n20, .inr (6, [.ref n21])), (n21, .inl (cI, 36, .inl w0))]) C hE hW hl.1 (kX6_init l D cI cZ cJ _ n22 w0 hw0) gX9_init_X6_init_n44 rfl (by decide +kernel) (by decide +kernel) (by decide +kernel) rfl (by decide +kernel) rfl ⟨Nat.le_of_ble_eq_true rfl, Nat.le_of_ble_eq_true rfl⟩ ⟨Nat.le_of_ble_eq_true rfl, Nat.le_of_ble_eq_true rfl⟩ [22] [0, 1, 2, 3, 4, 5, 6, 7, 8, 9, 10, 11, 12, 13, 14, 15, 16, 17, 18, 19, 20, 21] rfl rfl rfl rfl (by decide) (Nat.le_of_ble_eq_true rfl) rfl dX9_init_83 (fun x H locs hW => ?_)
  obtain ⟨n23, n24, n25, n26, n27⟩ := x
  have hW : kH D A s H locs [(q, .inr (8, [.ref n1, .ref n6, .ref n11, .ref n13, .ref n15, .ref n16, .null, .null, .null])), (n1, .inr (2, [.ref n2, .ref n4])), (n2, .inr (6, [.ref n3])), (n3, .inl (cI, 36, .inl w0)), (n4, .inr (6, [.ref n5])), (n5, .inl (cI, 36, .inl w0)), (n6, .inr (2, [.ref n7, .ref n9])), (n7, .inr (6, [.ref n8])), (n8, .inl (cI, 36, .inl w0)), (n9, .inr (6, [.ref n10])), (n10, .inl (cI, 36, .inl w0)), (n11, .inr (3, [.ref n12, .int 0, .int 0])), (n12, .inl (cI, 1008, .inl (fun _ => 0))), (n13, .inr (7, [.ref n14, .int 0])), (n14, .inl (cI, 160, .inl (fun _ => 0))), (n15, .inr (4, [.ref n13, .ref n6, .int 0, .int 0, .int 0, .int 0, .int (-1)])), (n16, .inr (5, [.ref n17, .int 0])), (n17, .inr (2, [.ref n18, .ref n20])), (n18, .inr (6, [.ref n19])), (n19, .inl (cI, 36, .inl w0)), (n20, .inr (6, [.ref n21])), (n21, .inl (cI, 36, .inl w0)), (n22, .inr (5, [.ref n23, .int 0])), (n23, .inr (2, [.ref n24, .ref n26])), (n24, .inr (6, [.ref n25])), (n25, .inl (cI, 36, .inl w0)), (n26, .inr (6, [.ref n27])), (n27, .inl (cI, 36, .inl w0))] := hW
  refine k_putF (v := .ref n22) (ty := .object "SortedTables$Slot") (ws' := [(q, .inr (8, [.ref n1, .ref n6, .ref n11, .ref n13, .ref n15, .ref n16, .ref n22, .null, .null])), (n1, .inr (2, [.ref n2, .ref n4])), (n2, .inr (6, [.ref n3])), (n3, .inl (cI, 36, .inl w0)), (n4, .inr (6, [.ref n5])), (n5, .inl (cI, 36, .inl w0)), (n6, .inr (2, [.ref n7, .ref n9])), (n7, .inr (6, [.ref n8])), (n8, .inl (cI, 36, .inl w0)), (n9, .inr (6, [.ref n10])), (n10, .inl (cI, 36, .inl w0)), (n11, .inr (3, [.ref n12, .int 0, .int 0])), (n12, .inl (cI, 1008, .inl (fun _ => 0))), (n13, .inr (7, [.ref n14, .int 0])), (n14, .inl (cI, 160, .inl (fun _ => 0))), (n15, .inr (4, [.ref n13, .ref n6, .int 0, .int 0, .int 0, .int 0, .int (-1)])), (n16, .inr (5, [.ref n17, .int 0])), (n17, .inr (2, [.ref n18, .ref n20])), (n18, .inr (6, [.ref n19])), (n19, .inl (cI, 36, .inl w0)), (n20, .inr (6, [.ref n21])), (n21, .inl (cI, 36, .inl w0)), (n22, .inr (5, [.ref n23, .int 0])), (n23, .inr (2, [.ref n24, .ref n26])), (n24, .inr (6, [.ref n25])), (n25, .inl (cI, 36, .inl w0)), (n26, .inr (6, [.ref n27])), (n27, .inl (cI, 36, .inl w0))]) C hE hW iX9 tyX9_ok nmX9 0 rfl rfl 6 (by decide) f49 (fun _ h9 => h9) rfl hin rfl (by decide +kernel) rfl rfl (Nat.le_of_ble_eq_true rfl) rfl dX9_init_86 (fun H locs hW => ?_)
  refine lv_aload_n hx hb dX9_init_89 rfl (lv_at hl 0 rfl) ?_
  refine k_newO (ci := 1) (fs := [.null, .int 0, .int 0]) (ty := tyX1) C hE hW iX1 tyX1_ok (by decide +kernel) (by decide +kernel) (by decide +kernel) rfl (fun j hj => by rcases (show j = 0 ∨ j = 1 ∨ j = 2 by omega) with rfl | rfl | rfl <;> rfl) (Nat.le_of_ble_eq_true rfl) (Nat.le_of_ble_eq_true rfl) dX9_init_90 (fun n28 H hW => ?_)
  have hW : kH D A s H _ [(q, .inr (8, [.ref n1, .ref n6, .ref n11, .ref n13, .ref n15, .ref n16, .ref n22, .null, .null])), (n1, .inr (2, [.ref n2, .ref n4])), (n2, .inr (6, [.ref n3])), (n3, .inl (cI, 36, .inl w0)), (n4, .inr (6, [.ref n5])), (n5, .inl (cI, 36, .inl w0)), (n6, .inr (2, [.ref n7, .ref n9])), (n7, .inr (6, [.ref n8])), (n8, .inl (cI, 36, .inl w0)), (n9, .inr (6, [.ref n10])), (n10, .inl (cI, 36, .inl w0)), (n11, .inr (3, [.ref n12, .int 0, .int 0])), (n12, .inl (cI, 1008, .inl (fun _ => 0))), (n13, .inr (7, [.ref n14, .int 0])), (n14, .inl (cI, 160, .inl (fun _ => 0))), (n15, .inr (4, [.ref n13, .ref n6, .int 0, .int 0, .int 0, .int 0, .int (-1)])), (n16, .inr (5, [.ref n17, .int 0])), (n17, .inr (2, [.ref n18, .ref n20])), (n18, .inr (6, [.ref n19])), (n19, .inl (cI, 36, .inl w0)), (n20, .inr (6, [.ref n21])), (n21, .inl (cI, 36, .inl w0)), (n22, .inr (5, [.ref n23, .int 0])), (n23, .inr (2, [.ref n24, .ref n26])), (n24, .inr (6, [.ref n25])), (n25, .inl (cI, 36, .inl w0)), (n26, .inr (6, [.ref n27])), (n27, .inl (cI, 36, .inl w0)), (n28, .inr (1, [.null, .int 0, .int 0]))] := hW
  refine lv_dup hx hb dX9_init_93 rfl ?_
  refine k_callIN (b := n28) (As := []) (n := 0) (rest := [.ref n28, .ref q]) (wr := [(q, .inr (8, [.ref n1, .ref n6, .ref n11, .ref n13, .ref n15, .ref n16, .ref n22, .null, .null])), (n1, .inr (2, [.ref n2, .ref n4])), (n2, .inr (6, [.ref n3])), (n3, .inl (cI, 36, .inl w0)), (n4, .inr (6, [.ref n5])), (n5, .inl (cI, 36, .inl w0)), (n6, .inr (2, [.ref n7, .ref n9])), (n7, .inr (6, [.ref n8])), (n8, .inl (cI, 36, .inl w0)), (n9, .inr (6, [.ref n10])), (n10, .inl (cI, 36, .inl w0)), (n11, .inr (3, [.ref n12, .int 0, .int 0])), (n12, .inl (cI, 1008, .inl (fun _ => 0))), (n13, .inr (7, [.ref n14, .int 0])), (n14, .inl (cI, 160, .inl (fun _ => 0))), (n15, .inr (4, [.ref n13, .ref n6, .int 0, .int 0, .int 0, .int 0, .int (-1)])), (n16, .inr (5, [.ref n17, .int 0])), (n17, .inr (2, [.ref n18, .ref n20])), (n18, .inr (6, [.ref n19])), (n19, .inl (cI, 36, .inl w0)), (n20, .inr (6, [.ref n21])), (n21, .inl (cI, 36, .inl w0)), (n22, .inr (5, [.ref n23, .int 0])), (n23, .inr (2, [.ref n24, .ref n26])), (n24, .inr (6, [.ref n25])), (n25, .inl (cI, 36, .inl w0)), (n26, .inr (6, [.ref n27])), (n27, .inl (cI, 36, .inl w0))]) C hE hW hl.1 (kX1_init l D cI cZ cJ _ n28) gX9_init_X1_init_n54 rfl (by decide +kernel) (by decide +kernel) (by decide +kernel) rfl (by decide +kernel) rfl ⟨Nat.le_of_ble_eq_true rfl, Nat.le_of_ble_eq_true rfl⟩ ⟨Nat.le_of_ble_eq_true rfl, Nat.le_of_ble_eq_true rfl⟩ [28] [0, 1, 2, 3, 4, 5, 6, 7, 8, 9, 10, 11, 12, 13, 14, 15, 16, 17, 18, 19, 20, 21, 22, 23, 24, 25, 26, 27] rfl rfl rfl rfl (by decide) (Nat.le_of_ble_eq_true rfl) rfl dX9_init_94 (fun x H locs hW => ?_)
  obtain n29 := x
  have hW : kH D A s H locs [(q, .inr (8, [.ref n1, .ref n6, .ref n11, .ref n13, .ref n15, .ref n16, .ref n22, .null, .null])), (n1, .inr (2, [.ref n2, .ref n4])), (n2, .inr (6, [.ref n3])), (n3, .inl (cI, 36, .inl w0)), (n4, .inr (6, [.ref n5])), (n5, .inl (cI, 36, .inl w0)), (n6, .inr (2, [.ref n7, .ref n9])), (n7, .inr (6, [.ref n8])), (n8, .inl (cI, 36, .inl w0)), (n9, .inr (6, [.ref n10])), (n10, .inl (cI, 36, .inl w0)), (n11, .inr (3, [.ref n12, .int 0, .int 0])), (n12, .inl (cI, 1008, .inl (fun _ => 0))), (n13, .inr (7, [.ref n14, .int 0])), (n14, .inl (cI, 160, .inl (fun _ => 0))), (n15, .inr (4, [.ref n13, .ref n6, .int 0, .int 0, .int 0, .int 0, .int (-1)])), (n16, .inr (5, [.ref n17, .int 0])), (n17, .inr (2, [.ref n18, .ref n20])), (n18, .inr (6, [.ref n19])), (n19, .inl (cI, 36, .inl w0)), (n20, .inr (6, [.ref n21])), (n21, .inl (cI, 36, .inl w0)), (n22, .inr (5, [.ref n23, .int 0])), (n23, .inr (2, [.ref n24, .ref n26])), (n24, .inr (6, [.ref n25])), (n25, .inl (cI, 36, .inl w0)), (n26, .inr (6, [.ref n27])), (n27, .inl (cI, 36, .inl w0)), (n28, .inr (1, [.ref n29, .int -9, .int -9])), (n29, .inl (cI, 6, .inl (fun _ => 0)))] := hW
  refine k_putF (v := .ref n28) (ty := .object "SortedTables$GreatestPath") (ws' := [(q, .inr (8, [.ref n1, .ref n6, .ref n11, .ref n13, .ref n15, .ref n16, .ref n22, .ref n28, .null])), (n1, .inr (2, [.ref n2, .ref n4])), (n2, .inr (6, [.ref n3])), (n3, .inl (cI, 36, .inl w0)), (n4, .inr (6, [.ref n5])), (n5, .inl (cI, 36, .inl w0)), (n6, .inr (2, [.ref n7, .ref n9])), (n7, .inr (6, [.ref n8])), (n8, .inl (cI, 36, .inl w0)), (n9, .inr (6, [.ref n10])), (n10, .inl (cI, 36, .inl w0)), (n11, .inr (3, [.ref n12, .int 0, .int 0])), (n12, .inl (cI, 1008, .inl (fun _ => 0))), (n13, .inr (7, [.ref n14, .int 0])), (n14, .inl (cI, 160, .inl (fun _ => 0))), (n15, .inr (4, [.ref n13, .ref n6, .int 0, .int 0, .int 0, .int 0, .int (-1)])), (n16, .inr (5, [.ref n17, .int 0])), (n17, .inr (2, [.ref n18, .ref n20])), (n18, .inr (6, [.ref n19])), (n19, .inl (cI, 36, .inl w0)), (n20, .inr (6, [.ref n21])), (n21, .inl (cI, 36, .inl w0)), (n22, .inr (5, [.ref n23, .int 0])), (n23, .inr (2, [.ref n24, .ref n26])), (n24, .inr (6, [.ref n25])), (n25, .inl (cI, 36, .inl w0)), (n26, .inr (6, [.ref n27])), (n27, .inl (cI, 36, .inl w0)), (n28, .inr (1, [.ref n29, .int -9, .int -9])), (n29, .inl (cI, 6, .inl (fun _ => 0)))]) C hE hW iX9 tyX9_ok nmX9 0 rfl rfl 7 (by decide) f55 (fun _ h9 => h9) rfl hin rfl (by decide +kernel) rfl rfl (Nat.le_of_ble_eq_true rfl) rfl dX9_init_97 (fun H locs hW => ?_)
  refine lv_aload_n hx hb dX9_init_100 rfl (lv_at hl 0 rfl) ?_
  refine k_newO (ci := 0) (fs := [.null]) (ty := tyX0) C hE hW iX0 tyX0_ok (by decide +kernel) (by decide +kernel) (by decide +kernel) rfl (fun j hj => by rcases (show j = 0 by omega) with rfl <;> rfl) (Nat.le_of_ble_eq_true rfl) (Nat.le_of_ble_eq_true rfl) dX9_init_101 (fun n30 H hW => ?_)
  have hW : kH D A s H _ [(q, .inr (8, [.ref n1, .ref n6, .ref n11, .ref n13, .ref n15, .ref n16, .ref n22, .ref n28, .null])), (n1, .inr (2, [.ref n2, .ref n4])), (n2, .inr (6, [.ref n3])), (n3, .inl (cI, 36, .inl w0)), (n4, .inr (6, [.ref n5])), (n5, .inl (cI, 36, .inl w0)), (n6, .inr (2, [.ref n7, .ref n9])), (n7, .inr (6, [.ref n8])), (n8, .inl (cI, 36, .inl w0)), (n9, .inr (6, [.ref n10])), (n10, .inl (cI, 36, .inl w0)), (n11, .inr (3, [.ref n12, .int 0, .int 0])), (n12, .inl (cI, 1008, .inl (fun _ => 0))), (n13, .inr (7, [.ref n14, .int 0])), (n14, .inl (cI, 160, .inl (fun _ => 0))), (n15, .inr (4, [.ref n13, .ref n6, .int 0, .int 0, .int 0, .int 0, .int (-1)])), (n16, .inr (5, [.ref n17, .int 0])), (n17, .inr (2, [.ref n18, .ref n20])), (n18, .inr (6, [.ref n19])), (n19, .inl (cI, 36, .inl w0)), (n20, .inr (6, [.ref n21])), (n21, .inl (cI, 36, .inl w0)), (n22, .inr (5, [.ref n23, .int 0])), (n23, .inr (2, [.ref n24, .ref n26])), (n24, .inr (6, [.ref n25])), (n25, .inl (cI, 36, .inl w0)), (n26, .inr (6, [.ref n27])), (n27, .inl (cI, 36, .inl w0)), (n28, .inr (1, [.ref n29, .int -9, .int -9])), (n29, .inl (cI, 6, .inl (fun _ => 0))), (n30, .inr (0, [.null]))] := hW
  refine lv_dup hx hb dX9_init_104 rfl ?_
  refine k_callIN (b := n30) (As := []) (n := 0) (rest := [.ref n30, .ref q]) (wr := [(q, .inr (8, [.ref n1, .ref n6, .ref n11, .ref n13, .ref n15, .ref n16, .ref n22, .ref n28, .null])), (n1, .inr (2, [.ref n2, .ref n4])), (n2, .inr (6, [.ref n3])), (n3, .inl (cI, 36, .inl w0)), (n4, .inr (6, [.ref n5])), (n5, .inl (cI, 36, .inl w0)), (n6, .inr (2, [.ref n7, .ref n9])), (n7, .inr (6, [.ref n8])), (n8, .inl (cI, 36, .inl w0)), (n9, .inr (6, [.ref n10])), (n10, .inl (cI, 36, .inl w0)), (n11, .inr (3, [.ref n12, .int 0, .int 0])), (n12, .inl (cI, 1008, .inl (fun _ => 0))), (n13, .inr (7, [.ref n14, .int 0])), (n14, .inl (cI, 160, .inl (fun _ => 0))), (n15, .inr (4, [.ref n13, .ref n6, .int 0, .int 0, .int 0, .int 0, .int (-1)])), (n16, .inr (5, [.ref n17, .int 0])), (n17, .inr (2, [.ref n18, .ref n20])), (n18, .inr (6, [.ref n19])), (n19, .inl (cI, 36, .inl w0)), (n20, .inr (6, [.ref n21])), (n21, .inl (cI, 36, .inl w0)), (n22, .inr (5, [.ref n23, .int 0])), (n23, .inr (2, [.ref n24, .ref n26])), (n24, .inr (6, [.ref n25])), (n25, .inl (cI, 36, .inl w0)), (n26, .inr (6, [.ref n27])), (n27, .inl (cI, 36, .inl w0)), (n28, .inr (1, [.ref n29, .int -9, .int -9])), (n29, .inl (cI, 6, .inl (fun _ => 0)))]) C hE hW hl.1 (kX0_init l D cI cZ cJ _ n30) gX9_init_X0_init_n61 rfl (by decide +kernel) (by decide +kernel) (by decide +kernel) rfl (by decide +kernel) rfl ⟨Nat.le_of_ble_eq_true rfl, Nat.le_of_ble_eq_true rfl⟩ ⟨Nat.le_of_ble_eq_true rfl, Nat.le_of_ble_eq_true rfl⟩ [30] [0, 1, 2, 3, 4, 5, 6, 7, 8, 9, 10, 11, 12, 13, 14, 15, 16, 17, 18, 19, 20, 21, 22, 23, 24, 25, 26, 27, 28, 29] rfl rfl rfl rfl (by decide) (Nat.le_of_ble_eq_true rfl) rfl dX9_init_105 (fun x H locs hW => ?_)
  obtain n31 := x
  have hW : kH D A s H locs [(q, .inr (8, [.ref n1, .ref n6, .ref n11, .ref n13, .ref n15, .ref n16, .ref n22, .ref n28, .null])), (n1, .inr (2, [.ref n2, .ref n4])), (n2, .inr (6, [.ref n3])), (n3, .inl (cI, 36, .inl w0)), (n4, .inr (6, [.ref n5])), (n5, .inl (cI, 36, .inl w0)), (n6, .inr (2, [.ref n7, .ref n9])), (n7, .inr (6, [.ref n8])), (n8, .inl (cI, 36, .inl w0)), (n9, .inr (6, [.ref n10])), (n10, .inl (cI, 36, .inl w0)), (n11, .inr (3, [.ref n12, .int 0, .int 0])), (n12, .inl (cI, 1008, .inl (fun _ => 0))), (n13, .inr (7, [.ref n14, .int 0])), (n14, .inl (cI, 160, .inl (fun _ => 0))), (n15, .inr (4, [.ref n13, .ref n6, .int 0, .int 0, .int 0, .int 0, .int (-1)])), (n16, .inr (5, [.ref n17, .int 0])), (n17, .inr (2, [.ref n18, .ref n20])), (n18, .inr (6, [.ref n19])), (n19, .inl (cI, 36, .inl w0)), (n20, .inr (6, [.ref n21])), (n21, .inl (cI, 36, .inl w0)), (n22, .inr (5, [.ref n23, .int 0])), (n23, .inr (2, [.ref n24, .ref n26])), (n24, .inr (6, [.ref n25])), (n25, .inl (cI, 36, .inl w0)), (n26, .inr (6, [.ref n27])), (n27, .inl (cI, 36, .inl w0)), (n28, .inr (1, [.ref n29, .int -9, .int -9])), (n29, .inl (cI, 6, .inl (fun _ => 0))), (n30, .inr (0, [.ref n31])), (n31, .inl (cI, 37, .inl (fun _ => 0)))] := hW
  refine k_putF (v := .ref n30) (ty := .object "SortedTables$Fillings") (ws' := [(q, .inr (8, [.ref n1, .ref n6, .ref n11, .ref n13, .ref n15, .ref n16, .ref n22, .ref n28, .ref n30])), (n1, .inr (2, [.ref n2, .ref n4])), (n2, .inr (6, [.ref n3])), (n3, .inl (cI, 36, .inl w0)), (n4, .inr (6, [.ref n5])), (n5, .inl (cI, 36, .inl w0)), (n6, .inr (2, [.ref n7, .ref n9])), (n7, .inr (6, [.ref n8])), (n8, .inl (cI, 36, .inl w0)), (n9, .inr (6, [.ref n10])), (n10, .inl (cI, 36, .inl w0)), (n11, .inr (3, [.ref n12, .int 0, .int 0])), (n12, .inl (cI, 1008, .inl (fun _ => 0))), (n13, .inr (7, [.ref n14, .int 0])), (n14, .inl (cI, 160, .inl (fun _ => 0))), (n15, .inr (4, [.ref n13, .ref n6, .int 0, .int 0, .int 0, .int 0, .int (-1)])), (n16, .inr (5, [.ref n17, .int 0])), (n17, .inr (2, [.ref n18, .ref n20])), (n18, .inr (6, [.ref n19])), (n19, .inl (cI, 36, .inl w0)), (n20, .inr (6, [.ref n21])), (n21, .inl (cI, 36, .inl w0)), (n22, .inr (5, [.ref n23, .int 0])), (n23, .inr (2, [.ref n24, .ref n26])), (n24, .inr (6, [.ref n25])), (n25, .inl (cI, 36, .inl w0)), (n26, .inr (6, [.ref n27])), (n27, .inl (cI, 36, .inl w0)), (n28, .inr (1, [.ref n29, .int -9, .int -9])), (n29, .inl (cI, 6, .inl (fun _ => 0))), (n30, .inr (0, [.ref n31])), (n31, .inl (cI, 37, .inl (fun _ => 0)))]) C hE hW iX9 tyX9_ok nmX9 0 rfl rfl 8 (by decide) f62 (fun _ h9 => h9) rfl hin rfl (by decide +kernel) rfl rfl (Nat.le_of_ble_eq_true rfl) rfl dX9_init_108 (fun H locs hW => ?_)
  exact kI_vret (n1, n2, n3, n4, n5, n6, n7, n8, n9, n10, n11, n12, n13, n14, n15, n16, n17, n18, n19, n20, n21, n22, n23, n24, n25, n26, n27, n28, n29, n30, n31) C hlocks hr hW hQ dX9_init_111

set_option maxHeartbeats 4000000 in
set_option maxRecDepth 100000 in
theorem kX10_init (l : Launch) (D : va_G) (cI cZ cJ : ClassId) (sz : Nat) (q : Nat) : kMetI l D cI cZ cJ yX10_init wsX10_init 1 20 10 1873 [.ref q] [(q, .inr (9, [.int 0, .null, .int 0, .int 0, .null, .null, .null, .null, .int 0, .null, .null, .int 0, .null, .null, .null]))] sz (un10 (fun (n1 n2 n3 n4 n5 n6 n7 n8 n9 n10 : Nat) => [(q, .inr (9, [.int 0, .ref n1, .int 0, .int 0, .ref n2, .ref n3, .ref n4, .ref n5, .int 0, .ref n6, .ref n7, .int 0, .ref n8, .ref n9, .ref n10])), (n1, .inl (cI, 160, .inl (fun _ => 0))), (n2, .inl (cI, 84, .inl (fun _ => 0))), (n3, .inl (cI, 84, .inl (fun _ => 0))), (n4, .inl (cI, 84, .inl (fun _ => 0))), (n5, .inl (cI, 1176, .inl (fun _ => 0))), (n6, .inl (cI, 168, .inl (fun _ => 0))), (n7, .inl (cZ, 2, .inl (fun _ => 0))), (n8, .inl (cI, 36, .inl (fun _ => 0))), (n9, .inl (cI, 37, .inl (fun _ => 0))), (n10, .inl (cI, 42, .inl (fun _ => 0)))])) := by
  refine kI_of (cc := cX10_init) (maxL := 1) (by decide) rfl rfl (Nat.le_of_ble_eq_true rfl) ?_
  intro p e s m args below meth c A Q ls hQ C hlocks hr hin hE hW hl
  have hx := C.1
  have hb := C.2.1
  have hts := C.2.2.2.2
  have hl : lv_has ls 1 [(0, .ref q)] := hl
  have iX10 : ∀ w ∈ u_ws RX10 TX10 15, w ∈ wsX10_init := by decide +kernel
  have f7 := hts (.fieldLink RX10 7 "SortedTablesModel" "script" "[I") (by decide +kernel)
  have f13 := hts (.fieldLink RX10 13 "SortedTablesModel" "readRow" "[I") (by decide +kernel)
  have f16 := hts (.fieldLink RX10 16 "SortedTablesModel" "now" "[I") (by decide +kernel)
  have f19 := hts (.fieldLink RX10 19 "SortedTablesModel" "trial" "[I") (by decide +kernel)
  have f22 := hts (.fieldLink RX10 22 "SortedTablesModel" "diary" "[I") (by decide +kernel)
  have f25 := hts (.fieldLink RX10 25 "SortedTablesModel" "kept" "[I") (by decide +kernel)
  have f28 := hts (.fieldLink RX10 28 "SortedTablesModel" "isKept" "[Z") (by decide +kernel)
  have f32 := hts (.fieldLink RX10 32 "SortedTablesModel" "sums" "[I") (by decide +kernel)
  have f35 := hts (.fieldLink RX10 35 "SortedTablesModel" "primes" "[I") (by decide +kernel)
  have f38 := hts (.fieldLink RX10 38 "SortedTablesModel" "turned" "[I") (by decide +kernel)
  refine lv_aload_n hx hb dX10_init_0 rfl (lv_at hl 0 rfl) ?_
  refine k_obj C hl.1 (by decide +kernel) (by decide +kernel) (by decide +kernel) dX10_init_1 (Nat.le_of_ble_eq_true rfl) (Nat.le_of_ble_eq_true rfl) ?_
  refine lv_aload_n hx hb dX10_init_4 rfl (lv_at hl 0 rfl) ?_
  refine lv_sipush (v := 160) hx hb dX10_init_5 (by decide) ?_
  refine k_newI C hE hW (by decide +kernel) (by decide) rfl (Nat.le_of_ble_eq_true rfl) (Nat.le_of_ble_eq_true rfl) (Nat.le_of_ble_eq_true rfl) dX10_init_8 (fun n1 H hW => ?_)
  have hW : kH D A s H _ [(q, .inr (9, [.int 0, .null, .int 0, .int 0, .null, .null, .null, .null, .int 0, .null, .null, .int 0, .null, .null, .null])), (n1, .inl (cI, 160, .inl (fun _ => 0)))] := hW
  refine k_putF (v := .ref n1) (ty := .array .int) (ws' := [(q, .inr (9, [.int 0, .ref n1, .int 0, .int 0, .null, .null, .null, .null, .int 0, .null, .null, .int 0, .null, .null, .null])), (n1, .inl (cI, 160, .inl (fun _ => 0)))]) C hE hW iX10 tyX10_ok nmX10 0 rfl rfl 1 (by decide) f7 (fun _ h9 => h9) rfl hin rfl (by decide +kernel) rfl rfl (Nat.le_of_ble_eq_true rfl) rfl dX10_init_10 (fun H locs hW => ?_)
  refine lv_aload_n hx hb dX10_init_13 rfl (lv_at hl 0 rfl) ?_
  refine lv_bipush (v := 84) hx hb dX10_init_14 (by decide) ?_
  refine k_newI C hE hW (by decide +kernel) (by decide) rfl (Nat.le_of_ble_eq_true rfl) (Nat.le_of_ble_eq_true rfl) (Nat.le_of_ble_eq_true rfl) dX10_init_16 (fun n2 H hW => ?_)
  have hW : kH D A s H _ [(q, .inr (9, [.int 0, .ref n1, .int 0, .int 0, .null, .null, .null, .null, .int 0, .null, .null, .int 0, .null, .null, .null])), (n1, .inl (cI, 160, .inl (fun _ => 0))), (n2, .inl (cI, 84, .inl (fun _ => 0)))] := hW
  refine k_putF (v := .ref n2) (ty := .array .int) (ws' := [(q, .inr (9, [.int 0, .ref n1, .int 0, .int 0, .ref n2, .null, .null, .null, .int 0, .null, .null, .int 0, .null, .null, .null])), (n1, .inl (cI, 160, .inl (fun _ => 0))), (n2, .inl (cI, 84, .inl (fun _ => 0)))]) C hE hW iX10 tyX10_ok nmX10 0 rfl rfl 4 (by decide) f13 (fun _ h9 => h9) rfl hin rfl (by decide +kernel) rfl rfl (Nat.le_of_ble_eq_true rfl) rfl dX10_init_18 (fun H locs hW => ?_)
  refine lv_aload_n hx hb dX10_init_21 rfl (lv_at hl 0 rfl) ?_
  refine lv_bipush (v := 84) hx hb dX10_init_22 (by decide) ?_
  refine k_newI C hE hW (by decide +kernel) (by decide) rfl (Nat.le_of_ble_eq_true rfl) (Nat.le_of_ble_eq_true rfl) (Nat.le_of_ble_eq_true rfl) dX10_init_24 (fun n3 H hW => ?_)
  have hW : kH D A s H _ [(q, .inr (9, [.int 0, .ref n1, .int 0, .int 0, .ref n2, .null, .null, .null, .int 0, .null, .null, .int 0, .null, .null, .null])), (n1, .inl (cI, 160, .inl (fun _ => 0))), (n2, .inl (cI, 84, .inl (fun _ => 0))), (n3, .inl (cI, 84, .inl (fun _ => 0)))] := hW
  refine k_putF (v := .ref n3) (ty := .array .int) (ws' := [(q, .inr (9, [.int 0, .ref n1, .int 0, .int 0, .ref n2, .ref n3, .null, .null, .int 0, .null, .null, .int 0, .null, .null, .null])), (n1, .inl (cI, 160, .inl (fun _ => 0))), (n2, .inl (cI, 84, .inl (fun _ => 0))), (n3, .inl (cI, 84, .inl (fun _ => 0)))]) C hE hW iX10 tyX10_ok nmX10 0 rfl rfl 5 (by decide) f16 (fun _ h9 => h9) rfl hin rfl (by decide +kernel) rfl rfl (Nat.le_of_ble_eq_true rfl) rfl dX10_init_26 (fun H locs hW => ?_)
  refine lv_aload_n hx hb dX10_init_29 rfl (lv_at hl 0 rfl) ?_
  refine lv_bipush (v := 84) hx hb dX10_init_30 (by decide) ?_
  refine k_newI C hE hW (by decide +kernel) (by decide) rfl (Nat.le_of_ble_eq_true rfl) (Nat.le_of_ble_eq_true rfl) (Nat.le_of_ble_eq_true rfl) dX10_init_32 (fun n4 H hW => ?_)
  have hW : kH D A s H _ [(q, .inr (9, [.int 0, .ref n1, .int 0, .int 0, .ref n2, .ref n3, .null, .null, .int 0, .null, .null, .int 0, .null, .null, .null])), (n1, .inl (cI, 160, .inl (fun _ => 0))), (n2, .inl (cI, 84, .inl (fun _ => 0))), (n3, .inl (cI, 84, .inl (fun _ => 0))), (n4, .inl (cI, 84, .inl (fun _ => 0)))] := hW
  refine k_putF (v := .ref n4) (ty := .array .int) (ws' := [(q, .inr (9, [.int 0, .ref n1, .int 0, .int 0, .ref n2, .ref n3, .ref n4, .null, .int 0, .null, .null, .int 0, .null, .null, .null])), (n1, .inl (cI, 160, .inl (fun _ => 0))), (n2, .inl (cI, 84, .inl (fun _ => 0))), (n3, .inl (cI, 84, .inl (fun _ => 0))), (n4, .inl (cI, 84, .inl (fun _ => 0)))]) C hE hW iX10 tyX10_ok nmX10 0 rfl rfl 6 (by decide) f19 (fun _ h9 => h9) rfl hin rfl (by decide +kernel) rfl rfl (Nat.le_of_ble_eq_true rfl) rfl dX10_init_34 (fun H locs hW => ?_)
  refine lv_aload_n hx hb dX10_init_37 rfl (lv_at hl 0 rfl) ?_
  refine lv_sipush (v := 1176) hx hb dX10_init_38 (by decide) ?_
  refine k_newI C hE hW (by decide +kernel) (by decide) rfl (Nat.le_of_ble_eq_true rfl) (Nat.le_of_ble_eq_true rfl) (Nat.le_of_ble_eq_true rfl) dX10_init_41 (fun n5 H hW => ?_)
  have hW : kH D A s H _ [(q, .inr (9, [.int 0, .ref n1, .int 0, .int 0, .ref n2, .ref n3, .ref n4, .null, .int 0, .null, .null, .int 0, .null, .null, .null])), (n1, .inl (cI, 160, .inl (fun _ => 0))), (n2, .inl (cI, 84, .inl (fun _ => 0))), (n3, .inl (cI, 84, .inl (fun _ => 0))), (n4, .inl (cI, 84, .inl (fun _ => 0))), (n5, .inl (cI, 1176, .inl (fun _ => 0)))] := hW
  refine k_putF (v := .ref n5) (ty := .array .int) (ws' := [(q, .inr (9, [.int 0, .ref n1, .int 0, .int 0, .ref n2, .ref n3, .ref n4, .ref n5, .int 0, .null, .null, .int 0, .null, .null, .null])), (n1, .inl (cI, 160, .inl (fun _ => 0))), (n2, .inl (cI, 84, .inl (fun _ => 0))), (n3, .inl (cI, 84, .inl (fun _ => 0))), (n4, .inl (cI, 84, .inl (fun _ => 0))), (n5, .inl (cI, 1176, .inl (fun _ => 0)))]) C hE hW iX10 tyX10_ok nmX10 0 rfl rfl 7 (by decide) f22 (fun _ h9 => h9) rfl hin rfl (by decide +kernel) rfl rfl (Nat.le_of_ble_eq_true rfl) rfl dX10_init_43 (fun H locs hW => ?_)
  refine lv_aload_n hx hb dX10_init_46 rfl (lv_at hl 0 rfl) ?_
  refine lv_sipush (v := 168) hx hb dX10_init_47 (by decide) ?_
  refine k_newI C hE hW (by decide +kernel) (by decide) rfl (Nat.le_of_ble_eq_true rfl) (Nat.le_of_ble_eq_true rfl) (Nat.le_of_ble_eq_true rfl) dX10_init_50 (fun n6 H hW => ?_)
  have hW : kH D A s H _ [(q, .inr (9, [.int 0, .ref n1, .int 0, .int 0, .ref n2, .ref n3, .ref n4, .ref n5, .int 0, .null, .null, .int 0, .null, .null, .null])), (n1, .inl (cI, 160, .inl (fun _ => 0))), (n2, .inl (cI, 84, .inl (fun _ => 0))), (n3, .inl (cI, 84, .inl (fun _ => 0))), (n4, .inl (cI, 84, .inl (fun _ => 0))), (n5, .inl (cI, 1176, .inl (fun _ => 0))), (n6, .inl (cI, 168, .inl (fun _ => 0)))] := hW
  refine k_putF (v := .ref n6) (ty := .array .int) (ws' := [(q, .inr (9, [.int 0, .ref n1, .int 0, .int 0, .ref n2, .ref n3, .ref n4, .ref n5, .int 0, .ref n6, .null, .int 0, .null, .null, .null])), (n1, .inl (cI, 160, .inl (fun _ => 0))), (n2, .inl (cI, 84, .inl (fun _ => 0))), (n3, .inl (cI, 84, .inl (fun _ => 0))), (n4, .inl (cI, 84, .inl (fun _ => 0))), (n5, .inl (cI, 1176, .inl (fun _ => 0))), (n6, .inl (cI, 168, .inl (fun _ => 0)))]) C hE hW iX10 tyX10_ok nmX10 0 rfl rfl 9 (by decide) f25 (fun _ h9 => h9) rfl hin rfl (by decide +kernel) rfl rfl (Nat.le_of_ble_eq_true rfl) rfl dX10_init_52 (fun H locs hW => ?_)
  refine lv_aload_n hx hb dX10_init_55 rfl (lv_at hl 0 rfl) ?_
  refine lv_iconst (v := 2) hx hb dX10_init_56 (by decide) ?_
  refine k_newZ C hE hW (by decide +kernel) (by decide) rfl (Nat.le_of_ble_eq_true rfl) (Nat.le_of_ble_eq_true rfl) (Nat.le_of_ble_eq_true rfl) dX10_init_57 (fun n7 H hW => ?_)
  have hW : kH D A s H _ [(q, .inr (9, [.int 0, .ref n1, .int 0, .int 0, .ref n2, .ref n3, .ref n4, .ref n5, .int 0, .ref n6, .null, .int 0, .null, .null, .null])), (n1, .inl (cI, 160, .inl (fun _ => 0))), (n2, .inl (cI, 84, .inl (fun _ => 0))), (n3, .inl (cI, 84, .inl (fun _ => 0))), (n4, .inl (cI, 84, .inl (fun _ => 0))), (n5, .inl (cI, 1176, .inl (fun _ => 0))), (n6, .inl (cI, 168, .inl (fun _ => 0))), (n7, .inl (cZ, 2, .inl (fun _ => 0)))] := hW
  refine k_putF (v := .ref n7) (ty := .array .boolean) (ws' := [(q, .inr (9, [.int 0, .ref n1, .int 0, .int 0, .ref n2, .ref n3, .ref n4, .ref n5, .int 0, .ref n6, .ref n7, .int 0, .null, .null, .null])), (n1, .inl (cI, 160, .inl (fun _ => 0))), (n2, .inl (cI, 84, .inl (fun _ => 0))), (n3, .inl (cI, 84, .inl (fun _ => 0))), (n4, .inl (cI, 84, .inl (fun _ => 0))), (n5, .inl (cI, 1176, .inl (fun _ => 0))), (n6, .inl (cI, 168, .inl (fun _ => 0))), (n7, .inl (cZ, 2, .inl (fun _ => 0)))]) C hE hW iX10 tyX10_ok nmX10 0 rfl rfl 10 (by decide) f28 (fun _ h9 => h9) rfl hin rfl (by decide +kernel) rfl rfl (Nat.le_of_ble_eq_true rfl) rfl dX10_init_59 (fun H locs hW => ?_)
  refine lv_aload_n hx hb dX10_init_62 rfl (lv_at hl 0 rfl) ?_
  refine lv_bipush (v := 36) hx hb dX10_init_63 (by decide) ?_
  refine k_newI C hE hW (by decide +kernel) (by decide) rfl (Nat.le_of_ble_eq_true rfl) (Nat.le_of_ble_eq_true rfl) (Nat.le_of_ble_eq_true rfl) dX10_init_65 (fun n8 H hW => ?_)
  have hW : kH D A s H _ [(q, .inr (9, [.int 0, .ref n1, .int 0, .int 0, .ref n2, .ref n3, .ref n4, .ref n5, .int 0, .ref n6, .ref n7, .int 0, .null, .null, .null])), (n1, .inl (cI, 160, .inl (fun _ => 0))), (n2, .inl (cI, 84, .inl (fun _ => 0))), (n3, .inl (cI, 84, .inl (fun _ => 0))), (n4, .inl (cI, 84, .inl (fun _ => 0))), (n5, .inl (cI, 1176, .inl (fun _ => 0))), (n6, .inl (cI, 168, .inl (fun _ => 0))), (n7, .inl (cZ, 2, .inl (fun _ => 0))), (n8, .inl (cI, 36, .inl (fun _ => 0)))] := hW
  refine k_putF (v := .ref n8) (ty := .array .int) (ws' := [(q, .inr (9, [.int 0, .ref n1, .int 0, .int 0, .ref n2, .ref n3, .ref n4, .ref n5, .int 0, .ref n6, .ref n7, .int 0, .ref n8, .null, .null])), (n1, .inl (cI, 160, .inl (fun _ => 0))), (n2, .inl (cI, 84, .inl (fun _ => 0))), (n3, .inl (cI, 84, .inl (fun _ => 0))), (n4, .inl (cI, 84, .inl (fun _ => 0))), (n5, .inl (cI, 1176, .inl (fun _ => 0))), (n6, .inl (cI, 168, .inl (fun _ => 0))), (n7, .inl (cZ, 2, .inl (fun _ => 0))), (n8, .inl (cI, 36, .inl (fun _ => 0)))]) C hE hW iX10 tyX10_ok nmX10 0 rfl rfl 12 (by decide) f32 (fun _ h9 => h9) rfl hin rfl (by decide +kernel) rfl rfl (Nat.le_of_ble_eq_true rfl) rfl dX10_init_67 (fun H locs hW => ?_)
  refine lv_aload_n hx hb dX10_init_70 rfl (lv_at hl 0 rfl) ?_
  refine lv_bipush (v := 37) hx hb dX10_init_71 (by decide) ?_
  refine k_newI C hE hW (by decide +kernel) (by decide) rfl (Nat.le_of_ble_eq_true rfl) (Nat.le_of_ble_eq_true rfl) (Nat.le_of_ble_eq_true rfl) dX10_init_73 (fun n9 H hW => ?_)
  have hW : kH D A s H _ [(q, .inr (9, [.int 0, .ref n1, .int 0, .int 0, .ref n2, .ref n3, .ref n4, .ref n5, .int 0, .ref n6, .ref n7, .int 0, .ref n8, .null, .null])), (n1, .inl (cI, 160, .inl (fun _ => 0))), (n2, .inl (cI, 84, .inl (fun _ => 0))), (n3, .inl (cI, 84, .inl (fun _ => 0))), (n4, .inl (cI, 84, .inl (fun _ => 0))), (n5, .inl (cI, 1176, .inl (fun _ => 0))), (n6, .inl (cI, 168, .inl (fun _ => 0))), (n7, .inl (cZ, 2, .inl (fun _ => 0))), (n8, .inl (cI, 36, .inl (fun _ => 0))), (n9, .inl (cI, 37, .inl (fun _ => 0)))] := hW
  refine k_putF (v := .ref n9) (ty := .array .int) (ws' := [(q, .inr (9, [.int 0, .ref n1, .int 0, .int 0, .ref n2, .ref n3, .ref n4, .ref n5, .int 0, .ref n6, .ref n7, .int 0, .ref n8, .ref n9, .null])), (n1, .inl (cI, 160, .inl (fun _ => 0))), (n2, .inl (cI, 84, .inl (fun _ => 0))), (n3, .inl (cI, 84, .inl (fun _ => 0))), (n4, .inl (cI, 84, .inl (fun _ => 0))), (n5, .inl (cI, 1176, .inl (fun _ => 0))), (n6, .inl (cI, 168, .inl (fun _ => 0))), (n7, .inl (cZ, 2, .inl (fun _ => 0))), (n8, .inl (cI, 36, .inl (fun _ => 0))), (n9, .inl (cI, 37, .inl (fun _ => 0)))]) C hE hW iX10 tyX10_ok nmX10 0 rfl rfl 13 (by decide) f35 (fun _ h9 => h9) rfl hin rfl (by decide +kernel) rfl rfl (Nat.le_of_ble_eq_true rfl) rfl dX10_init_75 (fun H locs hW => ?_)
  refine lv_aload_n hx hb dX10_init_78 rfl (lv_at hl 0 rfl) ?_
  refine lv_bipush (v := 42) hx hb dX10_init_79 (by decide) ?_
  refine k_newI C hE hW (by decide +kernel) (by decide) rfl (Nat.le_of_ble_eq_true rfl) (Nat.le_of_ble_eq_true rfl) (Nat.le_of_ble_eq_true rfl) dX10_init_81 (fun n10 H hW => ?_)
  have hW : kH D A s H _ [(q, .inr (9, [.int 0, .ref n1, .int 0, .int 0, .ref n2, .ref n3, .ref n4, .ref n5, .int 0, .ref n6, .ref n7, .int 0, .ref n8, .ref n9, .null])), (n1, .inl (cI, 160, .inl (fun _ => 0))), (n2, .inl (cI, 84, .inl (fun _ => 0))), (n3, .inl (cI, 84, .inl (fun _ => 0))), (n4, .inl (cI, 84, .inl (fun _ => 0))), (n5, .inl (cI, 1176, .inl (fun _ => 0))), (n6, .inl (cI, 168, .inl (fun _ => 0))), (n7, .inl (cZ, 2, .inl (fun _ => 0))), (n8, .inl (cI, 36, .inl (fun _ => 0))), (n9, .inl (cI, 37, .inl (fun _ => 0))), (n10, .inl (cI, 42, .inl (fun _ => 0)))] := hW
  refine k_putF (v := .ref n10) (ty := .array .int) (ws' := [(q, .inr (9, [.int 0, .ref n1, .int 0, .int 0, .ref n2, .ref n3, .ref n4, .ref n5, .int 0, .ref n6, .ref n7, .int 0, .ref n8, .ref n9, .ref n10])), (n1, .inl (cI, 160, .inl (fun _ => 0))), (n2, .inl (cI, 84, .inl (fun _ => 0))), (n3, .inl (cI, 84, .inl (fun _ => 0))), (n4, .inl (cI, 84, .inl (fun _ => 0))), (n5, .inl (cI, 1176, .inl (fun _ => 0))), (n6, .inl (cI, 168, .inl (fun _ => 0))), (n7, .inl (cZ, 2, .inl (fun _ => 0))), (n8, .inl (cI, 36, .inl (fun _ => 0))), (n9, .inl (cI, 37, .inl (fun _ => 0))), (n10, .inl (cI, 42, .inl (fun _ => 0)))]) C hE hW iX10 tyX10_ok nmX10 0 rfl rfl 14 (by decide) f38 (fun _ h9 => h9) rfl hin rfl (by decide +kernel) rfl rfl (Nat.le_of_ble_eq_true rfl) rfl dX10_init_83 (fun H locs hW => ?_)
  exact kI_vret (n1, n2, n3, n4, n5, n6, n7, n8, n9, n10) C hlocks hr hW hQ dX10_init_86
