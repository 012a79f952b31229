set_option maxHeartbeats 4000000 in
set_option maxRecDepth 100000 in
theorem kX10_thrown (l : Launch) (D : va_G) (cI cZ cJ : ClassId) (sz : Nat) (q q_script q_readRow q_now q_trial q_diary q_kept q_isKept q_sums q_primes q_turned : Nat) (u_refusal : Int32) (u_scriptSize : Int32) (u_spot : Int32) (u_acts : Int32) (u_slides : Int32) (r : Int32) (hf : pX10_thrown u_refusal = some r) : kMet l D cI cZ cJ yX10_thrown wsX10_thrown 0 0 [.ref q] [(q, .inr (9, [.int u_refusal, .ref q_script, .int u_scriptSize, .int u_spot, .ref q_readRow, .ref q_now, .ref q_trial, .ref q_diary, .int u_acts, .ref q_kept, .ref q_isKept, .int u_slides, .ref q_sums, .ref q_primes, .ref q_turned]))] sz (some (.int r)) [(q, .inr (9, [.int u_refusal, .ref q_script, .int u_scriptSize, .int u_spot, .ref q_readRow, .ref q_now, .ref q_trial, .ref q_diary, .int u_acts, .ref q_kept, .ref q_isKept, .int u_slides, .ref q_sums, .ref q_primes, .ref q_turned]))] := by
  refine kM_of (cc := cX10_thrown) (maxL := 1) (ret := (some .int)) (by decide) rfl (Nat.le_of_ble_eq_true rfl) ?_
  intro p e s m args below meth c A Q ls hQ C hlocks hr hE hW hl
  have hx := C.1
  have hb := C.2.1
  have hts := C.2.2.2.2
  have hl : lv_has ls 1 [(0, .ref q)] := hl
  have iX10 : ∀ w ∈ u_ws RX10 TX10 15, w ∈ wsX10_thrown := by decide +kernel
  have f41 := hts (.fieldLink RX10 41 "SortedTablesModel" "refusal" "I") (by decide +kernel)
  unfold pX10_thrown at hf
  refine lv_aload_n hx hb dX10_thrown_0 rfl (lv_at hl 0 rfl) ?_
  refine k_get C hE hW iX10 0 rfl rfl 0 (by decide) f41 (fun _ h9 => h9) rfl dX10_thrown_1 ?_
  obtain rfl := Option.some.inj hf
  exact k_iret C hlocks hr hW hQ dX10_thrown_4

set_option maxHeartbeats 4000000 in
set_option maxRecDepth 100000 in
theorem kX10_refused (l : Launch) (D : va_G) (cI cZ cJ : ClassId) (sz : Nat) (q q_script q_readRow q_now q_trial q_diary q_kept q_isKept q_sums q_primes q_turned : Nat) (u_refusal : Int32) (u_scriptSize : Int32) (u_spot : Int32) (u_acts : Int32) (u_slides : Int32) (p0 : Int32) (r : Int32) (u_refusal' : Int32) (hf : pX10_refused u_refusal p0 = some (r, u_refusal')) : kMet l D cI cZ cJ yX10_refused wsX10_refused 0 0 [.ref q, .int p0] [(q, .inr (9, [.int u_refusal, .ref q_script, .int u_scriptSize, .int u_spot, .ref q_readRow, .ref q_now, .ref q_trial, .ref q_diary, .int u_acts, .ref q_kept, .ref q_isKept, .int u_slides, .ref q_sums, .ref q_primes, .ref q_turned]))] sz (some (.int r)) [(q, .inr (9, [.int u_refusal', .ref q_script, .int u_scriptSize, .int u_spot, .ref q_readRow, .ref q_now, .ref q_trial, .ref q_diary, .int u_acts, .ref q_kept, .ref q_isKept, .int u_slides, .ref q_sums, .ref q_primes, .ref q_turned]))] := by
  refine kM_of (cc := cX10_refused) (maxL := 2) (ret := (some .boolean)) (by decide) rfl (Nat.le_of_ble_eq_true rfl) ?_
  intro p e s m args below meth c A Q ls hQ C hlocks hr hE hW hl
  have hx := C.1
  have hb := C.2.1
  have hts := C.2.2.2.2
  have hl : lv_has ls 2 [(0, .ref q), (1, .int p0)] := hl
  have iX10 : ∀ w ∈ u_ws RX10 TX10 15, w ∈ wsX10_refused := by decide +kernel
  have f41 := hts (.fieldLink RX10 41 "SortedTablesModel" "refusal" "I") (by decide +kernel)
  unfold pX10_refused at hf
  refine lv_aload_n hx hb dX10_refused_0 rfl (lv_at hl 0 rfl) ?_
  refine lv_iload_n hx hb dX10_refused_1 rfl (lv_at hl 1 rfl) ?_
  refine k_put (v := .int p0) (ty := .int) (ws' := [(q, .inr (9, [.int p0, .ref q_script, .int u_scriptSize, .int u_spot, .ref q_readRow, .ref q_now, .ref q_trial, .ref q_diary, .int u_acts, .ref q_kept, .ref q_isKept, .int u_slides, .ref q_sums, .ref q_primes, .ref q_turned]))]) C hE hW iX10 tyX10_ok nmX10 0 rfl rfl 0 (by decide) f41 (fun _ h9 => h9) rfl (by decide +kernel) rfl rfl (Nat.le_of_ble_eq_true rfl) rfl dX10_refused_2 (fun H locs hW => ?_)
  refine lv_iload_n hx hb dX10_refused_5 rfl (lv_at hl 1 rfl) ?_
  refine lv_if_le (tgt := 13) hx hb dX10_refused_6 (by decide) (fun hc => ?_) (fun hc => ?_)
  · replace hf := if_t hc hf
    refine lv_iconst (v := 0) hx hb dX10_refused_13 (by decide) ?_
    obtain ⟨rfl, rfl⟩ := sm2 hf
    exact k_zret C hlocks hr hW (by decide) hQ dX10_refused_14
  · replace hf := if_f hc hf
    refine lv_iconst (v := 1) hx hb dX10_refused_9 (by decide) ?_
    refine lv_goto (tgt := 14) hx hb dX10_refused_10 (by decide) ?_
    obtain ⟨rfl, rfl⟩ := sm2 hf
    exact k_zret C hlocks hr hW (by decide) hQ dX10_refused_14

set_option maxHeartbeats 4000000 in
set_option maxRecDepth 100000 in
theorem kX10_in (l : Launch) (D : va_G) (cI cZ cJ : ClassId) (sz : Nat) (p0 : Int64) (p1 : Int64) (p2 : Int64) (r : Int32) (hf : pX10_in p0 p1 p2 = some r) : kMet l D cI cZ cJ yX10_in wsX10_in 0 0 [.long p0, .long p1, .long p2] [] sz (some (.int r)) [] := by
  refine kM_of (cc := cX10_in) (maxL := 6) (ret := (some .boolean)) (by decide) rfl (Nat.le_of_ble_eq_true rfl) ?_
  intro p e s m args below meth c A Q ls hQ C hlocks hr hE hW hl
  have hx := C.1
  have hb := C.2.1
  have hts := C.2.2.2.2
  have hl : lv_has ls 6 [(0, .long p0), (2, .long p1), (4, .long p2)] := hl
  unfold pX10_in at hf
  refine lv_lload_n hx hb dX10_in_0 rfl (lv_at hl 0 rfl) ?_
  refine lv_lload_n hx hb dX10_in_1 rfl (lv_at hl 1 rfl) ?_
  refine W.lcmp hx hb dX10_in_2 ?_
  refine lv_if_lt (tgt := 17) hx hb dX10_in_3 (by decide) (fun hc => ?_) (fun hc => ?_)
  · replace hf := if_t hc hf
    refine lv_iconst (v := 0) hx hb dX10_in_17 (by decide) ?_
    obtain rfl := Option.some.inj hf
    exact k_zret C hlocks hr hW (by decide) hQ dX10_in_18
  · replace hf := if_f hc hf
    refine lv_lload_n hx hb dX10_in_6 rfl (lv_at hl 0 rfl) ?_
    refine lv_lload hx hb dX10_in_7 (lv_at hl 2 rfl) ?_
    refine W.lcmp hx hb dX10_in_9 ?_
    refine lv_if_gt (tgt := 17) hx hb dX10_in_10 (by decide) (fun hc => ?_) (fun hc => ?_)
    · replace hf := if_t hc hf
      refine lv_iconst (v := 0) hx hb dX10_in_17 (by decide) ?_
      obtain rfl := Option.some.inj hf
      exact k_zret C hlocks hr hW (by decide) hQ dX10_in_18
    · replace hf := if_f hc hf
      refine lv_iconst (v := 1) hx hb dX10_in_13 (by decide) ?_
      refine lv_goto (tgt := 18) hx hb dX10_in_14 (by decide) ?_
      obtain rfl := Option.some.inj hf
      exact k_zret C hlocks hr hW (by decide) hQ dX10_in_18

set_option maxHeartbeats 4000000 in
set_option maxRecDepth 100000 in
theorem kX10_copy (l : Launch) (D : va_G) (cI cZ cJ : ClassId) (sz : Nat) (r0 r2 : Nat) (n0 : Nat) (n2 : Nat) (u0 : Nat → Int32) (u2 : Nat → Int32) (p1 : Int32) (p3 : Int32) (p4 : Int32) (u2' : Nat → Int32) (hf : pX10_copy n0 n2 u0 u2 p1 p3 p4 = some u2') : kMet l D cI cZ cJ yX10_copy wsX10_copy 0 0 [.ref r0, .int p1, .ref r2, .int p3, .int p4] [(r0, .inl (cI, n0, .inl u0)), (r2, .inl (cI, n2, .inl u2))] sz none [(r0, .inl (cI, n0, .inl u0)), (r2, .inl (cI, n2, .inl u2'))] := by
  refine kM_of (cc := cX10_copy) (maxL := 6) (ret := none) (by decide) rfl (Nat.le_of_ble_eq_true rfl) ?_
  intro p e s m args below meth c A Q ls hQ C hlocks hr hE hW hl
  have hx := C.1
  have hb := C.2.1
  have hts := C.2.2.2.2
  have hl : lv_has ls 6 [(0, .ref r0), (1, .int p1), (2, .ref r2), (3, .int p3), (4, .int p4)] := hl
  unfold pX10_copy at hf
  refine lv_iconst (v := 0) hx hb dX10_copy_0 (by decide) ?_
  refine lv_istore (lv' := [(5, .int 0), (0, .ref r0), (1, .int p1), (2, .ref r2), (3, .int p3), (4, .int p4)]) hx hb dX10_copy_1 hl (by decide) rfl (fun ls hl => ?_)
  obtain ⟨w3, hx50, hf⟩ := bd1_s hf
  have J6 : ∀ (H : Heap) (locs : List Loc) (ls : Array Slot), kH D A s H locs [(r0, .inl (cI, n0, .inl u0)), (r2, .inl (cI, n2, .inl w3))] → lv_has ls 6 [] → W p l e (kRm 0 0 0 0) s m args below meth c H locs 0 0 Q (F0 m 28 ls []) := by
    intro H locs ls hW hl
    obtain rfl := Option.some.inj hf
    exact k_vret C hlocks hr hW hQ dX10_copy_28
  have L7 : ∀ (n : Nat) (i1 : Int32) (w2 : Nat → Int32), lpI n (un2 (pX10_copy_L3 n0 n2 u0 p1 p3 p4)) (i1, w2) = some w3 → ∀ (H : Heap) (locs : List Loc) (ls : Array Slot), kH D A s H locs [(r0, .inl (cI, n0, .inl u0)), (r2, .inl (cI, n2, .inl w2))] → lv_has ls 6 [(5, .int i1), (0, .ref r0), (1, .int p1), (2, .ref r2), (3, .int p3), (4, .int p4)] → W p l e (kRm 0 0 0 0) s m args below meth c H locs 0 0 Q (F0 m 3 ls []) := by
    intro n
    induction n with
    | zero => intro i1 w2 hx5; exact (lpI_0 hx5).elim
    | succ n ih9 =>
      intro i1 w2 hx5 H locs ls hW hl
      obtain ⟨ooho4, ho4, hx5⟩ := lpI_s hx5
      replace ho4 := un2_s ho4
      unfold pX10_copy_L3 at ho4
      refine lv_iload hx hb dX10_copy_3 (lv_at hl 0 rfl) ?_
      refine lv_iload hx hb dX10_copy_5 (lv_at hl 5 rfl) ?_
      refine lv_icmp_ge (tgt := 28) hx hb dX10_copy_7 (by decide) (fun hc => ?_) (fun hc => ?_)
      · replace ho4 := if_t hc ho4
        obtain rfl := Option.some.inj ho4
        obtain rfl := lpK_r hx5
        exact J6 _ _ _ hW (lv_sub hl [] rfl)
      · replace ho4 := if_f hc ho4
        refine lv_aload_n hx hb dX10_copy_10 rfl (lv_at hl 3 rfl) ?_
        refine lv_iload_n hx hb dX10_copy_11 rfl (lv_at hl 4 rfl) ?_
        refine lv_iload hx hb dX10_copy_12 (lv_at hl 0 rfl) ?_
        refine lv_iadd hx hb dX10_copy_14 ?_
        refine lv_aload_n hx hb dX10_copy_15 rfl (lv_at hl 1 rfl) ?_
        refine lv_iload_n hx hb dX10_copy_16 rfl (lv_at hl 2 rfl) ?_
        refine lv_iload hx hb dX10_copy_17 (lv_at hl 0 rfl) ?_
        refine lv_iadd hx hb dX10_copy_19 ?_
        obtain ⟨v10, h11, ho4⟩ := bd1_s ho4
        refine k_iald C hE hW 0 rfl h11 dX10_copy_20 ?_
        obtain ⟨w12, h13, ho4⟩ := bd1_s ho4
        refine k_iast (ws' := [(r0, .inl (cI, n0, .inl u0)), (r2, .inl (cI, n2, .inl w12))]) C hE hW 1 rfl h13 rfl dX10_copy_21 (fun H locs hW => ?_)
        refine lv_iinc (v := (i1 + 1)) (lv' := [(5, .int (i1 + 1)), (0, .ref r0), (1, .int p1), (2, .ref r2), (3, .int p3), (4, .int p4)]) hx hb dX10_copy_22 hl (k := 0) rfl rfl (by decide) rfl (fun ls hl => ?_)
        refine lv_goto (tgt := 3) hx hb dX10_copy_25 (by decide) ?_
        obtain rfl := Option.some.inj ho4
        exact ih9 _ _ hx5 _ _ _ hW (lv_sub hl [0, 1, 2, 3, 4, 5] rfl)
  exact L7 lpF _ _ hx50 _ _ _ hW (lv_sub hl [0, 1, 2, 3, 4, 5] rfl)

set_option maxHeartbeats 4000000 in
set_option maxRecDepth 100000 in
theorem kX10_tenTo (l : Launch) (D : va_G) (cI cZ cJ : ClassId) (sz : Nat) (p0 : Int32) (r : Int64) (hf : pX10_tenTo p0 = some r) : kMet l D cI cZ cJ yX10_tenTo wsX10_tenTo 0 0 [.int p0] [] sz (some (.long r)) [] := by
  refine kM_of (cc := cX10_tenTo) (maxL := 4) (ret := (some .long)) (by decide) rfl (Nat.le_of_ble_eq_true rfl) ?_
  intro p e s m args below meth c A Q ls hQ C hlocks hr hE hW hl
  have hx := C.1
  have hb := C.2.1
  have hts := C.2.2.2.2
  have hl : lv_has ls 4 [(0, .int p0)] := hl
  unfold pX10_tenTo at hf
  refine lv_lconst (v := 1) hx hb dX10_tenTo_0 (by decide) ?_
  refine lv_lstore_n (lv' := [(1, .long 1), (0, .int p0)]) hx hb dX10_tenTo_1 rfl hl (by decide) rfl (fun ls hl => ?_)
  refine lv_iconst (v := 0) hx hb dX10_tenTo_2 (by decide) ?_
  refine lv_istore_n (lv' := [(3, .int 0), (1, .long 1), (0, .int p0)]) hx hb dX10_tenTo_3 rfl hl (by decide) rfl (fun ls hl => ?_)
  obtain ⟨x3, hx50, hf⟩ := bd1_s hf
  have J6 : ∀ (H : Heap) (locs : List Loc) (ls : Array Slot), kH D A s H locs [] → lv_has ls 4 [(1, .long x3)] → W p l e (kRm 0 0 0 0) s m args below meth c H locs 0 0 Q (F0 m 21 ls []) := by
    intro H locs ls hW hl
    refine lv_lload_n hx hb dX10_tenTo_21 rfl (lv_at hl 0 rfl) ?_
    obtain rfl := Option.some.inj hf
    exact k_lret C hlocks hr hW hQ dX10_tenTo_22
  have L7 : ∀ (n : Nat) (i1 : Int32) (i2 : Int64), lpI n (un2 (pX10_tenTo_L4 p0)) (i1, i2) = some x3 → ∀ (H : Heap) (locs : List Loc) (ls : Array Slot), kH D A s H locs [] → lv_has ls 4 [(3, .int i1), (1, .long i2), (0, .int p0)] → W p l e (kRm 0 0 0 0) s m args below meth c H locs 0 0 Q (F0 m 4 ls []) := by
    intro n
    induction n with
    | zero => intro i1 i2 hx5; exact (lpI_0 hx5).elim
    | succ n ih9 =>
      intro i1 i2 hx5 H locs ls hW hl
      obtain ⟨ooho4, ho4, hx5⟩ := lpI_s hx5
      replace ho4 := un2_s ho4
      unfold pX10_tenTo_L4 at ho4
      refine lv_iload_n hx hb dX10_tenTo_4 rfl (lv_at hl 0 rfl) ?_
      refine lv_iload_n hx hb dX10_tenTo_5 rfl (lv_at hl 2 rfl) ?_
      refine lv_icmp_ge (tgt := 21) hx hb dX10_tenTo_6 (by decide) (fun hc => ?_) (fun hc => ?_)
      · replace ho4 := if_t hc ho4
        obtain rfl := Option.some.inj ho4
        obtain rfl := lpK_r hx5
        exact J6 _ _ _ hW (lv_sub hl [1] rfl)
      · replace ho4 := if_f hc ho4
        refine lv_lload_n hx hb dX10_tenTo_9 rfl (lv_at hl 1 rfl) ?_
        refine lv_ldc2 (v := 10) hx hb C.2.2.2.1 (hts (.constantLong RX10 45 (10)) (by decide +kernel)) dX10_tenTo_10 ?_
        refine lv_lmul hx hb dX10_tenTo_13 ?_
        refine lv_lstore_n (lv' := [(1, .long (i2 * 10)), (3, .int i1), (0, .int p0)]) hx hb dX10_tenTo_14 rfl hl (by decide) rfl (fun ls hl => ?_)
        refine lv_iinc (v := (i1 + 1)) (lv' := [(3, .int (i1 + 1)), (1, .long (i2 * 10)), (0, .int p0)]) hx hb dX10_tenTo_15 hl (k := 1) rfl rfl (by decide) rfl (fun ls hl => ?_)
        refine lv_goto (tgt := 4) hx hb dX10_tenTo_18 (by decide) ?_
        obtain rfl := Option.some.inj ho4
        exact ih9 _ _ hx5 _ _ _ hW (lv_sub hl [0, 1, 2] rfl)
  exact L7 lpF _ _ hx50 _ _ _ hW (lv_sub hl [0, 1, 2] rfl)

set_option maxHeartbeats 4000000 in
set_option maxRecDepth 100000 in
theorem kX10_copy_s (l : Launch) (D : va_G) (cI cZ cJ : ClassId) (sz : Nat) (r0 : Nat) (n0 : Nat) (u0 : Nat → Int32) (p1 : Int32) (p3 : Int32) (p4 : Int32) (u0' : Nat → Int32) (hf : pX10_copy_s n0 u0 p1 p3 p4 = some u0') : kMet l D cI cZ cJ yX10_copy wsX10_copy 0 0 [.ref r0, .int p1, .ref r0, .int p3, .int p4] [(r0, .inl (cI, n0, .inl u0))] sz none [(r0, .inl (cI, n0, .inl u0'))] := by
  refine kM_of (cc := cX10_copy) (maxL := 6) (ret := none) (by decide) rfl (Nat.le_of_ble_eq_true rfl) ?_
  intro p e s m args below meth c A Q ls hQ C hlocks hr hE hW hl
  have hx := C.1
  have hb := C.2.1
  have hts := C.2.2.2.2
  have hl : lv_has ls 6 [(0, .ref r0), (1, .int p1), (2, .ref r0), (3, .int p3), (4, .int p4)] := hl
  unfold pX10_copy_s at hf
  refine lv_iconst (v := 0) hx hb dX10_copy_0 (by decide) ?_
  refine lv_istore (lv' := [(5, .int 0), (0, .ref r0), (1, .int p1), (2, .ref r0), (3, .int p3), (4, .int p4)]) hx hb dX10_copy_1 hl (by decide) rfl (fun ls hl => ?_)
  obtain ⟨w3, hx50, hf⟩ := bd1_s hf
  have J6 : ∀ (H : Heap) (locs : List Loc) (ls : Array Slot), kH D A s H locs [(r0, .inl (cI, n0, .inl w3))] → lv_has ls 6 [] → W p l e (kRm 0 0 0 0) s m args below meth c H locs 0 0 Q (F0 m 28 ls []) := by
    intro H locs ls hW hl
    obtain rfl := Option.some.inj hf
    exact k_vret C hlocks hr hW hQ dX10_copy_28
  have L7 : ∀ (n : Nat) (i1 : Int32) (w2 : Nat → Int32), lpI n (un2 (pX10_copy_s_L3 n0 p1 p3 p4)) (i1, w2) = some w3 → ∀ (H : Heap) (locs : List Loc) (ls : Array Slot), kH D A s H locs [(r0, .inl (cI, n0, .inl w2))] → lv_has ls 6 [(5, .int i1), (0, .ref r0), (1, .int p1), (2, .ref r0), (3, .int p3), (4, .int p4)] → W p l e (kRm 0 0 0 0) s m args below meth c H locs 0 0 Q (F0 m 3 ls []) := by
    intro n
    induction n with
    | zero => intro i1 w2 hx5; exact (lpI_0 hx5).elim
    | succ n ih9 =>
      intro i1 w2 hx5 H locs ls hW hl
      obtain ⟨ooho4, ho4, hx5⟩ := lpI_s hx5
      replace ho4 := un2_s ho4
      unfold pX10_copy_s_L3 at ho4
      refine lv_iload hx hb dX10_copy_3 (lv_at hl 0 rfl) ?_
      refine lv_iload hx hb dX10_copy_5 (lv_at hl 5 rfl) ?_
      refine lv_icmp_ge (tgt := 28) hx hb dX10_copy_7 (by decide) (fun hc => ?_) (fun hc => ?_)
      · replace ho4 := if_t hc ho4
        obtain rfl := Option.some.inj ho4
        obtain rfl := lpK_r hx5
        exact J6 _ _ _ hW (lv_sub hl [] rfl)
      · replace ho4 := if_f hc ho4
        refine lv_aload_n hx hb dX10_copy_10 rfl (lv_at hl 3 rfl) ?_
        refine lv_iload_n hx hb dX10_copy_11 rfl (lv_at hl 4 rfl) ?_
        refine lv_iload hx hb dX10_copy_12 (lv_at hl 0 rfl) ?_
        refine lv_iadd hx hb dX10_copy_14 ?_
        refine lv_aload_n hx hb dX10_copy_15 rfl (lv_at hl 1 rfl) ?_
        refine lv_iload_n hx hb dX10_copy_16 rfl (lv_at hl 2 rfl) ?_
        refine lv_iload hx hb dX10_copy_17 (lv_at hl 0 rfl) ?_
        refine lv_iadd hx hb dX10_copy_19 ?_
        obtain ⟨v10, h11, ho4⟩ := bd1_s ho4
        refine k_iald C hE hW 0 rfl h11 dX10_copy_20 ?_
        obtain ⟨w12, h13, ho4⟩ := bd1_s ho4
        refine k_iast (ws' := [(r0, .inl (cI, n0, .inl w12))]) C hE hW 0 rfl h13 rfl dX10_copy_21 (fun H locs hW => ?_)
        refine lv_iinc (v := (i1 + 1)) (lv' := [(5, .int (i1 + 1)), (0, .ref r0), (1, .int p1), (2, .ref r0), (3, .int p3), (4, .int p4)]) hx hb dX10_copy_22 hl (k := 0) rfl rfl (by decide) rfl (fun ls hl => ?_)
        refine lv_goto (tgt := 3) hx hb dX10_copy_25 (by decide) ?_
        obtain rfl := Option.some.inj ho4
        exact ih9 _ _ hx5 _ _ _ hW (lv_sub hl [0, 1, 2, 3, 4, 5] rfl)
  exact L7 lpF _ _ hx50 _ _ _ hW (lv_sub hl [0, 1, 2, 3, 4, 5] rfl)

set_option maxHeartbeats 4000000 in
set_option maxRecDepth 100000 in
theorem kX10_note (l : Launch) (D : va_G) (cI cZ cJ : ClassId) (sz : Nat) (q q_now q_diary q_script q_readRow q_trial q_kept q_isKept q_sums q_primes q_turned : Nat) (u_refusal : Int32) (u_scriptSize : Int32) (u_spot : Int32) (u_acts : Int32) (u_slides : Int32) (u_now : Nat → Int32) (u_diary : Nat → Int32) (u_acts' : Int32) (u_diary' : Nat → Int32) (hf : pX10_note u_acts u_now u_diary = some (u_acts', u_diary')) : kMet l D cI cZ cJ yX10_note wsX10_note 1 25 [.ref q] [(q, .inr (9, [.int u_refusal, .ref q_script, .int u_scriptSize, .int u_spot, .ref q_readRow, .ref q_now, .ref q_trial, .ref q_diary, .int u_acts, .ref q_kept, .ref q_isKept, .int u_slides, .ref q_sums, .ref q_primes, .ref q_turned])), (q_now, .inl (cI, 84, .inl u_now)), (q_diary, .inl (cI, 1176, .inl u_diary))] sz none [(q, .inr (9, [.int u_refusal, .ref q_script, .int u_scriptSize, .int u_spot, .ref q_readRow, .ref q_now, .ref q_trial, .ref q_diary, .int u_acts', .ref q_kept, .ref q_isKept, .int u_slides, .ref q_sums, .ref q_primes, .ref q_turned])), (q_now, .inl (cI, 84, .inl u_now)), (q_diary, .inl (cI, 1176, .inl u_diary'))] := by
  refine kM_of (cc := cX10_note) (maxL := 1) (ret := none) (by decide) rfl (Nat.le_of_ble_eq_true rfl) ?_
  intro p e s m args below meth c A Q ls hQ C hlocks hr hE hW hl
  have hx := C.1
  have hb := C.2.1
  have hts := C.2.2.2.2
  have hl : lv_has ls 1 [(0, .ref q)] := hl
  have iX10 : ∀ w ∈ u_ws RX10 TX10 15, w ∈ wsX10_note := by decide +kernel
  have f16 := hts (.fieldLink RX10 16 "SortedTablesModel" "now" "[I") (by decide +kernel)
  have f22 := hts (.fieldLink RX10 22 "SortedTablesModel" "diary" "[I") (by decide +kernel)
  have f47 := hts (.fieldLink RX10 47 "SortedTablesModel" "acts" "I") (by decide +kernel)
  unfold pX10_note at hf
  refine lv_aload_n hx hb dX10_note_0 rfl (lv_at hl 0 rfl) ?_
  refine k_get C hE hW iX10 0 rfl rfl 8 (by decide) f47 (fun _ h9 => h9) rfl dX10_note_1 ?_
  refine lv_bipush (v := 14) hx hb dX10_note_4 (by decide) ?_
  obtain ⟨⟨w1, w2⟩, hd3, hf⟩ := bd1_s hf
  replace hf := un2_s hf
  have J4 : ∀ (H : Heap) (locs : List Loc) (ls : Array Slot), kH D A s H locs [(q, .inr (9, [.int u_refusal, .ref q_script, .int u_scriptSize, .int u_spot, .ref q_readRow, .ref q_now, .ref q_trial, .ref q_diary, .int w1, .ref q_kept, .ref q_isKept, .int u_slides, .ref q_sums, .ref q_primes, .ref q_turned])), (q_now, .inl (cI, 84, .inl u_now)), (q_diary, .inl (cI, 1176, .inl w2))] → lv_has ls 1 [(0, .ref q)] → W p l e (kRm 1 25 0 0) s m args below meth c H locs 0 0 Q (F0 m 36 ls []) := by
    intro H locs ls hW hl
    refine lv_aload_n hx hb dX10_note_36 rfl (lv_at hl 0 rfl) ?_
    refine k_get C hE hW iX10 0 rfl rfl 5 (by decide) f16 (fun _ h9 => h9) rfl dX10_note_37 ?_
    refine lv_iconst (v := 0) hx hb dX10_note_40 (by decide) ?_
    refine lv_aload_n hx hb dX10_note_41 rfl (lv_at hl 0 rfl) ?_
    refine k_get C hE hW iX10 0 rfl rfl 7 (by decide) f22 (fun _ h9 => h9) rfl dX10_note_42 ?_
    refine lv_bipush (v := 84) hx hb dX10_note_45 (by decide) ?_
    refine lv_aload_n hx hb dX10_note_47 rfl (lv_at hl 0 rfl) ?_
    refine k_get C hE hW iX10 0 rfl rfl 8 (by decide) f47 (fun _ h9 => h9) rfl dX10_note_48 ?_
    refine lv_imul hx hb dX10_note_51 ?_
    refine lv_bipush (v := 84) hx hb dX10_note_52 (by decide) ?_
    obtain ⟨w7, h8, hf⟩ := bd1_s hf
    refine k_callS (As := [.ref q_now, .int 0, .ref q_diary, .int (84 * w1), .int 84]) (n := 5) (rest := []) (st1 := []) (wr := [(q, .inr (9, [.int u_refusal, .ref q_script, .int u_scriptSize, .int u_spot, .ref q_readRow, .ref q_now, .ref q_trial, .ref q_diary, .int w1, .ref q_kept, .ref q_isKept, .int u_slides, .ref q_sums, .ref q_primes, .ref q_turned]))]) (ws' := [(q, .inr (9, [.int u_refusal, .ref q_script, .int u_scriptSize, .int u_spot, .ref q_readRow, .ref q_now, .ref q_trial, .ref q_diary, .int w1, .ref q_kept, .ref q_isKept, .int u_slides, .ref q_sums, .ref q_primes, .ref q_turned])), (q_now, .inl (cI, 84, .inl u_now)), (q_diary, .inl (cI, 1176, .inl w7))]) C hE hW hl.1 (kX10_copy l D cI cZ cJ _ q_now q_diary 84 1176 u_now w2 0 (84 * w1) 84 w7 h8) gX10_note_X10_copy rfl (by decide +kernel) rfl ⟨Nat.le_of_ble_eq_true rfl, Nat.le_of_ble_eq_true rfl⟩ ⟨Nat.zero_le _, Nat.zero_le _⟩ [1, 2] [0] [0, 1, 2] rfl rfl rfl rfl (by decide) rfl rfl (Nat.le_of_ble_eq_true rfl) rfl rfl dX10_note_54 (fun H locs hW => ?_)
    refine lv_aload_n hx hb dX10_note_57 rfl (lv_at hl 0 rfl) ?_
    refine lv_dup hx hb dX10_note_58 rfl ?_
    refine k_get C hE hW iX10 0 rfl rfl 8 (by decide) f47 (fun _ h9 => h9) rfl dX10_note_59 ?_
    refine lv_iconst (v := 1) hx hb dX10_note_62 (by decide) ?_
    refine lv_iadd hx hb dX10_note_63 ?_
    refine k_put (v := .int (w1 + 1)) (ty := .int) (ws' := [(q, .inr (9, [.int u_refusal, .ref q_script, .int u_scriptSize, .int u_spot, .ref q_readRow, .ref q_now, .ref q_trial, .ref q_diary, .int (w1 + 1), .ref q_kept, .ref q_isKept, .int u_slides, .ref q_sums, .ref q_primes, .ref q_turned])), (q_now, .inl (cI, 84, .inl u_now)), (q_diary, .inl (cI, 1176, .inl w7))]) C hE hW iX10 tyX10_ok nmX10 0 rfl rfl 8 (by decide) f47 (fun _ h9 => h9) rfl (by decide +kernel) rfl rfl (Nat.le_of_ble_eq_true rfl) rfl dX10_note_64 (fun H locs hW => ?_)
    obtain ⟨rfl, rfl⟩ := sm2 hf
    exact k_vret C hlocks hr hW hQ dX10_note_67
  refine lv_icmp_ne (tgt := 36) hx hb dX10_note_6 (by decide) (fun hc => ?_) (fun hc => ?_)
  · replace hd3 := if_f hc hd3
    obtain ⟨rfl, rfl⟩ := sm2 hd3
    exact J4 _ _ _ hW (lv_sub hl [0] rfl)
  · replace hd3 := if_t hc hd3
    refine lv_aload_n hx hb dX10_note_9 rfl (lv_at hl 0 rfl) ?_
    refine k_get C hE hW iX10 0 rfl rfl 7 (by decide) f22 (fun _ h9 => h9) rfl dX10_note_10 ?_
    refine lv_bipush (v := 84) hx hb dX10_note_13 (by decide) ?_
    refine lv_aload_n hx hb dX10_note_15 rfl (lv_at hl 0 rfl) ?_
    refine k_get C hE hW iX10 0 rfl rfl 7 (by decide) f22 (fun _ h9 => h9) rfl dX10_note_16 ?_
    refine lv_iconst (v := 0) hx hb dX10_note_19 (by decide) ?_
    refine lv_sipush (v := 1092) hx hb dX10_note_20 (by decide) ?_
    obtain ⟨w5, h6, hd3⟩ := bd1_s hd3
    refine k_callS (As := [.ref q_diary, .int 84, .ref q_diary, .int 0, .int 1092]) (n := 5) (rest := []) (st1 := []) (wr := [(q, .inr (9, [.int u_refusal, .ref q_script, .int u_scriptSize, .int u_spot, .ref q_readRow, .ref q_now, .ref q_trial, .ref q_diary, .int u_acts, .ref q_kept, .ref q_isKept, .int u_slides, .ref q_sums, .ref q_primes, .ref q_turned])), (q_now, .inl (cI, 84, .inl u_now))]) (ws' := [(q, .inr (9, [.int u_refusal, .ref q_script, .int u_scriptSize, .int u_spot, .ref q_readRow, .ref q_now, .ref q_trial, .ref q_diary, .int u_acts, .ref q_kept, .ref q_isKept, .int u_slides, .ref q_sums, .ref q_primes, .ref q_turned])), (q_now, .inl (cI, 84, .inl u_now)), (q_diary, .inl (cI, 1176, .inl w5))]) C hE hW hl.1 (kX10_copy_s l D cI cZ cJ _ q_diary 1176 u_diary 84 0 1092 w5 h6) gX10_note_X10_copy rfl (by decide +kernel) rfl ⟨Nat.le_of_ble_eq_true rfl, Nat.le_of_ble_eq_true rfl⟩ ⟨Nat.zero_le _, Nat.zero_le _⟩ [2] [0, 1] [0, 1, 2] rfl rfl rfl rfl (by decide) rfl rfl (Nat.le_of_ble_eq_true rfl) rfl rfl dX10_note_23 (fun H locs hW => ?_)
    refine lv_aload_n hx hb dX10_note_26 rfl (lv_at hl 0 rfl) ?_
    refine lv_dup hx hb dX10_note_27 rfl ?_
    refine k_get C hE hW iX10 0 rfl rfl 8 (by decide) f47 (fun _ h9 => h9) rfl dX10_note_28 ?_
    refine lv_iconst (v := 1) hx hb dX10_note_31 (by decide) ?_
    refine lv_isub hx hb dX10_note_32 ?_
    refine k_put (v := .int (u_acts - 1)) (ty := .int) (ws' := [(q, .inr (9, [.int u_refusal, .ref q_script, .int u_scriptSize, .int u_spot, .ref q_readRow, .ref q_now, .ref q_trial, .ref q_diary, .int (u_acts - 1), .ref q_kept, .ref q_isKept, .int u_slides, .ref q_sums, .ref q_primes, .ref q_turned])), (q_now, .inl (cI, 84, .inl u_now)), (q_diary, .inl (cI, 1176, .inl w5))]) C hE hW iX10 tyX10_ok nmX10 0 rfl rfl 8 (by decide) f47 (fun _ h9 => h9) rfl (by decide +kernel) rfl rfl (Nat.le_of_ble_eq_true rfl) rfl dX10_note_33 (fun H locs hW => ?_)
    obtain ⟨rfl, rfl⟩ := sm2 hd3
    exact J4 _ _ _ hW (lv_sub hl [0] rfl)

set_option maxHeartbeats 4000000 in
set_option maxRecDepth 100000 in
theorem kX10_isTable (l : Launch) (D : va_G) (cI cZ cJ : ClassId) (sz : Nat) (p0 : Int32) (r : Int32) (hf : pX10_isTable p0 = some r) : kMet l D cI cZ cJ yX10_isTable wsX10_isTable 1 25 [.int p0] [] sz (some (.int r)) [] := by
  refine kM_of (cc := cX10_isTable) (maxL := 1) (ret := (some .boolean)) (by decide) rfl (Nat.le_of_ble_eq_true rfl) ?_
  intro p e s m args below meth c A Q ls hQ C hlocks hr hE hW hl
  have hx := C.1
  have hb := C.2.1
  have hts := C.2.2.2.2
  have hl : lv_has ls 1 [(0, .int p0)] := hl
  unfold pX10_isTable at hf
  refine lv_iload_n hx hb dX10_isTable_0 rfl (lv_at hl 0 rfl) ?_
  refine lv_i2l hx hb dX10_isTable_1 rfl ?_
  refine lv_lconst (v := 0) hx hb dX10_isTable_2 (by decide) ?_
  refine lv_lconst (v := 1) hx hb dX10_isTable_3 (by decide) ?_
  obtain ⟨v1, h2, hf⟩ := bd1_s hf
  refine k_callSR (As := [.long (p0 : Int32).toInt64, .long 0, .long 1]) (n := 3) (rest := []) (st1 := [.int v1]) C hE hW hl.1 (kX10_in l D cI cZ cJ _ (p0 : Int32).toInt64 0 1 v1 h2) gX10_isTable_X10_in rfl (by decide +kernel) rfl ⟨Nat.le_of_ble_eq_true rfl, Nat.le_of_ble_eq_true rfl⟩ ⟨Nat.zero_le _, Nat.zero_le _⟩ [] rfl rfl (Nat.le_of_ble_eq_true rfl) rfl rfl dX10_isTable_4 (fun H locs hW => ?_)
  obtain ⟨v3, h4, hf⟩ := bd1_s hf
  obtain ⟨hn5, rfl⟩ := zb_s h4
  obtain rfl := Option.some.inj hf
  exact k_zret C hlocks hr hW hn5 hQ dX10_isTable_7

set_option maxHeartbeats 4000000 in
set_option maxRecDepth 100000 in
theorem kX10_length (l : Launch) (D : va_G) (cI cZ cJ : ClassId) (sz : Nat) (r0 : Nat) (u0 : Nat → Int32) (p1 : Int32) (p2 : Int32) (r : Int32) (hf : pX10_length u0 p1 p2 = some r) : kMet l D cI cZ cJ yX10_length wsX10_length 1 25 [.ref r0, .int p1, .int p2] [(r0, .inl (cI, 84, .inl u0))] sz (some (.int r)) [(r0, .inl (cI, 84, .inl u0))] := by
  refine kM_of (cc := cX10_length) (maxL := 3) (ret := (some .int)) (by decide) rfl (Nat.le_of_ble_eq_true rfl) ?_
  intro p e s m args below meth c A Q ls hQ C hlocks hr hE hW hl
  have hx := C.1
  have hb := C.2.1
  have hts := C.2.2.2.2
  have hl : lv_has ls 3 [(0, .ref r0), (1, .int p1), (2, .int p2)] := hl
  unfold pX10_length at hf
  refine lv_iload_n hx hb dX10_length_0 rfl (lv_at hl 2 rfl) ?_
  refine lv_i2l hx hb dX10_length_1 rfl ?_
  refine lv_lconst (v := 0) hx hb dX10_length_2 (by decide) ?_
  refine lv_ldc2 (v := 5) hx hb C.2.2.2.1 (hts (.constantLong RX10 58 (5)) (by decide +kernel)) dX10_length_3 ?_
  obtain ⟨v1, h2, hf⟩ := bd1_s hf
  refine k_callSR (As := [.long (p2 : Int32).toInt64, .long 0, .long 5]) (n := 3) (rest := []) (st1 := [.int v1]) C hE hW hl.1 (kX10_in l D cI cZ cJ _ (p2 : Int32).toInt64 0 5 v1 h2) gX10_length_X10_in rfl (by decide +kernel) rfl ⟨Nat.le_of_ble_eq_true rfl, Nat.le_of_ble_eq_true rfl⟩ ⟨Nat.zero_le _, Nat.zero_le _⟩ [] rfl rfl (Nat.le_of_ble_eq_true rfl) rfl rfl dX10_length_6 (fun H locs hW => ?_)
  refine lv_if_eq (tgt := 26) hx hb dX10_length_9 (by decide) (fun hc => ?_) (fun hc => ?_)
  · replace hf := if_t hc hf
    refine lv_iconst (v := 0) hx hb dX10_length_26 (by decide) ?_
    obtain rfl := Option.some.inj hf
    exact k_iret C hlocks hr hW hQ dX10_length_27
  · replace hf := if_f hc hf
    refine lv_aload_n hx hb dX10_length_12 rfl (lv_at hl 0 rfl) ?_
    refine lv_bipush (v := 42) hx hb dX10_length_13 (by decide) ?_
    refine lv_iload_n hx hb dX10_length_15 rfl (lv_at hl 1 rfl) ?_
    refine lv_imul hx hb dX10_length_16 ?_
    refine lv_bipush (v := 36) hx hb dX10_length_17 (by decide) ?_
    refine lv_iadd hx hb dX10_length_19 ?_
    refine lv_iload_n hx hb dX10_length_20 rfl (lv_at hl 2 rfl) ?_
    refine lv_iadd hx hb dX10_length_21 ?_
    obtain ⟨v3, h4, hf⟩ := bd1_s hf
    refine k_iald C hE hW 0 rfl h4 dX10_length_22 ?_
    refine lv_goto (tgt := 27) hx hb dX10_length_23 (by decide) ?_
    obtain rfl := Option.some.inj hf
    exact k_iret C hlocks hr hW hQ dX10_length_27

set_option maxHeartbeats 4000000 in
set_option maxRecDepth 100000 in
theorem kX10_isCell (l : Launch) (D : va_G) (cI cZ cJ : ClassId) (sz : Nat) (r0 : Nat) (u0 : Nat → Int32) (p1 : Int32) (p2 : Int32) (p3 : Int32) (r : Int32) (hf : pX10_isCell u0 p1 p2 p3 = some r) : kMet l D cI cZ cJ yX10_isCell wsX10_isCell 2 47 [.ref r0, .int p1, .int p2, .int p3] [(r0, .inl (cI, 84, .inl u0))] sz (some (.int r)) [(r0, .inl (cI, 84, .inl u0))] := by
  refine kM_of (cc := cX10_isCell) (maxL := 4) (ret := (some .boolean)) (by decide) rfl (Nat.le_of_ble_eq_true rfl) ?_
  intro p e s m args below meth c A Q ls hQ C hlocks hr hE hW hl
  have hx := C.1
  have hb := C.2.1
  have hts := C.2.2.2.2
  have hl : lv_has ls 4 [(0, .ref r0), (1, .int p1), (2, .int p2), (3, .int p3)] := hl
  unfold pX10_isCell at hf
  refine lv_iload_n hx hb dX10_isCell_0 rfl (lv_at hl 3 rfl) ?_
  refine lv_i2l hx hb dX10_isCell_1 rfl ?_
  refine lv_lconst (v := 0) hx hb dX10_isCell_2 (by decide) ?_
  refine lv_aload_n hx hb dX10_isCell_3 rfl (lv_at hl 0 rfl) ?_
  refine lv_iload_n hx hb dX10_isCell_4 rfl (lv_at hl 1 rfl) ?_
  refine lv_iload_n hx hb dX10_isCell_5 rfl (lv_at hl 2 rfl) ?_
  obtain ⟨v1, h2, hf⟩ := bd1_s hf
  refine k_callSR (As := [.ref r0, .int p1, .int p2]) (n := 3) (rest := [.long 0, .long (p3 : Int32).toInt64]) (st1 := [.int v1, .long 0, .long (p3 : Int32).toInt64]) C hE hW hl.1 (kX10_length l D cI cZ cJ _ r0 u0 p1 p2 v1 h2) gX10_isCell_X10_length rfl (by decide +kernel) rfl ⟨Nat.le_of_ble_eq_true rfl, Nat.le_of_ble_eq_true rfl⟩ ⟨Nat.zero_le _, Nat.zero_le _⟩ [0] rfl rfl (Nat.le_of_ble_eq_true rfl) rfl rfl dX10_isCell_6 (fun H locs hW => ?_)
  refine lv_iconst (v := 1) hx hb dX10_isCell_9 (by decide) ?_
  refine lv_isub hx hb dX10_isCell_10 ?_
  refine lv_i2l hx hb dX10_isCell_11 rfl ?_
  obtain ⟨v3, h4, hf⟩ := bd1_s hf
  refine k_callSR (As := [.long (p3 : Int32).toInt64, .long 0, .long ((v1 - 1) : Int32).toInt64]) (n := 3) (rest := []) (st1 := [.int v3]) C hE hW hl.1 (kX10_in l D cI cZ cJ _ (p3 : Int32).toInt64 0 ((v1 - 1) : Int32).toInt64 v3 h4) gX10_isCell_X10_in rfl (by decide +kernel) rfl ⟨Nat.le_of_ble_eq_true rfl, Nat.le_of_ble_eq_true rfl⟩ ⟨Nat.zero_le _, Nat.zero_le _⟩ [] rfl rfl (Nat.le_of_ble_eq_true rfl) rfl rfl dX10_isCell_12 (fun H locs hW => ?_)
  obtain ⟨v5, h6, hf⟩ := bd1_s hf
  obtain ⟨hn7, rfl⟩ := zb_s h6
  obtain rfl := Option.some.inj hf
  exact k_zret C hlocks hr hW hn7 hQ dX10_isCell_15

set_option maxHeartbeats 4000000 in
set_option maxRecDepth 100000 in
theorem kX10_get (l : Launch) (D : va_G) (cI cZ cJ : ClassId) (sz : Nat) (r0 : Nat) (u0 : Nat → Int32) (p1 : Int32) (p2 : Int32) (p3 : Int32) (r : Int32) (hf : pX10_get u0 p1 p2 p3 = some r) : kMet l D cI cZ cJ yX10_get wsX10_get 0 0 [.ref r0, .int p1, .int p2, .int p3] [(r0, .inl (cI, 84, .inl u0))] sz (some (.int r)) [(r0, .inl (cI, 84, .inl u0))] := by
  refine kM_of (cc := cX10_get) (maxL := 4) (ret := (some .int)) (by decide) rfl (Nat.le_of_ble_eq_true rfl) ?_
  intro p e s m args below meth c A Q ls hQ C hlocks hr hE hW hl
  have hx := C.1
  have hb := C.2.1
  have hts := C.2.2.2.2
  have hl : lv_has ls 4 [(0, .ref r0), (1, .int p1), (2, .int p2), (3, .int p3)] := hl
  unfold pX10_get at hf
  refine lv_aload_n hx hb dX10_get_0 rfl (lv_at hl 0 rfl) ?_
  refine lv_bipush (v := 42) hx hb dX10_get_1 (by decide) ?_
  refine lv_iload_n hx hb dX10_get_3 rfl (lv_at hl 1 rfl) ?_
  refine lv_imul hx hb dX10_get_4 ?_
  refine lv_bipush (v := 6) hx hb dX10_get_5 (by decide) ?_
  refine lv_iload_n hx hb dX10_get_7 rfl (lv_at hl 2 rfl) ?_
  refine lv_imul hx hb dX10_get_8 ?_
  refine lv_iadd hx hb dX10_get_9 ?_
  refine lv_iload_n hx hb dX10_get_10 rfl (lv_at hl 3 rfl) ?_
  refine lv_iadd hx hb dX10_get_11 ?_
  obtain ⟨v1, h2, hf⟩ := bd1_s hf
  refine k_iald C hE hW 0 rfl h2 dX10_get_12 ?_
  obtain rfl := Option.some.inj hf
  exact k_iret C hlocks hr hW hQ dX10_get_13

set_option maxHeartbeats 4000000 in
set_option maxRecDepth 100000 in
theorem kX10_set (l : Launch) (D : va_G) (cI cZ cJ : ClassId) (sz : Nat) (r0 : Nat) (u0 : Nat → Int32) (p1 : Int32) (p2 : Int32) (p3 : Int32) (p4 : Int32) (u0' : Nat → Int32) (hf : pX10_set u0 p1 p2 p3 p4 = some u0') : kMet l D cI cZ cJ yX10_set wsX10_set 0 0 [.ref r0, .int p1, .int p2, .int p3, .int p4] [(r0, .inl (cI, 84, .inl u0))] sz none [(r0, .inl (cI, 84, .inl u0'))] := by
  refine kM_of (cc := cX10_set) (maxL := 5) (ret := none) (by decide) rfl (Nat.le_of_ble_eq_true rfl) ?_
  intro p e s m args below meth c A Q ls hQ C hlocks hr hE hW hl
  have hx := C.1
  have hb := C.2.1
  have hts := C.2.2.2.2
  have hl : lv_has ls 5 [(0, .ref r0), (1, .int p1), (2, .int p2), (3, .int p3), (4, .int p4)] := hl
  unfold pX10_set at hf
  refine lv_aload_n hx hb dX10_set_0 rfl (lv_at hl 0 rfl) ?_
  refine lv_bipush (v := 42) hx hb dX10_set_1 (by decide) ?_
  refine lv_iload_n hx hb dX10_set_3 rfl (lv_at hl 1 rfl) ?_
  refine lv_imul hx hb dX10_set_4 ?_
  refine lv_bipush (v := 6) hx hb dX10_set_5 (by decide) ?_
  refine lv_iload_n hx hb dX10_set_7 rfl (lv_at hl 2 rfl) ?_
  refine lv_imul hx hb dX10_set_8 ?_
  refine lv_iadd hx hb dX10_set_9 ?_
  refine lv_iload_n hx hb dX10_set_10 rfl (lv_at hl 3 rfl) ?_
  refine lv_iadd hx hb dX10_set_11 ?_
  refine lv_iload hx hb dX10_set_12 (lv_at hl 4 rfl) ?_
  obtain ⟨w1, h2, hf⟩ := bd1_s hf
  refine k_iast (ws' := [(r0, .inl (cI, 84, .inl w1))]) C hE hW 0 rfl h2 rfl dX10_set_14 (fun H locs hW => ?_)
  obtain rfl := Option.some.inj hf
  exact k_vret C hlocks hr hW hQ dX10_set_15

set_option maxHeartbeats 4000000 in
set_option maxRecDepth 100000 in
theorem kX10_many (l : Launch) (D : va_G) (cI cZ cJ : ClassId) (sz : Nat) (r0 : Nat) (u0 : Nat → Int32) (p1 : Int32) (r : Int32) (hf : pX10_many u0 p1 = some r) : kMet l D cI cZ cJ yX10_many wsX10_many 2 47 [.ref r0, .int p1] [(r0, .inl (cI, 84, .inl u0))] sz (some (.int r)) [(r0, .inl (cI, 84, .inl u0))] := by
  refine kM_of (cc := cX10_many) (maxL := 4) (ret := (some .int)) (by decide) rfl (Nat.le_of_ble_eq_true rfl) ?_
  intro p e s m args below meth c A Q ls hQ C hlocks hr hE hW hl
  have hx := C.1
  have hb := C.2.1
  have hts := C.2.2.2.2
  have hl : lv_has ls 4 [(0, .ref r0), (1, .int p1)] := hl
  unfold pX10_many at hf
  refine lv_iconst (v := 0) hx hb dX10_many_0 (by decide) ?_
  refine lv_istore_n (lv' := [(2, .int 0), (0, .ref r0), (1, .int p1)]) hx hb dX10_many_1 rfl hl (by decide) rfl (fun ls hl => ?_)
  refine lv_iconst (v := 0) hx hb dX10_many_2 (by decide) ?_
  refine lv_istore_n (lv' := [(3, .int 0), (2, .int 0), (0, .ref r0), (1, .int p1)]) hx hb dX10_many_3 rfl hl (by decide) rfl (fun ls hl => ?_)
  obtain ⟨x3, hx50, hf⟩ := bd1_s hf
  have J6 : ∀ (H : Heap) (locs : List Loc) (ls : Array Slot), kH D A s H locs [(r0, .inl (cI, 84, .inl u0))] → lv_has ls 4 [(2, .int x3)] → W p l e (kRm 2 47 0 0) s m args below meth c H locs 0 0 Q (F0 m 25 ls []) := by
    intro H locs ls hW hl
    refine lv_iload_n hx hb dX10_many_25 rfl (lv_at hl 0 rfl) ?_
    obtain rfl := Option.some.inj hf
    exact k_iret C hlocks hr hW hQ dX10_many_26
  have L7 : ∀ (n : Nat) (i1 : Int32) (i2 : Int32), lpI n (un2 (pX10_many_L4 u0 p1)) (i1, i2) = some x3 → ∀ (H : Heap) (locs : List Loc) (ls : Array Slot), kH D A s H locs [(r0, .inl (cI, 84, .inl u0))] → lv_has ls 4 [(3, .int i1), (2, .int i2), (0, .ref r0), (1, .int p1)] → W p l e (kRm 2 47 0 0) s m args below meth c H locs 0 0 Q (F0 m 4 ls []) := by
    intro n
    induction n with
    | zero => intro i1 i2 hx5; exact (lpI_0 hx5).elim
    | succ n ih9 =>
      intro i1 i2 hx5 H locs ls hW hl
      obtain ⟨ooho4, ho4, hx5⟩ := lpI_s hx5
      replace ho4 := un2_s ho4
      unfold pX10_many_L4 at ho4
      refine lv_iload_n hx hb dX10_many_4 rfl (lv_at hl 0 rfl) ?_
      refine lv_bipush (v := 6) hx hb dX10_many_5 (by decide) ?_
      refine lv_icmp_ge (tgt := 25) hx hb dX10_many_7 (by decide) (fun hc => ?_) (fun hc => ?_)
      · replace ho4 := if_t hc ho4
        obtain rfl := Option.some.inj ho4
        obtain rfl := lpK_r hx5
        exact J6 _ _ _ hW (lv_sub hl [1] rfl)
      · replace ho4 := if_f hc ho4
        refine lv_iload_n hx hb dX10_many_10 rfl (lv_at hl 1 rfl) ?_
        refine lv_aload_n hx hb dX10_many_11 rfl (lv_at hl 2 rfl) ?_
        refine lv_iload_n hx hb dX10_many_12 rfl (lv_at hl 3 rfl) ?_
        refine lv_iload_n hx hb dX10_many_13 rfl (lv_at hl 0 rfl) ?_
        obtain ⟨v10, h11, ho4⟩ := bd1_s ho4
        refine k_callSR (As := [.ref r0, .int p1, .int i1]) (n := 3) (rest := [.int i2]) (st1 := [.int v10, .int i2]) C hE hW hl.1 (kX10_length l D cI cZ cJ _ r0 u0 p1 i1 v10 h11) gX10_many_X10_length rfl (by decide +kernel) rfl ⟨Nat.le_of_ble_eq_true rfl, Nat.le_of_ble_eq_true rfl⟩ ⟨Nat.zero_le _, Nat.zero_le _⟩ [0] rfl rfl (Nat.le_of_ble_eq_true rfl) rfl rfl dX10_many_14 (fun H locs hW => ?_)
        refine lv_iadd hx hb dX10_many_17 ?_
        refine lv_istore_n (lv' := [(2, .int (i2 + v10)), (3, .int i1), (0, .ref r0), (1, .int p1)]) hx hb dX10_many_18 rfl hl (by decide) rfl (fun ls hl => ?_)
        refine lv_iinc (v := (i1 + 1)) (lv' := [(3, .int (i1 + 1)), (2, .int (i2 + v10)), (0, .ref r0), (1, .int p1)]) hx hb dX10_many_19 hl (k := 1) rfl rfl (by decide) rfl (fun ls hl => ?_)
        refine lv_goto (tgt := 4) hx hb dX10_many_22 (by decide) ?_
        obtain rfl := Option.some.inj ho4
        exact ih9 _ _ hx5 _ _ _ hW (lv_sub hl [0, 1, 2, 3] rfl)
  exact L7 lpF _ _ hx50 _ _ _ hW (lv_sub hl [0, 1, 2, 3] rfl)

set_option maxHeartbeats 4000000 in
set_option maxRecDepth 100000 in
theorem kX10_rows (l : Launch) (D : va_G) (cI cZ cJ : ClassId) (sz : Nat) (r0 : Nat) (u0 : Nat → Int32) (p1 : Int32) (r : Int32) (hf : pX10_rows u0 p1 = some r) : kMet l D cI cZ cJ yX10_rows wsX10_rows 2 47 [.ref r0, .int p1] [(r0, .inl (cI, 84, .inl u0))] sz (some (.int r)) [(r0, .inl (cI, 84, .inl u0))] := by
  refine kM_of (cc := cX10_rows) (maxL := 4) (ret := (some .int)) (by decide) rfl (Nat.le_of_ble_eq_true rfl) ?_
  intro p e s m args below meth c A Q ls hQ C hlocks hr hE hW hl
  have hx := C.1
  have hb := C.2.1
  have hts := C.2.2.2.2
  have hl : lv_has ls 4 [(0, .ref r0), (1, .int p1)] := hl
  unfold pX10_rows at hf
  refine lv_iconst (v := 0) hx hb dX10_rows_0 (by decide) ?_
  refine lv_istore_n (lv' := [(2, .int 0), (0, .ref r0), (1, .int p1)]) hx hb dX10_rows_1 rfl hl (by decide) rfl (fun ls hl => ?_)
  refine lv_iconst (v := 0) hx hb dX10_rows_2 (by decide) ?_
  refine lv_istore_n (lv' := [(3, .int 0), (2, .int 0), (0, .ref r0), (1, .int p1)]) hx hb dX10_rows_3 rfl hl (by decide) rfl (fun ls hl => ?_)
  obtain ⟨x3, hx50, hf⟩ := bd1_s hf
  have J6 : ∀ (H : Heap) (locs : List Loc) (ls : Array Slot), kH D A s H locs [(r0, .inl (cI, 84, .inl u0))] → lv_has ls 4 [(2, .int x3)] → W p l e (kRm 2 47 0 0) s m args below meth c H locs 0 0 Q (F0 m 33 ls []) := by
    intro H locs ls hW hl
    refine lv_iload_n hx hb dX10_rows_33 rfl (lv_at hl 0 rfl) ?_
    obtain rfl := Option.some.inj hf
    exact k_iret C hlocks hr hW hQ dX10_rows_34
  have L7 : ∀ (n : Nat) (i1 : Int32) (i2 : Int32), lpI n (un2 (pX10_rows_L4 u0 p1)) (i1, i2) = some x3 → ∀ (H : Heap) (locs : List Loc) (ls : Array Slot), kH D A s H locs [(r0, .inl (cI, 84, .inl u0))] → lv_has ls 4 [(3, .int i1), (2, .int i2), (0, .ref r0), (1, .int p1)] → W p l e (kRm 2 47 0 0) s m args below meth c H locs 0 0 Q (F0 m 4 ls []) := by
    intro n
    induction n with
    | zero => intro i1 i2 hx5; exact (lpI_0 hx5).elim
    | succ n ih9 =>
      intro i1 i2 hx5 H locs ls hW hl
      obtain ⟨ooho4, ho4, hx5⟩ := lpI_s hx5
      replace ho4 := un2_s ho4
      unfold pX10_rows_L4 at ho4
      refine lv_iload_n hx hb dX10_rows_4 rfl (lv_at hl 0 rfl) ?_
      refine lv_bipush (v := 6) hx hb dX10_rows_5 (by decide) ?_
      refine lv_icmp_ge (tgt := 33) hx hb dX10_rows_7 (by decide) (fun hc => ?_) (fun hc => ?_)
      · replace ho4 := if_t hc ho4
        obtain rfl := Option.some.inj ho4
        obtain rfl := lpK_r hx5
        exact J6 _ _ _ hW (lv_sub hl [1] rfl)
      · replace ho4 := if_f hc ho4
        refine lv_iload_n hx hb dX10_rows_10 rfl (lv_at hl 1 rfl) ?_
        refine lv_aload_n hx hb dX10_rows_11 rfl (lv_at hl 2 rfl) ?_
        refine lv_iload_n hx hb dX10_rows_12 rfl (lv_at hl 3 rfl) ?_
        refine lv_iload_n hx hb dX10_rows_13 rfl (lv_at hl 0 rfl) ?_
        obtain ⟨v10, h11, ho4⟩ := bd1_s ho4
        refine k_callSR (As := [.ref r0, .int p1, .int i1]) (n := 3) (rest := [.int i2]) (st1 := [.int v10, .int i2]) C hE hW hl.1 (kX10_length l D cI cZ cJ _ r0 u0 p1 i1 v10 h11) gX10_rows_X10_length rfl (by decide +kernel) rfl ⟨Nat.le_of_ble_eq_true rfl, Nat.le_of_ble_eq_true rfl⟩ ⟨Nat.zero_le _, Nat.zero_le _⟩ [0] rfl rfl (Nat.le_of_ble_eq_true rfl) rfl rfl dX10_rows_14 (fun H locs hW => ?_)
        refine lv_if_le (tgt := 24) hx hb dX10_rows_17 (by decide) (fun hc => ?_) (fun hc => ?_)
        · replace ho4 := if_t hc ho4
          refine lv_iconst (v := 0) hx hb dX10_rows_24 (by decide) ?_
          refine lv_iadd hx hb dX10_rows_25 ?_
          refine lv_istore_n (lv' := [(2, .int (i2 + 0)), (3, .int i1), (0, .ref r0), (1, .int p1)]) hx hb dX10_rows_26 rfl hl (by decide) rfl (fun ls hl => ?_)
          refine lv_iinc (v := (i1 + 1)) (lv' := [(3, .int (i1 + 1)), (2, .int (i2 + 0)), (0, .ref r0), (1, .int p1)]) hx hb dX10_rows_27 hl (k := 1) rfl rfl (by decide) rfl (fun ls hl => ?_)
          refine lv_goto (tgt := 4) hx hb dX10_rows_30 (by decide) ?_
          obtain rfl := Option.some.inj ho4
          exact ih9 _ _ hx5 _ _ _ hW (lv_sub hl [0, 1, 2, 3] rfl)
        · replace ho4 := if_f hc ho4
          refine lv_iconst (v := 1) hx hb dX10_rows_20 (by decide) ?_
          refine lv_goto (tgt := 25) hx hb dX10_rows_21 (by decide) ?_
          refine lv_iadd hx hb dX10_rows_25 ?_
          refine lv_istore_n (lv' := [(2, .int (i2 + 1)), (3, .int i1), (0, .ref r0), (1, .int p1)]) hx hb dX10_rows_26 rfl hl (by decide) rfl (fun ls hl => ?_)
          refine lv_iinc (v := (i1 + 1)) (lv' := [(3, .int (i1 + 1)), (2, .int (i2 + 1)), (0, .ref r0), (1, .int p1)]) hx hb dX10_rows_27 hl (k := 1) rfl rfl (by decide) rfl (fun ls hl => ?_)
          refine lv_goto (tgt := 4) hx hb dX10_rows_30 (by decide) ?_
          obtain rfl := Option.some.inj ho4
          exact ih9 _ _ hx5 _ _ _ hW (lv_sub hl [0, 1, 2, 3] rfl)
  exact L7 lpF _ _ hx50 _ _ _ hW (lv_sub hl [0, 1, 2, 3] rfl)

set_option maxHeartbeats 4000000 in
set_option maxRecDepth 100000 in
theorem kX10_tall (l : Launch) (D : va_G) (cI cZ cJ : ClassId) (sz : Nat) (r0 : Nat) (u0 : Nat → Int32) (p1 : Int32) (p2 : Int32) (r : Int32) (hf : pX10_tall u0 p1 p2 = some r) : kMet l D cI cZ cJ yX10_tall wsX10_tall 2 47 [.ref r0, .int p1, .int p2] [(r0, .inl (cI, 84, .inl u0))] sz (some (.int r)) [(r0, .inl (cI, 84, .inl u0))] := by
  refine kM_of (cc := cX10_tall) (maxL := 5) (ret := (some .int)) (by decide) rfl (Nat.le_of_ble_eq_true rfl) ?_
  intro p e s m args below meth c A Q ls hQ C hlocks hr hE hW hl
  have hx := C.1
  have hb := C.2.1
  have hts := C.2.2.2.2
  have hl : lv_has ls 5 [(0, .ref r0), (1, .int p1), (2, .int p2)] := hl
  unfold pX10_tall at hf
  refine lv_iconst (v := 0) hx hb dX10_tall_0 (by decide) ?_
  refine lv_istore_n (lv' := [(3, .int 0), (0, .ref r0), (1, .int p1), (2, .int p2)]) hx hb dX10_tall_1 rfl hl (by decide) rfl (fun ls hl => ?_)
  refine lv_iconst (v := 0) hx hb dX10_tall_2 (by decide) ?_
  refine lv_istore (lv' := [(4, .int 0), (3, .int 0), (0, .ref r0), (1, .int p1), (2, .int p2)]) hx hb dX10_tall_3 hl (by decide) rfl (fun ls hl => ?_)
  obtain ⟨x3, hx50, hf⟩ := bd1_s hf
  have J6 : ∀ (H : Heap) (locs : List Loc) (ls : Array Slot), kH D A s H locs [(r0, .inl (cI, 84, .inl u0))] → lv_has ls 5 [(3, .int x3)] → W p l e (kRm 2 47 0 0) s m args below meth c H locs 0 0 Q (F0 m 37 ls []) := by
    intro H locs ls hW hl
    refine lv_iload_n hx hb dX10_tall_37 rfl (lv_at hl 0 rfl) ?_
    obtain rfl := Option.some.inj hf
    exact k_iret C hlocks hr hW hQ dX10_tall_38
  have L7 : ∀ (n : Nat) (i1 : Int32) (i2 : Int32), lpI n (un2 (pX10_tall_L5 u0 p1 p2)) (i1, i2) = some x3 → ∀ (H : Heap) (locs : List Loc) (ls : Array Slot), kH D A s H locs [(r0, .inl (cI, 84, .inl u0))] → lv_has ls 5 [(4, .int i1), (3, .int i2), (0, .ref r0), (1, .int p1), (2, .int p2)] → W p l e (kRm 2 47 0 0) s m args below meth c H locs 0 0 Q (F0 m 5 ls []) := by
    intro n
    induction n with
    | zero => intro i1 i2 hx5; exact (lpI_0 hx5).elim
    | succ n ih9 =>
      intro i1 i2 hx5 H locs ls hW hl
      obtain ⟨ooho4, ho4, hx5⟩ := lpI_s hx5
      replace ho4 := un2_s ho4
      unfold pX10_tall_L5 at ho4
      refine lv_iload hx hb dX10_tall_5 (lv_at hl 0 rfl) ?_
      refine lv_bipush (v := 6) hx hb dX10_tall_7 (by decide) ?_
      refine lv_icmp_ge (tgt := 37) hx hb dX10_tall_9 (by decide) (fun hc => ?_) (fun hc => ?_)
      · replace ho4 := if_t hc ho4
        obtain rfl := Option.some.inj ho4
        obtain rfl := lpK_r hx5
        exact J6 _ _ _ hW (lv_sub hl [1] rfl)
      · replace ho4 := if_f hc ho4
        refine lv_iload_n hx hb dX10_tall_12 rfl (lv_at hl 1 rfl) ?_
        refine lv_aload_n hx hb dX10_tall_13 rfl (lv_at hl 2 rfl) ?_
        refine lv_iload_n hx hb dX10_tall_14 rfl (lv_at hl 3 rfl) ?_
        refine lv_iload hx hb dX10_tall_15 (lv_at hl 0 rfl) ?_
        obtain ⟨v10, h11, ho4⟩ := bd1_s ho4
        refine k_callSR (As := [.ref r0, .int p1, .int i1]) (n := 3) (rest := [.int i2]) (st1 := [.int v10, .int i2]) C hE hW hl.1 (kX10_length l D cI cZ cJ _ r0 u0 p1 i1 v10 h11) gX10_tall_X10_length rfl (by decide +kernel) rfl ⟨Nat.le_of_ble_eq_true rfl, Nat.le_of_ble_eq_true rfl⟩ ⟨Nat.zero_le _, Nat.zero_le _⟩ [0] rfl rfl (Nat.le_of_ble_eq_true rfl) rfl rfl dX10_tall_17 (fun H locs hW => ?_)
        refine lv_iload_n hx hb dX10_tall_20 rfl (lv_at hl 4 rfl) ?_
        refine lv_icmp_le (tgt := 28) hx hb dX10_tall_21 (by decide) (fun hc => ?_) (fun hc => ?_)
        · replace ho4 := if_t hc ho4
          refine lv_iconst (v := 0) hx hb dX10_tall_28 (by decide) ?_
          refine lv_iadd hx hb dX10_tall_29 ?_
          refine lv_istore_n (lv' := [(3, .int (i2 + 0)), (4, .int i1), (0, .ref r0), (1, .int p1), (2, .int p2)]) hx hb dX10_tall_30 rfl hl (by decide) rfl (fun ls hl => ?_)
          refine lv_iinc (v := (i1 + 1)) (lv' := [(4, .int (i1 + 1)), (3, .int (i2 + 0)), (0, .ref r0), (1, .int p1), (2, .int p2)]) hx hb dX10_tall_31 hl (k := 1) rfl rfl (by decide) rfl (fun ls hl => ?_)
          refine lv_goto (tgt := 5) hx hb dX10_tall_34 (by decide) ?_
          obtain rfl := Option.some.inj ho4
          exact ih9 _ _ hx5 _ _ _ hW (lv_sub hl [0, 1, 2, 3, 4] rfl)
        · replace ho4 := if_f hc ho4
          refine lv_iconst (v := 1) hx hb dX10_tall_24 (by decide) ?_
          refine lv_goto (tgt := 29) hx hb dX10_tall_25 (by decide) ?_
          refine lv_iadd hx hb dX10_tall_29 ?_
          refine lv_istore_n (lv' := [(3, .int (i2 + 1)), (4, .int i1), (0, .ref r0), (1, .int p1), (2, .int p2)]) hx hb dX10_tall_30 rfl hl (by decide) rfl (fun ls hl => ?_)
          refine lv_iinc (v := (i1 + 1)) (lv' := [(4, .int (i1 + 1)), (3, .int (i2 + 1)), (0, .ref r0), (1, .int p1), (2, .int p2)]) hx hb dX10_tall_31 hl (k := 1) rfl rfl (by decide) rfl (fun ls hl => ?_)
          refine lv_goto (tgt := 5) hx hb dX10_tall_34 (by decide) ?_
          obtain rfl := Option.some.inj ho4
          exact ih9 _ _ hx5 _ _ _ hW (lv_sub hl [0, 1, 2, 3, 4] rfl)
  exact L7 lpF _ _ hx50 _ _ _ hW (lv_sub hl [0, 1, 2, 3, 4] rfl)

set_option maxHeartbeats 4000000 in
set_option maxRecDepth 100000 in
theorem kX10_isCorner (l : Launch) (D : va_G) (cI cZ cJ : ClassId) (sz : Nat) (r0 : Nat) (u0 : Nat → Int32) (p1 : Int32) (p2 : Int32) (r : Int32) (hf : pX10_isCorner u0 p1 p2 = some r) : kMet l D cI cZ cJ yX10_isCorner wsX10_isCorner 2 47 [.ref r0, .int p1, .int p2] [(r0, .inl (cI, 84, .inl u0))] sz (some (.int r)) [(r0, .inl (cI, 84, .inl u0))] := by
  refine kM_of (cc := cX10_isCorner) (maxL := 3) (ret := (some .boolean)) (by decide) rfl (Nat.le_of_ble_eq_true rfl) ?_
  intro p e s m args below meth c A Q ls hQ C hlocks hr hE hW hl
  have hx := C.1
  have hb := C.2.1
  have hts := C.2.2.2.2
  have hl : lv_has ls 3 [(0, .ref r0), (1, .int p1), (2, .int p2)] := hl
  unfold pX10_isCorner at hf
  refine lv_aload_n hx hb dX10_isCorner_0 rfl (lv_at hl 0 rfl) ?_
  refine lv_iload_n hx hb dX10_isCorner_1 rfl (lv_at hl 1 rfl) ?_
  refine lv_iload_n hx hb dX10_isCorner_2 rfl (lv_at hl 2 rfl) ?_
  obtain ⟨v1, h2, hf⟩ := bd1_s hf
  refine k_callSR (As := [.ref r0, .int p1, .int p2]) (n := 3) (rest := []) (st1 := [.int v1]) C hE hW hl.1 (kX10_length l D cI cZ cJ _ r0 u0 p1 p2 v1 h2) gX10_isCorner_X10_length rfl (by decide +kernel) rfl ⟨Nat.le_of_ble_eq_true rfl, Nat.le_of_ble_eq_true rfl⟩ ⟨Nat.zero_le _, Nat.zero_le _⟩ [0] rfl rfl (Nat.le_of_ble_eq_true rfl) rfl rfl dX10_isCorner_3 (fun H locs hW => ?_)
  refine lv_if_le (tgt := 30) hx hb dX10_isCorner_6 (by decide) (fun hc => ?_) (fun hc => ?_)
  · replace hf := if_t hc hf
    refine lv_iconst (v := 0) hx hb dX10_isCorner_30 (by decide) ?_
    obtain rfl := Option.some.inj hf
    exact k_zret C hlocks hr hW (by decide) hQ dX10_isCorner_31
  · replace hf := if_f hc hf
    refine lv_aload_n hx hb dX10_isCorner_9 rfl (lv_at hl 0 rfl) ?_
    refine lv_iload_n hx hb dX10_isCorner_10 rfl (lv_at hl 1 rfl) ?_
    refine lv_iload_n hx hb dX10_isCorner_11 rfl (lv_at hl 2 rfl) ?_
    refine lv_iconst (v := 1) hx hb dX10_isCorner_12 (by decide) ?_
    refine lv_iadd hx hb dX10_isCorner_13 ?_
    obtain ⟨v3, h4, hf⟩ := bd1_s hf
    refine k_callSR (As := [.ref r0, .int p1, .int (p2 + 1)]) (n := 3) (rest := []) (st1 := [.int v3]) C hE hW hl.1 (kX10_length l D cI cZ cJ _ r0 u0 p1 (p2 + 1) v3 h4) gX10_isCorner_X10_length rfl (by decide +kernel) rfl ⟨Nat.le_of_ble_eq_true rfl, Nat.le_of_ble_eq_true rfl⟩ ⟨Nat.zero_le _, Nat.zero_le _⟩ [0] rfl rfl (Nat.le_of_ble_eq_true rfl) rfl rfl dX10_isCorner_14 (fun H locs hW => ?_)
    refine lv_aload_n hx hb dX10_isCorner_17 rfl (lv_at hl 0 rfl) ?_
    refine lv_iload_n hx hb dX10_isCorner_18 rfl (lv_at hl 1 rfl) ?_
    refine lv_iload_n hx hb dX10_isCorner_19 rfl (lv_at hl 2 rfl) ?_
    obtain ⟨v5, h6, hf⟩ := bd1_s hf
    refine k_callSR (As := [.ref r0, .int p1, .int p2]) (n := 3) (rest := [.int v3]) (st1 := [.int v5, .int v3]) C hE hW hl.1 (kX10_length l D cI cZ cJ _ r0 u0 p1 p2 v5 h6) gX10_isCorner_X10_length rfl (by decide +kernel) rfl ⟨Nat.le_of_ble_eq_true rfl, Nat.le_of_ble_eq_true rfl⟩ ⟨Nat.zero_le _, Nat.zero_le _⟩ [0] rfl rfl (Nat.le_of_ble_eq_true rfl) rfl rfl dX10_isCorner_20 (fun H locs hW => ?_)
    refine lv_icmp_ge (tgt := 30) hx hb dX10_isCorner_23 (by decide) (fun hc => ?_) (fun hc => ?_)
    · replace hf := if_t hc hf
      refine lv_iconst (v := 0) hx hb dX10_isCorner_30 (by decide) ?_
      obtain rfl := Option.some.inj hf
      exact k_zret C hlocks hr hW (by decide) hQ dX10_isCorner_31
    · replace hf := if_f hc hf
      refine lv_iconst (v := 1) hx hb dX10_isCorner_26 (by decide) ?_
      refine lv_goto (tgt := 31) hx hb dX10_isCorner_27 (by decide) ?_
      obtain rfl := Option.some.inj hf
      exact k_zret C hlocks hr hW (by decide) hQ dX10_isCorner_31

set_option maxHeartbeats 4000000 in
set_option maxRecDepth 100000 in
theorem kX10_isGap (l : Launch) (D : va_G) (cI cZ cJ : ClassId) (sz : Nat) (r0 : Nat) (u0 : Nat → Int32) (p1 : Int32) (p2 : Int32) (r : Int32) (hf : pX10_isGap u0 p1 p2 = some r) : kMet l D cI cZ cJ yX10_isGap wsX10_isGap 2 47 [.ref r0, .int p1, .int p2] [(r0, .inl (cI, 84, .inl u0))] sz (some (.int r)) [(r0, .inl (cI, 84, .inl u0))] := by
  refine kM_of (cc := cX10_isGap) (maxL := 4) (ret := (some .boolean)) (by decide) rfl (Nat.le_of_ble_eq_true rfl) ?_
  intro p e s m args below meth c A Q ls hQ C hlocks hr hE hW hl
  have hx := C.1
  have hb := C.2.1
  have hts := C.2.2.2.2
  have hl : lv_has ls 4 [(0, .ref r0), (1, .int p1), (2, .int p2)] := hl
  unfold pX10_isGap at hf
  refine lv_aload_n hx hb dX10_isGap_0 rfl (lv_at hl 0 rfl) ?_
  refine lv_iload_n hx hb dX10_isGap_1 rfl (lv_at hl 1 rfl) ?_
  refine lv_iload_n hx hb dX10_isGap_2 rfl (lv_at hl 2 rfl) ?_
  obtain ⟨v1, h2, hf⟩ := bd1_s hf
  refine k_callSR (As := [.ref r0, .int p1, .int p2]) (n := 3) (rest := []) (st1 := [.int v1]) C hE hW hl.1 (kX10_length l D cI cZ cJ _ r0 u0 p1 p2 v1 h2) gX10_isGap_X10_length rfl (by decide +kernel) rfl ⟨Nat.le_of_ble_eq_true rfl, Nat.le_of_ble_eq_true rfl⟩ ⟨Nat.zero_le _, Nat.zero_le _⟩ [0] rfl rfl (Nat.le_of_ble_eq_true rfl) rfl rfl dX10_isGap_3 (fun H locs hW => ?_)
  refine lv_istore_n (lv' := [(3, .int v1), (0, .ref r0), (1, .int p1), (2, .int p2)]) hx hb dX10_isGap_6 rfl hl (by decide) rfl (fun ls hl => ?_)
  refine lv_iload_n hx hb dX10_isGap_7 rfl (lv_at hl 0 rfl) ?_
  refine lv_bipush (v := 6) hx hb dX10_isGap_8 (by decide) ?_
  refine lv_icmp_ge (tgt := 33) hx hb dX10_isGap_10 (by decide) (fun hc => ?_) (fun hc => ?_)
  · replace hf := if_t hc hf
    refine lv_iconst (v := 0) hx hb dX10_isGap_33 (by decide) ?_
    obtain rfl := Option.some.inj hf
    exact k_zret C hlocks hr hW (by decide) hQ dX10_isGap_34
  · replace hf := if_f hc hf
    refine lv_iload_n hx hb dX10_isGap_13 rfl (lv_at hl 3 rfl) ?_
    refine lv_if_eq (tgt := 29) hx hb dX10_isGap_14 (by decide) (fun hc => ?_) (fun hc => ?_)
    · replace hf := if_t hc hf
      refine lv_iconst (v := 1) hx hb dX10_isGap_29 (by decide) ?_
      refine lv_goto (tgt := 34) hx hb dX10_isGap_30 (by decide) ?_
      obtain rfl := Option.some.inj hf
      exact k_zret C hlocks hr hW (by decide) hQ dX10_isGap_34
    · replace hf := if_f hc hf
      refine lv_aload_n hx hb dX10_isGap_17 rfl (lv_at hl 1 rfl) ?_
      refine lv_iload_n hx hb dX10_isGap_18 rfl (lv_at hl 2 rfl) ?_
      refine lv_iload_n hx hb dX10_isGap_19 rfl (lv_at hl 3 rfl) ?_
      refine lv_iconst (v := 1) hx hb dX10_isGap_20 (by decide) ?_
      refine lv_isub hx hb dX10_isGap_21 ?_
      obtain ⟨v3, h4, hf⟩ := bd1_s hf
      refine k_callSR (As := [.ref r0, .int p1, .int (p2 - 1)]) (n := 3) (rest := []) (st1 := [.int v3]) C hE hW hl.1 (kX10_length l D cI cZ cJ _ r0 u0 p1 (p2 - 1) v3 h4) gX10_isGap_X10_length rfl (by decide +kernel) rfl ⟨Nat.le_of_ble_eq_true rfl, Nat.le_of_ble_eq_true rfl⟩ ⟨Nat.zero_le _, Nat.zero_le _⟩ [0] rfl rfl (Nat.le_of_ble_eq_true rfl) rfl rfl dX10_isGap_22 (fun H locs hW => ?_)
      refine lv_iload_n hx hb dX10_isGap_25 rfl (lv_at hl 0 rfl) ?_
      refine lv_icmp_le (tgt := 33) hx hb dX10_isGap_26 (by decide) (fun hc => ?_) (fun hc => ?_)
      · replace hf := if_t hc hf
        refine lv_iconst (v := 0) hx hb dX10_isGap_33 (by decide) ?_
        obtain rfl := Option.some.inj hf
        exact k_zret C hlocks hr hW (by decide) hQ dX10_isGap_34
      · replace hf := if_f hc hf
        refine lv_iconst (v := 1) hx hb dX10_isGap_29 (by decide) ?_
        refine lv_goto (tgt := 34) hx hb dX10_isGap_30 (by decide) ?_
        obtain rfl := Option.some.inj hf
        exact k_zret C hlocks hr hW (by decide) hQ dX10_isGap_34

set_option maxHeartbeats 4000000 in
set_option maxRecDepth 100000 in
theorem kX10_have (l : Launch) (D : va_G) (cI cZ cJ : ClassId) (sz : Nat) (q q_now q_script q_readRow q_trial q_diary q_kept q_isKept q_sums q_primes q_turned : Nat) (u_refusal : Int32) (u_scriptSize : Int32) (u_spot : Int32) (u_acts : Int32) (u_slides : Int32) (u_now : Nat → Int32) (p0 : Int32) (p1 : Int32) (p2 : Int32) (r : Int32) (hf : pX10_have u_now p0 p1 p2 = some r) : kMet l D cI cZ cJ yX10_have wsX10_have 3 70 [.ref q, .int p0, .int p1, .int p2] [(q, .inr (9, [.int u_refusal, .ref q_script, .int u_scriptSize, .int u_spot, .ref q_readRow, .ref q_now, .ref q_trial, .ref q_diary, .int u_acts, .ref q_kept, .ref q_isKept, .int u_slides, .ref q_sums, .ref q_primes, .ref q_turned])), (q_now, .inl (cI, 84, .inl u_now))] sz (some (.int r)) [(q, .inr (9, [.int u_refusal, .ref q_script, .int u_scriptSize, .int u_spot, .ref q_readRow, .ref q_now, .ref q_trial, .ref q_diary, .int u_acts, .ref q_kept, .ref q_isKept, .int u_slides, .ref q_sums, .ref q_primes, .ref q_turned])), (q_now, .inl (cI, 84, .inl u_now))] := by
  refine kM_of (cc := cX10_have) (maxL := 4) (ret := (some .boolean)) (by decide) rfl (Nat.le_of_ble_eq_true rfl) ?_
  intro p e s m args below meth c A Q ls hQ C hlocks hr hE hW hl
  have hx := C.1
  have hb := C.2.1
  have hts := C.2.2.2.2
  have hl : lv_has ls 4 [(0, .ref q), (1, .int p0), (2, .int p1), (3, .int p2)] := hl
  have iX10 : ∀ w ∈ u_ws RX10 TX10 15, w ∈ wsX10_have := by decide +kernel
  have f16 := hts (.fieldLink RX10 16 "SortedTablesModel" "now" "[I") (by decide +kernel)
  unfold pX10_have at hf
  refine lv_iload_n hx hb dX10_have_0 rfl (lv_at hl 1 rfl) ?_
  obtain ⟨v1, h2, hf⟩ := bd1_s hf
  refine k_callSR (As := [.int p0]) (n := 1) (rest := []) (st1 := [.int v1]) C hE hW hl.1 (kX10_isTable l D cI cZ cJ _ p0 v1 h2) gX10_have_X10_isTable rfl (by decide +kernel) rfl ⟨Nat.le_of_ble_eq_true rfl, Nat.le_of_ble_eq_true rfl⟩ ⟨Nat.zero_le _, Nat.zero_le _⟩ [] rfl rfl (Nat.le_of_ble_eq_true rfl) rfl rfl dX10_have_1 (fun H locs hW => ?_)
  refine lv_if_eq (tgt := 24) hx hb dX10_have_4 (by decide) (fun hc => ?_) (fun hc => ?_)
  · replace hf := if_t hc hf
    refine lv_iconst (v := 0) hx hb dX10_have_24 (by decide) ?_
    obtain rfl := Option.some.inj hf
    exact k_zret C hlocks hr hW (by decide) hQ dX10_have_25
  · replace hf := if_f hc hf
    refine lv_aload_n hx hb dX10_have_7 rfl (lv_at hl 0 rfl) ?_
    refine k_get C hE hW iX10 0 rfl rfl 5 (by decide) f16 (fun _ h9 => h9) rfl dX10_have_8 ?_
    refine lv_iload_n hx hb dX10_have_11 rfl (lv_at hl 1 rfl) ?_
    refine lv_iload_n hx hb dX10_have_12 rfl (lv_at hl 2 rfl) ?_
    refine lv_iload_n hx hb dX10_have_13 rfl (lv_at hl 3 rfl) ?_
    obtain ⟨v3, h4, hf⟩ := bd1_s hf
    refine k_callSR (As := [.ref q_now, .int p0, .int p1, .int p2]) (n := 4) (rest := []) (st1 := [.int v3]) C hE hW hl.1 (kX10_isCell l D cI cZ cJ _ q_now u_now p0 p1 p2 v3 h4) gX10_have_X10_isCell rfl (by decide +kernel) rfl ⟨Nat.le_of_ble_eq_true rfl, Nat.le_of_ble_eq_true rfl⟩ ⟨Nat.zero_le _, Nat.zero_le _⟩ [1] rfl rfl (Nat.le_of_ble_eq_true rfl) rfl rfl dX10_have_14 (fun H locs hW => ?_)
    refine lv_if_eq (tgt := 24) hx hb dX10_have_17 (by decide) (fun hc => ?_) (fun hc => ?_)
    · replace hf := if_t hc hf
      refine lv_iconst (v := 0) hx hb dX10_have_24 (by decide) ?_
      obtain rfl := Option.some.inj hf
      exact k_zret C hlocks hr hW (by decide) hQ dX10_have_25
    · replace hf := if_f hc hf
      refine lv_iconst (v := 1) hx hb dX10_have_20 (by decide) ?_
      refine lv_goto (tgt := 25) hx hb dX10_have_21 (by decide) ?_
      obtain rfl := Option.some.inj hf
      exact k_zret C hlocks hr hW (by decide) hQ dX10_have_25

set_option maxHeartbeats 4000000 in
set_option maxRecDepth 100000 in
theorem kX10_gapRow (l : Launch) (D : va_G) (cI cZ cJ : ClassId) (sz : Nat) (r0 : Nat) (u0 : Nat → Int32) (p1 : Int32) (r : Int32) (hf : pX10_gapRow u0 p1 = some r) : kMet l D cI cZ cJ yX10_gapRow wsX10_gapRow 3 70 [.ref r0, .int p1] [(r0, .inl (cI, 84, .inl u0))] sz (some (.int r)) [(r0, .inl (cI, 84, .inl u0))] := by
  refine kM_of (cc := cX10_gapRow) (maxL := 4) (ret := (some .int)) (by decide) rfl (Nat.le_of_ble_eq_true rfl) ?_
  intro p e s m args below meth c A Q ls hQ C hlocks hr hE hW hl
  have hx := C.1
  have hb := C.2.1
  have hts := C.2.2.2.2
  have hl : lv_has ls 4 [(0, .ref r0), (1, .int p1)] := hl
  unfold pX10_gapRow at hf
  refine lv_bipush (v := (-9)) hx hb dX10_gapRow_0 (by decide) ?_
  refine lv_istore_n (lv' := [(2, .int (-9)), (0, .ref r0), (1, .int p1)]) hx hb dX10_gapRow_2 rfl hl (by decide) rfl (fun ls hl => ?_)
  refine lv_iconst (v := 0) hx hb dX10_gapRow_3 (by decide) ?_
  refine lv_istore_n (lv' := [(3, .int 0), (2, .int (-9)), (0, .ref r0), (1, .int p1)]) hx hb dX10_gapRow_4 rfl hl (by decide) rfl (fun ls hl => ?_)
  obtain ⟨x3, hx50, hf⟩ := bd1_s hf
  have J6 : ∀ (H : Heap) (locs : List Loc) (ls : Array Slot), kH D A s H locs [(r0, .inl (cI, 84, .inl u0))] → lv_has ls 4 [(2, .int x3)] → W p l e (kRm 3 70 0 0) s m args below meth c H locs 0 0 Q (F0 m 53 ls []) := by
    intro H locs ls hW hl
    refine lv_iload_n hx hb dX10_gapRow_53 rfl (lv_at hl 0 rfl) ?_
    obtain rfl := Option.some.inj hf
    exact k_iret C hlocks hr hW hQ dX10_gapRow_54
  have L7 : ∀ (n : Nat) (i1 : Int32) (i2 : Int32), lpI n (un2 (pX10_gapRow_L5 u0 p1)) (i1, i2) = some x3 → ∀ (H : Heap) (locs : List Loc) (ls : Array Slot), kH D A s H locs [(r0, .inl (cI, 84, .inl u0))] → lv_has ls 4 [(3, .int i1), (2, .int i2), (0, .ref r0), (1, .int p1)] → W p l e (kRm 3 70 0 0) s m args below meth c H locs 0 0 Q (F0 m 5 ls []) := by
    intro n
    induction n with
    | zero => intro i1 i2 hx5; exact (lpI_0 hx5).elim
    | succ n ih9 =>
      intro i1 i2 hx5 H locs ls hW hl
      obtain ⟨ooho4, ho4, hx5⟩ := lpI_s hx5
      replace ho4 := un2_s ho4
      unfold pX10_gapRow_L5 at ho4
      refine lv_iload_n hx hb dX10_gapRow_5 rfl (lv_at hl 0 rfl) ?_
      refine lv_bipush (v := 6) hx hb dX10_gapRow_6 (by decide) ?_
      refine lv_icmp_ge (tgt := 53) hx hb dX10_gapRow_8 (by decide) (fun hc => ?_) (fun hc => ?_)
      · replace ho4 := if_t hc ho4
        obtain rfl := Option.some.inj ho4
        obtain rfl := lpK_r hx5
        exact J6 _ _ _ hW (lv_sub hl [1] rfl)
      · replace ho4 := if_f hc ho4
        refine lv_aload_n hx hb dX10_gapRow_11 rfl (lv_at hl 2 rfl) ?_
        refine lv_iload_n hx hb dX10_gapRow_12 rfl (lv_at hl 3 rfl) ?_
        refine lv_iload_n hx hb dX10_gapRow_13 rfl (lv_at hl 0 rfl) ?_
        obtain ⟨v10, h11, ho4⟩ := bd1_s ho4
        refine k_callSR (As := [.ref r0, .int p1, .int i1]) (n := 3) (rest := []) (st1 := [.int v10]) C hE hW hl.1 (kX10_isGap l D cI cZ cJ _ r0 u0 p1 i1 v10 h11) gX10_gapRow_X10_isGap rfl (by decide +kernel) rfl ⟨Nat.le_of_ble_eq_true rfl, Nat.le_of_ble_eq_true rfl⟩ ⟨Nat.zero_le _, Nat.zero_le _⟩ [0] rfl rfl (Nat.le_of_ble_eq_true rfl) rfl rfl dX10_gapRow_14 (fun H locs hW => ?_)
        refine lv_if_eq (tgt := 47) hx hb dX10_gapRow_17 (by decide) (fun hc => ?_) (fun hc => ?_)
        · replace ho4 := if_t hc ho4
          refine lv_iinc (v := (i1 + 1)) (lv' := [(3, .int (i1 + 1)), (2, .int i2), (0, .ref r0), (1, .int p1)]) hx hb dX10_gapRow_47 hl (k := 0) rfl rfl (by decide) rfl (fun ls hl => ?_)
          refine lv_goto (tgt := 5) hx hb dX10_gapRow_50 (by decide) ?_
          obtain rfl := Option.some.inj ho4
          exact ih9 _ _ hx5 _ _ _ hW (lv_sub hl [0, 1, 2, 3] rfl)
        · replace ho4 := if_f hc ho4
          refine lv_iload_n hx hb dX10_gapRow_20 rfl (lv_at hl 1 rfl) ?_
          refine lv_bipush (v := (-9)) hx hb dX10_gapRow_21 (by decide) ?_
          refine lv_icmp_eq (tgt := 45) hx hb dX10_gapRow_23 (by decide) (fun hc => ?_) (fun hc => ?_)
          · replace ho4 := if_t hc ho4
            refine lv_iload_n hx hb dX10_gapRow_45 rfl (lv_at hl 0 rfl) ?_
            refine lv_istore_n (lv' := [(2, .int i1), (3, .int i1), (0, .ref r0), (1, .int p1)]) hx hb dX10_gapRow_46 rfl hl (by decide) rfl (fun ls hl => ?_)
            refine lv_iinc (v := (i1 + 1)) (lv' := [(3, .int (i1 + 1)), (2, .int i1), (0, .ref r0), (1, .int p1)]) hx hb dX10_gapRow_47 hl (k := 1) rfl rfl (by decide) rfl (fun ls hl => ?_)
            refine lv_goto (tgt := 5) hx hb dX10_gapRow_50 (by decide) ?_
            obtain rfl := Option.some.inj ho4
            exact ih9 _ _ hx5 _ _ _ hW (lv_sub hl [0, 1, 2, 3] rfl)
          · replace ho4 := if_f hc ho4
            refine lv_iload_n hx hb dX10_gapRow_26 rfl (lv_at hl 0 rfl) ?_
            refine lv_aload_n hx hb dX10_gapRow_27 rfl (lv_at hl 2 rfl) ?_
            refine lv_iload_n hx hb dX10_gapRow_28 rfl (lv_at hl 3 rfl) ?_
            refine lv_iload_n hx hb dX10_gapRow_29 rfl (lv_at hl 0 rfl) ?_
            obtain ⟨v12, h13, ho4⟩ := bd1_s ho4
            refine k_callSR (As := [.ref r0, .int p1, .int i1]) (n := 3) (rest := [.int i1]) (st1 := [.int v12, .int i1]) C hE hW hl.1 (kX10_length l D cI cZ cJ _ r0 u0 p1 i1 v12 h13) gX10_gapRow_X10_length rfl (by decide +kernel) rfl ⟨Nat.le_of_ble_eq_true rfl, Nat.le_of_ble_eq_true rfl⟩ ⟨Nat.zero_le _, Nat.zero_le _⟩ [0] rfl rfl (Nat.le_of_ble_eq_true rfl) rfl rfl dX10_gapRow_30 (fun H locs hW => ?_)
            refine lv_iadd hx hb dX10_gapRow_33 ?_
            refine lv_iload_n hx hb dX10_gapRow_34 rfl (lv_at hl 1 rfl) ?_
            refine lv_aload_n hx hb dX10_gapRow_35 rfl (lv_at hl 2 rfl) ?_
            refine lv_iload_n hx hb dX10_gapRow_36 rfl (lv_at hl 3 rfl) ?_
            refine lv_iload_n hx hb dX10_gapRow_37 rfl (lv_at hl 1 rfl) ?_
            obtain ⟨v14, h15, ho4⟩ := bd1_s ho4
            refine k_callSR (As := [.ref r0, .int p1, .int i2]) (n := 3) (rest := [.int i2, .int (i1 + v12)]) (st1 := [.int v14, .int i2, .int (i1 + v12)]) C hE hW hl.1 (kX10_length l D cI cZ cJ _ r0 u0 p1 i2 v14 h15) gX10_gapRow_X10_length rfl (by decide +kernel) rfl ⟨Nat.le_of_ble_eq_true rfl, Nat.le_of_ble_eq_true rfl⟩ ⟨Nat.zero_le _, Nat.zero_le _⟩ [0] rfl rfl (Nat.le_of_ble_eq_true rfl) rfl rfl dX10_gapRow_38 (fun H locs hW => ?_)
            refine lv_iadd hx hb dX10_gapRow_41 ?_
            refine lv_icmp_ge (tgt := 47) hx hb dX10_gapRow_42 (by decide) (fun hc => ?_) (fun hc => ?_)
            · replace ho4 := if_t hc ho4
              refine lv_iinc (v := (i1 + 1)) (lv' := [(3, .int (i1 + 1)), (2, .int i2), (0, .ref r0), (1, .int p1)]) hx hb dX10_gapRow_47 hl (k := 0) rfl rfl (by decide) rfl (fun ls hl => ?_)
              refine lv_goto (tgt := 5) hx hb dX10_gapRow_50 (by decide) ?_
              obtain rfl := Option.some.inj ho4
              exact ih9 _ _ hx5 _ _ _ hW (lv_sub hl [0, 1, 2, 3] rfl)
            · replace ho4 := if_f hc ho4
              refine lv_iload_n hx hb dX10_gapRow_45 rfl (lv_at hl 0 rfl) ?_
              refine lv_istore_n (lv' := [(2, .int i1), (3, .int i1), (0, .ref r0), (1, .int p1)]) hx hb dX10_gapRow_46 rfl hl (by decide) rfl (fun ls hl => ?_)
              refine lv_iinc (v := (i1 + 1)) (lv' := [(3, .int (i1 + 1)), (2, .int i1), (0, .ref r0), (1, .int p1)]) hx hb dX10_gapRow_47 hl (k := 1) rfl rfl (by decide) rfl (fun ls hl => ?_)
              refine lv_goto (tgt := 5) hx hb dX10_gapRow_50 (by decide) ?_
              obtain rfl := Option.some.inj ho4
              exact ih9 _ _ hx5 _ _ _ hW (lv_sub hl [0, 1, 2, 3] rfl)
  exact L7 lpF _ _ hx50 _ _ _ hW (lv_sub hl [0, 1, 2, 3] rfl)

set_option maxHeartbeats 4000000 in
set_option maxRecDepth 100000 in
theorem kX10_slideUp (l : Launch) (D : va_G) (cI cZ cJ : ClassId) (sz : Nat) (q r0 q_script q_readRow q_now q_trial q_diary q_kept q_isKept q_sums q_primes q_turned : Nat) (u_refusal : Int32) (u_scriptSize : Int32) (u_spot : Int32) (u_acts : Int32) (u_slides : Int32) (u0 : Nat → Int32) (p1 : Int32) (p2 : Int32) (r : Int32) (u_slides' : Int32) (u0' : Nat → Int32) (hf : pX10_slideUp u_slides u0 p1 p2 = some (r, u_slides', u0')) : kMet l D cI cZ cJ yX10_slideUp wsX10_slideUp 1 24 [.ref q, .ref r0, .int p1, .int p2] [(q, .inr (9, [.int u_refusal, .ref q_script, .int u_scriptSize, .int u_spot, .ref q_readRow, .ref q_now, .ref q_trial, .ref q_diary, .int u_acts, .ref q_kept, .ref q_isKept, .int u_slides, .ref q_sums, .ref q_primes, .ref q_turned])), (r0, .inl (cI, 84, .inl u0))] sz (some (.int r)) [(q, .inr (9, [.int u_refusal, .ref q_script, .int u_scriptSize, .int u_spot, .ref q_readRow, .ref q_now, .ref q_trial, .ref q_diary, .int u_acts, .ref q_kept, .ref q_isKept, .int u_slides', .ref q_sums, .ref q_primes, .ref q_turned])), (r0, .inl (cI, 84, .inl u0'))] := by
  refine kM_of (cc := cX10_slideUp) (maxL := 11) (ret := (some .int)) (by decide) rfl (Nat.le_of_ble_eq_true rfl) ?_
  intro p e s m args below meth c A Q ls hQ C hlocks hr hE hW hl
  have hx := C.1
  have hb := C.2.1
  have hts := C.2.2.2.2
  have hl : lv_has ls 11 [(0, .ref q), (1, .ref r0), (2, .int p1), (3, .int p2)] := hl
  have iX10 : ∀ w ∈ u_ws RX10 TX10 15, w ∈ wsX10_slideUp := by decide +kernel
  have f84 := hts (.fieldLink RX10 84 "SortedTablesModel" "slides" "I") (by decide +kernel)
  unfold pX10_slideUp at hf
  refine lv_iload_n hx hb dX10_slideUp_0 rfl (lv_at hl 3 rfl) ?_
  refine lv_bipush (v := 10) hx hb dX10_slideUp_1 (by decide) ?_
  refine lv_idiv hx hb dX10_slideUp_3 (by decide) ?_
  refine lv_istore (lv' := [(4, .int (p2 / 10)), (0, .ref q), (1, .ref r0), (2, .int p1), (3, .int p2)]) hx hb dX10_slideUp_4 hl (by decide) rfl (fun ls hl => ?_)
  refine lv_iload_n hx hb dX10_slideUp_6 rfl (lv_at hl 4 rfl) ?_
  refine lv_bipush (v := 10) hx hb dX10_slideUp_7 (by decide) ?_
  refine lv_irem hx hb dX10_slideUp_9 (by decide) ?_
  refine lv_istore (lv' := [(5, .int (irm p2 10)), (4, .int (p2 / 10)), (0, .ref q), (1, .ref r0), (2, .int p1), (3, .int p2)]) hx hb dX10_slideUp_10 hl (by decide) rfl (fun ls hl => ?_)
  refine lv_aload_n hx hb dX10_slideUp_12 rfl (lv_at hl 3 rfl) ?_
  refine lv_iload_n hx hb dX10_slideUp_13 rfl (lv_at hl 4 rfl) ?_
  refine lv_iload hx hb dX10_slideUp_14 (lv_at hl 1 rfl) ?_
  refine lv_iload hx hb dX10_slideUp_16 (lv_at hl 0 rfl) ?_
  obtain ⟨v1, h2, hf⟩ := bd1_s hf
  refine k_callSR (As := [.ref r0, .int p1, .int (p2 / 10), .int (irm p2 10)]) (n := 4) (rest := []) (st1 := [.int v1]) C hE hW hl.1 (kX10_get l D cI cZ cJ _ r0 u0 p1 (p2 / 10) (irm p2 10) v1 h2) gX10_slideUp_X10_get rfl (by decide +kernel) rfl ⟨Nat.le_of_ble_eq_true rfl, Nat.le_of_ble_eq_true rfl⟩ ⟨Nat.zero_le _, Nat.zero_le _⟩ [1] rfl rfl (Nat.le_of_ble_eq_true rfl) rfl rfl dX10_slideUp_18 (fun H locs hW => ?_)
  refine lv_istore (lv' := [(6, .int v1), (5, .int (irm p2 10)), (4, .int (p2 / 10)), (0, .ref q), (1, .ref r0), (2, .int p1), (3, .int p2)]) hx hb dX10_slideUp_21 hl (by decide) rfl (fun ls hl => ?_)
  refine lv_iconst (v := 1) hx hb dX10_slideUp_23 (by decide) ?_
  refine lv_istore (lv' := [(7, .int 1), (6, .int v1), (5, .int (irm p2 10)), (4, .int (p2 / 10)), (0, .ref q), (1, .ref r0), (2, .int p1), (3, .int p2)]) hx hb dX10_slideUp_24 hl (by decide) rfl (fun ls hl => ?_)
  obtain ⟨⟨x8, x9, w10, w11⟩, hx130, hf⟩ := bd1_s hf
  replace hf := un4_s hf
  have J14 : ∀ (H : Heap) (locs : List Loc) (ls : Array Slot), kH D A s H locs [(q, .inr (9, [.int u_refusal, .ref q_script, .int u_scriptSize, .int u_spot, .ref q_readRow, .ref q_now, .ref q_trial, .ref q_diary, .int u_acts, .ref q_kept, .ref q_isKept, .int w10, .ref q_sums, .ref q_primes, .ref q_turned])), (r0, .inl (cI, 84, .inl w11))] → lv_has ls 11 [(5, .int x8), (4, .int x9)] → W p l e (kRm 1 24 0 0) s m args below meth c H locs 0 0 Q (F0 m 192 ls []) := by
    intro H locs ls hW hl
    refine lv_bipush (v := 10) hx hb dX10_slideUp_192 (by decide) ?_
    refine lv_iload hx hb dX10_slideUp_194 (lv_at hl 1 rfl) ?_
    refine lv_imul hx hb dX10_slideUp_196 ?_
    refine lv_iload hx hb dX10_slideUp_197 (lv_at hl 0 rfl) ?_
    refine lv_iadd hx hb dX10_slideUp_199 ?_
    obtain ⟨rfl, rfl, rfl⟩ := sm3 hf
    exact k_iret C hlocks hr hW hQ dX10_slideUp_200
  have L15 : ∀ (n : Nat) (i3 : Int32) (i4 : Int32) (i5 : Int32) (w6 : Int32) (w7 : Nat → Int32), lpI n (un5 (pX10_slideUp_L26 p1 v1)) (i3, i4, i5, w6, w7) = some (x8, x9, w10, w11) → ∀ (H : Heap) (locs : List Loc) (ls : Array Slot), kH D A s H locs [(q, .inr (9, [.int u_refusal, .ref q_script, .int u_scriptSize, .int u_spot, .ref q_readRow, .ref q_now, .ref q_trial, .ref q_diary, .int u_acts, .ref q_kept, .ref q_isKept, .int w6, .ref q_sums, .ref q_primes, .ref q_turned])), (r0, .inl (cI, 84, .inl w7))] → lv_has ls 11 [(7, .int i3), (6, .int v1), (5, .int i4), (4, .int i5), (0, .ref q), (1, .ref r0), (2, .int p1)] → W p l e (kRm 1 24 0 0) s m args below meth c H locs 0 0 Q (F0 m 26 ls []) := by
    intro n
    induction n with
    | zero => intro i3 i4 i5 w6 w7 hx13; exact (lpI_0 hx13).elim
    | succ n ih17 =>
      intro i3 i4 i5 w6 w7 hx13 H locs ls hW hl
      obtain ⟨ooho12, ho12, hx13⟩ := lpI_s hx13
      replace ho12 := un5_s ho12
      unfold pX10_slideUp_L26 at ho12
      refine lv_iload hx hb dX10_slideUp_26 (lv_at hl 0 rfl) ?_
      refine lv_if_eq (tgt := 192) hx hb dX10_slideUp_28 (by decide) (fun hc => ?_) (fun hc => ?_)
      · replace ho12 := if_t hc ho12
        obtain rfl := Option.some.inj ho12
        obtain ⟨rfl, rfl, rfl, rfl⟩ := pr4 (lpK_r hx13)
        exact J14 _ _ _ hW (lv_sub hl [2, 3] rfl)
      · replace ho12 := if_f hc ho12
        refine lv_iload hx hb dX10_slideUp_31 (lv_at hl 3 rfl) ?_
        obtain ⟨j18, hd19, ho12⟩ := bd1_s ho12
        have J20 : ∀ (H : Heap) (locs : List Loc) (ls : Array Slot), kH D A s H locs [(q, .inr (9, [.int u_refusal, .ref q_script, .int u_scriptSize, .int u_spot, .ref q_readRow, .ref q_now, .ref q_trial, .ref q_diary, .int u_acts, .ref q_kept, .ref q_isKept, .int w6, .ref q_sums, .ref q_primes, .ref q_turned])), (r0, .inl (cI, 84, .inl w7))] → lv_has ls 11 [(0, .ref q), (1, .ref r0), (2, .int p1), (4, .int i5), (5, .int i4), (6, .int v1)] → W p l e (kRm 1 24 0 0) s m args below meth c H locs 0 0 Q (F0 m 52 ls [.int j18]) := by
          intro H locs ls hW hl
          refine lv_istore (lv' := [(8, .int j18), (0, .ref q), (1, .ref r0), (2, .int p1), (4, .int i5), (5, .int i4), (6, .int v1)]) hx hb dX10_slideUp_52 hl (by decide) rfl (fun ls hl => ?_)
          refine lv_iload hx hb dX10_slideUp_54 (lv_at hl 5 rfl) ?_
          obtain ⟨j23, hd24, ho12⟩ := bd1_s ho12
          have J25 : ∀ (H : Heap) (locs : List Loc) (ls : Array Slot), kH D A s H locs [(q, .inr (9, [.int u_refusal, .ref q_script, .int u_scriptSize, .int u_spot, .ref q_readRow, .ref q_now, .ref q_trial, .ref q_diary, .int u_acts, .ref q_kept, .ref q_isKept, .int w6, .ref q_sums, .ref q_primes, .ref q_turned])), (r0, .inl (cI, 84, .inl w7))] → lv_has ls 11 [(0, .ref q), (1, .ref r0), (2, .int p1), (4, .int i5), (5, .int i4), (6, .int v1), (8, .int j18)] → W p l e (kRm 1 24 0 0) s m args below meth c H locs 0 0 Q (F0 m 75 ls [.int j23]) := by
            intro H locs ls hW hl
            refine lv_istore (lv' := [(9, .int j23), (0, .ref q), (1, .ref r0), (2, .int p1), (4, .int i5), (5, .int i4), (6, .int v1), (8, .int j18)]) hx hb dX10_slideUp_75 hl (by decide) rfl (fun ls hl => ?_)
            refine lv_iload hx hb dX10_slideUp_77 (lv_at hl 7 rfl) ?_
            refine lv_iload hx hb dX10_slideUp_79 (lv_at hl 6 rfl) ?_
            obtain ⟨j28, hd29, ho12⟩ := bd1_s ho12
            have J30 : ∀ (H : Heap) (locs : List Loc) (ls : Array Slot), kH D A s H locs [(q, .inr (9, [.int u_refusal, .ref q_script, .int u_scriptSize, .int u_spot, .ref q_readRow, .ref q_now, .ref q_trial, .ref q_diary, .int u_acts, .ref q_kept, .ref q_isKept, .int w6, .ref q_sums, .ref q_primes, .ref q_turned])), (r0, .inl (cI, 84, .inl w7))] → lv_has ls 11 [(0, .ref q), (1, .ref r0), (2, .int p1), (4, .int i5), (5, .int i4), (6, .int v1), (8, .int j18), (9, .int j23)] → W p l e (kRm 1 24 0 0) s m args below meth c H locs 0 0 Q (F0 m 96 ls [.int j28]) := by
              intro H locs ls hW hl
              refine lv_istore (lv' := [(7, .int j28), (0, .ref q), (1, .ref r0), (2, .int p1), (4, .int i5), (5, .int i4), (6, .int v1), (8, .int j18), (9, .int j23)]) hx hb dX10_slideUp_96 hl (by decide) rfl (fun ls hl => ?_)
              refine lv_iload hx hb dX10_slideUp_98 (lv_at hl 0 rfl) ?_
              refine lv_if_eq (tgt := 189) hx hb dX10_slideUp_100 (by decide) (fun hc => ?_) (fun hc => ?_)
              · replace ho12 := if_t hc ho12
                refine lv_goto (tgt := 26) hx hb dX10_slideUp_189 (by decide) ?_
                obtain rfl := Option.some.inj ho12
                exact ih17 _ _ _ _ _ hx13 _ _ _ hW (lv_sub hl [0, 6, 5, 4, 1, 2, 3] rfl)
              · replace ho12 := if_f hc ho12
                refine lv_iload hx hb dX10_slideUp_103 (lv_at hl 7 rfl) ?_
                refine lv_iload hx hb dX10_slideUp_105 (lv_at hl 8 rfl) ?_
                obtain ⟨j31, hd32, ho12⟩ := bd1_s ho12
                have J33 : ∀ (H : Heap) (locs : List Loc) (ls : Array Slot), kH D A s H locs [(q, .inr (9, [.int u_refusal, .ref q_script, .int u_scriptSize, .int u_spot, .ref q_readRow, .ref q_now, .ref q_trial, .ref q_diary, .int u_acts, .ref q_kept, .ref q_isKept, .int w6, .ref q_sums, .ref q_primes, .ref q_turned])), (r0, .inl (cI, 84, .inl w7))] → lv_has ls 11 [(0, .ref q), (1, .ref r0), (2, .int p1), (4, .int i5), (5, .int i4), (6, .int v1), (7, .int j28), (8, .int j18), (9, .int j23)] → W p l e (kRm 1 24 0 0) s m args below meth c H locs 0 0 Q (F0 m 115 ls [.int j31]) := by
                  intro H locs ls hW hl
                  refine lv_istore (lv' := [(10, .int j31), (0, .ref q), (1, .ref r0), (2, .int p1), (4, .int i5), (5, .int i4), (6, .int v1), (7, .int j28), (8, .int j18), (9, .int j23)]) hx hb dX10_slideUp_115 hl (by decide) rfl (fun ls hl => ?_)
                  refine lv_aload_n hx hb dX10_slideUp_117 rfl (lv_at hl 2 rfl) ?_
                  refine lv_iload_n hx hb dX10_slideUp_118 rfl (lv_at hl 3 rfl) ?_
                  refine lv_iload hx hb dX10_slideUp_119 (lv_at hl 4 rfl) ?_
                  refine lv_iload hx hb dX10_slideUp_121 (lv_at hl 5 rfl) ?_
                  refine lv_iload hx hb dX10_slideUp_123 (lv_at hl 0 rfl) ?_
                  obtain ⟨j34, hd35, ho12⟩ := bd1_s ho12
                  have J36 : ∀ (H : Heap) (locs : List Loc) (ls : Array Slot), kH D A s H locs [(q, .inr (9, [.int u_refusal, .ref q_script, .int u_scriptSize, .int u_spot, .ref q_readRow, .ref q_now, .ref q_trial, .ref q_diary, .int u_acts, .ref q_kept, .ref q_isKept, .int w6, .ref q_sums, .ref q_primes, .ref q_turned])), (r0, .inl (cI, 84, .inl w7))] → lv_has ls 11 [(0, .ref q), (1, .ref r0), (2, .int p1), (4, .int i5), (5, .int i4), (6, .int v1), (7, .int j28), (10, .int j31)] → W p l e (kRm 1 24 0 0) s m args below meth c H locs 0 0 Q (F0 m 135 ls [.int j34, .int i4, .int i5, .int p1, .ref r0]) := by
                    intro H locs ls hW hl
                    obtain ⟨w37, h38, ho12⟩ := bd1_s ho12
                    refine k_callS (As := [.ref r0, .int p1, .int i5, .int i4, .int j34]) (n := 5) (rest := []) (st1 := []) (wr := [(q, .inr (9, [.int u_refusal, .ref q_script, .int u_scriptSize, .int u_spot, .ref q_readRow, .ref q_now, .ref q_trial, .ref q_diary, .int u_acts, .ref q_kept, .ref q_isKept, .int w6, .ref q_sums, .ref q_primes, .ref q_turned]))]) (ws' := [(q, .inr (9, [.int u_refusal, .ref q_script, .int u_scriptSize, .int u_spot, .ref q_readRow, .ref q_now, .ref q_trial, .ref q_diary, .int u_acts, .ref q_kept, .ref q_isKept, .int w6, .ref q_sums, .ref q_primes, .ref q_turned])), (r0, .inl (cI, 84, .inl w37))]) C hE hW hl.1 (kX10_set l D cI cZ cJ _ r0 w7 p1 i5 i4 j34 w37 h38) gX10_slideUp_X10_set rfl (by decide +kernel) rfl ⟨Nat.le_of_ble_eq_true rfl, Nat.le_of_ble_eq_true rfl⟩ ⟨Nat.zero_le _, Nat.zero_le _⟩ [1] [0] [0, 1] rfl rfl rfl rfl (by decide) rfl rfl (Nat.le_of_ble_eq_true rfl) rfl rfl dX10_slideUp_135 (fun H locs hW => ?_)
                    refine lv_iload hx hb dX10_slideUp_138 (lv_at hl 3 rfl) ?_
                    refine lv_iload hx hb dX10_slideUp_140 (lv_at hl 7 rfl) ?_
                    obtain ⟨j39, hd40, ho12⟩ := bd1_s ho12
                    have J41 : ∀ (H : Heap) (locs : List Loc) (ls : Array Slot), kH D A s H locs [(q, .inr (9, [.int u_refusal, .ref q_script, .int u_scriptSize, .int u_spot, .ref q_readRow, .ref q_now, .ref q_trial, .ref q_diary, .int u_acts, .ref q_kept, .ref q_isKept, .int w6, .ref q_sums, .ref q_primes, .ref q_turned])), (r0, .inl (cI, 84, .inl w37))] → lv_has ls 11 [(0, .ref q), (1, .ref r0), (2, .int p1), (5, .int i4), (6, .int v1), (7, .int j28), (10, .int j31)] → W p l e (kRm 1 24 0 0) s m args below meth c H locs 0 0 Q (F0 m 150 ls [.int j39, .int i5]) := by
                      intro H locs ls hW hl
                      refine lv_isub hx hb dX10_slideUp_150 ?_
                      refine lv_istore (lv' := [(4, .int (i5 - j39)), (0, .ref q), (1, .ref r0), (2, .int p1), (5, .int i4), (6, .int v1), (7, .int j28), (10, .int j31)]) hx hb dX10_slideUp_151 hl (by decide) rfl (fun ls hl => ?_)
                      refine lv_iload hx hb dX10_slideUp_153 (lv_at hl 4 rfl) ?_
                      refine lv_iload hx hb dX10_slideUp_155 (lv_at hl 7 rfl) ?_
                      obtain ⟨j42, hd43, ho12⟩ := bd1_s ho12
                      have J44 : ∀ (H : Heap) (locs : List Loc) (ls : Array Slot), kH D A s H locs [(q, .inr (9, [.int u_refusal, .ref q_script, .int u_scriptSize, .int u_spot, .ref q_readRow, .ref q_now, .ref q_trial, .ref q_diary, .int u_acts, .ref q_kept, .ref q_isKept, .int w6, .ref q_sums, .ref q_primes, .ref q_turned])), (r0, .inl (cI, 84, .inl w37))] → lv_has ls 11 [(0, .ref q), (1, .ref r0), (2, .int p1), (4, .int (i5 - j39)), (6, .int v1), (7, .int j28)] → W p l e (kRm 1 24 0 0) s m args below meth c H locs 0 0 Q (F0 m 165 ls [.int j42, .int i4]) := by
                        intro H locs ls hW hl
                        refine lv_isub hx hb dX10_slideUp_165 ?_
                        refine lv_istore (lv' := [(5, .int (i4 - j42)), (0, .ref q), (1, .ref r0), (2, .int p1), (4, .int (i5 - j39)), (6, .int v1), (7, .int j28)]) hx hb dX10_slideUp_166 hl (by decide) rfl (fun ls hl => ?_)
                        refine lv_aload_n hx hb dX10_slideUp_168 rfl (lv_at hl 2 rfl) ?_
                        refine lv_iload_n hx hb dX10_slideUp_169 rfl (lv_at hl 3 rfl) ?_
                        refine lv_iload hx hb dX10_slideUp_170 (lv_at hl 4 rfl) ?_
                        refine lv_iload hx hb dX10_slideUp_172 (lv_at hl 0 rfl) ?_
                        refine lv_iload hx hb dX10_slideUp_174 (lv_at hl 5 rfl) ?_
                        obtain ⟨w45, h46, ho12⟩ := bd1_s ho12
                        refine k_callS (As := [.ref r0, .int p1, .int (i5 - j39), .int (i4 - j42), .int v1]) (n := 5) (rest := []) (st1 := []) (wr := [(q, .inr (9, [.int u_refusal, .ref q_script, .int u_scriptSize, .int u_spot, .ref q_readRow, .ref q_now, .ref q_trial, .ref q_diary, .int u_acts, .ref q_kept, .ref q_isKept, .int w6, .ref q_sums, .ref q_primes, .ref q_turned]))]) (ws' := [(q, .inr (9, [.int u_refusal, .ref q_script, .int u_scriptSize, .int u_spot, .ref q_readRow, .ref q_now, .ref q_trial, .ref q_diary, .int u_acts, .ref q_kept, .ref q_isKept, .int w6, .ref q_sums, .ref q_primes, .ref q_turned])), (r0, .inl (cI, 84, .inl w45))]) C hE hW hl.1 (kX10_set l D cI cZ cJ _ r0 w37 p1 (i5 - j39) (i4 - j42) v1 w45 h46) gX10_slideUp_X10_set rfl (by decide +kernel) rfl ⟨Nat.le_of_ble_eq_true rfl, Nat.le_of_ble_eq_true rfl⟩ ⟨Nat.zero_le _, Nat.zero_le _⟩ [1] [0] [0, 1] rfl rfl rfl rfl (by decide) rfl rfl (Nat.le_of_ble_eq_true rfl) rfl rfl dX10_slideUp_176 (fun H locs hW => ?_)
                        refine lv_aload_n hx hb dX10_slideUp_179 rfl (lv_at hl 1 rfl) ?_
                        refine lv_dup hx hb dX10_slideUp_180 rfl ?_
                        refine k_get C hE hW iX10 0 rfl rfl 11 (by decide) f84 (fun _ h9 => h9) rfl dX10_slideUp_181 ?_
                        refine lv_iconst (v := 1) hx hb dX10_slideUp_184 (by decide) ?_
                        refine lv_iadd hx hb dX10_slideUp_185 ?_
                        refine k_put (v := .int (w6 + 1)) (ty := .int) (ws' := [(q, .inr (9, [.int u_refusal, .ref q_script, .int u_scriptSize, .int u_spot, .ref q_readRow, .ref q_now, .ref q_trial, .ref q_diary, .int u_acts, .ref q_kept, .ref q_isKept, .int (w6 + 1), .ref q_sums, .ref q_primes, .ref q_turned])), (r0, .inl (cI, 84, .inl w45))]) C hE hW iX10 tyX10_ok nmX10 0 rfl rfl 11 (by decide) f84 (fun _ h9 => h9) rfl (by decide +kernel) rfl rfl (Nat.le_of_ble_eq_true rfl) rfl dX10_slideUp_186 (fun H locs hW => ?_)
                        refine lv_goto (tgt := 26) hx hb dX10_slideUp_189 (by decide) ?_
                        obtain rfl := Option.some.inj ho12
                        exact ih17 _ _ _ _ _ hx13 _ _ _ hW (lv_sub hl [6, 5, 0, 4, 1, 2, 3] rfl)
                      refine lv_if_eq (tgt := 164) hx hb dX10_slideUp_157 (by decide) (fun hc => ?_) (fun hc => ?_)
                      · replace hd43 := if_t hc hd43
                        refine lv_iconst (v := 1) hx hb dX10_slideUp_164 (by decide) ?_
                        obtain rfl := Option.some.inj hd43
                        exact J44 _ _ _ hW (lv_sub hl [1, 2, 3, 0, 5, 6] rfl)
                      · replace hd43 := if_f hc hd43
                        refine lv_iconst (v := 0) hx hb dX10_slideUp_160 (by decide) ?_
                        refine lv_goto (tgt := 165) hx hb dX10_slideUp_161 (by decide) ?_
                        obtain rfl := Option.some.inj hd43
                        exact J44 _ _ _ hW (lv_sub hl [1, 2, 3, 0, 5, 6] rfl)
                    refine lv_if_eq (tgt := 149) hx hb dX10_slideUp_142 (by decide) (fun hc => ?_) (fun hc => ?_)
                    · replace hd40 := if_t hc hd40
                      refine lv_iconst (v := 0) hx hb dX10_slideUp_149 (by decide) ?_
                      obtain rfl := Option.some.inj hd40
                      exact J41 _ _ _ hW (lv_sub hl [0, 1, 2, 4, 5, 6, 7] rfl)
                    · replace hd40 := if_f hc hd40
                      refine lv_iconst (v := 1) hx hb dX10_slideUp_145 (by decide) ?_
                      refine lv_goto (tgt := 150) hx hb dX10_slideUp_146 (by decide) ?_
                      obtain rfl := Option.some.inj hd40
                      exact J41 _ _ _ hW (lv_sub hl [0, 1, 2, 4, 5, 6, 7] rfl)
                  refine lv_if_eq (tgt := 133) hx hb dX10_slideUp_125 (by decide) (fun hc => ?_) (fun hc => ?_)
                  · replace hd35 := if_t hc hd35
                    refine lv_iload hx hb dX10_slideUp_133 (lv_at hl 9 rfl) ?_
                    obtain rfl := Option.some.inj hd35
                    exact J36 _ _ _ hW (lv_sub hl [1, 2, 3, 4, 5, 6, 7, 0] rfl)
                  · replace hd35 := if_f hc hd35
                    refine lv_iload hx hb dX10_slideUp_128 (lv_at hl 8 rfl) ?_
                    refine lv_goto (tgt := 135) hx hb dX10_slideUp_130 (by decide) ?_
                    obtain rfl := Option.some.inj hd35
                    exact J36 _ _ _ hW (lv_sub hl [1, 2, 3, 4, 5, 6, 7, 0] rfl)
                refine lv_icmp_lt (tgt := 114) hx hb dX10_slideUp_107 (by decide) (fun hc => ?_) (fun hc => ?_)
                · replace hd32 := if_t hc hd32
                  refine lv_iconst (v := 0) hx hb dX10_slideUp_114 (by decide) ?_
                  obtain rfl := Option.some.inj hd32
                  exact J33 _ _ _ hW (lv_sub hl [1, 2, 3, 4, 5, 6, 0, 7, 8] rfl)
                · replace hd32 := if_f hc hd32
                  refine lv_iconst (v := 1) hx hb dX10_slideUp_110 (by decide) ?_
                  refine lv_goto (tgt := 115) hx hb dX10_slideUp_111 (by decide) ?_
                  obtain rfl := Option.some.inj hd32
                  exact J33 _ _ _ hW (lv_sub hl [1, 2, 3, 4, 5, 6, 0, 7, 8] rfl)
            refine lv_icmp_gt (tgt := 91) hx hb dX10_slideUp_81 (by decide) (fun hc => ?_) (fun hc => ?_)
            · replace hd29 := if_t hc hd29
              refine lv_iconst (v := 1) hx hb dX10_slideUp_91 (by decide) ?_
              refine lv_goto (tgt := 96) hx hb dX10_slideUp_92 (by decide) ?_
              obtain rfl := Option.some.inj hd29
              exact J30 _ _ _ hW (lv_sub hl [1, 2, 3, 4, 5, 6, 7, 0] rfl)
            · replace hd29 := if_f hc hd29
              refine lv_iload hx hb dX10_slideUp_84 (lv_at hl 0 rfl) ?_
              refine lv_iload hx hb dX10_slideUp_86 (lv_at hl 6 rfl) ?_
              refine lv_icmp_le (tgt := 95) hx hb dX10_slideUp_88 (by decide) (fun hc => ?_) (fun hc => ?_)
              · replace hd29 := if_t hc hd29
                refine lv_iconst (v := 0) hx hb dX10_slideUp_95 (by decide) ?_
                obtain rfl := Option.some.inj hd29
                exact J30 _ _ _ hW (lv_sub hl [1, 2, 3, 4, 5, 6, 7, 0] rfl)
              · replace hd29 := if_f hc hd29
                refine lv_iconst (v := 1) hx hb dX10_slideUp_91 (by decide) ?_
                refine lv_goto (tgt := 96) hx hb dX10_slideUp_92 (by decide) ?_
                obtain rfl := Option.some.inj hd29
                exact J30 _ _ _ hW (lv_sub hl [1, 2, 3, 4, 5, 6, 7, 0] rfl)
          refine lv_if_le (tgt := 73) hx hb dX10_slideUp_56 (by decide) (fun hc => ?_) (fun hc => ?_)
          · replace hd24 := if_t hc hd24
            refine lv_bipush (v := (-9)) hx hb dX10_slideUp_73 (by decide) ?_
            obtain rfl := Option.some.inj hd24
            exact J25 _ _ _ hW (lv_sub hl [1, 2, 3, 4, 5, 6, 0] rfl)
          · replace hd24 := if_f hc hd24
            refine lv_aload_n hx hb dX10_slideUp_59 rfl (lv_at hl 2 rfl) ?_
            refine lv_iload_n hx hb dX10_slideUp_60 rfl (lv_at hl 3 rfl) ?_
            refine lv_iload hx hb dX10_slideUp_61 (lv_at hl 4 rfl) ?_
            refine lv_iload hx hb dX10_slideUp_63 (lv_at hl 5 rfl) ?_
            refine lv_iconst (v := 1) hx hb dX10_slideUp_65 (by decide) ?_
            refine lv_isub hx hb dX10_slideUp_66 ?_
            obtain ⟨v26, h27, hd24⟩ := bd1_s hd24
            refine k_callSR (As := [.ref r0, .int p1, .int i5, .int (i4 - 1)]) (n := 4) (rest := []) (st1 := [.int v26]) C hE hW hl.1 (kX10_get l D cI cZ cJ _ r0 w7 p1 i5 (i4 - 1) v26 h27) gX10_slideUp_X10_get rfl (by decide +kernel) rfl ⟨Nat.le_of_ble_eq_true rfl, Nat.le_of_ble_eq_true rfl⟩ ⟨Nat.zero_le _, Nat.zero_le _⟩ [1] rfl rfl (Nat.le_of_ble_eq_true rfl) rfl rfl dX10_slideUp_67 (fun H locs hW => ?_)
            refine lv_goto (tgt := 75) hx hb dX10_slideUp_70 (by decide) ?_
            obtain rfl := Option.some.inj hd24
            exact J25 _ _ _ hW (lv_sub hl [1, 2, 3, 4, 5, 6, 0] rfl)
        refine lv_if_le (tgt := 50) hx hb dX10_slideUp_33 (by decide) (fun hc => ?_) (fun hc => ?_)
        · replace hd19 := if_t hc hd19
          refine lv_bipush (v := (-9)) hx hb dX10_slideUp_50 (by decide) ?_
          obtain rfl := Option.some.inj hd19
          exact J20 _ _ _ hW (lv_sub hl [4, 5, 6, 3, 2, 1] rfl)
        · replace hd19 := if_f hc hd19
          refine lv_aload_n hx hb dX10_slideUp_36 rfl (lv_at hl 5 rfl) ?_
          refine lv_iload_n hx hb dX10_slideUp_37 rfl (lv_at hl 6 rfl) ?_
          refine lv_iload hx hb dX10_slideUp_38 (lv_at hl 3 rfl) ?_
          refine lv_iconst (v := 1) hx hb dX10_slideUp_40 (by decide) ?_
          refine lv_isub hx hb dX10_slideUp_41 ?_
          refine lv_iload hx hb dX10_slideUp_42 (lv_at hl 2 rfl) ?_
          obtain ⟨v21, h22, hd19⟩ := bd1_s hd19
          refine k_callSR (As := [.ref r0, .int p1, .int (i5 - 1), .int i4]) (n := 4) (rest := []) (st1 := [.int v21]) C hE hW hl.1 (kX10_get l D cI cZ cJ _ r0 w7 p1 (i5 - 1) i4 v21 h22) gX10_slideUp_X10_get rfl (by decide +kernel) rfl ⟨Nat.le_of_ble_eq_true rfl, Nat.le_of_ble_eq_true rfl⟩ ⟨Nat.zero_le _, Nat.zero_le _⟩ [1] rfl rfl (Nat.le_of_ble_eq_true rfl) rfl rfl dX10_slideUp_44 (fun H locs hW => ?_)
          refine lv_goto (tgt := 52) hx hb dX10_slideUp_47 (by decide) ?_
          obtain rfl := Option.some.inj hd19
          exact J20 _ _ _ hW (lv_sub hl [4, 5, 6, 3, 2, 1] rfl)
  exact L15 lpF _ _ _ _ _ hx130 _ _ _ hW (lv_sub hl [0, 1, 2, 3, 4, 5, 6] rfl)

set_option maxHeartbeats 4000000 in
set_option maxRecDepth 100000 in
theorem kX10_slideDown (l : Launch) (D : va_G) (cI cZ cJ : ClassId) (sz : Nat) (r0 : Nat) (u0 : Nat → Int32) (p1 : Int32) (p2 : Int32) (r : Int32) (u0' : Nat → Int32) (hf : pX10_slideDown u0 p1 p2 = some (r, u0')) : kMet l D cI cZ cJ yX10_slideDown wsX10_slideDown 3 70 [.ref r0, .int p1, .int p2] [(r0, .inl (cI, 84, .inl u0))] sz (some (.int r)) [(r0, .inl (cI, 84, .inl u0'))] := by
  refine kM_of (cc := cX10_slideDown) (maxL := 10) (ret := (some .int)) (by decide) rfl (Nat.le_of_ble_eq_true rfl) ?_
  intro p e s m args below meth c A Q ls hQ C hlocks hr hE hW hl
  have hx := C.1
  have hb := C.2.1
  have hts := C.2.2.2.2
  have hl : lv_has ls 10 [(0, .ref r0), (1, .int p1), (2, .int p2)] := hl
  unfold pX10_slideDown at hf
  refine lv_iload_n hx hb dX10_slideDown_0 rfl (lv_at hl 2 rfl) ?_
  refine lv_bipush (v := 10) hx hb dX10_slideDown_1 (by decide) ?_
  refine lv_idiv hx hb dX10_slideDown_3 (by decide) ?_
  refine lv_istore_n (lv' := [(3, .int (p2 / 10)), (0, .ref r0), (1, .int p1), (2, .int p2)]) hx hb dX10_slideDown_4 rfl hl (by decide) rfl (fun ls hl => ?_)
  refine lv_iload_n hx hb dX10_slideDown_5 rfl (lv_at hl 3 rfl) ?_
  refine lv_bipush (v := 10) hx hb dX10_slideDown_6 (by decide) ?_
  refine lv_irem hx hb dX10_slideDown_8 (by decide) ?_
  refine lv_istore (lv' := [(4, .int (irm p2 10)), (3, .int (p2 / 10)), (0, .ref r0), (1, .int p1), (2, .int p2)]) hx hb dX10_slideDown_9 hl (by decide) rfl (fun ls hl => ?_)
  refine lv_aload_n hx hb dX10_slideDown_11 rfl (lv_at hl 2 rfl) ?_
  refine lv_iload_n hx hb dX10_slideDown_12 rfl (lv_at hl 3 rfl) ?_
  refine lv_iload_n hx hb dX10_slideDown_13 rfl (lv_at hl 1 rfl) ?_
  refine lv_iload hx hb dX10_slideDown_14 (lv_at hl 0 rfl) ?_
  obtain ⟨v1, h2, hf⟩ := bd1_s hf
  refine k_callSR (As := [.ref r0, .int p1, .int (p2 / 10), .int (irm p2 10)]) (n := 4) (rest := []) (st1 := [.int v1]) C hE hW hl.1 (kX10_get l D cI cZ cJ _ r0 u0 p1 (p2 / 10) (irm p2 10) v1 h2) gX10_slideDown_X10_get rfl (by decide +kernel) rfl ⟨Nat.le_of_ble_eq_true rfl, Nat.le_of_ble_eq_true rfl⟩ ⟨Nat.zero_le _, Nat.zero_le _⟩ [0] rfl rfl (Nat.le_of_ble_eq_true rfl) rfl rfl dX10_slideDown_16 (fun H locs hW => ?_)
  refine lv_istore (lv' := [(5, .int v1), (4, .int (irm p2 10)), (3, .int (p2 / 10)), (0, .ref r0), (1, .int p1), (2, .int p2)]) hx hb dX10_slideDown_19 hl (by decide) rfl (fun ls hl => ?_)
  refine lv_iconst (v := 1) hx hb dX10_slideDown_21 (by decide) ?_
  refine lv_istore (lv' := [(6, .int 1), (5, .int v1), (4, .int (irm p2 10)), (3, .int (p2 / 10)), (0, .ref r0), (1, .int p1), (2, .int p2)]) hx hb dX10_slideDown_22 hl (by decide) rfl (fun ls hl => ?_)
  obtain ⟨⟨x7, x8, w9⟩, hx110, hf⟩ := bd1_s hf
  replace hf := un3_s hf
  have J12 : ∀ (H : Heap) (locs : List Loc) (ls : Array Slot), kH D A s H locs [(r0, .inl (cI, 84, .inl w9))] → lv_has ls 10 [(4, .int x7), (3, .int x8)] → W p l e (kRm 3 70 0 0) s m args below meth c H locs 0 0 Q (F0 m 192 ls []) := by
    intro H locs ls hW hl
    refine lv_bipush (v := 10) hx hb dX10_slideDown_192 (by decide) ?_
    refine lv_iload_n hx hb dX10_slideDown_194 rfl (lv_at hl 1 rfl) ?_
    refine lv_imul hx hb dX10_slideDown_195 ?_
    refine lv_iload hx hb dX10_slideDown_196 (lv_at hl 0 rfl) ?_
    refine lv_iadd hx hb dX10_slideDown_198 ?_
    obtain ⟨rfl, rfl⟩ := sm2 hf
    exact k_iret C hlocks hr hW hQ dX10_slideDown_199
  have L13 : ∀ (n : Nat) (i3 : Int32) (i4 : Int32) (i5 : Int32) (w6 : Nat → Int32), lpI n (un4 (pX10_slideDown_L24 p1 v1)) (i3, i4, i5, w6) = some (x7, x8, w9) → ∀ (H : Heap) (locs : List Loc) (ls : Array Slot), kH D A s H locs [(r0, .inl (cI, 84, .inl w6))] → lv_has ls 10 [(6, .int i3), (5, .int v1), (4, .int i4), (3, .int i5), (0, .ref r0), (1, .int p1)] → W p l e (kRm 3 70 0 0) s m args below meth c H locs 0 0 Q (F0 m 24 ls []) := by
    intro n
    induction n with
    | zero => intro i3 i4 i5 w6 hx11; exact (lpI_0 hx11).elim
    | succ n ih15 =>
      intro i3 i4 i5 w6 hx11 H locs ls hW hl
      obtain ⟨ooho10, ho10, hx11⟩ := lpI_s hx11
      replace ho10 := un4_s ho10
      unfold pX10_slideDown_L24 at ho10
      refine lv_iload hx hb dX10_slideDown_24 (lv_at hl 0 rfl) ?_
      refine lv_if_eq (tgt := 192) hx hb dX10_slideDown_26 (by decide) (fun hc => ?_) (fun hc => ?_)
      · replace ho10 := if_t hc ho10
        obtain rfl := Option.some.inj ho10
        obtain ⟨rfl, rfl, rfl⟩ := pr3 (lpK_r hx11)
        exact J12 _ _ _ hW (lv_sub hl [2, 3] rfl)
      · replace ho10 := if_f hc ho10
        refine lv_aload_n hx hb dX10_slideDown_29 rfl (lv_at hl 4 rfl) ?_
        refine lv_iload_n hx hb dX10_slideDown_30 rfl (lv_at hl 5 rfl) ?_
        refine lv_iload_n hx hb dX10_slideDown_31 rfl (lv_at hl 3 rfl) ?_
        refine lv_iconst (v := 1) hx hb dX10_slideDown_32 (by decide) ?_
        refine lv_iadd hx hb dX10_slideDown_33 ?_
        refine lv_iload hx hb dX10_slideDown_34 (lv_at hl 2 rfl) ?_
        obtain ⟨v16, h17, ho10⟩ := bd1_s ho10
        refine k_callSR (As := [.ref r0, .int p1, .int (i5 + 1), .int i4]) (n := 4) (rest := []) (st1 := [.int v16]) C hE hW hl.1 (kX10_isCell l D cI cZ cJ _ r0 w6 p1 (i5 + 1) i4 v16 h17) gX10_slideDown_X10_isCell rfl (by decide +kernel) rfl ⟨Nat.le_of_ble_eq_true rfl, Nat.le_of_ble_eq_true rfl⟩ ⟨Nat.zero_le _, Nat.zero_le _⟩ [0] rfl rfl (Nat.le_of_ble_eq_true rfl) rfl rfl dX10_slideDown_36 (fun H locs hW => ?_)
        obtain ⟨j18, hd19, ho10⟩ := bd1_s ho10
        have J20 : ∀ (H : Heap) (locs : List Loc) (ls : Array Slot), kH D A s H locs [(r0, .inl (cI, 84, .inl w6))] → lv_has ls 10 [(0, .ref r0), (1, .int p1), (3, .int i5), (4, .int i4), (5, .int v1)] → W p l e (kRm 3 70 0 0) s m args below meth c H locs 0 0 Q (F0 m 58 ls [.int j18]) := by
          intro H locs ls hW hl
          refine lv_istore (lv' := [(7, .int j18), (0, .ref r0), (1, .int p1), (3, .int i5), (4, .int i4), (5, .int v1)]) hx hb dX10_slideDown_58 hl (by decide) rfl (fun ls hl => ?_)
          refine lv_aload_n hx hb dX10_slideDown_60 rfl (lv_at hl 1 rfl) ?_
          refine lv_iload_n hx hb dX10_slideDown_61 rfl (lv_at hl 2 rfl) ?_
          refine lv_iload_n hx hb dX10_slideDown_62 rfl (lv_at hl 3 rfl) ?_
          refine lv_iload hx hb dX10_slideDown_63 (lv_at hl 4 rfl) ?_
          refine lv_iconst (v := 1) hx hb dX10_slideDown_65 (by decide) ?_
          refine lv_iadd hx hb dX10_slideDown_66 ?_
          obtain ⟨v23, h24, ho10⟩ := bd1_s ho10
          refine k_callSR (As := [.ref r0, .int p1, .int i5, .int (i4 + 1)]) (n := 4) (rest := []) (st1 := [.int v23]) C hE hW hl.1 (kX10_isCell l D cI cZ cJ _ r0 w6 p1 i5 (i4 + 1) v23 h24) gX10_slideDown_X10_isCell rfl (by decide +kernel) rfl ⟨Nat.le_of_ble_eq_true rfl, Nat.le_of_ble_eq_true rfl⟩ ⟨Nat.zero_le _, Nat.zero_le _⟩ [0] rfl rfl (Nat.le_of_ble_eq_true rfl) rfl rfl dX10_slideDown_67 (fun H locs hW => ?_)
          obtain ⟨j25, hd26, ho10⟩ := bd1_s ho10
          have J27 : ∀ (H : Heap) (locs : List Loc) (ls : Array Slot), kH D A s H locs [(r0, .inl (cI, 84, .inl w6))] → lv_has ls 10 [(0, .ref r0), (1, .int p1), (3, .int i5), (4, .int i4), (5, .int v1), (7, .int j18)] → W p l e (kRm 3 70 0 0) s m args below meth c H locs 0 0 Q (F0 m 89 ls [.int j25]) := by
            intro H locs ls hW hl
            refine lv_istore (lv' := [(8, .int j25), (0, .ref r0), (1, .int p1), (3, .int i5), (4, .int i4), (5, .int v1), (7, .int j18)]) hx hb dX10_slideDown_89 hl (by decide) rfl (fun ls hl => ?_)
            refine lv_iload hx hb dX10_slideDown_91 (lv_at hl 6 rfl) ?_
            refine lv_iload hx hb dX10_slideDown_93 (lv_at hl 5 rfl) ?_
            obtain ⟨j30, hd31, ho10⟩ := bd1_s ho10
            have J32 : ∀ (H : Heap) (locs : List Loc) (ls : Array Slot), kH D A s H locs [(r0, .inl (cI, 84, .inl w6))] → lv_has ls 10 [(0, .ref r0), (1, .int p1), (3, .int i5), (4, .int i4), (5, .int v1), (7, .int j18), (8, .int j25)] → W p l e (kRm 3 70 0 0) s m args below meth c H locs 0 0 Q (F0 m 110 ls [.int j30]) := by
              intro H locs ls hW hl
              refine lv_istore (lv' := [(6, .int j30), (0, .ref r0), (1, .int p1), (3, .int i5), (4, .int i4), (5, .int v1), (7, .int j18), (8, .int j25)]) hx hb dX10_slideDown_110 hl (by decide) rfl (fun ls hl => ?_)
              refine lv_iload hx hb dX10_slideDown_112 (lv_at hl 0 rfl) ?_
              refine lv_if_eq (tgt := 189) hx hb dX10_slideDown_114 (by decide) (fun hc => ?_) (fun hc => ?_)
              · replace ho10 := if_t hc ho10
                refine lv_goto (tgt := 24) hx hb dX10_slideDown_189 (by decide) ?_
                obtain rfl := Option.some.inj ho10
                exact ih15 _ _ _ _ hx11 _ _ _ hW (lv_sub hl [0, 5, 4, 3, 1, 2] rfl)
              · replace ho10 := if_f hc ho10
                refine lv_iload hx hb dX10_slideDown_117 (lv_at hl 6 rfl) ?_
                refine lv_iload hx hb dX10_slideDown_119 (lv_at hl 7 rfl) ?_
                obtain ⟨j33, hd34, ho10⟩ := bd1_s ho10
                have J35 : ∀ (H : Heap) (locs : List Loc) (ls : Array Slot), kH D A s H locs [(r0, .inl (cI, 84, .inl w6))] → lv_has ls 10 [(0, .ref r0), (1, .int p1), (3, .int i5), (4, .int i4), (5, .int v1), (6, .int j30), (7, .int j18), (8, .int j25)] → W p l e (kRm 3 70 0 0) s m args below meth c H locs 0 0 Q (F0 m 129 ls [.int j33]) := by
                  intro H locs ls hW hl
                  refine lv_istore (lv' := [(9, .int j33), (0, .ref r0), (1, .int p1), (3, .int i5), (4, .int i4), (5, .int v1), (6, .int j30), (7, .int j18), (8, .int j25)]) hx hb dX10_slideDown_129 hl (by decide) rfl (fun ls hl => ?_)
                  refine lv_aload_n hx hb dX10_slideDown_131 rfl (lv_at hl 1 rfl) ?_
                  refine lv_iload_n hx hb dX10_slideDown_132 rfl (lv_at hl 2 rfl) ?_
                  refine lv_iload_n hx hb dX10_slideDown_133 rfl (lv_at hl 3 rfl) ?_
                  refine lv_iload hx hb dX10_slideDown_134 (lv_at hl 4 rfl) ?_
                  refine lv_iload hx hb dX10_slideDown_136 (lv_at hl 0 rfl) ?_
                  obtain ⟨j36, hd37, ho10⟩ := bd1_s ho10
                  have J38 : ∀ (H : Heap) (locs : List Loc) (ls : Array Slot), kH D A s H locs [(r0, .inl (cI, 84, .inl w6))] → lv_has ls 10 [(0, .ref r0), (1, .int p1), (3, .int i5), (4, .int i4), (5, .int v1), (6, .int j30), (9, .int j33)] → W p l e (kRm 3 70 0 0) s m args below meth c H locs 0 0 Q (F0 m 148 ls [.int j36, .int i4, .int i5, .int p1, .ref r0]) := by
                    intro H locs ls hW hl
                    obtain ⟨w39, h40, ho10⟩ := bd1_s ho10
                    refine k_callS (As := [.ref r0, .int p1, .int i5, .int i4, .int j36]) (n := 5) (rest := []) (st1 := []) (wr := []) (ws' := [(r0, .inl (cI, 84, .inl w39))]) C hE hW hl.1 (kX10_set l D cI cZ cJ _ r0 w6 p1 i5 i4 j36 w39 h40) gX10_slideDown_X10_set rfl (by decide +kernel) rfl ⟨Nat.le_of_ble_eq_true rfl, Nat.le_of_ble_eq_true rfl⟩ ⟨Nat.zero_le _, Nat.zero_le _⟩ [0] [] [0] rfl rfl rfl rfl (by decide) rfl rfl (Nat.le_of_ble_eq_true rfl) rfl rfl dX10_slideDown_148 (fun H locs hW => ?_)
                    refine lv_iload_n hx hb dX10_slideDown_151 rfl (lv_at hl 2 rfl) ?_
                    refine lv_iload hx hb dX10_slideDown_152 (lv_at hl 6 rfl) ?_
                    obtain ⟨j41, hd42, ho10⟩ := bd1_s ho10
                    have J43 : ∀ (H : Heap) (locs : List Loc) (ls : Array Slot), kH D A s H locs [(r0, .inl (cI, 84, .inl w39))] → lv_has ls 10 [(0, .ref r0), (1, .int p1), (4, .int i4), (5, .int v1), (6, .int j30), (9, .int j33)] → W p l e (kRm 3 70 0 0) s m args below meth c H locs 0 0 Q (F0 m 162 ls [.int j41, .int i5]) := by
                      intro H locs ls hW hl
                      refine lv_iadd hx hb dX10_slideDown_162 ?_
                      refine lv_istore_n (lv' := [(3, .int (i5 + j41)), (0, .ref r0), (1, .int p1), (4, .int i4), (5, .int v1), (6, .int j30), (9, .int j33)]) hx hb dX10_slideDown_163 rfl hl (by decide) rfl (fun ls hl => ?_)
                      refine lv_iload hx hb dX10_slideDown_164 (lv_at hl 3 rfl) ?_
                      refine lv_iload hx hb dX10_slideDown_166 (lv_at hl 6 rfl) ?_
                      obtain ⟨j44, hd45, ho10⟩ := bd1_s ho10
                      have J46 : ∀ (H : Heap) (locs : List Loc) (ls : Array Slot), kH D A s H locs [(r0, .inl (cI, 84, .inl w39))] → lv_has ls 10 [(0, .ref r0), (1, .int p1), (3, .int (i5 + j41)), (5, .int v1), (6, .int j30)] → W p l e (kRm 3 70 0 0) s m args below meth c H locs 0 0 Q (F0 m 176 ls [.int j44, .int i4]) := by
                        intro H locs ls hW hl
                        refine lv_iadd hx hb dX10_slideDown_176 ?_
                        refine lv_istore (lv' := [(4, .int (i4 + j44)), (0, .ref r0), (1, .int p1), (3, .int (i5 + j41)), (5, .int v1), (6, .int j30)]) hx hb dX10_slideDown_177 hl (by decide) rfl (fun ls hl => ?_)
                        refine lv_aload_n hx hb dX10_slideDown_179 rfl (lv_at hl 1 rfl) ?_
                        refine lv_iload_n hx hb dX10_slideDown_180 rfl (lv_at hl 2 rfl) ?_
                        refine lv_iload_n hx hb dX10_slideDown_181 rfl (lv_at hl 3 rfl) ?_
                        refine lv_iload hx hb dX10_slideDown_182 (lv_at hl 0 rfl) ?_
                        refine lv_iload hx hb dX10_slideDown_184 (lv_at hl 4 rfl) ?_
                        obtain ⟨w47, h48, ho10⟩ := bd1_s ho10
                        refine k_callS (As := [.ref r0, .int p1, .int (i5 + j41), .int (i4 + j44), .int v1]) (n := 5) (rest := []) (st1 := []) (wr := []) (ws' := [(r0, .inl (cI, 84, .inl w47))]) C hE hW hl.1 (kX10_set l D cI cZ cJ _ r0 w39 p1 (i5 + j41) (i4 + j44) v1 w47 h48) gX10_slideDown_X10_set rfl (by decide +kernel) rfl ⟨Nat.le_of_ble_eq_true rfl, Nat.le_of_ble_eq_true rfl⟩ ⟨Nat.zero_le _, Nat.zero_le _⟩ [0] [] [0] rfl rfl rfl rfl (by decide) rfl rfl (Nat.le_of_ble_eq_true rfl) rfl rfl dX10_slideDown_186 (fun H locs hW => ?_)
                        refine lv_goto (tgt := 24) hx hb dX10_slideDown_189 (by decide) ?_
                        obtain rfl := Option.some.inj ho10
                        exact ih15 _ _ _ _ hx11 _ _ _ hW (lv_sub hl [5, 4, 0, 3, 1, 2] rfl)
                      refine lv_if_eq (tgt := 175) hx hb dX10_slideDown_168 (by decide) (fun hc => ?_) (fun hc => ?_)
                      · replace hd45 := if_t hc hd45
                        refine lv_iconst (v := 1) hx hb dX10_slideDown_175 (by decide) ?_
                        obtain rfl := Option.some.inj hd45
                        exact J46 _ _ _ hW (lv_sub hl [1, 2, 0, 4, 5] rfl)
                      · replace hd45 := if_f hc hd45
                        refine lv_iconst (v := 0) hx hb dX10_slideDown_171 (by decide) ?_
                        refine lv_goto (tgt := 176) hx hb dX10_slideDown_172 (by decide) ?_
                        obtain rfl := Option.some.inj hd45
                        exact J46 _ _ _ hW (lv_sub hl [1, 2, 0, 4, 5] rfl)
                    refine lv_if_eq (tgt := 161) hx hb dX10_slideDown_154 (by decide) (fun hc => ?_) (fun hc => ?_)
                    · replace hd42 := if_t hc hd42
                      refine lv_iconst (v := 0) hx hb dX10_slideDown_161 (by decide) ?_
                      obtain rfl := Option.some.inj hd42
                      exact J43 _ _ _ hW (lv_sub hl [0, 1, 3, 4, 5, 6] rfl)
                    · replace hd42 := if_f hc hd42
                      refine lv_iconst (v := 1) hx hb dX10_slideDown_157 (by decide) ?_
                      refine lv_goto (tgt := 162) hx hb dX10_slideDown_158 (by decide) ?_
                      obtain rfl := Option.some.inj hd42
                      exact J43 _ _ _ hW (lv_sub hl [0, 1, 3, 4, 5, 6] rfl)
                  refine lv_if_eq (tgt := 146) hx hb dX10_slideDown_138 (by decide) (fun hc => ?_) (fun hc => ?_)
                  · replace hd37 := if_t hc hd37
                    refine lv_iload hx hb dX10_slideDown_146 (lv_at hl 8 rfl) ?_
                    obtain rfl := Option.some.inj hd37
                    exact J38 _ _ _ hW (lv_sub hl [1, 2, 3, 4, 5, 6, 0] rfl)
                  · replace hd37 := if_f hc hd37
                    refine lv_iload hx hb dX10_slideDown_141 (lv_at hl 7 rfl) ?_
                    refine lv_goto (tgt := 148) hx hb dX10_slideDown_143 (by decide) ?_
                    obtain rfl := Option.some.inj hd37
                    exact J38 _ _ _ hW (lv_sub hl [1, 2, 3, 4, 5, 6, 0] rfl)
                refine lv_icmp_gt (tgt := 128) hx hb dX10_slideDown_121 (by decide) (fun hc => ?_) (fun hc => ?_)
                · replace hd34 := if_t hc hd34
                  refine lv_iconst (v := 0) hx hb dX10_slideDown_128 (by decide) ?_
                  obtain rfl := Option.some.inj hd34
                  exact J35 _ _ _ hW (lv_sub hl [1, 2, 3, 4, 5, 0, 6, 7] rfl)
                · replace hd34 := if_f hc hd34
                  refine lv_iconst (v := 1) hx hb dX10_slideDown_124 (by decide) ?_
                  refine lv_goto (tgt := 129) hx hb dX10_slideDown_125 (by decide) ?_
                  obtain rfl := Option.some.inj hd34
                  exact J35 _ _ _ hW (lv_sub hl [1, 2, 3, 4, 5, 0, 6, 7] rfl)
            refine lv_icmp_lt (tgt := 105) hx hb dX10_slideDown_95 (by decide) (fun hc => ?_) (fun hc => ?_)
            · replace hd31 := if_t hc hd31
              refine lv_iconst (v := 1) hx hb dX10_slideDown_105 (by decide) ?_
              refine lv_goto (tgt := 110) hx hb dX10_slideDown_106 (by decide) ?_
              obtain rfl := Option.some.inj hd31
              exact J32 _ _ _ hW (lv_sub hl [1, 2, 3, 4, 5, 6, 0] rfl)
            · replace hd31 := if_f hc hd31
              refine lv_iload hx hb dX10_slideDown_98 (lv_at hl 0 rfl) ?_
              refine lv_iload hx hb dX10_slideDown_100 (lv_at hl 5 rfl) ?_
              refine lv_icmp_ge (tgt := 109) hx hb dX10_slideDown_102 (by decide) (fun hc => ?_) (fun hc => ?_)
              · replace hd31 := if_t hc hd31
                refine lv_iconst (v := 0) hx hb dX10_slideDown_109 (by decide) ?_
                obtain rfl := Option.some.inj hd31
                exact J32 _ _ _ hW (lv_sub hl [1, 2, 3, 4, 5, 6, 0] rfl)
              · replace hd31 := if_f hc hd31
                refine lv_iconst (v := 1) hx hb dX10_slideDown_105 (by decide) ?_
                refine lv_goto (tgt := 110) hx hb dX10_slideDown_106 (by decide) ?_
                obtain rfl := Option.some.inj hd31
                exact J32 _ _ _ hW (lv_sub hl [1, 2, 3, 4, 5, 6, 0] rfl)
          refine lv_if_eq (tgt := 86) hx hb dX10_slideDown_70 (by decide) (fun hc => ?_) (fun hc => ?_)
          · replace hd26 := if_t hc hd26
            refine lv_sipush (v := 1000) hx hb dX10_slideDown_86 (by decide) ?_
            obtain rfl := Option.some.inj hd26
            exact J27 _ _ _ hW (lv_sub hl [1, 2, 3, 4, 5, 0] rfl)
          · replace hd26 := if_f hc hd26
            refine lv_aload_n hx hb dX10_slideDown_73 rfl (lv_at hl 1 rfl) ?_
            refine lv_iload_n hx hb dX10_slideDown_74 rfl (lv_at hl 2 rfl) ?_
            refine lv_iload_n hx hb dX10_slideDown_75 rfl (lv_at hl 3 rfl) ?_
            refine lv_iload hx hb dX10_slideDown_76 (lv_at hl 4 rfl) ?_
            refine lv_iconst (v := 1) hx hb dX10_slideDown_78 (by decide) ?_
            refine lv_iadd hx hb dX10_slideDown_79 ?_
            obtain ⟨v28, h29, hd26⟩ := bd1_s hd26
            refine k_callSR (As := [.ref r0, .int p1, .int i5, .int (i4 + 1)]) (n := 4) (rest := []) (st1 := [.int v28]) C hE hW hl.1 (kX10_get l D cI cZ cJ _ r0 w6 p1 i5 (i4 + 1) v28 h29) gX10_slideDown_X10_get rfl (by decide +kernel) rfl ⟨Nat.le_of_ble_eq_true rfl, Nat.le_of_ble_eq_true rfl⟩ ⟨Nat.zero_le _, Nat.zero_le _⟩ [0] rfl rfl (Nat.le_of_ble_eq_true rfl) rfl rfl dX10_slideDown_80 (fun H locs hW => ?_)
            refine lv_goto (tgt := 89) hx hb dX10_slideDown_83 (by decide) ?_
            obtain rfl := Option.some.inj hd26
            exact J27 _ _ _ hW (lv_sub hl [1, 2, 3, 4, 5, 0] rfl)
        refine lv_if_eq (tgt := 55) hx hb dX10_slideDown_39 (by decide) (fun hc => ?_) (fun hc => ?_)
        · replace hd19 := if_t hc hd19
          refine lv_sipush (v := 1000) hx hb dX10_slideDown_55 (by decide) ?_
          obtain rfl := Option.some.inj hd19
          exact J20 _ _ _ hW (lv_sub hl [4, 5, 3, 2, 1] rfl)
        · replace hd19 := if_f hc hd19
          refine lv_aload_n hx hb dX10_slideDown_42 rfl (lv_at hl 4 rfl) ?_
          refine lv_iload_n hx hb dX10_slideDown_43 rfl (lv_at hl 5 rfl) ?_
          refine lv_iload_n hx hb dX10_slideDown_44 rfl (lv_at hl 3 rfl) ?_
          refine lv_iconst (v := 1) hx hb dX10_slideDown_45 (by decide) ?_
          refine lv_iadd hx hb dX10_slideDown_46 ?_
          refine lv_iload hx hb dX10_slideDown_47 (lv_at hl 2 rfl) ?_
          obtain ⟨v21, h22, hd19⟩ := bd1_s hd19
          refine k_callSR (As := [.ref r0, .int p1, .int (i5 + 1), .int i4]) (n := 4) (rest := []) (st1 := [.int v21]) C hE hW hl.1 (kX10_get l D cI cZ cJ _ r0 w6 p1 (i5 + 1) i4 v21 h22) gX10_slideDown_X10_get rfl (by decide +kernel) rfl ⟨Nat.le_of_ble_eq_true rfl, Nat.le_of_ble_eq_true rfl⟩ ⟨Nat.zero_le _, Nat.zero_le _⟩ [0] rfl rfl (Nat.le_of_ble_eq_true rfl) rfl rfl dX10_slideDown_49 (fun H locs hW => ?_)
          refine lv_goto (tgt := 58) hx hb dX10_slideDown_52 (by decide) ?_
          obtain rfl := Option.some.inj hd19
          exact J20 _ _ _ hW (lv_sub hl [4, 5, 3, 2, 1] rfl)
  exact L13 lpF _ _ _ _ hx110 _ _ _ hW (lv_sub hl [0, 1, 2, 3, 4, 5] rfl)

set_option maxHeartbeats 4000000 in
set_option maxRecDepth 100000 in
theorem kX10_insertOn (l : Launch) (D : va_G) (cI cZ cJ : ClassId) (sz : Nat) (q r0 q_script q_readRow q_now q_trial q_diary q_kept q_isKept q_sums q_primes q_turned : Nat) (u_refusal : Int32) (u_scriptSize : Int32) (u_spot : Int32) (u_acts : Int32) (u_slides : Int32) (u0 : Nat → Int32) (p1 : Int32) (p2 : Int32) (r : Int32) (u_slides' : Int32) (u0' : Nat → Int32) (hf : pX10_insertOn u_slides u0 p1 p2 = some (r, u_slides', u0')) : kMet l D cI cZ cJ yX10_insertOn wsX10_insertOn 4 93 [.ref q, .ref r0, .int p1, .int p2] [(q, .inr (9, [.int u_refusal, .ref q_script, .int u_scriptSize, .int u_spot, .ref q_readRow, .ref q_now, .ref q_trial, .ref q_diary, .int u_acts, .ref q_kept, .ref q_isKept, .int u_slides, .ref q_sums, .ref q_primes, .ref q_turned])), (r0, .inl (cI, 84, .inl u0))] sz (some (.int r)) [(q, .inr (9, [.int u_refusal, .ref q_script, .int u_scriptSize, .int u_spot, .ref q_readRow, .ref q_now, .ref q_trial, .ref q_diary, .int u_acts, .ref q_kept, .ref q_isKept, .int u_slides', .ref q_sums, .ref q_primes, .ref q_turned])), (r0, .inl (cI, 84, .inl u0'))] := by
  refine kM_of (cc := cX10_insertOn) (maxL := 6) (ret := (some .int)) (by decide) rfl (Nat.le_of_ble_eq_true rfl) ?_
  intro p e s m args below meth c A Q ls hQ C hlocks hr hE hW hl
  have hx := C.1
  have hb := C.2.1
  have hts := C.2.2.2.2
  have hl : lv_has ls 6 [(0, .ref q), (1, .ref r0), (2, .int p1), (3, .int p2)] := hl
  have iX10 : ∀ w ∈ u_ws RX10 TX10 15, w ∈ wsX10_insertOn := by decide +kernel
  have f84 := hts (.fieldLink RX10 84 "SortedTablesModel" "slides" "I") (by decide +kernel)
  unfold pX10_insertOn at hf
  refine lv_aload_n hx hb dX10_insertOn_0 rfl (lv_at hl 1 rfl) ?_
  refine lv_iload_n hx hb dX10_insertOn_1 rfl (lv_at hl 2 rfl) ?_
  obtain ⟨v1, h2, hf⟩ := bd1_s hf
  refine k_callSR (As := [.ref r0, .int p1]) (n := 2) (rest := []) (st1 := [.int v1]) C hE hW hl.1 (kX10_gapRow l D cI cZ cJ _ r0 u0 p1 v1 h2) gX10_insertOn_X10_gapRow rfl (by decide +kernel) rfl ⟨Nat.le_of_ble_eq_true rfl, Nat.le_of_ble_eq_true rfl⟩ ⟨Nat.zero_le _, Nat.zero_le _⟩ [1] rfl rfl (Nat.le_of_ble_eq_true rfl) rfl rfl dX10_insertOn_2 (fun H locs hW => ?_)
  refine lv_istore (lv' := [(4, .int v1), (0, .ref q), (1, .ref r0), (2, .int p1), (3, .int p2)]) hx hb dX10_insertOn_5 hl (by decide) rfl (fun ls hl => ?_)
  refine lv_aload_n hx hb dX10_insertOn_7 rfl (lv_at hl 2 rfl) ?_
  refine lv_iload_n hx hb dX10_insertOn_8 rfl (lv_at hl 3 rfl) ?_
  refine lv_iload hx hb dX10_insertOn_9 (lv_at hl 0 rfl) ?_
  obtain ⟨v3, h4, hf⟩ := bd1_s hf
  refine k_callSR (As := [.ref r0, .int p1, .int v1]) (n := 3) (rest := []) (st1 := [.int v3]) C hE hW hl.1 (kX10_length l D cI cZ cJ _ r0 u0 p1 v1 v3 h4) gX10_insertOn_X10_length rfl (by decide +kernel) rfl ⟨Nat.le_of_ble_eq_true rfl, Nat.le_of_ble_eq_true rfl⟩ ⟨Nat.zero_le _, Nat.zero_le _⟩ [1] rfl rfl (Nat.le_of_ble_eq_true rfl) rfl rfl dX10_insertOn_11 (fun H locs hW => ?_)
  refine lv_istore (lv' := [(5, .int v3), (4, .int v1), (0, .ref q), (1, .ref r0), (2, .int p1), (3, .int p2)]) hx hb dX10_insertOn_14 hl (by decide) rfl (fun ls hl => ?_)
  refine lv_aload_n hx hb dX10_insertOn_16 rfl (lv_at hl 3 rfl) ?_
  refine lv_bipush (v := 42) hx hb dX10_insertOn_17 (by decide) ?_
  refine lv_iload_n hx hb dX10_insertOn_19 rfl (lv_at hl 4 rfl) ?_
  refine lv_imul hx hb dX10_insertOn_20 ?_
  refine lv_bipush (v := 36) hx hb dX10_insertOn_21 (by decide) ?_
  refine lv_iadd hx hb dX10_insertOn_23 ?_
  refine lv_iload hx hb dX10_insertOn_24 (lv_at hl 1 rfl) ?_
  refine lv_iadd hx hb dX10_insertOn_26 ?_
  refine lv_dup2_11 hx hb dX10_insertOn_27 rfl rfl ?_
  obtain ⟨v5, h6, hf⟩ := bd1_s hf
  refine k_iald C hE hW 1 rfl h6 dX10_insertOn_28 ?_
  refine lv_iconst (v := 1) hx hb dX10_insertOn_29 (by decide) ?_
  refine lv_iadd hx hb dX10_insertOn_30 ?_
  obtain ⟨w7, h8, hf⟩ := bd1_s hf
  refine k_iast (ws' := [(q, .inr (9, [.int u_refusal, .ref q_script, .int u_scriptSize, .int u_spot, .ref q_readRow, .ref q_now, .ref q_trial, .ref q_diary, .int u_acts, .ref q_kept, .ref q_isKept, .int u_slides, .ref q_sums, .ref q_primes, .ref q_turned])), (r0, .inl (cI, 84, .inl w7))]) C hE hW 1 rfl h8 rfl dX10_insertOn_31 (fun H locs hW => ?_)
  refine lv_aload_n hx hb dX10_insertOn_32 rfl (lv_at hl 3 rfl) ?_
  refine lv_iload_n hx hb dX10_insertOn_33 rfl (lv_at hl 4 rfl) ?_
  refine lv_iload hx hb dX10_insertOn_34 (lv_at hl 1 rfl) ?_
  refine lv_iload hx hb dX10_insertOn_36 (lv_at hl 0 rfl) ?_
  refine lv_iload_n hx hb dX10_insertOn_38 rfl (lv_at hl 5 rfl) ?_
  obtain ⟨w9, h10, hf⟩ := bd1_s hf
  refine k_callS (As := [.ref r0, .int p1, .int v1, .int v3, .int p2]) (n := 5) (rest := []) (st1 := []) (wr := [(q, .inr (9, [.int u_refusal, .ref q_script, .int u_scriptSize, .int u_spot, .ref q_readRow, .ref q_now, .ref q_trial, .ref q_diary, .int u_acts, .ref q_kept, .ref q_isKept, .int u_slides, .ref q_sums, .ref q_primes, .ref q_turned]))]) (ws' := [(q, .inr (9, [.int u_refusal, .ref q_script, .int u_scriptSize, .int u_spot, .ref q_readRow, .ref q_now, .ref q_trial, .ref q_diary, .int u_acts, .ref q_kept, .ref q_isKept, .int u_slides, .ref q_sums, .ref q_primes, .ref q_turned])), (r0, .inl (cI, 84, .inl w9))]) C hE hW hl.1 (kX10_set l D cI cZ cJ _ r0 w7 p1 v1 v3 p2 w9 h10) gX10_insertOn_X10_set rfl (by decide +kernel) rfl ⟨Nat.le_of_ble_eq_true rfl, Nat.le_of_ble_eq_true rfl⟩ ⟨Nat.zero_le _, Nat.zero_le _⟩ [1] [0] [0, 1] rfl rfl rfl rfl (by decide) rfl rfl (Nat.le_of_ble_eq_true rfl) rfl rfl dX10_insertOn_39 (fun H locs hW => ?_)
  refine lv_aload_n hx hb dX10_insertOn_42 rfl (lv_at hl 2 rfl) ?_
  refine lv_iconst (v := 0) hx hb dX10_insertOn_43 (by decide) ?_
  refine k_put (v := .int 0) (ty := .int) (ws' := [(q, .inr (9, [.int u_refusal, .ref q_script, .int u_scriptSize, .int u_spot, .ref q_readRow, .ref q_now, .ref q_trial, .ref q_diary, .int u_acts, .ref q_kept, .ref q_isKept, .int 0, .ref q_sums, .ref q_primes, .ref q_turned])), (r0, .inl (cI, 84, .inl w9))]) C hE hW iX10 tyX10_ok nmX10 0 rfl rfl 11 (by decide) f84 (fun _ h9 => h9) rfl (by decide +kernel) rfl rfl (Nat.le_of_ble_eq_true rfl) rfl dX10_insertOn_44 (fun H locs hW => ?_)
  refine lv_aload_n hx hb dX10_insertOn_47 rfl (lv_at hl 2 rfl) ?_
  refine lv_aload_n hx hb dX10_insertOn_48 rfl (lv_at hl 3 rfl) ?_
  refine lv_iload_n hx hb dX10_insertOn_49 rfl (lv_at hl 4 rfl) ?_
  refine lv_bipush (v := 10) hx hb dX10_insertOn_50 (by decide) ?_
  refine lv_iload hx hb dX10_insertOn_52 (lv_at hl 1 rfl) ?_
  refine lv_imul hx hb dX10_insertOn_54 ?_
  refine lv_iload hx hb dX10_insertOn_55 (lv_at hl 0 rfl) ?_
  refine lv_iadd hx hb dX10_insertOn_57 ?_
  obtain ⟨⟨v11, w12, w13⟩, h14, hf⟩ := bd1_s hf
  replace hf := un3_s hf
  refine k_callV (b := q) (ci := 9) (qb := 0) (As := [.ref r0, .int p1, .int ((10 * v1) + v3)]) (n := 3) (rest := []) (st1 := [.int v11]) (wr := []) (ws' := [(q, .inr (9, [.int u_refusal, .ref q_script, .int u_scriptSize, .int u_spot, .ref q_readRow, .ref q_now, .ref q_trial, .ref q_diary, .int u_acts, .ref q_kept, .ref q_isKept, .int w12, .ref q_sums, .ref q_primes, .ref q_turned])), (r0, .inl (cI, 84, .inl w13))]) C hE hW hl.1 (kX10_slideUp l D cI cZ cJ _ q r0 q_script q_readRow q_now q_trial q_diary q_kept q_isKept q_sums q_primes q_turned u_refusal u_scriptSize u_spot u_acts 0 w9 p1 ((10 * v1) + v3) v11 w12 w13 h14) gX10_insertOn_X10_slideUp rfl (by decide +kernel) rfl ⟨Nat.le_of_ble_eq_true rfl, Nat.le_of_ble_eq_true rfl⟩ ⟨Nat.zero_le _, Nat.zero_le _⟩ rfl rfl [0, 1] [] [0, 1] rfl rfl rfl rfl (by decide) rfl rfl (Nat.le_of_ble_eq_true rfl) rfl rfl dX10_insertOn_58 (fun H locs hW => ?_)
  obtain ⟨rfl, rfl, rfl⟩ := sm3 hf
  exact k_iret C hlocks hr hW hQ dX10_insertOn_61

set_option maxHeartbeats 4000000 in
set_option maxRecDepth 100000 in
theorem kX10_removeOn (l : Launch) (D : va_G) (cI cZ cJ : ClassId) (sz : Nat) (r0 : Nat) (u0 : Nat → Int32) (p1 : Int32) (p2 : Int32) (p3 : Int32) (r : Int32) (u0' : Nat → Int32) (hf : pX10_removeOn u0 p1 p2 p3 = some (r, u0')) : kMet l D cI cZ cJ yX10_removeOn wsX10_removeOn 3 70 [.ref r0, .int p1, .int p2, .int p3] [(r0, .inl (cI, 84, .inl u0))] sz (some (.int r)) [(r0, .inl (cI, 84, .inl u0'))] := by
  refine kM_of (cc := cX10_removeOn) (maxL := 9) (ret := (some .int)) (by decide) rfl (Nat.le_of_ble_eq_true rfl) ?_
  intro p e s m args below meth c A Q ls hQ C hlocks hr hE hW hl
  have hx := C.1
  have hb := C.2.1
  have hts := C.2.2.2.2
  have hl : lv_has ls 9 [(0, .ref r0), (1, .int p1), (2, .int p2), (3, .int p3)] := hl
  unfold pX10_removeOn at hf
  refine lv_iload_n hx hb dX10_removeOn_0 rfl (lv_at hl 2 rfl) ?_
  refine lv_istore (lv' := [(4, .int p2), (0, .ref r0), (1, .int p1), (2, .int p2), (3, .int p3)]) hx hb dX10_removeOn_1 hl (by decide) rfl (fun ls hl => ?_)
  refine lv_iload_n hx hb dX10_removeOn_3 rfl (lv_at hl 4 rfl) ?_
  refine lv_istore (lv' := [(5, .int p3), (4, .int p2), (0, .ref r0), (1, .int p1), (2, .int p2), (3, .int p3)]) hx hb dX10_removeOn_4 hl (by decide) rfl (fun ls hl => ?_)
  obtain ⟨⟨x4, x5, w6⟩, hx80, hf⟩ := bd1_s hf
  replace hf := un3_s hf
  have J9 : ∀ (H : Heap) (locs : List Loc) (ls : Array Slot), kH D A s H locs [(r0, .inl (cI, 84, .inl w6))] → lv_has ls 9 [(5, .int x4), (4, .int x5), (0, .ref r0), (1, .int p1)] → W p l e (kRm 3 70 0 0) s m args below meth c H locs 0 0 Q (F0 m 168 ls []) := by
    intro H locs ls hW hl
    refine lv_aload_n hx hb dX10_removeOn_168 rfl (lv_at hl 2 rfl) ?_
    refine lv_bipush (v := 42) hx hb dX10_removeOn_169 (by decide) ?_
    refine lv_iload_n hx hb dX10_removeOn_171 rfl (lv_at hl 3 rfl) ?_
    refine lv_imul hx hb dX10_removeOn_172 ?_
    refine lv_bipush (v := 36) hx hb dX10_removeOn_173 (by decide) ?_
    refine lv_iadd hx hb dX10_removeOn_175 ?_
    refine lv_iload hx hb dX10_removeOn_176 (lv_at hl 1 rfl) ?_
    refine lv_iadd hx hb dX10_removeOn_178 ?_
    refine lv_dup2_11 hx hb dX10_removeOn_179 rfl rfl ?_
    obtain ⟨v67, h68, hf⟩ := bd1_s hf
    refine k_iald C hE hW 0 rfl h68 dX10_removeOn_180 ?_
    refine lv_iconst (v := 1) hx hb dX10_removeOn_181 (by decide) ?_
    refine lv_isub hx hb dX10_removeOn_182 ?_
    obtain ⟨w69, h70, hf⟩ := bd1_s hf
    refine k_iast (ws' := [(r0, .inl (cI, 84, .inl w69))]) C hE hW 0 rfl h70 rfl dX10_removeOn_183 (fun H locs hW => ?_)
    refine lv_aload_n hx hb dX10_removeOn_184 rfl (lv_at hl 2 rfl) ?_
    refine lv_iload_n hx hb dX10_removeOn_185 rfl (lv_at hl 3 rfl) ?_
    refine lv_iload hx hb dX10_removeOn_186 (lv_at hl 1 rfl) ?_
    refine lv_iload hx hb dX10_removeOn_188 (lv_at hl 0 rfl) ?_
    refine lv_iconst (v := 0) hx hb dX10_removeOn_190 (by decide) ?_
    obtain ⟨w71, h72, hf⟩ := bd1_s hf
    refine k_callS (As := [.ref r0, .int p1, .int x5, .int x4, .int 0]) (n := 5) (rest := []) (st1 := []) (wr := []) (ws' := [(r0, .inl (cI, 84, .inl w71))]) C hE hW hl.1 (kX10_set l D cI cZ cJ _ r0 w69 p1 x5 x4 0 w71 h72) gX10_removeOn_X10_set rfl (by decide +kernel) rfl ⟨Nat.le_of_ble_eq_true rfl, Nat.le_of_ble_eq_true rfl⟩ ⟨Nat.zero_le _, Nat.zero_le _⟩ [0] [] [0] rfl rfl rfl rfl (by decide) rfl rfl (Nat.le_of_ble_eq_true rfl) rfl rfl dX10_removeOn_191 (fun H locs hW => ?_)
    refine lv_bipush (v := 10) hx hb dX10_removeOn_194 (by decide) ?_
    refine lv_iload hx hb dX10_removeOn_196 (lv_at hl 1 rfl) ?_
    refine lv_imul hx hb dX10_removeOn_198 ?_
    refine lv_iload hx hb dX10_removeOn_199 (lv_at hl 0 rfl) ?_
    refine lv_iadd hx hb dX10_removeOn_201 ?_
    obtain ⟨rfl, rfl⟩ := sm2 hf
    exact k_iret C hlocks hr hW hQ dX10_removeOn_202
  have L10 : ∀ (n : Nat) (i1 : Int32) (i2 : Int32) (w3 : Nat → Int32), lpI n (un3 (pX10_removeOn_L6 p1)) (i1, i2, w3) = some (x4, x5, w6) → ∀ (H : Heap) (locs : List Loc) (ls : Array Slot), kH D A s H locs [(r0, .inl (cI, 84, .inl w3))] → lv_has ls 9 [(5, .int i1), (4, .int i2), (0, .ref r0), (1, .int p1)] → W p l e (kRm 3 70 0 0) s m args below meth c H locs 0 0 Q (F0 m 6 ls []) := by
    intro n
    induction n with
    | zero => intro i1 i2 w3 hx8; exact (lpI_0 hx8).elim
    | succ n ih12 =>
      intro i1 i2 w3 hx8 H locs ls hW hl
      obtain ⟨ooho7, ho7, hx8⟩ := lpI_s hx8
      replace ho7 := un3_s ho7
      unfold pX10_removeOn_L6 at ho7
      refine lv_aload_n hx hb dX10_removeOn_6 rfl (lv_at hl 2 rfl) ?_
      refine lv_iload_n hx hb dX10_removeOn_7 rfl (lv_at hl 3 rfl) ?_
      refine lv_iload hx hb dX10_removeOn_8 (lv_at hl 1 rfl) ?_
      refine lv_iconst (v := 1) hx hb dX10_removeOn_10 (by decide) ?_
      refine lv_iadd hx hb dX10_removeOn_11 ?_
      refine lv_iload hx hb dX10_removeOn_12 (lv_at hl 0 rfl) ?_
      obtain ⟨v13, h14, ho7⟩ := bd1_s ho7
      refine k_callSR (As := [.ref r0, .int p1, .int (i2 + 1), .int i1]) (n := 4) (rest := []) (st1 := [.int v13]) C hE hW hl.1 (kX10_isCell l D cI cZ cJ _ r0 w3 p1 (i2 + 1) i1 v13 h14) gX10_removeOn_X10_isCell rfl (by decide +kernel) rfl ⟨Nat.le_of_ble_eq_true rfl, Nat.le_of_ble_eq_true rfl⟩ ⟨Nat.zero_le _, Nat.zero_le _⟩ [0] rfl rfl (Nat.le_of_ble_eq_true rfl) rfl rfl dX10_removeOn_14 (fun H locs hW => ?_)
      refine lv_if_ne (tgt := 34) hx hb dX10_removeOn_17 (by decide) (fun hc => ?_) (fun hc => ?_)
      · replace ho7 := if_f hc ho7
        refine lv_aload_n hx hb dX10_removeOn_34 rfl (lv_at hl 2 rfl) ?_
        refine lv_iload_n hx hb dX10_removeOn_35 rfl (lv_at hl 3 rfl) ?_
        refine lv_iload hx hb dX10_removeOn_36 (lv_at hl 1 rfl) ?_
        refine lv_iconst (v := 1) hx hb dX10_removeOn_38 (by decide) ?_
        refine lv_iadd hx hb dX10_removeOn_39 ?_
        refine lv_iload hx hb dX10_removeOn_40 (lv_at hl 0 rfl) ?_
        obtain ⟨v15, h16, ho7⟩ := bd1_s ho7
        refine k_callSR (As := [.ref r0, .int p1, .int (i2 + 1), .int i1]) (n := 4) (rest := []) (st1 := [.int v15]) C hE hW hl.1 (kX10_isCell l D cI cZ cJ _ r0 w3 p1 (i2 + 1) i1 v15 h16) gX10_removeOn_X10_isCell rfl (by decide +kernel) rfl ⟨Nat.le_of_ble_eq_true rfl, Nat.le_of_ble_eq_true rfl⟩ ⟨Nat.zero_le _, Nat.zero_le _⟩ [0] rfl rfl (Nat.le_of_ble_eq_true rfl) rfl rfl dX10_removeOn_42 (fun H locs hW => ?_)
        obtain ⟨j17, hd18, ho7⟩ := bd1_s ho7
        have J19 : ∀ (H : Heap) (locs : List Loc) (ls : Array Slot), kH D A s H locs [(r0, .inl (cI, 84, .inl w3))] → lv_has ls 9 [(0, .ref r0), (1, .int p1), (4, .int i2), (5, .int i1)] → W p l e (kRm 3 70 0 0) s m args below meth c H locs 0 0 Q (F0 m 65 ls [.int j17]) := by
          intro H locs ls hW hl
          refine lv_istore (lv' := [(6, .int j17), (0, .ref r0), (1, .int p1), (4, .int i2), (5, .int i1)]) hx hb dX10_removeOn_65 hl (by decide) rfl (fun ls hl => ?_)
          refine lv_aload_n hx hb dX10_removeOn_67 rfl (lv_at hl 1 rfl) ?_
          refine lv_iload_n hx hb dX10_removeOn_68 rfl (lv_at hl 2 rfl) ?_
          refine lv_iload hx hb dX10_removeOn_69 (lv_at hl 3 rfl) ?_
          refine lv_iload hx hb dX10_removeOn_71 (lv_at hl 4 rfl) ?_
          refine lv_iconst (v := 1) hx hb dX10_removeOn_73 (by decide) ?_
          refine lv_iadd hx hb dX10_removeOn_74 ?_
          obtain ⟨v22, h23, ho7⟩ := bd1_s ho7
          refine k_callSR (As := [.ref r0, .int p1, .int i2, .int (i1 + 1)]) (n := 4) (rest := []) (st1 := [.int v22]) C hE hW hl.1 (kX10_isCell l D cI cZ cJ _ r0 w3 p1 i2 (i1 + 1) v22 h23) gX10_removeOn_X10_isCell rfl (by decide +kernel) rfl ⟨Nat.le_of_ble_eq_true rfl, Nat.le_of_ble_eq_true rfl⟩ ⟨Nat.zero_le _, Nat.zero_le _⟩ [0] rfl rfl (Nat.le_of_ble_eq_true rfl) rfl rfl dX10_removeOn_75 (fun H locs hW => ?_)
          obtain ⟨j24, hd25, ho7⟩ := bd1_s ho7
          have J26 : ∀ (H : Heap) (locs : List Loc) (ls : Array Slot), kH D A s H locs [(r0, .inl (cI, 84, .inl w3))] → lv_has ls 9 [(0, .ref r0), (1, .int p1), (4, .int i2), (5, .int i1), (6, .int j17)] → W p l e (kRm 3 70 0 0) s m args below meth c H locs 0 0 Q (F0 m 98 ls [.int j24]) := by
            intro H locs ls hW hl
            refine lv_istore (lv' := [(7, .int j24), (0, .ref r0), (1, .int p1), (4, .int i2), (5, .int i1), (6, .int j17)]) hx hb dX10_removeOn_98 hl (by decide) rfl (fun ls hl => ?_)
            refine lv_iload hx hb dX10_removeOn_100 (lv_at hl 5 rfl) ?_
            refine lv_iload hx hb dX10_removeOn_102 (lv_at hl 0 rfl) ?_
            obtain ⟨j29, hd30, ho7⟩ := bd1_s ho7
            have J31 : ∀ (H : Heap) (locs : List Loc) (ls : Array Slot), kH D A s H locs [(r0, .inl (cI, 84, .inl w3))] → lv_has ls 9 [(0, .ref r0), (1, .int p1), (4, .int i2), (5, .int i1), (6, .int j17), (7, .int j24)] → W p l e (kRm 3 70 0 0) s m args below meth c H locs 0 0 Q (F0 m 112 ls [.int j29]) := by
              intro H locs ls hW hl
              refine lv_istore (lv' := [(8, .int j29), (0, .ref r0), (1, .int p1), (4, .int i2), (5, .int i1), (6, .int j17), (7, .int j24)]) hx hb dX10_removeOn_112 hl (by decide) rfl (fun ls hl => ?_)
              refine lv_aload_n hx hb dX10_removeOn_114 rfl (lv_at hl 1 rfl) ?_
              refine lv_iload_n hx hb dX10_removeOn_115 rfl (lv_at hl 2 rfl) ?_
              refine lv_iload hx hb dX10_removeOn_116 (lv_at hl 3 rfl) ?_
              refine lv_iload hx hb dX10_removeOn_118 (lv_at hl 4 rfl) ?_
              refine lv_iload hx hb dX10_removeOn_120 (lv_at hl 0 rfl) ?_
              obtain ⟨j32, hd33, ho7⟩ := bd1_s ho7
              have J34 : ∀ (H : Heap) (locs : List Loc) (ls : Array Slot), kH D A s H locs [(r0, .inl (cI, 84, .inl w3))] → lv_has ls 9 [(0, .ref r0), (1, .int p1), (4, .int i2), (5, .int i1), (8, .int j29)] → W p l e (kRm 3 70 0 0) s m args below meth c H locs 0 0 Q (F0 m 132 ls [.int j32, .int i1, .int i2, .int p1, .ref r0]) := by
                intro H locs ls hW hl
                obtain ⟨w35, h36, ho7⟩ := bd1_s ho7
                refine k_callS (As := [.ref r0, .int p1, .int i2, .int i1, .int j32]) (n := 5) (rest := []) (st1 := []) (wr := []) (ws' := [(r0, .inl (cI, 84, .inl w35))]) C hE hW hl.1 (kX10_set l D cI cZ cJ _ r0 w3 p1 i2 i1 j32 w35 h36) gX10_removeOn_X10_set rfl (by decide +kernel) rfl ⟨Nat.le_of_ble_eq_true rfl, Nat.le_of_ble_eq_true rfl⟩ ⟨Nat.zero_le _, Nat.zero_le _⟩ [0] [] [0] rfl rfl rfl rfl (by decide) rfl rfl (Nat.le_of_ble_eq_true rfl) rfl rfl dX10_removeOn_132 (fun H locs hW => ?_)
                refine lv_iload hx hb dX10_removeOn_135 (lv_at hl 2 rfl) ?_
                refine lv_iload hx hb dX10_removeOn_137 (lv_at hl 4 rfl) ?_
                obtain ⟨j37, hd38, ho7⟩ := bd1_s ho7
                have J39 : ∀ (H : Heap) (locs : List Loc) (ls : Array Slot), kH D A s H locs [(r0, .inl (cI, 84, .inl w35))] → lv_has ls 9 [(0, .ref r0), (1, .int p1), (5, .int i1), (8, .int j29)] → W p l e (kRm 3 70 0 0) s m args below meth c H locs 0 0 Q (F0 m 147 ls [.int j37, .int i2]) := by
                  intro H locs ls hW hl
                  refine lv_iadd hx hb dX10_removeOn_147 ?_
                  refine lv_istore (lv' := [(4, .int (i2 + j37)), (0, .ref r0), (1, .int p1), (5, .int i1), (8, .int j29)]) hx hb dX10_removeOn_148 hl (by decide) rfl (fun ls hl => ?_)
                  refine lv_iload hx hb dX10_removeOn_150 (lv_at hl 3 rfl) ?_
                  refine lv_iload hx hb dX10_removeOn_152 (lv_at hl 4 rfl) ?_
                  refine lv_if_eq (tgt := 161) hx hb dX10_removeOn_154 (by decide) (fun hc => ?_) (fun hc => ?_)
                  · replace ho7 := if_t hc ho7
                    refine lv_iconst (v := 1) hx hb dX10_removeOn_161 (by decide) ?_
                    refine lv_iadd hx hb dX10_removeOn_162 ?_
                    refine lv_istore (lv' := [(5, .int (i1 + 1)), (4, .int (i2 + j37)), (0, .ref r0), (1, .int p1), (8, .int j29)]) hx hb dX10_removeOn_163 hl (by decide) rfl (fun ls hl => ?_)
                    refine lv_goto (tgt := 6) hx hb dX10_removeOn_165 (by decide) ?_
                    obtain rfl := Option.some.inj ho7
                    exact ih12 _ _ _ hx8 _ _ _ hW (lv_sub hl [0, 1, 2, 3] rfl)
                  · replace ho7 := if_f hc ho7
                    refine lv_iconst (v := 0) hx hb dX10_removeOn_157 (by decide) ?_
                    refine lv_goto (tgt := 162) hx hb dX10_removeOn_158 (by decide) ?_
                    refine lv_iadd hx hb dX10_removeOn_162 ?_
                    refine lv_istore (lv' := [(5, .int (i1 + 0)), (4, .int (i2 + j37)), (0, .ref r0), (1, .int p1), (8, .int j29)]) hx hb dX10_removeOn_163 hl (by decide) rfl (fun ls hl => ?_)
                    refine lv_goto (tgt := 6) hx hb dX10_removeOn_165 (by decide) ?_
                    obtain rfl := Option.some.inj ho7
                    exact ih12 _ _ _ hx8 _ _ _ hW (lv_sub hl [0, 1, 2, 3] rfl)
                refine lv_if_eq (tgt := 146) hx hb dX10_removeOn_139 (by decide) (fun hc => ?_) (fun hc => ?_)
                · replace hd38 := if_t hc hd38
                  refine lv_iconst (v := 0) hx hb dX10_removeOn_146 (by decide) ?_
                  obtain rfl := Option.some.inj hd38
                  exact J39 _ _ _ hW (lv_sub hl [0, 1, 3, 4] rfl)
                · replace hd38 := if_f hc hd38
                  refine lv_iconst (v := 1) hx hb dX10_removeOn_142 (by decide) ?_
                  refine lv_goto (tgt := 147) hx hb dX10_removeOn_143 (by decide) ?_
                  obtain rfl := Option.some.inj hd38
                  exact J39 _ _ _ hW (lv_sub hl [0, 1, 3, 4] rfl)
              refine lv_if_eq (tgt := 130) hx hb dX10_removeOn_122 (by decide) (fun hc => ?_) (fun hc => ?_)
              · replace hd33 := if_t hc hd33
                refine lv_iload hx hb dX10_removeOn_130 (lv_at hl 6 rfl) ?_
                obtain rfl := Option.some.inj hd33
                exact J34 _ _ _ hW (lv_sub hl [1, 2, 3, 4, 0] rfl)
              · replace hd33 := if_f hc hd33
                refine lv_iload hx hb dX10_removeOn_125 (lv_at hl 5 rfl) ?_
                refine lv_goto (tgt := 132) hx hb dX10_removeOn_127 (by decide) ?_
                obtain rfl := Option.some.inj hd33
                exact J34 _ _ _ hW (lv_sub hl [1, 2, 3, 4, 0] rfl)
            refine lv_icmp_gt (tgt := 111) hx hb dX10_removeOn_104 (by decide) (fun hc => ?_) (fun hc => ?_)
            · replace hd30 := if_t hc hd30
              refine lv_iconst (v := 0) hx hb dX10_removeOn_111 (by decide) ?_
              obtain rfl := Option.some.inj hd30
              exact J31 _ _ _ hW (lv_sub hl [1, 2, 3, 4, 5, 0] rfl)
            · replace hd30 := if_f hc hd30
              refine lv_iconst (v := 1) hx hb dX10_removeOn_107 (by decide) ?_
              refine lv_goto (tgt := 112) hx hb dX10_removeOn_108 (by decide) ?_
              obtain rfl := Option.some.inj hd30
              exact J31 _ _ _ hW (lv_sub hl [1, 2, 3, 4, 5, 0] rfl)
          refine lv_if_eq (tgt := 95) hx hb dX10_removeOn_78 (by decide) (fun hc => ?_) (fun hc => ?_)
          · replace hd25 := if_t hc hd25
            refine lv_sipush (v := 1000) hx hb dX10_removeOn_95 (by decide) ?_
            obtain rfl := Option.some.inj hd25
            exact J26 _ _ _ hW (lv_sub hl [1, 2, 3, 4, 0] rfl)
          · replace hd25 := if_f hc hd25
            refine lv_aload_n hx hb dX10_removeOn_81 rfl (lv_at hl 1 rfl) ?_
            refine lv_iload_n hx hb dX10_removeOn_82 rfl (lv_at hl 2 rfl) ?_
            refine lv_iload hx hb dX10_removeOn_83 (lv_at hl 3 rfl) ?_
            refine lv_iload hx hb dX10_removeOn_85 (lv_at hl 4 rfl) ?_
            refine lv_iconst (v := 1) hx hb dX10_removeOn_87 (by decide) ?_
            refine lv_iadd hx hb dX10_removeOn_88 ?_
            obtain ⟨v27, h28, hd25⟩ := bd1_s hd25
            refine k_callSR (As := [.ref r0, .int p1, .int i2, .int (i1 + 1)]) (n := 4) (rest := []) (st1 := [.int v27]) C hE hW hl.1 (kX10_get l D cI cZ cJ _ r0 w3 p1 i2 (i1 + 1) v27 h28) gX10_removeOn_X10_get rfl (by decide +kernel) rfl ⟨Nat.le_of_ble_eq_true rfl, Nat.le_of_ble_eq_true rfl⟩ ⟨Nat.zero_le _, Nat.zero_le _⟩ [0] rfl rfl (Nat.le_of_ble_eq_true rfl) rfl rfl dX10_removeOn_89 (fun H locs hW => ?_)
            refine lv_goto (tgt := 98) hx hb dX10_removeOn_92 (by decide) ?_
            obtain rfl := Option.some.inj hd25
            exact J26 _ _ _ hW (lv_sub hl [1, 2, 3, 4, 0] rfl)
        refine lv_if_eq (tgt := 62) hx hb dX10_removeOn_45 (by decide) (fun hc => ?_) (fun hc => ?_)
        · replace hd18 := if_t hc hd18
          refine lv_sipush (v := 1000) hx hb dX10_removeOn_62 (by decide) ?_
          obtain rfl := Option.some.inj hd18
          exact J19 _ _ _ hW (lv_sub hl [2, 3, 1, 0] rfl)
        · replace hd18 := if_f hc hd18
          refine lv_aload_n hx hb dX10_removeOn_48 rfl (lv_at hl 2 rfl) ?_
          refine lv_iload_n hx hb dX10_removeOn_49 rfl (lv_at hl 3 rfl) ?_
          refine lv_iload hx hb dX10_removeOn_50 (lv_at hl 1 rfl) ?_
          refine lv_iconst (v := 1) hx hb dX10_removeOn_52 (by decide) ?_
          refine lv_iadd hx hb dX10_removeOn_53 ?_
          refine lv_iload hx hb dX10_removeOn_54 (lv_at hl 0 rfl) ?_
          obtain ⟨v20, h21, hd18⟩ := bd1_s hd18
          refine k_callSR (As := [.ref r0, .int p1, .int (i2 + 1), .int i1]) (n := 4) (rest := []) (st1 := [.int v20]) C hE hW hl.1 (kX10_get l D cI cZ cJ _ r0 w3 p1 (i2 + 1) i1 v20 h21) gX10_removeOn_X10_get rfl (by decide +kernel) rfl ⟨Nat.le_of_ble_eq_true rfl, Nat.le_of_ble_eq_true rfl⟩ ⟨Nat.zero_le _, Nat.zero_le _⟩ [0] rfl rfl (Nat.le_of_ble_eq_true rfl) rfl rfl dX10_removeOn_56 (fun H locs hW => ?_)
          refine lv_goto (tgt := 65) hx hb dX10_removeOn_59 (by decide) ?_
          obtain rfl := Option.some.inj hd18
          exact J19 _ _ _ hW (lv_sub hl [2, 3, 1, 0] rfl)
      · replace ho7 := if_t hc ho7
        refine lv_aload_n hx hb dX10_removeOn_20 rfl (lv_at hl 2 rfl) ?_
        refine lv_iload_n hx hb dX10_removeOn_21 rfl (lv_at hl 3 rfl) ?_
        refine lv_iload hx hb dX10_removeOn_22 (lv_at hl 1 rfl) ?_
        refine lv_iload hx hb dX10_removeOn_24 (lv_at hl 0 rfl) ?_
        refine lv_iconst (v := 1) hx hb dX10_removeOn_26 (by decide) ?_
        refine lv_iadd hx hb dX10_removeOn_27 ?_
        obtain ⟨v40, h41, ho7⟩ := bd1_s ho7
        refine k_callSR (As := [.ref r0, .int p1, .int i2, .int (i1 + 1)]) (n := 4) (rest := []) (st1 := [.int v40]) C hE hW hl.1 (kX10_isCell l D cI cZ cJ _ r0 w3 p1 i2 (i1 + 1) v40 h41) gX10_removeOn_X10_isCell rfl (by decide +kernel) rfl ⟨Nat.le_of_ble_eq_true rfl, Nat.le_of_ble_eq_true rfl⟩ ⟨Nat.zero_le _, Nat.zero_le _⟩ [0] rfl rfl (Nat.le_of_ble_eq_true rfl) rfl rfl dX10_removeOn_28 (fun H locs hW => ?_)
        refine lv_if_eq (tgt := 168) hx hb dX10_removeOn_31 (by decide) (fun hc => ?_) (fun hc => ?_)
        · replace ho7 := if_t hc ho7
          obtain rfl := Option.some.inj ho7
          obtain ⟨rfl, rfl, rfl⟩ := pr3 (lpK_r hx8)
          exact J9 _ _ _ hW (lv_sub hl [0, 1, 2, 3] rfl)
        · replace ho7 := if_f hc ho7
          refine lv_aload_n hx hb dX10_removeOn_34 rfl (lv_at hl 2 rfl) ?_
          refine lv_iload_n hx hb dX10_removeOn_35 rfl (lv_at hl 3 rfl) ?_
          refine lv_iload hx hb dX10_removeOn_36 (lv_at hl 1 rfl) ?_
          refine lv_iconst (v := 1) hx hb dX10_removeOn_38 (by decide) ?_
          refine lv_iadd hx hb dX10_removeOn_39 ?_
          refine lv_iload hx hb dX10_removeOn_40 (lv_at hl 0 rfl) ?_
          obtain ⟨v42, h43, ho7⟩ := bd1_s ho7
          refine k_callSR (As := [.ref r0, .int p1, .int (i2 + 1), .int i1]) (n := 4) (rest := []) (st1 := [.int v42]) C hE hW hl.1 (kX10_isCell l D cI cZ cJ _ r0 w3 p1 (i2 + 1) i1 v42 h43) gX10_removeOn_X10_isCell rfl (by decide +kernel) rfl ⟨Nat.le_of_ble_eq_true rfl, Nat.le_of_ble_eq_true rfl⟩ ⟨Nat.zero_le _, Nat.zero_le _⟩ [0] rfl rfl (Nat.le_of_ble_eq_true rfl) rfl rfl dX10_removeOn_42 (fun H locs hW => ?_)
          obtain ⟨j44, hd45, ho7⟩ := bd1_s ho7
          have J46 : ∀ (H : Heap) (locs : List Loc) (ls : Array Slot), kH D A s H locs [(r0, .inl (cI, 84, .inl w3))] → lv_has ls 9 [(0, .ref r0), (1, .int p1), (4, .int i2), (5, .int i1)] → W p l e (kRm 3 70 0 0) s m args below meth c H locs 0 0 Q (F0 m 65 ls [.int j44]) := by
            intro H locs ls hW hl
            refine lv_istore (lv' := [(6, .int j44), (0, .ref r0), (1, .int p1), (4, .int i2), (5, .int i1)]) hx hb dX10_removeOn_65 hl (by decide) rfl (fun ls hl => ?_)
            refine lv_aload_n hx hb dX10_removeOn_67 rfl (lv_at hl 1 rfl) ?_
            refine lv_iload_n hx hb dX10_removeOn_68 rfl (lv_at hl 2 rfl) ?_
            refine lv_iload hx hb dX10_removeOn_69 (lv_at hl 3 rfl) ?_
            refine lv_iload hx hb dX10_removeOn_71 (lv_at hl 4 rfl) ?_
            refine lv_iconst (v := 1) hx hb dX10_removeOn_73 (by decide) ?_
            refine lv_iadd hx hb dX10_removeOn_74 ?_
            obtain ⟨v49, h50, ho7⟩ := bd1_s ho7
            refine k_callSR (As := [.ref r0, .int p1, .int i2, .int (i1 + 1)]) (n := 4) (rest := []) (st1 := [.int v49]) C hE hW hl.1 (kX10_isCell l D cI cZ cJ _ r0 w3 p1 i2 (i1 + 1) v49 h50) gX10_removeOn_X10_isCell rfl (by decide +kernel) rfl ⟨Nat.le_of_ble_eq_true rfl, Nat.le_of_ble_eq_true rfl⟩ ⟨Nat.zero_le _, Nat.zero_le _⟩ [0] rfl rfl (Nat.le_of_ble_eq_true rfl) rfl rfl dX10_removeOn_75 (fun H locs hW => ?_)
            obtain ⟨j51, hd52, ho7⟩ := bd1_s ho7
            have J53 : ∀ (H : Heap) (locs : List Loc) (ls : Array Slot), kH D A s H locs [(r0, .inl (cI, 84, .inl w3))] → lv_has ls 9 [(0, .ref r0), (1, .int p1), (4, .int i2), (5, .int i1), (6, .int j44)] → W p l e (kRm 3 70 0 0) s m args below meth c H locs 0 0 Q (F0 m 98 ls [.int j51]) := by
              intro H locs ls hW hl
              refine lv_istore (lv' := [(7, .int j51), (0, .ref r0), (1, .int p1), (4, .int i2), (5, .int i1), (6, .int j44)]) hx hb dX10_removeOn_98 hl (by decide) rfl (fun ls hl => ?_)
              refine lv_iload hx hb dX10_removeOn_100 (lv_at hl 5 rfl) ?_
              refine lv_iload hx hb dX10_removeOn_102 (lv_at hl 0 rfl) ?_
              obtain ⟨j56, hd57, ho7⟩ := bd1_s ho7
              have J58 : ∀ (H : Heap) (locs : List Loc) (ls : Array Slot), kH D A s H locs [(r0, .inl (cI, 84, .inl w3))] → lv_has ls 9 [(0, .ref r0), (1, .int p1), (4, .int i2), (5, .int i1), (6, .int j44), (7, .int j51)] → W p l e (kRm 3 70 0 0) s m args below meth c H locs 0 0 Q (F0 m 112 ls [.int j56]) := by
                intro H locs ls hW hl
                refine lv_istore (lv' := [(8, .int j56), (0, .ref r0), (1, .int p1), (4, .int i2), (5, .int i1), (6, .int j44), (7, .int j51)]) hx hb dX10_removeOn_112 hl (by decide) rfl (fun ls hl => ?_)
                refine lv_aload_n hx hb dX10_removeOn_114 rfl (lv_at hl 1 rfl) ?_
                refine lv_iload_n hx hb dX10_removeOn_115 rfl (lv_at hl 2 rfl) ?_
                refine lv_iload hx hb dX10_removeOn_116 (lv_at hl 3 rfl) ?_
                refine lv_iload hx hb dX10_removeOn_118 (lv_at hl 4 rfl) ?_
                refine lv_iload hx hb dX10_removeOn_120 (lv_at hl 0 rfl) ?_
                obtain ⟨j59, hd60, ho7⟩ := bd1_s ho7
                have J61 : ∀ (H : Heap) (locs : List Loc) (ls : Array Slot), kH D A s H locs [(r0, .inl (cI, 84, .inl w3))] → lv_has ls 9 [(0, .ref r0), (1, .int p1), (4, .int i2), (5, .int i1), (8, .int j56)] → W p l e (kRm 3 70 0 0) s m args below meth c H locs 0 0 Q (F0 m 132 ls [.int j59, .int i1, .int i2, .int p1, .ref r0]) := by
                  intro H locs ls hW hl
                  obtain ⟨w62, h63, ho7⟩ := bd1_s ho7
                  refine k_callS (As := [.ref r0, .int p1, .int i2, .int i1, .int j59]) (n := 5) (rest := []) (st1 := []) (wr := []) (ws' := [(r0, .inl (cI, 84, .inl w62))]) C hE hW hl.1 (kX10_set l D cI cZ cJ _ r0 w3 p1 i2 i1 j59 w62 h63) gX10_removeOn_X10_set rfl (by decide +kernel) rfl ⟨Nat.le_of_ble_eq_true rfl, Nat.le_of_ble_eq_true rfl⟩ ⟨Nat.zero_le _, Nat.zero_le _⟩ [0] [] [0] rfl rfl rfl rfl (by decide) rfl rfl (Nat.le_of_ble_eq_true rfl) rfl rfl dX10_removeOn_132 (fun H locs hW => ?_)
                  refine lv_iload hx hb dX10_removeOn_135 (lv_at hl 2 rfl) ?_
                  refine lv_iload hx hb dX10_removeOn_137 (lv_at hl 4 rfl) ?_
                  obtain ⟨j64, hd65, ho7⟩ := bd1_s ho7
                  have J66 : ∀ (H : Heap) (locs : List Loc) (ls : Array Slot), kH D A s H locs [(r0, .inl (cI, 84, .inl w62))] → lv_has ls 9 [(0, .ref r0), (1, .int p1), (5, .int i1), (8, .int j56)] → W p l e (kRm 3 70 0 0) s m args below meth c H locs 0 0 Q (F0 m 147 ls [.int j64, .int i2]) := by
                    intro H locs ls hW hl
                    refine lv_iadd hx hb dX10_removeOn_147 ?_
                    refine lv_istore (lv' := [(4, .int (i2 + j64)), (0, .ref r0), (1, .int p1), (5, .int i1), (8, .int j56)]) hx hb dX10_removeOn_148 hl (by decide) rfl (fun ls hl => ?_)
                    refine lv_iload hx hb dX10_removeOn_150 (lv_at hl 3 rfl) ?_
                    refine lv_iload hx hb dX10_removeOn_152 (lv_at hl 4 rfl) ?_
                    refine lv_if_eq (tgt := 161) hx hb dX10_removeOn_154 (by decide) (fun hc => ?_) (fun hc => ?_)
                    · replace ho7 := if_t hc ho7
                      refine lv_iconst (v := 1) hx hb dX10_removeOn_161 (by decide) ?_
                      refine lv_iadd hx hb dX10_removeOn_162 ?_
                      refine lv_istore (lv' := [(5, .int (i1 + 1)), (4, .int (i2 + j64)), (0, .ref r0), (1, .int p1), (8, .int j56)]) hx hb dX10_removeOn_163 hl (by decide) rfl (fun ls hl => ?_)
                      refine lv_goto (tgt := 6) hx hb dX10_removeOn_165 (by decide) ?_
                      obtain rfl := Option.some.inj ho7
                      exact ih12 _ _ _ hx8 _ _ _ hW (lv_sub hl [0, 1, 2, 3] rfl)
                    · replace ho7 := if_f hc ho7
                      refine lv_iconst (v := 0) hx hb dX10_removeOn_157 (by decide) ?_
                      refine lv_goto (tgt := 162) hx hb dX10_removeOn_158 (by decide) ?_
                      refine lv_iadd hx hb dX10_removeOn_162 ?_
                      refine lv_istore (lv' := [(5, .int (i1 + 0)), (4, .int (i2 + j64)), (0, .ref r0), (1, .int p1), (8, .int j56)]) hx hb dX10_removeOn_163 hl (by decide) rfl (fun ls hl => ?_)
                      refine lv_goto (tgt := 6) hx hb dX10_removeOn_165 (by decide) ?_
                      obtain rfl := Option.some.inj ho7
                      exact ih12 _ _ _ hx8 _ _ _ hW (lv_sub hl [0, 1, 2, 3] rfl)
                  refine lv_if_eq (tgt := 146) hx hb dX10_removeOn_139 (by decide) (fun hc => ?_) (fun hc => ?_)
                  · replace hd65 := if_t hc hd65
                    refine lv_iconst (v := 0) hx hb dX10_removeOn_146 (by decide) ?_
                    obtain rfl := Option.some.inj hd65
                    exact J66 _ _ _ hW (lv_sub hl [0, 1, 3, 4] rfl)
                  · replace hd65 := if_f hc hd65
                    refine lv_iconst (v := 1) hx hb dX10_removeOn_142 (by decide) ?_
                    refine lv_goto (tgt := 147) hx hb dX10_removeOn_143 (by decide) ?_
                    obtain rfl := Option.some.inj hd65
                    exact J66 _ _ _ hW (lv_sub hl [0, 1, 3, 4] rfl)
                refine lv_if_eq (tgt := 130) hx hb dX10_removeOn_122 (by decide) (fun hc => ?_) (fun hc => ?_)
                · replace hd60 := if_t hc hd60
                  refine lv_iload hx hb dX10_removeOn_130 (lv_at hl 6 rfl) ?_
                  obtain rfl := Option.some.inj hd60
                  exact J61 _ _ _ hW (lv_sub hl [1, 2, 3, 4, 0] rfl)
                · replace hd60 := if_f hc hd60
                  refine lv_iload hx hb dX10_removeOn_125 (lv_at hl 5 rfl) ?_
                  refine lv_goto (tgt := 132) hx hb dX10_removeOn_127 (by decide) ?_
                  obtain rfl := Option.some.inj hd60
                  exact J61 _ _ _ hW (lv_sub hl [1, 2, 3, 4, 0] rfl)
              refine lv_icmp_gt (tgt := 111) hx hb dX10_removeOn_104 (by decide) (fun hc => ?_) (fun hc => ?_)
              · replace hd57 := if_t hc hd57
                refine lv_iconst (v := 0) hx hb dX10_removeOn_111 (by decide) ?_
                obtain rfl := Option.some.inj hd57
                exact J58 _ _ _ hW (lv_sub hl [1, 2, 3, 4, 5, 0] rfl)
              · replace hd57 := if_f hc hd57
                refine lv_iconst (v := 1) hx hb dX10_removeOn_107 (by decide) ?_
                refine lv_goto (tgt := 112) hx hb dX10_removeOn_108 (by decide) ?_
                obtain rfl := Option.some.inj hd57
                exact J58 _ _ _ hW (lv_sub hl [1, 2, 3, 4, 5, 0] rfl)
            refine lv_if_eq (tgt := 95) hx hb dX10_removeOn_78 (by decide) (fun hc => ?_) (fun hc => ?_)
            · replace hd52 := if_t hc hd52
              refine lv_sipush (v := 1000) hx hb dX10_removeOn_95 (by decide) ?_
              obtain rfl := Option.some.inj hd52
              exact J53 _ _ _ hW (lv_sub hl [1, 2, 3, 4, 0] rfl)
            · replace hd52 := if_f hc hd52
              refine lv_aload_n hx hb dX10_removeOn_81 rfl (lv_at hl 1 rfl) ?_
              refine lv_iload_n hx hb dX10_removeOn_82 rfl (lv_at hl 2 rfl) ?_
              refine lv_iload hx hb dX10_removeOn_83 (lv_at hl 3 rfl) ?_
              refine lv_iload hx hb dX10_removeOn_85 (lv_at hl 4 rfl) ?_
              refine lv_iconst (v := 1) hx hb dX10_removeOn_87 (by decide) ?_
              refine lv_iadd hx hb dX10_removeOn_88 ?_
              obtain ⟨v54, h55, hd52⟩ := bd1_s hd52
              refine k_callSR (As := [.ref r0, .int p1, .int i2, .int (i1 + 1)]) (n := 4) (rest := []) (st1 := [.int v54]) C hE hW hl.1 (kX10_get l D cI cZ cJ _ r0 w3 p1 i2 (i1 + 1) v54 h55) gX10_removeOn_X10_get rfl (by decide +kernel) rfl ⟨Nat.le_of_ble_eq_true rfl, Nat.le_of_ble_eq_true rfl⟩ ⟨Nat.zero_le _, Nat.zero_le _⟩ [0] rfl rfl (Nat.le_of_ble_eq_true rfl) rfl rfl dX10_removeOn_89 (fun H locs hW => ?_)
              refine lv_goto (tgt := 98) hx hb dX10_removeOn_92 (by decide) ?_
              obtain rfl := Option.some.inj hd52
              exact J53 _ _ _ hW (lv_sub hl [1, 2, 3, 4, 0] rfl)
          refine lv_if_eq (tgt := 62) hx hb dX10_removeOn_45 (by decide) (fun hc => ?_) (fun hc => ?_)
          · replace hd45 := if_t hc hd45
            refine lv_sipush (v := 1000) hx hb dX10_removeOn_62 (by decide) ?_
            obtain rfl := Option.some.inj hd45
            exact J46 _ _ _ hW (lv_sub hl [2, 3, 1, 0] rfl)
          · replace hd45 := if_f hc hd45
            refine lv_aload_n hx hb dX10_removeOn_48 rfl (lv_at hl 2 rfl) ?_
            refine lv_iload_n hx hb dX10_removeOn_49 rfl (lv_at hl 3 rfl) ?_
            refine lv_iload hx hb dX10_removeOn_50 (lv_at hl 1 rfl) ?_
            refine lv_iconst (v := 1) hx hb dX10_removeOn_52 (by decide) ?_
            refine lv_iadd hx hb dX10_removeOn_53 ?_
            refine lv_iload hx hb dX10_removeOn_54 (lv_at hl 0 rfl) ?_
            obtain ⟨v47, h48, hd45⟩ := bd1_s hd45
            refine k_callSR (As := [.ref r0, .int p1, .int (i2 + 1), .int i1]) (n := 4) (rest := []) (st1 := [.int v47]) C hE hW hl.1 (kX10_get l D cI cZ cJ _ r0 w3 p1 (i2 + 1) i1 v47 h48) gX10_removeOn_X10_get rfl (by decide +kernel) rfl ⟨Nat.le_of_ble_eq_true rfl, Nat.le_of_ble_eq_true rfl⟩ ⟨Nat.zero_le _, Nat.zero_le _⟩ [0] rfl rfl (Nat.le_of_ble_eq_true rfl) rfl rfl dX10_removeOn_56 (fun H locs hW => ?_)
            refine lv_goto (tgt := 65) hx hb dX10_removeOn_59 (by decide) ?_
            obtain rfl := Option.some.inj hd45
            exact J46 _ _ _ hW (lv_sub hl [2, 3, 1, 0] rfl)
  exact L10 lpF _ _ _ hx80 _ _ _ hW (lv_sub hl [0, 1, 2, 3] rfl)

set_option maxHeartbeats 4000000 in
set_option maxRecDepth 100000 in
theorem kX10_transposeOn (l : Launch) (D : va_G) (cI cZ cJ : ClassId) (sz : Nat) (q q_turned r0 q_script q_readRow q_now q_trial q_diary q_kept q_isKept q_sums q_primes : Nat) (u_refusal : Int32) (u_scriptSize : Int32) (u_spot : Int32) (u_acts : Int32) (u_slides : Int32) (u_turned : Nat → Int32) (u0 : Nat → Int32) (p1 : Int32) (u_turned' : Nat → Int32) (u0' : Nat → Int32) (hf : pX10_transposeOn u_turned u0 p1 = some (u_turned', u0')) : kMet l D cI cZ cJ yX10_transposeOn wsX10_transposeOn 3 71 [.ref q, .ref r0, .int p1] [(q, .inr (9, [.int u_refusal, .ref q_script, .int u_scriptSize, .int u_spot, .ref q_readRow, .ref q_now, .ref q_trial, .ref q_diary, .int u_acts, .ref q_kept, .ref q_isKept, .int u_slides, .ref q_sums, .ref q_primes, .ref q_turned])), (q_turned, .inl (cI, 42, .inl u_turned)), (r0, .inl (cI, 84, .inl u0))] sz none [(q, .inr (9, [.int u_refusal, .ref q_script, .int u_scriptSize, .int u_spot, .ref q_readRow, .ref q_now, .ref q_trial, .ref q_diary, .int u_acts, .ref q_kept, .ref q_isKept, .int u_slides, .ref q_sums, .ref q_primes, .ref q_turned])), (q_turned, .inl (cI, 42, .inl u_turned')), (r0, .inl (cI, 84, .inl u0'))] := by
  refine kM_of (cc := cX10_transposeOn) (maxL := 5) (ret := none) (by decide) rfl (Nat.le_of_ble_eq_true rfl) ?_
  intro p e s m args below meth c A Q ls hQ C hlocks hr hE hW hl
  have hx := C.1
  have hb := C.2.1
  have hts := C.2.2.2.2
  have hl : lv_has ls 5 [(0, .ref q), (1, .ref r0), (2, .int p1)] := hl
  have iX10 : ∀ w ∈ u_ws RX10 TX10 15, w ∈ wsX10_transposeOn := by decide +kernel
  have f38 := hts (.fieldLink RX10 38 "SortedTablesModel" "turned" "[I") (by decide +kernel)
  unfold pX10_transposeOn at hf
  refine lv_iconst (v := 0) hx hb dX10_transposeOn_0 (by decide) ?_
  refine lv_istore_n (lv' := [(3, .int 0), (0, .ref q), (1, .ref r0), (2, .int p1)]) hx hb dX10_transposeOn_1 rfl hl (by decide) rfl (fun ls hl => ?_)
  obtain ⟨w3, hx50, hf⟩ := bd1_s hf
  have J6 : ∀ (H : Heap) (locs : List Loc) (ls : Array Slot), kH D A s H locs [(q, .inr (9, [.int u_refusal, .ref q_script, .int u_scriptSize, .int u_spot, .ref q_readRow, .ref q_now, .ref q_trial, .ref q_diary, .int u_acts, .ref q_kept, .ref q_isKept, .int u_slides, .ref q_sums, .ref q_primes, .ref q_turned])), (q_turned, .inl (cI, 42, .inl w3)), (r0, .inl (cI, 84, .inl u0))] → lv_has ls 5 [(0, .ref q), (1, .ref r0), (2, .int p1)] → W p l e (kRm 3 71 0 0) s m args below meth c H locs 0 0 Q (F0 m 65 ls []) := by
    intro H locs ls hW hl
    refine lv_aload_n hx hb dX10_transposeOn_65 rfl (lv_at hl 0 rfl) ?_
    refine k_get C hE hW iX10 0 rfl rfl 14 (by decide) f38 (fun _ h9 => h9) rfl dX10_transposeOn_66 ?_
    refine lv_iconst (v := 0) hx hb dX10_transposeOn_69 (by decide) ?_
    refine lv_aload_n hx hb dX10_transposeOn_70 rfl (lv_at hl 1 rfl) ?_
    refine lv_bipush (v := 42) hx hb dX10_transposeOn_71 (by decide) ?_
    refine lv_iload_n hx hb dX10_transposeOn_73 rfl (lv_at hl 2 rfl) ?_
    refine lv_imul hx hb dX10_transposeOn_74 ?_
    refine lv_bipush (v := 42) hx hb dX10_transposeOn_75 (by decide) ?_
    obtain ⟨w27, h28, hf⟩ := bd1_s hf
    refine k_callS (As := [.ref q_turned, .int 0, .ref r0, .int (42 * p1), .int 42]) (n := 5) (rest := []) (st1 := []) (wr := [(q, .inr (9, [.int u_refusal, .ref q_script, .int u_scriptSize, .int u_spot, .ref q_readRow, .ref q_now, .ref q_trial, .ref q_diary, .int u_acts, .ref q_kept, .ref q_isKept, .int u_slides, .ref q_sums, .ref q_primes, .ref q_turned]))]) (ws' := [(q, .inr (9, [.int u_refusal, .ref q_script, .int u_scriptSize, .int u_spot, .ref q_readRow, .ref q_now, .ref q_trial, .ref q_diary, .int u_acts, .ref q_kept, .ref q_isKept, .int u_slides, .ref q_sums, .ref q_primes, .ref q_turned])), (q_turned, .inl (cI, 42, .inl w3)), (r0, .inl (cI, 84, .inl w27))]) C hE hW hl.1 (kX10_copy l D cI cZ cJ _ q_turned r0 42 84 w3 u0 0 (42 * p1) 42 w27 h28) gX10_transposeOn_X10_copy rfl (by decide +kernel) rfl ⟨Nat.le_of_ble_eq_true rfl, Nat.le_of_ble_eq_true rfl⟩ ⟨Nat.zero_le _, Nat.zero_le _⟩ [1, 2] [0] [0, 1, 2] rfl rfl rfl rfl (by decide) rfl rfl (Nat.le_of_ble_eq_true rfl) rfl rfl dX10_transposeOn_77 (fun H locs hW => ?_)
    obtain ⟨rfl, rfl⟩ := sm2 hf
    exact k_vret C hlocks hr hW hQ dX10_transposeOn_80
  have L7 : ∀ (n : Nat) (i1 : Int32) (w2 : Nat → Int32), lpI n (un2 (pX10_transposeOn_L2 u0 p1)) (i1, w2) = some w3 → ∀ (H : Heap) (locs : List Loc) (ls : Array Slot), kH D A s H locs [(q, .inr (9, [.int u_refusal, .ref q_script, .int u_scriptSize, .int u_spot, .ref q_readRow, .ref q_now, .ref q_trial, .ref q_diary, .int u_acts, .ref q_kept, .ref q_isKept, .int u_slides, .ref q_sums, .ref q_primes, .ref q_turned])), (q_turned, .inl (cI, 42, .inl w2)), (r0, .inl (cI, 84, .inl u0))] → lv_has ls 5 [(3, .int i1), (0, .ref q), (1, .ref r0), (2, .int p1)] → W p l e (kRm 3 71 0 0) s m args below meth c H locs 0 0 Q (F0 m 2 ls []) := by
    intro n
    induction n with
    | zero => intro i1 w2 hx5; exact (lpI_0 hx5).elim
    | succ n ih9 =>
      intro i1 w2 hx5 H locs ls hW hl
      obtain ⟨ooho4, ho4, hx5⟩ := lpI_s hx5
      replace ho4 := un2_s ho4
      unfold pX10_transposeOn_L2 at ho4
      refine lv_iload_n hx hb dX10_transposeOn_2 rfl (lv_at hl 0 rfl) ?_
      refine lv_bipush (v := 6) hx hb dX10_transposeOn_3 (by decide) ?_
      refine lv_icmp_ge (tgt := 65) hx hb dX10_transposeOn_5 (by decide) (fun hc => ?_) (fun hc => ?_)
      · replace ho4 := if_t hc ho4
        obtain rfl := Option.some.inj ho4
        obtain rfl := lpK_r hx5
        exact J6 _ _ _ hW (lv_sub hl [1, 2, 3] rfl)
      · replace ho4 := if_f hc ho4
        refine lv_aload_n hx hb dX10_transposeOn_8 rfl (lv_at hl 1 rfl) ?_
        refine k_get C hE hW iX10 0 rfl rfl 14 (by decide) f38 (fun _ h9 => h9) rfl dX10_transposeOn_9 ?_
        refine lv_bipush (v := 36) hx hb dX10_transposeOn_12 (by decide) ?_
        refine lv_iload_n hx hb dX10_transposeOn_14 rfl (lv_at hl 0 rfl) ?_
        refine lv_iadd hx hb dX10_transposeOn_15 ?_
        refine lv_aload_n hx hb dX10_transposeOn_16 rfl (lv_at hl 2 rfl) ?_
        refine lv_iload_n hx hb dX10_transposeOn_17 rfl (lv_at hl 3 rfl) ?_
        refine lv_iload_n hx hb dX10_transposeOn_18 rfl (lv_at hl 0 rfl) ?_
        obtain ⟨v10, h11, ho4⟩ := bd1_s ho4
        refine k_callSR (As := [.ref r0, .int p1, .int i1]) (n := 3) (rest := [.int (36 + i1), .ref q_turned]) (st1 := [.int v10, .int (36 + i1), .ref q_turned]) C hE hW hl.1 (kX10_tall l D cI cZ cJ _ r0 u0 p1 i1 v10 h11) gX10_transposeOn_X10_tall rfl (by decide +kernel) rfl ⟨Nat.le_of_ble_eq_true rfl, Nat.le_of_ble_eq_true rfl⟩ ⟨Nat.zero_le _, Nat.zero_le _⟩ [2] rfl rfl (Nat.le_of_ble_eq_true rfl) rfl rfl dX10_transposeOn_19 (fun H locs hW => ?_)
        obtain ⟨w12, h13, ho4⟩ := bd1_s ho4
        refine k_iast (ws' := [(q, .inr (9, [.int u_refusal, .ref q_script, .int u_scriptSize, .int u_spot, .ref q_readRow, .ref q_now, .ref q_trial, .ref q_diary, .int u_acts, .ref q_kept, .ref q_isKept, .int u_slides, .ref q_sums, .ref q_primes, .ref q_turned])), (q_turned, .inl (cI, 42, .inl w12)), (r0, .inl (cI, 84, .inl u0))]) C hE hW 1 rfl h13 rfl dX10_transposeOn_22 (fun H locs hW => ?_)
        refine lv_iconst (v := 0) hx hb dX10_transposeOn_23 (by decide) ?_
        refine lv_istore (lv' := [(4, .int 0), (3, .int i1), (0, .ref q), (1, .ref r0), (2, .int p1)]) hx hb dX10_transposeOn_24 hl (by decide) rfl (fun ls hl => ?_)
        obtain ⟨w16, hx180, ho4⟩ := bd1_s ho4
        have J19 : ∀ (H : Heap) (locs : List Loc) (ls : Array Slot), kH D A s H locs [(q, .inr (9, [.int u_refusal, .ref q_script, .int u_scriptSize, .int u_spot, .ref q_readRow, .ref q_now, .ref q_trial, .ref q_diary, .int u_acts, .ref q_kept, .ref q_isKept, .int u_slides, .ref q_sums, .ref q_primes, .ref q_turned])), (q_turned, .inl (cI, 42, .inl w16)), (r0, .inl (cI, 84, .inl u0))] → lv_has ls 5 [(3, .int i1), (0, .ref q), (1, .ref r0), (2, .int p1)] → W p l e (kRm 3 71 0 0) s m args below meth c H locs 0 0 Q (F0 m 59 ls []) := by
          intro H locs ls hW hl
          refine lv_iinc (v := (i1 + 1)) (lv' := [(3, .int (i1 + 1)), (0, .ref q), (1, .ref r0), (2, .int p1)]) hx hb dX10_transposeOn_59 hl (k := 0) rfl rfl (by decide) rfl (fun ls hl => ?_)
          refine lv_goto (tgt := 2) hx hb dX10_transposeOn_62 (by decide) ?_
          obtain rfl := Option.some.inj ho4
          exact ih9 _ _ hx5 _ _ _ hW (lv_sub hl [0, 1, 2, 3] rfl)
        have L20 : ∀ (n : Nat) (i14 : Int32) (w15 : Nat → Int32), lpI n (un2 (pX10_transposeOn_L26 u0 p1 i1)) (i14, w15) = some w16 → ∀ (H : Heap) (locs : List Loc) (ls : Array Slot), kH D A s H locs [(q, .inr (9, [.int u_refusal, .ref q_script, .int u_scriptSize, .int u_spot, .ref q_readRow, .ref q_now, .ref q_trial, .ref q_diary, .int u_acts, .ref q_kept, .ref q_isKept, .int u_slides, .ref q_sums, .ref q_primes, .ref q_turned])), (q_turned, .inl (cI, 42, .inl w15)), (r0, .inl (cI, 84, .inl u0))] → lv_has ls 5 [(4, .int i14), (3, .int i1), (0, .ref q), (1, .ref r0), (2, .int p1)] → W p l e (kRm 3 71 0 0) s m args below meth c H locs 0 0 Q (F0 m 26 ls []) := by
          intro n
          induction n with
          | zero => intro i14 w15 hx18; exact (lpI_0 hx18).elim
          | succ n ih22 =>
            intro i14 w15 hx18 H locs ls hW hl
            obtain ⟨ooho17, ho17, hx18⟩ := lpI_s hx18
            replace ho17 := un2_s ho17
            unfold pX10_transposeOn_L26 at ho17
            refine lv_iload hx hb dX10_transposeOn_26 (lv_at hl 0 rfl) ?_
            refine lv_bipush (v := 6) hx hb dX10_transposeOn_28 (by decide) ?_
            refine lv_icmp_ge (tgt := 59) hx hb dX10_transposeOn_30 (by decide) (fun hc => ?_) (fun hc => ?_)
            · replace ho17 := if_t hc ho17
              obtain rfl := Option.some.inj ho17
              obtain rfl := lpK_r hx18
              exact J19 _ _ _ hW (lv_sub hl [1, 2, 3, 4] rfl)
            · replace ho17 := if_f hc ho17
              refine lv_aload_n hx hb dX10_transposeOn_33 rfl (lv_at hl 2 rfl) ?_
              refine k_get C hE hW iX10 0 rfl rfl 14 (by decide) f38 (fun _ h9 => h9) rfl dX10_transposeOn_34 ?_
              refine lv_bipush (v := 6) hx hb dX10_transposeOn_37 (by decide) ?_
              refine lv_iload_n hx hb dX10_transposeOn_39 rfl (lv_at hl 1 rfl) ?_
              refine lv_imul hx hb dX10_transposeOn_40 ?_
              refine lv_iload hx hb dX10_transposeOn_41 (lv_at hl 0 rfl) ?_
              refine lv_iadd hx hb dX10_transposeOn_43 ?_
              refine lv_aload_n hx hb dX10_transposeOn_44 rfl (lv_at hl 3 rfl) ?_
              refine lv_iload_n hx hb dX10_transposeOn_45 rfl (lv_at hl 4 rfl) ?_
              refine lv_iload hx hb dX10_transposeOn_46 (lv_at hl 0 rfl) ?_
              refine lv_iload_n hx hb dX10_transposeOn_48 rfl (lv_at hl 1 rfl) ?_
              obtain ⟨v23, h24, ho17⟩ := bd1_s ho17
              refine k_callSR (As := [.ref r0, .int p1, .int i14, .int i1]) (n := 4) (rest := [.int ((6 * i1) + i14), .ref q_turned]) (st1 := [.int v23, .int ((6 * i1) + i14), .ref q_turned]) C hE hW hl.1 (kX10_get l D cI cZ cJ _ r0 u0 p1 i14 i1 v23 h24) gX10_transposeOn_X10_get rfl (by decide +kernel) rfl ⟨Nat.le_of_ble_eq_true rfl, Nat.le_of_ble_eq_true rfl⟩ ⟨Nat.zero_le _, Nat.zero_le _⟩ [2] rfl rfl (Nat.le_of_ble_eq_true rfl) rfl rfl dX10_transposeOn_49 (fun H locs hW => ?_)
              obtain ⟨w25, h26, ho17⟩ := bd1_s ho17
              refine k_iast (ws' := [(q, .inr (9, [.int u_refusal, .ref q_script, .int u_scriptSize, .int u_spot, .ref q_readRow, .ref q_now, .ref q_trial, .ref q_diary, .int u_acts, .ref q_kept, .ref q_isKept, .int u_slides, .ref q_sums, .ref q_primes, .ref q_turned])), (q_turned, .inl (cI, 42, .inl w25)), (r0, .inl (cI, 84, .inl u0))]) C hE hW 1 rfl h26 rfl dX10_transposeOn_52 (fun H locs hW => ?_)
              refine lv_iinc (v := (i14 + 1)) (lv' := [(4, .int (i14 + 1)), (3, .int i1), (0, .ref q), (1, .ref r0), (2, .int p1)]) hx hb dX10_transposeOn_53 hl (k := 0) rfl rfl (by decide) rfl (fun ls hl => ?_)
              refine lv_goto (tgt := 26) hx hb dX10_transposeOn_56 (by decide) ?_
              obtain rfl := Option.some.inj ho17
              exact ih22 _ _ hx18 _ _ _ hW (lv_sub hl [0, 1, 2, 3, 4] rfl)
        exact L20 lpF _ _ hx180 _ _ _ hW (lv_sub hl [0, 1, 2, 3, 4] rfl)
  exact L7 lpF _ _ hx50 _ _ _ hW (lv_sub hl [0, 1, 2, 3] rfl)

set_option maxHeartbeats 4000000 in
set_option maxRecDepth 100000 in
theorem kX10_append (l : Launch) (D : va_G) (cI cZ cJ : ClassId) (sz : Nat) (q q_script q_readRow q_now q_trial q_diary q_kept q_isKept q_sums q_primes q_turned : Nat) (u_refusal : Int32) (u_scriptSize : Int32) (u_spot : Int32) (u_acts : Int32) (u_slides : Int32) (u_script : Nat → Int32) (p0 : Int32) (r : Int32) (u_refusal' : Int32) (u_scriptSize' : Int32) (u_script' : Nat → Int32) (hf : pX10_append u_refusal u_scriptSize u_script p0 = some (r, u_refusal', u_scriptSize', u_script')) : kMet l D cI cZ cJ yX10_append wsX10_append 1 25 [.ref q, .int p0] [(q, .inr (9, [.int u_refusal, .ref q_script, .int u_scriptSize, .int u_spot, .ref q_readRow, .ref q_now, .ref q_trial, .ref q_diary, .int u_acts, .ref q_kept, .ref q_isKept, .int u_slides, .ref q_sums, .ref q_primes, .ref q_turned])), (q_script, .inl (cI, 160, .inl u_script))] sz (some (.int r)) [(q, .inr (9, [.int u_refusal', .ref q_script, .int u_scriptSize', .int u_spot, .ref q_readRow, .ref q_now, .ref q_trial, .ref q_diary, .int u_acts, .ref q_kept, .ref q_isKept, .int u_slides, .ref q_sums, .ref q_primes, .ref q_turned])), (q_script, .inl (cI, 160, .inl u_script'))] := by
  refine kM_of (cc := cX10_append) (maxL := 2) (ret := (some .int)) (by decide) rfl (Nat.le_of_ble_eq_true rfl) ?_
  intro p e s m args below meth c A Q ls hQ C hlocks hr hE hW hl
  have hx := C.1
  have hb := C.2.1
  have hts := C.2.2.2.2
  have hl : lv_has ls 2 [(0, .ref q), (1, .int p0)] := hl
  have iX10 : ∀ w ∈ u_ws RX10 TX10 15, w ∈ wsX10_append := by decide +kernel
  have f7 := hts (.fieldLink RX10 7 "SortedTablesModel" "script" "[I") (by decide +kernel)
  have f99 := hts (.fieldLink RX10 99 "SortedTablesModel" "scriptSize" "I") (by decide +kernel)
  unfold pX10_append at hf
  refine lv_aload_n hx hb dX10_append_0 rfl (lv_at hl 0 rfl) ?_
  refine lv_iload_n hx hb dX10_append_1 rfl (lv_at hl 1 rfl) ?_
  refine lv_i2l hx hb dX10_append_2 rfl ?_
  refine lv_lconst (v := 0) hx hb dX10_append_3 (by decide) ?_
  refine lv_ldc2 (v := 255) hx hb C.2.2.2.1 (hts (.constantLong RX10 97 (255)) (by decide +kernel)) dX10_append_4 ?_
  obtain ⟨v1, h2, hf⟩ := bd1_s hf
  refine k_callSR (As := [.long (p0 : Int32).toInt64, .long 0, .long 255]) (n := 3) (rest := [.ref q]) (st1 := [.int v1, .ref q]) C hE hW hl.1 (kX10_in l D cI cZ cJ _ (p0 : Int32).toInt64 0 255 v1 h2) gX10_append_X10_in rfl (by decide +kernel) rfl ⟨Nat.le_of_ble_eq_true rfl, Nat.le_of_ble_eq_true rfl⟩ ⟨Nat.zero_le _, Nat.zero_le _⟩ [] rfl rfl (Nat.le_of_ble_eq_true rfl) rfl rfl dX10_append_7 (fun H locs hW => ?_)
  obtain ⟨j3, hd4, hf⟩ := bd1_s hf
  have J5 : ∀ (H : Heap) (locs : List Loc) (ls : Array Slot), kH D A s H locs [(q, .inr (9, [.int u_refusal, .ref q_script, .int u_scriptSize, .int u_spot, .ref q_readRow, .ref q_now, .ref q_trial, .ref q_diary, .int u_acts, .ref q_kept, .ref q_isKept, .int u_slides, .ref q_sums, .ref q_primes, .ref q_turned])), (q_script, .inl (cI, 160, .inl u_script))] → lv_has ls 2 [(0, .ref q), (1, .int p0)] → W p l e (kRm 1 25 0 0) s m args below meth c H locs 0 0 Q (F0 m 32 ls [.int j3, .ref q]) := by
    intro H locs ls hW hl
    obtain ⟨⟨v6, w7⟩, h8, hf⟩ := bd1_s hf
    replace hf := un2_s hf
    refine k_callV (b := q) (ci := 9) (qb := 0) (As := [.int j3]) (n := 1) (rest := []) (st1 := [.int v6]) (wr := [(q_script, .inl (cI, 160, .inl u_script))]) (ws' := [(q, .inr (9, [.int w7, .ref q_script, .int u_scriptSize, .int u_spot, .ref q_readRow, .ref q_now, .ref q_trial, .ref q_diary, .int u_acts, .ref q_kept, .ref q_isKept, .int u_slides, .ref q_sums, .ref q_primes, .ref q_turned])), (q_script, .inl (cI, 160, .inl u_script))]) C hE hW hl.1 (kX10_refused l D cI cZ cJ _ q q_script q_readRow q_now q_trial q_diary q_kept q_isKept q_sums q_primes q_turned u_refusal u_scriptSize u_spot u_acts u_slides j3 v6 w7 h8) gX10_append_X10_refused rfl (by decide +kernel) rfl ⟨Nat.le_of_ble_eq_true rfl, Nat.le_of_ble_eq_true rfl⟩ ⟨Nat.zero_le _, Nat.zero_le _⟩ rfl rfl [0] [1] [1, 0] rfl rfl rfl rfl (by decide) rfl rfl (Nat.le_of_ble_eq_true rfl) rfl rfl dX10_append_32 (fun H locs hW => ?_)
    refine lv_if_eq (tgt := 40) hx hb dX10_append_35 (by decide) (fun hc => ?_) (fun hc => ?_)
    · replace hf := if_t hc hf
      refine lv_aload_n hx hb dX10_append_40 rfl (lv_at hl 0 rfl) ?_
      refine k_get C hE hW iX10 0 rfl rfl 1 (by decide) f7 (fun _ h9 => h9) rfl dX10_append_41 ?_
      refine lv_aload_n hx hb dX10_append_44 rfl (lv_at hl 0 rfl) ?_
      refine k_get C hE hW iX10 0 rfl rfl 2 (by decide) f99 (fun _ h9 => h9) rfl dX10_append_45 ?_
      refine lv_iload_n hx hb dX10_append_48 rfl (lv_at hl 1 rfl) ?_
      obtain ⟨w9, h10, hf⟩ := bd1_s hf
      refine k_iast (ws' := [(q, .inr (9, [.int w7, .ref q_script, .int u_scriptSize, .int u_spot, .ref q_readRow, .ref q_now, .ref q_trial, .ref q_diary, .int u_acts, .ref q_kept, .ref q_isKept, .int u_slides, .ref q_sums, .ref q_primes, .ref q_turned])), (q_script, .inl (cI, 160, .inl w9))]) C hE hW 1 rfl h10 rfl dX10_append_49 (fun H locs hW => ?_)
      refine lv_aload_n hx hb dX10_append_50 rfl (lv_at hl 0 rfl) ?_
      refine lv_dup hx hb dX10_append_51 rfl ?_
      refine k_get C hE hW iX10 0 rfl rfl 2 (by decide) f99 (fun _ h9 => h9) rfl dX10_append_52 ?_
      refine lv_iconst (v := 1) hx hb dX10_append_55 (by decide) ?_
      refine lv_iadd hx hb dX10_append_56 ?_
      refine k_put (v := .int (u_scriptSize + 1)) (ty := .int) (ws' := [(q, .inr (9, [.int w7, .ref q_script, .int (u_scriptSize + 1), .int u_spot, .ref q_readRow, .ref q_now, .ref q_trial, .ref q_diary, .int u_acts, .ref q_kept, .ref q_isKept, .int u_slides, .ref q_sums, .ref q_primes, .ref q_turned])), (q_script, .inl (cI, 160, .inl w9))]) C hE hW iX10 tyX10_ok nmX10 0 rfl rfl 2 (by decide) f99 (fun _ h9 => h9) rfl (by decide +kernel) rfl rfl (Nat.le_of_ble_eq_true rfl) rfl dX10_append_57 (fun H locs hW => ?_)
      refine lv_aload_n hx hb dX10_append_60 rfl (lv_at hl 0 rfl) ?_
      refine k_get C hE hW iX10 0 rfl rfl 2 (by decide) f99 (fun _ h9 => h9) rfl dX10_append_61 ?_
      obtain ⟨rfl, rfl, rfl, rfl⟩ := sm4 hf
      exact k_iret C hlocks hr hW hQ dX10_append_64
    · replace hf := if_f hc hf
      refine lv_iconst (v := 0) hx hb dX10_append_38 (by decide) ?_
      obtain ⟨rfl, rfl, rfl, rfl⟩ := sm4 hf
      exact k_iret C hlocks hr hW hQ dX10_append_39
  refine lv_if_ne (tgt := 17) hx hb dX10_append_10 (by decide) (fun hc => ?_) (fun hc => ?_)
  · replace hd4 := if_f hc hd4
    refine lv_aload_n hx hb dX10_append_17 rfl (lv_at hl 0 rfl) ?_
    refine k_get C hE hW iX10 0 rfl rfl 2 (by decide) f99 (fun _ h9 => h9) rfl dX10_append_18 ?_
    refine lv_sipush (v := 160) hx hb dX10_append_21 (by decide) ?_
    refine lv_icmp_ne (tgt := 31) hx hb dX10_append_24 (by decide) (fun hc => ?_) (fun hc => ?_)
    · replace hd4 := if_f hc hd4
      refine lv_iconst (v := 0) hx hb dX10_append_31 (by decide) ?_
      obtain rfl := Option.some.inj hd4
      exact J5 _ _ _ hW (lv_sub hl [0, 1] rfl)
    · replace hd4 := if_t hc hd4
      refine lv_iconst (v := 2) hx hb dX10_append_27 (by decide) ?_
      refine lv_goto (tgt := 32) hx hb dX10_append_28 (by decide) ?_
      obtain rfl := Option.some.inj hd4
      exact J5 _ _ _ hW (lv_sub hl [0, 1] rfl)
  · replace hd4 := if_t hc hd4
    refine lv_iconst (v := 1) hx hb dX10_append_13 (by decide) ?_
    refine lv_goto (tgt := 32) hx hb dX10_append_14 (by decide) ?_
    obtain rfl := Option.some.inj hd4
    exact J5 _ _ _ hW (lv_sub hl [0, 1] rfl)

set_option maxHeartbeats 4000000 in
set_option maxRecDepth 100000 in
theorem kX10_clearText (l : Launch) (D : va_G) (cI cZ cJ : ClassId) (sz : Nat) (q q_script q_readRow q_now q_trial q_diary q_kept q_isKept q_sums q_primes q_turned : Nat) (u_refusal : Int32) (u_scriptSize : Int32) (u_spot : Int32) (u_acts : Int32) (u_slides : Int32) (r : Int32) (u_refusal' : Int32) (u_scriptSize' : Int32) (hf : pX10_clearText u_refusal u_scriptSize = some (r, u_refusal', u_scriptSize')) : kMet l D cI cZ cJ yX10_clearText wsX10_clearText 0 0 [.ref q] [(q, .inr (9, [.int u_refusal, .ref q_script, .int u_scriptSize, .int u_spot, .ref q_readRow, .ref q_now, .ref q_trial, .ref q_diary, .int u_acts, .ref q_kept, .ref q_isKept, .int u_slides, .ref q_sums, .ref q_primes, .ref q_turned]))] sz (some (.int r)) [(q, .inr (9, [.int u_refusal', .ref q_script, .int u_scriptSize', .int u_spot, .ref q_readRow, .ref q_now, .ref q_trial, .ref q_diary, .int u_acts, .ref q_kept, .ref q_isKept, .int u_slides, .ref q_sums, .ref q_primes, .ref q_turned]))] := by
  refine kM_of (cc := cX10_clearText) (maxL := 2) (ret := (some .int)) (by decide) rfl (Nat.le_of_ble_eq_true rfl) ?_
  intro p e s m args below meth c A Q ls hQ C hlocks hr hE hW hl
  have hx := C.1
  have hb := C.2.1
  have hts := C.2.2.2.2
  have hl : lv_has ls 2 [(0, .ref q)] := hl
  have iX10 : ∀ w ∈ u_ws RX10 TX10 15, w ∈ wsX10_clearText := by decide +kernel
  have f41 := hts (.fieldLink RX10 41 "SortedTablesModel" "refusal" "I") (by decide +kernel)
  have f99 := hts (.fieldLink RX10 99 "SortedTablesModel" "scriptSize" "I") (by decide +kernel)
  unfold pX10_clearText at hf
  refine lv_aload_n hx hb dX10_clearText_0 rfl (lv_at hl 0 rfl) ?_
  refine lv_iconst (v := 0) hx hb dX10_clearText_1 (by decide) ?_
  refine k_put (v := .int 0) (ty := .int) (ws' := [(q, .inr (9, [.int 0, .ref q_script, .int u_scriptSize, .int u_spot, .ref q_readRow, .ref q_now, .ref q_trial, .ref q_diary, .int u_acts, .ref q_kept, .ref q_isKept, .int u_slides, .ref q_sums, .ref q_primes, .ref q_turned]))]) C hE hW iX10 tyX10_ok nmX10 0 rfl rfl 0 (by decide) f41 (fun _ h9 => h9) rfl (by decide +kernel) rfl rfl (Nat.le_of_ble_eq_true rfl) rfl dX10_clearText_2 (fun H locs hW => ?_)
  refine lv_aload_n hx hb dX10_clearText_5 rfl (lv_at hl 0 rfl) ?_
  refine k_get C hE hW iX10 0 rfl rfl 2 (by decide) f99 (fun _ h9 => h9) rfl dX10_clearText_6 ?_
  refine lv_istore_n (lv' := [(1, .int u_scriptSize), (0, .ref q)]) hx hb dX10_clearText_9 rfl hl (by decide) rfl (fun ls hl => ?_)
  refine lv_aload_n hx hb dX10_clearText_10 rfl (lv_at hl 1 rfl) ?_
  refine lv_iconst (v := 0) hx hb dX10_clearText_11 (by decide) ?_
  refine k_put (v := .int 0) (ty := .int) (ws' := [(q, .inr (9, [.int 0, .ref q_script, .int 0, .int u_spot, .ref q_readRow, .ref q_now, .ref q_trial, .ref q_diary, .int u_acts, .ref q_kept, .ref q_isKept, .int u_slides, .ref q_sums, .ref q_primes, .ref q_turned]))]) C hE hW iX10 tyX10_ok nmX10 0 rfl rfl 2 (by decide) f99 (fun _ h9 => h9) rfl (by decide +kernel) rfl rfl (Nat.le_of_ble_eq_true rfl) rfl dX10_clearText_12 (fun H locs hW => ?_)
  refine lv_iload_n hx hb dX10_clearText_15 rfl (lv_at hl 0 rfl) ?_
  obtain ⟨rfl, rfl, rfl⟩ := sm3 hf
  exact k_iret C hlocks hr hW hQ dX10_clearText_16

set_option maxHeartbeats 4000000 in
set_option maxRecDepth 100000 in
theorem kX10_digit (l : Launch) (D : va_G) (cI cZ cJ : ClassId) (sz : Nat) (q q_script q_readRow q_now q_trial q_diary q_kept q_isKept q_sums q_primes q_turned : Nat) (u_refusal : Int32) (u_scriptSize : Int32) (u_spot : Int32) (u_acts : Int32) (u_slides : Int32) (u_script : Nat → Int32) (p0 : Int32) (r : Int32) (u_spot' : Int32) (hf : pX10_digit u_scriptSize u_spot u_script p0 = some (r, u_spot')) : kMet l D cI cZ cJ yX10_digit wsX10_digit 1 25 [.ref q, .int p0] [(q, .inr (9, [.int u_refusal, .ref q_script, .int u_scriptSize, .int u_spot, .ref q_readRow, .ref q_now, .ref q_trial, .ref q_diary, .int u_acts, .ref q_kept, .ref q_isKept, .int u_slides, .ref q_sums, .ref q_primes, .ref q_turned])), (q_script, .inl (cI, 160, .inl u_script))] sz (some (.int r)) [(q, .inr (9, [.int u_refusal, .ref q_script, .int u_scriptSize, .int u_spot', .ref q_readRow, .ref q_now, .ref q_trial, .ref q_diary, .int u_acts, .ref q_kept, .ref q_isKept, .int u_slides, .ref q_sums, .ref q_primes, .ref q_turned])), (q_script, .inl (cI, 160, .inl u_script))] := by
  refine kM_of (cc := cX10_digit) (maxL := 3) (ret := (some .int)) (by decide) rfl (Nat.le_of_ble_eq_true rfl) ?_
  intro p e s m args below meth c A Q ls hQ C hlocks hr hE hW hl
  have hx := C.1
  have hb := C.2.1
  have hts := C.2.2.2.2
  have hl : lv_has ls 3 [(0, .ref q), (1, .int p0)] := hl
  have iX10 : ∀ w ∈ u_ws RX10 TX10 15, w ∈ wsX10_digit := by decide +kernel
  have f105 := hts (.fieldLink RX10 105 "SortedTablesModel" "spot" "I") (by decide +kernel)
  have f7 := hts (.fieldLink RX10 7 "SortedTablesModel" "script" "[I") (by decide +kernel)
  have f99 := hts (.fieldLink RX10 99 "SortedTablesModel" "scriptSize" "I") (by decide +kernel)
  unfold pX10_digit at hf
  refine lv_aload_n hx hb dX10_digit_0 rfl (lv_at hl 0 rfl) ?_
  refine k_get C hE hW iX10 0 rfl rfl 3 (by decide) f105 (fun _ h9 => h9) rfl dX10_digit_1 ?_
  refine lv_aload_n hx hb dX10_digit_4 rfl (lv_at hl 0 rfl) ?_
  refine k_get C hE hW iX10 0 rfl rfl 2 (by decide) f99 (fun _ h9 => h9) rfl dX10_digit_5 ?_
  obtain ⟨j1, hd2, hf⟩ := bd1_s hf
  have J3 : ∀ (H : Heap) (locs : List Loc) (ls : Array Slot), kH D A s H locs [(q, .inr (9, [.int u_refusal, .ref q_script, .int u_scriptSize, .int u_spot, .ref q_readRow, .ref q_now, .ref q_trial, .ref q_diary, .int u_acts, .ref q_kept, .ref q_isKept, .int u_slides, .ref q_sums, .ref q_primes, .ref q_turned])), (q_script, .inl (cI, 160, .inl u_script))] → lv_has ls 3 [(0, .ref q), (1, .int p0)] → W p l e (kRm 1 25 0 0) s m args below meth c H locs 0 0 Q (F0 m 28 ls [.int j1]) := by
    intro H locs ls hW hl
    refine lv_istore_n (lv' := [(2, .int j1), (0, .ref q), (1, .int p0)]) hx hb dX10_digit_28 rfl hl (by decide) rfl (fun ls hl => ?_)
    refine lv_iload_n hx hb dX10_digit_29 rfl (lv_at hl 0 rfl) ?_
    refine lv_i2l hx hb dX10_digit_30 rfl ?_
    refine lv_iload_n hx hb dX10_digit_31 rfl (lv_at hl 2 rfl) ?_
    refine lv_i2l hx hb dX10_digit_32 rfl ?_
    refine lv_ldc2 (v := 9) hx hb C.2.2.2.1 (hts (.constantLong RX10 108 (9)) (by decide +kernel)) dX10_digit_33 ?_
    obtain ⟨v6, h7, hf⟩ := bd1_s hf
    refine k_callSR (As := [.long (j1 : Int32).toInt64, .long (p0 : Int32).toInt64, .long 9]) (n := 3) (rest := []) (st1 := [.int v6]) C hE hW hl.1 (kX10_in l D cI cZ cJ _ (j1 : Int32).toInt64 (p0 : Int32).toInt64 9 v6 h7) gX10_digit_X10_in rfl (by decide +kernel) rfl ⟨Nat.le_of_ble_eq_true rfl, Nat.le_of_ble_eq_true rfl⟩ ⟨Nat.zero_le _, Nat.zero_le _⟩ [] rfl rfl (Nat.le_of_ble_eq_true rfl) rfl rfl dX10_digit_36 (fun H locs hW => ?_)
    refine lv_if_ne (tgt := 45) hx hb dX10_digit_39 (by decide) (fun hc => ?_) (fun hc => ?_)
    · replace hf := if_f hc hf
      refine lv_aload_n hx hb dX10_digit_45 rfl (lv_at hl 1 rfl) ?_
      refine lv_dup hx hb dX10_digit_46 rfl ?_
      refine k_get C hE hW iX10 0 rfl rfl 3 (by decide) f105 (fun _ h9 => h9) rfl dX10_digit_47 ?_
      refine lv_iconst (v := 1) hx hb dX10_digit_50 (by decide) ?_
      refine lv_iadd hx hb dX10_digit_51 ?_
      refine k_put (v := .int (u_spot + 1)) (ty := .int) (ws' := [(q, .inr (9, [.int u_refusal, .ref q_script, .int u_scriptSize, .int (u_spot + 1), .ref q_readRow, .ref q_now, .ref q_trial, .ref q_diary, .int u_acts, .ref q_kept, .ref q_isKept, .int u_slides, .ref q_sums, .ref q_primes, .ref q_turned])), (q_script, .inl (cI, 160, .inl u_script))]) C hE hW iX10 tyX10_ok nmX10 0 rfl rfl 3 (by decide) f105 (fun _ h9 => h9) rfl (by decide +kernel) rfl rfl (Nat.le_of_ble_eq_true rfl) rfl dX10_digit_52 (fun H locs hW => ?_)
      refine lv_iload_n hx hb dX10_digit_55 rfl (lv_at hl 0 rfl) ?_
      obtain ⟨rfl, rfl⟩ := sm2 hf
      exact k_iret C hlocks hr hW hQ dX10_digit_56
    · replace hf := if_t hc hf
      refine lv_bipush (v := (-9)) hx hb dX10_digit_42 (by decide) ?_
      obtain ⟨rfl, rfl⟩ := sm2 hf
      exact k_iret C hlocks hr hW hQ dX10_digit_44
  refine lv_icmp_ge (tgt := 26) hx hb dX10_digit_8 (by decide) (fun hc => ?_) (fun hc => ?_)
  · replace hd2 := if_t hc hd2
    refine lv_bipush (v := (-9)) hx hb dX10_digit_26 (by decide) ?_
    obtain rfl := Option.some.inj hd2
    exact J3 _ _ _ hW (lv_sub hl [0, 1] rfl)
  · replace hd2 := if_f hc hd2
    refine lv_aload_n hx hb dX10_digit_11 rfl (lv_at hl 0 rfl) ?_
    refine k_get C hE hW iX10 0 rfl rfl 1 (by decide) f7 (fun _ h9 => h9) rfl dX10_digit_12 ?_
    refine lv_aload_n hx hb dX10_digit_15 rfl (lv_at hl 0 rfl) ?_
    refine k_get C hE hW iX10 0 rfl rfl 3 (by decide) f105 (fun _ h9 => h9) rfl dX10_digit_16 ?_
    obtain ⟨v4, h5, hd2⟩ := bd1_s hd2
    refine k_iald C hE hW 1 rfl h5 dX10_digit_19 ?_
    refine lv_bipush (v := 48) hx hb dX10_digit_20 (by decide) ?_
    refine lv_isub hx hb dX10_digit_22 ?_
    refine lv_goto (tgt := 28) hx hb dX10_digit_23 (by decide) ?_
    obtain rfl := Option.some.inj hd2
    exact J3 _ _ _ hW (lv_sub hl [0, 1] rfl)

set_option maxHeartbeats 4000000 in
set_option maxRecDepth 100000 in
theorem kX10_sign (l : Launch) (D : va_G) (cI cZ cJ : ClassId) (sz : Nat) (q q_script q_readRow q_now q_trial q_diary q_kept q_isKept q_sums q_primes q_turned : Nat) (u_refusal : Int32) (u_scriptSize : Int32) (u_spot : Int32) (u_acts : Int32) (u_slides : Int32) (u_script : Nat → Int32) (p0 : Int32) (r : Int32) (u_spot' : Int32) (hf : pX10_sign u_scriptSize u_spot u_script p0 = some (r, u_spot')) : kMet l D cI cZ cJ yX10_sign wsX10_sign 0 0 [.ref q, .int p0] [(q, .inr (9, [.int u_refusal, .ref q_script, .int u_scriptSize, .int u_spot, .ref q_readRow, .ref q_now, .ref q_trial, .ref q_diary, .int u_acts, .ref q_kept, .ref q_isKept, .int u_slides, .ref q_sums, .ref q_primes, .ref q_turned])), (q_script, .inl (cI, 160, .inl u_script))] sz (some (.int r)) [(q, .inr (9, [.int u_refusal, .ref q_script, .int u_scriptSize, .int u_spot', .ref q_readRow, .ref q_now, .ref q_trial, .ref q_diary, .int u_acts, .ref q_kept, .ref q_isKept, .int u_slides, .ref q_sums, .ref q_primes, .ref q_turned])), (q_script, .inl (cI, 160, .inl u_script))] := by
  refine kM_of (cc := cX10_sign) (maxL := 3) (ret := (some .boolean)) (by decide) rfl (Nat.le_of_ble_eq_true rfl) ?_
  intro p e s m args below meth c A Q ls hQ C hlocks hr hE hW hl
  have hx := C.1
  have hb := C.2.1
  have hts := C.2.2.2.2
  have hl : lv_has ls 3 [(0, .ref q), (1, .int p0)] := hl
  have iX10 : ∀ w ∈ u_ws RX10 TX10 15, w ∈ wsX10_sign := by decide +kernel
  have f105 := hts (.fieldLink RX10 105 "SortedTablesModel" "spot" "I") (by decide +kernel)
  have f7 := hts (.fieldLink RX10 7 "SortedTablesModel" "script" "[I") (by decide +kernel)
  have f99 := hts (.fieldLink RX10 99 "SortedTablesModel" "scriptSize" "I") (by decide +kernel)
  unfold pX10_sign at hf
  refine lv_aload_n hx hb dX10_sign_0 rfl (lv_at hl 0 rfl) ?_
  refine k_get C hE hW iX10 0 rfl rfl 3 (by decide) f105 (fun _ h9 => h9) rfl dX10_sign_1 ?_
  refine lv_aload_n hx hb dX10_sign_4 rfl (lv_at hl 0 rfl) ?_
  refine k_get C hE hW iX10 0 rfl rfl 2 (by decide) f99 (fun _ h9 => h9) rfl dX10_sign_5 ?_
  obtain ⟨j1, hd2, hf⟩ := bd1_s hf
  have J3 : ∀ (H : Heap) (locs : List Loc) (ls : Array Slot), kH D A s H locs [(q, .inr (9, [.int u_refusal, .ref q_script, .int u_scriptSize, .int u_spot, .ref q_readRow, .ref q_now, .ref q_trial, .ref q_diary, .int u_acts, .ref q_kept, .ref q_isKept, .int u_slides, .ref q_sums, .ref q_primes, .ref q_turned])), (q_script, .inl (cI, 160, .inl u_script))] → lv_has ls 3 [(0, .ref q)] → W p l e (kRm 0 0 0 0) s m args below meth c H locs 0 0 Q (F0 m 29 ls [.int j1]) := by
    intro H locs ls hW hl
    refine lv_istore_n (lv' := [(2, .int j1), (0, .ref q)]) hx hb dX10_sign_29 rfl hl (by decide) rfl (fun ls hl => ?_)
    refine lv_aload_n hx hb dX10_sign_30 rfl (lv_at hl 1 rfl) ?_
    refine lv_dup hx hb dX10_sign_31 rfl ?_
    refine k_get C hE hW iX10 0 rfl rfl 3 (by decide) f105 (fun _ h9 => h9) rfl dX10_sign_32 ?_
    refine lv_iload_n hx hb dX10_sign_35 rfl (lv_at hl 0 rfl) ?_
    refine lv_if_eq (tgt := 43) hx hb dX10_sign_36 (by decide) (fun hc => ?_) (fun hc => ?_)
    · replace hf := if_t hc hf
      refine lv_iconst (v := 0) hx hb dX10_sign_43 (by decide) ?_
      refine lv_iadd hx hb dX10_sign_44 ?_
      refine k_put (v := .int (u_spot + 0)) (ty := .int) (ws' := [(q, .inr (9, [.int u_refusal, .ref q_script, .int u_scriptSize, .int (u_spot + 0), .ref q_readRow, .ref q_now, .ref q_trial, .ref q_diary, .int u_acts, .ref q_kept, .ref q_isKept, .int u_slides, .ref q_sums, .ref q_primes, .ref q_turned])), (q_script, .inl (cI, 160, .inl u_script))]) C hE hW iX10 tyX10_ok nmX10 0 rfl rfl 3 (by decide) f105 (fun _ h9 => h9) rfl (by decide +kernel) rfl rfl (Nat.le_of_ble_eq_true rfl) rfl dX10_sign_45 (fun H locs hW => ?_)
      refine lv_iload_n hx hb dX10_sign_48 rfl (lv_at hl 0 rfl) ?_
      obtain ⟨v6, h7, hf⟩ := bd1_s hf
      obtain ⟨hn8, rfl⟩ := zb_s h7
      obtain ⟨rfl, rfl⟩ := sm2 hf
      exact k_zret C hlocks hr hW hn8 hQ dX10_sign_49
    · replace hf := if_f hc hf
      refine lv_iconst (v := 1) hx hb dX10_sign_39 (by decide) ?_
      refine lv_goto (tgt := 44) hx hb dX10_sign_40 (by decide) ?_
      refine lv_iadd hx hb dX10_sign_44 ?_
      refine k_put (v := .int (u_spot + 1)) (ty := .int) (ws' := [(q, .inr (9, [.int u_refusal, .ref q_script, .int u_scriptSize, .int (u_spot + 1), .ref q_readRow, .ref q_now, .ref q_trial, .ref q_diary, .int u_acts, .ref q_kept, .ref q_isKept, .int u_slides, .ref q_sums, .ref q_primes, .ref q_turned])), (q_script, .inl (cI, 160, .inl u_script))]) C hE hW iX10 tyX10_ok nmX10 0 rfl rfl 3 (by decide) f105 (fun _ h9 => h9) rfl (by decide +kernel) rfl rfl (Nat.le_of_ble_eq_true rfl) rfl dX10_sign_45 (fun H locs hW => ?_)
      refine lv_iload_n hx hb dX10_sign_48 rfl (lv_at hl 0 rfl) ?_
      obtain ⟨v9, h10, hf⟩ := bd1_s hf
      obtain ⟨hn11, rfl⟩ := zb_s h10
      obtain ⟨rfl, rfl⟩ := sm2 hf
      exact k_zret C hlocks hr hW hn11 hQ dX10_sign_49
  refine lv_icmp_ge (tgt := 28) hx hb dX10_sign_8 (by decide) (fun hc => ?_) (fun hc => ?_)
  · replace hd2 := if_t hc hd2
    refine lv_iconst (v := 0) hx hb dX10_sign_28 (by decide) ?_
    obtain rfl := Option.some.inj hd2
    exact J3 _ _ _ hW (lv_sub hl [0] rfl)
  · replace hd2 := if_f hc hd2
    refine lv_aload_n hx hb dX10_sign_11 rfl (lv_at hl 0 rfl) ?_
    refine k_get C hE hW iX10 0 rfl rfl 1 (by decide) f7 (fun _ h9 => h9) rfl dX10_sign_12 ?_
    refine lv_aload_n hx hb dX10_sign_15 rfl (lv_at hl 0 rfl) ?_
    refine k_get C hE hW iX10 0 rfl rfl 3 (by decide) f105 (fun _ h9 => h9) rfl dX10_sign_16 ?_
    obtain ⟨v4, h5, hd2⟩ := bd1_s hd2
    refine k_iald C hE hW 1 rfl h5 dX10_sign_19 ?_
    refine lv_iload_n hx hb dX10_sign_20 rfl (lv_at hl 1 rfl) ?_
    refine lv_icmp_ne (tgt := 28) hx hb dX10_sign_21 (by decide) (fun hc => ?_) (fun hc => ?_)
    · replace hd2 := if_f hc hd2
      refine lv_iconst (v := 0) hx hb dX10_sign_28 (by decide) ?_
      obtain rfl := Option.some.inj hd2
      exact J3 _ _ _ hW (lv_sub hl [0] rfl)
    · replace hd2 := if_t hc hd2
      refine lv_iconst (v := 1) hx hb dX10_sign_24 (by decide) ?_
      refine lv_goto (tgt := 29) hx hb dX10_sign_25 (by decide) ?_
      obtain rfl := Option.some.inj hd2
      exact J3 _ _ _ hW (lv_sub hl [0] rfl)

set_option maxHeartbeats 4000000 in
set_option maxRecDepth 100000 in
theorem kX10_readCell (l : Launch) (D : va_G) (cI cZ cJ : ClassId) (sz : Nat) (q q_script q_readRow q_now q_trial q_diary q_kept q_isKept q_sums q_primes q_turned : Nat) (u_refusal : Int32) (u_scriptSize : Int32) (u_spot : Int32) (u_acts : Int32) (u_slides : Int32) (u_script : Nat → Int32) (u_readRow : Nat → Int32) (p0 : Int32) (p1 : Int32) (r : Int32) (u_spot' : Int32) (u_readRow' : Nat → Int32) (hf : pX10_readCell u_scriptSize u_spot u_script u_readRow p0 p1 = some (r, u_spot', u_readRow')) : kMet l D cI cZ cJ yX10_readCell wsX10_readCell 2 47 [.ref q, .int p0, .int p1] [(q, .inr (9, [.int u_refusal, .ref q_script, .int u_scriptSize, .int u_spot, .ref q_readRow, .ref q_now, .ref q_trial, .ref q_diary, .int u_acts, .ref q_kept, .ref q_isKept, .int u_slides, .ref q_sums, .ref q_primes, .ref q_turned])), (q_script, .inl (cI, 160, .inl u_script)), (q_readRow, .inl (cI, 84, .inl u_readRow))] sz (some (.int r)) [(q, .inr (9, [.int u_refusal, .ref q_script, .int u_scriptSize, .int u_spot', .ref q_readRow, .ref q_now, .ref q_trial, .ref q_diary, .int u_acts, .ref q_kept, .ref q_isKept, .int u_slides, .ref q_sums, .ref q_primes, .ref q_turned])), (q_script, .inl (cI, 160, .inl u_script)), (q_readRow, .inl (cI, 84, .inl u_readRow'))] := by
  refine kM_of (cc := cX10_readCell) (maxL := 9) (ret := (some .boolean)) (by decide) rfl (Nat.le_of_ble_eq_true rfl) ?_
  intro p e s m args below meth c A Q ls hQ C hlocks hr hE hW hl
  have hx := C.1
  have hb := C.2.1
  have hts := C.2.2.2.2
  have hl : lv_has ls 9 [(0, .ref q), (1, .int p0), (2, .int p1)] := hl
  have iX10 : ∀ w ∈ u_ws RX10 TX10 15, w ∈ wsX10_readCell := by decide +kernel
  have f13 := hts (.fieldLink RX10 13 "SortedTablesModel" "readRow" "[I") (by decide +kernel)
  unfold pX10_readCell at hf
  refine lv_aload_n hx hb dX10_readCell_0 rfl (lv_at hl 0 rfl) ?_
  refine k_get C hE hW iX10 0 rfl rfl 4 (by decide) f13 (fun _ h9 => h9) rfl dX10_readCell_1 ?_
  refine lv_iload_n hx hb dX10_readCell_4 rfl (lv_at hl 1 rfl) ?_
  refine lv_iload_n hx hb dX10_readCell_5 rfl (lv_at hl 2 rfl) ?_
  obtain ⟨v1, h2, hf⟩ := bd1_s hf
  refine k_callSR (As := [.ref q_readRow, .int p0, .int p1]) (n := 3) (rest := []) (st1 := [.int v1]) C hE hW hl.1 (kX10_length l D cI cZ cJ _ q_readRow u_readRow p0 p1 v1 h2) gX10_readCell_X10_length rfl (by decide +kernel) rfl ⟨Nat.le_of_ble_eq_true rfl, Nat.le_of_ble_eq_true rfl⟩ ⟨Nat.zero_le _, Nat.zero_le _⟩ [2] rfl rfl (Nat.le_of_ble_eq_true rfl) rfl rfl dX10_readCell_6 (fun H locs hW => ?_)
  refine lv_istore_n (lv' := [(3, .int v1), (0, .ref q), (1, .int p0), (2, .int p1)]) hx hb dX10_readCell_9 rfl hl (by decide) rfl (fun ls hl => ?_)
  refine lv_iload_n hx hb dX10_readCell_10 rfl (lv_at hl 0 rfl) ?_
  refine lv_iload_n hx hb dX10_readCell_11 rfl (lv_at hl 3 rfl) ?_
  obtain ⟨j3, hd4, hf⟩ := bd1_s hf
  have J5 : ∀ (H : Heap) (locs : List Loc) (ls : Array Slot), kH D A s H locs [(q, .inr (9, [.int u_refusal, .ref q_script, .int u_scriptSize, .int u_spot, .ref q_readRow, .ref q_now, .ref q_trial, .ref q_diary, .int u_acts, .ref q_kept, .ref q_isKept, .int u_slides, .ref q_sums, .ref q_primes, .ref q_turned])), (q_script, .inl (cI, 160, .inl u_script)), (q_readRow, .inl (cI, 84, .inl u_readRow))] → lv_has ls 9 [(0, .ref q), (1, .int p0), (2, .int p1), (3, .int v1)] → W p l e (kRm 2 47 0 0) s m args below meth c H locs 0 0 Q (F0 m 31 ls [.int j3, .int v1]) := by
    intro H locs ls hW hl
    refine lv_icmp_ne (tgt := 36) hx hb dX10_readCell_31 (by decide) (fun hc => ?_) (fun hc => ?_)
    · replace hf := if_f hc hf
      refine lv_iload_n hx hb dX10_readCell_36 rfl (lv_at hl 2 rfl) ?_
      obtain ⟨j8, hd9, hf⟩ := bd1_s hf
      have J10 : ∀ (H : Heap) (locs : List Loc) (ls : Array Slot), kH D A s H locs [(q, .inr (9, [.int u_refusal, .ref q_script, .int u_scriptSize, .int u_spot, .ref q_readRow, .ref q_now, .ref q_trial, .ref q_diary, .int u_acts, .ref q_kept, .ref q_isKept, .int u_slides, .ref q_sums, .ref q_primes, .ref q_turned])), (q_script, .inl (cI, 160, .inl u_script)), (q_readRow, .inl (cI, 84, .inl u_readRow))] → lv_has ls 9 [(0, .ref q), (1, .int p0), (2, .int p1), (3, .int v1)] → W p l e (kRm 2 47 0 0) s m args below meth c H locs 0 0 Q (F0 m 56 ls [.int j8]) := by
        intro H locs ls hW hl
        refine lv_istore (lv' := [(4, .int j8), (0, .ref q), (1, .int p0), (2, .int p1), (3, .int v1)]) hx hb dX10_readCell_56 hl (by decide) rfl (fun ls hl => ?_)
        refine lv_iload_n hx hb dX10_readCell_58 rfl (lv_at hl 4 rfl) ?_
        obtain ⟨j13, hd14, hf⟩ := bd1_s hf
        have J15 : ∀ (H : Heap) (locs : List Loc) (ls : Array Slot), kH D A s H locs [(q, .inr (9, [.int u_refusal, .ref q_script, .int u_scriptSize, .int u_spot, .ref q_readRow, .ref q_now, .ref q_trial, .ref q_diary, .int u_acts, .ref q_kept, .ref q_isKept, .int u_slides, .ref q_sums, .ref q_primes, .ref q_turned])), (q_script, .inl (cI, 160, .inl u_script)), (q_readRow, .inl (cI, 84, .inl u_readRow))] → lv_has ls 9 [(0, .ref q), (1, .int p0), (2, .int p1), (3, .int v1), (4, .int j8)] → W p l e (kRm 2 47 0 0) s m args below meth c H locs 0 0 Q (F0 m 78 ls [.int j13]) := by
          intro H locs ls hW hl
          refine lv_istore (lv' := [(5, .int j13), (0, .ref q), (1, .int p0), (2, .int p1), (3, .int v1), (4, .int j8)]) hx hb dX10_readCell_78 hl (by decide) rfl (fun ls hl => ?_)
          refine lv_iload hx hb dX10_readCell_80 (lv_at hl 5 rfl) ?_
          refine lv_iload hx hb dX10_readCell_82 (lv_at hl 0 rfl) ?_
          obtain ⟨j18, hd19, hf⟩ := bd1_s hf
          have J20 : ∀ (H : Heap) (locs : List Loc) (ls : Array Slot), kH D A s H locs [(q, .inr (9, [.int u_refusal, .ref q_script, .int u_scriptSize, .int u_spot, .ref q_readRow, .ref q_now, .ref q_trial, .ref q_diary, .int u_acts, .ref q_kept, .ref q_isKept, .int u_slides, .ref q_sums, .ref q_primes, .ref q_turned])), (q_script, .inl (cI, 160, .inl u_script)), (q_readRow, .inl (cI, 84, .inl u_readRow))] → lv_has ls 9 [(0, .ref q), (1, .int p0), (2, .int p1), (3, .int v1)] → W p l e (kRm 2 47 0 0) s m args below meth c H locs 0 0 Q (F0 m 94 ls [.int j18]) := by
            intro H locs ls hW hl
            refine lv_istore (lv' := [(6, .int j18), (0, .ref q), (1, .int p0), (2, .int p1), (3, .int v1)]) hx hb dX10_readCell_94 hl (by decide) rfl (fun ls hl => ?_)
            refine lv_aload_n hx hb dX10_readCell_96 rfl (lv_at hl 1 rfl) ?_
            refine lv_iload hx hb dX10_readCell_97 (lv_at hl 0 rfl) ?_
            refine lv_bipush (v := 10) hx hb dX10_readCell_99 (by decide) ?_
            refine lv_idiv hx hb dX10_readCell_101 (by decide) ?_
            obtain ⟨⟨v21, w22⟩, h23, hf⟩ := bd1_s hf
            replace hf := un2_s hf
            refine k_callV (b := q) (ci := 9) (qb := 0) (As := [.int (j18 / 10)]) (n := 1) (rest := []) (st1 := [.int v21]) (wr := [(q_readRow, .inl (cI, 84, .inl u_readRow))]) (ws' := [(q, .inr (9, [.int u_refusal, .ref q_script, .int u_scriptSize, .int w22, .ref q_readRow, .ref q_now, .ref q_trial, .ref q_diary, .int u_acts, .ref q_kept, .ref q_isKept, .int u_slides, .ref q_sums, .ref q_primes, .ref q_turned])), (q_script, .inl (cI, 160, .inl u_script)), (q_readRow, .inl (cI, 84, .inl u_readRow))]) C hE hW hl.1 (kX10_digit l D cI cZ cJ _ q q_script q_readRow q_now q_trial q_diary q_kept q_isKept q_sums q_primes q_turned u_refusal u_scriptSize u_spot u_acts u_slides u_script (j18 / 10) v21 w22 h23) gX10_readCell_X10_digit rfl (by decide +kernel) rfl ⟨Nat.le_of_ble_eq_true rfl, Nat.le_of_ble_eq_true rfl⟩ ⟨Nat.zero_le _, Nat.zero_le _⟩ rfl rfl [0, 1] [2] [1, 2, 0] rfl rfl rfl rfl (by decide) rfl rfl (Nat.le_of_ble_eq_true rfl) rfl rfl dX10_readCell_102 (fun H locs hW => ?_)
            refine lv_istore (lv' := [(7, .int v21), (6, .int j18), (0, .ref q), (1, .int p0), (2, .int p1), (3, .int v1)]) hx hb dX10_readCell_105 hl (by decide) rfl (fun ls hl => ?_)
            refine lv_iload hx hb dX10_readCell_107 (lv_at hl 0 rfl) ?_
            refine lv_bipush (v := (-9)) hx hb dX10_readCell_109 (by decide) ?_
            obtain ⟨⟨j24, w25⟩, hd26, hf⟩ := bd1_s hf
            replace hf := un2_s hf
            have J27 : ∀ (H : Heap) (locs : List Loc) (ls : Array Slot), kH D A s H locs [(q, .inr (9, [.int u_refusal, .ref q_script, .int u_scriptSize, .int w25, .ref q_readRow, .ref q_now, .ref q_trial, .ref q_diary, .int u_acts, .ref q_kept, .ref q_isKept, .int u_slides, .ref q_sums, .ref q_primes, .ref q_turned])), (q_script, .inl (cI, 160, .inl u_script)), (q_readRow, .inl (cI, 84, .inl u_readRow))] → lv_has ls 9 [(0, .ref q), (1, .int p0), (2, .int p1), (3, .int v1), (7, .int v21)] → W p l e (kRm 2 47 0 0) s m args below meth c H locs 0 0 Q (F0 m 142 ls [.int j24]) := by
              intro H locs ls hW hl
              refine lv_istore (lv' := [(8, .int j24), (0, .ref q), (1, .int p0), (2, .int p1), (3, .int v1), (7, .int v21)]) hx hb dX10_readCell_142 hl (by decide) rfl (fun ls hl => ?_)
              refine lv_iload hx hb dX10_readCell_144 (lv_at hl 0 rfl) ?_
              refine lv_bipush (v := (-9)) hx hb dX10_readCell_146 (by decide) ?_
              refine lv_icmp_ne (tgt := 153) hx hb dX10_readCell_148 (by decide) (fun hc => ?_) (fun hc => ?_)
              · replace hf := if_f hc hf
                refine lv_aload_n hx hb dX10_readCell_153 rfl (lv_at hl 1 rfl) ?_
                refine k_get C hE hW iX10 0 rfl rfl 4 (by decide) f13 (fun _ h9 => h9) rfl dX10_readCell_154 ?_
                refine lv_iload_n hx hb dX10_readCell_157 rfl (lv_at hl 2 rfl) ?_
                refine lv_iload_n hx hb dX10_readCell_158 rfl (lv_at hl 3 rfl) ?_
                refine lv_iload_n hx hb dX10_readCell_159 rfl (lv_at hl 4 rfl) ?_
                refine lv_bipush (v := 10) hx hb dX10_readCell_160 (by decide) ?_
                refine lv_iload hx hb dX10_readCell_162 (lv_at hl 5 rfl) ?_
                refine lv_imul hx hb dX10_readCell_164 ?_
                refine lv_iload hx hb dX10_readCell_165 (lv_at hl 0 rfl) ?_
                refine lv_iadd hx hb dX10_readCell_167 ?_
                obtain ⟨w34, h35, hf⟩ := bd1_s hf
                refine k_callS (As := [.ref q_readRow, .int p0, .int p1, .int v1, .int ((10 * v21) + j24)]) (n := 5) (rest := []) (st1 := []) (wr := [(q, .inr (9, [.int u_refusal, .ref q_script, .int u_scriptSize, .int w25, .ref q_readRow, .ref q_now, .ref q_trial, .ref q_diary, .int u_acts, .ref q_kept, .ref q_isKept, .int u_slides, .ref q_sums, .ref q_primes, .ref q_turned])), (q_script, .inl (cI, 160, .inl u_script))]) (ws' := [(q, .inr (9, [.int u_refusal, .ref q_script, .int u_scriptSize, .int w25, .ref q_readRow, .ref q_now, .ref q_trial, .ref q_diary, .int u_acts, .ref q_kept, .ref q_isKept, .int u_slides, .ref q_sums, .ref q_primes, .ref q_turned])), (q_script, .inl (cI, 160, .inl u_script)), (q_readRow, .inl (cI, 84, .inl w34))]) C hE hW hl.1 (kX10_set l D cI cZ cJ _ q_readRow u_readRow p0 p1 v1 ((10 * v21) + j24) w34 h35) gX10_readCell_X10_set rfl (by decide +kernel) rfl ⟨Nat.le_of_ble_eq_true rfl, Nat.le_of_ble_eq_true rfl⟩ ⟨Nat.zero_le _, Nat.zero_le _⟩ [2] [0, 1] [0, 1, 2] rfl rfl rfl rfl (by decide) rfl rfl (Nat.le_of_ble_eq_true rfl) rfl rfl dX10_readCell_168 (fun H locs hW => ?_)
                refine lv_aload_n hx hb dX10_readCell_171 rfl (lv_at hl 1 rfl) ?_
                refine k_get C hE hW iX10 0 rfl rfl 4 (by decide) f13 (fun _ h9 => h9) rfl dX10_readCell_172 ?_
                refine lv_bipush (v := 42) hx hb dX10_readCell_175 (by decide) ?_
                refine lv_iload_n hx hb dX10_readCell_177 rfl (lv_at hl 2 rfl) ?_
                refine lv_imul hx hb dX10_readCell_178 ?_
                refine lv_bipush (v := 36) hx hb dX10_readCell_179 (by decide) ?_
                refine lv_iadd hx hb dX10_readCell_181 ?_
                refine lv_iload_n hx hb dX10_readCell_182 rfl (lv_at hl 3 rfl) ?_
                refine lv_iadd hx hb dX10_readCell_183 ?_
                refine lv_dup2_11 hx hb dX10_readCell_184 rfl rfl ?_
                obtain ⟨v36, h37, hf⟩ := bd1_s hf
                refine k_iald C hE hW 2 rfl h37 dX10_readCell_185 ?_
                refine lv_iconst (v := 1) hx hb dX10_readCell_186 (by decide) ?_
                refine lv_iadd hx hb dX10_readCell_187 ?_
                obtain ⟨w38, h39, hf⟩ := bd1_s hf
                refine k_iast (ws' := [(q, .inr (9, [.int u_refusal, .ref q_script, .int u_scriptSize, .int w25, .ref q_readRow, .ref q_now, .ref q_trial, .ref q_diary, .int u_acts, .ref q_kept, .ref q_isKept, .int u_slides, .ref q_sums, .ref q_primes, .ref q_turned])), (q_script, .inl (cI, 160, .inl u_script)), (q_readRow, .inl (cI, 84, .inl w38))]) C hE hW 2 rfl h39 rfl dX10_readCell_188 (fun H locs hW => ?_)
                refine lv_iconst (v := 1) hx hb dX10_readCell_189 (by decide) ?_
                obtain ⟨rfl, rfl, rfl⟩ := sm3 hf
                exact k_zret C hlocks hr hW (by decide) hQ dX10_readCell_190
              · replace hf := if_t hc hf
                refine lv_iconst (v := 0) hx hb dX10_readCell_151 (by decide) ?_
                obtain ⟨rfl, rfl, rfl⟩ := sm3 hf
                exact k_zret C hlocks hr hW (by decide) hQ dX10_readCell_152
            refine lv_icmp_ne (tgt := 119) hx hb dX10_readCell_111 (by decide) (fun hc => ?_) (fun hc => ?_)
            · replace hd26 := if_f hc hd26
              refine lv_aload_n hx hb dX10_readCell_119 rfl (lv_at hl 2 rfl) ?_
              refine lv_iload hx hb dX10_readCell_120 (lv_at hl 0 rfl) ?_
              refine lv_iload hx hb dX10_readCell_122 (lv_at hl 1 rfl) ?_
              refine lv_bipush (v := 10) hx hb dX10_readCell_124 (by decide) ?_
              refine lv_idiv hx hb dX10_readCell_126 (by decide) ?_
              obtain ⟨j28, hd29, hd26⟩ := bd1_s hd26
              have J30 : ∀ (H : Heap) (locs : List Loc) (ls : Array Slot), kH D A s H locs [(q, .inr (9, [.int u_refusal, .ref q_script, .int u_scriptSize, .int w22, .ref q_readRow, .ref q_now, .ref q_trial, .ref q_diary, .int u_acts, .ref q_kept, .ref q_isKept, .int u_slides, .ref q_sums, .ref q_primes, .ref q_turned])), (q_script, .inl (cI, 160, .inl u_script)), (q_readRow, .inl (cI, 84, .inl u_readRow))] → lv_has ls 9 [(0, .ref q), (1, .int p0), (2, .int p1), (3, .int v1), (7, .int v21)] → W p l e (kRm 2 47 0 0) s m args below meth c H locs 0 0 Q (F0 m 139 ls [.int j28, .ref q]) := by
                intro H locs ls hW hl
                obtain ⟨⟨v31, w32⟩, h33, hd26⟩ := bd1_s hd26
                replace hd26 := un2_s hd26
                refine k_callV (b := q) (ci := 9) (qb := 0) (As := [.int j28]) (n := 1) (rest := []) (st1 := [.int v31]) (wr := [(q_readRow, .inl (cI, 84, .inl u_readRow))]) (ws' := [(q, .inr (9, [.int u_refusal, .ref q_script, .int u_scriptSize, .int w32, .ref q_readRow, .ref q_now, .ref q_trial, .ref q_diary, .int u_acts, .ref q_kept, .ref q_isKept, .int u_slides, .ref q_sums, .ref q_primes, .ref q_turned])), (q_script, .inl (cI, 160, .inl u_script)), (q_readRow, .inl (cI, 84, .inl u_readRow))]) C hE hW hl.1 (kX10_digit l D cI cZ cJ _ q q_script q_readRow q_now q_trial q_diary q_kept q_isKept q_sums q_primes q_turned u_refusal u_scriptSize w22 u_acts u_slides u_script j28 v31 w32 h33) gX10_readCell_X10_digit rfl (by decide +kernel) rfl ⟨Nat.le_of_ble_eq_true rfl, Nat.le_of_ble_eq_true rfl⟩ ⟨Nat.zero_le _, Nat.zero_le _⟩ rfl rfl [0, 1] [2] [1, 2, 0] rfl rfl rfl rfl (by decide) rfl rfl (Nat.le_of_ble_eq_true rfl) rfl rfl dX10_readCell_139 (fun H locs hW => ?_)
                obtain ⟨rfl, rfl⟩ := sm2 hd26
                exact J27 _ _ _ hW (lv_sub hl [0, 1, 2, 3, 4] rfl)
              refine lv_icmp_ne (tgt := 138) hx hb dX10_readCell_127 (by decide) (fun hc => ?_) (fun hc => ?_)
              · replace hd29 := if_f hc hd29
                refine lv_iconst (v := 0) hx hb dX10_readCell_138 (by decide) ?_
                obtain rfl := Option.some.inj hd29
                exact J30 _ _ _ hW (lv_sub hl [2, 3, 4, 5, 0] rfl)
              · replace hd29 := if_t hc hd29
                refine lv_iload hx hb dX10_readCell_130 (lv_at hl 1 rfl) ?_
                refine lv_bipush (v := 10) hx hb dX10_readCell_132 (by decide) ?_
                refine lv_irem hx hb dX10_readCell_134 (by decide) ?_
                refine lv_goto (tgt := 139) hx hb dX10_readCell_135 (by decide) ?_
                obtain rfl := Option.some.inj hd29
                exact J30 _ _ _ hW (lv_sub hl [2, 3, 4, 5, 0] rfl)
            · replace hd26 := if_t hc hd26
              refine lv_bipush (v := (-9)) hx hb dX10_readCell_114 (by decide) ?_
              refine lv_goto (tgt := 142) hx hb dX10_readCell_116 (by decide) ?_
              obtain ⟨rfl, rfl⟩ := sm2 hd26
              exact J27 _ _ _ hW (lv_sub hl [2, 3, 4, 5, 0] rfl)
          refine lv_icmp_le (tgt := 92) hx hb dX10_readCell_84 (by decide) (fun hc => ?_) (fun hc => ?_)
          · replace hd19 := if_t hc hd19
            refine lv_iload hx hb dX10_readCell_92 (lv_at hl 0 rfl) ?_
            obtain rfl := Option.some.inj hd19
            exact J20 _ _ _ hW (lv_sub hl [1, 2, 3, 4] rfl)
          · replace hd19 := if_f hc hd19
            refine lv_iload hx hb dX10_readCell_87 (lv_at hl 5 rfl) ?_
            refine lv_goto (tgt := 94) hx hb dX10_readCell_89 (by decide) ?_
            obtain rfl := Option.some.inj hd19
            exact J20 _ _ _ hW (lv_sub hl [1, 2, 3, 4] rfl)
        refine lv_if_le (tgt := 77) hx hb dX10_readCell_59 (by decide) (fun hc => ?_) (fun hc => ?_)
        · replace hd14 := if_t hc hd14
          refine lv_iconst (v := 0) hx hb dX10_readCell_77 (by decide) ?_
          obtain rfl := Option.some.inj hd14
          exact J15 _ _ _ hW (lv_sub hl [1, 2, 3, 4, 0] rfl)
        · replace hd14 := if_f hc hd14
          refine lv_aload_n hx hb dX10_readCell_62 rfl (lv_at hl 1 rfl) ?_
          refine k_get C hE hW iX10 0 rfl rfl 4 (by decide) f13 (fun _ h9 => h9) rfl dX10_readCell_63 ?_
          refine lv_iload_n hx hb dX10_readCell_66 rfl (lv_at hl 2 rfl) ?_
          refine lv_iload_n hx hb dX10_readCell_67 rfl (lv_at hl 3 rfl) ?_
          refine lv_iload_n hx hb dX10_readCell_68 rfl (lv_at hl 4 rfl) ?_
          refine lv_iconst (v := 1) hx hb dX10_readCell_69 (by decide) ?_
          refine lv_isub hx hb dX10_readCell_70 ?_
          obtain ⟨v16, h17, hd14⟩ := bd1_s hd14
          refine k_callSR (As := [.ref q_readRow, .int p0, .int p1, .int (v1 - 1)]) (n := 4) (rest := []) (st1 := [.int v16]) C hE hW hl.1 (kX10_get l D cI cZ cJ _ q_readRow u_readRow p0 p1 (v1 - 1) v16 h17) gX10_readCell_X10_get rfl (by decide +kernel) rfl ⟨Nat.le_of_ble_eq_true rfl, Nat.le_of_ble_eq_true rfl⟩ ⟨Nat.zero_le _, Nat.zero_le _⟩ [2] rfl rfl (Nat.le_of_ble_eq_true rfl) rfl rfl dX10_readCell_71 (fun H locs hW => ?_)
          refine lv_goto (tgt := 78) hx hb dX10_readCell_74 (by decide) ?_
          obtain rfl := Option.some.inj hd14
          exact J15 _ _ _ hW (lv_sub hl [1, 2, 3, 4, 0] rfl)
      refine lv_if_le (tgt := 55) hx hb dX10_readCell_37 (by decide) (fun hc => ?_) (fun hc => ?_)
      · replace hd9 := if_t hc hd9
        refine lv_iconst (v := 0) hx hb dX10_readCell_55 (by decide) ?_
        obtain rfl := Option.some.inj hd9
        exact J10 _ _ _ hW (lv_sub hl [0, 1, 2, 3] rfl)
      · replace hd9 := if_f hc hd9
        refine lv_aload_n hx hb dX10_readCell_40 rfl (lv_at hl 0 rfl) ?_
        refine k_get C hE hW iX10 0 rfl rfl 4 (by decide) f13 (fun _ h9 => h9) rfl dX10_readCell_41 ?_
        refine lv_iload_n hx hb dX10_readCell_44 rfl (lv_at hl 1 rfl) ?_
        refine lv_iload_n hx hb dX10_readCell_45 rfl (lv_at hl 2 rfl) ?_
        refine lv_iconst (v := 1) hx hb dX10_readCell_46 (by decide) ?_
        refine lv_isub hx hb dX10_readCell_47 ?_
        refine lv_iload_n hx hb dX10_readCell_48 rfl (lv_at hl 3 rfl) ?_
        obtain ⟨v11, h12, hd9⟩ := bd1_s hd9
        refine k_callSR (As := [.ref q_readRow, .int p0, .int (p1 - 1), .int v1]) (n := 4) (rest := []) (st1 := [.int v11]) C hE hW hl.1 (kX10_get l D cI cZ cJ _ q_readRow u_readRow p0 (p1 - 1) v1 v11 h12) gX10_readCell_X10_get rfl (by decide +kernel) rfl ⟨Nat.le_of_ble_eq_true rfl, Nat.le_of_ble_eq_true rfl⟩ ⟨Nat.zero_le _, Nat.zero_le _⟩ [2] rfl rfl (Nat.le_of_ble_eq_true rfl) rfl rfl dX10_readCell_49 (fun H locs hW => ?_)
        refine lv_goto (tgt := 56) hx hb dX10_readCell_52 (by decide) ?_
        obtain rfl := Option.some.inj hd9
        exact J10 _ _ _ hW (lv_sub hl [0, 1, 2, 3] rfl)
    · replace hf := if_t hc hf
      refine lv_iconst (v := 0) hx hb dX10_readCell_34 (by decide) ?_
      obtain ⟨rfl, rfl, rfl⟩ := sm3 hf
      exact k_zret C hlocks hr hW (by decide) hQ dX10_readCell_35
  refine lv_if_ne (tgt := 20) hx hb dX10_readCell_12 (by decide) (fun hc => ?_) (fun hc => ?_)
  · replace hd4 := if_f hc hd4
    refine lv_aload_n hx hb dX10_readCell_20 rfl (lv_at hl 1 rfl) ?_
    refine k_get C hE hW iX10 0 rfl rfl 4 (by decide) f13 (fun _ h9 => h9) rfl dX10_readCell_21 ?_
    refine lv_iload_n hx hb dX10_readCell_24 rfl (lv_at hl 2 rfl) ?_
    refine lv_iload_n hx hb dX10_readCell_25 rfl (lv_at hl 3 rfl) ?_
    refine lv_iconst (v := 1) hx hb dX10_readCell_26 (by decide) ?_
    refine lv_isub hx hb dX10_readCell_27 ?_
    obtain ⟨v6, h7, hd4⟩ := bd1_s hd4
    refine k_callSR (As := [.ref q_readRow, .int p0, .int (p1 - 1)]) (n := 3) (rest := [.int v1]) (st1 := [.int v6, .int v1]) C hE hW hl.1 (kX10_length l D cI cZ cJ _ q_readRow u_readRow p0 (p1 - 1) v6 h7) gX10_readCell_X10_length rfl (by decide +kernel) rfl ⟨Nat.le_of_ble_eq_true rfl, Nat.le_of_ble_eq_true rfl⟩ ⟨Nat.zero_le _, Nat.zero_le _⟩ [2] rfl rfl (Nat.le_of_ble_eq_true rfl) rfl rfl dX10_readCell_28 (fun H locs hW => ?_)
    obtain rfl := Option.some.inj hd4
    exact J5 _ _ _ hW (lv_sub hl [1, 2, 3, 0] rfl)
  · replace hd4 := if_t hc hd4
    refine lv_bipush (v := 6) hx hb dX10_readCell_15 (by decide) ?_
    refine lv_goto (tgt := 31) hx hb dX10_readCell_17 (by decide) ?_
    obtain rfl := Option.some.inj hd4
    exact J5 _ _ _ hW (lv_sub hl [1, 2, 3, 0] rfl)

set_option maxHeartbeats 4000000 in
set_option maxRecDepth 100000 in
theorem kX10_readTable (l : Launch) (D : va_G) (cI cZ cJ : ClassId) (sz : Nat) (q q_script q_readRow q_now q_trial q_diary q_kept q_isKept q_sums q_primes q_turned : Nat) (u_refusal : Int32) (u_scriptSize : Int32) (u_spot : Int32) (u_acts : Int32) (u_slides : Int32) (u_script : Nat → Int32) (u_readRow : Nat → Int32) (p0 : Int32) (r : Int32) (u_spot' : Int32) (u_readRow' : Nat → Int32) (hf : pX10_readTable u_scriptSize u_spot u_script u_readRow p0 = some (r, u_spot', u_readRow')) : kMet l D cI cZ cJ yX10_readTable wsX10_readTable 3 75 [.ref q, .int p0] [(q, .inr (9, [.int u_refusal, .ref q_script, .int u_scriptSize, .int u_spot, .ref q_readRow, .ref q_now, .ref q_trial, .ref q_diary, .int u_acts, .ref q_kept, .ref q_isKept, .int u_slides, .ref q_sums, .ref q_primes, .ref q_turned])), (q_script, .inl (cI, 160, .inl u_script)), (q_readRow, .inl (cI, 84, .inl u_readRow))] sz (some (.int r)) [(q, .inr (9, [.int u_refusal, .ref q_script, .int u_scriptSize, .int u_spot', .ref q_readRow, .ref q_now, .ref q_trial, .ref q_diary, .int u_acts, .ref q_kept, .ref q_isKept, .int u_slides, .ref q_sums, .ref q_primes, .ref q_turned])), (q_script, .inl (cI, 160, .inl u_script)), (q_readRow, .inl (cI, 84, .inl u_readRow'))] := by
  refine kM_of (cc := cX10_readTable) (maxL := 5) (ret := (some .boolean)) (by decide) rfl (Nat.le_of_ble_eq_true rfl) ?_
  intro p e s m args below meth c A Q ls hQ C hlocks hr hE hW hl
  have hx := C.1
  have hb := C.2.1
  have hts := C.2.2.2.2
  have hl : lv_has ls 5 [(0, .ref q), (1, .int p0)] := hl
  have iX10 : ∀ w ∈ u_ws RX10 TX10 15, w ∈ wsX10_readTable := by decide +kernel
  have f105 := hts (.fieldLink RX10 105 "SortedTablesModel" "spot" "I") (by decide +kernel)
  have f7 := hts (.fieldLink RX10 7 "SortedTablesModel" "script" "[I") (by decide +kernel)
  have f99 := hts (.fieldLink RX10 99 "SortedTablesModel" "scriptSize" "I") (by decide +kernel)
  unfold pX10_readTable at hf
  refine lv_iconst (v := 0) hx hb dX10_readTable_0 (by decide) ?_
  refine lv_istore_n (lv' := [(2, .int 0), (0, .ref q), (1, .int p0)]) hx hb dX10_readTable_1 rfl hl (by decide) rfl (fun ls hl => ?_)
  refine lv_aload_n hx hb dX10_readTable_2 rfl (lv_at hl 1 rfl) ?_
  refine k_get C hE hW iX10 0 rfl rfl 3 (by decide) f105 (fun _ h9 => h9) rfl dX10_readTable_3 ?_
  refine lv_aload_n hx hb dX10_readTable_6 rfl (lv_at hl 1 rfl) ?_
  refine k_get C hE hW iX10 0 rfl rfl 2 (by decide) f99 (fun _ h9 => h9) rfl dX10_readTable_7 ?_
  obtain ⟨j1, hd2, hf⟩ := bd1_s hf
  have J3 : ∀ (H : Heap) (locs : List Loc) (ls : Array Slot), kH D A s H locs [(q, .inr (9, [.int u_refusal, .ref q_script, .int u_scriptSize, .int u_spot, .ref q_readRow, .ref q_now, .ref q_trial, .ref q_diary, .int u_acts, .ref q_kept, .ref q_isKept, .int u_slides, .ref q_sums, .ref q_primes, .ref q_turned])), (q_script, .inl (cI, 160, .inl u_script)), (q_readRow, .inl (cI, 84, .inl u_readRow))] → lv_has ls 5 [(0, .ref q), (1, .int p0), (2, .int 0)] → W p l e (kRm 3 75 0 0) s m args below meth c H locs 0 0 Q (F0 m 32 ls [.int j1]) := by
    intro H locs ls hW hl
    refine lv_istore_n (lv' := [(3, .int j1), (0, .ref q), (1, .int p0), (2, .int 0)]) hx hb dX10_readTable_32 rfl hl (by decide) rfl (fun ls hl => ?_)
    obtain ⟨xx16, hx130, hf⟩ := bd1_s hf
    have J14 : ∀ (w10 : Int32) (w11 : Nat → Int32), pX10_readTable_R124 w10 w11 = some (r, u_spot', u_readRow') → ∀ (H : Heap) (locs : List Loc) (ls : Array Slot), kH D A s H locs [(q, .inr (9, [.int u_refusal, .ref q_script, .int u_scriptSize, .int w10, .ref q_readRow, .ref q_now, .ref q_trial, .ref q_diary, .int u_acts, .ref q_kept, .ref q_isKept, .int u_slides, .ref q_sums, .ref q_primes, .ref q_turned])), (q_script, .inl (cI, 160, .inl u_script)), (q_readRow, .inl (cI, 84, .inl w11))] → lv_has ls 5 [] → W p l e (kRm 3 75 0 0) s m args below meth c H locs 0 0 Q (F0 m 124 ls []) := by
      intro w10 w11 hf H locs ls hW hl
      unfold pX10_readTable_R124 at hf
      refine lv_iconst (v := 1) hx hb dX10_readTable_124 (by decide) ?_
      obtain ⟨rfl, rfl, rfl⟩ := sm3 hf
      exact k_zret C hlocks hr hW (by decide) hQ dX10_readTable_125
    have L15 : ∀ (n : Nat) (i6 : Int32) (i7 : Int32) (w8 : Int32) (w9 : Nat → Int32), lpI n (un4 (pX10_readTable_L33 u_scriptSize u_script p0)) (i6, i7, w8, w9) = some xx16 → ∀ (H : Heap) (locs : List Loc) (ls : Array Slot), kH D A s H locs [(q, .inr (9, [.int u_refusal, .ref q_script, .int u_scriptSize, .int w8, .ref q_readRow, .ref q_now, .ref q_trial, .ref q_diary, .int u_acts, .ref q_kept, .ref q_isKept, .int u_slides, .ref q_sums, .ref q_primes, .ref q_turned])), (q_script, .inl (cI, 160, .inl u_script)), (q_readRow, .inl (cI, 84, .inl w9))] → lv_has ls 5 [(3, .int i6), (0, .ref q), (1, .int p0), (2, .int i7)] → W p l e (kRm 3 75 0 0) s m args below meth c H locs 0 0 Q (F0 m 33 ls []) := by
      intro n
      induction n with
      | zero => intro i6 i7 w8 w9 hx13; exact (lpI_0 hx13).elim
      | succ n ih17 =>
        intro i6 i7 w8 w9 hx13 H locs ls hW hl
        obtain ⟨ooho12, ho12, hx13⟩ := lpI_s hx13
        replace ho12 := un4_s ho12
        unfold pX10_readTable_L33 at ho12
        refine lv_iload_n hx hb dX10_readTable_33 rfl (lv_at hl 0 rfl) ?_
        refine lv_if_eq (tgt := 124) hx hb dX10_readTable_34 (by decide) (fun hc => ?_) (fun hc => ?_)
        · replace ho12 := if_t hc ho12
          obtain rfl := Option.some.inj ho12
          obtain rfl := lpK_r hx13
          replace hf := el_r hf
          replace hf := un2_s hf
          exact J14 _ _ hf _ _ _ hW (lv_sub hl [] rfl)
        · replace ho12 := if_f hc ho12
          refine lv_aload_n hx hb dX10_readTable_37 rfl (lv_at hl 1 rfl) ?_
          refine lv_iload_n hx hb dX10_readTable_38 rfl (lv_at hl 2 rfl) ?_
          refine lv_iload_n hx hb dX10_readTable_39 rfl (lv_at hl 3 rfl) ?_
          obtain ⟨⟨v18, w19, w20⟩, h21, ho12⟩ := bd1_s ho12
          replace ho12 := un3_s ho12
          refine k_callV (b := q) (ci := 9) (qb := 0) (As := [.int p0, .int i7]) (n := 2) (rest := []) (st1 := [.int v18]) (wr := []) (ws' := [(q, .inr (9, [.int u_refusal, .ref q_script, .int u_scriptSize, .int w19, .ref q_readRow, .ref q_now, .ref q_trial, .ref q_diary, .int u_acts, .ref q_kept, .ref q_isKept, .int u_slides, .ref q_sums, .ref q_primes, .ref q_turned])), (q_script, .inl (cI, 160, .inl u_script)), (q_readRow, .inl (cI, 84, .inl w20))]) C hE hW hl.1 (kX10_readCell l D cI cZ cJ _ q q_script q_readRow q_now q_trial q_diary q_kept q_isKept q_sums q_primes q_turned u_refusal u_scriptSize w8 u_acts u_slides u_script w9 p0 i7 v18 w19 w20 h21) gX10_readTable_X10_readCell rfl (by decide +kernel) rfl ⟨Nat.le_of_ble_eq_true rfl, Nat.le_of_ble_eq_true rfl⟩ ⟨Nat.zero_le _, Nat.zero_le _⟩ rfl rfl [0, 1, 2] [] [0, 1, 2] rfl rfl rfl rfl (by decide) rfl rfl (Nat.le_of_ble_eq_true rfl) rfl rfl dX10_readTable_40 (fun H locs hW => ?_)
          refine lv_if_ne (tgt := 48) hx hb dX10_readTable_43 (by decide) (fun hc => ?_) (fun hc => ?_)
          · replace ho12 := if_f hc ho12
            refine lv_iload_n hx hb dX10_readTable_48 rfl (lv_at hl 3 rfl) ?_
            refine lv_iconst (v := 1) hx hb dX10_readTable_49 (by decide) ?_
            refine lv_iadd hx hb dX10_readTable_50 ?_
            refine lv_bipush (v := 6) hx hb dX10_readTable_51 (by decide) ?_
            obtain ⟨⟨j22, w23⟩, hd24, ho12⟩ := bd1_s ho12
            replace ho12 := un2_s ho12
            have J25 : ∀ (H : Heap) (locs : List Loc) (ls : Array Slot), kH D A s H locs [(q, .inr (9, [.int u_refusal, .ref q_script, .int u_scriptSize, .int w23, .ref q_readRow, .ref q_now, .ref q_trial, .ref q_diary, .int u_acts, .ref q_kept, .ref q_isKept, .int u_slides, .ref q_sums, .ref q_primes, .ref q_turned])), (q_script, .inl (cI, 160, .inl u_script)), (q_readRow, .inl (cI, 84, .inl w20))] → lv_has ls 5 [(0, .ref q), (1, .int p0), (2, .int i7)] → W p l e (kRm 3 75 0 0) s m args below meth c H locs 0 0 Q (F0 m 70 ls [.int j22]) := by
              intro H locs ls hW hl
              refine lv_istore (lv' := [(4, .int j22), (0, .ref q), (1, .int p0), (2, .int i7)]) hx hb dX10_readTable_70 hl (by decide) rfl (fun ls hl => ?_)
              refine lv_iload_n hx hb dX10_readTable_72 rfl (lv_at hl 3 rfl) ?_
              refine lv_iload hx hb dX10_readTable_73 (lv_at hl 0 rfl) ?_
              obtain ⟨j29, hd30, ho12⟩ := bd1_s ho12
              have J31 : ∀ (H : Heap) (locs : List Loc) (ls : Array Slot), kH D A s H locs [(q, .inr (9, [.int u_refusal, .ref q_script, .int u_scriptSize, .int w23, .ref q_readRow, .ref q_now, .ref q_trial, .ref q_diary, .int u_acts, .ref q_kept, .ref q_isKept, .int u_slides, .ref q_sums, .ref q_primes, .ref q_turned])), (q_script, .inl (cI, 160, .inl u_script)), (q_readRow, .inl (cI, 84, .inl w20))] → lv_has ls 5 [(0, .ref q), (1, .int p0), (4, .int j22)] → W p l e (kRm 3 75 0 0) s m args below meth c H locs 0 0 Q (F0 m 83 ls [.int j29, .int i7]) := by
                intro H locs ls hW hl
                refine lv_iadd hx hb dX10_readTable_83 ?_
                refine lv_istore_n (lv' := [(2, .int (i7 + j29)), (0, .ref q), (1, .int p0), (4, .int j22)]) hx hb dX10_readTable_84 rfl hl (by decide) rfl (fun ls hl => ?_)
                refine lv_iload hx hb dX10_readTable_85 (lv_at hl 3 rfl) ?_
                refine lv_if_ne (tgt := 115) hx hb dX10_readTable_87 (by decide) (fun hc => ?_) (fun hc => ?_)
                · replace ho12 := if_f hc ho12
                  refine lv_iconst (v := 1) hx hb dX10_readTable_115 (by decide) ?_
                  refine lv_goto (tgt := 120) hx hb dX10_readTable_116 (by decide) ?_
                  refine lv_istore_n (lv' := [(3, .int 1), (2, .int (i7 + j29)), (0, .ref q), (1, .int p0), (4, .int j22)]) hx hb dX10_readTable_120 rfl hl (by decide) rfl (fun ls hl => ?_)
                  refine lv_goto (tgt := 33) hx hb dX10_readTable_121 (by decide) ?_
                  obtain rfl := Option.some.inj ho12
                  exact ih17 _ _ _ _ hx13 _ _ _ hW (lv_sub hl [0, 2, 3, 1] rfl)
                · replace ho12 := if_t hc ho12
                  refine lv_aload_n hx hb dX10_readTable_90 rfl (lv_at hl 1 rfl) ?_
                  refine k_get C hE hW iX10 0 rfl rfl 3 (by decide) f105 (fun _ h9 => h9) rfl dX10_readTable_91 ?_
                  refine lv_aload_n hx hb dX10_readTable_94 rfl (lv_at hl 1 rfl) ?_
                  refine k_get C hE hW iX10 0 rfl rfl 2 (by decide) f99 (fun _ h9 => h9) rfl dX10_readTable_95 ?_
                  refine lv_icmp_ge (tgt := 119) hx hb dX10_readTable_98 (by decide) (fun hc => ?_) (fun hc => ?_)
                  · replace ho12 := if_t hc ho12
                    refine lv_iconst (v := 0) hx hb dX10_readTable_119 (by decide) ?_
                    refine lv_istore_n (lv' := [(3, .int 0), (2, .int (i7 + j29)), (0, .ref q), (1, .int p0), (4, .int j22)]) hx hb dX10_readTable_120 rfl hl (by decide) rfl (fun ls hl => ?_)
                    refine lv_goto (tgt := 33) hx hb dX10_readTable_121 (by decide) ?_
                    obtain rfl := Option.some.inj ho12
                    exact ih17 _ _ _ _ hx13 _ _ _ hW (lv_sub hl [0, 2, 3, 1] rfl)
                  · replace ho12 := if_f hc ho12
                    refine lv_aload_n hx hb dX10_readTable_101 rfl (lv_at hl 1 rfl) ?_
                    refine k_get C hE hW iX10 0 rfl rfl 1 (by decide) f7 (fun _ h9 => h9) rfl dX10_readTable_102 ?_
                    refine lv_aload_n hx hb dX10_readTable_105 rfl (lv_at hl 1 rfl) ?_
                    refine k_get C hE hW iX10 0 rfl rfl 3 (by decide) f105 (fun _ h9 => h9) rfl dX10_readTable_106 ?_
                    obtain ⟨v32, h33, ho12⟩ := bd1_s ho12
                    refine k_iald C hE hW 1 rfl h33 dX10_readTable_109 ?_
                    refine lv_bipush (v := 59) hx hb dX10_readTable_110 (by decide) ?_
                    refine lv_icmp_eq (tgt := 119) hx hb dX10_readTable_112 (by decide) (fun hc => ?_) (fun hc => ?_)
                    · replace ho12 := if_t hc ho12
                      refine lv_iconst (v := 0) hx hb dX10_readTable_119 (by decide) ?_
                      refine lv_istore_n (lv' := [(3, .int 0), (2, .int (i7 + j29)), (0, .ref q), (1, .int p0), (4, .int j22)]) hx hb dX10_readTable_120 rfl hl (by decide) rfl (fun ls hl => ?_)
                      refine lv_goto (tgt := 33) hx hb dX10_readTable_121 (by decide) ?_
                      obtain rfl := Option.some.inj ho12
                      exact ih17 _ _ _ _ hx13 _ _ _ hW (lv_sub hl [0, 2, 3, 1] rfl)
                    · replace ho12 := if_f hc ho12
                      refine lv_iconst (v := 1) hx hb dX10_readTable_115 (by decide) ?_
                      refine lv_goto (tgt := 120) hx hb dX10_readTable_116 (by decide) ?_
                      refine lv_istore_n (lv' := [(3, .int 1), (2, .int (i7 + j29)), (0, .ref q), (1, .int p0), (4, .int j22)]) hx hb dX10_readTable_120 rfl hl (by decide) rfl (fun ls hl => ?_)
                      refine lv_goto (tgt := 33) hx hb dX10_readTable_121 (by decide) ?_
                      obtain rfl := Option.some.inj ho12
                      exact ih17 _ _ _ _ hx13 _ _ _ hW (lv_sub hl [0, 2, 3, 1] rfl)
              refine lv_if_eq (tgt := 82) hx hb dX10_readTable_75 (by decide) (fun hc => ?_) (fun hc => ?_)
              · replace hd30 := if_t hc hd30
                refine lv_iconst (v := 0) hx hb dX10_readTable_82 (by decide) ?_
                obtain rfl := Option.some.inj hd30
                exact J31 _ _ _ hW (lv_sub hl [1, 2, 0] rfl)
              · replace hd30 := if_f hc hd30
                refine lv_iconst (v := 1) hx hb dX10_readTable_78 (by decide) ?_
                refine lv_goto (tgt := 83) hx hb dX10_readTable_79 (by decide) ?_
                obtain rfl := Option.some.inj hd30
                exact J31 _ _ _ hW (lv_sub hl [1, 2, 0] rfl)
            refine lv_icmp_ge (tgt := 69) hx hb dX10_readTable_53 (by decide) (fun hc => ?_) (fun hc => ?_)
            · replace hd24 := if_t hc hd24
              refine lv_iconst (v := 0) hx hb dX10_readTable_69 (by decide) ?_
              obtain ⟨rfl, rfl⟩ := sm2 hd24
              exact J25 _ _ _ hW (lv_sub hl [1, 2, 3] rfl)
            · replace hd24 := if_f hc hd24
              refine lv_aload_n hx hb dX10_readTable_56 rfl (lv_at hl 1 rfl) ?_
              refine lv_bipush (v := 47) hx hb dX10_readTable_57 (by decide) ?_
              obtain ⟨⟨v26, w27⟩, h28, hd24⟩ := bd1_s hd24
              replace hd24 := un2_s hd24
              refine k_callV (b := q) (ci := 9) (qb := 0) (As := [.int 47]) (n := 1) (rest := []) (st1 := [.int v26]) (wr := [(q_readRow, .inl (cI, 84, .inl w20))]) (ws' := [(q, .inr (9, [.int u_refusal, .ref q_script, .int u_scriptSize, .int w27, .ref q_readRow, .ref q_now, .ref q_trial, .ref q_diary, .int u_acts, .ref q_kept, .ref q_isKept, .int u_slides, .ref q_sums, .ref q_primes, .ref q_turned])), (q_script, .inl (cI, 160, .inl u_script)), (q_readRow, .inl (cI, 84, .inl w20))]) C hE hW hl.1 (kX10_sign l D cI cZ cJ _ q q_script q_readRow q_now q_trial q_diary q_kept q_isKept q_sums q_primes q_turned u_refusal u_scriptSize w19 u_acts u_slides u_script 47 v26 w27 h28) gX10_readTable_X10_sign rfl (by decide +kernel) rfl ⟨Nat.le_of_ble_eq_true rfl, Nat.le_of_ble_eq_true rfl⟩ ⟨Nat.zero_le _, Nat.zero_le _⟩ rfl rfl [0, 1] [2] [1, 2, 0] rfl rfl rfl rfl (by decide) rfl rfl (Nat.le_of_ble_eq_true rfl) rfl rfl dX10_readTable_59 (fun H locs hW => ?_)
              refine lv_if_eq (tgt := 69) hx hb dX10_readTable_62 (by decide) (fun hc => ?_) (fun hc => ?_)
              · replace hd24 := if_t hc hd24
                refine lv_iconst (v := 0) hx hb dX10_readTable_69 (by decide) ?_
                obtain ⟨rfl, rfl⟩ := sm2 hd24
                exact J25 _ _ _ hW (lv_sub hl [1, 2, 3] rfl)
              · replace hd24 := if_f hc hd24
                refine lv_iconst (v := 1) hx hb dX10_readTable_65 (by decide) ?_
                refine lv_goto (tgt := 70) hx hb dX10_readTable_66 (by decide) ?_
                obtain ⟨rfl, rfl⟩ := sm2 hd24
                exact J25 _ _ _ hW (lv_sub hl [1, 2, 3] rfl)
          · replace ho12 := if_t hc ho12
            refine lv_iconst (v := 0) hx hb dX10_readTable_46 (by decide) ?_
            obtain rfl := Option.some.inj ho12
            obtain rfl := lpK_r hx13
            replace hf := el_l hf
            replace hf := un3_s hf
            obtain ⟨rfl, rfl, rfl⟩ := sm3 hf
            exact k_zret C hlocks hr hW (by decide) hQ dX10_readTable_47
    exact L15 lpF _ _ _ _ hx130 _ _ _ hW (lv_sub hl [0, 1, 2, 3] rfl)
  refine lv_icmp_ge (tgt := 31) hx hb dX10_readTable_10 (by decide) (fun hc => ?_) (fun hc => ?_)
  · replace hd2 := if_t hc hd2
    refine lv_iconst (v := 0) hx hb dX10_readTable_31 (by decide) ?_
    obtain rfl := Option.some.inj hd2
    exact J3 _ _ _ hW (lv_sub hl [1, 2, 0] rfl)
  · replace hd2 := if_f hc hd2
    refine lv_aload_n hx hb dX10_readTable_13 rfl (lv_at hl 1 rfl) ?_
    refine k_get C hE hW iX10 0 rfl rfl 1 (by decide) f7 (fun _ h9 => h9) rfl dX10_readTable_14 ?_
    refine lv_aload_n hx hb dX10_readTable_17 rfl (lv_at hl 1 rfl) ?_
    refine k_get C hE hW iX10 0 rfl rfl 3 (by decide) f105 (fun _ h9 => h9) rfl dX10_readTable_18 ?_
    obtain ⟨v4, h5, hd2⟩ := bd1_s hd2
    refine k_iald C hE hW 1 rfl h5 dX10_readTable_21 ?_
    refine lv_bipush (v := 59) hx hb dX10_readTable_22 (by decide) ?_
    refine lv_icmp_eq (tgt := 31) hx hb dX10_readTable_24 (by decide) (fun hc => ?_) (fun hc => ?_)
    · replace hd2 := if_t hc hd2
      refine lv_iconst (v := 0) hx hb dX10_readTable_31 (by decide) ?_
      obtain rfl := Option.some.inj hd2
      exact J3 _ _ _ hW (lv_sub hl [1, 2, 0] rfl)
    · replace hd2 := if_f hc hd2
      refine lv_iconst (v := 1) hx hb dX10_readTable_27 (by decide) ?_
      refine lv_goto (tgt := 32) hx hb dX10_readTable_28 (by decide) ?_
      obtain rfl := Option.some.inj hd2
      exact J3 _ _ _ hW (lv_sub hl [1, 2, 0] rfl)

set_option maxHeartbeats 4000000 in
set_option maxRecDepth 100000 in
theorem kX10_readText (l : Launch) (D : va_G) (cI cZ cJ : ClassId) (sz : Nat) (q q_script q_readRow q_now q_trial q_diary q_kept q_isKept q_sums q_primes q_turned : Nat) (u_refusal : Int32) (u_scriptSize : Int32) (u_spot : Int32) (u_acts : Int32) (u_slides : Int32) (u_script : Nat → Int32) (u_readRow : Nat → Int32) (r : Int32) (u_spot' : Int32) (u_readRow' : Nat → Int32) (hf : pX10_readText u_scriptSize u_spot u_script u_readRow = some (r, u_spot', u_readRow')) : kMet l D cI cZ cJ yX10_readText wsX10_readText 4 99 [.ref q] [(q, .inr (9, [.int u_refusal, .ref q_script, .int u_scriptSize, .int u_spot, .ref q_readRow, .ref q_now, .ref q_trial, .ref q_diary, .int u_acts, .ref q_kept, .ref q_isKept, .int u_slides, .ref q_sums, .ref q_primes, .ref q_turned])), (q_script, .inl (cI, 160, .inl u_script)), (q_readRow, .inl (cI, 84, .inl u_readRow))] sz (some (.int r)) [(q, .inr (9, [.int u_refusal, .ref q_script, .int u_scriptSize, .int u_spot', .ref q_readRow, .ref q_now, .ref q_trial, .ref q_diary, .int u_acts, .ref q_kept, .ref q_isKept, .int u_slides, .ref q_sums, .ref q_primes, .ref q_turned])), (q_script, .inl (cI, 160, .inl u_script)), (q_readRow, .inl (cI, 84, .inl u_readRow'))] := by
  refine kM_of (cc := cX10_readText) (maxL := 2) (ret := (some .int)) (by decide) rfl (Nat.le_of_ble_eq_true rfl) ?_
  intro p e s m args below meth c A Q ls hQ C hlocks hr hE hW hl
  have hx := C.1
  have hb := C.2.1
  have hts := C.2.2.2.2
  have hl : lv_has ls 2 [(0, .ref q)] := hl
  have iX10 : ∀ w ∈ u_ws RX10 TX10 15, w ∈ wsX10_readText := by decide +kernel
  have f105 := hts (.fieldLink RX10 105 "SortedTablesModel" "spot" "I") (by decide +kernel)
  have f13 := hts (.fieldLink RX10 13 "SortedTablesModel" "readRow" "[I") (by decide +kernel)
  have f99 := hts (.fieldLink RX10 99 "SortedTablesModel" "scriptSize" "I") (by decide +kernel)
  unfold pX10_readText at hf
  refine lv_iconst (v := 0) hx hb dX10_readText_0 (by decide) ?_
  refine lv_istore_n (lv' := [(1, .int 0), (0, .ref q)]) hx hb dX10_readText_1 rfl hl (by decide) rfl (fun ls hl => ?_)
  obtain ⟨w3, hx50, hf⟩ := bd1_s hf
  have J6 : ∀ (H : Heap) (locs : List Loc) (ls : Array Slot), kH D A s H locs [(q, .inr (9, [.int u_refusal, .ref q_script, .int u_scriptSize, .int u_spot, .ref q_readRow, .ref q_now, .ref q_trial, .ref q_diary, .int u_acts, .ref q_kept, .ref q_isKept, .int u_slides, .ref q_sums, .ref q_primes, .ref q_turned])), (q_script, .inl (cI, 160, .inl u_script)), (q_readRow, .inl (cI, 84, .inl w3))] → lv_has ls 2 [(0, .ref q)] → W p l e (kRm 4 99 0 0) s m args below meth c H locs 0 0 Q (F0 m 21 ls []) := by
    intro H locs ls hW hl
    refine lv_aload_n hx hb dX10_readText_21 rfl (lv_at hl 0 rfl) ?_
    refine lv_iconst (v := 0) hx hb dX10_readText_22 (by decide) ?_
    refine k_put (v := .int 0) (ty := .int) (ws' := [(q, .inr (9, [.int u_refusal, .ref q_script, .int u_scriptSize, .int 0, .ref q_readRow, .ref q_now, .ref q_trial, .ref q_diary, .int u_acts, .ref q_kept, .ref q_isKept, .int u_slides, .ref q_sums, .ref q_primes, .ref q_turned])), (q_script, .inl (cI, 160, .inl u_script)), (q_readRow, .inl (cI, 84, .inl w3))]) C hE hW iX10 tyX10_ok nmX10 0 rfl rfl 3 (by decide) f105 (fun _ h9 => h9) rfl (by decide +kernel) rfl rfl (Nat.le_of_ble_eq_true rfl) rfl dX10_readText_23 (fun H locs hW => ?_)
    refine lv_aload_n hx hb dX10_readText_26 rfl (lv_at hl 0 rfl) ?_
    refine lv_bipush (v := 84) hx hb dX10_readText_27 (by decide) ?_
    obtain ⟨⟨v12, w13⟩, h14, hf⟩ := bd1_s hf
    replace hf := un2_s hf
    refine k_callV (b := q) (ci := 9) (qb := 0) (As := [.int 84]) (n := 1) (rest := []) (st1 := [.int v12]) (wr := [(q_readRow, .inl (cI, 84, .inl w3))]) (ws' := [(q, .inr (9, [.int u_refusal, .ref q_script, .int u_scriptSize, .int w13, .ref q_readRow, .ref q_now, .ref q_trial, .ref q_diary, .int u_acts, .ref q_kept, .ref q_isKept, .int u_slides, .ref q_sums, .ref q_primes, .ref q_turned])), (q_script, .inl (cI, 160, .inl u_script)), (q_readRow, .inl (cI, 84, .inl w3))]) C hE hW hl.1 (kX10_sign l D cI cZ cJ _ q q_script q_readRow q_now q_trial q_diary q_kept q_isKept q_sums q_primes q_turned u_refusal u_scriptSize 0 u_acts u_slides u_script 84 v12 w13 h14) gX10_readText_X10_sign rfl (by decide +kernel) rfl ⟨Nat.le_of_ble_eq_true rfl, Nat.le_of_ble_eq_true rfl⟩ ⟨Nat.zero_le _, Nat.zero_le _⟩ rfl rfl [0, 1] [2] [1, 2, 0] rfl rfl rfl rfl (by decide) rfl rfl (Nat.le_of_ble_eq_true rfl) rfl rfl dX10_readText_29 (fun H locs hW => ?_)
    refine lv_if_ne (tgt := 40) hx hb dX10_readText_32 (by decide) (fun hc => ?_) (fun hc => ?_)
    · replace hf := if_f hc hf
      refine lv_aload_n hx hb dX10_readText_40 rfl (lv_at hl 0 rfl) ?_
      refine lv_iconst (v := 0) hx hb dX10_readText_41 (by decide) ?_
      obtain ⟨⟨v15, w16, w17⟩, h18, hf⟩ := bd1_s hf
      replace hf := un3_s hf
      refine k_callV (b := q) (ci := 9) (qb := 0) (As := [.int 0]) (n := 1) (rest := []) (st1 := [.int v15]) (wr := []) (ws' := [(q, .inr (9, [.int u_refusal, .ref q_script, .int u_scriptSize, .int w16, .ref q_readRow, .ref q_now, .ref q_trial, .ref q_diary, .int u_acts, .ref q_kept, .ref q_isKept, .int u_slides, .ref q_sums, .ref q_primes, .ref q_turned])), (q_script, .inl (cI, 160, .inl u_script)), (q_readRow, .inl (cI, 84, .inl w17))]) C hE hW hl.1 (kX10_readTable l D cI cZ cJ _ q q_script q_readRow q_now q_trial q_diary q_kept q_isKept q_sums q_primes q_turned u_refusal u_scriptSize w13 u_acts u_slides u_script w3 0 v15 w16 w17 h18) gX10_readText_X10_readTable rfl (by decide +kernel) rfl ⟨Nat.le_of_ble_eq_true rfl, Nat.le_of_ble_eq_true rfl⟩ ⟨Nat.zero_le _, Nat.zero_le _⟩ rfl rfl [0, 1, 2] [] [0, 1, 2] rfl rfl rfl rfl (by decide) rfl rfl (Nat.le_of_ble_eq_true rfl) rfl rfl dX10_readText_42 (fun H locs hW => ?_)
      refine lv_if_eq (tgt := 57) hx hb dX10_readText_45 (by decide) (fun hc => ?_) (fun hc => ?_)
      · replace hf := if_t hc hf
        refine lv_aload_n hx hb dX10_readText_57 rfl (lv_at hl 0 rfl) ?_
        refine k_get C hE hW iX10 0 rfl rfl 3 (by decide) f105 (fun _ h9 => h9) rfl dX10_readText_58 ?_
        obtain ⟨rfl, rfl, rfl⟩ := sm3 hf
        exact k_iret C hlocks hr hW hQ dX10_readText_61
      · replace hf := if_f hc hf
        refine lv_aload_n hx hb dX10_readText_48 rfl (lv_at hl 0 rfl) ?_
        refine lv_bipush (v := 59) hx hb dX10_readText_49 (by decide) ?_
        obtain ⟨⟨v19, w20⟩, h21, hf⟩ := bd1_s hf
        replace hf := un2_s hf
        refine k_callV (b := q) (ci := 9) (qb := 0) (As := [.int 59]) (n := 1) (rest := []) (st1 := [.int v19]) (wr := [(q_readRow, .inl (cI, 84, .inl w17))]) (ws' := [(q, .inr (9, [.int u_refusal, .ref q_script, .int u_scriptSize, .int w20, .ref q_readRow, .ref q_now, .ref q_trial, .ref q_diary, .int u_acts, .ref q_kept, .ref q_isKept, .int u_slides, .ref q_sums, .ref q_primes, .ref q_turned])), (q_script, .inl (cI, 160, .inl u_script)), (q_readRow, .inl (cI, 84, .inl w17))]) C hE hW hl.1 (kX10_sign l D cI cZ cJ _ q q_script q_readRow q_now q_trial q_diary q_kept q_isKept q_sums q_primes q_turned u_refusal u_scriptSize w16 u_acts u_slides u_script 59 v19 w20 h21) gX10_readText_X10_sign rfl (by decide +kernel) rfl ⟨Nat.le_of_ble_eq_true rfl, Nat.le_of_ble_eq_true rfl⟩ ⟨Nat.zero_le _, Nat.zero_le _⟩ rfl rfl [0, 1] [2] [1, 2, 0] rfl rfl rfl rfl (by decide) rfl rfl (Nat.le_of_ble_eq_true rfl) rfl rfl dX10_readText_51 (fun H locs hW => ?_)
        refine lv_if_ne (tgt := 62) hx hb dX10_readText_54 (by decide) (fun hc => ?_) (fun hc => ?_)
        · replace hf := if_f hc hf
          refine lv_aload_n hx hb dX10_readText_62 rfl (lv_at hl 0 rfl) ?_
          refine lv_iconst (v := 1) hx hb dX10_readText_63 (by decide) ?_
          obtain ⟨⟨v22, w23, w24⟩, h25, hf⟩ := bd1_s hf
          replace hf := un3_s hf
          refine k_callV (b := q) (ci := 9) (qb := 0) (As := [.int 1]) (n := 1) (rest := []) (st1 := [.int v22]) (wr := []) (ws' := [(q, .inr (9, [.int u_refusal, .ref q_script, .int u_scriptSize, .int w23, .ref q_readRow, .ref q_now, .ref q_trial, .ref q_diary, .int u_acts, .ref q_kept, .ref q_isKept, .int u_slides, .ref q_sums, .ref q_primes, .ref q_turned])), (q_script, .inl (cI, 160, .inl u_script)), (q_readRow, .inl (cI, 84, .inl w24))]) C hE hW hl.1 (kX10_readTable l D cI cZ cJ _ q q_script q_readRow q_now q_trial q_diary q_kept q_isKept q_sums q_primes q_turned u_refusal u_scriptSize w20 u_acts u_slides u_script w17 1 v22 w23 w24 h25) gX10_readText_X10_readTable rfl (by decide +kernel) rfl ⟨Nat.le_of_ble_eq_true rfl, Nat.le_of_ble_eq_true rfl⟩ ⟨Nat.zero_le _, Nat.zero_le _⟩ rfl rfl [0, 1, 2] [] [0, 1, 2] rfl rfl rfl rfl (by decide) rfl rfl (Nat.le_of_ble_eq_true rfl) rfl rfl dX10_readText_64 (fun H locs hW => ?_)
          refine lv_if_eq (tgt := 86) hx hb dX10_readText_67 (by decide) (fun hc => ?_) (fun hc => ?_)
          · replace hf := if_t hc hf
            refine lv_aload_n hx hb dX10_readText_86 rfl (lv_at hl 0 rfl) ?_
            refine k_get C hE hW iX10 0 rfl rfl 3 (by decide) f105 (fun _ h9 => h9) rfl dX10_readText_87 ?_
            obtain ⟨rfl, rfl, rfl⟩ := sm3 hf
            exact k_iret C hlocks hr hW hQ dX10_readText_90
          · replace hf := if_f hc hf
            refine lv_aload_n hx hb dX10_readText_70 rfl (lv_at hl 0 rfl) ?_
            refine k_get C hE hW iX10 0 rfl rfl 3 (by decide) f105 (fun _ h9 => h9) rfl dX10_readText_71 ?_
            refine lv_aload_n hx hb dX10_readText_74 rfl (lv_at hl 0 rfl) ?_
            refine k_get C hE hW iX10 0 rfl rfl 2 (by decide) f99 (fun _ h9 => h9) rfl dX10_readText_75 ?_
            refine lv_icmp_ne (tgt := 86) hx hb dX10_readText_78 (by decide) (fun hc => ?_) (fun hc => ?_)
            · replace hf := if_f hc hf
              refine lv_aload_n hx hb dX10_readText_86 rfl (lv_at hl 0 rfl) ?_
              refine k_get C hE hW iX10 0 rfl rfl 3 (by decide) f105 (fun _ h9 => h9) rfl dX10_readText_87 ?_
              obtain ⟨rfl, rfl, rfl⟩ := sm3 hf
              exact k_iret C hlocks hr hW hQ dX10_readText_90
            · replace hf := if_t hc hf
              refine lv_bipush (v := (-9)) hx hb dX10_readText_81 (by decide) ?_
              refine lv_goto (tgt := 90) hx hb dX10_readText_83 (by decide) ?_
              obtain ⟨rfl, rfl, rfl⟩ := sm3 hf
              exact k_iret C hlocks hr hW hQ dX10_readText_90
        · replace hf := if_t hc hf
          refine lv_aload_n hx hb dX10_readText_57 rfl (lv_at hl 0 rfl) ?_
          refine k_get C hE hW iX10 0 rfl rfl 3 (by decide) f105 (fun _ h9 => h9) rfl dX10_readText_58 ?_
          obtain ⟨rfl, rfl, rfl⟩ := sm3 hf
          exact k_iret C hlocks hr hW hQ dX10_readText_61
    · replace hf := if_t hc hf
      refine lv_aload_n hx hb dX10_readText_35 rfl (lv_at hl 0 rfl) ?_
      refine k_get C hE hW iX10 0 rfl rfl 3 (by decide) f105 (fun _ h9 => h9) rfl dX10_readText_36 ?_
      obtain ⟨rfl, rfl, rfl⟩ := sm3 hf
      exact k_iret C hlocks hr hW hQ dX10_readText_39
  have L7 : ∀ (n : Nat) (i1 : Int32) (w2 : Nat → Int32), lpI n (un2 (pX10_readText_L2)) (i1, w2) = some w3 → ∀ (H : Heap) (locs : List Loc) (ls : Array Slot), kH D A s H locs [(q, .inr (9, [.int u_refusal, .ref q_script, .int u_scriptSize, .int u_spot, .ref q_readRow, .ref q_now, .ref q_trial, .ref q_diary, .int u_acts, .ref q_kept, .ref q_isKept, .int u_slides, .ref q_sums, .ref q_primes, .ref q_turned])), (q_script, .inl (cI, 160, .inl u_script)), (q_readRow, .inl (cI, 84, .inl w2))] → lv_has ls 2 [(1, .int i1), (0, .ref q)] → W p l e (kRm 4 99 0 0) s m args below meth c H locs 0 0 Q (F0 m 2 ls []) := by
    intro n
    induction n with
    | zero => intro i1 w2 hx5; exact (lpI_0 hx5).elim
    | succ n ih9 =>
      intro i1 w2 hx5 H locs ls hW hl
      obtain ⟨ooho4, ho4, hx5⟩ := lpI_s hx5
      replace ho4 := un2_s ho4
      unfold pX10_readText_L2 at ho4
      refine lv_iload_n hx hb dX10_readText_2 rfl (lv_at hl 0 rfl) ?_
      refine lv_bipush (v := 84) hx hb dX10_readText_3 (by decide) ?_
      refine lv_icmp_ge (tgt := 21) hx hb dX10_readText_5 (by decide) (fun hc => ?_) (fun hc => ?_)
      · replace ho4 := if_t hc ho4
        obtain rfl := Option.some.inj ho4
        obtain rfl := lpK_r hx5
        exact J6 _ _ _ hW (lv_sub hl [1] rfl)
      · replace ho4 := if_f hc ho4
        refine lv_aload_n hx hb dX10_readText_8 rfl (lv_at hl 1 rfl) ?_
        refine k_get C hE hW iX10 0 rfl rfl 4 (by decide) f13 (fun _ h9 => h9) rfl dX10_readText_9 ?_
        refine lv_iload_n hx hb dX10_readText_12 rfl (lv_at hl 0 rfl) ?_
        refine lv_iconst (v := 0) hx hb dX10_readText_13 (by decide) ?_
        obtain ⟨w10, h11, ho4⟩ := bd1_s ho4
        refine k_iast (ws' := [(q, .inr (9, [.int u_refusal, .ref q_script, .int u_scriptSize, .int u_spot, .ref q_readRow, .ref q_now, .ref q_trial, .ref q_diary, .int u_acts, .ref q_kept, .ref q_isKept, .int u_slides, .ref q_sums, .ref q_primes, .ref q_turned])), (q_script, .inl (cI, 160, .inl u_script)), (q_readRow, .inl (cI, 84, .inl w10))]) C hE hW 2 rfl h11 rfl dX10_readText_14 (fun H locs hW => ?_)
        refine lv_iinc (v := (i1 + 1)) (lv' := [(1, .int (i1 + 1)), (0, .ref q)]) hx hb dX10_readText_15 hl (k := 0) rfl rfl (by decide) rfl (fun ls hl => ?_)
        refine lv_goto (tgt := 2) hx hb dX10_readText_18 (by decide) ?_
        obtain rfl := Option.some.inj ho4
        exact ih9 _ _ hx5 _ _ _ hW (lv_sub hl [0, 1] rfl)
  exact L7 lpF _ _ hx50 _ _ _ hW (lv_sub hl [0, 1] rfl)

set_option maxHeartbeats 4000000 in
set_option maxRecDepth 100000 in
theorem kX10_errorPosition (l : Launch) (D : va_G) (cI cZ cJ : ClassId) (sz : Nat) (q q_script q_readRow q_now q_trial q_diary q_kept q_isKept q_sums q_primes q_turned : Nat) (u_refusal : Int32) (u_scriptSize : Int32) (u_spot : Int32) (u_acts : Int32) (u_slides : Int32) (u_script : Nat → Int32) (u_readRow : Nat → Int32) (r : Int32) (u_refusal' : Int32) (u_spot' : Int32) (u_readRow' : Nat → Int32) (hf : pX10_errorPosition u_refusal u_scriptSize u_spot u_script u_readRow = some (r, u_refusal', u_spot', u_readRow')) : kMet l D cI cZ cJ yX10_errorPosition wsX10_errorPosition 5 120 [.ref q] [(q, .inr (9, [.int u_refusal, .ref q_script, .int u_scriptSize, .int u_spot, .ref q_readRow, .ref q_now, .ref q_trial, .ref q_diary, .int u_acts, .ref q_kept, .ref q_isKept, .int u_slides, .ref q_sums, .ref q_primes, .ref q_turned])), (q_script, .inl (cI, 160, .inl u_script)), (q_readRow, .inl (cI, 84, .inl u_readRow))] sz (some (.int r)) [(q, .inr (9, [.int u_refusal', .ref q_script, .int u_scriptSize, .int u_spot', .ref q_readRow, .ref q_now, .ref q_trial, .ref q_diary, .int u_acts, .ref q_kept, .ref q_isKept, .int u_slides, .ref q_sums, .ref q_primes, .ref q_turned])), (q_script, .inl (cI, 160, .inl u_script)), (q_readRow, .inl (cI, 84, .inl u_readRow'))] := by
  refine kM_of (cc := cX10_errorPosition) (maxL := 1) (ret := (some .int)) (by decide) rfl (Nat.le_of_ble_eq_true rfl) ?_
  intro p e s m args below meth c A Q ls hQ C hlocks hr hE hW hl
  have hx := C.1
  have hb := C.2.1
  have hts := C.2.2.2.2
  have hl : lv_has ls 1 [(0, .ref q)] := hl
  have iX10 : ∀ w ∈ u_ws RX10 TX10 15, w ∈ wsX10_errorPosition := by decide +kernel
  have f41 := hts (.fieldLink RX10 41 "SortedTablesModel" "refusal" "I") (by decide +kernel)
  unfold pX10_errorPosition at hf
  refine lv_aload_n hx hb dX10_errorPosition_0 rfl (lv_at hl 0 rfl) ?_
  refine lv_iconst (v := 0) hx hb dX10_errorPosition_1 (by decide) ?_
  refine k_put (v := .int 0) (ty := .int) (ws' := [(q, .inr (9, [.int 0, .ref q_script, .int u_scriptSize, .int u_spot, .ref q_readRow, .ref q_now, .ref q_trial, .ref q_diary, .int u_acts, .ref q_kept, .ref q_isKept, .int u_slides, .ref q_sums, .ref q_primes, .ref q_turned])), (q_script, .inl (cI, 160, .inl u_script)), (q_readRow, .inl (cI, 84, .inl u_readRow))]) C hE hW iX10 tyX10_ok nmX10 0 rfl rfl 0 (by decide) f41 (fun _ h9 => h9) rfl (by decide +kernel) rfl rfl (Nat.le_of_ble_eq_true rfl) rfl dX10_errorPosition_2 (fun H locs hW => ?_)
  refine lv_aload_n hx hb dX10_errorPosition_5 rfl (lv_at hl 0 rfl) ?_
  obtain ⟨⟨v1, w2, w3⟩, h4, hf⟩ := bd1_s hf
  replace hf := un3_s hf
  refine k_callV (b := q) (ci := 9) (qb := 0) (As := []) (n := 0) (rest := []) (st1 := [.int v1]) (wr := []) (ws' := [(q, .inr (9, [.int 0, .ref q_script, .int u_scriptSize, .int w2, .ref q_readRow, .ref q_now, .ref q_trial, .ref q_diary, .int u_acts, .ref q_kept, .ref q_isKept, .int u_slides, .ref q_sums, .ref q_primes, .ref q_turned])), (q_script, .inl (cI, 160, .inl u_script)), (q_readRow, .inl (cI, 84, .inl w3))]) C hE hW hl.1 (kX10_readText l D cI cZ cJ _ q q_script q_readRow q_now q_trial q_diary q_kept q_isKept q_sums q_primes q_turned 0 u_scriptSize u_spot u_acts u_slides u_script u_readRow v1 w2 w3 h4) gX10_errorPosition_X10_readText rfl (by decide +kernel) rfl ⟨Nat.le_of_ble_eq_true rfl, Nat.le_of_ble_eq_true rfl⟩ ⟨Nat.zero_le _, Nat.zero_le _⟩ rfl rfl [0, 1, 2] [] [0, 1, 2] rfl rfl rfl rfl (by decide) rfl rfl (Nat.le_of_ble_eq_true rfl) rfl rfl dX10_errorPosition_6 (fun H locs hW => ?_)
  obtain ⟨rfl, rfl, rfl, rfl⟩ := sm4 hf
  exact k_iret C hlocks hr hW hQ dX10_errorPosition_9

set_option maxHeartbeats 4000000 in
set_option maxRecDepth 100000 in
theorem kX10_both (l : Launch) (D : va_G) (cI cZ cJ : ClassId) (sz : Nat) (r0 : Nat) (u0 : Nat → Int32) (r : Int32) (hf : pX10_both u0 = some r) : kMet l D cI cZ cJ yX10_both wsX10_both 3 70 [.ref r0] [(r0, .inl (cI, 84, .inl u0))] sz (some (.int r)) [(r0, .inl (cI, 84, .inl u0))] := by
  refine kM_of (cc := cX10_both) (maxL := 1) (ret := (some .int)) (by decide) rfl (Nat.le_of_ble_eq_true rfl) ?_
  intro p e s m args below meth c A Q ls hQ C hlocks hr hE hW hl
  have hx := C.1
  have hb := C.2.1
  have hts := C.2.2.2.2
  have hl : lv_has ls 1 [(0, .ref r0)] := hl
  unfold pX10_both at hf
  refine lv_aload_n hx hb dX10_both_0 rfl (lv_at hl 0 rfl) ?_
  refine lv_iconst (v := 0) hx hb dX10_both_1 (by decide) ?_
  obtain ⟨v1, h2, hf⟩ := bd1_s hf
  refine k_callSR (As := [.ref r0, .int 0]) (n := 2) (rest := []) (st1 := [.int v1]) C hE hW hl.1 (kX10_many l D cI cZ cJ _ r0 u0 0 v1 h2) gX10_both_X10_many rfl (by decide +kernel) rfl ⟨Nat.le_of_ble_eq_true rfl, Nat.le_of_ble_eq_true rfl⟩ ⟨Nat.zero_le _, Nat.zero_le _⟩ [0] rfl rfl (Nat.le_of_ble_eq_true rfl) rfl rfl dX10_both_2 (fun H locs hW => ?_)
  refine lv_aload_n hx hb dX10_both_5 rfl (lv_at hl 0 rfl) ?_
  refine lv_iconst (v := 1) hx hb dX10_both_6 (by decide) ?_
  obtain ⟨v3, h4, hf⟩ := bd1_s hf
  refine k_callSR (As := [.ref r0, .int 1]) (n := 2) (rest := [.int v1]) (st1 := [.int v3, .int v1]) C hE hW hl.1 (kX10_many l D cI cZ cJ _ r0 u0 1 v3 h4) gX10_both_X10_many rfl (by decide +kernel) rfl ⟨Nat.le_of_ble_eq_true rfl, Nat.le_of_ble_eq_true rfl⟩ ⟨Nat.zero_le _, Nat.zero_le _⟩ [0] rfl rfl (Nat.le_of_ble_eq_true rfl) rfl rfl dX10_both_7 (fun H locs hW => ?_)
  refine lv_iadd hx hb dX10_both_10 ?_
  obtain rfl := Option.some.inj hf
  exact k_iret C hlocks hr hW hQ dX10_both_11

set_option maxHeartbeats 4000000 in
set_option maxRecDepth 100000 in
theorem kX10_load (l : Launch) (D : va_G) (cI cZ cJ : ClassId) (sz : Nat) (q q_script q_readRow q_now q_isKept q_trial q_diary q_kept q_sums q_primes q_turned : Nat) (u_refusal : Int32) (u_scriptSize : Int32) (u_spot : Int32) (u_acts : Int32) (u_slides : Int32) (u_script : Nat → Int32) (u_readRow : Nat → Int32) (u_now : Nat → Int32) (u_isKept : Nat → Int32) (r : Int32) (u_refusal' : Int32) (u_spot' : Int32) (u_acts' : Int32) (u_readRow' : Nat → Int32) (u_now' : Nat → Int32) (u_isKept' : Nat → Int32) (hf : pX10_load u_refusal u_scriptSize u_spot u_acts u_script u_readRow u_now u_isKept = some (r, u_refusal', u_spot', u_acts', u_readRow', u_now', u_isKept')) : kMet l D cI cZ cJ yX10_load wsX10_load 5 120 [.ref q] [(q, .inr (9, [.int u_refusal, .ref q_script, .int u_scriptSize, .int u_spot, .ref q_readRow, .ref q_now, .ref q_trial, .ref q_diary, .int u_acts, .ref q_kept, .ref q_isKept, .int u_slides, .ref q_sums, .ref q_primes, .ref q_turned])), (q_script, .inl (cI, 160, .inl u_script)), (q_readRow, .inl (cI, 84, .inl u_readRow)), (q_now, .inl (cI, 84, .inl u_now)), (q_isKept, .inl (cZ, 2, .inl u_isKept))] sz (some (.int r)) [(q, .inr (9, [.int u_refusal', .ref q_script, .int u_scriptSize, .int u_spot', .ref q_readRow, .ref q_now, .ref q_trial, .ref q_diary, .int u_acts', .ref q_kept, .ref q_isKept, .int u_slides, .ref q_sums, .ref q_primes, .ref q_turned])), (q_script, .inl (cI, 160, .inl u_script)), (q_readRow, .inl (cI, 84, .inl u_readRow')), (q_now, .inl (cI, 84, .inl u_now')), (q_isKept, .inl (cZ, 2, .inl u_isKept'))] := by
  refine kM_of (cc := cX10_load) (maxL := 1) (ret := (some .int)) (by decide) rfl (Nat.le_of_ble_eq_true rfl) ?_
  intro p e s m args below meth c A Q ls hQ C hlocks hr hE hW hl
  have hx := C.1
  have hb := C.2.1
  have hts := C.2.2.2.2
  have hl : lv_has ls 1 [(0, .ref q)] := hl
  have iX10 : ∀ w ∈ u_ws RX10 TX10 15, w ∈ wsX10_load := by decide +kernel
  have f13 := hts (.fieldLink RX10 13 "SortedTablesModel" "readRow" "[I") (by decide +kernel)
  have f16 := hts (.fieldLink RX10 16 "SortedTablesModel" "now" "[I") (by decide +kernel)
  have f28 := hts (.fieldLink RX10 28 "SortedTablesModel" "isKept" "[Z") (by decide +kernel)
  have f47 := hts (.fieldLink RX10 47 "SortedTablesModel" "acts" "I") (by decide +kernel)
  unfold pX10_load at hf
  refine lv_aload_n hx hb dX10_load_0 rfl (lv_at hl 0 rfl) ?_
  refine lv_aload_n hx hb dX10_load_1 rfl (lv_at hl 0 rfl) ?_
  obtain ⟨⟨v1, w2, w3⟩, h4, hf⟩ := bd1_s hf
  replace hf := un3_s hf
  refine k_callV (b := q) (ci := 9) (qb := 0) (As := []) (n := 0) (rest := [.ref q]) (st1 := [.int v1, .ref q]) (wr := [(q_now, .inl (cI, 84, .inl u_now)), (q_isKept, .inl (cZ, 2, .inl u_isKept))]) (ws' := [(q, .inr (9, [.int u_refusal, .ref q_script, .int u_scriptSize, .int w2, .ref q_readRow, .ref q_now, .ref q_trial, .ref q_diary, .int u_acts, .ref q_kept, .ref q_isKept, .int u_slides, .ref q_sums, .ref q_primes, .ref q_turned])), (q_script, .inl (cI, 160, .inl u_script)), (q_readRow, .inl (cI, 84, .inl w3)), (q_now, .inl (cI, 84, .inl u_now)), (q_isKept, .inl (cZ, 2, .inl u_isKept))]) C hE hW hl.1 (kX10_readText l D cI cZ cJ _ q q_script q_readRow q_now q_trial q_diary q_kept q_isKept q_sums q_primes q_turned u_refusal u_scriptSize u_spot u_acts u_slides u_script u_readRow v1 w2 w3 h4) gX10_load_X10_readText rfl (by decide +kernel) rfl ⟨Nat.le_of_ble_eq_true rfl, Nat.le_of_ble_eq_true rfl⟩ ⟨Nat.zero_le _, Nat.zero_le _⟩ rfl rfl [0, 1, 2] [3, 4] [2, 3, 4, 0, 1] rfl rfl rfl rfl (by decide) rfl rfl (Nat.le_of_ble_eq_true rfl) rfl rfl dX10_load_2 (fun H locs hW => ?_)
  refine lv_bipush (v := (-9)) hx hb dX10_load_5 (by decide) ?_
  obtain ⟨j5, hd6, hf⟩ := bd1_s hf
  have J7 : ∀ (H : Heap) (locs : List Loc) (ls : Array Slot), kH D A s H locs [(q, .inr (9, [.int u_refusal, .ref q_script, .int u_scriptSize, .int w2, .ref q_readRow, .ref q_now, .ref q_trial, .ref q_diary, .int u_acts, .ref q_kept, .ref q_isKept, .int u_slides, .ref q_sums, .ref q_primes, .ref q_turned])), (q_script, .inl (cI, 160, .inl u_script)), (q_readRow, .inl (cI, 84, .inl w3)), (q_now, .inl (cI, 84, .inl u_now)), (q_isKept, .inl (cZ, 2, .inl u_isKept))] → lv_has ls 1 [(0, .ref q)] → W p l e (kRm 5 120 0 0) s m args below meth c H locs 0 0 Q (F0 m 15 ls [.int j5, .ref q]) := by
    intro H locs ls hW hl
    obtain ⟨⟨v8, w9⟩, h10, hf⟩ := bd1_s hf
    replace hf := un2_s hf
    refine k_callV (b := q) (ci := 9) (qb := 0) (As := [.int j5]) (n := 1) (rest := []) (st1 := [.int v8]) (wr := [(q_script, .inl (cI, 160, .inl u_script)), (q_readRow, .inl (cI, 84, .inl w3)), (q_now, .inl (cI, 84, .inl u_now)), (q_isKept, .inl (cZ, 2, .inl u_isKept))]) (ws' := [(q, .inr (9, [.int w9, .ref q_script, .int u_scriptSize, .int w2, .ref q_readRow, .ref q_now, .ref q_trial, .ref q_diary, .int u_acts, .ref q_kept, .ref q_isKept, .int u_slides, .ref q_sums, .ref q_primes, .ref q_turned])), (q_script, .inl (cI, 160, .inl u_script)), (q_readRow, .inl (cI, 84, .inl w3)), (q_now, .inl (cI, 84, .inl u_now)), (q_isKept, .inl (cZ, 2, .inl u_isKept))]) C hE hW hl.1 (kX10_refused l D cI cZ cJ _ q q_script q_readRow q_now q_trial q_diary q_kept q_isKept q_sums q_primes q_turned u_refusal u_scriptSize w2 u_acts u_slides j5 v8 w9 h10) gX10_load_X10_refused rfl (by decide +kernel) rfl ⟨Nat.le_of_ble_eq_true rfl, Nat.le_of_ble_eq_true rfl⟩ ⟨Nat.zero_le _, Nat.zero_le _⟩ rfl rfl [0] [1, 2, 3, 4] [4, 0, 1, 2, 3] rfl rfl rfl rfl (by decide) rfl rfl (Nat.le_of_ble_eq_true rfl) rfl rfl dX10_load_15 (fun H locs hW => ?_)
    refine lv_if_eq (tgt := 23) hx hb dX10_load_18 (by decide) (fun hc => ?_) (fun hc => ?_)
    · replace hf := if_t hc hf
      refine lv_aload_n hx hb dX10_load_23 rfl (lv_at hl 0 rfl) ?_
      refine k_get C hE hW iX10 0 rfl rfl 4 (by decide) f13 (fun _ h9 => h9) rfl dX10_load_24 ?_
      refine lv_iconst (v := 0) hx hb dX10_load_27 (by decide) ?_
      refine lv_aload_n hx hb dX10_load_28 rfl (lv_at hl 0 rfl) ?_
      refine k_get C hE hW iX10 0 rfl rfl 5 (by decide) f16 (fun _ h9 => h9) rfl dX10_load_29 ?_
      refine lv_iconst (v := 0) hx hb dX10_load_32 (by decide) ?_
      refine lv_bipush (v := 84) hx hb dX10_load_33 (by decide) ?_
      obtain ⟨w11, h12, hf⟩ := bd1_s hf
      refine k_callS (As := [.ref q_readRow, .int 0, .ref q_now, .int 0, .int 84]) (n := 5) (rest := []) (st1 := []) (wr := [(q, .inr (9, [.int w9, .ref q_script, .int u_scriptSize, .int w2, .ref q_readRow, .ref q_now, .ref q_trial, .ref q_diary, .int u_acts, .ref q_kept, .ref q_isKept, .int u_slides, .ref q_sums, .ref q_primes, .ref q_turned])), (q_script, .inl (cI, 160, .inl u_script)), (q_isKept, .inl (cZ, 2, .inl u_isKept))]) (ws' := [(q, .inr (9, [.int w9, .ref q_script, .int u_scriptSize, .int w2, .ref q_readRow, .ref q_now, .ref q_trial, .ref q_diary, .int u_acts, .ref q_kept, .ref q_isKept, .int u_slides, .ref q_sums, .ref q_primes, .ref q_turned])), (q_script, .inl (cI, 160, .inl u_script)), (q_readRow, .inl (cI, 84, .inl w3)), (q_now, .inl (cI, 84, .inl w11)), (q_isKept, .inl (cZ, 2, .inl u_isKept))]) C hE hW hl.1 (kX10_copy l D cI cZ cJ _ q_readRow q_now 84 84 w3 u_now 0 0 84 w11 h12) gX10_load_X10_copy rfl (by decide +kernel) rfl ⟨Nat.le_of_ble_eq_true rfl, Nat.le_of_ble_eq_true rfl⟩ ⟨Nat.zero_le _, Nat.zero_le _⟩ [2, 3] [0, 1, 4] [0, 1, 3, 4, 2] rfl rfl rfl rfl (by decide) rfl rfl (Nat.le_of_ble_eq_true rfl) rfl rfl dX10_load_35 (fun H locs hW => ?_)
      refine lv_aload_n hx hb dX10_load_38 rfl (lv_at hl 0 rfl) ?_
      refine lv_iconst (v := 0) hx hb dX10_load_39 (by decide) ?_
      refine k_put (v := .int 0) (ty := .int) (ws' := [(q, .inr (9, [.int w9, .ref q_script, .int u_scriptSize, .int w2, .ref q_readRow, .ref q_now, .ref q_trial, .ref q_diary, .int 0, .ref q_kept, .ref q_isKept, .int u_slides, .ref q_sums, .ref q_primes, .ref q_turned])), (q_script, .inl (cI, 160, .inl u_script)), (q_readRow, .inl (cI, 84, .inl w3)), (q_now, .inl (cI, 84, .inl w11)), (q_isKept, .inl (cZ, 2, .inl u_isKept))]) C hE hW iX10 tyX10_ok nmX10 0 rfl rfl 8 (by decide) f47 (fun _ h9 => h9) rfl (by decide +kernel) rfl rfl (Nat.le_of_ble_eq_true rfl) rfl dX10_load_40 (fun H locs hW => ?_)
      refine lv_aload_n hx hb dX10_load_43 rfl (lv_at hl 0 rfl) ?_
      refine k_get C hE hW iX10 0 rfl rfl 10 (by decide) f28 (fun _ h9 => h9) rfl dX10_load_44 ?_
      refine lv_iconst (v := 0) hx hb dX10_load_47 (by decide) ?_
      refine lv_iconst (v := 0) hx hb dX10_load_48 (by decide) ?_
      obtain ⟨w13, h14, hf⟩ := bd1_s hf
      refine k_zast (ws' := [(q, .inr (9, [.int w9, .ref q_script, .int u_scriptSize, .int w2, .ref q_readRow, .ref q_now, .ref q_trial, .ref q_diary, .int 0, .ref q_kept, .ref q_isKept, .int u_slides, .ref q_sums, .ref q_primes, .ref q_turned])), (q_script, .inl (cI, 160, .inl u_script)), (q_readRow, .inl (cI, 84, .inl w3)), (q_now, .inl (cI, 84, .inl w11)), (q_isKept, .inl (cZ, 2, .inl w13))]) C hE hW 4 rfl h14 rfl dX10_load_49 (fun H locs hW => ?_)
      refine lv_aload_n hx hb dX10_load_50 rfl (lv_at hl 0 rfl) ?_
      refine k_get C hE hW iX10 0 rfl rfl 10 (by decide) f28 (fun _ h9 => h9) rfl dX10_load_51 ?_
      refine lv_iconst (v := 1) hx hb dX10_load_54 (by decide) ?_
      refine lv_iconst (v := 0) hx hb dX10_load_55 (by decide) ?_
      obtain ⟨w15, h16, hf⟩ := bd1_s hf
      refine k_zast (ws' := [(q, .inr (9, [.int w9, .ref q_script, .int u_scriptSize, .int w2, .ref q_readRow, .ref q_now, .ref q_trial, .ref q_diary, .int 0, .ref q_kept, .ref q_isKept, .int u_slides, .ref q_sums, .ref q_primes, .ref q_turned])), (q_script, .inl (cI, 160, .inl u_script)), (q_readRow, .inl (cI, 84, .inl w3)), (q_now, .inl (cI, 84, .inl w11)), (q_isKept, .inl (cZ, 2, .inl w15))]) C hE hW 4 rfl h16 rfl dX10_load_56 (fun H locs hW => ?_)
      refine lv_aload_n hx hb dX10_load_57 rfl (lv_at hl 0 rfl) ?_
      refine k_get C hE hW iX10 0 rfl rfl 5 (by decide) f16 (fun _ h9 => h9) rfl dX10_load_58 ?_
      obtain ⟨v17, h18, hf⟩ := bd1_s hf
      refine k_callSR (As := [.ref q_now]) (n := 1) (rest := []) (st1 := [.int v17]) C hE hW hl.1 (kX10_both l D cI cZ cJ _ q_now w11 v17 h18) gX10_load_X10_both rfl (by decide +kernel) rfl ⟨Nat.le_of_ble_eq_true rfl, Nat.le_of_ble_eq_true rfl⟩ ⟨Nat.zero_le _, Nat.zero_le _⟩ [3] rfl rfl (Nat.le_of_ble_eq_true rfl) rfl rfl dX10_load_61 (fun H locs hW => ?_)
      obtain ⟨rfl, rfl, rfl, rfl, rfl, rfl, rfl⟩ := sm7 hf
      exact k_iret C hlocks hr hW hQ dX10_load_64
    · replace hf := if_f hc hf
      refine lv_iconst (v := 0) hx hb dX10_load_21 (by decide) ?_
      obtain ⟨rfl, rfl, rfl, rfl, rfl, rfl, rfl⟩ := sm7 hf
      exact k_iret C hlocks hr hW hQ dX10_load_22
  refine lv_icmp_ne (tgt := 14) hx hb dX10_load_7 (by decide) (fun hc => ?_) (fun hc => ?_)
  · replace hd6 := if_f hc hd6
    refine lv_iconst (v := 1) hx hb dX10_load_14 (by decide) ?_
    obtain rfl := Option.some.inj hd6
    exact J7 _ _ _ hW (lv_sub hl [0] rfl)
  · replace hd6 := if_t hc hd6
    refine lv_iconst (v := 0) hx hb dX10_load_10 (by decide) ?_
    refine lv_goto (tgt := 15) hx hb dX10_load_11 (by decide) ?_
    obtain rfl := Option.some.inj hd6
    exact J7 _ _ _ hW (lv_sub hl [0] rfl)

set_option maxHeartbeats 4000000 in
set_option maxRecDepth 100000 in
theorem kX10_extreme (l : Launch) (D : va_G) (cI cZ cJ : ClassId) (sz : Nat) (r0 : Nat) (u0 : Nat → Int32) (p1 : Int32) (p2 : Int32) (r : Int32) (hf : pX10_extreme u0 p1 p2 = some r) : kMet l D cI cZ cJ yX10_extreme wsX10_extreme 2 47 [.ref r0, .int p1, .int p2] [(r0, .inl (cI, 84, .inl u0))] sz (some (.int r)) [(r0, .inl (cI, 84, .inl u0))] := by
  refine kM_of (cc := cX10_extreme) (maxL := 7) (ret := (some .int)) (by decide) rfl (Nat.le_of_ble_eq_true rfl) ?_
  intro p e s m args below meth c A Q ls hQ C hlocks hr hE hW hl
  have hx := C.1
  have hb := C.2.1
  have hts := C.2.2.2.2
  have hl : lv_has ls 7 [(0, .ref r0), (1, .int p1), (2, .int p2)] := hl
  unfold pX10_extreme at hf
  refine lv_bipush (v := (-9)) hx hb dX10_extreme_0 (by decide) ?_
  refine lv_istore_n (lv' := [(3, .int (-9)), (0, .ref r0), (1, .int p1), (2, .int p2)]) hx hb dX10_extreme_2 rfl hl (by decide) rfl (fun ls hl => ?_)
  refine lv_iconst (v := 0) hx hb dX10_extreme_3 (by decide) ?_
  refine lv_istore (lv' := [(4, .int 0), (3, .int (-9)), (0, .ref r0), (1, .int p1), (2, .int p2)]) hx hb dX10_extreme_4 hl (by decide) rfl (fun ls hl => ?_)
  obtain ⟨x3, hx50, hf⟩ := bd1_s hf
  have J6 : ∀ (H : Heap) (locs : List Loc) (ls : Array Slot), kH D A s H locs [(r0, .inl (cI, 84, .inl u0))] → lv_has ls 7 [(3, .int x3)] → W p l e (kRm 2 47 0 0) s m args below meth c H locs 0 0 Q (F0 m 83 ls []) := by
    intro H locs ls hW hl
    refine lv_iload_n hx hb dX10_extreme_83 rfl (lv_at hl 0 rfl) ?_
    obtain rfl := Option.some.inj hf
    exact k_iret C hlocks hr hW hQ dX10_extreme_84
  have L7 : ∀ (n : Nat) (i1 : Int32) (i2 : Int32), lpI n (un2 (pX10_extreme_L6 u0 p1 p2)) (i1, i2) = some x3 → ∀ (H : Heap) (locs : List Loc) (ls : Array Slot), kH D A s H locs [(r0, .inl (cI, 84, .inl u0))] → lv_has ls 7 [(4, .int i1), (3, .int i2), (0, .ref r0), (1, .int p1), (2, .int p2)] → W p l e (kRm 2 47 0 0) s m args below meth c H locs 0 0 Q (F0 m 6 ls []) := by
    intro n
    induction n with
    | zero => intro i1 i2 hx5; exact (lpI_0 hx5).elim
    | succ n ih9 =>
      intro i1 i2 hx5 H locs ls hW hl
      obtain ⟨ooho4, ho4, hx5⟩ := lpI_s hx5
      replace ho4 := un2_s ho4
      unfold pX10_extreme_L6 at ho4
      refine lv_iload hx hb dX10_extreme_6 (lv_at hl 0 rfl) ?_
      refine lv_bipush (v := 6) hx hb dX10_extreme_8 (by decide) ?_
      refine lv_icmp_ge (tgt := 83) hx hb dX10_extreme_10 (by decide) (fun hc => ?_) (fun hc => ?_)
      · replace ho4 := if_t hc ho4
        obtain rfl := Option.some.inj ho4
        obtain rfl := lpK_r hx5
        exact J6 _ _ _ hW (lv_sub hl [1] rfl)
      · replace ho4 := if_f hc ho4
        refine lv_iconst (v := 0) hx hb dX10_extreme_13 (by decide) ?_
        refine lv_istore (lv' := [(5, .int 0), (4, .int i1), (3, .int i2), (0, .ref r0), (1, .int p1), (2, .int p2)]) hx hb dX10_extreme_14 hl (by decide) rfl (fun ls hl => ?_)
        obtain ⟨x12, hx140, ho4⟩ := bd1_s ho4
        have J15 : ∀ (H : Heap) (locs : List Loc) (ls : Array Slot), kH D A s H locs [(r0, .inl (cI, 84, .inl u0))] → lv_has ls 7 [(4, .int i1), (3, .int x12), (0, .ref r0), (1, .int p1), (2, .int p2)] → W p l e (kRm 2 47 0 0) s m args below meth c H locs 0 0 Q (F0 m 77 ls []) := by
          intro H locs ls hW hl
          refine lv_iinc (v := (i1 + 1)) (lv' := [(4, .int (i1 + 1)), (3, .int x12), (0, .ref r0), (1, .int p1), (2, .int p2)]) hx hb dX10_extreme_77 hl (k := 0) rfl rfl (by decide) rfl (fun ls hl => ?_)
          refine lv_goto (tgt := 6) hx hb dX10_extreme_80 (by decide) ?_
          obtain rfl := Option.some.inj ho4
          exact ih9 _ _ hx5 _ _ _ hW (lv_sub hl [0, 1, 2, 3, 4] rfl)
        have L16 : ∀ (n : Nat) (i10 : Int32) (i11 : Int32), lpI n (un2 (pX10_extreme_L16 u0 p1 p2 i1)) (i10, i11) = some x12 → ∀ (H : Heap) (locs : List Loc) (ls : Array Slot), kH D A s H locs [(r0, .inl (cI, 84, .inl u0))] → lv_has ls 7 [(5, .int i10), (4, .int i1), (3, .int i11), (0, .ref r0), (1, .int p1), (2, .int p2)] → W p l e (kRm 2 47 0 0) s m args below meth c H locs 0 0 Q (F0 m 16 ls []) := by
          intro n
          induction n with
          | zero => intro i10 i11 hx14; exact (lpI_0 hx14).elim
          | succ n ih18 =>
            intro i10 i11 hx14 H locs ls hW hl
            obtain ⟨ooho13, ho13, hx14⟩ := lpI_s hx14
            replace ho13 := un2_s ho13
            unfold pX10_extreme_L16 at ho13
            refine lv_iload hx hb dX10_extreme_16 (lv_at hl 0 rfl) ?_
            refine lv_aload_n hx hb dX10_extreme_18 rfl (lv_at hl 3 rfl) ?_
            refine lv_iload_n hx hb dX10_extreme_19 rfl (lv_at hl 4 rfl) ?_
            refine lv_iload hx hb dX10_extreme_20 (lv_at hl 1 rfl) ?_
            obtain ⟨v19, h20, ho13⟩ := bd1_s ho13
            refine k_callSR (As := [.ref r0, .int p1, .int i1]) (n := 3) (rest := [.int i10]) (st1 := [.int v19, .int i10]) C hE hW hl.1 (kX10_length l D cI cZ cJ _ r0 u0 p1 i1 v19 h20) gX10_extreme_X10_length rfl (by decide +kernel) rfl ⟨Nat.le_of_ble_eq_true rfl, Nat.le_of_ble_eq_true rfl⟩ ⟨Nat.zero_le _, Nat.zero_le _⟩ [0] rfl rfl (Nat.le_of_ble_eq_true rfl) rfl rfl dX10_extreme_22 (fun H locs hW => ?_)
            refine lv_icmp_ge (tgt := 77) hx hb dX10_extreme_25 (by decide) (fun hc => ?_) (fun hc => ?_)
            · replace ho13 := if_t hc ho13
              obtain rfl := Option.some.inj ho13
              obtain rfl := lpK_r hx14
              exact J15 _ _ _ hW (lv_sub hl [1, 2, 3, 4, 5] rfl)
            · replace ho13 := if_f hc ho13
              refine lv_aload_n hx hb dX10_extreme_28 rfl (lv_at hl 3 rfl) ?_
              refine lv_iload_n hx hb dX10_extreme_29 rfl (lv_at hl 4 rfl) ?_
              refine lv_iload hx hb dX10_extreme_30 (lv_at hl 1 rfl) ?_
              refine lv_iload hx hb dX10_extreme_32 (lv_at hl 0 rfl) ?_
              obtain ⟨v21, h22, ho13⟩ := bd1_s ho13
              refine k_callSR (As := [.ref r0, .int p1, .int i1, .int i10]) (n := 4) (rest := []) (st1 := [.int v21]) C hE hW hl.1 (kX10_get l D cI cZ cJ _ r0 u0 p1 i1 i10 v21 h22) gX10_extreme_X10_get rfl (by decide +kernel) rfl ⟨Nat.le_of_ble_eq_true rfl, Nat.le_of_ble_eq_true rfl⟩ ⟨Nat.zero_le _, Nat.zero_le _⟩ [0] rfl rfl (Nat.le_of_ble_eq_true rfl) rfl rfl dX10_extreme_34 (fun H locs hW => ?_)
              refine lv_istore (lv' := [(6, .int v21), (5, .int i10), (4, .int i1), (3, .int i11), (0, .ref r0), (1, .int p1), (2, .int p2)]) hx hb dX10_extreme_37 hl (by decide) rfl (fun ls hl => ?_)
              refine lv_iload_n hx hb dX10_extreme_39 rfl (lv_at hl 3 rfl) ?_
              refine lv_bipush (v := (-9)) hx hb dX10_extreme_40 (by decide) ?_
              refine lv_icmp_eq (tgt := 64) hx hb dX10_extreme_42 (by decide) (fun hc => ?_) (fun hc => ?_)
              · replace ho13 := if_t hc ho13
                refine lv_iload hx hb dX10_extreme_64 (lv_at hl 0 rfl) ?_
                refine lv_goto (tgt := 70) hx hb dX10_extreme_66 (by decide) ?_
                refine lv_istore_n (lv' := [(3, .int v21), (6, .int v21), (5, .int i10), (4, .int i1), (0, .ref r0), (1, .int p1), (2, .int p2)]) hx hb dX10_extreme_70 rfl hl (by decide) rfl (fun ls hl => ?_)
                refine lv_iinc (v := (i10 + 1)) (lv' := [(5, .int (i10 + 1)), (3, .int v21), (6, .int v21), (4, .int i1), (0, .ref r0), (1, .int p1), (2, .int p2)]) hx hb dX10_extreme_71 hl (k := 2) rfl rfl (by decide) rfl (fun ls hl => ?_)
                refine lv_goto (tgt := 16) hx hb dX10_extreme_74 (by decide) ?_
                obtain rfl := Option.some.inj ho13
                exact ih18 _ _ hx14 _ _ _ hW (lv_sub hl [0, 3, 1, 4, 5, 6] rfl)
              · replace ho13 := if_f hc ho13
                refine lv_iload_n hx hb dX10_extreme_45 rfl (lv_at hl 6 rfl) ?_
                refine lv_if_eq (tgt := 58) hx hb dX10_extreme_46 (by decide) (fun hc => ?_) (fun hc => ?_)
                · replace ho13 := if_t hc ho13
                  refine lv_iload hx hb dX10_extreme_58 (lv_at hl 0 rfl) ?_
                  refine lv_iload_n hx hb dX10_extreme_60 rfl (lv_at hl 3 rfl) ?_
                  refine lv_icmp_ge (tgt := 69) hx hb dX10_extreme_61 (by decide) (fun hc => ?_) (fun hc => ?_)
                  · replace ho13 := if_t hc ho13
                    refine lv_iload_n hx hb dX10_extreme_69 rfl (lv_at hl 3 rfl) ?_
                    refine lv_istore_n (lv' := [(3, .int i11), (6, .int v21), (5, .int i10), (4, .int i1), (0, .ref r0), (1, .int p1), (2, .int p2)]) hx hb dX10_extreme_70 rfl hl (by decide) rfl (fun ls hl => ?_)
                    refine lv_iinc (v := (i10 + 1)) (lv' := [(5, .int (i10 + 1)), (3, .int i11), (6, .int v21), (4, .int i1), (0, .ref r0), (1, .int p1), (2, .int p2)]) hx hb dX10_extreme_71 hl (k := 2) rfl rfl (by decide) rfl (fun ls hl => ?_)
                    refine lv_goto (tgt := 16) hx hb dX10_extreme_74 (by decide) ?_
                    obtain rfl := Option.some.inj ho13
                    exact ih18 _ _ hx14 _ _ _ hW (lv_sub hl [0, 3, 1, 4, 5, 6] rfl)
                  · replace ho13 := if_f hc ho13
                    refine lv_iload hx hb dX10_extreme_64 (lv_at hl 0 rfl) ?_
                    refine lv_goto (tgt := 70) hx hb dX10_extreme_66 (by decide) ?_
                    refine lv_istore_n (lv' := [(3, .int v21), (6, .int v21), (5, .int i10), (4, .int i1), (0, .ref r0), (1, .int p1), (2, .int p2)]) hx hb dX10_extreme_70 rfl hl (by decide) rfl (fun ls hl => ?_)
                    refine lv_iinc (v := (i10 + 1)) (lv' := [(5, .int (i10 + 1)), (3, .int v21), (6, .int v21), (4, .int i1), (0, .ref r0), (1, .int p1), (2, .int p2)]) hx hb dX10_extreme_71 hl (k := 2) rfl rfl (by decide) rfl (fun ls hl => ?_)
                    refine lv_goto (tgt := 16) hx hb dX10_extreme_74 (by decide) ?_
                    obtain rfl := Option.some.inj ho13
                    exact ih18 _ _ hx14 _ _ _ hW (lv_sub hl [0, 3, 1, 4, 5, 6] rfl)
                · replace ho13 := if_f hc ho13
                  refine lv_iload hx hb dX10_extreme_49 (lv_at hl 0 rfl) ?_
                  refine lv_iload_n hx hb dX10_extreme_51 rfl (lv_at hl 3 rfl) ?_
                  refine lv_icmp_le (tgt := 69) hx hb dX10_extreme_52 (by decide) (fun hc => ?_) (fun hc => ?_)
                  · replace ho13 := if_t hc ho13
                    refine lv_iload_n hx hb dX10_extreme_69 rfl (lv_at hl 3 rfl) ?_
                    refine lv_istore_n (lv' := [(3, .int i11), (6, .int v21), (5, .int i10), (4, .int i1), (0, .ref r0), (1, .int p1), (2, .int p2)]) hx hb dX10_extreme_70 rfl hl (by decide) rfl (fun ls hl => ?_)
                    refine lv_iinc (v := (i10 + 1)) (lv' := [(5, .int (i10 + 1)), (3, .int i11), (6, .int v21), (4, .int i1), (0, .ref r0), (1, .int p1), (2, .int p2)]) hx hb dX10_extreme_71 hl (k := 2) rfl rfl (by decide) rfl (fun ls hl => ?_)
                    refine lv_goto (tgt := 16) hx hb dX10_extreme_74 (by decide) ?_
                    obtain rfl := Option.some.inj ho13
                    exact ih18 _ _ hx14 _ _ _ hW (lv_sub hl [0, 3, 1, 4, 5, 6] rfl)
                  · replace ho13 := if_f hc ho13
                    refine lv_goto (tgt := 64) hx hb dX10_extreme_55 (by decide) ?_
                    refine lv_iload hx hb dX10_extreme_64 (lv_at hl 0 rfl) ?_
                    refine lv_goto (tgt := 70) hx hb dX10_extreme_66 (by decide) ?_
                    refine lv_istore_n (lv' := [(3, .int v21), (6, .int v21), (5, .int i10), (4, .int i1), (0, .ref r0), (1, .int p1), (2, .int p2)]) hx hb dX10_extreme_70 rfl hl (by decide) rfl (fun ls hl => ?_)
                    refine lv_iinc (v := (i10 + 1)) (lv' := [(5, .int (i10 + 1)), (3, .int v21), (6, .int v21), (4, .int i1), (0, .ref r0), (1, .int p1), (2, .int p2)]) hx hb dX10_extreme_71 hl (k := 2) rfl rfl (by decide) rfl (fun ls hl => ?_)
                    refine lv_goto (tgt := 16) hx hb dX10_extreme_74 (by decide) ?_
                    obtain rfl := Option.some.inj ho13
                    exact ih18 _ _ hx14 _ _ _ hW (lv_sub hl [0, 3, 1, 4, 5, 6] rfl)
        exact L16 lpF _ _ hx140 _ _ _ hW (lv_sub hl [0, 1, 2, 3, 4, 5] rfl)
  exact L7 lpF _ _ hx50 _ _ _ hW (lv_sub hl [0, 1, 2, 3, 4] rfl)

set_option maxHeartbeats 4000000 in
set_option maxRecDepth 100000 in
theorem kX10_sumOf (l : Launch) (D : va_G) (cI cZ cJ : ClassId) (sz : Nat) (r0 : Nat) (u0 : Nat → Int32) (p1 : Int32) (r : Int32) (hf : pX10_sumOf u0 p1 = some r) : kMet l D cI cZ cJ yX10_sumOf wsX10_sumOf 2 47 [.ref r0, .int p1] [(r0, .inl (cI, 84, .inl u0))] sz (some (.int r)) [(r0, .inl (cI, 84, .inl u0))] := by
  refine kM_of (cc := cX10_sumOf) (maxL := 5) (ret := (some .int)) (by decide) rfl (Nat.le_of_ble_eq_true rfl) ?_
  intro p e s m args below meth c A Q ls hQ C hlocks hr hE hW hl
  have hx := C.1
  have hb := C.2.1
  have hts := C.2.2.2.2
  have hl : lv_has ls 5 [(0, .ref r0), (1, .int p1)] := hl
  unfold pX10_sumOf at hf
  refine lv_iconst (v := 0) hx hb dX10_sumOf_0 (by decide) ?_
  refine lv_istore_n (lv' := [(2, .int 0), (0, .ref r0), (1, .int p1)]) hx hb dX10_sumOf_1 rfl hl (by decide) rfl (fun ls hl => ?_)
  refine lv_iconst (v := 0) hx hb dX10_sumOf_2 (by decide) ?_
  refine lv_istore_n (lv' := [(3, .int 0), (2, .int 0), (0, .ref r0), (1, .int p1)]) hx hb dX10_sumOf_3 rfl hl (by decide) rfl (fun ls hl => ?_)
  obtain ⟨x3, hx50, hf⟩ := bd1_s hf
  have J6 : ∀ (H : Heap) (locs : List Loc) (ls : Array Slot), kH D A s H locs [(r0, .inl (cI, 84, .inl u0))] → lv_has ls 5 [(2, .int x3)] → W p l e (kRm 2 47 0 0) s m args below meth c H locs 0 0 Q (F0 m 47 ls []) := by
    intro H locs ls hW hl
    refine lv_iload_n hx hb dX10_sumOf_47 rfl (lv_at hl 0 rfl) ?_
    obtain rfl := Option.some.inj hf
    exact k_iret C hlocks hr hW hQ dX10_sumOf_48
  have L7 : ∀ (n : Nat) (i1 : Int32) (i2 : Int32), lpI n (un2 (pX10_sumOf_L4 u0 p1)) (i1, i2) = some x3 → ∀ (H : Heap) (locs : List Loc) (ls : Array Slot), kH D A s H locs [(r0, .inl (cI, 84, .inl u0))] → lv_has ls 5 [(3, .int i1), (2, .int i2), (0, .ref r0), (1, .int p1)] → W p l e (kRm 2 47 0 0) s m args below meth c H locs 0 0 Q (F0 m 4 ls []) := by
    intro n
    induction n with
    | zero => intro i1 i2 hx5; exact (lpI_0 hx5).elim
    | succ n ih9 =>
      intro i1 i2 hx5 H locs ls hW hl
      obtain ⟨ooho4, ho4, hx5⟩ := lpI_s hx5
      replace ho4 := un2_s ho4
      unfold pX10_sumOf_L4 at ho4
      refine lv_iload_n hx hb dX10_sumOf_4 rfl (lv_at hl 0 rfl) ?_
      refine lv_bipush (v := 6) hx hb dX10_sumOf_5 (by decide) ?_
      refine lv_icmp_ge (tgt := 47) hx hb dX10_sumOf_7 (by decide) (fun hc => ?_) (fun hc => ?_)
      · replace ho4 := if_t hc ho4
        obtain rfl := Option.some.inj ho4
        obtain rfl := lpK_r hx5
        exact J6 _ _ _ hW (lv_sub hl [1] rfl)
      · replace ho4 := if_f hc ho4
        refine lv_iconst (v := 0) hx hb dX10_sumOf_10 (by decide) ?_
        refine lv_istore (lv' := [(4, .int 0), (3, .int i1), (2, .int i2), (0, .ref r0), (1, .int p1)]) hx hb dX10_sumOf_11 hl (by decide) rfl (fun ls hl => ?_)
        obtain ⟨x12, hx140, ho4⟩ := bd1_s ho4
        have J15 : ∀ (H : Heap) (locs : List Loc) (ls : Array Slot), kH D A s H locs [(r0, .inl (cI, 84, .inl u0))] → lv_has ls 5 [(3, .int i1), (2, .int x12), (0, .ref r0), (1, .int p1)] → W p l e (kRm 2 47 0 0) s m args below meth c H locs 0 0 Q (F0 m 41 ls []) := by
          intro H locs ls hW hl
          refine lv_iinc (v := (i1 + 1)) (lv' := [(3, .int (i1 + 1)), (2, .int x12), (0, .ref r0), (1, .int p1)]) hx hb dX10_sumOf_41 hl (k := 0) rfl rfl (by decide) rfl (fun ls hl => ?_)
          refine lv_goto (tgt := 4) hx hb dX10_sumOf_44 (by decide) ?_
          obtain rfl := Option.some.inj ho4
          exact ih9 _ _ hx5 _ _ _ hW (lv_sub hl [0, 1, 2, 3] rfl)
        have L16 : ∀ (n : Nat) (i10 : Int32) (i11 : Int32), lpI n (un2 (pX10_sumOf_L13 u0 p1 i1)) (i10, i11) = some x12 → ∀ (H : Heap) (locs : List Loc) (ls : Array Slot), kH D A s H locs [(r0, .inl (cI, 84, .inl u0))] → lv_has ls 5 [(4, .int i10), (3, .int i1), (2, .int i11), (0, .ref r0), (1, .int p1)] → W p l e (kRm 2 47 0 0) s m args below meth c H locs 0 0 Q (F0 m 13 ls []) := by
          intro n
          induction n with
          | zero => intro i10 i11 hx14; exact (lpI_0 hx14).elim
          | succ n ih18 =>
            intro i10 i11 hx14 H locs ls hW hl
            obtain ⟨ooho13, ho13, hx14⟩ := lpI_s hx14
            replace ho13 := un2_s ho13
            unfold pX10_sumOf_L13 at ho13
            refine lv_iload hx hb dX10_sumOf_13 (lv_at hl 0 rfl) ?_
            refine lv_aload_n hx hb dX10_sumOf_15 rfl (lv_at hl 3 rfl) ?_
            refine lv_iload_n hx hb dX10_sumOf_16 rfl (lv_at hl 4 rfl) ?_
            refine lv_iload_n hx hb dX10_sumOf_17 rfl (lv_at hl 1 rfl) ?_
            obtain ⟨v19, h20, ho13⟩ := bd1_s ho13
            refine k_callSR (As := [.ref r0, .int p1, .int i1]) (n := 3) (rest := [.int i10]) (st1 := [.int v19, .int i10]) C hE hW hl.1 (kX10_length l D cI cZ cJ _ r0 u0 p1 i1 v19 h20) gX10_sumOf_X10_length rfl (by decide +kernel) rfl ⟨Nat.le_of_ble_eq_true rfl, Nat.le_of_ble_eq_true rfl⟩ ⟨Nat.zero_le _, Nat.zero_le _⟩ [0] rfl rfl (Nat.le_of_ble_eq_true rfl) rfl rfl dX10_sumOf_18 (fun H locs hW => ?_)
            refine lv_icmp_ge (tgt := 41) hx hb dX10_sumOf_21 (by decide) (fun hc => ?_) (fun hc => ?_)
            · replace ho13 := if_t hc ho13
              obtain rfl := Option.some.inj ho13
              obtain rfl := lpK_r hx14
              exact J15 _ _ _ hW (lv_sub hl [1, 2, 3, 4] rfl)
            · replace ho13 := if_f hc ho13
              refine lv_iload_n hx hb dX10_sumOf_24 rfl (lv_at hl 2 rfl) ?_
              refine lv_aload_n hx hb dX10_sumOf_25 rfl (lv_at hl 3 rfl) ?_
              refine lv_iload_n hx hb dX10_sumOf_26 rfl (lv_at hl 4 rfl) ?_
              refine lv_iload_n hx hb dX10_sumOf_27 rfl (lv_at hl 1 rfl) ?_
              refine lv_iload hx hb dX10_sumOf_28 (lv_at hl 0 rfl) ?_
              obtain ⟨v21, h22, ho13⟩ := bd1_s ho13
              refine k_callSR (As := [.ref r0, .int p1, .int i1, .int i10]) (n := 4) (rest := [.int i11]) (st1 := [.int v21, .int i11]) C hE hW hl.1 (kX10_get l D cI cZ cJ _ r0 u0 p1 i1 i10 v21 h22) gX10_sumOf_X10_get rfl (by decide +kernel) rfl ⟨Nat.le_of_ble_eq_true rfl, Nat.le_of_ble_eq_true rfl⟩ ⟨Nat.zero_le _, Nat.zero_le _⟩ [0] rfl rfl (Nat.le_of_ble_eq_true rfl) rfl rfl dX10_sumOf_30 (fun H locs hW => ?_)
              refine lv_iadd hx hb dX10_sumOf_33 ?_
              refine lv_istore_n (lv' := [(2, .int (i11 + v21)), (4, .int i10), (3, .int i1), (0, .ref r0), (1, .int p1)]) hx hb dX10_sumOf_34 rfl hl (by decide) rfl (fun ls hl => ?_)
              refine lv_iinc (v := (i10 + 1)) (lv' := [(4, .int (i10 + 1)), (2, .int (i11 + v21)), (3, .int i1), (0, .ref r0), (1, .int p1)]) hx hb dX10_sumOf_35 hl (k := 1) rfl rfl (by decide) rfl (fun ls hl => ?_)
              refine lv_goto (tgt := 13) hx hb dX10_sumOf_38 (by decide) ?_
              obtain rfl := Option.some.inj ho13
              exact ih18 _ _ hx14 _ _ _ hW (lv_sub hl [0, 2, 1, 3, 4] rfl)
        exact L16 lpF _ _ hx140 _ _ _ hW (lv_sub hl [0, 1, 2, 3, 4] rfl)
  exact L7 lpF _ _ hx50 _ _ _ hW (lv_sub hl [0, 1, 2, 3] rfl)

set_option maxHeartbeats 4000000 in
set_option maxRecDepth 100000 in
theorem kX10_about (l : Launch) (D : va_G) (cI cZ cJ : ClassId) (sz : Nat) (q q_now q_script q_readRow q_trial q_diary q_kept q_isKept q_sums q_primes q_turned : Nat) (u_refusal : Int32) (u_scriptSize : Int32) (u_spot : Int32) (u_acts : Int32) (u_slides : Int32) (u_now : Nat → Int32) (p0 : Int32) (p1 : Int32) (r : Int32) (u_refusal' : Int32) (hf : pX10_about u_refusal u_now p0 p1 = some (r, u_refusal')) : kMet l D cI cZ cJ yX10_about wsX10_about 3 73 [.ref q, .int p0, .int p1] [(q, .inr (9, [.int u_refusal, .ref q_script, .int u_scriptSize, .int u_spot, .ref q_readRow, .ref q_now, .ref q_trial, .ref q_diary, .int u_acts, .ref q_kept, .ref q_isKept, .int u_slides, .ref q_sums, .ref q_primes, .ref q_turned])), (q_now, .inl (cI, 84, .inl u_now))] sz (some (.int r)) [(q, .inr (9, [.int u_refusal', .ref q_script, .int u_scriptSize, .int u_spot, .ref q_readRow, .ref q_now, .ref q_trial, .ref q_diary, .int u_acts, .ref q_kept, .ref q_isKept, .int u_slides, .ref q_sums, .ref q_primes, .ref q_turned])), (q_now, .inl (cI, 84, .inl u_now))] := by
  refine kM_of (cc := cX10_about) (maxL := 6) (ret := (some .int)) (by decide) rfl (Nat.le_of_ble_eq_true rfl) ?_
  intro p e s m args below meth c A Q ls hQ C hlocks hr hE hW hl
  have hx := C.1
  have hb := C.2.1
  have hts := C.2.2.2.2
  have hl : lv_has ls 6 [(0, .ref q), (1, .int p0), (2, .int p1)] := hl
  have iX10 : ∀ w ∈ u_ws RX10 TX10 15, w ∈ wsX10_about := by decide +kernel
  have f16 := hts (.fieldLink RX10 16 "SortedTablesModel" "now" "[I") (by decide +kernel)
  unfold pX10_about at hf
  refine lv_aload_n hx hb dX10_about_0 rfl (lv_at hl 0 rfl) ?_
  refine lv_iload_n hx hb dX10_about_1 rfl (lv_at hl 1 rfl) ?_
  obtain ⟨v1, h2, hf⟩ := bd1_s hf
  refine k_callSR (As := [.int p0]) (n := 1) (rest := [.ref q]) (st1 := [.int v1, .ref q]) C hE hW hl.1 (kX10_isTable l D cI cZ cJ _ p0 v1 h2) gX10_about_X10_isTable rfl (by decide +kernel) rfl ⟨Nat.le_of_ble_eq_true rfl, Nat.le_of_ble_eq_true rfl⟩ ⟨Nat.zero_le _, Nat.zero_le _⟩ [] rfl rfl (Nat.le_of_ble_eq_true rfl) rfl rfl dX10_about_2 (fun H locs hW => ?_)
  obtain ⟨j3, hd4, hf⟩ := bd1_s hf
  have J5 : ∀ (H : Heap) (locs : List Loc) (ls : Array Slot), kH D A s H locs [(q, .inr (9, [.int u_refusal, .ref q_script, .int u_scriptSize, .int u_spot, .ref q_readRow, .ref q_now, .ref q_trial, .ref q_diary, .int u_acts, .ref q_kept, .ref q_isKept, .int u_slides, .ref q_sums, .ref q_primes, .ref q_turned])), (q_now, .inl (cI, 84, .inl u_now))] → lv_has ls 6 [(0, .ref q), (1, .int p0), (2, .int p1)] → W p l e (kRm 3 73 0 0) s m args below meth c H locs 0 0 Q (F0 m 29 ls [.int j3, .ref q]) := by
    intro H locs ls hW hl
    obtain ⟨⟨v8, w9⟩, h10, hf⟩ := bd1_s hf
    replace hf := un2_s hf
    refine k_callV (b := q) (ci := 9) (qb := 0) (As := [.int j3]) (n := 1) (rest := []) (st1 := [.int v8]) (wr := [(q_now, .inl (cI, 84, .inl u_now))]) (ws' := [(q, .inr (9, [.int w9, .ref q_script, .int u_scriptSize, .int u_spot, .ref q_readRow, .ref q_now, .ref q_trial, .ref q_diary, .int u_acts, .ref q_kept, .ref q_isKept, .int u_slides, .ref q_sums, .ref q_primes, .ref q_turned])), (q_now, .inl (cI, 84, .inl u_now))]) C hE hW hl.1 (kX10_refused l D cI cZ cJ _ q q_script q_readRow q_now q_trial q_diary q_kept q_isKept q_sums q_primes q_turned u_refusal u_scriptSize u_spot u_acts u_slides j3 v8 w9 h10) gX10_about_X10_refused rfl (by decide +kernel) rfl ⟨Nat.le_of_ble_eq_true rfl, Nat.le_of_ble_eq_true rfl⟩ ⟨Nat.zero_le _, Nat.zero_le _⟩ rfl rfl [0] [1] [1, 0] rfl rfl rfl rfl (by decide) rfl rfl (Nat.le_of_ble_eq_true rfl) rfl rfl dX10_about_29 (fun H locs hW => ?_)
    refine lv_if_eq (tgt := 37) hx hb dX10_about_32 (by decide) (fun hc => ?_) (fun hc => ?_)
    · replace hf := if_t hc hf
      refine lv_iconst (v := 0) hx hb dX10_about_37 (by decide) ?_
      refine lv_istore_n (lv' := [(3, .int 0), (0, .ref q), (1, .int p0), (2, .int p1)]) hx hb dX10_about_38 rfl hl (by decide) rfl (fun ls hl => ?_)
      refine lv_iconst (v := 0) hx hb dX10_about_39 (by decide) ?_
      refine lv_istore (lv' := [(4, .int 0), (3, .int 0), (0, .ref q), (1, .int p0), (2, .int p1)]) hx hb dX10_about_40 hl (by decide) rfl (fun ls hl => ?_)
      refine lv_iconst (v := 0) hx hb dX10_about_42 (by decide) ?_
      refine lv_istore (lv' := [(5, .int 0), (4, .int 0), (3, .int 0), (0, .ref q), (1, .int p0), (2, .int p1)]) hx hb dX10_about_43 hl (by decide) rfl (fun ls hl => ?_)
      obtain ⟨⟨x14, x15⟩, hx170, hf⟩ := bd1_s hf
      replace hf := un2_s hf
      have J18 : ∀ (H : Heap) (locs : List Loc) (ls : Array Slot), kH D A s H locs [(q, .inr (9, [.int w9, .ref q_script, .int u_scriptSize, .int u_spot, .ref q_readRow, .ref q_now, .ref q_trial, .ref q_diary, .int u_acts, .ref q_kept, .ref q_isKept, .int u_slides, .ref q_sums, .ref q_primes, .ref q_turned])), (q_now, .inl (cI, 84, .inl u_now))] → lv_has ls 6 [(4, .int x14), (3, .int x15), (0, .ref q), (1, .int p0), (2, .int p1)] → W p l e (kRm 3 73 0 0) s m args below meth c H locs 0 0 Q (F0 m 102 ls []) := by
        intro H locs ls hW hl
        refine lv_iload_n hx hb dX10_about_102 rfl (lv_at hl 4 rfl) ?_
        by_cases hs0 : p1 = 0
        · replace hf := if_t hs0 hf
          refine lv_tableIn (off := 41) (tgt := 144) hx hb dX10_about_103 (by rw [hs0]; decide) (by rw [hs0]; decide) (by rw [hs0]; decide +kernel) (by decide) ?_
          refine lv_aload_n hx hb dX10_about_144 rfl (lv_at hl 2 rfl) ?_
          refine k_get C hE hW iX10 0 rfl rfl 5 (by decide) f16 (fun _ h9 => h9) rfl dX10_about_145 ?_
          refine lv_iload_n hx hb dX10_about_148 rfl (lv_at hl 3 rfl) ?_
          obtain ⟨v29, h30, hf⟩ := bd1_s hf
          refine k_callSR (As := [.ref q_now, .int p0]) (n := 2) (rest := []) (st1 := [.int v29]) C hE hW hl.1 (kX10_rows l D cI cZ cJ _ q_now u_now p0 v29 h30) gX10_about_X10_rows rfl (by decide +kernel) rfl ⟨Nat.le_of_ble_eq_true rfl, Nat.le_of_ble_eq_true rfl⟩ ⟨Nat.zero_le _, Nat.zero_le _⟩ [1] rfl rfl (Nat.le_of_ble_eq_true rfl) rfl rfl dX10_about_149 (fun H locs hW => ?_)
          obtain ⟨rfl, rfl⟩ := sm2 hf
          exact k_iret C hlocks hr hW hQ dX10_about_152
        · replace hf := if_f hs0 hf
          by_cases hs1 : p1 = 1
          · replace hf := if_t hs1 hf
            refine lv_tableIn (off := 50) (tgt := 153) hx hb dX10_about_103 (by rw [hs1]; decide) (by rw [hs1]; decide) (by rw [hs1]; decide +kernel) (by decide) ?_
            refine lv_aload_n hx hb dX10_about_153 rfl (lv_at hl 2 rfl) ?_
            refine k_get C hE hW iX10 0 rfl rfl 5 (by decide) f16 (fun _ h9 => h9) rfl dX10_about_154 ?_
            refine lv_iload_n hx hb dX10_about_157 rfl (lv_at hl 3 rfl) ?_
            refine lv_iconst (v := 0) hx hb dX10_about_158 (by decide) ?_
            obtain ⟨v31, h32, hf⟩ := bd1_s hf
            refine k_callSR (As := [.ref q_now, .int p0, .int 0]) (n := 3) (rest := []) (st1 := [.int v31]) C hE hW hl.1 (kX10_length l D cI cZ cJ _ q_now u_now p0 0 v31 h32) gX10_about_X10_length rfl (by decide +kernel) rfl ⟨Nat.le_of_ble_eq_true rfl, Nat.le_of_ble_eq_true rfl⟩ ⟨Nat.zero_le _, Nat.zero_le _⟩ [1] rfl rfl (Nat.le_of_ble_eq_true rfl) rfl rfl dX10_about_159 (fun H locs hW => ?_)
            obtain ⟨rfl, rfl⟩ := sm2 hf
            exact k_iret C hlocks hr hW hQ dX10_about_162
          · replace hf := if_f hs1 hf
            by_cases hs2 : p1 = 2
            · replace hf := if_t hs2 hf
              refine lv_tableIn (off := 60) (tgt := 163) hx hb dX10_about_103 (by rw [hs2]; decide) (by rw [hs2]; decide) (by rw [hs2]; decide +kernel) (by decide) ?_
              refine lv_aload_n hx hb dX10_about_163 rfl (lv_at hl 2 rfl) ?_
              refine k_get C hE hW iX10 0 rfl rfl 5 (by decide) f16 (fun _ h9 => h9) rfl dX10_about_164 ?_
              refine lv_iload_n hx hb dX10_about_167 rfl (lv_at hl 3 rfl) ?_
              obtain ⟨v33, h34, hf⟩ := bd1_s hf
              refine k_callSR (As := [.ref q_now, .int p0]) (n := 2) (rest := []) (st1 := [.int v33]) C hE hW hl.1 (kX10_many l D cI cZ cJ _ q_now u_now p0 v33 h34) gX10_about_X10_many rfl (by decide +kernel) rfl ⟨Nat.le_of_ble_eq_true rfl, Nat.le_of_ble_eq_true rfl⟩ ⟨Nat.zero_le _, Nat.zero_le _⟩ [1] rfl rfl (Nat.le_of_ble_eq_true rfl) rfl rfl dX10_about_168 (fun H locs hW => ?_)
              obtain ⟨rfl, rfl⟩ := sm2 hf
              exact k_iret C hlocks hr hW hQ dX10_about_171
            · replace hf := if_f hs2 hf
              by_cases hs3 : p1 = 3
              · replace hf := if_t hs3 hf
                refine lv_tableIn (off := 69) (tgt := 172) hx hb dX10_about_103 (by rw [hs3]; decide) (by rw [hs3]; decide) (by rw [hs3]; decide +kernel) (by decide) ?_
                refine lv_aload_n hx hb dX10_about_172 rfl (lv_at hl 2 rfl) ?_
                refine k_get C hE hW iX10 0 rfl rfl 5 (by decide) f16 (fun _ h9 => h9) rfl dX10_about_173 ?_
                refine lv_iload_n hx hb dX10_about_176 rfl (lv_at hl 3 rfl) ?_
                refine lv_iload_n hx hb dX10_about_177 rfl (lv_at hl 4 rfl) ?_
                refine lv_iconst (v := 4) hx hb dX10_about_178 (by decide) ?_
                obtain ⟨j35, hd36, hf⟩ := bd1_s hf
                have J37 : ∀ (H : Heap) (locs : List Loc) (ls : Array Slot), kH D A s H locs [(q, .inr (9, [.int w9, .ref q_script, .int u_scriptSize, .int u_spot, .ref q_readRow, .ref q_now, .ref q_trial, .ref q_diary, .int u_acts, .ref q_kept, .ref q_isKept, .int u_slides, .ref q_sums, .ref q_primes, .ref q_turned])), (q_now, .inl (cI, 84, .inl u_now))] → lv_has ls 6 [] → W p l e (kRm 3 73 0 0) s m args below meth c H locs 0 0 Q (F0 m 187 ls [.int j35, .int p0, .ref q_now]) := by
                  intro H locs ls hW hl
                  obtain ⟨v38, h39, hf⟩ := bd1_s hf
                  refine k_callSR (As := [.ref q_now, .int p0, .int j35]) (n := 3) (rest := []) (st1 := [.int v38]) C hE hW hl.1 (kX10_extreme l D cI cZ cJ _ q_now u_now p0 j35 v38 h39) gX10_about_X10_extreme rfl (by decide +kernel) rfl ⟨Nat.le_of_ble_eq_true rfl, Nat.le_of_ble_eq_true rfl⟩ ⟨Nat.zero_le _, Nat.zero_le _⟩ [1] rfl rfl (Nat.le_of_ble_eq_true rfl) rfl rfl dX10_about_187 (fun H locs hW => ?_)
                  obtain ⟨rfl, rfl⟩ := sm2 hf
                  exact k_iret C hlocks hr hW hQ dX10_about_190
                refine lv_icmp_ne (tgt := 186) hx hb dX10_about_179 (by decide) (fun hc => ?_) (fun hc => ?_)
                · replace hd36 := if_f hc hd36
                  refine lv_iconst (v := 0) hx hb dX10_about_186 (by decide) ?_
                  obtain rfl := Option.some.inj hd36
                  exact J37 _ _ _ hW (lv_sub hl [] rfl)
                · replace hd36 := if_t hc hd36
                  refine lv_iconst (v := 1) hx hb dX10_about_182 (by decide) ?_
                  refine lv_goto (tgt := 187) hx hb dX10_about_183 (by decide) ?_
                  obtain rfl := Option.some.inj hd36
                  exact J37 _ _ _ hW (lv_sub hl [] rfl)
              · replace hf := if_f hs3 hf
                by_cases hs4 : p1 = 4
                · replace hf := if_t hs4 hf
                  refine lv_tableIn (off := 69) (tgt := 172) hx hb dX10_about_103 (by rw [hs4]; decide) (by rw [hs4]; decide) (by rw [hs4]; decide +kernel) (by decide) ?_
                  refine lv_aload_n hx hb dX10_about_172 rfl (lv_at hl 2 rfl) ?_
                  refine k_get C hE hW iX10 0 rfl rfl 5 (by decide) f16 (fun _ h9 => h9) rfl dX10_about_173 ?_
                  refine lv_iload_n hx hb dX10_about_176 rfl (lv_at hl 3 rfl) ?_
                  refine lv_iload_n hx hb dX10_about_177 rfl (lv_at hl 4 rfl) ?_
                  refine lv_iconst (v := 4) hx hb dX10_about_178 (by decide) ?_
                  obtain ⟨j40, hd41, hf⟩ := bd1_s hf
                  have J42 : ∀ (H : Heap) (locs : List Loc) (ls : Array Slot), kH D A s H locs [(q, .inr (9, [.int w9, .ref q_script, .int u_scriptSize, .int u_spot, .ref q_readRow, .ref q_now, .ref q_trial, .ref q_diary, .int u_acts, .ref q_kept, .ref q_isKept, .int u_slides, .ref q_sums, .ref q_primes, .ref q_turned])), (q_now, .inl (cI, 84, .inl u_now))] → lv_has ls 6 [] → W p l e (kRm 3 73 0 0) s m args below meth c H locs 0 0 Q (F0 m 187 ls [.int j40, .int p0, .ref q_now]) := by
                    intro H locs ls hW hl
                    obtain ⟨v43, h44, hf⟩ := bd1_s hf
                    refine k_callSR (As := [.ref q_now, .int p0, .int j40]) (n := 3) (rest := []) (st1 := [.int v43]) C hE hW hl.1 (kX10_extreme l D cI cZ cJ _ q_now u_now p0 j40 v43 h44) gX10_about_X10_extreme rfl (by decide +kernel) rfl ⟨Nat.le_of_ble_eq_true rfl, Nat.le_of_ble_eq_true rfl⟩ ⟨Nat.zero_le _, Nat.zero_le _⟩ [1] rfl rfl (Nat.le_of_ble_eq_true rfl) rfl rfl dX10_about_187 (fun H locs hW => ?_)
                    obtain ⟨rfl, rfl⟩ := sm2 hf
                    exact k_iret C hlocks hr hW hQ dX10_about_190
                  refine lv_icmp_ne (tgt := 186) hx hb dX10_about_179 (by decide) (fun hc => ?_) (fun hc => ?_)
                  · replace hd41 := if_f hc hd41
                    refine lv_iconst (v := 0) hx hb dX10_about_186 (by decide) ?_
                    obtain rfl := Option.some.inj hd41
                    exact J42 _ _ _ hW (lv_sub hl [] rfl)
                  · replace hd41 := if_t hc hd41
                    refine lv_iconst (v := 1) hx hb dX10_about_182 (by decide) ?_
                    refine lv_goto (tgt := 187) hx hb dX10_about_183 (by decide) ?_
                    obtain rfl := Option.some.inj hd41
                    exact J42 _ _ _ hW (lv_sub hl [] rfl)
                · replace hf := if_f hs4 hf
                  by_cases hs5 : p1 = 5
                  · replace hf := if_t hs5 hf
                    refine lv_tableIn (off := 88) (tgt := 191) hx hb dX10_about_103 (by rw [hs5]; decide) (by rw [hs5]; decide) (by rw [hs5]; decide +kernel) (by decide) ?_
                    refine lv_aload_n hx hb dX10_about_191 rfl (lv_at hl 2 rfl) ?_
                    refine k_get C hE hW iX10 0 rfl rfl 5 (by decide) f16 (fun _ h9 => h9) rfl dX10_about_192 ?_
                    refine lv_iload_n hx hb dX10_about_195 rfl (lv_at hl 3 rfl) ?_
                    obtain ⟨v45, h46, hf⟩ := bd1_s hf
                    refine k_callSR (As := [.ref q_now, .int p0]) (n := 2) (rest := []) (st1 := [.int v45]) C hE hW hl.1 (kX10_sumOf l D cI cZ cJ _ q_now u_now p0 v45 h46) gX10_about_X10_sumOf rfl (by decide +kernel) rfl ⟨Nat.le_of_ble_eq_true rfl, Nat.le_of_ble_eq_true rfl⟩ ⟨Nat.zero_le _, Nat.zero_le _⟩ [1] rfl rfl (Nat.le_of_ble_eq_true rfl) rfl rfl dX10_about_196 (fun H locs hW => ?_)
                    obtain ⟨rfl, rfl⟩ := sm2 hf
                    exact k_iret C hlocks hr hW hQ dX10_about_199
                  · replace hf := if_f hs5 hf
                    by_cases hs6 : p1 = 6
                    · replace hf := if_t hs6 hf
                      refine lv_tableIn (off := 97) (tgt := 200) hx hb dX10_about_103 (by rw [hs6]; decide) (by rw [hs6]; decide) (by rw [hs6]; decide +kernel) (by decide) ?_
                      refine lv_iload_n hx hb dX10_about_200 rfl (lv_at hl 1 rfl) ?_
                      obtain ⟨rfl, rfl⟩ := sm2 hf
                      exact k_iret C hlocks hr hW hQ dX10_about_201
                    · replace hf := if_f hs6 hf
                      refine lv_tableOut (tgt := 202) hx hb dX10_about_103 (kt_out7_0 hs0 hs1 hs2 hs3 hs4 hs5 hs6) (by decide) ?_
                      refine lv_iload hx hb dX10_about_202 (lv_at hl 0 rfl) ?_
                      obtain ⟨rfl, rfl⟩ := sm2 hf
                      exact k_iret C hlocks hr hW hQ dX10_about_204
      have L19 : ∀ (n : Nat) (i11 : Int32) (i12 : Int32) (i13 : Int32), lpI n (un3 (pX10_about_L45 u_now p0)) (i11, i12, i13) = some (x14, x15) → ∀ (H : Heap) (locs : List Loc) (ls : Array Slot), kH D A s H locs [(q, .inr (9, [.int w9, .ref q_script, .int u_scriptSize, .int u_spot, .ref q_readRow, .ref q_now, .ref q_trial, .ref q_diary, .int u_acts, .ref q_kept, .ref q_isKept, .int u_slides, .ref q_sums, .ref q_primes, .ref q_turned])), (q_now, .inl (cI, 84, .inl u_now))] → lv_has ls 6 [(5, .int i11), (4, .int i12), (3, .int i13), (0, .ref q), (1, .int p0), (2, .int p1)] → W p l e (kRm 3 73 0 0) s m args below meth c H locs 0 0 Q (F0 m 45 ls []) := by
        intro n
        induction n with
        | zero => intro i11 i12 i13 hx17; exact (lpI_0 hx17).elim
        | succ n ih21 =>
          intro i11 i12 i13 hx17 H locs ls hW hl
          obtain ⟨ooho16, ho16, hx17⟩ := lpI_s hx17
          replace ho16 := un3_s ho16
          unfold pX10_about_L45 at ho16
          refine lv_iload hx hb dX10_about_45 (lv_at hl 0 rfl) ?_
          refine lv_bipush (v := 6) hx hb dX10_about_47 (by decide) ?_
          refine lv_icmp_ge (tgt := 102) hx hb dX10_about_49 (by decide) (fun hc => ?_) (fun hc => ?_)
          · replace ho16 := if_t hc ho16
            obtain rfl := Option.some.inj ho16
            obtain ⟨rfl, rfl⟩ := pr2 (lpK_r hx17)
            exact J18 _ _ _ hW (lv_sub hl [1, 2, 3, 4, 5] rfl)
          · replace ho16 := if_f hc ho16
            refine lv_iload_n hx hb dX10_about_52 rfl (lv_at hl 2 rfl) ?_
            refine lv_aload_n hx hb dX10_about_53 rfl (lv_at hl 3 rfl) ?_
            refine k_get C hE hW iX10 0 rfl rfl 5 (by decide) f16 (fun _ h9 => h9) rfl dX10_about_54 ?_
            refine lv_iload_n hx hb dX10_about_57 rfl (lv_at hl 4 rfl) ?_
            refine lv_iload hx hb dX10_about_58 (lv_at hl 0 rfl) ?_
            obtain ⟨v22, h23, ho16⟩ := bd1_s ho16
            refine k_callSR (As := [.ref q_now, .int p0, .int i11]) (n := 3) (rest := [.int i13]) (st1 := [.int v22, .int i13]) C hE hW hl.1 (kX10_isCorner l D cI cZ cJ _ q_now u_now p0 i11 v22 h23) gX10_about_X10_isCorner rfl (by decide +kernel) rfl ⟨Nat.le_of_ble_eq_true rfl, Nat.le_of_ble_eq_true rfl⟩ ⟨Nat.zero_le _, Nat.zero_le _⟩ [1] rfl rfl (Nat.le_of_ble_eq_true rfl) rfl rfl dX10_about_60 (fun H locs hW => ?_)
            obtain ⟨j24, hd25, ho16⟩ := bd1_s ho16
            have J26 : ∀ (H : Heap) (locs : List Loc) (ls : Array Slot), kH D A s H locs [(q, .inr (9, [.int w9, .ref q_script, .int u_scriptSize, .int u_spot, .ref q_readRow, .ref q_now, .ref q_trial, .ref q_diary, .int u_acts, .ref q_kept, .ref q_isKept, .int u_slides, .ref q_sums, .ref q_primes, .ref q_turned])), (q_now, .inl (cI, 84, .inl u_now))] → lv_has ls 6 [(0, .ref q), (1, .int p0), (2, .int p1), (4, .int i12), (5, .int i11)] → W p l e (kRm 3 73 0 0) s m args below meth c H locs 0 0 Q (F0 m 71 ls [.int j24, .int i13]) := by
              intro H locs ls hW hl
              refine lv_iadd hx hb dX10_about_71 ?_
              refine lv_istore_n (lv' := [(3, .int (i13 + j24)), (0, .ref q), (1, .int p0), (2, .int p1), (4, .int i12), (5, .int i11)]) hx hb dX10_about_72 rfl hl (by decide) rfl (fun ls hl => ?_)
              refine lv_iload hx hb dX10_about_73 (lv_at hl 4 rfl) ?_
              refine lv_aload_n hx hb dX10_about_75 rfl (lv_at hl 1 rfl) ?_
              refine k_get C hE hW iX10 0 rfl rfl 5 (by decide) f16 (fun _ h9 => h9) rfl dX10_about_76 ?_
              refine lv_iload_n hx hb dX10_about_79 rfl (lv_at hl 2 rfl) ?_
              refine lv_iload hx hb dX10_about_80 (lv_at hl 5 rfl) ?_
              obtain ⟨v27, h28, ho16⟩ := bd1_s ho16
              refine k_callSR (As := [.ref q_now, .int p0, .int i11]) (n := 3) (rest := [.int i12]) (st1 := [.int v27, .int i12]) C hE hW hl.1 (kX10_isGap l D cI cZ cJ _ q_now u_now p0 i11 v27 h28) gX10_about_X10_isGap rfl (by decide +kernel) rfl ⟨Nat.le_of_ble_eq_true rfl, Nat.le_of_ble_eq_true rfl⟩ ⟨Nat.zero_le _, Nat.zero_le _⟩ [1] rfl rfl (Nat.le_of_ble_eq_true rfl) rfl rfl dX10_about_82 (fun H locs hW => ?_)
              refine lv_if_eq (tgt := 92) hx hb dX10_about_85 (by decide) (fun hc => ?_) (fun hc => ?_)
              · replace ho16 := if_t hc ho16
                refine lv_iconst (v := 0) hx hb dX10_about_92 (by decide) ?_
                refine lv_iadd hx hb dX10_about_93 ?_
                refine lv_istore (lv' := [(4, .int (i12 + 0)), (3, .int (i13 + j24)), (0, .ref q), (1, .int p0), (2, .int p1), (5, .int i11)]) hx hb dX10_about_94 hl (by decide) rfl (fun ls hl => ?_)
                refine lv_iinc (v := (i11 + 1)) (lv' := [(5, .int (i11 + 1)), (4, .int (i12 + 0)), (3, .int (i13 + j24)), (0, .ref q), (1, .int p0), (2, .int p1)]) hx hb dX10_about_96 hl (k := 5) rfl rfl (by decide) rfl (fun ls hl => ?_)
                refine lv_goto (tgt := 45) hx hb dX10_about_99 (by decide) ?_
                obtain rfl := Option.some.inj ho16
                exact ih21 _ _ _ hx17 _ _ _ hW (lv_sub hl [0, 1, 2, 3, 4, 5] rfl)
              · replace ho16 := if_f hc ho16
                refine lv_iconst (v := 1) hx hb dX10_about_88 (by decide) ?_
                refine lv_goto (tgt := 93) hx hb dX10_about_89 (by decide) ?_
                refine lv_iadd hx hb dX10_about_93 ?_
                refine lv_istore (lv' := [(4, .int (i12 + 1)), (3, .int (i13 + j24)), (0, .ref q), (1, .int p0), (2, .int p1), (5, .int i11)]) hx hb dX10_about_94 hl (by decide) rfl (fun ls hl => ?_)
                refine lv_iinc (v := (i11 + 1)) (lv' := [(5, .int (i11 + 1)), (4, .int (i12 + 1)), (3, .int (i13 + j24)), (0, .ref q), (1, .int p0), (2, .int p1)]) hx hb dX10_about_96 hl (k := 5) rfl rfl (by decide) rfl (fun ls hl => ?_)
                refine lv_goto (tgt := 45) hx hb dX10_about_99 (by decide) ?_
                obtain rfl := Option.some.inj ho16
                exact ih21 _ _ _ hx17 _ _ _ hW (lv_sub hl [0, 1, 2, 3, 4, 5] rfl)
            refine lv_if_eq (tgt := 70) hx hb dX10_about_63 (by decide) (fun hc => ?_) (fun hc => ?_)
            · replace hd25 := if_t hc hd25
              refine lv_iconst (v := 0) hx hb dX10_about_70 (by decide) ?_
              obtain rfl := Option.some.inj hd25
              exact J26 _ _ _ hW (lv_sub hl [3, 4, 5, 1, 0] rfl)
            · replace hd25 := if_f hc hd25
              refine lv_iconst (v := 1) hx hb dX10_about_66 (by decide) ?_
              refine lv_goto (tgt := 71) hx hb dX10_about_67 (by decide) ?_
              obtain rfl := Option.some.inj hd25
              exact J26 _ _ _ hW (lv_sub hl [3, 4, 5, 1, 0] rfl)
      exact L19 lpF _ _ _ hx170 _ _ _ hW (lv_sub hl [0, 1, 2, 3, 4, 5] rfl)
    · replace hf := if_f hc hf
      refine lv_iconst (v := 0) hx hb dX10_about_35 (by decide) ?_
      obtain ⟨rfl, rfl⟩ := sm2 hf
      exact k_iret C hlocks hr hW hQ dX10_about_36
  refine lv_if_ne (tgt := 12) hx hb dX10_about_5 (by decide) (fun hc => ?_) (fun hc => ?_)
  · replace hd4 := if_f hc hd4
    refine lv_iload_n hx hb dX10_about_12 rfl (lv_at hl 2 rfl) ?_
    refine lv_i2l hx hb dX10_about_13 rfl ?_
    refine lv_lconst (v := 0) hx hb dX10_about_14 (by decide) ?_
    refine lv_ldc2 (v := 7) hx hb C.2.2.2.1 (hts (.constantLong RX10 135 (7)) (by decide +kernel)) dX10_about_15 ?_
    obtain ⟨v6, h7, hd4⟩ := bd1_s hd4
    refine k_callSR (As := [.long (p1 : Int32).toInt64, .long 0, .long 7]) (n := 3) (rest := [.ref q]) (st1 := [.int v6, .ref q]) C hE hW hl.1 (kX10_in l D cI cZ cJ _ (p1 : Int32).toInt64 0 7 v6 h7) gX10_about_X10_in rfl (by decide +kernel) rfl ⟨Nat.le_of_ble_eq_true rfl, Nat.le_of_ble_eq_true rfl⟩ ⟨Nat.zero_le _, Nat.zero_le _⟩ [] rfl rfl (Nat.le_of_ble_eq_true rfl) rfl rfl dX10_about_18 (fun H locs hW => ?_)
    refine lv_if_ne (tgt := 28) hx hb dX10_about_21 (by decide) (fun hc => ?_) (fun hc => ?_)
    · replace hd4 := if_f hc hd4
      refine lv_iconst (v := 0) hx hb dX10_about_28 (by decide) ?_
      obtain rfl := Option.some.inj hd4
      exact J5 _ _ _ hW (lv_sub hl [0, 1, 2] rfl)
    · replace hd4 := if_t hc hd4
      refine lv_iconst (v := 2) hx hb dX10_about_24 (by decide) ?_
      refine lv_goto (tgt := 29) hx hb dX10_about_25 (by decide) ?_
      obtain rfl := Option.some.inj hd4
      exact J5 _ _ _ hW (lv_sub hl [0, 1, 2] rfl)
  · replace hd4 := if_t hc hd4
    refine lv_iconst (v := 1) hx hb dX10_about_8 (by decide) ?_
    refine lv_goto (tgt := 29) hx hb dX10_about_9 (by decide) ?_
    obtain rfl := Option.some.inj hd4
    exact J5 _ _ _ hW (lv_sub hl [0, 1, 2] rfl)

set_option maxHeartbeats 4000000 in
set_option maxRecDepth 100000 in
theorem kX10_cell (l : Launch) (D : va_G) (cI cZ cJ : ClassId) (sz : Nat) (q q_now q_script q_readRow q_trial q_diary q_kept q_isKept q_sums q_primes q_turned : Nat) (u_refusal : Int32) (u_scriptSize : Int32) (u_spot : Int32) (u_acts : Int32) (u_slides : Int32) (u_now : Nat → Int32) (p0 : Int32) (p1 : Int32) (p2 : Int32) (r : Int32) (u_refusal' : Int32) (hf : pX10_cell u_refusal u_now p0 p1 p2 = some (r, u_refusal')) : kMet l D cI cZ cJ yX10_cell wsX10_cell 4 93 [.ref q, .int p0, .int p1, .int p2] [(q, .inr (9, [.int u_refusal, .ref q_script, .int u_scriptSize, .int u_spot, .ref q_readRow, .ref q_now, .ref q_trial, .ref q_diary, .int u_acts, .ref q_kept, .ref q_isKept, .int u_slides, .ref q_sums, .ref q_primes, .ref q_turned])), (q_now, .inl (cI, 84, .inl u_now))] sz (some (.int r)) [(q, .inr (9, [.int u_refusal', .ref q_script, .int u_scriptSize, .int u_spot, .ref q_readRow, .ref q_now, .ref q_trial, .ref q_diary, .int u_acts, .ref q_kept, .ref q_isKept, .int u_slides, .ref q_sums, .ref q_primes, .ref q_turned])), (q_now, .inl (cI, 84, .inl u_now))] := by
  refine kM_of (cc := cX10_cell) (maxL := 4) (ret := (some .int)) (by decide) rfl (Nat.le_of_ble_eq_true rfl) ?_
  intro p e s m args below meth c A Q ls hQ C hlocks hr hE hW hl
  have hx := C.1
  have hb := C.2.1
  have hts := C.2.2.2.2
  have hl : lv_has ls 4 [(0, .ref q), (1, .int p0), (2, .int p1), (3, .int p2)] := hl
  have iX10 : ∀ w ∈ u_ws RX10 TX10 15, w ∈ wsX10_cell := by decide +kernel
  have f16 := hts (.fieldLink RX10 16 "SortedTablesModel" "now" "[I") (by decide +kernel)
  unfold pX10_cell at hf
  refine lv_aload_n hx hb dX10_cell_0 rfl (lv_at hl 0 rfl) ?_
  refine lv_aload_n hx hb dX10_cell_1 rfl (lv_at hl 0 rfl) ?_
  refine lv_iload_n hx hb dX10_cell_2 rfl (lv_at hl 1 rfl) ?_
  refine lv_iload_n hx hb dX10_cell_3 rfl (lv_at hl 2 rfl) ?_
  refine lv_iload_n hx hb dX10_cell_4 rfl (lv_at hl 3 rfl) ?_
  obtain ⟨v1, h2, hf⟩ := bd1_s hf
  refine k_callVR (b := q) (ci := 9) (qb := 0) (As := [.int p0, .int p1, .int p2]) (n := 3) (rest := [.ref q]) (st1 := [.int v1, .ref q]) C hE hW hl.1 (kX10_have l D cI cZ cJ _ q q_now q_script q_readRow q_trial q_diary q_kept q_isKept q_sums q_primes q_turned u_refusal u_scriptSize u_spot u_acts u_slides u_now p0 p1 p2 v1 h2) gX10_cell_X10_have rfl (by decide +kernel) rfl ⟨Nat.le_of_ble_eq_true rfl, Nat.le_of_ble_eq_true rfl⟩ ⟨Nat.zero_le _, Nat.zero_le _⟩ rfl rfl [0, 1] rfl rfl (Nat.le_of_ble_eq_true rfl) rfl rfl dX10_cell_5 (fun H locs hW => ?_)
  obtain ⟨j3, hd4, hf⟩ := bd1_s hf
  have J5 : ∀ (H : Heap) (locs : List Loc) (ls : Array Slot), kH D A s H locs [(q, .inr (9, [.int u_refusal, .ref q_script, .int u_scriptSize, .int u_spot, .ref q_readRow, .ref q_now, .ref q_trial, .ref q_diary, .int u_acts, .ref q_kept, .ref q_isKept, .int u_slides, .ref q_sums, .ref q_primes, .ref q_turned])), (q_now, .inl (cI, 84, .inl u_now))] → lv_has ls 4 [(0, .ref q), (1, .int p0), (2, .int p1), (3, .int p2)] → W p l e (kRm 4 93 0 0) s m args below meth c H locs 0 0 Q (F0 m 16 ls [.int j3, .ref q]) := by
    intro H locs ls hW hl
    obtain ⟨⟨v6, w7⟩, h8, hf⟩ := bd1_s hf
    replace hf := un2_s hf
    refine k_callV (b := q) (ci := 9) (qb := 0) (As := [.int j3]) (n := 1) (rest := []) (st1 := [.int v6]) (wr := [(q_now, .inl (cI, 84, .inl u_now))]) (ws' := [(q, .inr (9, [.int w7, .ref q_script, .int u_scriptSize, .int u_spot, .ref q_readRow, .ref q_now, .ref q_trial, .ref q_diary, .int u_acts, .ref q_kept, .ref q_isKept, .int u_slides, .ref q_sums, .ref q_primes, .ref q_turned])), (q_now, .inl (cI, 84, .inl u_now))]) C hE hW hl.1 (kX10_refused l D cI cZ cJ _ q q_script q_readRow q_now q_trial q_diary q_kept q_isKept q_sums q_primes q_turned u_refusal u_scriptSize u_spot u_acts u_slides j3 v6 w7 h8) gX10_cell_X10_refused rfl (by decide +kernel) rfl ⟨Nat.le_of_ble_eq_true rfl, Nat.le_of_ble_eq_true rfl⟩ ⟨Nat.zero_le _, Nat.zero_le _⟩ rfl rfl [0] [1] [1, 0] rfl rfl rfl rfl (by decide) rfl rfl (Nat.le_of_ble_eq_true rfl) rfl rfl dX10_cell_16 (fun H locs hW => ?_)
    refine lv_if_eq (tgt := 24) hx hb dX10_cell_19 (by decide) (fun hc => ?_) (fun hc => ?_)
    · replace hf := if_t hc hf
      refine lv_aload_n hx hb dX10_cell_24 rfl (lv_at hl 0 rfl) ?_
      refine k_get C hE hW iX10 0 rfl rfl 5 (by decide) f16 (fun _ h9 => h9) rfl dX10_cell_25 ?_
      refine lv_iload_n hx hb dX10_cell_28 rfl (lv_at hl 1 rfl) ?_
      refine lv_iload_n hx hb dX10_cell_29 rfl (lv_at hl 2 rfl) ?_
      refine lv_iload_n hx hb dX10_cell_30 rfl (lv_at hl 3 rfl) ?_
      obtain ⟨v9, h10, hf⟩ := bd1_s hf
      refine k_callSR (As := [.ref q_now, .int p0, .int p1, .int p2]) (n := 4) (rest := []) (st1 := [.int v9]) C hE hW hl.1 (kX10_get l D cI cZ cJ _ q_now u_now p0 p1 p2 v9 h10) gX10_cell_X10_get rfl (by decide +kernel) rfl ⟨Nat.le_of_ble_eq_true rfl, Nat.le_of_ble_eq_true rfl⟩ ⟨Nat.zero_le _, Nat.zero_le _⟩ [1] rfl rfl (Nat.le_of_ble_eq_true rfl) rfl rfl dX10_cell_31 (fun H locs hW => ?_)
      obtain ⟨rfl, rfl⟩ := sm2 hf
      exact k_iret C hlocks hr hW hQ dX10_cell_34
    · replace hf := if_f hc hf
      refine lv_iconst (v := 0) hx hb dX10_cell_22 (by decide) ?_
      obtain ⟨rfl, rfl⟩ := sm2 hf
      exact k_iret C hlocks hr hW hQ dX10_cell_23
  refine lv_if_eq (tgt := 15) hx hb dX10_cell_8 (by decide) (fun hc => ?_) (fun hc => ?_)
  · replace hd4 := if_t hc hd4
    refine lv_iconst (v := 1) hx hb dX10_cell_15 (by decide) ?_
    obtain rfl := Option.some.inj hd4
    exact J5 _ _ _ hW (lv_sub hl [0, 1, 2, 3] rfl)
  · replace hd4 := if_f hc hd4
    refine lv_iconst (v := 0) hx hb dX10_cell_11 (by decide) ?_
    refine lv_goto (tgt := 16) hx hb dX10_cell_12 (by decide) ?_
    obtain rfl := Option.some.inj hd4
    exact J5 _ _ _ hW (lv_sub hl [0, 1, 2, 3] rfl)

set_option maxHeartbeats 4000000 in
set_option maxRecDepth 100000 in
theorem kX10_size (l : Launch) (D : va_G) (cI cZ cJ : ClassId) (sz : Nat) (q q_now q_script q_readRow q_trial q_diary q_kept q_isKept q_sums q_primes q_turned : Nat) (u_refusal : Int32) (u_scriptSize : Int32) (u_spot : Int32) (u_acts : Int32) (u_slides : Int32) (u_now : Nat → Int32) (p0 : Int32) (p1 : Int32) (p2 : Int32) (r : Int32) (u_refusal' : Int32) (hf : pX10_size u_refusal u_now p0 p1 p2 = some (r, u_refusal')) : kMet l D cI cZ cJ yX10_size wsX10_size 3 71 [.ref q, .int p0, .int p1, .int p2] [(q, .inr (9, [.int u_refusal, .ref q_script, .int u_scriptSize, .int u_spot, .ref q_readRow, .ref q_now, .ref q_trial, .ref q_diary, .int u_acts, .ref q_kept, .ref q_isKept, .int u_slides, .ref q_sums, .ref q_primes, .ref q_turned])), (q_now, .inl (cI, 84, .inl u_now))] sz (some (.int r)) [(q, .inr (9, [.int u_refusal', .ref q_script, .int u_scriptSize, .int u_spot, .ref q_readRow, .ref q_now, .ref q_trial, .ref q_diary, .int u_acts, .ref q_kept, .ref q_isKept, .int u_slides, .ref q_sums, .ref q_primes, .ref q_turned])), (q_now, .inl (cI, 84, .inl u_now))] := by
  refine kM_of (cc := cX10_size) (maxL := 4) (ret := (some .int)) (by decide) rfl (Nat.le_of_ble_eq_true rfl) ?_
  intro p e s m args below meth c A Q ls hQ C hlocks hr hE hW hl
  have hx := C.1
  have hb := C.2.1
  have hts := C.2.2.2.2
  have hl : lv_has ls 4 [(0, .ref q), (1, .int p0), (2, .int p1), (3, .int p2)] := hl
  have iX10 : ∀ w ∈ u_ws RX10 TX10 15, w ∈ wsX10_size := by decide +kernel
  have f16 := hts (.fieldLink RX10 16 "SortedTablesModel" "now" "[I") (by decide +kernel)
  unfold pX10_size at hf
  refine lv_aload_n hx hb dX10_size_0 rfl (lv_at hl 0 rfl) ?_
  refine lv_iload_n hx hb dX10_size_1 rfl (lv_at hl 1 rfl) ?_
  obtain ⟨v1, h2, hf⟩ := bd1_s hf
  refine k_callSR (As := [.int p0]) (n := 1) (rest := [.ref q]) (st1 := [.int v1, .ref q]) C hE hW hl.1 (kX10_isTable l D cI cZ cJ _ p0 v1 h2) gX10_size_X10_isTable rfl (by decide +kernel) rfl ⟨Nat.le_of_ble_eq_true rfl, Nat.le_of_ble_eq_true rfl⟩ ⟨Nat.zero_le _, Nat.zero_le _⟩ [] rfl rfl (Nat.le_of_ble_eq_true rfl) rfl rfl dX10_size_2 (fun H locs hW => ?_)
  obtain ⟨j3, hd4, hf⟩ := bd1_s hf
  have J5 : ∀ (H : Heap) (locs : List Loc) (ls : Array Slot), kH D A s H locs [(q, .inr (9, [.int u_refusal, .ref q_script, .int u_scriptSize, .int u_spot, .ref q_readRow, .ref q_now, .ref q_trial, .ref q_diary, .int u_acts, .ref q_kept, .ref q_isKept, .int u_slides, .ref q_sums, .ref q_primes, .ref q_turned])), (q_now, .inl (cI, 84, .inl u_now))] → lv_has ls 4 [(0, .ref q), (1, .int p0), (2, .int p1), (3, .int p2)] → W p l e (kRm 3 71 0 0) s m args below meth c H locs 0 0 Q (F0 m 29 ls [.int j3, .ref q]) := by
    intro H locs ls hW hl
    obtain ⟨⟨v8, w9⟩, h10, hf⟩ := bd1_s hf
    replace hf := un2_s hf
    refine k_callV (b := q) (ci := 9) (qb := 0) (As := [.int j3]) (n := 1) (rest := []) (st1 := [.int v8]) (wr := [(q_now, .inl (cI, 84, .inl u_now))]) (ws' := [(q, .inr (9, [.int w9, .ref q_script, .int u_scriptSize, .int u_spot, .ref q_readRow, .ref q_now, .ref q_trial, .ref q_diary, .int u_acts, .ref q_kept, .ref q_isKept, .int u_slides, .ref q_sums, .ref q_primes, .ref q_turned])), (q_now, .inl (cI, 84, .inl u_now))]) C hE hW hl.1 (kX10_refused l D cI cZ cJ _ q q_script q_readRow q_now q_trial q_diary q_kept q_isKept q_sums q_primes q_turned u_refusal u_scriptSize u_spot u_acts u_slides j3 v8 w9 h10) gX10_size_X10_refused rfl (by decide +kernel) rfl ⟨Nat.le_of_ble_eq_true rfl, Nat.le_of_ble_eq_true rfl⟩ ⟨Nat.zero_le _, Nat.zero_le _⟩ rfl rfl [0] [1] [1, 0] rfl rfl rfl rfl (by decide) rfl rfl (Nat.le_of_ble_eq_true rfl) rfl rfl dX10_size_29 (fun H locs hW => ?_)
    refine lv_if_eq (tgt := 37) hx hb dX10_size_32 (by decide) (fun hc => ?_) (fun hc => ?_)
    · replace hf := if_t hc hf
      refine lv_iload_n hx hb dX10_size_37 rfl (lv_at hl 3 rfl) ?_
      refine lv_if_eq (tgt := 53) hx hb dX10_size_38 (by decide) (fun hc => ?_) (fun hc => ?_)
      · replace hf := if_t hc hf
        refine lv_aload_n hx hb dX10_size_53 rfl (lv_at hl 0 rfl) ?_
        refine k_get C hE hW iX10 0 rfl rfl 5 (by decide) f16 (fun _ h9 => h9) rfl dX10_size_54 ?_
        refine lv_iload_n hx hb dX10_size_57 rfl (lv_at hl 1 rfl) ?_
        refine lv_iload_n hx hb dX10_size_58 rfl (lv_at hl 2 rfl) ?_
        obtain ⟨v11, h12, hf⟩ := bd1_s hf
        refine k_callSR (As := [.ref q_now, .int p0, .int p1]) (n := 3) (rest := []) (st1 := [.int v11]) C hE hW hl.1 (kX10_length l D cI cZ cJ _ q_now u_now p0 p1 v11 h12) gX10_size_X10_length rfl (by decide +kernel) rfl ⟨Nat.le_of_ble_eq_true rfl, Nat.le_of_ble_eq_true rfl⟩ ⟨Nat.zero_le _, Nat.zero_le _⟩ [1] rfl rfl (Nat.le_of_ble_eq_true rfl) rfl rfl dX10_size_59 (fun H locs hW => ?_)
        obtain ⟨rfl, rfl⟩ := sm2 hf
        exact k_iret C hlocks hr hW hQ dX10_size_62
      · replace hf := if_f hc hf
        refine lv_aload_n hx hb dX10_size_41 rfl (lv_at hl 0 rfl) ?_
        refine k_get C hE hW iX10 0 rfl rfl 5 (by decide) f16 (fun _ h9 => h9) rfl dX10_size_42 ?_
        refine lv_iload_n hx hb dX10_size_45 rfl (lv_at hl 1 rfl) ?_
        refine lv_iload_n hx hb dX10_size_46 rfl (lv_at hl 2 rfl) ?_
        obtain ⟨v13, h14, hf⟩ := bd1_s hf
        refine k_callSR (As := [.ref q_now, .int p0, .int p1]) (n := 3) (rest := []) (st1 := [.int v13]) C hE hW hl.1 (kX10_tall l D cI cZ cJ _ q_now u_now p0 p1 v13 h14) gX10_size_X10_tall rfl (by decide +kernel) rfl ⟨Nat.le_of_ble_eq_true rfl, Nat.le_of_ble_eq_true rfl⟩ ⟨Nat.zero_le _, Nat.zero_le _⟩ [1] rfl rfl (Nat.le_of_ble_eq_true rfl) rfl rfl dX10_size_47 (fun H locs hW => ?_)
        refine lv_goto (tgt := 62) hx hb dX10_size_50 (by decide) ?_
        obtain ⟨rfl, rfl⟩ := sm2 hf
        exact k_iret C hlocks hr hW hQ dX10_size_62
    · replace hf := if_f hc hf
      refine lv_iconst (v := 0) hx hb dX10_size_35 (by decide) ?_
      obtain ⟨rfl, rfl⟩ := sm2 hf
      exact k_iret C hlocks hr hW hQ dX10_size_36
  refine lv_if_ne (tgt := 12) hx hb dX10_size_5 (by decide) (fun hc => ?_) (fun hc => ?_)
  · replace hd4 := if_f hc hd4
    refine lv_iload_n hx hb dX10_size_12 rfl (lv_at hl 2 rfl) ?_
    refine lv_i2l hx hb dX10_size_13 rfl ?_
    refine lv_lconst (v := 0) hx hb dX10_size_14 (by decide) ?_
    refine lv_ldc2 (v := 5) hx hb C.2.2.2.1 (hts (.constantLong RX10 58 (5)) (by decide +kernel)) dX10_size_15 ?_
    obtain ⟨v6, h7, hd4⟩ := bd1_s hd4
    refine k_callSR (As := [.long (p1 : Int32).toInt64, .long 0, .long 5]) (n := 3) (rest := [.ref q]) (st1 := [.int v6, .ref q]) C hE hW hl.1 (kX10_in l D cI cZ cJ _ (p1 : Int32).toInt64 0 5 v6 h7) gX10_size_X10_in rfl (by decide +kernel) rfl ⟨Nat.le_of_ble_eq_true rfl, Nat.le_of_ble_eq_true rfl⟩ ⟨Nat.zero_le _, Nat.zero_le _⟩ [] rfl rfl (Nat.le_of_ble_eq_true rfl) rfl rfl dX10_size_18 (fun H locs hW => ?_)
    refine lv_if_ne (tgt := 28) hx hb dX10_size_21 (by decide) (fun hc => ?_) (fun hc => ?_)
    · replace hd4 := if_f hc hd4
      refine lv_iconst (v := 0) hx hb dX10_size_28 (by decide) ?_
      obtain rfl := Option.some.inj hd4
      exact J5 _ _ _ hW (lv_sub hl [0, 1, 2, 3] rfl)
    · replace hd4 := if_t hc hd4
      refine lv_iconst (v := 2) hx hb dX10_size_24 (by decide) ?_
      refine lv_goto (tgt := 29) hx hb dX10_size_25 (by decide) ?_
      obtain rfl := Option.some.inj hd4
      exact J5 _ _ _ hW (lv_sub hl [0, 1, 2, 3] rfl)
  · replace hd4 := if_t hc hd4
    refine lv_iconst (v := 1) hx hb dX10_size_8 (by decide) ?_
    refine lv_goto (tgt := 29) hx hb dX10_size_9 (by decide) ?_
    obtain rfl := Option.some.inj hd4
    exact J5 _ _ _ hW (lv_sub hl [0, 1, 2, 3] rfl)

set_option maxHeartbeats 4000000 in
set_option maxRecDepth 100000 in
theorem kX10_isNumber (l : Launch) (D : va_G) (cI cZ cJ : ClassId) (sz : Nat) (p0 : Int32) (r : Int32) (hf : pX10_isNumber p0 = some r) : kMet l D cI cZ cJ yX10_isNumber wsX10_isNumber 1 25 [.int p0] [] sz (some (.int r)) [] := by
  refine kM_of (cc := cX10_isNumber) (maxL := 1) (ret := (some .boolean)) (by decide) rfl (Nat.le_of_ble_eq_true rfl) ?_
  intro p e s m args below meth c A Q ls hQ C hlocks hr hE hW hl
  have hx := C.1
  have hb := C.2.1
  have hts := C.2.2.2.2
  have hl : lv_has ls 1 [(0, .int p0)] := hl
  unfold pX10_isNumber at hf
  refine lv_iload_n hx hb dX10_isNumber_0 rfl (lv_at hl 0 rfl) ?_
  refine lv_i2l hx hb dX10_isNumber_1 rfl ?_
  refine lv_lconst (v := 0) hx hb dX10_isNumber_2 (by decide) ?_
  refine lv_ldc2 (v := 99) hx hb C.2.2.2.1 (hts (.constantLong RX10 154 (99)) (by decide +kernel)) dX10_isNumber_3 ?_
  obtain ⟨v1, h2, hf⟩ := bd1_s hf
  refine k_callSR (As := [.long (p0 : Int32).toInt64, .long 0, .long 99]) (n := 3) (rest := []) (st1 := [.int v1]) C hE hW hl.1 (kX10_in l D cI cZ cJ _ (p0 : Int32).toInt64 0 99 v1 h2) gX10_isNumber_X10_in rfl (by decide +kernel) rfl ⟨Nat.le_of_ble_eq_true rfl, Nat.le_of_ble_eq_true rfl⟩ ⟨Nat.zero_le _, Nat.zero_le _⟩ [] rfl rfl (Nat.le_of_ble_eq_true rfl) rfl rfl dX10_isNumber_6 (fun H locs hW => ?_)
  obtain ⟨v3, h4, hf⟩ := bd1_s hf
  obtain ⟨hn5, rfl⟩ := zb_s h4
  obtain rfl := Option.some.inj hf
  exact k_zret C hlocks hr hW hn5 hQ dX10_isNumber_9
