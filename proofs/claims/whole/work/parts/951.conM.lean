set_option maxHeartbeats 4000000 in
set_option maxRecDepth 100000 in
theorem kX10_insert (l : Launch) (D : va_G) (cI cZ cJ : ClassId) (sz : Nat) (q q_now q_diary q_script q_readRow q_trial q_kept q_isKept q_sums q_primes q_turned : Nat) (u_refusal : Int32) (u_scriptSize : Int32) (u_spot : Int32) (u_acts : Int32) (u_slides : Int32) (u_now : Nat → Int32) (u_diary : Nat → Int32) (p0 : Int32) (p1 : Int32) (r : Int32) (u_refusal' : Int32) (u_acts' : Int32) (u_slides' : Int32) (u_now' : Nat → Int32) (u_diary' : Nat → Int32) (hf : pX10_insert u_refusal u_acts u_slides u_now u_diary p0 p1 = some (r, u_refusal', u_acts', u_slides', u_now', u_diary')) : kMet l D cI cZ cJ yX10_insert wsX10_insert 5 118 [.ref q, .int p0, .int p1] [(q, .inr (9, [.int u_refusal, .ref q_script, .int u_scriptSize, .int u_spot, .ref q_readRow, .ref q_now, .ref q_trial, .ref q_diary, .int u_acts, .ref q_kept, .ref q_isKept, .int u_slides, .ref q_sums, .ref q_primes, .ref q_turned])), (q_now, .inl (cI, 84, .inl u_now)), (q_diary, .inl (cI, 1176, .inl u_diary))] sz (some (.int r)) [(q, .inr (9, [.int u_refusal', .ref q_script, .int u_scriptSize, .int u_spot, .ref q_readRow, .ref q_now, .ref q_trial, .ref q_diary, .int u_acts', .ref q_kept, .ref q_isKept, .int u_slides', .ref q_sums, .ref q_primes, .ref q_turned])), (q_now, .inl (cI, 84, .inl u_now')), (q_diary, .inl (cI, 1176, .inl u_diary'))] := by
  refine kM_of (cc := cX10_insert) (maxL := 3) (ret := (some .int)) (by decide) rfl (Nat.le_of_ble_eq_true rfl) ?_
  intro p e s m args below meth c A Q ls hQ C hlocks hr hE hW hl
  have hx := C.1
  have hb := C.2.1
  have hts := C.2.2.2.2
  have hl : lv_has ls 3 [(0, .ref q), (1, .int p0), (2, .int p1)] := hl
  have iX10 : ∀ w ∈ u_ws RX10 TX10 15, w ∈ wsX10_insert := by decide +kernel
  have f16 := hts (.fieldLink RX10 16 "SortedTablesModel" "now" "[I") (by decide +kernel)
  unfold pX10_insert at hf
  refine lv_aload_n hx hb dX10_insert_0 rfl (lv_at hl 0 rfl) ?_
  refine lv_iload_n hx hb dX10_insert_1 rfl (lv_at hl 1 rfl) ?_
  obtain ⟨v1, h2, hf⟩ := bd1_s hf
  refine k_callSR (As := [.int p0]) (n := 1) (rest := [.ref q]) (st1 := [.int v1, .ref q]) C hE hW hl.1 (kX10_isTable l D cI cZ cJ _ p0 v1 h2) gX10_insert_X10_isTable rfl (by decide +kernel) rfl ⟨Nat.le_of_ble_eq_true rfl, Nat.le_of_ble_eq_true rfl⟩ ⟨Nat.zero_le _, Nat.zero_le _⟩ [] rfl rfl (Nat.le_of_ble_eq_true rfl) rfl rfl dX10_insert_2 (fun H locs hW => ?_)
  obtain ⟨j3, hd4, hf⟩ := bd1_s hf
  have J5 : ∀ (H : Heap) (locs : List Loc) (ls : Array Slot), kH D A s H locs [(q, .inr (9, [.int u_refusal, .ref q_script, .int u_scriptSize, .int u_spot, .ref q_readRow, .ref q_now, .ref q_trial, .ref q_diary, .int u_acts, .ref q_kept, .ref q_isKept, .int u_slides, .ref q_sums, .ref q_primes, .ref q_turned])), (q_now, .inl (cI, 84, .inl u_now)), (q_diary, .inl (cI, 1176, .inl u_diary))] → lv_has ls 3 [(0, .ref q), (1, .int p0), (2, .int p1)] → W p l e (kRm 5 118 0 0) s m args below meth c H locs 0 0 Q (F0 m 41 ls [.int j3, .ref q]) := by
    intro H locs ls hW hl
    obtain ⟨⟨v10, w11⟩, h12, hf⟩ := bd1_s hf
    replace hf := un2_s hf
    refine k_callV (b := q) (ci := 9) (qb := 0) (As := [.int j3]) (n := 1) (rest := []) (st1 := [.int v10]) (wr := [(q_now, .inl (cI, 84, .inl u_now)), (q_diary, .inl (cI, 1176, .inl u_diary))]) (ws' := [(q, .inr (9, [.int w11, .ref q_script, .int u_scriptSize, .int u_spot, .ref q_readRow, .ref q_now, .ref q_trial, .ref q_diary, .int u_acts, .ref q_kept, .ref q_isKept, .int u_slides, .ref q_sums, .ref q_primes, .ref q_turned])), (q_now, .inl (cI, 84, .inl u_now)), (q_diary, .inl (cI, 1176, .inl u_diary))]) C hE hW hl.1 (kX10_refused l D cI cZ cJ _ q q_script q_readRow q_now q_trial q_diary q_kept q_isKept q_sums q_primes q_turned u_refusal u_scriptSize u_spot u_acts u_slides j3 v10 w11 h12) gX10_insert_X10_refused rfl (by decide +kernel) rfl ⟨Nat.le_of_ble_eq_true rfl, Nat.le_of_ble_eq_true rfl⟩ ⟨Nat.zero_le _, Nat.zero_le _⟩ rfl rfl [0] [1, 2] [2, 0, 1] rfl rfl rfl rfl (by decide) rfl rfl (Nat.le_of_ble_eq_true rfl) rfl rfl dX10_insert_41 (fun H locs hW => ?_)
    refine lv_if_eq (tgt := 49) hx hb dX10_insert_44 (by decide) (fun hc => ?_) (fun hc => ?_)
    · replace hf := if_t hc hf
      refine lv_aload_n hx hb dX10_insert_49 rfl (lv_at hl 0 rfl) ?_
      obtain ⟨⟨w13, w14⟩, h15, hf⟩ := bd1_s hf
      replace hf := un2_s hf
      refine k_callV (b := q) (ci := 9) (qb := 0) (As := []) (n := 0) (rest := []) (st1 := []) (wr := []) (ws' := [(q, .inr (9, [.int w11, .ref q_script, .int u_scriptSize, .int u_spot, .ref q_readRow, .ref q_now, .ref q_trial, .ref q_diary, .int w13, .ref q_kept, .ref q_isKept, .int u_slides, .ref q_sums, .ref q_primes, .ref q_turned])), (q_now, .inl (cI, 84, .inl u_now)), (q_diary, .inl (cI, 1176, .inl w14))]) C hE hW hl.1 (kX10_note l D cI cZ cJ _ q q_now q_diary q_script q_readRow q_trial q_kept q_isKept q_sums q_primes q_turned w11 u_scriptSize u_spot u_acts u_slides u_now u_diary w13 w14 h15) gX10_insert_X10_note rfl (by decide +kernel) rfl ⟨Nat.le_of_ble_eq_true rfl, Nat.le_of_ble_eq_true rfl⟩ ⟨Nat.zero_le _, Nat.zero_le _⟩ rfl rfl [0, 1, 2] [] [0, 1, 2] rfl rfl rfl rfl (by decide) rfl rfl (Nat.le_of_ble_eq_true rfl) rfl rfl dX10_insert_50 (fun H locs hW => ?_)
      refine lv_aload_n hx hb dX10_insert_53 rfl (lv_at hl 0 rfl) ?_
      refine lv_aload_n hx hb dX10_insert_54 rfl (lv_at hl 0 rfl) ?_
      refine k_get C hE hW iX10 0 rfl rfl 5 (by decide) f16 (fun _ h9 => h9) rfl dX10_insert_55 ?_
      refine lv_iload_n hx hb dX10_insert_58 rfl (lv_at hl 1 rfl) ?_
      refine lv_iload_n hx hb dX10_insert_59 rfl (lv_at hl 2 rfl) ?_
      obtain ⟨⟨v16, w17, w18⟩, h19, hf⟩ := bd1_s hf
      replace hf := un3_s hf
      refine k_callV (b := q) (ci := 9) (qb := 0) (As := [.ref q_now, .int p0, .int p1]) (n := 3) (rest := []) (st1 := [.int v16]) (wr := [(q_diary, .inl (cI, 1176, .inl w14))]) (ws' := [(q, .inr (9, [.int w11, .ref q_script, .int u_scriptSize, .int u_spot, .ref q_readRow, .ref q_now, .ref q_trial, .ref q_diary, .int w13, .ref q_kept, .ref q_isKept, .int w17, .ref q_sums, .ref q_primes, .ref q_turned])), (q_now, .inl (cI, 84, .inl w18)), (q_diary, .inl (cI, 1176, .inl w14))]) C hE hW hl.1 (kX10_insertOn l D cI cZ cJ _ q q_now q_script q_readRow q_now q_trial q_diary q_kept q_isKept q_sums q_primes q_turned w11 u_scriptSize u_spot w13 u_slides u_now p0 p1 v16 w17 w18 h19) gX10_insert_X10_insertOn rfl (by decide +kernel) rfl ⟨Nat.le_of_ble_eq_true rfl, Nat.le_of_ble_eq_true rfl⟩ ⟨Nat.zero_le _, Nat.zero_le _⟩ rfl rfl [0, 1] [2] [1, 2, 0] rfl rfl rfl rfl (by decide) rfl rfl (Nat.le_of_ble_eq_true rfl) rfl rfl dX10_insert_60 (fun H locs hW => ?_)
      obtain ⟨rfl, rfl, rfl, rfl, rfl, rfl⟩ := sm6 hf
      exact k_iret C hlocks hr hW hQ dX10_insert_63
    · replace hf := if_f hc hf
      refine lv_iconst (v := 0) hx hb dX10_insert_47 (by decide) ?_
      obtain ⟨rfl, rfl, rfl, rfl, rfl, rfl⟩ := sm6 hf
      exact k_iret C hlocks hr hW hQ dX10_insert_48
  refine lv_if_ne (tgt := 12) hx hb dX10_insert_5 (by decide) (fun hc => ?_) (fun hc => ?_)
  · replace hd4 := if_f hc hd4
    refine lv_iload_n hx hb dX10_insert_12 rfl (lv_at hl 2 rfl) ?_
    obtain ⟨v6, h7, hd4⟩ := bd1_s hd4
    refine k_callSR (As := [.int p1]) (n := 1) (rest := [.ref q]) (st1 := [.int v6, .ref q]) C hE hW hl.1 (kX10_isNumber l D cI cZ cJ _ p1 v6 h7) gX10_insert_X10_isNumber rfl (by decide +kernel) rfl ⟨Nat.le_of_ble_eq_true rfl, Nat.le_of_ble_eq_true rfl⟩ ⟨Nat.zero_le _, Nat.zero_le _⟩ [] rfl rfl (Nat.le_of_ble_eq_true rfl) rfl rfl dX10_insert_13 (fun H locs hW => ?_)
    refine lv_if_ne (tgt := 23) hx hb dX10_insert_16 (by decide) (fun hc => ?_) (fun hc => ?_)
    · replace hd4 := if_f hc hd4
      refine lv_aload_n hx hb dX10_insert_23 rfl (lv_at hl 0 rfl) ?_
      refine k_get C hE hW iX10 0 rfl rfl 5 (by decide) f16 (fun _ h9 => h9) rfl dX10_insert_24 ?_
      refine lv_iload_n hx hb dX10_insert_27 rfl (lv_at hl 1 rfl) ?_
      obtain ⟨v8, h9, hd4⟩ := bd1_s hd4
      refine k_callSR (As := [.ref q_now, .int p0]) (n := 2) (rest := [.ref q]) (st1 := [.int v8, .ref q]) C hE hW hl.1 (kX10_gapRow l D cI cZ cJ _ q_now u_now p0 v8 h9) gX10_insert_X10_gapRow rfl (by decide +kernel) rfl ⟨Nat.le_of_ble_eq_true rfl, Nat.le_of_ble_eq_true rfl⟩ ⟨Nat.zero_le _, Nat.zero_le _⟩ [1] rfl rfl (Nat.le_of_ble_eq_true rfl) rfl rfl dX10_insert_28 (fun H locs hW => ?_)
      refine lv_bipush (v := (-9)) hx hb dX10_insert_31 (by decide) ?_
      refine lv_icmp_ne (tgt := 40) hx hb dX10_insert_33 (by decide) (fun hc => ?_) (fun hc => ?_)
      · replace hd4 := if_f hc hd4
        refine lv_iconst (v := 0) hx hb dX10_insert_40 (by decide) ?_
        obtain rfl := Option.some.inj hd4
        exact J5 _ _ _ hW (lv_sub hl [0, 1, 2] rfl)
      · replace hd4 := if_t hc hd4
        refine lv_iconst (v := 3) hx hb dX10_insert_36 (by decide) ?_
        refine lv_goto (tgt := 41) hx hb dX10_insert_37 (by decide) ?_
        obtain rfl := Option.some.inj hd4
        exact J5 _ _ _ hW (lv_sub hl [0, 1, 2] rfl)
    · replace hd4 := if_t hc hd4
      refine lv_iconst (v := 2) hx hb dX10_insert_19 (by decide) ?_
      refine lv_goto (tgt := 41) hx hb dX10_insert_20 (by decide) ?_
      obtain rfl := Option.some.inj hd4
      exact J5 _ _ _ hW (lv_sub hl [0, 1, 2] rfl)
  · replace hd4 := if_t hc hd4
    refine lv_iconst (v := 1) hx hb dX10_insert_8 (by decide) ?_
    refine lv_goto (tgt := 41) hx hb dX10_insert_9 (by decide) ?_
    obtain rfl := Option.some.inj hd4
    exact J5 _ _ _ hW (lv_sub hl [0, 1, 2] rfl)

set_option maxHeartbeats 4000000 in
set_option maxRecDepth 100000 in
theorem kX10_remove (l : Launch) (D : va_G) (cI cZ cJ : ClassId) (sz : Nat) (q q_now q_diary q_script q_readRow q_trial q_kept q_isKept q_sums q_primes q_turned : Nat) (u_refusal : Int32) (u_scriptSize : Int32) (u_spot : Int32) (u_acts : Int32) (u_slides : Int32) (u_now : Nat → Int32) (u_diary : Nat → Int32) (p0 : Int32) (p1 : Int32) (p2 : Int32) (r : Int32) (u_refusal' : Int32) (u_acts' : Int32) (u_now' : Nat → Int32) (u_diary' : Nat → Int32) (hf : pX10_remove u_refusal u_acts u_now u_diary p0 p1 p2 = some (r, u_refusal', u_acts', u_now', u_diary')) : kMet l D cI cZ cJ yX10_remove wsX10_remove 4 98 [.ref q, .int p0, .int p1, .int p2] [(q, .inr (9, [.int u_refusal, .ref q_script, .int u_scriptSize, .int u_spot, .ref q_readRow, .ref q_now, .ref q_trial, .ref q_diary, .int u_acts, .ref q_kept, .ref q_isKept, .int u_slides, .ref q_sums, .ref q_primes, .ref q_turned])), (q_now, .inl (cI, 84, .inl u_now)), (q_diary, .inl (cI, 1176, .inl u_diary))] sz (some (.int r)) [(q, .inr (9, [.int u_refusal', .ref q_script, .int u_scriptSize, .int u_spot, .ref q_readRow, .ref q_now, .ref q_trial, .ref q_diary, .int u_acts', .ref q_kept, .ref q_isKept, .int u_slides, .ref q_sums, .ref q_primes, .ref q_turned])), (q_now, .inl (cI, 84, .inl u_now')), (q_diary, .inl (cI, 1176, .inl u_diary'))] := by
  refine kM_of (cc := cX10_remove) (maxL := 5) (ret := (some .int)) (by decide) rfl (Nat.le_of_ble_eq_true rfl) ?_
  intro p e s m args below meth c A Q ls hQ C hlocks hr hE hW hl
  have hx := C.1
  have hb := C.2.1
  have hts := C.2.2.2.2
  have hl : lv_has ls 5 [(0, .ref q), (1, .int p0), (2, .int p1), (3, .int p2)] := hl
  have iX10 : ∀ w ∈ u_ws RX10 TX10 15, w ∈ wsX10_remove := by decide +kernel
  have f16 := hts (.fieldLink RX10 16 "SortedTablesModel" "now" "[I") (by decide +kernel)
  unfold pX10_remove at hf
  refine lv_aload_n hx hb dX10_remove_0 rfl (lv_at hl 0 rfl) ?_
  refine lv_aload_n hx hb dX10_remove_1 rfl (lv_at hl 0 rfl) ?_
  refine lv_iload_n hx hb dX10_remove_2 rfl (lv_at hl 1 rfl) ?_
  refine lv_iload_n hx hb dX10_remove_3 rfl (lv_at hl 2 rfl) ?_
  refine lv_iload_n hx hb dX10_remove_4 rfl (lv_at hl 3 rfl) ?_
  obtain ⟨v1, h2, hf⟩ := bd1_s hf
  refine k_callVR (b := q) (ci := 9) (qb := 0) (As := [.int p0, .int p1, .int p2]) (n := 3) (rest := [.ref q]) (st1 := [.int v1, .ref q]) C hE hW hl.1 (kX10_have l D cI cZ cJ _ q q_now q_script q_readRow q_trial q_diary q_kept q_isKept q_sums q_primes q_turned u_refusal u_scriptSize u_spot u_acts u_slides u_now p0 p1 p2 v1 h2) gX10_remove_X10_have rfl (by decide +kernel) rfl ⟨Nat.le_of_ble_eq_true rfl, Nat.le_of_ble_eq_true rfl⟩ ⟨Nat.zero_le _, Nat.zero_le _⟩ rfl rfl [0, 1] rfl rfl (Nat.le_of_ble_eq_true rfl) rfl rfl dX10_remove_5 (fun H locs hW => ?_)
  obtain ⟨j3, hd4, hf⟩ := bd1_s hf
  have J5 : ∀ (H : Heap) (locs : List Loc) (ls : Array Slot), kH D A s H locs [(q, .inr (9, [.int u_refusal, .ref q_script, .int u_scriptSize, .int u_spot, .ref q_readRow, .ref q_now, .ref q_trial, .ref q_diary, .int u_acts, .ref q_kept, .ref q_isKept, .int u_slides, .ref q_sums, .ref q_primes, .ref q_turned])), (q_now, .inl (cI, 84, .inl u_now)), (q_diary, .inl (cI, 1176, .inl u_diary))] → lv_has ls 5 [(0, .ref q), (1, .int p0), (2, .int p1), (3, .int p2)] → W p l e (kRm 4 98 0 0) s m args below meth c H locs 0 0 Q (F0 m 16 ls [.int j3, .ref q]) := by
    intro H locs ls hW hl
    obtain ⟨⟨v6, w7⟩, h8, hf⟩ := bd1_s hf
    replace hf := un2_s hf
    refine k_callV (b := q) (ci := 9) (qb := 0) (As := [.int j3]) (n := 1) (rest := []) (st1 := [.int v6]) (wr := [(q_now, .inl (cI, 84, .inl u_now)), (q_diary, .inl (cI, 1176, .inl u_diary))]) (ws' := [(q, .inr (9, [.int w7, .ref q_script, .int u_scriptSize, .int u_spot, .ref q_readRow, .ref q_now, .ref q_trial, .ref q_diary, .int u_acts, .ref q_kept, .ref q_isKept, .int u_slides, .ref q_sums, .ref q_primes, .ref q_turned])), (q_now, .inl (cI, 84, .inl u_now)), (q_diary, .inl (cI, 1176, .inl u_diary))]) C hE hW hl.1 (kX10_refused l D cI cZ cJ _ q q_script q_readRow q_now q_trial q_diary q_kept q_isKept q_sums q_primes q_turned u_refusal u_scriptSize u_spot u_acts u_slides j3 v6 w7 h8) gX10_remove_X10_refused rfl (by decide +kernel) rfl ⟨Nat.le_of_ble_eq_true rfl, Nat.le_of_ble_eq_true rfl⟩ ⟨Nat.zero_le _, Nat.zero_le _⟩ rfl rfl [0] [1, 2] [2, 0, 1] rfl rfl rfl rfl (by decide) rfl rfl (Nat.le_of_ble_eq_true rfl) rfl rfl dX10_remove_16 (fun H locs hW => ?_)
    refine lv_if_eq (tgt := 24) hx hb dX10_remove_19 (by decide) (fun hc => ?_) (fun hc => ?_)
    · replace hf := if_t hc hf
      refine lv_aload_n hx hb dX10_remove_24 rfl (lv_at hl 0 rfl) ?_
      obtain ⟨⟨w9, w10⟩, h11, hf⟩ := bd1_s hf
      replace hf := un2_s hf
      refine k_callV (b := q) (ci := 9) (qb := 0) (As := []) (n := 0) (rest := []) (st1 := []) (wr := []) (ws' := [(q, .inr (9, [.int w7, .ref q_script, .int u_scriptSize, .int u_spot, .ref q_readRow, .ref q_now, .ref q_trial, .ref q_diary, .int w9, .ref q_kept, .ref q_isKept, .int u_slides, .ref q_sums, .ref q_primes, .ref q_turned])), (q_now, .inl (cI, 84, .inl u_now)), (q_diary, .inl (cI, 1176, .inl w10))]) C hE hW hl.1 (kX10_note l D cI cZ cJ _ q q_now q_diary q_script q_readRow q_trial q_kept q_isKept q_sums q_primes q_turned w7 u_scriptSize u_spot u_acts u_slides u_now u_diary w9 w10 h11) gX10_remove_X10_note rfl (by decide +kernel) rfl ⟨Nat.le_of_ble_eq_true rfl, Nat.le_of_ble_eq_true rfl⟩ ⟨Nat.zero_le _, Nat.zero_le _⟩ rfl rfl [0, 1, 2] [] [0, 1, 2] rfl rfl rfl rfl (by decide) rfl rfl (Nat.le_of_ble_eq_true rfl) rfl rfl dX10_remove_25 (fun H locs hW => ?_)
      refine lv_aload_n hx hb dX10_remove_28 rfl (lv_at hl 0 rfl) ?_
      refine k_get C hE hW iX10 0 rfl rfl 5 (by decide) f16 (fun _ h9 => h9) rfl dX10_remove_29 ?_
      refine lv_iload_n hx hb dX10_remove_32 rfl (lv_at hl 1 rfl) ?_
      refine lv_iload_n hx hb dX10_remove_33 rfl (lv_at hl 2 rfl) ?_
      refine lv_iload_n hx hb dX10_remove_34 rfl (lv_at hl 3 rfl) ?_
      obtain ⟨v12, h13, hf⟩ := bd1_s hf
      refine k_callSR (As := [.ref q_now, .int p0, .int p1, .int p2]) (n := 4) (rest := []) (st1 := [.int v12]) C hE hW hl.1 (kX10_get l D cI cZ cJ _ q_now u_now p0 p1 p2 v12 h13) gX10_remove_X10_get rfl (by decide +kernel) rfl ⟨Nat.le_of_ble_eq_true rfl, Nat.le_of_ble_eq_true rfl⟩ ⟨Nat.zero_le _, Nat.zero_le _⟩ [1] rfl rfl (Nat.le_of_ble_eq_true rfl) rfl rfl dX10_remove_35 (fun H locs hW => ?_)
      refine lv_istore (lv' := [(4, .int v12), (0, .ref q), (1, .int p0), (2, .int p1), (3, .int p2)]) hx hb dX10_remove_38 hl (by decide) rfl (fun ls hl => ?_)
      refine lv_aload_n hx hb dX10_remove_40 rfl (lv_at hl 1 rfl) ?_
      refine k_get C hE hW iX10 0 rfl rfl 5 (by decide) f16 (fun _ h9 => h9) rfl dX10_remove_41 ?_
      refine lv_iload_n hx hb dX10_remove_44 rfl (lv_at hl 2 rfl) ?_
      refine lv_iload_n hx hb dX10_remove_45 rfl (lv_at hl 3 rfl) ?_
      refine lv_iload_n hx hb dX10_remove_46 rfl (lv_at hl 4 rfl) ?_
      obtain ⟨⟨v14, w15⟩, h16, hf⟩ := bd1_s hf
      replace hf := un2_s hf
      refine k_callS (As := [.ref q_now, .int p0, .int p1, .int p2]) (n := 4) (rest := []) (st1 := [.int v14]) (wr := [(q, .inr (9, [.int w7, .ref q_script, .int u_scriptSize, .int u_spot, .ref q_readRow, .ref q_now, .ref q_trial, .ref q_diary, .int w9, .ref q_kept, .ref q_isKept, .int u_slides, .ref q_sums, .ref q_primes, .ref q_turned])), (q_diary, .inl (cI, 1176, .inl w10))]) (ws' := [(q, .inr (9, [.int w7, .ref q_script, .int u_scriptSize, .int u_spot, .ref q_readRow, .ref q_now, .ref q_trial, .ref q_diary, .int w9, .ref q_kept, .ref q_isKept, .int u_slides, .ref q_sums, .ref q_primes, .ref q_turned])), (q_now, .inl (cI, 84, .inl w15)), (q_diary, .inl (cI, 1176, .inl w10))]) C hE hW hl.1 (kX10_removeOn l D cI cZ cJ _ q_now u_now p0 p1 p2 v14 w15 h16) gX10_remove_X10_removeOn rfl (by decide +kernel) rfl ⟨Nat.le_of_ble_eq_true rfl, Nat.le_of_ble_eq_true rfl⟩ ⟨Nat.zero_le _, Nat.zero_le _⟩ [1] [0, 2] [0, 2, 1] rfl rfl rfl rfl (by decide) rfl rfl (Nat.le_of_ble_eq_true rfl) rfl rfl dX10_remove_47 (fun H locs hW => ?_)
      refine lv_pop hx hb dX10_remove_50 rfl ?_
      refine lv_iload hx hb dX10_remove_51 (lv_at hl 0 rfl) ?_
      obtain ⟨rfl, rfl, rfl, rfl, rfl⟩ := sm5 hf
      exact k_iret C hlocks hr hW hQ dX10_remove_53
    · replace hf := if_f hc hf
      refine lv_iconst (v := 0) hx hb dX10_remove_22 (by decide) ?_
      obtain ⟨rfl, rfl, rfl, rfl, rfl⟩ := sm5 hf
      exact k_iret C hlocks hr hW hQ dX10_remove_23
  refine lv_if_eq (tgt := 15) hx hb dX10_remove_8 (by decide) (fun hc => ?_) (fun hc => ?_)
  · replace hd4 := if_t hc hd4
    refine lv_iconst (v := 1) hx hb dX10_remove_15 (by decide) ?_
    obtain rfl := Option.some.inj hd4
    exact J5 _ _ _ hW (lv_sub hl [0, 1, 2, 3] rfl)
  · replace hd4 := if_f hc hd4
    refine lv_iconst (v := 0) hx hb dX10_remove_11 (by decide) ?_
    refine lv_goto (tgt := 16) hx hb dX10_remove_12 (by decide) ?_
    obtain rfl := Option.some.inj hd4
    exact J5 _ _ _ hW (lv_sub hl [0, 1, 2, 3] rfl)

set_option maxHeartbeats 4000000 in
set_option maxRecDepth 100000 in
theorem kX10_change (l : Launch) (D : va_G) (cI cZ cJ : ClassId) (sz : Nat) (q q_now q_diary q_script q_readRow q_trial q_kept q_isKept q_sums q_primes q_turned : Nat) (u_refusal : Int32) (u_scriptSize : Int32) (u_spot : Int32) (u_acts : Int32) (u_slides : Int32) (u_now : Nat → Int32) (u_diary : Nat → Int32) (p0 : Int32) (p1 : Int32) (p2 : Int32) (p3 : Int32) (r : Int32) (u_refusal' : Int32) (u_acts' : Int32) (u_slides' : Int32) (u_now' : Nat → Int32) (u_diary' : Nat → Int32) (hf : pX10_change u_refusal u_acts u_slides u_now u_diary p0 p1 p2 p3 = some (r, u_refusal', u_acts', u_slides', u_now', u_diary')) : kMet l D cI cZ cJ yX10_change wsX10_change 4 99 [.ref q, .int p0, .int p1, .int p2, .int p3] [(q, .inr (9, [.int u_refusal, .ref q_script, .int u_scriptSize, .int u_spot, .ref q_readRow, .ref q_now, .ref q_trial, .ref q_diary, .int u_acts, .ref q_kept, .ref q_isKept, .int u_slides, .ref q_sums, .ref q_primes, .ref q_turned])), (q_now, .inl (cI, 84, .inl u_now)), (q_diary, .inl (cI, 1176, .inl u_diary))] sz (some (.int r)) [(q, .inr (9, [.int u_refusal', .ref q_script, .int u_scriptSize, .int u_spot, .ref q_readRow, .ref q_now, .ref q_trial, .ref q_diary, .int u_acts', .ref q_kept, .ref q_isKept, .int u_slides', .ref q_sums, .ref q_primes, .ref q_turned])), (q_now, .inl (cI, 84, .inl u_now')), (q_diary, .inl (cI, 1176, .inl u_diary'))] := by
  refine kM_of (cc := cX10_change) (maxL := 5) (ret := (some .int)) (by decide) rfl (Nat.le_of_ble_eq_true rfl) ?_
  intro p e s m args below meth c A Q ls hQ C hlocks hr hE hW hl
  have hx := C.1
  have hb := C.2.1
  have hts := C.2.2.2.2
  have hl : lv_has ls 5 [(0, .ref q), (1, .int p0), (2, .int p1), (3, .int p2), (4, .int p3)] := hl
  have iX10 : ∀ w ∈ u_ws RX10 TX10 15, w ∈ wsX10_change := by decide +kernel
  have f16 := hts (.fieldLink RX10 16 "SortedTablesModel" "now" "[I") (by decide +kernel)
  unfold pX10_change at hf
  refine lv_aload_n hx hb dX10_change_0 rfl (lv_at hl 0 rfl) ?_
  refine lv_aload_n hx hb dX10_change_1 rfl (lv_at hl 0 rfl) ?_
  refine lv_iload_n hx hb dX10_change_2 rfl (lv_at hl 1 rfl) ?_
  refine lv_iload_n hx hb dX10_change_3 rfl (lv_at hl 2 rfl) ?_
  refine lv_iload_n hx hb dX10_change_4 rfl (lv_at hl 3 rfl) ?_
  obtain ⟨v1, h2, hf⟩ := bd1_s hf
  refine k_callVR (b := q) (ci := 9) (qb := 0) (As := [.int p0, .int p1, .int p2]) (n := 3) (rest := [.ref q]) (st1 := [.int v1, .ref q]) C hE hW hl.1 (kX10_have l D cI cZ cJ _ q q_now q_script q_readRow q_trial q_diary q_kept q_isKept q_sums q_primes q_turned u_refusal u_scriptSize u_spot u_acts u_slides u_now p0 p1 p2 v1 h2) gX10_change_X10_have rfl (by decide +kernel) rfl ⟨Nat.le_of_ble_eq_true rfl, Nat.le_of_ble_eq_true rfl⟩ ⟨Nat.zero_le _, Nat.zero_le _⟩ rfl rfl [0, 1] rfl rfl (Nat.le_of_ble_eq_true rfl) rfl rfl dX10_change_5 (fun H locs hW => ?_)
  obtain ⟨j3, hd4, hf⟩ := bd1_s hf
  have J5 : ∀ (H : Heap) (locs : List Loc) (ls : Array Slot), kH D A s H locs [(q, .inr (9, [.int u_refusal, .ref q_script, .int u_scriptSize, .int u_spot, .ref q_readRow, .ref q_now, .ref q_trial, .ref q_diary, .int u_acts, .ref q_kept, .ref q_isKept, .int u_slides, .ref q_sums, .ref q_primes, .ref q_turned])), (q_now, .inl (cI, 84, .inl u_now)), (q_diary, .inl (cI, 1176, .inl u_diary))] → lv_has ls 5 [(0, .ref q), (1, .int p0), (2, .int p1), (3, .int p2), (4, .int p3)] → W p l e (kRm 4 99 0 0) s m args below meth c H locs 0 0 Q (F0 m 28 ls [.int j3, .ref q]) := by
    intro H locs ls hW hl
    obtain ⟨⟨v8, w9⟩, h10, hf⟩ := bd1_s hf
    replace hf := un2_s hf
    refine k_callV (b := q) (ci := 9) (qb := 0) (As := [.int j3]) (n := 1) (rest := []) (st1 := [.int v8]) (wr := [(q_now, .inl (cI, 84, .inl u_now)), (q_diary, .inl (cI, 1176, .inl u_diary))]) (ws' := [(q, .inr (9, [.int w9, .ref q_script, .int u_scriptSize, .int u_spot, .ref q_readRow, .ref q_now, .ref q_trial, .ref q_diary, .int u_acts, .ref q_kept, .ref q_isKept, .int u_slides, .ref q_sums, .ref q_primes, .ref q_turned])), (q_now, .inl (cI, 84, .inl u_now)), (q_diary, .inl (cI, 1176, .inl u_diary))]) C hE hW hl.1 (kX10_refused l D cI cZ cJ _ q q_script q_readRow q_now q_trial q_diary q_kept q_isKept q_sums q_primes q_turned u_refusal u_scriptSize u_spot u_acts u_slides j3 v8 w9 h10) gX10_change_X10_refused rfl (by decide +kernel) rfl ⟨Nat.le_of_ble_eq_true rfl, Nat.le_of_ble_eq_true rfl⟩ ⟨Nat.zero_le _, Nat.zero_le _⟩ rfl rfl [0] [1, 2] [2, 0, 1] rfl rfl rfl rfl (by decide) rfl rfl (Nat.le_of_ble_eq_true rfl) rfl rfl dX10_change_28 (fun H locs hW => ?_)
    refine lv_if_eq (tgt := 36) hx hb dX10_change_31 (by decide) (fun hc => ?_) (fun hc => ?_)
    · replace hf := if_t hc hf
      refine lv_aload_n hx hb dX10_change_36 rfl (lv_at hl 0 rfl) ?_
      obtain ⟨⟨w11, w12⟩, h13, hf⟩ := bd1_s hf
      replace hf := un2_s hf
      refine k_callV (b := q) (ci := 9) (qb := 0) (As := []) (n := 0) (rest := []) (st1 := []) (wr := []) (ws' := [(q, .inr (9, [.int w9, .ref q_script, .int u_scriptSize, .int u_spot, .ref q_readRow, .ref q_now, .ref q_trial, .ref q_diary, .int w11, .ref q_kept, .ref q_isKept, .int u_slides, .ref q_sums, .ref q_primes, .ref q_turned])), (q_now, .inl (cI, 84, .inl u_now)), (q_diary, .inl (cI, 1176, .inl w12))]) C hE hW hl.1 (kX10_note l D cI cZ cJ _ q q_now q_diary q_script q_readRow q_trial q_kept q_isKept q_sums q_primes q_turned w9 u_scriptSize u_spot u_acts u_slides u_now u_diary w11 w12 h13) gX10_change_X10_note rfl (by decide +kernel) rfl ⟨Nat.le_of_ble_eq_true rfl, Nat.le_of_ble_eq_true rfl⟩ ⟨Nat.zero_le _, Nat.zero_le _⟩ rfl rfl [0, 1, 2] [] [0, 1, 2] rfl rfl rfl rfl (by decide) rfl rfl (Nat.le_of_ble_eq_true rfl) rfl rfl dX10_change_37 (fun H locs hW => ?_)
      refine lv_aload_n hx hb dX10_change_40 rfl (lv_at hl 0 rfl) ?_
      refine k_get C hE hW iX10 0 rfl rfl 5 (by decide) f16 (fun _ h9 => h9) rfl dX10_change_41 ?_
      refine lv_iload_n hx hb dX10_change_44 rfl (lv_at hl 1 rfl) ?_
      refine lv_iload_n hx hb dX10_change_45 rfl (lv_at hl 2 rfl) ?_
      refine lv_iload_n hx hb dX10_change_46 rfl (lv_at hl 3 rfl) ?_
      refine lv_iload hx hb dX10_change_47 (lv_at hl 4 rfl) ?_
      obtain ⟨w14, h15, hf⟩ := bd1_s hf
      refine k_callS (As := [.ref q_now, .int p0, .int p1, .int p2, .int p3]) (n := 5) (rest := []) (st1 := []) (wr := [(q, .inr (9, [.int w9, .ref q_script, .int u_scriptSize, .int u_spot, .ref q_readRow, .ref q_now, .ref q_trial, .ref q_diary, .int w11, .ref q_kept, .ref q_isKept, .int u_slides, .ref q_sums, .ref q_primes, .ref q_turned])), (q_diary, .inl (cI, 1176, .inl w12))]) (ws' := [(q, .inr (9, [.int w9, .ref q_script, .int u_scriptSize, .int u_spot, .ref q_readRow, .ref q_now, .ref q_trial, .ref q_diary, .int w11, .ref q_kept, .ref q_isKept, .int u_slides, .ref q_sums, .ref q_primes, .ref q_turned])), (q_now, .inl (cI, 84, .inl w14)), (q_diary, .inl (cI, 1176, .inl w12))]) C hE hW hl.1 (kX10_set l D cI cZ cJ _ q_now u_now p0 p1 p2 p3 w14 h15) gX10_change_X10_set rfl (by decide +kernel) rfl ⟨Nat.le_of_ble_eq_true rfl, Nat.le_of_ble_eq_true rfl⟩ ⟨Nat.zero_le _, Nat.zero_le _⟩ [1] [0, 2] [0, 2, 1] rfl rfl rfl rfl (by decide) rfl rfl (Nat.le_of_ble_eq_true rfl) rfl rfl dX10_change_49 (fun H locs hW => ?_)
      refine lv_aload_n hx hb dX10_change_52 rfl (lv_at hl 0 rfl) ?_
      refine k_get C hE hW iX10 0 rfl rfl 5 (by decide) f16 (fun _ h9 => h9) rfl dX10_change_53 ?_
      refine lv_iload_n hx hb dX10_change_56 rfl (lv_at hl 1 rfl) ?_
      refine lv_aload_n hx hb dX10_change_57 rfl (lv_at hl 0 rfl) ?_
      refine lv_aload_n hx hb dX10_change_58 rfl (lv_at hl 0 rfl) ?_
      refine k_get C hE hW iX10 0 rfl rfl 5 (by decide) f16 (fun _ h9 => h9) rfl dX10_change_59 ?_
      refine lv_iload_n hx hb dX10_change_62 rfl (lv_at hl 1 rfl) ?_
      refine lv_bipush (v := 10) hx hb dX10_change_63 (by decide) ?_
      refine lv_iload_n hx hb dX10_change_65 rfl (lv_at hl 2 rfl) ?_
      refine lv_imul hx hb dX10_change_66 ?_
      refine lv_iload_n hx hb dX10_change_67 rfl (lv_at hl 3 rfl) ?_
      refine lv_iadd hx hb dX10_change_68 ?_
      obtain ⟨⟨v16, w17, w18⟩, h19, hf⟩ := bd1_s hf
      replace hf := un3_s hf
      refine k_callV (b := q) (ci := 9) (qb := 0) (As := [.ref q_now, .int p0, .int ((10 * p1) + p2)]) (n := 3) (rest := [.int p0, .ref q_now]) (st1 := [.int v16, .int p0, .ref q_now]) (wr := [(q_diary, .inl (cI, 1176, .inl w12))]) (ws' := [(q, .inr (9, [.int w9, .ref q_script, .int u_scriptSize, .int u_spot, .ref q_readRow, .ref q_now, .ref q_trial, .ref q_diary, .int w11, .ref q_kept, .ref q_isKept, .int w17, .ref q_sums, .ref q_primes, .ref q_turned])), (q_now, .inl (cI, 84, .inl w18)), (q_diary, .inl (cI, 1176, .inl w12))]) C hE hW hl.1 (kX10_slideUp l D cI cZ cJ _ q q_now q_script q_readRow q_now q_trial q_diary q_kept q_isKept q_sums q_primes q_turned w9 u_scriptSize u_spot w11 u_slides w14 p0 ((10 * p1) + p2) v16 w17 w18 h19) gX10_change_X10_slideUp rfl (by decide +kernel) rfl ⟨Nat.le_of_ble_eq_true rfl, Nat.le_of_ble_eq_true rfl⟩ ⟨Nat.zero_le _, Nat.zero_le _⟩ rfl rfl [0, 1] [2] [1, 2, 0] rfl rfl rfl rfl (by decide) rfl rfl (Nat.le_of_ble_eq_true rfl) rfl rfl dX10_change_69 (fun H locs hW => ?_)
      obtain ⟨⟨v20, w21⟩, h22, hf⟩ := bd1_s hf
      replace hf := un2_s hf
      refine k_callS (As := [.ref q_now, .int p0, .int v16]) (n := 3) (rest := []) (st1 := [.int v20]) (wr := [(q, .inr (9, [.int w9, .ref q_script, .int u_scriptSize, .int u_spot, .ref q_readRow, .ref q_now, .ref q_trial, .ref q_diary, .int w11, .ref q_kept, .ref q_isKept, .int w17, .ref q_sums, .ref q_primes, .ref q_turned])), (q_diary, .inl (cI, 1176, .inl w12))]) (ws' := [(q, .inr (9, [.int w9, .ref q_script, .int u_scriptSize, .int u_spot, .ref q_readRow, .ref q_now, .ref q_trial, .ref q_diary, .int w11, .ref q_kept, .ref q_isKept, .int w17, .ref q_sums, .ref q_primes, .ref q_turned])), (q_now, .inl (cI, 84, .inl w21)), (q_diary, .inl (cI, 1176, .inl w12))]) C hE hW hl.1 (kX10_slideDown l D cI cZ cJ _ q_now w18 p0 v16 v20 w21 h22) gX10_change_X10_slideDown rfl (by decide +kernel) rfl ⟨Nat.le_of_ble_eq_true rfl, Nat.le_of_ble_eq_true rfl⟩ ⟨Nat.zero_le _, Nat.zero_le _⟩ [1] [0, 2] [0, 2, 1] rfl rfl rfl rfl (by decide) rfl rfl (Nat.le_of_ble_eq_true rfl) rfl rfl dX10_change_72 (fun H locs hW => ?_)
      obtain ⟨rfl, rfl, rfl, rfl, rfl, rfl⟩ := sm6 hf
      exact k_iret C hlocks hr hW hQ dX10_change_75
    · replace hf := if_f hc hf
      refine lv_iconst (v := 0) hx hb dX10_change_34 (by decide) ?_
      obtain ⟨rfl, rfl, rfl, rfl, rfl, rfl⟩ := sm6 hf
      exact k_iret C hlocks hr hW hQ dX10_change_35
  refine lv_if_ne (tgt := 15) hx hb dX10_change_8 (by decide) (fun hc => ?_) (fun hc => ?_)
  · replace hd4 := if_f hc hd4
    refine lv_iload hx hb dX10_change_15 (lv_at hl 4 rfl) ?_
    obtain ⟨v6, h7, hd4⟩ := bd1_s hd4
    refine k_callSR (As := [.int p3]) (n := 1) (rest := [.ref q]) (st1 := [.int v6, .ref q]) C hE hW hl.1 (kX10_isNumber l D cI cZ cJ _ p3 v6 h7) gX10_change_X10_isNumber rfl (by decide +kernel) rfl ⟨Nat.le_of_ble_eq_true rfl, Nat.le_of_ble_eq_true rfl⟩ ⟨Nat.zero_le _, Nat.zero_le _⟩ [] rfl rfl (Nat.le_of_ble_eq_true rfl) rfl rfl dX10_change_17 (fun H locs hW => ?_)
    refine lv_if_ne (tgt := 27) hx hb dX10_change_20 (by decide) (fun hc => ?_) (fun hc => ?_)
    · replace hd4 := if_f hc hd4
      refine lv_iconst (v := 0) hx hb dX10_change_27 (by decide) ?_
      obtain rfl := Option.some.inj hd4
      exact J5 _ _ _ hW (lv_sub hl [0, 1, 2, 3, 4] rfl)
    · replace hd4 := if_t hc hd4
      refine lv_iconst (v := 2) hx hb dX10_change_23 (by decide) ?_
      refine lv_goto (tgt := 28) hx hb dX10_change_24 (by decide) ?_
      obtain rfl := Option.some.inj hd4
      exact J5 _ _ _ hW (lv_sub hl [0, 1, 2, 3, 4] rfl)
  · replace hd4 := if_t hc hd4
    refine lv_iconst (v := 1) hx hb dX10_change_11 (by decide) ?_
    refine lv_goto (tgt := 28) hx hb dX10_change_12 (by decide) ?_
    obtain rfl := Option.some.inj hd4
    exact J5 _ _ _ hW (lv_sub hl [0, 1, 2, 3, 4] rfl)

set_option maxHeartbeats 4000000 in
set_option maxRecDepth 100000 in
theorem kX10_transfer (l : Launch) (D : va_G) (cI cZ cJ : ClassId) (sz : Nat) (q q_now q_diary q_script q_readRow q_trial q_kept q_isKept q_sums q_primes q_turned : Nat) (u_refusal : Int32) (u_scriptSize : Int32) (u_spot : Int32) (u_acts : Int32) (u_slides : Int32) (u_now : Nat → Int32) (u_diary : Nat → Int32) (p0 : Int32) (p1 : Int32) (p2 : Int32) (r : Int32) (u_refusal' : Int32) (u_acts' : Int32) (u_slides' : Int32) (u_now' : Nat → Int32) (u_diary' : Nat → Int32) (hf : pX10_transfer u_refusal u_acts u_slides u_now u_diary p0 p1 p2 = some (r, u_refusal', u_acts', u_slides', u_now', u_diary')) : kMet l D cI cZ cJ yX10_transfer wsX10_transfer 5 118 [.ref q, .int p0, .int p1, .int p2] [(q, .inr (9, [.int u_refusal, .ref q_script, .int u_scriptSize, .int u_spot, .ref q_readRow, .ref q_now, .ref q_trial, .ref q_diary, .int u_acts, .ref q_kept, .ref q_isKept, .int u_slides, .ref q_sums, .ref q_primes, .ref q_turned])), (q_now, .inl (cI, 84, .inl u_now)), (q_diary, .inl (cI, 1176, .inl u_diary))] sz (some (.int r)) [(q, .inr (9, [.int u_refusal', .ref q_script, .int u_scriptSize, .int u_spot, .ref q_readRow, .ref q_now, .ref q_trial, .ref q_diary, .int u_acts', .ref q_kept, .ref q_isKept, .int u_slides', .ref q_sums, .ref q_primes, .ref q_turned])), (q_now, .inl (cI, 84, .inl u_now')), (q_diary, .inl (cI, 1176, .inl u_diary'))] := by
  refine kM_of (cc := cX10_transfer) (maxL := 5) (ret := (some .int)) (by decide) rfl (Nat.le_of_ble_eq_true rfl) ?_
  intro p e s m args below meth c A Q ls hQ C hlocks hr hE hW hl
  have hx := C.1
  have hb := C.2.1
  have hts := C.2.2.2.2
  have hl : lv_has ls 5 [(0, .ref q), (1, .int p0), (2, .int p1), (3, .int p2)] := hl
  have iX10 : ∀ w ∈ u_ws RX10 TX10 15, w ∈ wsX10_transfer := by decide +kernel
  have f16 := hts (.fieldLink RX10 16 "SortedTablesModel" "now" "[I") (by decide +kernel)
  unfold pX10_transfer at hf
  refine lv_aload_n hx hb dX10_transfer_0 rfl (lv_at hl 0 rfl) ?_
  refine lv_aload_n hx hb dX10_transfer_1 rfl (lv_at hl 0 rfl) ?_
  refine lv_iload_n hx hb dX10_transfer_2 rfl (lv_at hl 1 rfl) ?_
  refine lv_iload_n hx hb dX10_transfer_3 rfl (lv_at hl 2 rfl) ?_
  refine lv_iload_n hx hb dX10_transfer_4 rfl (lv_at hl 3 rfl) ?_
  obtain ⟨v1, h2, hf⟩ := bd1_s hf
  refine k_callVR (b := q) (ci := 9) (qb := 0) (As := [.int p0, .int p1, .int p2]) (n := 3) (rest := [.ref q]) (st1 := [.int v1, .ref q]) C hE hW hl.1 (kX10_have l D cI cZ cJ _ q q_now q_script q_readRow q_trial q_diary q_kept q_isKept q_sums q_primes q_turned u_refusal u_scriptSize u_spot u_acts u_slides u_now p0 p1 p2 v1 h2) gX10_transfer_X10_have rfl (by decide +kernel) rfl ⟨Nat.le_of_ble_eq_true rfl, Nat.le_of_ble_eq_true rfl⟩ ⟨Nat.zero_le _, Nat.zero_le _⟩ rfl rfl [0, 1] rfl rfl (Nat.le_of_ble_eq_true rfl) rfl rfl dX10_transfer_5 (fun H locs hW => ?_)
  obtain ⟨j3, hd4, hf⟩ := bd1_s hf
  have J5 : ∀ (H : Heap) (locs : List Loc) (ls : Array Slot), kH D A s H locs [(q, .inr (9, [.int u_refusal, .ref q_script, .int u_scriptSize, .int u_spot, .ref q_readRow, .ref q_now, .ref q_trial, .ref q_diary, .int u_acts, .ref q_kept, .ref q_isKept, .int u_slides, .ref q_sums, .ref q_primes, .ref q_turned])), (q_now, .inl (cI, 84, .inl u_now)), (q_diary, .inl (cI, 1176, .inl u_diary))] → lv_has ls 5 [(0, .ref q), (1, .int p0), (2, .int p1), (3, .int p2)] → W p l e (kRm 5 118 0 0) s m args below meth c H locs 0 0 Q (F0 m 35 ls [.int j3, .ref q]) := by
    intro H locs ls hW hl
    obtain ⟨⟨v8, w9⟩, h10, hf⟩ := bd1_s hf
    replace hf := un2_s hf
    refine k_callV (b := q) (ci := 9) (qb := 0) (As := [.int j3]) (n := 1) (rest := []) (st1 := [.int v8]) (wr := [(q_now, .inl (cI, 84, .inl u_now)), (q_diary, .inl (cI, 1176, .inl u_diary))]) (ws' := [(q, .inr (9, [.int w9, .ref q_script, .int u_scriptSize, .int u_spot, .ref q_readRow, .ref q_now, .ref q_trial, .ref q_diary, .int u_acts, .ref q_kept, .ref q_isKept, .int u_slides, .ref q_sums, .ref q_primes, .ref q_turned])), (q_now, .inl (cI, 84, .inl u_now)), (q_diary, .inl (cI, 1176, .inl u_diary))]) C hE hW hl.1 (kX10_refused l D cI cZ cJ _ q q_script q_readRow q_now q_trial q_diary q_kept q_isKept q_sums q_primes q_turned u_refusal u_scriptSize u_spot u_acts u_slides j3 v8 w9 h10) gX10_transfer_X10_refused rfl (by decide +kernel) rfl ⟨Nat.le_of_ble_eq_true rfl, Nat.le_of_ble_eq_true rfl⟩ ⟨Nat.zero_le _, Nat.zero_le _⟩ rfl rfl [0] [1, 2] [2, 0, 1] rfl rfl rfl rfl (by decide) rfl rfl (Nat.le_of_ble_eq_true rfl) rfl rfl dX10_transfer_35 (fun H locs hW => ?_)
    refine lv_if_eq (tgt := 43) hx hb dX10_transfer_38 (by decide) (fun hc => ?_) (fun hc => ?_)
    · replace hf := if_t hc hf
      refine lv_aload_n hx hb dX10_transfer_43 rfl (lv_at hl 0 rfl) ?_
      obtain ⟨⟨w11, w12⟩, h13, hf⟩ := bd1_s hf
      replace hf := un2_s hf
      refine k_callV (b := q) (ci := 9) (qb := 0) (As := []) (n := 0) (rest := []) (st1 := []) (wr := []) (ws' := [(q, .inr (9, [.int w9, .ref q_script, .int u_scriptSize, .int u_spot, .ref q_readRow, .ref q_now, .ref q_trial, .ref q_diary, .int w11, .ref q_kept, .ref q_isKept, .int u_slides, .ref q_sums, .ref q_primes, .ref q_turned])), (q_now, .inl (cI, 84, .inl u_now)), (q_diary, .inl (cI, 1176, .inl w12))]) C hE hW hl.1 (kX10_note l D cI cZ cJ _ q q_now q_diary q_script q_readRow q_trial q_kept q_isKept q_sums q_primes q_turned w9 u_scriptSize u_spot u_acts u_slides u_now u_diary w11 w12 h13) gX10_transfer_X10_note rfl (by decide +kernel) rfl ⟨Nat.le_of_ble_eq_true rfl, Nat.le_of_ble_eq_true rfl⟩ ⟨Nat.zero_le _, Nat.zero_le _⟩ rfl rfl [0, 1, 2] [] [0, 1, 2] rfl rfl rfl rfl (by decide) rfl rfl (Nat.le_of_ble_eq_true rfl) rfl rfl dX10_transfer_44 (fun H locs hW => ?_)
      refine lv_aload_n hx hb dX10_transfer_47 rfl (lv_at hl 0 rfl) ?_
      refine k_get C hE hW iX10 0 rfl rfl 5 (by decide) f16 (fun _ h9 => h9) rfl dX10_transfer_48 ?_
      refine lv_iload_n hx hb dX10_transfer_51 rfl (lv_at hl 1 rfl) ?_
      refine lv_iload_n hx hb dX10_transfer_52 rfl (lv_at hl 2 rfl) ?_
      refine lv_iload_n hx hb dX10_transfer_53 rfl (lv_at hl 3 rfl) ?_
      obtain ⟨v14, h15, hf⟩ := bd1_s hf
      refine k_callSR (As := [.ref q_now, .int p0, .int p1, .int p2]) (n := 4) (rest := []) (st1 := [.int v14]) C hE hW hl.1 (kX10_get l D cI cZ cJ _ q_now u_now p0 p1 p2 v14 h15) gX10_transfer_X10_get rfl (by decide +kernel) rfl ⟨Nat.le_of_ble_eq_true rfl, Nat.le_of_ble_eq_true rfl⟩ ⟨Nat.zero_le _, Nat.zero_le _⟩ [1] rfl rfl (Nat.le_of_ble_eq_true rfl) rfl rfl dX10_transfer_54 (fun H locs hW => ?_)
      refine lv_istore (lv' := [(4, .int v14), (0, .ref q), (1, .int p0), (2, .int p1), (3, .int p2)]) hx hb dX10_transfer_57 hl (by decide) rfl (fun ls hl => ?_)
      refine lv_aload_n hx hb dX10_transfer_59 rfl (lv_at hl 1 rfl) ?_
      refine k_get C hE hW iX10 0 rfl rfl 5 (by decide) f16 (fun _ h9 => h9) rfl dX10_transfer_60 ?_
      refine lv_iload_n hx hb dX10_transfer_63 rfl (lv_at hl 2 rfl) ?_
      refine lv_iload_n hx hb dX10_transfer_64 rfl (lv_at hl 3 rfl) ?_
      refine lv_iload_n hx hb dX10_transfer_65 rfl (lv_at hl 4 rfl) ?_
      obtain ⟨⟨v16, w17⟩, h18, hf⟩ := bd1_s hf
      replace hf := un2_s hf
      refine k_callS (As := [.ref q_now, .int p0, .int p1, .int p2]) (n := 4) (rest := []) (st1 := [.int v16]) (wr := [(q, .inr (9, [.int w9, .ref q_script, .int u_scriptSize, .int u_spot, .ref q_readRow, .ref q_now, .ref q_trial, .ref q_diary, .int w11, .ref q_kept, .ref q_isKept, .int u_slides, .ref q_sums, .ref q_primes, .ref q_turned])), (q_diary, .inl (cI, 1176, .inl w12))]) (ws' := [(q, .inr (9, [.int w9, .ref q_script, .int u_scriptSize, .int u_spot, .ref q_readRow, .ref q_now, .ref q_trial, .ref q_diary, .int w11, .ref q_kept, .ref q_isKept, .int u_slides, .ref q_sums, .ref q_primes, .ref q_turned])), (q_now, .inl (cI, 84, .inl w17)), (q_diary, .inl (cI, 1176, .inl w12))]) C hE hW hl.1 (kX10_removeOn l D cI cZ cJ _ q_now u_now p0 p1 p2 v16 w17 h18) gX10_transfer_X10_removeOn rfl (by decide +kernel) rfl ⟨Nat.le_of_ble_eq_true rfl, Nat.le_of_ble_eq_true rfl⟩ ⟨Nat.zero_le _, Nat.zero_le _⟩ [1] [0, 2] [0, 2, 1] rfl rfl rfl rfl (by decide) rfl rfl (Nat.le_of_ble_eq_true rfl) rfl rfl dX10_transfer_66 (fun H locs hW => ?_)
      refine lv_pop hx hb dX10_transfer_69 rfl ?_
      refine lv_aload_n hx hb dX10_transfer_70 rfl (lv_at hl 1 rfl) ?_
      refine lv_aload_n hx hb dX10_transfer_71 rfl (lv_at hl 1 rfl) ?_
      refine k_get C hE hW iX10 0 rfl rfl 5 (by decide) f16 (fun _ h9 => h9) rfl dX10_transfer_72 ?_
      refine lv_iconst (v := 1) hx hb dX10_transfer_75 (by decide) ?_
      refine lv_iload_n hx hb dX10_transfer_76 rfl (lv_at hl 2 rfl) ?_
      refine lv_isub hx hb dX10_transfer_77 ?_
      refine lv_iload hx hb dX10_transfer_78 (lv_at hl 0 rfl) ?_
      obtain ⟨⟨v19, w20, w21⟩, h22, hf⟩ := bd1_s hf
      replace hf := un3_s hf
      refine k_callV (b := q) (ci := 9) (qb := 0) (As := [.ref q_now, .int (1 - p0), .int v14]) (n := 3) (rest := []) (st1 := [.int v19]) (wr := [(q_diary, .inl (cI, 1176, .inl w12))]) (ws' := [(q, .inr (9, [.int w9, .ref q_script, .int u_scriptSize, .int u_spot, .ref q_readRow, .ref q_now, .ref q_trial, .ref q_diary, .int w11, .ref q_kept, .ref q_isKept, .int w20, .ref q_sums, .ref q_primes, .ref q_turned])), (q_now, .inl (cI, 84, .inl w21)), (q_diary, .inl (cI, 1176, .inl w12))]) C hE hW hl.1 (kX10_insertOn l D cI cZ cJ _ q q_now q_script q_readRow q_now q_trial q_diary q_kept q_isKept q_sums q_primes q_turned w9 u_scriptSize u_spot w11 u_slides w17 (1 - p0) v14 v19 w20 w21 h22) gX10_transfer_X10_insertOn rfl (by decide +kernel) rfl ⟨Nat.le_of_ble_eq_true rfl, Nat.le_of_ble_eq_true rfl⟩ ⟨Nat.zero_le _, Nat.zero_le _⟩ rfl rfl [0, 1] [2] [1, 2, 0] rfl rfl rfl rfl (by decide) rfl rfl (Nat.le_of_ble_eq_true rfl) rfl rfl dX10_transfer_80 (fun H locs hW => ?_)
      obtain ⟨rfl, rfl, rfl, rfl, rfl, rfl⟩ := sm6 hf
      exact k_iret C hlocks hr hW hQ dX10_transfer_83
    · replace hf := if_f hc hf
      refine lv_iconst (v := 0) hx hb dX10_transfer_41 (by decide) ?_
      obtain ⟨rfl, rfl, rfl, rfl, rfl, rfl⟩ := sm6 hf
      exact k_iret C hlocks hr hW hQ dX10_transfer_42
  refine lv_if_ne (tgt := 15) hx hb dX10_transfer_8 (by decide) (fun hc => ?_) (fun hc => ?_)
  · replace hd4 := if_f hc hd4
    refine lv_aload_n hx hb dX10_transfer_15 rfl (lv_at hl 0 rfl) ?_
    refine k_get C hE hW iX10 0 rfl rfl 5 (by decide) f16 (fun _ h9 => h9) rfl dX10_transfer_16 ?_
    refine lv_iconst (v := 1) hx hb dX10_transfer_19 (by decide) ?_
    refine lv_iload_n hx hb dX10_transfer_20 rfl (lv_at hl 1 rfl) ?_
    refine lv_isub hx hb dX10_transfer_21 ?_
    obtain ⟨v6, h7, hd4⟩ := bd1_s hd4
    refine k_callSR (As := [.ref q_now, .int (1 - p0)]) (n := 2) (rest := [.ref q]) (st1 := [.int v6, .ref q]) C hE hW hl.1 (kX10_gapRow l D cI cZ cJ _ q_now u_now (1 - p0) v6 h7) gX10_transfer_X10_gapRow rfl (by decide +kernel) rfl ⟨Nat.le_of_ble_eq_true rfl, Nat.le_of_ble_eq_true rfl⟩ ⟨Nat.zero_le _, Nat.zero_le _⟩ [1] rfl rfl (Nat.le_of_ble_eq_true rfl) rfl rfl dX10_transfer_22 (fun H locs hW => ?_)
    refine lv_bipush (v := (-9)) hx hb dX10_transfer_25 (by decide) ?_
    refine lv_icmp_ne (tgt := 34) hx hb dX10_transfer_27 (by decide) (fun hc => ?_) (fun hc => ?_)
    · replace hd4 := if_f hc hd4
      refine lv_iconst (v := 0) hx hb dX10_transfer_34 (by decide) ?_
      obtain rfl := Option.some.inj hd4
      exact J5 _ _ _ hW (lv_sub hl [0, 1, 2, 3] rfl)
    · replace hd4 := if_t hc hd4
      refine lv_iconst (v := 2) hx hb dX10_transfer_30 (by decide) ?_
      refine lv_goto (tgt := 35) hx hb dX10_transfer_31 (by decide) ?_
      obtain rfl := Option.some.inj hd4
      exact J5 _ _ _ hW (lv_sub hl [0, 1, 2, 3] rfl)
  · replace hd4 := if_t hc hd4
    refine lv_iconst (v := 1) hx hb dX10_transfer_11 (by decide) ?_
    refine lv_goto (tgt := 35) hx hb dX10_transfer_12 (by decide) ?_
    obtain rfl := Option.some.inj hd4
    exact J5 _ _ _ hW (lv_sub hl [0, 1, 2, 3] rfl)

set_option maxHeartbeats 4000000 in
set_option maxRecDepth 100000 in
theorem kX10_transpose (l : Launch) (D : va_G) (cI cZ cJ : ClassId) (sz : Nat) (q q_now q_diary q_turned q_script q_readRow q_trial q_kept q_isKept q_sums q_primes : Nat) (u_refusal : Int32) (u_scriptSize : Int32) (u_spot : Int32) (u_acts : Int32) (u_slides : Int32) (u_now : Nat → Int32) (u_diary : Nat → Int32) (u_turned : Nat → Int32) (p0 : Int32) (r : Int32) (u_refusal' : Int32) (u_acts' : Int32) (u_now' : Nat → Int32) (u_diary' : Nat → Int32) (u_turned' : Nat → Int32) (hf : pX10_transpose u_refusal u_acts u_now u_diary u_turned p0 = some (r, u_refusal', u_acts', u_now', u_diary', u_turned')) : kMet l D cI cZ cJ yX10_transpose wsX10_transpose 4 95 [.ref q, .int p0] [(q, .inr (9, [.int u_refusal, .ref q_script, .int u_scriptSize, .int u_spot, .ref q_readRow, .ref q_now, .ref q_trial, .ref q_diary, .int u_acts, .ref q_kept, .ref q_isKept, .int u_slides, .ref q_sums, .ref q_primes, .ref q_turned])), (q_now, .inl (cI, 84, .inl u_now)), (q_diary, .inl (cI, 1176, .inl u_diary)), (q_turned, .inl (cI, 42, .inl u_turned))] sz (some (.int r)) [(q, .inr (9, [.int u_refusal', .ref q_script, .int u_scriptSize, .int u_spot, .ref q_readRow, .ref q_now, .ref q_trial, .ref q_diary, .int u_acts', .ref q_kept, .ref q_isKept, .int u_slides, .ref q_sums, .ref q_primes, .ref q_turned])), (q_now, .inl (cI, 84, .inl u_now')), (q_diary, .inl (cI, 1176, .inl u_diary')), (q_turned, .inl (cI, 42, .inl u_turned'))] := by
  refine kM_of (cc := cX10_transpose) (maxL := 2) (ret := (some .int)) (by decide) rfl (Nat.le_of_ble_eq_true rfl) ?_
  intro p e s m args below meth c A Q ls hQ C hlocks hr hE hW hl
  have hx := C.1
  have hb := C.2.1
  have hts := C.2.2.2.2
  have hl : lv_has ls 2 [(0, .ref q), (1, .int p0)] := hl
  have iX10 : ∀ w ∈ u_ws RX10 TX10 15, w ∈ wsX10_transpose := by decide +kernel
  have f16 := hts (.fieldLink RX10 16 "SortedTablesModel" "now" "[I") (by decide +kernel)
  unfold pX10_transpose at hf
  refine lv_aload_n hx hb dX10_transpose_0 rfl (lv_at hl 0 rfl) ?_
  refine lv_iload_n hx hb dX10_transpose_1 rfl (lv_at hl 1 rfl) ?_
  obtain ⟨v1, h2, hf⟩ := bd1_s hf
  refine k_callSR (As := [.int p0]) (n := 1) (rest := [.ref q]) (st1 := [.int v1, .ref q]) C hE hW hl.1 (kX10_isTable l D cI cZ cJ _ p0 v1 h2) gX10_transpose_X10_isTable rfl (by decide +kernel) rfl ⟨Nat.le_of_ble_eq_true rfl, Nat.le_of_ble_eq_true rfl⟩ ⟨Nat.zero_le _, Nat.zero_le _⟩ [] rfl rfl (Nat.le_of_ble_eq_true rfl) rfl rfl dX10_transpose_2 (fun H locs hW => ?_)
  obtain ⟨j3, hd4, hf⟩ := bd1_s hf
  have J5 : ∀ (H : Heap) (locs : List Loc) (ls : Array Slot), kH D A s H locs [(q, .inr (9, [.int u_refusal, .ref q_script, .int u_scriptSize, .int u_spot, .ref q_readRow, .ref q_now, .ref q_trial, .ref q_diary, .int u_acts, .ref q_kept, .ref q_isKept, .int u_slides, .ref q_sums, .ref q_primes, .ref q_turned])), (q_now, .inl (cI, 84, .inl u_now)), (q_diary, .inl (cI, 1176, .inl u_diary)), (q_turned, .inl (cI, 42, .inl u_turned))] → lv_has ls 2 [(0, .ref q), (1, .int p0)] → W p l e (kRm 4 95 0 0) s m args below meth c H locs 0 0 Q (F0 m 13 ls [.int j3, .ref q]) := by
    intro H locs ls hW hl
    obtain ⟨⟨v6, w7⟩, h8, hf⟩ := bd1_s hf
    replace hf := un2_s hf
    refine k_callV (b := q) (ci := 9) (qb := 0) (As := [.int j3]) (n := 1) (rest := []) (st1 := [.int v6]) (wr := [(q_now, .inl (cI, 84, .inl u_now)), (q_diary, .inl (cI, 1176, .inl u_diary)), (q_turned, .inl (cI, 42, .inl u_turned))]) (ws' := [(q, .inr (9, [.int w7, .ref q_script, .int u_scriptSize, .int u_spot, .ref q_readRow, .ref q_now, .ref q_trial, .ref q_diary, .int u_acts, .ref q_kept, .ref q_isKept, .int u_slides, .ref q_sums, .ref q_primes, .ref q_turned])), (q_now, .inl (cI, 84, .inl u_now)), (q_diary, .inl (cI, 1176, .inl u_diary)), (q_turned, .inl (cI, 42, .inl u_turned))]) C hE hW hl.1 (kX10_refused l D cI cZ cJ _ q q_script q_readRow q_now q_trial q_diary q_kept q_isKept q_sums q_primes q_turned u_refusal u_scriptSize u_spot u_acts u_slides j3 v6 w7 h8) gX10_transpose_X10_refused rfl (by decide +kernel) rfl ⟨Nat.le_of_ble_eq_true rfl, Nat.le_of_ble_eq_true rfl⟩ ⟨Nat.zero_le _, Nat.zero_le _⟩ rfl rfl [0] [1, 2, 3] [3, 0, 1, 2] rfl rfl rfl rfl (by decide) rfl rfl (Nat.le_of_ble_eq_true rfl) rfl rfl dX10_transpose_13 (fun H locs hW => ?_)
    refine lv_if_eq (tgt := 21) hx hb dX10_transpose_16 (by decide) (fun hc => ?_) (fun hc => ?_)
    · replace hf := if_t hc hf
      refine lv_aload_n hx hb dX10_transpose_21 rfl (lv_at hl 0 rfl) ?_
      obtain ⟨⟨w9, w10⟩, h11, hf⟩ := bd1_s hf
      replace hf := un2_s hf
      refine k_callV (b := q) (ci := 9) (qb := 0) (As := []) (n := 0) (rest := []) (st1 := []) (wr := [(q_turned, .inl (cI, 42, .inl u_turned))]) (ws' := [(q, .inr (9, [.int w7, .ref q_script, .int u_scriptSize, .int u_spot, .ref q_readRow, .ref q_now, .ref q_trial, .ref q_diary, .int w9, .ref q_kept, .ref q_isKept, .int u_slides, .ref q_sums, .ref q_primes, .ref q_turned])), (q_now, .inl (cI, 84, .inl u_now)), (q_diary, .inl (cI, 1176, .inl w10)), (q_turned, .inl (cI, 42, .inl u_turned))]) C hE hW hl.1 (kX10_note l D cI cZ cJ _ q q_now q_diary q_script q_readRow q_trial q_kept q_isKept q_sums q_primes q_turned w7 u_scriptSize u_spot u_acts u_slides u_now u_diary w9 w10 h11) gX10_transpose_X10_note rfl (by decide +kernel) rfl ⟨Nat.le_of_ble_eq_true rfl, Nat.le_of_ble_eq_true rfl⟩ ⟨Nat.zero_le _, Nat.zero_le _⟩ rfl rfl [0, 1, 2] [3] [1, 2, 3, 0] rfl rfl rfl rfl (by decide) rfl rfl (Nat.le_of_ble_eq_true rfl) rfl rfl dX10_transpose_22 (fun H locs hW => ?_)
      refine lv_aload_n hx hb dX10_transpose_25 rfl (lv_at hl 0 rfl) ?_
      refine lv_aload_n hx hb dX10_transpose_26 rfl (lv_at hl 0 rfl) ?_
      refine k_get C hE hW iX10 0 rfl rfl 5 (by decide) f16 (fun _ h9 => h9) rfl dX10_transpose_27 ?_
      refine lv_iload_n hx hb dX10_transpose_30 rfl (lv_at hl 1 rfl) ?_
      obtain ⟨⟨w12, w13⟩, h14, hf⟩ := bd1_s hf
      replace hf := un2_s hf
      refine k_callV (b := q) (ci := 9) (qb := 0) (As := [.ref q_now, .int p0]) (n := 2) (rest := []) (st1 := []) (wr := [(q_diary, .inl (cI, 1176, .inl w10))]) (ws' := [(q, .inr (9, [.int w7, .ref q_script, .int u_scriptSize, .int u_spot, .ref q_readRow, .ref q_now, .ref q_trial, .ref q_diary, .int w9, .ref q_kept, .ref q_isKept, .int u_slides, .ref q_sums, .ref q_primes, .ref q_turned])), (q_now, .inl (cI, 84, .inl w13)), (q_diary, .inl (cI, 1176, .inl w10)), (q_turned, .inl (cI, 42, .inl w12))]) C hE hW hl.1 (kX10_transposeOn l D cI cZ cJ _ q q_turned q_now q_script q_readRow q_now q_trial q_diary q_kept q_isKept q_sums q_primes w7 u_scriptSize u_spot w9 u_slides u_turned u_now p0 w12 w13 h14) gX10_transpose_X10_transposeOn rfl (by decide +kernel) rfl ⟨Nat.le_of_ble_eq_true rfl, Nat.le_of_ble_eq_true rfl⟩ ⟨Nat.zero_le _, Nat.zero_le _⟩ rfl rfl [0, 3, 1] [2] [1, 3, 0, 2] rfl rfl rfl rfl (by decide) rfl rfl (Nat.le_of_ble_eq_true rfl) rfl rfl dX10_transpose_31 (fun H locs hW => ?_)
      refine lv_aload_n hx hb dX10_transpose_34 rfl (lv_at hl 0 rfl) ?_
      refine k_get C hE hW iX10 0 rfl rfl 5 (by decide) f16 (fun _ h9 => h9) rfl dX10_transpose_35 ?_
      refine lv_iload_n hx hb dX10_transpose_38 rfl (lv_at hl 1 rfl) ?_
      obtain ⟨v15, h16, hf⟩ := bd1_s hf
      refine k_callSR (As := [.ref q_now, .int p0]) (n := 2) (rest := []) (st1 := [.int v15]) C hE hW hl.1 (kX10_rows l D cI cZ cJ _ q_now w13 p0 v15 h16) gX10_transpose_X10_rows rfl (by decide +kernel) rfl ⟨Nat.le_of_ble_eq_true rfl, Nat.le_of_ble_eq_true rfl⟩ ⟨Nat.zero_le _, Nat.zero_le _⟩ [1] rfl rfl (Nat.le_of_ble_eq_true rfl) rfl rfl dX10_transpose_39 (fun H locs hW => ?_)
      obtain ⟨rfl, rfl, rfl, rfl, rfl, rfl⟩ := sm6 hf
      exact k_iret C hlocks hr hW hQ dX10_transpose_42
    · replace hf := if_f hc hf
      refine lv_iconst (v := 0) hx hb dX10_transpose_19 (by decide) ?_
      obtain ⟨rfl, rfl, rfl, rfl, rfl, rfl⟩ := sm6 hf
      exact k_iret C hlocks hr hW hQ dX10_transpose_20
  refine lv_if_eq (tgt := 12) hx hb dX10_transpose_5 (by decide) (fun hc => ?_) (fun hc => ?_)
  · replace hd4 := if_t hc hd4
    refine lv_iconst (v := 1) hx hb dX10_transpose_12 (by decide) ?_
    obtain rfl := Option.some.inj hd4
    exact J5 _ _ _ hW (lv_sub hl [0, 1] rfl)
  · replace hd4 := if_f hc hd4
    refine lv_iconst (v := 0) hx hb dX10_transpose_8 (by decide) ?_
    refine lv_goto (tgt := 13) hx hb dX10_transpose_9 (by decide) ?_
    obtain rfl := Option.some.inj hd4
    exact J5 _ _ _ hW (lv_sub hl [0, 1] rfl)

set_option maxHeartbeats 4000000 in
set_option maxRecDepth 100000 in
theorem kX10_exchange (l : Launch) (D : va_G) (cI cZ cJ : ClassId) (sz : Nat) (q q_now q_diary q_turned q_script q_readRow q_trial q_kept q_isKept q_sums q_primes : Nat) (u_refusal : Int32) (u_scriptSize : Int32) (u_spot : Int32) (u_acts : Int32) (u_slides : Int32) (u_now : Nat → Int32) (u_diary : Nat → Int32) (u_turned : Nat → Int32) (r : Int32) (u_refusal' : Int32) (u_acts' : Int32) (u_now' : Nat → Int32) (u_diary' : Nat → Int32) (u_turned' : Nat → Int32) (hf : pX10_exchange u_refusal u_acts u_now u_diary u_turned = some (r, u_refusal', u_acts', u_now', u_diary', u_turned')) : kMet l D cI cZ cJ yX10_exchange wsX10_exchange 3 70 [.ref q] [(q, .inr (9, [.int u_refusal, .ref q_script, .int u_scriptSize, .int u_spot, .ref q_readRow, .ref q_now, .ref q_trial, .ref q_diary, .int u_acts, .ref q_kept, .ref q_isKept, .int u_slides, .ref q_sums, .ref q_primes, .ref q_turned])), (q_now, .inl (cI, 84, .inl u_now)), (q_diary, .inl (cI, 1176, .inl u_diary)), (q_turned, .inl (cI, 42, .inl u_turned))] sz (some (.int r)) [(q, .inr (9, [.int u_refusal', .ref q_script, .int u_scriptSize, .int u_spot, .ref q_readRow, .ref q_now, .ref q_trial, .ref q_diary, .int u_acts', .ref q_kept, .ref q_isKept, .int u_slides, .ref q_sums, .ref q_primes, .ref q_turned])), (q_now, .inl (cI, 84, .inl u_now')), (q_diary, .inl (cI, 1176, .inl u_diary')), (q_turned, .inl (cI, 42, .inl u_turned'))] := by
  refine kM_of (cc := cX10_exchange) (maxL := 1) (ret := (some .int)) (by decide) rfl (Nat.le_of_ble_eq_true rfl) ?_
  intro p e s m args below meth c A Q ls hQ C hlocks hr hE hW hl
  have hx := C.1
  have hb := C.2.1
  have hts := C.2.2.2.2
  have hl : lv_has ls 1 [(0, .ref q)] := hl
  have iX10 : ∀ w ∈ u_ws RX10 TX10 15, w ∈ wsX10_exchange := by decide +kernel
  have f16 := hts (.fieldLink RX10 16 "SortedTablesModel" "now" "[I") (by decide +kernel)
  have f38 := hts (.fieldLink RX10 38 "SortedTablesModel" "turned" "[I") (by decide +kernel)
  have f41 := hts (.fieldLink RX10 41 "SortedTablesModel" "refusal" "I") (by decide +kernel)
  unfold pX10_exchange at hf
  refine lv_aload_n hx hb dX10_exchange_0 rfl (lv_at hl 0 rfl) ?_
  refine lv_iconst (v := 0) hx hb dX10_exchange_1 (by decide) ?_
  refine k_put (v := .int 0) (ty := .int) (ws' := [(q, .inr (9, [.int 0, .ref q_script, .int u_scriptSize, .int u_spot, .ref q_readRow, .ref q_now, .ref q_trial, .ref q_diary, .int u_acts, .ref q_kept, .ref q_isKept, .int u_slides, .ref q_sums, .ref q_primes, .ref q_turned])), (q_now, .inl (cI, 84, .inl u_now)), (q_diary, .inl (cI, 1176, .inl u_diary)), (q_turned, .inl (cI, 42, .inl u_turned))]) C hE hW iX10 tyX10_ok nmX10 0 rfl rfl 0 (by decide) f41 (fun _ h9 => h9) rfl (by decide +kernel) rfl rfl (Nat.le_of_ble_eq_true rfl) rfl dX10_exchange_2 (fun H locs hW => ?_)
  refine lv_aload_n hx hb dX10_exchange_5 rfl (lv_at hl 0 rfl) ?_
  obtain ⟨⟨w1, w2⟩, h3, hf⟩ := bd1_s hf
  replace hf := un2_s hf
  refine k_callV (b := q) (ci := 9) (qb := 0) (As := []) (n := 0) (rest := []) (st1 := []) (wr := [(q_turned, .inl (cI, 42, .inl u_turned))]) (ws' := [(q, .inr (9, [.int 0, .ref q_script, .int u_scriptSize, .int u_spot, .ref q_readRow, .ref q_now, .ref q_trial, .ref q_diary, .int w1, .ref q_kept, .ref q_isKept, .int u_slides, .ref q_sums, .ref q_primes, .ref q_turned])), (q_now, .inl (cI, 84, .inl u_now)), (q_diary, .inl (cI, 1176, .inl w2)), (q_turned, .inl (cI, 42, .inl u_turned))]) C hE hW hl.1 (kX10_note l D cI cZ cJ _ q q_now q_diary q_script q_readRow q_trial q_kept q_isKept q_sums q_primes q_turned 0 u_scriptSize u_spot u_acts u_slides u_now u_diary w1 w2 h3) gX10_exchange_X10_note rfl (by decide +kernel) rfl ⟨Nat.le_of_ble_eq_true rfl, Nat.le_of_ble_eq_true rfl⟩ ⟨Nat.zero_le _, Nat.zero_le _⟩ rfl rfl [0, 1, 2] [3] [1, 2, 3, 0] rfl rfl rfl rfl (by decide) rfl rfl (Nat.le_of_ble_eq_true rfl) rfl rfl dX10_exchange_6 (fun H locs hW => ?_)
  refine lv_aload_n hx hb dX10_exchange_9 rfl (lv_at hl 0 rfl) ?_
  refine k_get C hE hW iX10 0 rfl rfl 5 (by decide) f16 (fun _ h9 => h9) rfl dX10_exchange_10 ?_
  refine lv_iconst (v := 0) hx hb dX10_exchange_13 (by decide) ?_
  refine lv_aload_n hx hb dX10_exchange_14 rfl (lv_at hl 0 rfl) ?_
  refine k_get C hE hW iX10 0 rfl rfl 14 (by decide) f38 (fun _ h9 => h9) rfl dX10_exchange_15 ?_
  refine lv_iconst (v := 0) hx hb dX10_exchange_18 (by decide) ?_
  refine lv_bipush (v := 42) hx hb dX10_exchange_19 (by decide) ?_
  obtain ⟨w4, h5, hf⟩ := bd1_s hf
  refine k_callS (As := [.ref q_now, .int 0, .ref q_turned, .int 0, .int 42]) (n := 5) (rest := []) (st1 := []) (wr := [(q, .inr (9, [.int 0, .ref q_script, .int u_scriptSize, .int u_spot, .ref q_readRow, .ref q_now, .ref q_trial, .ref q_diary, .int w1, .ref q_kept, .ref q_isKept, .int u_slides, .ref q_sums, .ref q_primes, .ref q_turned])), (q_diary, .inl (cI, 1176, .inl w2))]) (ws' := [(q, .inr (9, [.int 0, .ref q_script, .int u_scriptSize, .int u_spot, .ref q_readRow, .ref q_now, .ref q_trial, .ref q_diary, .int w1, .ref q_kept, .ref q_isKept, .int u_slides, .ref q_sums, .ref q_primes, .ref q_turned])), (q_now, .inl (cI, 84, .inl u_now)), (q_diary, .inl (cI, 1176, .inl w2)), (q_turned, .inl (cI, 42, .inl w4))]) C hE hW hl.1 (kX10_copy l D cI cZ cJ _ q_now q_turned 84 42 u_now u_turned 0 0 42 w4 h5) gX10_exchange_X10_copy rfl (by decide +kernel) rfl ⟨Nat.le_of_ble_eq_true rfl, Nat.le_of_ble_eq_true rfl⟩ ⟨Nat.zero_le _, Nat.zero_le _⟩ [1, 3] [0, 2] [0, 2, 1, 3] rfl rfl rfl rfl (by decide) rfl rfl (Nat.le_of_ble_eq_true rfl) rfl rfl dX10_exchange_21 (fun H locs hW => ?_)
  refine lv_aload_n hx hb dX10_exchange_24 rfl (lv_at hl 0 rfl) ?_
  refine k_get C hE hW iX10 0 rfl rfl 5 (by decide) f16 (fun _ h9 => h9) rfl dX10_exchange_25 ?_
  refine lv_bipush (v := 42) hx hb dX10_exchange_28 (by decide) ?_
  refine lv_aload_n hx hb dX10_exchange_30 rfl (lv_at hl 0 rfl) ?_
  refine k_get C hE hW iX10 0 rfl rfl 5 (by decide) f16 (fun _ h9 => h9) rfl dX10_exchange_31 ?_
  refine lv_iconst (v := 0) hx hb dX10_exchange_34 (by decide) ?_
  refine lv_bipush (v := 42) hx hb dX10_exchange_35 (by decide) ?_
  obtain ⟨w6, h7, hf⟩ := bd1_s hf
  refine k_callS (As := [.ref q_now, .int 42, .ref q_now, .int 0, .int 42]) (n := 5) (rest := []) (st1 := []) (wr := [(q, .inr (9, [.int 0, .ref q_script, .int u_scriptSize, .int u_spot, .ref q_readRow, .ref q_now, .ref q_trial, .ref q_diary, .int w1, .ref q_kept, .ref q_isKept, .int u_slides, .ref q_sums, .ref q_primes, .ref q_turned])), (q_diary, .inl (cI, 1176, .inl w2)), (q_turned, .inl (cI, 42, .inl w4))]) (ws' := [(q, .inr (9, [.int 0, .ref q_script, .int u_scriptSize, .int u_spot, .ref q_readRow, .ref q_now, .ref q_trial, .ref q_diary, .int w1, .ref q_kept, .ref q_isKept, .int u_slides, .ref q_sums, .ref q_primes, .ref q_turned])), (q_now, .inl (cI, 84, .inl w6)), (q_diary, .inl (cI, 1176, .inl w2)), (q_turned, .inl (cI, 42, .inl w4))]) C hE hW hl.1 (kX10_copy_s l D cI cZ cJ _ q_now 84 u_now 42 0 42 w6 h7) gX10_exchange_X10_copy rfl (by decide +kernel) rfl ⟨Nat.le_of_ble_eq_true rfl, Nat.le_of_ble_eq_true rfl⟩ ⟨Nat.zero_le _, Nat.zero_le _⟩ [1] [0, 2, 3] [0, 3, 1, 2] rfl rfl rfl rfl (by decide) rfl rfl (Nat.le_of_ble_eq_true rfl) rfl rfl dX10_exchange_37 (fun H locs hW => ?_)
  refine lv_aload_n hx hb dX10_exchange_40 rfl (lv_at hl 0 rfl) ?_
  refine k_get C hE hW iX10 0 rfl rfl 14 (by decide) f38 (fun _ h9 => h9) rfl dX10_exchange_41 ?_
  refine lv_iconst (v := 0) hx hb dX10_exchange_44 (by decide) ?_
  refine lv_aload_n hx hb dX10_exchange_45 rfl (lv_at hl 0 rfl) ?_
  refine k_get C hE hW iX10 0 rfl rfl 5 (by decide) f16 (fun _ h9 => h9) rfl dX10_exchange_46 ?_
  refine lv_bipush (v := 42) hx hb dX10_exchange_49 (by decide) ?_
  refine lv_bipush (v := 42) hx hb dX10_exchange_51 (by decide) ?_
  obtain ⟨w8, h9, hf⟩ := bd1_s hf
  refine k_callS (As := [.ref q_turned, .int 0, .ref q_now, .int 42, .int 42]) (n := 5) (rest := []) (st1 := []) (wr := [(q, .inr (9, [.int 0, .ref q_script, .int u_scriptSize, .int u_spot, .ref q_readRow, .ref q_now, .ref q_trial, .ref q_diary, .int w1, .ref q_kept, .ref q_isKept, .int u_slides, .ref q_sums, .ref q_primes, .ref q_turned])), (q_diary, .inl (cI, 1176, .inl w2))]) (ws' := [(q, .inr (9, [.int 0, .ref q_script, .int u_scriptSize, .int u_spot, .ref q_readRow, .ref q_now, .ref q_trial, .ref q_diary, .int w1, .ref q_kept, .ref q_isKept, .int u_slides, .ref q_sums, .ref q_primes, .ref q_turned])), (q_now, .inl (cI, 84, .inl w8)), (q_diary, .inl (cI, 1176, .inl w2)), (q_turned, .inl (cI, 42, .inl w4))]) C hE hW hl.1 (kX10_copy l D cI cZ cJ _ q_turned q_now 42 84 w4 w6 0 42 42 w8 h9) gX10_exchange_X10_copy rfl (by decide +kernel) rfl ⟨Nat.le_of_ble_eq_true rfl, Nat.le_of_ble_eq_true rfl⟩ ⟨Nat.zero_le _, Nat.zero_le _⟩ [3, 1] [0, 2] [0, 3, 1, 2] rfl rfl rfl rfl (by decide) rfl rfl (Nat.le_of_ble_eq_true rfl) rfl rfl dX10_exchange_53 (fun H locs hW => ?_)
  refine lv_aload_n hx hb dX10_exchange_56 rfl (lv_at hl 0 rfl) ?_
  refine k_get C hE hW iX10 0 rfl rfl 5 (by decide) f16 (fun _ h9 => h9) rfl dX10_exchange_57 ?_
  refine lv_iconst (v := 0) hx hb dX10_exchange_60 (by decide) ?_
  obtain ⟨v10, h11, hf⟩ := bd1_s hf
  refine k_callSR (As := [.ref q_now, .int 0]) (n := 2) (rest := []) (st1 := [.int v10]) C hE hW hl.1 (kX10_many l D cI cZ cJ _ q_now w8 0 v10 h11) gX10_exchange_X10_many rfl (by decide +kernel) rfl ⟨Nat.le_of_ble_eq_true rfl, Nat.le_of_ble_eq_true rfl⟩ ⟨Nat.zero_le _, Nat.zero_le _⟩ [1] rfl rfl (Nat.le_of_ble_eq_true rfl) rfl rfl dX10_exchange_61 (fun H locs hW => ?_)
  obtain ⟨rfl, rfl, rfl, rfl, rfl, rfl⟩ := sm6 hf
  exact k_iret C hlocks hr hW hQ dX10_exchange_64

set_option maxHeartbeats 4000000 in
set_option maxRecDepth 100000 in
theorem kX10_undo (l : Launch) (D : va_G) (cI cZ cJ : ClassId) (sz : Nat) (q q_now q_diary q_script q_readRow q_trial q_kept q_isKept q_sums q_primes q_turned : Nat) (u_refusal : Int32) (u_scriptSize : Int32) (u_spot : Int32) (u_acts : Int32) (u_slides : Int32) (u_now : Nat → Int32) (u_diary : Nat → Int32) (r : Int32) (u_refusal' : Int32) (u_acts' : Int32) (u_now' : Nat → Int32) (hf : pX10_undo u_refusal u_acts u_now u_diary = some (r, u_refusal', u_acts', u_now')) : kMet l D cI cZ cJ yX10_undo wsX10_undo 1 25 [.ref q] [(q, .inr (9, [.int u_refusal, .ref q_script, .int u_scriptSize, .int u_spot, .ref q_readRow, .ref q_now, .ref q_trial, .ref q_diary, .int u_acts, .ref q_kept, .ref q_isKept, .int u_slides, .ref q_sums, .ref q_primes, .ref q_turned])), (q_now, .inl (cI, 84, .inl u_now)), (q_diary, .inl (cI, 1176, .inl u_diary))] sz (some (.int r)) [(q, .inr (9, [.int u_refusal', .ref q_script, .int u_scriptSize, .int u_spot, .ref q_readRow, .ref q_now, .ref q_trial, .ref q_diary, .int u_acts', .ref q_kept, .ref q_isKept, .int u_slides, .ref q_sums, .ref q_primes, .ref q_turned])), (q_now, .inl (cI, 84, .inl u_now')), (q_diary, .inl (cI, 1176, .inl u_diary))] := by
  refine kM_of (cc := cX10_undo) (maxL := 1) (ret := (some .int)) (by decide) rfl (Nat.le_of_ble_eq_true rfl) ?_
  intro p e s m args below meth c A Q ls hQ C hlocks hr hE hW hl
  have hx := C.1
  have hb := C.2.1
  have hts := C.2.2.2.2
  have hl : lv_has ls 1 [(0, .ref q)] := hl
  have iX10 : ∀ w ∈ u_ws RX10 TX10 15, w ∈ wsX10_undo := by decide +kernel
  have f16 := hts (.fieldLink RX10 16 "SortedTablesModel" "now" "[I") (by decide +kernel)
  have f22 := hts (.fieldLink RX10 22 "SortedTablesModel" "diary" "[I") (by decide +kernel)
  have f47 := hts (.fieldLink RX10 47 "SortedTablesModel" "acts" "I") (by decide +kernel)
  unfold pX10_undo at hf
  refine lv_aload_n hx hb dX10_undo_0 rfl (lv_at hl 0 rfl) ?_
  refine lv_aload_n hx hb dX10_undo_1 rfl (lv_at hl 0 rfl) ?_
  refine k_get C hE hW iX10 0 rfl rfl 8 (by decide) f47 (fun _ h9 => h9) rfl dX10_undo_2 ?_
  obtain ⟨j1, hd2, hf⟩ := bd1_s hf
  have J3 : ∀ (H : Heap) (locs : List Loc) (ls : Array Slot), kH D A s H locs [(q, .inr (9, [.int u_refusal, .ref q_script, .int u_scriptSize, .int u_spot, .ref q_readRow, .ref q_now, .ref q_trial, .ref q_diary, .int u_acts, .ref q_kept, .ref q_isKept, .int u_slides, .ref q_sums, .ref q_primes, .ref q_turned])), (q_now, .inl (cI, 84, .inl u_now)), (q_diary, .inl (cI, 1176, .inl u_diary))] → lv_has ls 1 [(0, .ref q)] → W p l e (kRm 1 25 0 0) s m args below meth c H locs 0 0 Q (F0 m 13 ls [.int j1, .ref q]) := by
    intro H locs ls hW hl
    obtain ⟨⟨v4, w5⟩, h6, hf⟩ := bd1_s hf
    replace hf := un2_s hf
    refine k_callV (b := q) (ci := 9) (qb := 0) (As := [.int j1]) (n := 1) (rest := []) (st1 := [.int v4]) (wr := [(q_now, .inl (cI, 84, .inl u_now)), (q_diary, .inl (cI, 1176, .inl u_diary))]) (ws' := [(q, .inr (9, [.int w5, .ref q_script, .int u_scriptSize, .int u_spot, .ref q_readRow, .ref q_now, .ref q_trial, .ref q_diary, .int u_acts, .ref q_kept, .ref q_isKept, .int u_slides, .ref q_sums, .ref q_primes, .ref q_turned])), (q_now, .inl (cI, 84, .inl u_now)), (q_diary, .inl (cI, 1176, .inl u_diary))]) C hE hW hl.1 (kX10_refused l D cI cZ cJ _ q q_script q_readRow q_now q_trial q_diary q_kept q_isKept q_sums q_primes q_turned u_refusal u_scriptSize u_spot u_acts u_slides j1 v4 w5 h6) gX10_undo_X10_refused rfl (by decide +kernel) rfl ⟨Nat.le_of_ble_eq_true rfl, Nat.le_of_ble_eq_true rfl⟩ ⟨Nat.zero_le _, Nat.zero_le _⟩ rfl rfl [0] [1, 2] [2, 0, 1] rfl rfl rfl rfl (by decide) rfl rfl (Nat.le_of_ble_eq_true rfl) rfl rfl dX10_undo_13 (fun H locs hW => ?_)
    refine lv_if_eq (tgt := 21) hx hb dX10_undo_16 (by decide) (fun hc => ?_) (fun hc => ?_)
    · replace hf := if_t hc hf
      refine lv_aload_n hx hb dX10_undo_21 rfl (lv_at hl 0 rfl) ?_
      refine lv_dup hx hb dX10_undo_22 rfl ?_
      refine k_get C hE hW iX10 0 rfl rfl 8 (by decide) f47 (fun _ h9 => h9) rfl dX10_undo_23 ?_
      refine lv_iconst (v := 1) hx hb dX10_undo_26 (by decide) ?_
      refine lv_isub hx hb dX10_undo_27 ?_
      refine k_put (v := .int (u_acts - 1)) (ty := .int) (ws' := [(q, .inr (9, [.int w5, .ref q_script, .int u_scriptSize, .int u_spot, .ref q_readRow, .ref q_now, .ref q_trial, .ref q_diary, .int (u_acts - 1), .ref q_kept, .ref q_isKept, .int u_slides, .ref q_sums, .ref q_primes, .ref q_turned])), (q_now, .inl (cI, 84, .inl u_now)), (q_diary, .inl (cI, 1176, .inl u_diary))]) C hE hW iX10 tyX10_ok nmX10 0 rfl rfl 8 (by decide) f47 (fun _ h9 => h9) rfl (by decide +kernel) rfl rfl (Nat.le_of_ble_eq_true rfl) rfl dX10_undo_28 (fun H locs hW => ?_)
      refine lv_aload_n hx hb dX10_undo_31 rfl (lv_at hl 0 rfl) ?_
      refine k_get C hE hW iX10 0 rfl rfl 7 (by decide) f22 (fun _ h9 => h9) rfl dX10_undo_32 ?_
      refine lv_bipush (v := 84) hx hb dX10_undo_35 (by decide) ?_
      refine lv_aload_n hx hb dX10_undo_37 rfl (lv_at hl 0 rfl) ?_
      refine k_get C hE hW iX10 0 rfl rfl 8 (by decide) f47 (fun _ h9 => h9) rfl dX10_undo_38 ?_
      refine lv_imul hx hb dX10_undo_41 ?_
      refine lv_aload_n hx hb dX10_undo_42 rfl (lv_at hl 0 rfl) ?_
      refine k_get C hE hW iX10 0 rfl rfl 5 (by decide) f16 (fun _ h9 => h9) rfl dX10_undo_43 ?_
      refine lv_iconst (v := 0) hx hb dX10_undo_46 (by decide) ?_
      refine lv_bipush (v := 84) hx hb dX10_undo_47 (by decide) ?_
      obtain ⟨w7, h8, hf⟩ := bd1_s hf
      refine k_callS (As := [.ref q_diary, .int (84 * (u_acts - 1)), .ref q_now, .int 0, .int 84]) (n := 5) (rest := []) (st1 := []) (wr := [(q, .inr (9, [.int w5, .ref q_script, .int u_scriptSize, .int u_spot, .ref q_readRow, .ref q_now, .ref q_trial, .ref q_diary, .int (u_acts - 1), .ref q_kept, .ref q_isKept, .int u_slides, .ref q_sums, .ref q_primes, .ref q_turned]))]) (ws' := [(q, .inr (9, [.int w5, .ref q_script, .int u_scriptSize, .int u_spot, .ref q_readRow, .ref q_now, .ref q_trial, .ref q_diary, .int (u_acts - 1), .ref q_kept, .ref q_isKept, .int u_slides, .ref q_sums, .ref q_primes, .ref q_turned])), (q_now, .inl (cI, 84, .inl w7)), (q_diary, .inl (cI, 1176, .inl u_diary))]) C hE hW hl.1 (kX10_copy l D cI cZ cJ _ q_diary q_now 1176 84 u_diary u_now (84 * (u_acts - 1)) 0 84 w7 h8) gX10_undo_X10_copy rfl (by decide +kernel) rfl ⟨Nat.le_of_ble_eq_true rfl, Nat.le_of_ble_eq_true rfl⟩ ⟨Nat.zero_le _, Nat.zero_le _⟩ [2, 1] [0] [0, 2, 1] rfl rfl rfl rfl (by decide) rfl rfl (Nat.le_of_ble_eq_true rfl) rfl rfl dX10_undo_49 (fun H locs hW => ?_)
      refine lv_aload_n hx hb dX10_undo_52 rfl (lv_at hl 0 rfl) ?_
      refine k_get C hE hW iX10 0 rfl rfl 8 (by decide) f47 (fun _ h9 => h9) rfl dX10_undo_53 ?_
      obtain ⟨rfl, rfl, rfl, rfl⟩ := sm4 hf
      exact k_iret C hlocks hr hW hQ dX10_undo_56
    · replace hf := if_f hc hf
      refine lv_iconst (v := 0) hx hb dX10_undo_19 (by decide) ?_
      obtain ⟨rfl, rfl, rfl, rfl⟩ := sm4 hf
      exact k_iret C hlocks hr hW hQ dX10_undo_20
  refine lv_if_ne (tgt := 12) hx hb dX10_undo_5 (by decide) (fun hc => ?_) (fun hc => ?_)
  · replace hd2 := if_f hc hd2
    refine lv_iconst (v := 0) hx hb dX10_undo_12 (by decide) ?_
    obtain rfl := Option.some.inj hd2
    exact J3 _ _ _ hW (lv_sub hl [0] rfl)
  · replace hd2 := if_t hc hd2
    refine lv_iconst (v := 1) hx hb dX10_undo_8 (by decide) ?_
    refine lv_goto (tgt := 13) hx hb dX10_undo_9 (by decide) ?_
    obtain rfl := Option.some.inj hd2
    exact J3 _ _ _ hW (lv_sub hl [0] rfl)

set_option maxHeartbeats 4000000 in
set_option maxRecDepth 100000 in
theorem kX10_countIn (l : Launch) (D : va_G) (cI cZ cJ : ClassId) (sz : Nat) (r0 : Nat) (u0 : Nat → Int32) (p1 : Int32) (p2 : Int32) (p3 : Int32) (p4 : Int32) (p5 : Int32) (p6 : Int32) (r : Int32) (hf : pX10_countIn u0 p1 p2 p3 p4 p5 p6 = some r) : kMet l D cI cZ cJ yX10_countIn wsX10_countIn 2 47 [.ref r0, .int p1, .int p2, .int p3, .int p4, .int p5, .int p6] [(r0, .inl (cI, 84, .inl u0))] sz (some (.int r)) [(r0, .inl (cI, 84, .inl u0))] := by
  refine kM_of (cc := cX10_countIn) (maxL := 10) (ret := (some .int)) (by decide) rfl (Nat.le_of_ble_eq_true rfl) ?_
  intro p e s m args below meth c A Q ls hQ C hlocks hr hE hW hl
  have hx := C.1
  have hb := C.2.1
  have hts := C.2.2.2.2
  have hl : lv_has ls 10 [(0, .ref r0), (1, .int p1), (2, .int p2), (3, .int p3), (4, .int p4), (5, .int p5), (6, .int p6)] := hl
  unfold pX10_countIn at hf
  refine lv_iconst (v := 0) hx hb dX10_countIn_0 (by decide) ?_
  refine lv_istore (lv' := [(7, .int 0), (0, .ref r0), (1, .int p1), (2, .int p2), (3, .int p3), (4, .int p4), (5, .int p5), (6, .int p6)]) hx hb dX10_countIn_1 hl (by decide) rfl (fun ls hl => ?_)
  refine lv_iload_n hx hb dX10_countIn_3 rfl (lv_at hl 3 rfl) ?_
  refine lv_istore (lv' := [(8, .int p2), (7, .int 0), (0, .ref r0), (1, .int p1), (2, .int p2), (3, .int p3), (4, .int p4), (5, .int p5), (6, .int p6)]) hx hb dX10_countIn_4 hl (by decide) rfl (fun ls hl => ?_)
  obtain ⟨x3, hx50, hf⟩ := bd1_s hf
  have J6 : ∀ (H : Heap) (locs : List Loc) (ls : Array Slot), kH D A s H locs [(r0, .inl (cI, 84, .inl u0))] → lv_has ls 10 [(7, .int x3)] → W p l e (kRm 2 47 0 0) s m args below meth c H locs 0 0 Q (F0 m 82 ls []) := by
    intro H locs ls hW hl
    refine lv_iload hx hb dX10_countIn_82 (lv_at hl 0 rfl) ?_
    obtain rfl := Option.some.inj hf
    exact k_iret C hlocks hr hW hQ dX10_countIn_84
  have L7 : ∀ (n : Nat) (i1 : Int32) (i2 : Int32), lpI n (un2 (pX10_countIn_L6 u0 p1 p2 p3 p4 p5 p6)) (i1, i2) = some x3 → ∀ (H : Heap) (locs : List Loc) (ls : Array Slot), kH D A s H locs [(r0, .inl (cI, 84, .inl u0))] → lv_has ls 10 [(8, .int i1), (7, .int i2), (0, .ref r0), (1, .int p1), (2, .int p2), (3, .int p3), (4, .int p4), (5, .int p5), (6, .int p6)] → W p l e (kRm 2 47 0 0) s m args below meth c H locs 0 0 Q (F0 m 6 ls []) := by
    intro n
    induction n with
    | zero => intro i1 i2 hx5; exact (lpI_0 hx5).elim
    | succ n ih9 =>
      intro i1 i2 hx5 H locs ls hW hl
      obtain ⟨ooho4, ho4, hx5⟩ := lpI_s hx5
      replace ho4 := un2_s ho4
      unfold pX10_countIn_L6 at ho4
      refine lv_iload hx hb dX10_countIn_6 (lv_at hl 0 rfl) ?_
      refine lv_bipush (v := 6) hx hb dX10_countIn_8 (by decide) ?_
      refine lv_icmp_ge (tgt := 82) hx hb dX10_countIn_10 (by decide) (fun hc => ?_) (fun hc => ?_)
      · replace ho4 := if_t hc ho4
        obtain rfl := Option.some.inj ho4
        obtain rfl := lpK_r hx5
        exact J6 _ _ _ hW (lv_sub hl [1] rfl)
      · replace ho4 := if_f hc ho4
        refine lv_iload hx hb dX10_countIn_13 (lv_at hl 0 rfl) ?_
        refine lv_iload_n hx hb dX10_countIn_15 rfl (lv_at hl 4 rfl) ?_
        refine lv_iload hx hb dX10_countIn_16 (lv_at hl 6 rfl) ?_
        refine lv_iadd hx hb dX10_countIn_18 ?_
        refine lv_icmp_ge (tgt := 82) hx hb dX10_countIn_19 (by decide) (fun hc => ?_) (fun hc => ?_)
        · replace ho4 := if_t hc ho4
          obtain rfl := Option.some.inj ho4
          obtain rfl := lpK_r hx5
          exact J6 _ _ _ hW (lv_sub hl [1] rfl)
        · replace ho4 := if_f hc ho4
          refine lv_iload_n hx hb dX10_countIn_22 rfl (lv_at hl 5 rfl) ?_
          refine lv_istore (lv' := [(9, .int p3), (8, .int i1), (7, .int i2), (0, .ref r0), (1, .int p1), (2, .int p2), (3, .int p3), (4, .int p4), (5, .int p5), (6, .int p6)]) hx hb dX10_countIn_23 hl (by decide) rfl (fun ls hl => ?_)
          obtain ⟨x12, hx140, ho4⟩ := bd1_s ho4
          have J15 : ∀ (H : Heap) (locs : List Loc) (ls : Array Slot), kH D A s H locs [(r0, .inl (cI, 84, .inl u0))] → lv_has ls 10 [(8, .int i1), (7, .int x12), (0, .ref r0), (1, .int p1), (2, .int p2), (3, .int p3), (4, .int p4), (5, .int p5), (6, .int p6)] → W p l e (kRm 2 47 0 0) s m args below meth c H locs 0 0 Q (F0 m 76 ls []) := by
            intro H locs ls hW hl
            refine lv_iinc (v := (i1 + 1)) (lv' := [(8, .int (i1 + 1)), (7, .int x12), (0, .ref r0), (1, .int p1), (2, .int p2), (3, .int p3), (4, .int p4), (5, .int p5), (6, .int p6)]) hx hb dX10_countIn_76 hl (k := 0) rfl rfl (by decide) rfl (fun ls hl => ?_)
            refine lv_goto (tgt := 6) hx hb dX10_countIn_79 (by decide) ?_
            obtain rfl := Option.some.inj ho4
            exact ih9 _ _ hx5 _ _ _ hW (lv_sub hl [0, 1, 2, 3, 4, 5, 6, 7, 8] rfl)
          have L16 : ∀ (n : Nat) (i10 : Int32) (i11 : Int32), lpI n (un2 (pX10_countIn_L25 u0 p1 p3 p5 p6 i1)) (i10, i11) = some x12 → ∀ (H : Heap) (locs : List Loc) (ls : Array Slot), kH D A s H locs [(r0, .inl (cI, 84, .inl u0))] → lv_has ls 10 [(9, .int i10), (8, .int i1), (7, .int i11), (0, .ref r0), (1, .int p1), (2, .int p2), (3, .int p3), (4, .int p4), (5, .int p5), (6, .int p6)] → W p l e (kRm 2 47 0 0) s m args below meth c H locs 0 0 Q (F0 m 25 ls []) := by
            intro n
            induction n with
            | zero => intro i10 i11 hx14; exact (lpI_0 hx14).elim
            | succ n ih18 =>
              intro i10 i11 hx14 H locs ls hW hl
              obtain ⟨ooho13, ho13, hx14⟩ := lpI_s hx14
              replace ho13 := un2_s ho13
              unfold pX10_countIn_L25 at ho13
              refine lv_iload hx hb dX10_countIn_25 (lv_at hl 0 rfl) ?_
              refine lv_aload_n hx hb dX10_countIn_27 rfl (lv_at hl 3 rfl) ?_
              refine lv_iload_n hx hb dX10_countIn_28 rfl (lv_at hl 4 rfl) ?_
              refine lv_iload hx hb dX10_countIn_29 (lv_at hl 1 rfl) ?_
              obtain ⟨v19, h20, ho13⟩ := bd1_s ho13
              refine k_callSR (As := [.ref r0, .int p1, .int i1]) (n := 3) (rest := [.int i10]) (st1 := [.int v19, .int i10]) C hE hW hl.1 (kX10_length l D cI cZ cJ _ r0 u0 p1 i1 v19 h20) gX10_countIn_X10_length rfl (by decide +kernel) rfl ⟨Nat.le_of_ble_eq_true rfl, Nat.le_of_ble_eq_true rfl⟩ ⟨Nat.zero_le _, Nat.zero_le _⟩ [0] rfl rfl (Nat.le_of_ble_eq_true rfl) rfl rfl dX10_countIn_31 (fun H locs hW => ?_)
              refine lv_icmp_ge (tgt := 76) hx hb dX10_countIn_34 (by decide) (fun hc => ?_) (fun hc => ?_)
              · replace ho13 := if_t hc ho13
                obtain rfl := Option.some.inj ho13
                obtain rfl := lpK_r hx14
                exact J15 _ _ _ hW (lv_sub hl [1, 2, 3, 4, 5, 6, 7, 8, 9] rfl)
              · replace ho13 := if_f hc ho13
                refine lv_iload hx hb dX10_countIn_37 (lv_at hl 0 rfl) ?_
                refine lv_iload_n hx hb dX10_countIn_39 rfl (lv_at hl 6 rfl) ?_
                refine lv_iload hx hb dX10_countIn_40 (lv_at hl 8 rfl) ?_
                refine lv_iadd hx hb dX10_countIn_42 ?_
                refine lv_icmp_ge (tgt := 76) hx hb dX10_countIn_43 (by decide) (fun hc => ?_) (fun hc => ?_)
                · replace ho13 := if_t hc ho13
                  obtain rfl := Option.some.inj ho13
                  obtain rfl := lpK_r hx14
                  exact J15 _ _ _ hW (lv_sub hl [1, 2, 3, 4, 5, 6, 7, 8, 9] rfl)
                · replace ho13 := if_f hc ho13
                  refine lv_iload hx hb dX10_countIn_46 (lv_at hl 2 rfl) ?_
                  refine lv_aload_n hx hb dX10_countIn_48 rfl (lv_at hl 3 rfl) ?_
                  refine lv_iload_n hx hb dX10_countIn_49 rfl (lv_at hl 4 rfl) ?_
                  refine lv_iload hx hb dX10_countIn_50 (lv_at hl 1 rfl) ?_
                  refine lv_iload hx hb dX10_countIn_52 (lv_at hl 0 rfl) ?_
                  obtain ⟨v21, h22, ho13⟩ := bd1_s ho13
                  refine k_callSR (As := [.ref r0, .int p1, .int i1, .int i10]) (n := 4) (rest := [.int i11]) (st1 := [.int v21, .int i11]) C hE hW hl.1 (kX10_get l D cI cZ cJ _ r0 u0 p1 i1 i10 v21 h22) gX10_countIn_X10_get rfl (by decide +kernel) rfl ⟨Nat.le_of_ble_eq_true rfl, Nat.le_of_ble_eq_true rfl⟩ ⟨Nat.zero_le _, Nat.zero_le _⟩ [0] rfl rfl (Nat.le_of_ble_eq_true rfl) rfl rfl dX10_countIn_54 (fun H locs hW => ?_)
                  refine lv_iload hx hb dX10_countIn_57 (lv_at hl 9 rfl) ?_
                  refine lv_icmp_gt (tgt := 66) hx hb dX10_countIn_59 (by decide) (fun hc => ?_) (fun hc => ?_)
                  · replace ho13 := if_t hc ho13
                    refine lv_iconst (v := 0) hx hb dX10_countIn_66 (by decide) ?_
                    refine lv_iadd hx hb dX10_countIn_67 ?_
                    refine lv_istore (lv' := [(7, .int (i11 + 0)), (9, .int i10), (8, .int i1), (0, .ref r0), (1, .int p1), (2, .int p2), (3, .int p3), (4, .int p4), (5, .int p5), (6, .int p6)]) hx hb dX10_countIn_68 hl (by decide) rfl (fun ls hl => ?_)
                    refine lv_iinc (v := (i10 + 1)) (lv' := [(9, .int (i10 + 1)), (7, .int (i11 + 0)), (8, .int i1), (0, .ref r0), (1, .int p1), (2, .int p2), (3, .int p3), (4, .int p4), (5, .int p5), (6, .int p6)]) hx hb dX10_countIn_70 hl (k := 1) rfl rfl (by decide) rfl (fun ls hl => ?_)
                    refine lv_goto (tgt := 25) hx hb dX10_countIn_73 (by decide) ?_
                    obtain rfl := Option.some.inj ho13
                    exact ih18 _ _ hx14 _ _ _ hW (lv_sub hl [0, 2, 1, 3, 4, 5, 6, 7, 8, 9] rfl)
                  · replace ho13 := if_f hc ho13
                    refine lv_iconst (v := 1) hx hb dX10_countIn_62 (by decide) ?_
                    refine lv_goto (tgt := 67) hx hb dX10_countIn_63 (by decide) ?_
                    refine lv_iadd hx hb dX10_countIn_67 ?_
                    refine lv_istore (lv' := [(7, .int (i11 + 1)), (9, .int i10), (8, .int i1), (0, .ref r0), (1, .int p1), (2, .int p2), (3, .int p3), (4, .int p4), (5, .int p5), (6, .int p6)]) hx hb dX10_countIn_68 hl (by decide) rfl (fun ls hl => ?_)
                    refine lv_iinc (v := (i10 + 1)) (lv' := [(9, .int (i10 + 1)), (7, .int (i11 + 1)), (8, .int i1), (0, .ref r0), (1, .int p1), (2, .int p2), (3, .int p3), (4, .int p4), (5, .int p5), (6, .int p6)]) hx hb dX10_countIn_70 hl (k := 1) rfl rfl (by decide) rfl (fun ls hl => ?_)
                    refine lv_goto (tgt := 25) hx hb dX10_countIn_73 (by decide) ?_
                    obtain rfl := Option.some.inj ho13
                    exact ih18 _ _ hx14 _ _ _ hW (lv_sub hl [0, 2, 1, 3, 4, 5, 6, 7, 8, 9] rfl)
          exact L16 lpF _ _ hx140 _ _ _ hW (lv_sub hl [0, 1, 2, 3, 4, 5, 6, 7, 8, 9] rfl)
  exact L7 lpF _ _ hx50 _ _ _ hW (lv_sub hl [0, 1, 2, 3, 4, 5, 6, 7, 8] rfl)

set_option maxHeartbeats 4000000 in
set_option maxRecDepth 100000 in
theorem kX10_count (l : Launch) (D : va_G) (cI cZ cJ : ClassId) (sz : Nat) (q q_now q_script q_readRow q_trial q_diary q_kept q_isKept q_sums q_primes q_turned : Nat) (u_refusal : Int32) (u_scriptSize : Int32) (u_spot : Int32) (u_acts : Int32) (u_slides : Int32) (u_now : Nat → Int32) (p0 : Int32) (p1 : Int32) (r : Int32) (u_refusal' : Int32) (hf : pX10_count u_refusal u_now p0 p1 = some (r, u_refusal')) : kMet l D cI cZ cJ yX10_count wsX10_count 3 76 [.ref q, .int p0, .int p1] [(q, .inr (9, [.int u_refusal, .ref q_script, .int u_scriptSize, .int u_spot, .ref q_readRow, .ref q_now, .ref q_trial, .ref q_diary, .int u_acts, .ref q_kept, .ref q_isKept, .int u_slides, .ref q_sums, .ref q_primes, .ref q_turned])), (q_now, .inl (cI, 84, .inl u_now))] sz (some (.int r)) [(q, .inr (9, [.int u_refusal', .ref q_script, .int u_scriptSize, .int u_spot, .ref q_readRow, .ref q_now, .ref q_trial, .ref q_diary, .int u_acts, .ref q_kept, .ref q_isKept, .int u_slides, .ref q_sums, .ref q_primes, .ref q_turned])), (q_now, .inl (cI, 84, .inl u_now))] := by
  refine kM_of (cc := cX10_count) (maxL := 3) (ret := (some .int)) (by decide) rfl (Nat.le_of_ble_eq_true rfl) ?_
  intro p e s m args below meth c A Q ls hQ C hlocks hr hE hW hl
  have hx := C.1
  have hb := C.2.1
  have hts := C.2.2.2.2
  have hl : lv_has ls 3 [(0, .ref q), (1, .int p0), (2, .int p1)] := hl
  have iX10 : ∀ w ∈ u_ws RX10 TX10 15, w ∈ wsX10_count := by decide +kernel
  have f16 := hts (.fieldLink RX10 16 "SortedTablesModel" "now" "[I") (by decide +kernel)
  unfold pX10_count at hf
  refine lv_aload_n hx hb dX10_count_0 rfl (lv_at hl 0 rfl) ?_
  refine lv_iload_n hx hb dX10_count_1 rfl (lv_at hl 1 rfl) ?_
  obtain ⟨v1, h2, hf⟩ := bd1_s hf
  refine k_callSR (As := [.int p0]) (n := 1) (rest := [.ref q]) (st1 := [.int v1, .ref q]) C hE hW hl.1 (kX10_isTable l D cI cZ cJ _ p0 v1 h2) gX10_count_X10_isTable rfl (by decide +kernel) rfl ⟨Nat.le_of_ble_eq_true rfl, Nat.le_of_ble_eq_true rfl⟩ ⟨Nat.zero_le _, Nat.zero_le _⟩ [] rfl rfl (Nat.le_of_ble_eq_true rfl) rfl rfl dX10_count_2 (fun H locs hW => ?_)
  obtain ⟨j3, hd4, hf⟩ := bd1_s hf
  have J5 : ∀ (H : Heap) (locs : List Loc) (ls : Array Slot), kH D A s H locs [(q, .inr (9, [.int u_refusal, .ref q_script, .int u_scriptSize, .int u_spot, .ref q_readRow, .ref q_now, .ref q_trial, .ref q_diary, .int u_acts, .ref q_kept, .ref q_isKept, .int u_slides, .ref q_sums, .ref q_primes, .ref q_turned])), (q_now, .inl (cI, 84, .inl u_now))] → lv_has ls 3 [(0, .ref q), (1, .int p0), (2, .int p1)] → W p l e (kRm 3 76 0 0) s m args below meth c H locs 0 0 Q (F0 m 24 ls [.int j3, .ref q]) := by
    intro H locs ls hW hl
    obtain ⟨⟨v8, w9⟩, h10, hf⟩ := bd1_s hf
    replace hf := un2_s hf
    refine k_callV (b := q) (ci := 9) (qb := 0) (As := [.int j3]) (n := 1) (rest := []) (st1 := [.int v8]) (wr := [(q_now, .inl (cI, 84, .inl u_now))]) (ws' := [(q, .inr (9, [.int w9, .ref q_script, .int u_scriptSize, .int u_spot, .ref q_readRow, .ref q_now, .ref q_trial, .ref q_diary, .int u_acts, .ref q_kept, .ref q_isKept, .int u_slides, .ref q_sums, .ref q_primes, .ref q_turned])), (q_now, .inl (cI, 84, .inl u_now))]) C hE hW hl.1 (kX10_refused l D cI cZ cJ _ q q_script q_readRow q_now q_trial q_diary q_kept q_isKept q_sums q_primes q_turned u_refusal u_scriptSize u_spot u_acts u_slides j3 v8 w9 h10) gX10_count_X10_refused rfl (by decide +kernel) rfl ⟨Nat.le_of_ble_eq_true rfl, Nat.le_of_ble_eq_true rfl⟩ ⟨Nat.zero_le _, Nat.zero_le _⟩ rfl rfl [0] [1] [1, 0] rfl rfl rfl rfl (by decide) rfl rfl (Nat.le_of_ble_eq_true rfl) rfl rfl dX10_count_24 (fun H locs hW => ?_)
    refine lv_if_eq (tgt := 32) hx hb dX10_count_27 (by decide) (fun hc => ?_) (fun hc => ?_)
    · replace hf := if_t hc hf
      refine lv_aload_n hx hb dX10_count_32 rfl (lv_at hl 0 rfl) ?_
      refine k_get C hE hW iX10 0 rfl rfl 5 (by decide) f16 (fun _ h9 => h9) rfl dX10_count_33 ?_
      refine lv_iload_n hx hb dX10_count_36 rfl (lv_at hl 1 rfl) ?_
      refine lv_iconst (v := 0) hx hb dX10_count_37 (by decide) ?_
      refine lv_iconst (v := 0) hx hb dX10_count_38 (by decide) ?_
      refine lv_bipush (v := 6) hx hb dX10_count_39 (by decide) ?_
      refine lv_bipush (v := 6) hx hb dX10_count_41 (by decide) ?_
      refine lv_iload_n hx hb dX10_count_43 rfl (lv_at hl 2 rfl) ?_
      obtain ⟨v11, h12, hf⟩ := bd1_s hf
      refine k_callSR (As := [.ref q_now, .int p0, .int 0, .int 0, .int 6, .int 6, .int p1]) (n := 7) (rest := []) (st1 := [.int v11]) C hE hW hl.1 (kX10_countIn l D cI cZ cJ _ q_now u_now p0 0 0 6 6 p1 v11 h12) gX10_count_X10_countIn rfl (by decide +kernel) rfl ⟨Nat.le_of_ble_eq_true rfl, Nat.le_of_ble_eq_true rfl⟩ ⟨Nat.zero_le _, Nat.zero_le _⟩ [1] rfl rfl (Nat.le_of_ble_eq_true rfl) rfl rfl dX10_count_44 (fun H locs hW => ?_)
      obtain ⟨rfl, rfl⟩ := sm2 hf
      exact k_iret C hlocks hr hW hQ dX10_count_47
    · replace hf := if_f hc hf
      refine lv_iconst (v := 0) hx hb dX10_count_30 (by decide) ?_
      obtain ⟨rfl, rfl⟩ := sm2 hf
      exact k_iret C hlocks hr hW hQ dX10_count_31
  refine lv_if_ne (tgt := 12) hx hb dX10_count_5 (by decide) (fun hc => ?_) (fun hc => ?_)
  · replace hd4 := if_f hc hd4
    refine lv_iload_n hx hb dX10_count_12 rfl (lv_at hl 2 rfl) ?_
    obtain ⟨v6, h7, hd4⟩ := bd1_s hd4
    refine k_callSR (As := [.int p1]) (n := 1) (rest := [.ref q]) (st1 := [.int v6, .ref q]) C hE hW hl.1 (kX10_isNumber l D cI cZ cJ _ p1 v6 h7) gX10_count_X10_isNumber rfl (by decide +kernel) rfl ⟨Nat.le_of_ble_eq_true rfl, Nat.le_of_ble_eq_true rfl⟩ ⟨Nat.zero_le _, Nat.zero_le _⟩ [] rfl rfl (Nat.le_of_ble_eq_true rfl) rfl rfl dX10_count_13 (fun H locs hW => ?_)
    refine lv_if_ne (tgt := 23) hx hb dX10_count_16 (by decide) (fun hc => ?_) (fun hc => ?_)
    · replace hd4 := if_f hc hd4
      refine lv_iconst (v := 0) hx hb dX10_count_23 (by decide) ?_
      obtain rfl := Option.some.inj hd4
      exact J5 _ _ _ hW (lv_sub hl [0, 1, 2] rfl)
    · replace hd4 := if_t hc hd4
      refine lv_iconst (v := 2) hx hb dX10_count_19 (by decide) ?_
      refine lv_goto (tgt := 24) hx hb dX10_count_20 (by decide) ?_
      obtain rfl := Option.some.inj hd4
      exact J5 _ _ _ hW (lv_sub hl [0, 1, 2] rfl)
  · replace hd4 := if_t hc hd4
    refine lv_iconst (v := 1) hx hb dX10_count_8 (by decide) ?_
    refine lv_goto (tgt := 24) hx hb dX10_count_9 (by decide) ?_
    obtain rfl := Option.some.inj hd4
    exact J5 _ _ _ hW (lv_sub hl [0, 1, 2] rfl)

set_option maxHeartbeats 4000000 in
set_option maxRecDepth 100000 in
theorem kX10_walk (l : Launch) (D : va_G) (cI cZ cJ : ClassId) (sz : Nat) (q q_now q_script q_readRow q_trial q_diary q_kept q_isKept q_sums q_primes q_turned : Nat) (u_refusal : Int32) (u_scriptSize : Int32) (u_spot : Int32) (u_acts : Int32) (u_slides : Int32) (u_now : Nat → Int32) (p0 : Int32) (p1 : Int32) (p2 : Int32) (r : Int32) (u_refusal' : Int32) (hf : pX10_walk u_refusal u_now p0 p1 p2 = some (r, u_refusal')) : kMet l D cI cZ cJ yX10_walk wsX10_walk 2 47 [.ref q, .int p0, .int p1, .int p2] [(q, .inr (9, [.int u_refusal, .ref q_script, .int u_scriptSize, .int u_spot, .ref q_readRow, .ref q_now, .ref q_trial, .ref q_diary, .int u_acts, .ref q_kept, .ref q_isKept, .int u_slides, .ref q_sums, .ref q_primes, .ref q_turned])), (q_now, .inl (cI, 84, .inl u_now))] sz (some (.int r)) [(q, .inr (9, [.int u_refusal', .ref q_script, .int u_scriptSize, .int u_spot, .ref q_readRow, .ref q_now, .ref q_trial, .ref q_diary, .int u_acts, .ref q_kept, .ref q_isKept, .int u_slides, .ref q_sums, .ref q_primes, .ref q_turned])), (q_now, .inl (cI, 84, .inl u_now))] := by
  refine kM_of (cc := cX10_walk) (maxL := 10) (ret := (some .int)) (by decide) rfl (Nat.le_of_ble_eq_true rfl) ?_
  intro p e s m args below meth c A Q ls hQ C hlocks hr hE hW hl
  have hx := C.1
  have hb := C.2.1
  have hts := C.2.2.2.2
  have hl : lv_has ls 10 [(0, .ref q), (1, .int p0), (2, .int p1), (3, .int p2)] := hl
  have iX10 : ∀ w ∈ u_ws RX10 TX10 15, w ∈ wsX10_walk := by decide +kernel
  have f16 := hts (.fieldLink RX10 16 "SortedTablesModel" "now" "[I") (by decide +kernel)
  unfold pX10_walk at hf
  refine lv_aload_n hx hb dX10_walk_0 rfl (lv_at hl 0 rfl) ?_
  refine lv_iload_n hx hb dX10_walk_1 rfl (lv_at hl 1 rfl) ?_
  obtain ⟨v1, h2, hf⟩ := bd1_s hf
  refine k_callSR (As := [.int p0]) (n := 1) (rest := [.ref q]) (st1 := [.int v1, .ref q]) C hE hW hl.1 (kX10_isTable l D cI cZ cJ _ p0 v1 h2) gX10_walk_X10_isTable rfl (by decide +kernel) rfl ⟨Nat.le_of_ble_eq_true rfl, Nat.le_of_ble_eq_true rfl⟩ ⟨Nat.zero_le _, Nat.zero_le _⟩ [] rfl rfl (Nat.le_of_ble_eq_true rfl) rfl rfl dX10_walk_2 (fun H locs hW => ?_)
  obtain ⟨j3, hd4, hf⟩ := bd1_s hf
  have J5 : ∀ (H : Heap) (locs : List Loc) (ls : Array Slot), kH D A s H locs [(q, .inr (9, [.int u_refusal, .ref q_script, .int u_scriptSize, .int u_spot, .ref q_readRow, .ref q_now, .ref q_trial, .ref q_diary, .int u_acts, .ref q_kept, .ref q_isKept, .int u_slides, .ref q_sums, .ref q_primes, .ref q_turned])), (q_now, .inl (cI, 84, .inl u_now))] → lv_has ls 10 [(0, .ref q), (1, .int p0), (2, .int p1), (3, .int p2)] → W p l e (kRm 2 47 0 0) s m args below meth c H locs 0 0 Q (F0 m 36 ls [.int j3, .ref q]) := by
    intro H locs ls hW hl
    obtain ⟨⟨v10, w11⟩, h12, hf⟩ := bd1_s hf
    replace hf := un2_s hf
    refine k_callV (b := q) (ci := 9) (qb := 0) (As := [.int j3]) (n := 1) (rest := []) (st1 := [.int v10]) (wr := [(q_now, .inl (cI, 84, .inl u_now))]) (ws' := [(q, .inr (9, [.int w11, .ref q_script, .int u_scriptSize, .int u_spot, .ref q_readRow, .ref q_now, .ref q_trial, .ref q_diary, .int u_acts, .ref q_kept, .ref q_isKept, .int u_slides, .ref q_sums, .ref q_primes, .ref q_turned])), (q_now, .inl (cI, 84, .inl u_now))]) C hE hW hl.1 (kX10_refused l D cI cZ cJ _ q q_script q_readRow q_now q_trial q_diary q_kept q_isKept q_sums q_primes q_turned u_refusal u_scriptSize u_spot u_acts u_slides j3 v10 w11 h12) gX10_walk_X10_refused rfl (by decide +kernel) rfl ⟨Nat.le_of_ble_eq_true rfl, Nat.le_of_ble_eq_true rfl⟩ ⟨Nat.zero_le _, Nat.zero_le _⟩ rfl rfl [0] [1] [1, 0] rfl rfl rfl rfl (by decide) rfl rfl (Nat.le_of_ble_eq_true rfl) rfl rfl dX10_walk_36 (fun H locs hW => ?_)
    refine lv_if_eq (tgt := 44) hx hb dX10_walk_39 (by decide) (fun hc => ?_) (fun hc => ?_)
    · replace hf := if_t hc hf
      refine lv_iconst (v := 0) hx hb dX10_walk_44 (by decide) ?_
      refine lv_istore (lv' := [(4, .int 0), (0, .ref q), (1, .int p0), (2, .int p1), (3, .int p2)]) hx hb dX10_walk_45 hl (by decide) rfl (fun ls hl => ?_)
      refine lv_aload_n hx hb dX10_walk_47 rfl (lv_at hl 1 rfl) ?_
      refine k_get C hE hW iX10 0 rfl rfl 5 (by decide) f16 (fun _ h9 => h9) rfl dX10_walk_48 ?_
      refine lv_iload_n hx hb dX10_walk_51 rfl (lv_at hl 2 rfl) ?_
      refine lv_iconst (v := 0) hx hb dX10_walk_52 (by decide) ?_
      obtain ⟨v13, h14, hf⟩ := bd1_s hf
      refine k_callSR (As := [.ref q_now, .int p0, .int 0]) (n := 3) (rest := []) (st1 := [.int v13]) C hE hW hl.1 (kX10_length l D cI cZ cJ _ q_now u_now p0 0 v13 h14) gX10_walk_X10_length rfl (by decide +kernel) rfl ⟨Nat.le_of_ble_eq_true rfl, Nat.le_of_ble_eq_true rfl⟩ ⟨Nat.zero_le _, Nat.zero_le _⟩ [1] rfl rfl (Nat.le_of_ble_eq_true rfl) rfl rfl dX10_walk_53 (fun H locs hW => ?_)
      refine lv_iconst (v := 1) hx hb dX10_walk_56 (by decide) ?_
      refine lv_isub hx hb dX10_walk_57 ?_
      refine lv_istore (lv' := [(5, .int (v13 - 1)), (4, .int 0), (0, .ref q), (1, .int p0), (2, .int p1), (3, .int p2)]) hx hb dX10_walk_58 hl (by decide) rfl (fun ls hl => ?_)
      refine lv_iconst (v := 0) hx hb dX10_walk_60 (by decide) ?_
      refine lv_istore (lv' := [(6, .int 0), (5, .int (v13 - 1)), (4, .int 0), (0, .ref q), (1, .int p0), (2, .int p1), (3, .int p2)]) hx hb dX10_walk_61 hl (by decide) rfl (fun ls hl => ?_)
      refine lv_bipush (v := (-9)) hx hb dX10_walk_63 (by decide) ?_
      refine lv_istore (lv' := [(7, .int (-9)), (6, .int 0), (5, .int (v13 - 1)), (4, .int 0), (0, .ref q), (1, .int p0), (2, .int p1), (3, .int p2)]) hx hb dX10_walk_65 hl (by decide) rfl (fun ls hl => ?_)
      refine lv_bipush (v := (-9)) hx hb dX10_walk_67 (by decide) ?_
      refine lv_istore (lv' := [(8, .int (-9)), (7, .int (-9)), (6, .int 0), (5, .int (v13 - 1)), (4, .int 0), (0, .ref q), (1, .int p0), (2, .int p1), (3, .int p2)]) hx hb dX10_walk_69 hl (by decide) rfl (fun ls hl => ?_)
      obtain ⟨⟨x20, x21, x22⟩, hx240, hf⟩ := bd1_s hf
      replace hf := un3_s hf
      have J25 : ∀ (H : Heap) (locs : List Loc) (ls : Array Slot), kH D A s H locs [(q, .inr (9, [.int w11, .ref q_script, .int u_scriptSize, .int u_spot, .ref q_readRow, .ref q_now, .ref q_trial, .ref q_diary, .int u_acts, .ref q_kept, .ref q_isKept, .int u_slides, .ref q_sums, .ref q_primes, .ref q_turned])), (q_now, .inl (cI, 84, .inl u_now))] → lv_has ls 10 [(8, .int x20), (7, .int x21), (6, .int x22), (3, .int p2)] → W p l e (kRm 2 47 0 0) s m args below meth c H locs 0 0 Q (F0 m 177 ls []) := by
        intro H locs ls hW hl
        refine lv_iload_n hx hb dX10_walk_177 rfl (lv_at hl 3 rfl) ?_
        refine lv_if_ne (tgt := 186) hx hb dX10_walk_178 (by decide) (fun hc => ?_) (fun hc => ?_)
        · replace hf := if_f hc hf
          refine lv_iload_n hx hb dX10_walk_186 rfl (lv_at hl 3 rfl) ?_
          refine lv_iconst (v := 1) hx hb dX10_walk_187 (by decide) ?_
          refine lv_icmp_ne (tgt := 196) hx hb dX10_walk_188 (by decide) (fun hc => ?_) (fun hc => ?_)
          · replace hf := if_f hc hf
            refine lv_iload hx hb dX10_walk_196 (lv_at hl 0 rfl) ?_
            obtain ⟨rfl, rfl⟩ := sm2 hf
            exact k_iret C hlocks hr hW hQ dX10_walk_198
          · replace hf := if_t hc hf
            refine lv_iload hx hb dX10_walk_191 (lv_at hl 1 rfl) ?_
            refine lv_goto (tgt := 198) hx hb dX10_walk_193 (by decide) ?_
            obtain ⟨rfl, rfl⟩ := sm2 hf
            exact k_iret C hlocks hr hW hQ dX10_walk_198
        · replace hf := if_t hc hf
          refine lv_iload hx hb dX10_walk_181 (lv_at hl 2 rfl) ?_
          refine lv_goto (tgt := 198) hx hb dX10_walk_183 (by decide) ?_
          obtain ⟨rfl, rfl⟩ := sm2 hf
          exact k_iret C hlocks hr hW hQ dX10_walk_198
      have L26 : ∀ (n : Nat) (i15 : Int32) (i16 : Int32) (i17 : Int32) (i18 : Int32) (i19 : Int32), lpI n (un5 (pX10_walk_L71 u_now p0 p1)) (i15, i16, i17, i18, i19) = some (x20, x21, x22) → ∀ (H : Heap) (locs : List Loc) (ls : Array Slot), kH D A s H locs [(q, .inr (9, [.int w11, .ref q_script, .int u_scriptSize, .int u_spot, .ref q_readRow, .ref q_now, .ref q_trial, .ref q_diary, .int u_acts, .ref q_kept, .ref q_isKept, .int u_slides, .ref q_sums, .ref q_primes, .ref q_turned])), (q_now, .inl (cI, 84, .inl u_now))] → lv_has ls 10 [(8, .int i15), (7, .int i16), (6, .int i17), (5, .int i18), (4, .int i19), (0, .ref q), (1, .int p0), (2, .int p1), (3, .int p2)] → W p l e (kRm 2 47 0 0) s m args below meth c H locs 0 0 Q (F0 m 71 ls []) := by
        intro n
        induction n with
        | zero => intro i15 i16 i17 i18 i19 hx24; exact (lpI_0 hx24).elim
        | succ n ih28 =>
          intro i15 i16 i17 i18 i19 hx24 H locs ls hW hl
          obtain ⟨ooho23, ho23, hx24⟩ := lpI_s hx24
          replace ho23 := un5_s ho23
          unfold pX10_walk_L71 at ho23
          refine lv_iload hx hb dX10_walk_71 (lv_at hl 3 rfl) ?_
          refine lv_if_lt (tgt := 177) hx hb dX10_walk_73 (by decide) (fun hc => ?_) (fun hc => ?_)
          · replace ho23 := if_t hc ho23
            obtain rfl := Option.some.inj ho23
            obtain ⟨rfl, rfl, rfl⟩ := pr3 (lpK_r hx24)
            exact J25 _ _ _ hW (lv_sub hl [0, 1, 2, 8] rfl)
          · replace ho23 := if_f hc ho23
            refine lv_aload_n hx hb dX10_walk_76 rfl (lv_at hl 5 rfl) ?_
            refine k_get C hE hW iX10 0 rfl rfl 5 (by decide) f16 (fun _ h9 => h9) rfl dX10_walk_77 ?_
            refine lv_iload_n hx hb dX10_walk_80 rfl (lv_at hl 6 rfl) ?_
            refine lv_iload hx hb dX10_walk_81 (lv_at hl 4 rfl) ?_
            refine lv_iload hx hb dX10_walk_83 (lv_at hl 3 rfl) ?_
            obtain ⟨v29, h30, ho23⟩ := bd1_s ho23
            refine k_callSR (As := [.ref q_now, .int p0, .int i19, .int i18]) (n := 4) (rest := []) (st1 := [.int v29]) C hE hW hl.1 (kX10_get l D cI cZ cJ _ q_now u_now p0 i19 i18 v29 h30) gX10_walk_X10_get rfl (by decide +kernel) rfl ⟨Nat.le_of_ble_eq_true rfl, Nat.le_of_ble_eq_true rfl⟩ ⟨Nat.zero_le _, Nat.zero_le _⟩ [1] rfl rfl (Nat.le_of_ble_eq_true rfl) rfl rfl dX10_walk_85 (fun H locs hW => ?_)
            refine lv_istore (lv' := [(9, .int v29), (8, .int i15), (7, .int i16), (6, .int i17), (5, .int i18), (4, .int i19), (0, .ref q), (1, .int p0), (2, .int p1), (3, .int p2)]) hx hb dX10_walk_88 hl (by decide) rfl (fun ls hl => ?_)
            refine lv_iinc (v := (i17 + 1)) (lv' := [(6, .int (i17 + 1)), (9, .int v29), (8, .int i15), (7, .int i16), (5, .int i18), (4, .int i19), (0, .ref q), (1, .int p0), (2, .int p1), (3, .int p2)]) hx hb dX10_walk_90 hl (k := 3) rfl rfl (by decide) rfl (fun ls hl => ?_)
            refine lv_bipush (v := 10) hx hb dX10_walk_93 (by decide) ?_
            refine lv_iload hx hb dX10_walk_95 (lv_at hl 5 rfl) ?_
            refine lv_imul hx hb dX10_walk_97 ?_
            refine lv_iload hx hb dX10_walk_98 (lv_at hl 4 rfl) ?_
            refine lv_iadd hx hb dX10_walk_100 ?_
            refine lv_istore (lv' := [(8, .int ((10 * i19) + i18)), (6, .int (i17 + 1)), (9, .int v29), (7, .int i16), (5, .int i18), (4, .int i19), (0, .ref q), (1, .int p0), (2, .int p1), (3, .int p2)]) hx hb dX10_walk_101 hl (by decide) rfl (fun ls hl => ?_)
            refine lv_iload hx hb dX10_walk_103 (lv_at hl 3 rfl) ?_
            refine lv_bipush (v := (-9)) hx hb dX10_walk_105 (by decide) ?_
            obtain ⟨j31, hd32, ho23⟩ := bd1_s ho23
            have J33 : ∀ (H : Heap) (locs : List Loc) (ls : Array Slot), kH D A s H locs [(q, .inr (9, [.int w11, .ref q_script, .int u_scriptSize, .int u_spot, .ref q_readRow, .ref q_now, .ref q_trial, .ref q_diary, .int u_acts, .ref q_kept, .ref q_isKept, .int u_slides, .ref q_sums, .ref q_primes, .ref q_turned])), (q_now, .inl (cI, 84, .inl u_now))] → lv_has ls 10 [(0, .ref q), (1, .int p0), (2, .int p1), (3, .int p2), (4, .int i19), (5, .int i18), (6, .int (i17 + 1)), (8, .int ((10 * i19) + i18)), (9, .int v29)] → W p l e (kRm 2 47 0 0) s m args below meth c H locs 0 0 Q (F0 m 123 ls [.int j31]) := by
              intro H locs ls hW hl
              refine lv_istore (lv' := [(7, .int j31), (0, .ref q), (1, .int p0), (2, .int p1), (3, .int p2), (4, .int i19), (5, .int i18), (6, .int (i17 + 1)), (8, .int ((10 * i19) + i18)), (9, .int v29)]) hx hb dX10_walk_123 hl (by decide) rfl (fun ls hl => ?_)
              refine lv_iload hx hb dX10_walk_125 (lv_at hl 9 rfl) ?_
              refine lv_iload_n hx hb dX10_walk_127 rfl (lv_at hl 3 rfl) ?_
              refine lv_icmp_le (tgt := 137) hx hb dX10_walk_128 (by decide) (fun hc => ?_) (fun hc => ?_)
              · replace ho23 := if_t hc ho23
                refine lv_iinc (v := (i19 + 1)) (lv' := [(4, .int (i19 + 1)), (7, .int j31), (0, .ref q), (1, .int p0), (2, .int p1), (3, .int p2), (5, .int i18), (6, .int (i17 + 1)), (8, .int ((10 * i19) + i18)), (9, .int v29)]) hx hb dX10_walk_137 hl (k := 5) rfl rfl (by decide) rfl (fun ls hl => ?_)
                refine lv_iload hx hb dX10_walk_140 (lv_at hl 6 rfl) ?_
                refine lv_aload_n hx hb dX10_walk_142 rfl (lv_at hl 2 rfl) ?_
                refine k_get C hE hW iX10 0 rfl rfl 5 (by decide) f16 (fun _ h9 => h9) rfl dX10_walk_143 ?_
                refine lv_iload_n hx hb dX10_walk_146 rfl (lv_at hl 3 rfl) ?_
                refine lv_iload hx hb dX10_walk_147 (lv_at hl 0 rfl) ?_
                obtain ⟨v34, h35, ho23⟩ := bd1_s ho23
                refine k_callSR (As := [.ref q_now, .int p0, .int (i19 + 1)]) (n := 3) (rest := [.int i18]) (st1 := [.int v34, .int i18]) C hE hW hl.1 (kX10_length l D cI cZ cJ _ q_now u_now p0 (i19 + 1) v34 h35) gX10_walk_X10_length rfl (by decide +kernel) rfl ⟨Nat.le_of_ble_eq_true rfl, Nat.le_of_ble_eq_true rfl⟩ ⟨Nat.zero_le _, Nat.zero_le _⟩ [1] rfl rfl (Nat.le_of_ble_eq_true rfl) rfl rfl dX10_walk_149 (fun H locs hW => ?_)
                refine lv_icmp_ge (tgt := 160) hx hb dX10_walk_152 (by decide) (fun hc => ?_) (fun hc => ?_)
                · replace ho23 := if_t hc ho23
                  refine lv_aload_n hx hb dX10_walk_160 rfl (lv_at hl 2 rfl) ?_
                  refine k_get C hE hW iX10 0 rfl rfl 5 (by decide) f16 (fun _ h9 => h9) rfl dX10_walk_161 ?_
                  refine lv_iload_n hx hb dX10_walk_164 rfl (lv_at hl 3 rfl) ?_
                  refine lv_iload hx hb dX10_walk_165 (lv_at hl 0 rfl) ?_
                  obtain ⟨v36, h37, ho23⟩ := bd1_s ho23
                  refine k_callSR (As := [.ref q_now, .int p0, .int (i19 + 1)]) (n := 3) (rest := []) (st1 := [.int v36]) C hE hW hl.1 (kX10_length l D cI cZ cJ _ q_now u_now p0 (i19 + 1) v36 h37) gX10_walk_X10_length rfl (by decide +kernel) rfl ⟨Nat.le_of_ble_eq_true rfl, Nat.le_of_ble_eq_true rfl⟩ ⟨Nat.zero_le _, Nat.zero_le _⟩ [1] rfl rfl (Nat.le_of_ble_eq_true rfl) rfl rfl dX10_walk_167 (fun H locs hW => ?_)
                  refine lv_iconst (v := 1) hx hb dX10_walk_170 (by decide) ?_
                  refine lv_isub hx hb dX10_walk_171 ?_
                  refine lv_istore (lv' := [(5, .int (v36 - 1)), (4, .int (i19 + 1)), (7, .int j31), (0, .ref q), (1, .int p0), (2, .int p1), (3, .int p2), (6, .int (i17 + 1)), (8, .int ((10 * i19) + i18)), (9, .int v29)]) hx hb dX10_walk_172 hl (by decide) rfl (fun ls hl => ?_)
                  refine lv_goto (tgt := 71) hx hb dX10_walk_174 (by decide) ?_
                  obtain rfl := Option.some.inj ho23
                  exact ih28 _ _ _ _ _ hx24 _ _ _ hW (lv_sub hl [8, 2, 7, 0, 1, 3, 4, 5, 6] rfl)
                · replace ho23 := if_f hc ho23
                  refine lv_iload hx hb dX10_walk_155 (lv_at hl 6 rfl) ?_
                  refine lv_goto (tgt := 172) hx hb dX10_walk_157 (by decide) ?_
                  refine lv_istore (lv' := [(5, .int i18), (4, .int (i19 + 1)), (7, .int j31), (0, .ref q), (1, .int p0), (2, .int p1), (3, .int p2), (6, .int (i17 + 1)), (8, .int ((10 * i19) + i18)), (9, .int v29)]) hx hb dX10_walk_172 hl (by decide) rfl (fun ls hl => ?_)
                  refine lv_goto (tgt := 71) hx hb dX10_walk_174 (by decide) ?_
                  obtain rfl := Option.some.inj ho23
                  exact ih28 _ _ _ _ _ hx24 _ _ _ hW (lv_sub hl [8, 2, 7, 0, 1, 3, 4, 5, 6] rfl)
              · replace ho23 := if_f hc ho23
                refine lv_iinc (v := (i18 + (-1))) (lv' := [(5, .int (i18 + (-1))), (7, .int j31), (0, .ref q), (1, .int p0), (2, .int p1), (3, .int p2), (4, .int i19), (6, .int (i17 + 1)), (8, .int ((10 * i19) + i18)), (9, .int v29)]) hx hb dX10_walk_131 hl (k := 6) rfl rfl (by decide) rfl (fun ls hl => ?_)
                refine lv_goto (tgt := 174) hx hb dX10_walk_134 (by decide) ?_
                refine lv_goto (tgt := 71) hx hb dX10_walk_174 (by decide) ?_
                obtain rfl := Option.some.inj ho23
                exact ih28 _ _ _ _ _ hx24 _ _ _ hW (lv_sub hl [8, 1, 7, 0, 6, 2, 3, 4, 5] rfl)
            refine lv_icmp_ne (tgt := 121) hx hb dX10_walk_107 (by decide) (fun hc => ?_) (fun hc => ?_)
            · replace hd32 := if_f hc hd32
              refine lv_iload hx hb dX10_walk_121 (lv_at hl 3 rfl) ?_
              obtain rfl := Option.some.inj hd32
              exact J33 _ _ _ hW (lv_sub hl [6, 7, 8, 9, 5, 4, 1, 0, 2] rfl)
            · replace hd32 := if_t hc hd32
              refine lv_iload hx hb dX10_walk_110 (lv_at hl 2 rfl) ?_
              refine lv_iload_n hx hb dX10_walk_112 rfl (lv_at hl 8 rfl) ?_
              refine lv_icmp_ne (tgt := 121) hx hb dX10_walk_113 (by decide) (fun hc => ?_) (fun hc => ?_)
              · replace hd32 := if_f hc hd32
                refine lv_iload hx hb dX10_walk_121 (lv_at hl 3 rfl) ?_
                obtain rfl := Option.some.inj hd32
                exact J33 _ _ _ hW (lv_sub hl [6, 7, 8, 9, 5, 4, 1, 0, 2] rfl)
              · replace hd32 := if_t hc hd32
                refine lv_iload hx hb dX10_walk_116 (lv_at hl 0 rfl) ?_
                refine lv_goto (tgt := 123) hx hb dX10_walk_118 (by decide) ?_
                obtain rfl := Option.some.inj hd32
                exact J33 _ _ _ hW (lv_sub hl [6, 7, 8, 9, 5, 4, 1, 0, 2] rfl)
      exact L26 lpF _ _ _ _ _ hx240 _ _ _ hW (lv_sub hl [0, 1, 2, 3, 4, 5, 6, 7, 8] rfl)
    · replace hf := if_f hc hf
      refine lv_iconst (v := 0) hx hb dX10_walk_42 (by decide) ?_
      obtain ⟨rfl, rfl⟩ := sm2 hf
      exact k_iret C hlocks hr hW hQ dX10_walk_43
  refine lv_if_ne (tgt := 12) hx hb dX10_walk_5 (by decide) (fun hc => ?_) (fun hc => ?_)
  · replace hd4 := if_f hc hd4
    refine lv_iload_n hx hb dX10_walk_12 rfl (lv_at hl 2 rfl) ?_
    obtain ⟨v6, h7, hd4⟩ := bd1_s hd4
    refine k_callSR (As := [.int p1]) (n := 1) (rest := [.ref q]) (st1 := [.int v6, .ref q]) C hE hW hl.1 (kX10_isNumber l D cI cZ cJ _ p1 v6 h7) gX10_walk_X10_isNumber rfl (by decide +kernel) rfl ⟨Nat.le_of_ble_eq_true rfl, Nat.le_of_ble_eq_true rfl⟩ ⟨Nat.zero_le _, Nat.zero_le _⟩ [] rfl rfl (Nat.le_of_ble_eq_true rfl) rfl rfl dX10_walk_13 (fun H locs hW => ?_)
    refine lv_if_eq (tgt := 31) hx hb dX10_walk_16 (by decide) (fun hc => ?_) (fun hc => ?_)
    · replace hd4 := if_t hc hd4
      refine lv_iconst (v := 2) hx hb dX10_walk_31 (by decide) ?_
      refine lv_goto (tgt := 36) hx hb dX10_walk_32 (by decide) ?_
      obtain rfl := Option.some.inj hd4
      exact J5 _ _ _ hW (lv_sub hl [0, 1, 2, 3] rfl)
    · replace hd4 := if_f hc hd4
      refine lv_iload_n hx hb dX10_walk_19 rfl (lv_at hl 3 rfl) ?_
      refine lv_i2l hx hb dX10_walk_20 rfl ?_
      refine lv_lconst (v := 0) hx hb dX10_walk_21 (by decide) ?_
      refine lv_ldc2 (v := 2) hx hb C.2.2.2.1 (hts (.constantLong RX10 179 (2)) (by decide +kernel)) dX10_walk_22 ?_
      obtain ⟨v8, h9, hd4⟩ := bd1_s hd4
      refine k_callSR (As := [.long (p2 : Int32).toInt64, .long 0, .long 2]) (n := 3) (rest := [.ref q]) (st1 := [.int v8, .ref q]) C hE hW hl.1 (kX10_in l D cI cZ cJ _ (p2 : Int32).toInt64 0 2 v8 h9) gX10_walk_X10_in rfl (by decide +kernel) rfl ⟨Nat.le_of_ble_eq_true rfl, Nat.le_of_ble_eq_true rfl⟩ ⟨Nat.zero_le _, Nat.zero_le _⟩ [] rfl rfl (Nat.le_of_ble_eq_true rfl) rfl rfl dX10_walk_25 (fun H locs hW => ?_)
      refine lv_if_ne (tgt := 35) hx hb dX10_walk_28 (by decide) (fun hc => ?_) (fun hc => ?_)
      · replace hd4 := if_f hc hd4
        refine lv_iconst (v := 0) hx hb dX10_walk_35 (by decide) ?_
        obtain rfl := Option.some.inj hd4
        exact J5 _ _ _ hW (lv_sub hl [0, 1, 2, 3] rfl)
      · replace hd4 := if_t hc hd4
        refine lv_iconst (v := 2) hx hb dX10_walk_31 (by decide) ?_
        refine lv_goto (tgt := 36) hx hb dX10_walk_32 (by decide) ?_
        obtain rfl := Option.some.inj hd4
        exact J5 _ _ _ hW (lv_sub hl [0, 1, 2, 3] rfl)
  · replace hd4 := if_t hc hd4
    refine lv_iconst (v := 1) hx hb dX10_walk_8 (by decide) ?_
    refine lv_goto (tgt := 36) hx hb dX10_walk_9 (by decide) ?_
    obtain rfl := Option.some.inj hd4
    exact J5 _ _ _ hW (lv_sub hl [0, 1, 2, 3] rfl)

set_option maxHeartbeats 4000000 in
set_option maxRecDepth 100000 in
theorem kX10_rankOf (l : Launch) (D : va_G) (cI cZ cJ : ClassId) (sz : Nat) (r0 : Nat) (u0 : Nat → Int32) (p1 : Int32) (p2 : Int32) (p3 : Int32) (r : Int32) (hf : pX10_rankOf u0 p1 p2 p3 = some r) : kMet l D cI cZ cJ yX10_rankOf wsX10_rankOf 2 47 [.ref r0, .int p1, .int p2, .int p3] [(r0, .inl (cI, 84, .inl u0))] sz (some (.int r)) [(r0, .inl (cI, 84, .inl u0))] := by
  refine kM_of (cc := cX10_rankOf) (maxL := 9) (ret := (some .int)) (by decide) rfl (Nat.le_of_ble_eq_true rfl) ?_
  intro p e s m args below meth c A Q ls hQ C hlocks hr hE hW hl
  have hx := C.1
  have hb := C.2.1
  have hts := C.2.2.2.2
  have hl : lv_has ls 9 [(0, .ref r0), (1, .int p1), (2, .int p2), (3, .int p3)] := hl
  unfold pX10_rankOf at hf
  refine lv_aload_n hx hb dX10_rankOf_0 rfl (lv_at hl 0 rfl) ?_
  refine lv_iload_n hx hb dX10_rankOf_1 rfl (lv_at hl 1 rfl) ?_
  refine lv_iload_n hx hb dX10_rankOf_2 rfl (lv_at hl 2 rfl) ?_
  refine lv_iload_n hx hb dX10_rankOf_3 rfl (lv_at hl 3 rfl) ?_
  obtain ⟨v1, h2, hf⟩ := bd1_s hf
  refine k_callSR (As := [.ref r0, .int p1, .int p2, .int p3]) (n := 4) (rest := []) (st1 := [.int v1]) C hE hW hl.1 (kX10_get l D cI cZ cJ _ r0 u0 p1 p2 p3 v1 h2) gX10_rankOf_X10_get rfl (by decide +kernel) rfl ⟨Nat.le_of_ble_eq_true rfl, Nat.le_of_ble_eq_true rfl⟩ ⟨Nat.zero_le _, Nat.zero_le _⟩ [0] rfl rfl (Nat.le_of_ble_eq_true rfl) rfl rfl dX10_rankOf_4 (fun H locs hW => ?_)
  refine lv_istore (lv' := [(4, .int v1), (0, .ref r0), (1, .int p1), (2, .int p2), (3, .int p3)]) hx hb dX10_rankOf_7 hl (by decide) rfl (fun ls hl => ?_)
  refine lv_iconst (v := 0) hx hb dX10_rankOf_9 (by decide) ?_
  refine lv_istore (lv' := [(5, .int 0), (4, .int v1), (0, .ref r0), (1, .int p1), (2, .int p2), (3, .int p3)]) hx hb dX10_rankOf_10 hl (by decide) rfl (fun ls hl => ?_)
  refine lv_iconst (v := 0) hx hb dX10_rankOf_12 (by decide) ?_
  refine lv_istore (lv' := [(6, .int 0), (5, .int 0), (4, .int v1), (0, .ref r0), (1, .int p1), (2, .int p2), (3, .int p3)]) hx hb dX10_rankOf_13 hl (by decide) rfl (fun ls hl => ?_)
  obtain ⟨x5, hx70, hf⟩ := bd1_s hf
  have J8 : ∀ (H : Heap) (locs : List Loc) (ls : Array Slot), kH D A s H locs [(r0, .inl (cI, 84, .inl u0))] → lv_has ls 9 [(5, .int x5)] → W p l e (kRm 2 47 0 0) s m args below meth c H locs 0 0 Q (F0 m 101 ls []) := by
    intro H locs ls hW hl
    refine lv_iload hx hb dX10_rankOf_101 (lv_at hl 0 rfl) ?_
    obtain rfl := Option.some.inj hf
    exact k_iret C hlocks hr hW hQ dX10_rankOf_103
  have L9 : ∀ (n : Nat) (i3 : Int32) (i4 : Int32), lpI n (un2 (pX10_rankOf_L15 u0 p1 p2 p3 v1)) (i3, i4) = some x5 → ∀ (H : Heap) (locs : List Loc) (ls : Array Slot), kH D A s H locs [(r0, .inl (cI, 84, .inl u0))] → lv_has ls 9 [(6, .int i3), (5, .int i4), (4, .int v1), (0, .ref r0), (1, .int p1), (2, .int p2), (3, .int p3)] → W p l e (kRm 2 47 0 0) s m args below meth c H locs 0 0 Q (F0 m 15 ls []) := by
    intro n
    induction n with
    | zero => intro i3 i4 hx7; exact (lpI_0 hx7).elim
    | succ n ih11 =>
      intro i3 i4 hx7 H locs ls hW hl
      obtain ⟨ooho6, ho6, hx7⟩ := lpI_s hx7
      replace ho6 := un2_s ho6
      unfold pX10_rankOf_L15 at ho6
      refine lv_iload hx hb dX10_rankOf_15 (lv_at hl 0 rfl) ?_
      refine lv_bipush (v := 6) hx hb dX10_rankOf_17 (by decide) ?_
      refine lv_icmp_ge (tgt := 101) hx hb dX10_rankOf_19 (by decide) (fun hc => ?_) (fun hc => ?_)
      · replace ho6 := if_t hc ho6
        obtain rfl := Option.some.inj ho6
        obtain rfl := lpK_r hx7
        exact J8 _ _ _ hW (lv_sub hl [1] rfl)
      · replace ho6 := if_f hc ho6
        refine lv_iconst (v := 0) hx hb dX10_rankOf_22 (by decide) ?_
        refine lv_istore (lv' := [(7, .int 0), (6, .int i3), (5, .int i4), (4, .int v1), (0, .ref r0), (1, .int p1), (2, .int p2), (3, .int p3)]) hx hb dX10_rankOf_23 hl (by decide) rfl (fun ls hl => ?_)
        obtain ⟨x14, hx160, ho6⟩ := bd1_s ho6
        have J17 : ∀ (H : Heap) (locs : List Loc) (ls : Array Slot), kH D A s H locs [(r0, .inl (cI, 84, .inl u0))] → lv_has ls 9 [(6, .int i3), (5, .int x14), (4, .int v1), (0, .ref r0), (1, .int p1), (2, .int p2), (3, .int p3)] → W p l e (kRm 2 47 0 0) s m args below meth c H locs 0 0 Q (F0 m 95 ls []) := by
          intro H locs ls hW hl
          refine lv_iinc (v := (i3 + 1)) (lv' := [(6, .int (i3 + 1)), (5, .int x14), (4, .int v1), (0, .ref r0), (1, .int p1), (2, .int p2), (3, .int p3)]) hx hb dX10_rankOf_95 hl (k := 0) rfl rfl (by decide) rfl (fun ls hl => ?_)
          refine lv_goto (tgt := 15) hx hb dX10_rankOf_98 (by decide) ?_
          obtain rfl := Option.some.inj ho6
          exact ih11 _ _ hx7 _ _ _ hW (lv_sub hl [0, 1, 2, 3, 4, 5, 6] rfl)
        have L18 : ∀ (n : Nat) (i12 : Int32) (i13 : Int32), lpI n (un2 (pX10_rankOf_L25 u0 p1 p2 p3 v1 i3)) (i12, i13) = some x14 → ∀ (H : Heap) (locs : List Loc) (ls : Array Slot), kH D A s H locs [(r0, .inl (cI, 84, .inl u0))] → lv_has ls 9 [(7, .int i12), (6, .int i3), (5, .int i13), (4, .int v1), (0, .ref r0), (1, .int p1), (2, .int p2), (3, .int p3)] → W p l e (kRm 2 47 0 0) s m args below meth c H locs 0 0 Q (F0 m 25 ls []) := by
          intro n
          induction n with
          | zero => intro i12 i13 hx16; exact (lpI_0 hx16).elim
          | succ n ih20 =>
            intro i12 i13 hx16 H locs ls hW hl
            obtain ⟨ooho15, ho15, hx16⟩ := lpI_s hx16
            replace ho15 := un2_s ho15
            unfold pX10_rankOf_L25 at ho15
            refine lv_iload hx hb dX10_rankOf_25 (lv_at hl 0 rfl) ?_
            refine lv_aload_n hx hb dX10_rankOf_27 rfl (lv_at hl 4 rfl) ?_
            refine lv_iload_n hx hb dX10_rankOf_28 rfl (lv_at hl 5 rfl) ?_
            refine lv_iload hx hb dX10_rankOf_29 (lv_at hl 1 rfl) ?_
            obtain ⟨v21, h22, ho15⟩ := bd1_s ho15
            refine k_callSR (As := [.ref r0, .int p1, .int i3]) (n := 3) (rest := [.int i12]) (st1 := [.int v21, .int i12]) C hE hW hl.1 (kX10_length l D cI cZ cJ _ r0 u0 p1 i3 v21 h22) gX10_rankOf_X10_length rfl (by decide +kernel) rfl ⟨Nat.le_of_ble_eq_true rfl, Nat.le_of_ble_eq_true rfl⟩ ⟨Nat.zero_le _, Nat.zero_le _⟩ [0] rfl rfl (Nat.le_of_ble_eq_true rfl) rfl rfl dX10_rankOf_31 (fun H locs hW => ?_)
            refine lv_icmp_ge (tgt := 95) hx hb dX10_rankOf_34 (by decide) (fun hc => ?_) (fun hc => ?_)
            · replace ho15 := if_t hc ho15
              obtain rfl := Option.some.inj ho15
              obtain rfl := lpK_r hx16
              exact J17 _ _ _ hW (lv_sub hl [1, 2, 3, 4, 5, 6, 7] rfl)
            · replace ho15 := if_f hc ho15
              refine lv_aload_n hx hb dX10_rankOf_37 rfl (lv_at hl 4 rfl) ?_
              refine lv_iload_n hx hb dX10_rankOf_38 rfl (lv_at hl 5 rfl) ?_
              refine lv_iload hx hb dX10_rankOf_39 (lv_at hl 1 rfl) ?_
              refine lv_iload hx hb dX10_rankOf_41 (lv_at hl 0 rfl) ?_
              obtain ⟨v23, h24, ho15⟩ := bd1_s ho15
              refine k_callSR (As := [.ref r0, .int p1, .int i3, .int i12]) (n := 4) (rest := []) (st1 := [.int v23]) C hE hW hl.1 (kX10_get l D cI cZ cJ _ r0 u0 p1 i3 i12 v23 h24) gX10_rankOf_X10_get rfl (by decide +kernel) rfl ⟨Nat.le_of_ble_eq_true rfl, Nat.le_of_ble_eq_true rfl⟩ ⟨Nat.zero_le _, Nat.zero_le _⟩ [0] rfl rfl (Nat.le_of_ble_eq_true rfl) rfl rfl dX10_rankOf_43 (fun H locs hW => ?_)
              refine lv_istore (lv' := [(8, .int v23), (7, .int i12), (6, .int i3), (5, .int i13), (4, .int v1), (0, .ref r0), (1, .int p1), (2, .int p2), (3, .int p3)]) hx hb dX10_rankOf_46 hl (by decide) rfl (fun ls hl => ?_)
              refine lv_iload hx hb dX10_rankOf_48 (lv_at hl 3 rfl) ?_
              refine lv_iload hx hb dX10_rankOf_50 (lv_at hl 0 rfl) ?_
              refine lv_iload hx hb dX10_rankOf_52 (lv_at hl 4 rfl) ?_
              refine lv_icmp_lt (tgt := 81) hx hb dX10_rankOf_54 (by decide) (fun hc => ?_) (fun hc => ?_)
              · replace ho15 := if_t hc ho15
                refine lv_iconst (v := 1) hx hb dX10_rankOf_81 (by decide) ?_
                refine lv_goto (tgt := 86) hx hb dX10_rankOf_82 (by decide) ?_
                refine lv_iadd hx hb dX10_rankOf_86 ?_
                refine lv_istore (lv' := [(5, .int (i13 + 1)), (8, .int v23), (7, .int i12), (6, .int i3), (4, .int v1), (0, .ref r0), (1, .int p1), (2, .int p2), (3, .int p3)]) hx hb dX10_rankOf_87 hl (by decide) rfl (fun ls hl => ?_)
                refine lv_iinc (v := (i12 + 1)) (lv' := [(7, .int (i12 + 1)), (5, .int (i13 + 1)), (8, .int v23), (6, .int i3), (4, .int v1), (0, .ref r0), (1, .int p1), (2, .int p2), (3, .int p3)]) hx hb dX10_rankOf_89 hl (k := 2) rfl rfl (by decide) rfl (fun ls hl => ?_)
                refine lv_goto (tgt := 25) hx hb dX10_rankOf_92 (by decide) ?_
                obtain rfl := Option.some.inj ho15
                exact ih20 _ _ hx16 _ _ _ hW (lv_sub hl [0, 3, 1, 4, 5, 6, 7, 8] rfl)
              · replace ho15 := if_f hc ho15
                refine lv_iload hx hb dX10_rankOf_57 (lv_at hl 0 rfl) ?_
                refine lv_iload hx hb dX10_rankOf_59 (lv_at hl 4 rfl) ?_
                refine lv_icmp_ne (tgt := 85) hx hb dX10_rankOf_61 (by decide) (fun hc => ?_) (fun hc => ?_)
                · replace ho15 := if_f hc ho15
                  refine lv_iconst (v := 0) hx hb dX10_rankOf_85 (by decide) ?_
                  refine lv_iadd hx hb dX10_rankOf_86 ?_
                  refine lv_istore (lv' := [(5, .int (i13 + 0)), (8, .int v23), (7, .int i12), (6, .int i3), (4, .int v1), (0, .ref r0), (1, .int p1), (2, .int p2), (3, .int p3)]) hx hb dX10_rankOf_87 hl (by decide) rfl (fun ls hl => ?_)
                  refine lv_iinc (v := (i12 + 1)) (lv' := [(7, .int (i12 + 1)), (5, .int (i13 + 0)), (8, .int v23), (6, .int i3), (4, .int v1), (0, .ref r0), (1, .int p1), (2, .int p2), (3, .int p3)]) hx hb dX10_rankOf_89 hl (k := 2) rfl rfl (by decide) rfl (fun ls hl => ?_)
                  refine lv_goto (tgt := 25) hx hb dX10_rankOf_92 (by decide) ?_
                  obtain rfl := Option.some.inj ho15
                  exact ih20 _ _ hx16 _ _ _ hW (lv_sub hl [0, 3, 1, 4, 5, 6, 7, 8] rfl)
                · replace ho15 := if_t hc ho15
                  refine lv_bipush (v := 10) hx hb dX10_rankOf_64 (by decide) ?_
                  refine lv_iload hx hb dX10_rankOf_66 (lv_at hl 2 rfl) ?_
                  refine lv_imul hx hb dX10_rankOf_68 ?_
                  refine lv_iload hx hb dX10_rankOf_69 (lv_at hl 1 rfl) ?_
                  refine lv_iadd hx hb dX10_rankOf_71 ?_
                  refine lv_bipush (v := 10) hx hb dX10_rankOf_72 (by decide) ?_
                  refine lv_iload_n hx hb dX10_rankOf_74 rfl (lv_at hl 7 rfl) ?_
                  refine lv_imul hx hb dX10_rankOf_75 ?_
                  refine lv_iload_n hx hb dX10_rankOf_76 rfl (lv_at hl 8 rfl) ?_
                  refine lv_iadd hx hb dX10_rankOf_77 ?_
                  refine lv_icmp_ge (tgt := 85) hx hb dX10_rankOf_78 (by decide) (fun hc => ?_) (fun hc => ?_)
                  · replace ho15 := if_t hc ho15
                    refine lv_iconst (v := 0) hx hb dX10_rankOf_85 (by decide) ?_
                    refine lv_iadd hx hb dX10_rankOf_86 ?_
                    refine lv_istore (lv' := [(5, .int (i13 + 0)), (8, .int v23), (7, .int i12), (6, .int i3), (4, .int v1), (0, .ref r0), (1, .int p1), (2, .int p2), (3, .int p3)]) hx hb dX10_rankOf_87 hl (by decide) rfl (fun ls hl => ?_)
                    refine lv_iinc (v := (i12 + 1)) (lv' := [(7, .int (i12 + 1)), (5, .int (i13 + 0)), (8, .int v23), (6, .int i3), (4, .int v1), (0, .ref r0), (1, .int p1), (2, .int p2), (3, .int p3)]) hx hb dX10_rankOf_89 hl (k := 2) rfl rfl (by decide) rfl (fun ls hl => ?_)
                    refine lv_goto (tgt := 25) hx hb dX10_rankOf_92 (by decide) ?_
                    obtain rfl := Option.some.inj ho15
                    exact ih20 _ _ hx16 _ _ _ hW (lv_sub hl [0, 3, 1, 4, 5, 6, 7, 8] rfl)
                  · replace ho15 := if_f hc ho15
                    refine lv_iconst (v := 1) hx hb dX10_rankOf_81 (by decide) ?_
                    refine lv_goto (tgt := 86) hx hb dX10_rankOf_82 (by decide) ?_
                    refine lv_iadd hx hb dX10_rankOf_86 ?_
                    refine lv_istore (lv' := [(5, .int (i13 + 1)), (8, .int v23), (7, .int i12), (6, .int i3), (4, .int v1), (0, .ref r0), (1, .int p1), (2, .int p2), (3, .int p3)]) hx hb dX10_rankOf_87 hl (by decide) rfl (fun ls hl => ?_)
                    refine lv_iinc (v := (i12 + 1)) (lv' := [(7, .int (i12 + 1)), (5, .int (i13 + 1)), (8, .int v23), (6, .int i3), (4, .int v1), (0, .ref r0), (1, .int p1), (2, .int p2), (3, .int p3)]) hx hb dX10_rankOf_89 hl (k := 2) rfl rfl (by decide) rfl (fun ls hl => ?_)
                    refine lv_goto (tgt := 25) hx hb dX10_rankOf_92 (by decide) ?_
                    obtain rfl := Option.some.inj ho15
                    exact ih20 _ _ hx16 _ _ _ hW (lv_sub hl [0, 3, 1, 4, 5, 6, 7, 8] rfl)
        exact L18 lpF _ _ hx160 _ _ _ hW (lv_sub hl [0, 1, 2, 3, 4, 5, 6, 7] rfl)
  exact L9 lpF _ _ hx70 _ _ _ hW (lv_sub hl [0, 1, 2, 3, 4, 5, 6] rfl)

set_option maxHeartbeats 4000000 in
set_option maxRecDepth 100000 in
theorem kX10_kthPlace (l : Launch) (D : va_G) (cI cZ cJ : ClassId) (sz : Nat) (r0 : Nat) (u0 : Nat → Int32) (p1 : Int32) (p2 : Int32) (r : Int32) (hf : pX10_kthPlace u0 p1 p2 = some r) : kMet l D cI cZ cJ yX10_kthPlace wsX10_kthPlace 3 75 [.ref r0, .int p1, .int p2] [(r0, .inl (cI, 84, .inl u0))] sz (some (.int r)) [(r0, .inl (cI, 84, .inl u0))] := by
  refine kM_of (cc := cX10_kthPlace) (maxL := 5) (ret := (some .int)) (by decide) rfl (Nat.le_of_ble_eq_true rfl) ?_
  intro p e s m args below meth c A Q ls hQ C hlocks hr hE hW hl
  have hx := C.1
  have hb := C.2.1
  have hts := C.2.2.2.2
  have hl : lv_has ls 5 [(0, .ref r0), (1, .int p1), (2, .int p2)] := hl
  unfold pX10_kthPlace at hf
  refine lv_iconst (v := 0) hx hb dX10_kthPlace_0 (by decide) ?_
  refine lv_istore_n (lv' := [(3, .int 0), (0, .ref r0), (1, .int p1), (2, .int p2)]) hx hb dX10_kthPlace_1 rfl hl (by decide) rfl (fun ls hl => ?_)
  obtain ⟨xx6, hx30, hf⟩ := bd1_s hf
  have J4 : pX10_kthPlace_R54 = some r → ∀ (H : Heap) (locs : List Loc) (ls : Array Slot), kH D A s H locs [(r0, .inl (cI, 84, .inl u0))] → lv_has ls 5 [] → W p l e (kRm 3 75 0 0) s m args below meth c H locs 0 0 Q (F0 m 54 ls []) := by
    intro hf H locs ls hW hl
    unfold pX10_kthPlace_R54 at hf
    refine lv_bipush (v := (-9)) hx hb dX10_kthPlace_54 (by decide) ?_
    obtain rfl := Option.some.inj hf
    exact k_iret C hlocks hr hW hQ dX10_kthPlace_56
  have L5 : ∀ (n : Nat) (i1 : Int32), lpI n (pX10_kthPlace_L2 u0 p1 p2) i1 = some xx6 → ∀ (H : Heap) (locs : List Loc) (ls : Array Slot), kH D A s H locs [(r0, .inl (cI, 84, .inl u0))] → lv_has ls 5 [(3, .int i1), (0, .ref r0), (1, .int p1), (2, .int p2)] → W p l e (kRm 3 75 0 0) s m args below meth c H locs 0 0 Q (F0 m 2 ls []) := by
    intro n
    induction n with
    | zero => intro i1 hx3; exact (lpI_0 hx3).elim
    | succ n ih7 =>
      intro i1 hx3 H locs ls hW hl
      obtain ⟨ooho2, ho2, hx3⟩ := lpI_s hx3
      unfold pX10_kthPlace_L2 at ho2
      refine lv_iload_n hx hb dX10_kthPlace_2 rfl (lv_at hl 0 rfl) ?_
      refine lv_bipush (v := 6) hx hb dX10_kthPlace_3 (by decide) ?_
      refine lv_icmp_ge (tgt := 54) hx hb dX10_kthPlace_5 (by decide) (fun hc => ?_) (fun hc => ?_)
      · replace ho2 := if_t hc ho2
        obtain rfl := Option.some.inj ho2
        obtain rfl := lpK_r hx3
        replace hf := el_r hf
        exact J4 hf _ _ _ hW (lv_sub hl [] rfl)
      · replace ho2 := if_f hc ho2
        refine lv_iconst (v := 0) hx hb dX10_kthPlace_8 (by decide) ?_
        refine lv_istore (lv' := [(4, .int 0), (3, .int i1), (0, .ref r0), (1, .int p1), (2, .int p2)]) hx hb dX10_kthPlace_9 hl (by decide) rfl (fun ls hl => ?_)
        obtain ⟨xx13, hx100, ho2⟩ := bd1_s ho2
        have J11 : pX10_kthPlace_R48 i1 = some ooho2 → ∀ (H : Heap) (locs : List Loc) (ls : Array Slot), kH D A s H locs [(r0, .inl (cI, 84, .inl u0))] → lv_has ls 5 [(3, .int i1), (0, .ref r0), (1, .int p1), (2, .int p2)] → W p l e (kRm 3 75 0 0) s m args below meth c H locs 0 0 Q (F0 m 48 ls []) := by
          intro ho2 H locs ls hW hl
          unfold pX10_kthPlace_R48 at ho2
          refine lv_iinc (v := (i1 + 1)) (lv' := [(3, .int (i1 + 1)), (0, .ref r0), (1, .int p1), (2, .int p2)]) hx hb dX10_kthPlace_48 hl (k := 0) rfl rfl (by decide) rfl (fun ls hl => ?_)
          refine lv_goto (tgt := 2) hx hb dX10_kthPlace_51 (by decide) ?_
          obtain rfl := Option.some.inj ho2
          exact ih7 _ hx3 _ _ _ hW (lv_sub hl [0, 1, 2, 3] rfl)
        have L12 : ∀ (n : Nat) (i8 : Int32), lpI n (pX10_kthPlace_L11 u0 p1 p2 i1) i8 = some xx13 → ∀ (H : Heap) (locs : List Loc) (ls : Array Slot), kH D A s H locs [(r0, .inl (cI, 84, .inl u0))] → lv_has ls 5 [(4, .int i8), (3, .int i1), (0, .ref r0), (1, .int p1), (2, .int p2)] → W p l e (kRm 3 75 0 0) s m args below meth c H locs 0 0 Q (F0 m 11 ls []) := by
          intro n
          induction n with
          | zero => intro i8 hx10; exact (lpI_0 hx10).elim
          | succ n ih14 =>
            intro i8 hx10 H locs ls hW hl
            obtain ⟨ooho9, ho9, hx10⟩ := lpI_s hx10
            unfold pX10_kthPlace_L11 at ho9
            refine lv_iload hx hb dX10_kthPlace_11 (lv_at hl 0 rfl) ?_
            refine lv_aload_n hx hb dX10_kthPlace_13 rfl (lv_at hl 2 rfl) ?_
            refine lv_iload_n hx hb dX10_kthPlace_14 rfl (lv_at hl 3 rfl) ?_
            refine lv_iload_n hx hb dX10_kthPlace_15 rfl (lv_at hl 1 rfl) ?_
            obtain ⟨v15, h16, ho9⟩ := bd1_s ho9
            refine k_callSR (As := [.ref r0, .int p1, .int i1]) (n := 3) (rest := [.int i8]) (st1 := [.int v15, .int i8]) C hE hW hl.1 (kX10_length l D cI cZ cJ _ r0 u0 p1 i1 v15 h16) gX10_kthPlace_X10_length rfl (by decide +kernel) rfl ⟨Nat.le_of_ble_eq_true rfl, Nat.le_of_ble_eq_true rfl⟩ ⟨Nat.zero_le _, Nat.zero_le _⟩ [0] rfl rfl (Nat.le_of_ble_eq_true rfl) rfl rfl dX10_kthPlace_16 (fun H locs hW => ?_)
            refine lv_icmp_ge (tgt := 48) hx hb dX10_kthPlace_19 (by decide) (fun hc => ?_) (fun hc => ?_)
            · replace ho9 := if_t hc ho9
              obtain rfl := Option.some.inj ho9
              obtain rfl := lpK_r hx10
              replace ho2 := el_r ho2
              exact J11 ho2 _ _ _ hW (lv_sub hl [1, 2, 3, 4] rfl)
            · replace ho9 := if_f hc ho9
              refine lv_aload_n hx hb dX10_kthPlace_22 rfl (lv_at hl 2 rfl) ?_
              refine lv_iload_n hx hb dX10_kthPlace_23 rfl (lv_at hl 3 rfl) ?_
              refine lv_iload_n hx hb dX10_kthPlace_24 rfl (lv_at hl 1 rfl) ?_
              refine lv_iload hx hb dX10_kthPlace_25 (lv_at hl 0 rfl) ?_
              obtain ⟨v17, h18, ho9⟩ := bd1_s ho9
              refine k_callSR (As := [.ref r0, .int p1, .int i1, .int i8]) (n := 4) (rest := []) (st1 := [.int v17]) C hE hW hl.1 (kX10_rankOf l D cI cZ cJ _ r0 u0 p1 i1 i8 v17 h18) gX10_kthPlace_X10_rankOf rfl (by decide +kernel) rfl ⟨Nat.le_of_ble_eq_true rfl, Nat.le_of_ble_eq_true rfl⟩ ⟨Nat.zero_le _, Nat.zero_le _⟩ [0] rfl rfl (Nat.le_of_ble_eq_true rfl) rfl rfl dX10_kthPlace_27 (fun H locs hW => ?_)
              refine lv_iload_n hx hb dX10_kthPlace_30 rfl (lv_at hl 4 rfl) ?_
              refine lv_icmp_ne (tgt := 42) hx hb dX10_kthPlace_31 (by decide) (fun hc => ?_) (fun hc => ?_)
              · replace ho9 := if_f hc ho9
                refine lv_iinc (v := (i8 + 1)) (lv' := [(4, .int (i8 + 1)), (3, .int i1), (0, .ref r0), (1, .int p1), (2, .int p2)]) hx hb dX10_kthPlace_42 hl (k := 0) rfl rfl (by decide) rfl (fun ls hl => ?_)
                refine lv_goto (tgt := 11) hx hb dX10_kthPlace_45 (by decide) ?_
                obtain rfl := Option.some.inj ho9
                exact ih14 _ hx10 _ _ _ hW (lv_sub hl [0, 1, 2, 3, 4] rfl)
              · replace ho9 := if_t hc ho9
                refine lv_bipush (v := 10) hx hb dX10_kthPlace_34 (by decide) ?_
                refine lv_iload_n hx hb dX10_kthPlace_36 rfl (lv_at hl 1 rfl) ?_
                refine lv_imul hx hb dX10_kthPlace_37 ?_
                refine lv_iload hx hb dX10_kthPlace_38 (lv_at hl 0 rfl) ?_
                refine lv_iadd hx hb dX10_kthPlace_40 ?_
                obtain rfl := Option.some.inj ho9
                obtain rfl := lpK_r hx10
                replace ho2 := el_l ho2
                obtain rfl := Option.some.inj ho2
                obtain rfl := lpK_r hx3
                replace hf := el_l hf
                obtain rfl := Option.some.inj hf
                exact k_iret C hlocks hr hW hQ dX10_kthPlace_41
        exact L12 lpF _ hx100 _ _ _ hW (lv_sub hl [0, 1, 2, 3, 4] rfl)
  exact L5 lpF _ hx30 _ _ _ hW (lv_sub hl [0, 1, 2, 3] rfl)

set_option maxHeartbeats 4000000 in
set_option maxRecDepth 100000 in
theorem kX10_kth (l : Launch) (D : va_G) (cI cZ cJ : ClassId) (sz : Nat) (q q_now q_script q_readRow q_trial q_diary q_kept q_isKept q_sums q_primes q_turned : Nat) (u_refusal : Int32) (u_scriptSize : Int32) (u_spot : Int32) (u_acts : Int32) (u_slides : Int32) (u_now : Nat → Int32) (p0 : Int32) (p1 : Int32) (p2 : Int32) (r : Int32) (u_refusal' : Int32) (hf : pX10_kth u_refusal u_now p0 p1 p2 = some (r, u_refusal')) : kMet l D cI cZ cJ yX10_kth wsX10_kth 4 99 [.ref q, .int p0, .int p1, .int p2] [(q, .inr (9, [.int u_refusal, .ref q_script, .int u_scriptSize, .int u_spot, .ref q_readRow, .ref q_now, .ref q_trial, .ref q_diary, .int u_acts, .ref q_kept, .ref q_isKept, .int u_slides, .ref q_sums, .ref q_primes, .ref q_turned])), (q_now, .inl (cI, 84, .inl u_now))] sz (some (.int r)) [(q, .inr (9, [.int u_refusal', .ref q_script, .int u_scriptSize, .int u_spot, .ref q_readRow, .ref q_now, .ref q_trial, .ref q_diary, .int u_acts, .ref q_kept, .ref q_isKept, .int u_slides, .ref q_sums, .ref q_primes, .ref q_turned])), (q_now, .inl (cI, 84, .inl u_now))] := by
  refine kM_of (cc := cX10_kth) (maxL := 5) (ret := (some .int)) (by decide) rfl (Nat.le_of_ble_eq_true rfl) ?_
  intro p e s m args below meth c A Q ls hQ C hlocks hr hE hW hl
  have hx := C.1
  have hb := C.2.1
  have hts := C.2.2.2.2
  have hl : lv_has ls 5 [(0, .ref q), (1, .int p0), (2, .int p1), (3, .int p2)] := hl
  have iX10 : ∀ w ∈ u_ws RX10 TX10 15, w ∈ wsX10_kth := by decide +kernel
  have f16 := hts (.fieldLink RX10 16 "SortedTablesModel" "now" "[I") (by decide +kernel)
  unfold pX10_kth at hf
  refine lv_aload_n hx hb dX10_kth_0 rfl (lv_at hl 0 rfl) ?_
  refine lv_iload_n hx hb dX10_kth_1 rfl (lv_at hl 1 rfl) ?_
  obtain ⟨v1, h2, hf⟩ := bd1_s hf
  refine k_callSR (As := [.int p0]) (n := 1) (rest := [.ref q]) (st1 := [.int v1, .ref q]) C hE hW hl.1 (kX10_isTable l D cI cZ cJ _ p0 v1 h2) gX10_kth_X10_isTable rfl (by decide +kernel) rfl ⟨Nat.le_of_ble_eq_true rfl, Nat.le_of_ble_eq_true rfl⟩ ⟨Nat.zero_le _, Nat.zero_le _⟩ [] rfl rfl (Nat.le_of_ble_eq_true rfl) rfl rfl dX10_kth_2 (fun H locs hW => ?_)
  obtain ⟨j3, hd4, hf⟩ := bd1_s hf
  have J5 : ∀ (H : Heap) (locs : List Loc) (ls : Array Slot), kH D A s H locs [(q, .inr (9, [.int u_refusal, .ref q_script, .int u_scriptSize, .int u_spot, .ref q_readRow, .ref q_now, .ref q_trial, .ref q_diary, .int u_acts, .ref q_kept, .ref q_isKept, .int u_slides, .ref q_sums, .ref q_primes, .ref q_turned])), (q_now, .inl (cI, 84, .inl u_now))] → lv_has ls 5 [(0, .ref q), (1, .int p0), (2, .int p1), (3, .int p2)] → W p l e (kRm 4 99 0 0) s m args below meth c H locs 0 0 Q (F0 m 21 ls [.int j3, .ref q]) := by
    intro H locs ls hW hl
    obtain ⟨⟨v6, w7⟩, h8, hf⟩ := bd1_s hf
    replace hf := un2_s hf
    refine k_callV (b := q) (ci := 9) (qb := 0) (As := [.int j3]) (n := 1) (rest := []) (st1 := [.int v6]) (wr := [(q_now, .inl (cI, 84, .inl u_now))]) (ws' := [(q, .inr (9, [.int w7, .ref q_script, .int u_scriptSize, .int u_spot, .ref q_readRow, .ref q_now, .ref q_trial, .ref q_diary, .int u_acts, .ref q_kept, .ref q_isKept, .int u_slides, .ref q_sums, .ref q_primes, .ref q_turned])), (q_now, .inl (cI, 84, .inl u_now))]) C hE hW hl.1 (kX10_refused l D cI cZ cJ _ q q_script q_readRow q_now q_trial q_diary q_kept q_isKept q_sums q_primes q_turned u_refusal u_scriptSize u_spot u_acts u_slides j3 v6 w7 h8) gX10_kth_X10_refused rfl (by decide +kernel) rfl ⟨Nat.le_of_ble_eq_true rfl, Nat.le_of_ble_eq_true rfl⟩ ⟨Nat.zero_le _, Nat.zero_le _⟩ rfl rfl [0] [1] [1, 0] rfl rfl rfl rfl (by decide) rfl rfl (Nat.le_of_ble_eq_true rfl) rfl rfl dX10_kth_21 (fun H locs hW => ?_)
    refine lv_if_eq (tgt := 29) hx hb dX10_kth_24 (by decide) (fun hc => ?_) (fun hc => ?_)
    · replace hf := if_t hc hf
      refine lv_aload_n hx hb dX10_kth_29 rfl (lv_at hl 0 rfl) ?_
      refine k_get C hE hW iX10 0 rfl rfl 5 (by decide) f16 (fun _ h9 => h9) rfl dX10_kth_30 ?_
      refine lv_iload_n hx hb dX10_kth_33 rfl (lv_at hl 1 rfl) ?_
      refine lv_iload_n hx hb dX10_kth_34 rfl (lv_at hl 2 rfl) ?_
      obtain ⟨v9, h10, hf⟩ := bd1_s hf
      refine k_callSR (As := [.ref q_now, .int p0, .int p1]) (n := 3) (rest := []) (st1 := [.int v9]) C hE hW hl.1 (kX10_kthPlace l D cI cZ cJ _ q_now u_now p0 p1 v9 h10) gX10_kth_X10_kthPlace rfl (by decide +kernel) rfl ⟨Nat.le_of_ble_eq_true rfl, Nat.le_of_ble_eq_true rfl⟩ ⟨Nat.zero_le _, Nat.zero_le _⟩ [1] rfl rfl (Nat.le_of_ble_eq_true rfl) rfl rfl dX10_kth_35 (fun H locs hW => ?_)
      refine lv_istore (lv' := [(4, .int v9), (0, .ref q), (1, .int p0), (2, .int p1), (3, .int p2)]) hx hb dX10_kth_38 hl (by decide) rfl (fun ls hl => ?_)
      refine lv_iload hx hb dX10_kth_40 (lv_at hl 0 rfl) ?_
      refine lv_bipush (v := (-9)) hx hb dX10_kth_42 (by decide) ?_
      refine lv_icmp_eq (tgt := 51) hx hb dX10_kth_44 (by decide) (fun hc => ?_) (fun hc => ?_)
      · replace hf := if_t hc hf
        refine lv_iload hx hb dX10_kth_51 (lv_at hl 0 rfl) ?_
        refine lv_goto (tgt := 74) hx hb dX10_kth_53 (by decide) ?_
        obtain ⟨rfl, rfl⟩ := sm2 hf
        exact k_iret C hlocks hr hW hQ dX10_kth_74
      · replace hf := if_f hc hf
        refine lv_iload_n hx hb dX10_kth_47 rfl (lv_at hl 4 rfl) ?_
        refine lv_if_eq (tgt := 56) hx hb dX10_kth_48 (by decide) (fun hc => ?_) (fun hc => ?_)
        · replace hf := if_t hc hf
          refine lv_aload_n hx hb dX10_kth_56 rfl (lv_at hl 1 rfl) ?_
          refine k_get C hE hW iX10 0 rfl rfl 5 (by decide) f16 (fun _ h9 => h9) rfl dX10_kth_57 ?_
          refine lv_iload_n hx hb dX10_kth_60 rfl (lv_at hl 2 rfl) ?_
          refine lv_iload hx hb dX10_kth_61 (lv_at hl 0 rfl) ?_
          refine lv_bipush (v := 10) hx hb dX10_kth_63 (by decide) ?_
          refine lv_idiv hx hb dX10_kth_65 (by decide) ?_
          refine lv_iload hx hb dX10_kth_66 (lv_at hl 0 rfl) ?_
          refine lv_bipush (v := 10) hx hb dX10_kth_68 (by decide) ?_
          refine lv_irem hx hb dX10_kth_70 (by decide) ?_
          obtain ⟨v11, h12, hf⟩ := bd1_s hf
          refine k_callSR (As := [.ref q_now, .int p0, .int (v9 / 10), .int (irm v9 10)]) (n := 4) (rest := []) (st1 := [.int v11]) C hE hW hl.1 (kX10_get l D cI cZ cJ _ q_now u_now p0 (v9 / 10) (irm v9 10) v11 h12) gX10_kth_X10_get rfl (by decide +kernel) rfl ⟨Nat.le_of_ble_eq_true rfl, Nat.le_of_ble_eq_true rfl⟩ ⟨Nat.zero_le _, Nat.zero_le _⟩ [1] rfl rfl (Nat.le_of_ble_eq_true rfl) rfl rfl dX10_kth_71 (fun H locs hW => ?_)
          obtain ⟨rfl, rfl⟩ := sm2 hf
          exact k_iret C hlocks hr hW hQ dX10_kth_74
        · replace hf := if_f hc hf
          refine lv_iload hx hb dX10_kth_51 (lv_at hl 0 rfl) ?_
          refine lv_goto (tgt := 74) hx hb dX10_kth_53 (by decide) ?_
          obtain ⟨rfl, rfl⟩ := sm2 hf
          exact k_iret C hlocks hr hW hQ dX10_kth_74
    · replace hf := if_f hc hf
      refine lv_iconst (v := 0) hx hb dX10_kth_27 (by decide) ?_
      obtain ⟨rfl, rfl⟩ := sm2 hf
      exact k_iret C hlocks hr hW hQ dX10_kth_28
  refine lv_if_ne (tgt := 12) hx hb dX10_kth_5 (by decide) (fun hc => ?_) (fun hc => ?_)
  · replace hd4 := if_f hc hd4
    refine lv_iload_n hx hb dX10_kth_12 rfl (lv_at hl 2 rfl) ?_
    refine lv_if_ge (tgt := 20) hx hb dX10_kth_13 (by decide) (fun hc => ?_) (fun hc => ?_)
    · replace hd4 := if_t hc hd4
      refine lv_iconst (v := 0) hx hb dX10_kth_20 (by decide) ?_
      obtain rfl := Option.some.inj hd4
      exact J5 _ _ _ hW (lv_sub hl [0, 1, 2, 3] rfl)
    · replace hd4 := if_f hc hd4
      refine lv_iconst (v := 2) hx hb dX10_kth_16 (by decide) ?_
      refine lv_goto (tgt := 21) hx hb dX10_kth_17 (by decide) ?_
      obtain rfl := Option.some.inj hd4
      exact J5 _ _ _ hW (lv_sub hl [0, 1, 2, 3] rfl)
  · replace hd4 := if_t hc hd4
    refine lv_iconst (v := 1) hx hb dX10_kth_8 (by decide) ?_
    refine lv_goto (tgt := 21) hx hb dX10_kth_9 (by decide) ?_
    obtain rfl := Option.some.inj hd4
    exact J5 _ _ _ hW (lv_sub hl [0, 1, 2, 3] rfl)

set_option maxHeartbeats 4000000 in
set_option maxRecDepth 100000 in
theorem kX10_rank (l : Launch) (D : va_G) (cI cZ cJ : ClassId) (sz : Nat) (q q_now q_script q_readRow q_trial q_diary q_kept q_isKept q_sums q_primes q_turned : Nat) (u_refusal : Int32) (u_scriptSize : Int32) (u_spot : Int32) (u_acts : Int32) (u_slides : Int32) (u_now : Nat → Int32) (p0 : Int32) (p1 : Int32) (p2 : Int32) (r : Int32) (u_refusal' : Int32) (hf : pX10_rank u_refusal u_now p0 p1 p2 = some (r, u_refusal')) : kMet l D cI cZ cJ yX10_rank wsX10_rank 4 93 [.ref q, .int p0, .int p1, .int p2] [(q, .inr (9, [.int u_refusal, .ref q_script, .int u_scriptSize, .int u_spot, .ref q_readRow, .ref q_now, .ref q_trial, .ref q_diary, .int u_acts, .ref q_kept, .ref q_isKept, .int u_slides, .ref q_sums, .ref q_primes, .ref q_turned])), (q_now, .inl (cI, 84, .inl u_now))] sz (some (.int r)) [(q, .inr (9, [.int u_refusal', .ref q_script, .int u_scriptSize, .int u_spot, .ref q_readRow, .ref q_now, .ref q_trial, .ref q_diary, .int u_acts, .ref q_kept, .ref q_isKept, .int u_slides, .ref q_sums, .ref q_primes, .ref q_turned])), (q_now, .inl (cI, 84, .inl u_now))] := by
  refine kM_of (cc := cX10_rank) (maxL := 4) (ret := (some .int)) (by decide) rfl (Nat.le_of_ble_eq_true rfl) ?_
  intro p e s m args below meth c A Q ls hQ C hlocks hr hE hW hl
  have hx := C.1
  have hb := C.2.1
  have hts := C.2.2.2.2
  have hl : lv_has ls 4 [(0, .ref q), (1, .int p0), (2, .int p1), (3, .int p2)] := hl
  have iX10 : ∀ w ∈ u_ws RX10 TX10 15, w ∈ wsX10_rank := by decide +kernel
  have f16 := hts (.fieldLink RX10 16 "SortedTablesModel" "now" "[I") (by decide +kernel)
  unfold pX10_rank at hf
  refine lv_aload_n hx hb dX10_rank_0 rfl (lv_at hl 0 rfl) ?_
  refine lv_aload_n hx hb dX10_rank_1 rfl (lv_at hl 0 rfl) ?_
  refine lv_iload_n hx hb dX10_rank_2 rfl (lv_at hl 1 rfl) ?_
  refine lv_iload_n hx hb dX10_rank_3 rfl (lv_at hl 2 rfl) ?_
  refine lv_iload_n hx hb dX10_rank_4 rfl (lv_at hl 3 rfl) ?_
  obtain ⟨v1, h2, hf⟩ := bd1_s hf
  refine k_callVR (b := q) (ci := 9) (qb := 0) (As := [.int p0, .int p1, .int p2]) (n := 3) (rest := [.ref q]) (st1 := [.int v1, .ref q]) C hE hW hl.1 (kX10_have l D cI cZ cJ _ q q_now q_script q_readRow q_trial q_diary q_kept q_isKept q_sums q_primes q_turned u_refusal u_scriptSize u_spot u_acts u_slides u_now p0 p1 p2 v1 h2) gX10_rank_X10_have rfl (by decide +kernel) rfl ⟨Nat.le_of_ble_eq_true rfl, Nat.le_of_ble_eq_true rfl⟩ ⟨Nat.zero_le _, Nat.zero_le _⟩ rfl rfl [0, 1] rfl rfl (Nat.le_of_ble_eq_true rfl) rfl rfl dX10_rank_5 (fun H locs hW => ?_)
  obtain ⟨j3, hd4, hf⟩ := bd1_s hf
  have J5 : ∀ (H : Heap) (locs : List Loc) (ls : Array Slot), kH D A s H locs [(q, .inr (9, [.int u_refusal, .ref q_script, .int u_scriptSize, .int u_spot, .ref q_readRow, .ref q_now, .ref q_trial, .ref q_diary, .int u_acts, .ref q_kept, .ref q_isKept, .int u_slides, .ref q_sums, .ref q_primes, .ref q_turned])), (q_now, .inl (cI, 84, .inl u_now))] → lv_has ls 4 [(0, .ref q), (1, .int p0), (2, .int p1), (3, .int p2)] → W p l e (kRm 4 93 0 0) s m args below meth c H locs 0 0 Q (F0 m 16 ls [.int j3, .ref q]) := by
    intro H locs ls hW hl
    obtain ⟨⟨v6, w7⟩, h8, hf⟩ := bd1_s hf
    replace hf := un2_s hf
    refine k_callV (b := q) (ci := 9) (qb := 0) (As := [.int j3]) (n := 1) (rest := []) (st1 := [.int v6]) (wr := [(q_now, .inl (cI, 84, .inl u_now))]) (ws' := [(q, .inr (9, [.int w7, .ref q_script, .int u_scriptSize, .int u_spot, .ref q_readRow, .ref q_now, .ref q_trial, .ref q_diary, .int u_acts, .ref q_kept, .ref q_isKept, .int u_slides, .ref q_sums, .ref q_primes, .ref q_turned])), (q_now, .inl (cI, 84, .inl u_now))]) C hE hW hl.1 (kX10_refused l D cI cZ cJ _ q q_script q_readRow q_now q_trial q_diary q_kept q_isKept q_sums q_primes q_turned u_refusal u_scriptSize u_spot u_acts u_slides j3 v6 w7 h8) gX10_rank_X10_refused rfl (by decide +kernel) rfl ⟨Nat.le_of_ble_eq_true rfl, Nat.le_of_ble_eq_true rfl⟩ ⟨Nat.zero_le _, Nat.zero_le _⟩ rfl rfl [0] [1] [1, 0] rfl rfl rfl rfl (by decide) rfl rfl (Nat.le_of_ble_eq_true rfl) rfl rfl dX10_rank_16 (fun H locs hW => ?_)
    refine lv_if_eq (tgt := 24) hx hb dX10_rank_19 (by decide) (fun hc => ?_) (fun hc => ?_)
    · replace hf := if_t hc hf
      refine lv_aload_n hx hb dX10_rank_24 rfl (lv_at hl 0 rfl) ?_
      refine k_get C hE hW iX10 0 rfl rfl 5 (by decide) f16 (fun _ h9 => h9) rfl dX10_rank_25 ?_
      refine lv_iload_n hx hb dX10_rank_28 rfl (lv_at hl 1 rfl) ?_
      refine lv_iload_n hx hb dX10_rank_29 rfl (lv_at hl 2 rfl) ?_
      refine lv_iload_n hx hb dX10_rank_30 rfl (lv_at hl 3 rfl) ?_
      obtain ⟨v9, h10, hf⟩ := bd1_s hf
      refine k_callSR (As := [.ref q_now, .int p0, .int p1, .int p2]) (n := 4) (rest := []) (st1 := [.int v9]) C hE hW hl.1 (kX10_rankOf l D cI cZ cJ _ q_now u_now p0 p1 p2 v9 h10) gX10_rank_X10_rankOf rfl (by decide +kernel) rfl ⟨Nat.le_of_ble_eq_true rfl, Nat.le_of_ble_eq_true rfl⟩ ⟨Nat.zero_le _, Nat.zero_le _⟩ [1] rfl rfl (Nat.le_of_ble_eq_true rfl) rfl rfl dX10_rank_31 (fun H locs hW => ?_)
      obtain ⟨rfl, rfl⟩ := sm2 hf
      exact k_iret C hlocks hr hW hQ dX10_rank_34
    · replace hf := if_f hc hf
      refine lv_iconst (v := 0) hx hb dX10_rank_22 (by decide) ?_
      obtain ⟨rfl, rfl⟩ := sm2 hf
      exact k_iret C hlocks hr hW hQ dX10_rank_23
  refine lv_if_eq (tgt := 15) hx hb dX10_rank_8 (by decide) (fun hc => ?_) (fun hc => ?_)
  · replace hd4 := if_t hc hd4
    refine lv_iconst (v := 1) hx hb dX10_rank_15 (by decide) ?_
    obtain rfl := Option.some.inj hd4
    exact J5 _ _ _ hW (lv_sub hl [0, 1, 2, 3] rfl)
  · replace hd4 := if_f hc hd4
    refine lv_iconst (v := 0) hx hb dX10_rank_11 (by decide) ?_
    refine lv_goto (tgt := 16) hx hb dX10_rank_12 (by decide) ?_
    obtain rfl := Option.some.inj hd4
    exact J5 _ _ _ hW (lv_sub hl [0, 1, 2, 3] rfl)

set_option maxHeartbeats 4000000 in
set_option maxRecDepth 100000 in
theorem kX10_isWindow (l : Launch) (D : va_G) (cI cZ cJ : ClassId) (sz : Nat) (p0 : Int32) (p1 : Int32) (p2 : Int32) (p3 : Int32) (r : Int32) (hf : pX10_isWindow p0 p1 p2 p3 = some r) : kMet l D cI cZ cJ yX10_isWindow wsX10_isWindow 1 25 [.int p0, .int p1, .int p2, .int p3] [] sz (some (.int r)) [] := by
  refine kM_of (cc := cX10_isWindow) (maxL := 4) (ret := (some .boolean)) (by decide) rfl (Nat.le_of_ble_eq_true rfl) ?_
  intro p e s m args below meth c A Q ls hQ C hlocks hr hE hW hl
  have hx := C.1
  have hb := C.2.1
  have hts := C.2.2.2.2
  have hl : lv_has ls 4 [(0, .int p0), (1, .int p1), (2, .int p2), (3, .int p3)] := hl
  unfold pX10_isWindow at hf
  refine lv_iload_n hx hb dX10_isWindow_0 rfl (lv_at hl 0 rfl) ?_
  refine lv_i2l hx hb dX10_isWindow_1 rfl ?_
  refine lv_lconst (v := 0) hx hb dX10_isWindow_2 (by decide) ?_
  refine lv_ldc2 (v := 5) hx hb C.2.2.2.1 (hts (.constantLong RX10 58 (5)) (by decide +kernel)) dX10_isWindow_3 ?_
  obtain ⟨v1, h2, hf⟩ := bd1_s hf
  refine k_callSR (As := [.long (p0 : Int32).toInt64, .long 0, .long 5]) (n := 3) (rest := []) (st1 := [.int v1]) C hE hW hl.1 (kX10_in l D cI cZ cJ _ (p0 : Int32).toInt64 0 5 v1 h2) gX10_isWindow_X10_in rfl (by decide +kernel) rfl ⟨Nat.le_of_ble_eq_true rfl, Nat.le_of_ble_eq_true rfl⟩ ⟨Nat.zero_le _, Nat.zero_le _⟩ [] rfl rfl (Nat.le_of_ble_eq_true rfl) rfl rfl dX10_isWindow_6 (fun H locs hW => ?_)
  refine lv_if_eq (tgt := 52) hx hb dX10_isWindow_9 (by decide) (fun hc => ?_) (fun hc => ?_)
  · replace hf := if_t hc hf
    refine lv_iconst (v := 0) hx hb dX10_isWindow_52 (by decide) ?_
    obtain rfl := Option.some.inj hf
    exact k_zret C hlocks hr hW (by decide) hQ dX10_isWindow_53
  · replace hf := if_f hc hf
    refine lv_iload_n hx hb dX10_isWindow_12 rfl (lv_at hl 1 rfl) ?_
    refine lv_i2l hx hb dX10_isWindow_13 rfl ?_
    refine lv_lconst (v := 0) hx hb dX10_isWindow_14 (by decide) ?_
    refine lv_ldc2 (v := 5) hx hb C.2.2.2.1 (hts (.constantLong RX10 58 (5)) (by decide +kernel)) dX10_isWindow_15 ?_
    obtain ⟨v3, h4, hf⟩ := bd1_s hf
    refine k_callSR (As := [.long (p1 : Int32).toInt64, .long 0, .long 5]) (n := 3) (rest := []) (st1 := [.int v3]) C hE hW hl.1 (kX10_in l D cI cZ cJ _ (p1 : Int32).toInt64 0 5 v3 h4) gX10_isWindow_X10_in rfl (by decide +kernel) rfl ⟨Nat.le_of_ble_eq_true rfl, Nat.le_of_ble_eq_true rfl⟩ ⟨Nat.zero_le _, Nat.zero_le _⟩ [] rfl rfl (Nat.le_of_ble_eq_true rfl) rfl rfl dX10_isWindow_18 (fun H locs hW => ?_)
    refine lv_if_eq (tgt := 52) hx hb dX10_isWindow_21 (by decide) (fun hc => ?_) (fun hc => ?_)
    · replace hf := if_t hc hf
      refine lv_iconst (v := 0) hx hb dX10_isWindow_52 (by decide) ?_
      obtain rfl := Option.some.inj hf
      exact k_zret C hlocks hr hW (by decide) hQ dX10_isWindow_53
    · replace hf := if_f hc hf
      refine lv_iload_n hx hb dX10_isWindow_24 rfl (lv_at hl 2 rfl) ?_
      refine lv_i2l hx hb dX10_isWindow_25 rfl ?_
      refine lv_lconst (v := 1) hx hb dX10_isWindow_26 (by decide) ?_
      refine lv_ldc2 (v := 6) hx hb C.2.2.2.1 (hts (.constantLong RX10 187 (6)) (by decide +kernel)) dX10_isWindow_27 ?_
      obtain ⟨v5, h6, hf⟩ := bd1_s hf
      refine k_callSR (As := [.long (p2 : Int32).toInt64, .long 1, .long 6]) (n := 3) (rest := []) (st1 := [.int v5]) C hE hW hl.1 (kX10_in l D cI cZ cJ _ (p2 : Int32).toInt64 1 6 v5 h6) gX10_isWindow_X10_in rfl (by decide +kernel) rfl ⟨Nat.le_of_ble_eq_true rfl, Nat.le_of_ble_eq_true rfl⟩ ⟨Nat.zero_le _, Nat.zero_le _⟩ [] rfl rfl (Nat.le_of_ble_eq_true rfl) rfl rfl dX10_isWindow_30 (fun H locs hW => ?_)
      refine lv_if_eq (tgt := 52) hx hb dX10_isWindow_33 (by decide) (fun hc => ?_) (fun hc => ?_)
      · replace hf := if_t hc hf
        refine lv_iconst (v := 0) hx hb dX10_isWindow_52 (by decide) ?_
        obtain rfl := Option.some.inj hf
        exact k_zret C hlocks hr hW (by decide) hQ dX10_isWindow_53
      · replace hf := if_f hc hf
        refine lv_iload_n hx hb dX10_isWindow_36 rfl (lv_at hl 3 rfl) ?_
        refine lv_i2l hx hb dX10_isWindow_37 rfl ?_
        refine lv_lconst (v := 1) hx hb dX10_isWindow_38 (by decide) ?_
        refine lv_ldc2 (v := 6) hx hb C.2.2.2.1 (hts (.constantLong RX10 187 (6)) (by decide +kernel)) dX10_isWindow_39 ?_
        obtain ⟨v7, h8, hf⟩ := bd1_s hf
        refine k_callSR (As := [.long (p3 : Int32).toInt64, .long 1, .long 6]) (n := 3) (rest := []) (st1 := [.int v7]) C hE hW hl.1 (kX10_in l D cI cZ cJ _ (p3 : Int32).toInt64 1 6 v7 h8) gX10_isWindow_X10_in rfl (by decide +kernel) rfl ⟨Nat.le_of_ble_eq_true rfl, Nat.le_of_ble_eq_true rfl⟩ ⟨Nat.zero_le _, Nat.zero_le _⟩ [] rfl rfl (Nat.le_of_ble_eq_true rfl) rfl rfl dX10_isWindow_42 (fun H locs hW => ?_)
        refine lv_if_eq (tgt := 52) hx hb dX10_isWindow_45 (by decide) (fun hc => ?_) (fun hc => ?_)
        · replace hf := if_t hc hf
          refine lv_iconst (v := 0) hx hb dX10_isWindow_52 (by decide) ?_
          obtain rfl := Option.some.inj hf
          exact k_zret C hlocks hr hW (by decide) hQ dX10_isWindow_53
        · replace hf := if_f hc hf
          refine lv_iconst (v := 1) hx hb dX10_isWindow_48 (by decide) ?_
          refine lv_goto (tgt := 53) hx hb dX10_isWindow_49 (by decide) ?_
          obtain rfl := Option.some.inj hf
          exact k_zret C hlocks hr hW (by decide) hQ dX10_isWindow_53

set_option maxHeartbeats 4000000 in
set_option maxRecDepth 100000 in
theorem kX10_windowCount (l : Launch) (D : va_G) (cI cZ cJ : ClassId) (sz : Nat) (q q_now q_script q_readRow q_trial q_diary q_kept q_isKept q_sums q_primes q_turned : Nat) (u_refusal : Int32) (u_scriptSize : Int32) (u_spot : Int32) (u_acts : Int32) (u_slides : Int32) (u_now : Nat → Int32) (p0 : Int32) (p1 : Int32) (p2 : Int32) (p3 : Int32) (p4 : Int32) (p5 : Int32) (r : Int32) (u_refusal' : Int32) (hf : pX10_windowCount u_refusal u_now p0 p1 p2 p3 p4 p5 = some (r, u_refusal')) : kMet l D cI cZ cJ yX10_windowCount wsX10_windowCount 3 76 [.ref q, .int p0, .int p1, .int p2, .int p3, .int p4, .int p5] [(q, .inr (9, [.int u_refusal, .ref q_script, .int u_scriptSize, .int u_spot, .ref q_readRow, .ref q_now, .ref q_trial, .ref q_diary, .int u_acts, .ref q_kept, .ref q_isKept, .int u_slides, .ref q_sums, .ref q_primes, .ref q_turned])), (q_now, .inl (cI, 84, .inl u_now))] sz (some (.int r)) [(q, .inr (9, [.int u_refusal', .ref q_script, .int u_scriptSize, .int u_spot, .ref q_readRow, .ref q_now, .ref q_trial, .ref q_diary, .int u_acts, .ref q_kept, .ref q_isKept, .int u_slides, .ref q_sums, .ref q_primes, .ref q_turned])), (q_now, .inl (cI, 84, .inl u_now))] := by
  refine kM_of (cc := cX10_windowCount) (maxL := 7) (ret := (some .int)) (by decide) rfl (Nat.le_of_ble_eq_true rfl) ?_
  intro p e s m args below meth c A Q ls hQ C hlocks hr hE hW hl
  have hx := C.1
  have hb := C.2.1
  have hts := C.2.2.2.2
  have hl : lv_has ls 7 [(0, .ref q), (1, .int p0), (2, .int p1), (3, .int p2), (4, .int p3), (5, .int p4), (6, .int p5)] := hl
  have iX10 : ∀ w ∈ u_ws RX10 TX10 15, w ∈ wsX10_windowCount := by decide +kernel
  have f16 := hts (.fieldLink RX10 16 "SortedTablesModel" "now" "[I") (by decide +kernel)
  unfold pX10_windowCount at hf
  refine lv_aload_n hx hb dX10_windowCount_0 rfl (lv_at hl 0 rfl) ?_
  refine lv_iload_n hx hb dX10_windowCount_1 rfl (lv_at hl 1 rfl) ?_
  obtain ⟨v1, h2, hf⟩ := bd1_s hf
  refine k_callSR (As := [.int p0]) (n := 1) (rest := [.ref q]) (st1 := [.int v1, .ref q]) C hE hW hl.1 (kX10_isTable l D cI cZ cJ _ p0 v1 h2) gX10_windowCount_X10_isTable rfl (by decide +kernel) rfl ⟨Nat.le_of_ble_eq_true rfl, Nat.le_of_ble_eq_true rfl⟩ ⟨Nat.zero_le _, Nat.zero_le _⟩ [] rfl rfl (Nat.le_of_ble_eq_true rfl) rfl rfl dX10_windowCount_2 (fun H locs hW => ?_)
  obtain ⟨j3, hd4, hf⟩ := bd1_s hf
  have J5 : ∀ (H : Heap) (locs : List Loc) (ls : Array Slot), kH D A s H locs [(q, .inr (9, [.int u_refusal, .ref q_script, .int u_scriptSize, .int u_spot, .ref q_readRow, .ref q_now, .ref q_trial, .ref q_diary, .int u_acts, .ref q_kept, .ref q_isKept, .int u_slides, .ref q_sums, .ref q_primes, .ref q_turned])), (q_now, .inl (cI, 84, .inl u_now))] → lv_has ls 7 [(0, .ref q), (1, .int p0), (2, .int p1), (3, .int p2), (4, .int p3), (5, .int p4), (6, .int p5)] → W p l e (kRm 3 76 0 0) s m args below meth c H locs 0 0 Q (F0 m 37 ls [.int j3, .ref q]) := by
    intro H locs ls hW hl
    obtain ⟨⟨v10, w11⟩, h12, hf⟩ := bd1_s hf
    replace hf := un2_s hf
    refine k_callV (b := q) (ci := 9) (qb := 0) (As := [.int j3]) (n := 1) (rest := []) (st1 := [.int v10]) (wr := [(q_now, .inl (cI, 84, .inl u_now))]) (ws' := [(q, .inr (9, [.int w11, .ref q_script, .int u_scriptSize, .int u_spot, .ref q_readRow, .ref q_now, .ref q_trial, .ref q_diary, .int u_acts, .ref q_kept, .ref q_isKept, .int u_slides, .ref q_sums, .ref q_primes, .ref q_turned])), (q_now, .inl (cI, 84, .inl u_now))]) C hE hW hl.1 (kX10_refused l D cI cZ cJ _ q q_script q_readRow q_now q_trial q_diary q_kept q_isKept q_sums q_primes q_turned u_refusal u_scriptSize u_spot u_acts u_slides j3 v10 w11 h12) gX10_windowCount_X10_refused rfl (by decide +kernel) rfl ⟨Nat.le_of_ble_eq_true rfl, Nat.le_of_ble_eq_true rfl⟩ ⟨Nat.zero_le _, Nat.zero_le _⟩ rfl rfl [0] [1] [1, 0] rfl rfl rfl rfl (by decide) rfl rfl (Nat.le_of_ble_eq_true rfl) rfl rfl dX10_windowCount_37 (fun H locs hW => ?_)
    refine lv_if_eq (tgt := 45) hx hb dX10_windowCount_40 (by decide) (fun hc => ?_) (fun hc => ?_)
    · replace hf := if_t hc hf
      refine lv_aload_n hx hb dX10_windowCount_45 rfl (lv_at hl 0 rfl) ?_
      refine k_get C hE hW iX10 0 rfl rfl 5 (by decide) f16 (fun _ h9 => h9) rfl dX10_windowCount_46 ?_
      refine lv_iload_n hx hb dX10_windowCount_49 rfl (lv_at hl 1 rfl) ?_
      refine lv_iload_n hx hb dX10_windowCount_50 rfl (lv_at hl 2 rfl) ?_
      refine lv_iload_n hx hb dX10_windowCount_51 rfl (lv_at hl 3 rfl) ?_
      refine lv_iload hx hb dX10_windowCount_52 (lv_at hl 4 rfl) ?_
      refine lv_iload hx hb dX10_windowCount_54 (lv_at hl 5 rfl) ?_
      refine lv_iload hx hb dX10_windowCount_56 (lv_at hl 6 rfl) ?_
      obtain ⟨v13, h14, hf⟩ := bd1_s hf
      refine k_callSR (As := [.ref q_now, .int p0, .int p1, .int p2, .int p3, .int p4, .int p5]) (n := 7) (rest := []) (st1 := [.int v13]) C hE hW hl.1 (kX10_countIn l D cI cZ cJ _ q_now u_now p0 p1 p2 p3 p4 p5 v13 h14) gX10_windowCount_X10_countIn rfl (by decide +kernel) rfl ⟨Nat.le_of_ble_eq_true rfl, Nat.le_of_ble_eq_true rfl⟩ ⟨Nat.zero_le _, Nat.zero_le _⟩ [1] rfl rfl (Nat.le_of_ble_eq_true rfl) rfl rfl dX10_windowCount_58 (fun H locs hW => ?_)
      obtain ⟨rfl, rfl⟩ := sm2 hf
      exact k_iret C hlocks hr hW hQ dX10_windowCount_61
    · replace hf := if_f hc hf
      refine lv_iconst (v := 0) hx hb dX10_windowCount_43 (by decide) ?_
      obtain ⟨rfl, rfl⟩ := sm2 hf
      exact k_iret C hlocks hr hW hQ dX10_windowCount_44
  refine lv_if_ne (tgt := 12) hx hb dX10_windowCount_5 (by decide) (fun hc => ?_) (fun hc => ?_)
  · replace hd4 := if_f hc hd4
    refine lv_iload_n hx hb dX10_windowCount_12 rfl (lv_at hl 2 rfl) ?_
    refine lv_iload_n hx hb dX10_windowCount_13 rfl (lv_at hl 3 rfl) ?_
    refine lv_iload hx hb dX10_windowCount_14 (lv_at hl 4 rfl) ?_
    refine lv_iload hx hb dX10_windowCount_16 (lv_at hl 5 rfl) ?_
    obtain ⟨v6, h7, hd4⟩ := bd1_s hd4
    refine k_callSR (As := [.int p1, .int p2, .int p3, .int p4]) (n := 4) (rest := [.ref q]) (st1 := [.int v6, .ref q]) C hE hW hl.1 (kX10_isWindow l D cI cZ cJ _ p1 p2 p3 p4 v6 h7) gX10_windowCount_X10_isWindow rfl (by decide +kernel) rfl ⟨Nat.le_of_ble_eq_true rfl, Nat.le_of_ble_eq_true rfl⟩ ⟨Nat.zero_le _, Nat.zero_le _⟩ [] rfl rfl (Nat.le_of_ble_eq_true rfl) rfl rfl dX10_windowCount_18 (fun H locs hW => ?_)
    refine lv_if_eq (tgt := 32) hx hb dX10_windowCount_21 (by decide) (fun hc => ?_) (fun hc => ?_)
    · replace hd4 := if_t hc hd4
      refine lv_iconst (v := 2) hx hb dX10_windowCount_32 (by decide) ?_
      refine lv_goto (tgt := 37) hx hb dX10_windowCount_33 (by decide) ?_
      obtain rfl := Option.some.inj hd4
      exact J5 _ _ _ hW (lv_sub hl [0, 1, 2, 3, 4, 5, 6] rfl)
    · replace hd4 := if_f hc hd4
      refine lv_iload hx hb dX10_windowCount_24 (lv_at hl 6 rfl) ?_
      obtain ⟨v8, h9, hd4⟩ := bd1_s hd4
      refine k_callSR (As := [.int p5]) (n := 1) (rest := [.ref q]) (st1 := [.int v8, .ref q]) C hE hW hl.1 (kX10_isNumber l D cI cZ cJ _ p5 v8 h9) gX10_windowCount_X10_isNumber rfl (by decide +kernel) rfl ⟨Nat.le_of_ble_eq_true rfl, Nat.le_of_ble_eq_true rfl⟩ ⟨Nat.zero_le _, Nat.zero_le _⟩ [] rfl rfl (Nat.le_of_ble_eq_true rfl) rfl rfl dX10_windowCount_26 (fun H locs hW => ?_)
      refine lv_if_ne (tgt := 36) hx hb dX10_windowCount_29 (by decide) (fun hc => ?_) (fun hc => ?_)
      · replace hd4 := if_f hc hd4
        refine lv_iconst (v := 0) hx hb dX10_windowCount_36 (by decide) ?_
        obtain rfl := Option.some.inj hd4
        exact J5 _ _ _ hW (lv_sub hl [0, 1, 2, 3, 4, 5, 6] rfl)
      · replace hd4 := if_t hc hd4
        refine lv_iconst (v := 2) hx hb dX10_windowCount_32 (by decide) ?_
        refine lv_goto (tgt := 37) hx hb dX10_windowCount_33 (by decide) ?_
        obtain rfl := Option.some.inj hd4
        exact J5 _ _ _ hW (lv_sub hl [0, 1, 2, 3, 4, 5, 6] rfl)
  · replace hd4 := if_t hc hd4
    refine lv_iconst (v := 1) hx hb dX10_windowCount_8 (by decide) ?_
    refine lv_goto (tgt := 37) hx hb dX10_windowCount_9 (by decide) ?_
    obtain rfl := Option.some.inj hd4
    exact J5 _ _ _ hW (lv_sub hl [0, 1, 2, 3, 4, 5, 6] rfl)

set_option maxHeartbeats 4000000 in
set_option maxRecDepth 100000 in
theorem kX10_windowKth (l : Launch) (D : va_G) (cI cZ cJ : ClassId) (sz : Nat) (q q_now q_script q_readRow q_trial q_diary q_kept q_isKept q_sums q_primes q_turned : Nat) (u_refusal : Int32) (u_scriptSize : Int32) (u_spot : Int32) (u_acts : Int32) (u_slides : Int32) (u_now : Nat → Int32) (p0 : Int32) (p1 : Int32) (p2 : Int32) (p3 : Int32) (p4 : Int32) (p5 : Int32) (r : Int32) (u_refusal' : Int32) (hf : pX10_windowKth u_refusal u_now p0 p1 p2 p3 p4 p5 = some (r, u_refusal')) : kMet l D cI cZ cJ yX10_windowKth wsX10_windowKth 3 76 [.ref q, .int p0, .int p1, .int p2, .int p3, .int p4, .int p5] [(q, .inr (9, [.int u_refusal, .ref q_script, .int u_scriptSize, .int u_spot, .ref q_readRow, .ref q_now, .ref q_trial, .ref q_diary, .int u_acts, .ref q_kept, .ref q_isKept, .int u_slides, .ref q_sums, .ref q_primes, .ref q_turned])), (q_now, .inl (cI, 84, .inl u_now))] sz (some (.int r)) [(q, .inr (9, [.int u_refusal', .ref q_script, .int u_scriptSize, .int u_spot, .ref q_readRow, .ref q_now, .ref q_trial, .ref q_diary, .int u_acts, .ref q_kept, .ref q_isKept, .int u_slides, .ref q_sums, .ref q_primes, .ref q_turned])), (q_now, .inl (cI, 84, .inl u_now))] := by
  refine kM_of (cc := cX10_windowKth) (maxL := 8) (ret := (some .int)) (by decide) rfl (Nat.le_of_ble_eq_true rfl) ?_
  intro p e s m args below meth c A Q ls hQ C hlocks hr hE hW hl
  have hx := C.1
  have hb := C.2.1
  have hts := C.2.2.2.2
  have hl : lv_has ls 8 [(0, .ref q), (1, .int p0), (2, .int p1), (3, .int p2), (4, .int p3), (5, .int p4), (6, .int p5)] := hl
  have iX10 : ∀ w ∈ u_ws RX10 TX10 15, w ∈ wsX10_windowKth := by decide +kernel
  have f16 := hts (.fieldLink RX10 16 "SortedTablesModel" "now" "[I") (by decide +kernel)
  unfold pX10_windowKth at hf
  refine lv_aload_n hx hb dX10_windowKth_0 rfl (lv_at hl 0 rfl) ?_
  refine lv_iload_n hx hb dX10_windowKth_1 rfl (lv_at hl 1 rfl) ?_
  obtain ⟨v1, h2, hf⟩ := bd1_s hf
  refine k_callSR (As := [.int p0]) (n := 1) (rest := [.ref q]) (st1 := [.int v1, .ref q]) C hE hW hl.1 (kX10_isTable l D cI cZ cJ _ p0 v1 h2) gX10_windowKth_X10_isTable rfl (by decide +kernel) rfl ⟨Nat.le_of_ble_eq_true rfl, Nat.le_of_ble_eq_true rfl⟩ ⟨Nat.zero_le _, Nat.zero_le _⟩ [] rfl rfl (Nat.le_of_ble_eq_true rfl) rfl rfl dX10_windowKth_2 (fun H locs hW => ?_)
  obtain ⟨j3, hd4, hf⟩ := bd1_s hf
  have J5 : ∀ (H : Heap) (locs : List Loc) (ls : Array Slot), kH D A s H locs [(q, .inr (9, [.int u_refusal, .ref q_script, .int u_scriptSize, .int u_spot, .ref q_readRow, .ref q_now, .ref q_trial, .ref q_diary, .int u_acts, .ref q_kept, .ref q_isKept, .int u_slides, .ref q_sums, .ref q_primes, .ref q_turned])), (q_now, .inl (cI, 84, .inl u_now))] → lv_has ls 8 [(0, .ref q), (1, .int p0), (2, .int p1), (3, .int p2), (4, .int p3), (5, .int p4), (6, .int p5)] → W p l e (kRm 3 76 0 0) s m args below meth c H locs 0 0 Q (F0 m 34 ls [.int j3, .ref q]) := by
    intro H locs ls hW hl
    obtain ⟨⟨v8, w9⟩, h10, hf⟩ := bd1_s hf
    replace hf := un2_s hf
    refine k_callV (b := q) (ci := 9) (qb := 0) (As := [.int j3]) (n := 1) (rest := []) (st1 := [.int v8]) (wr := [(q_now, .inl (cI, 84, .inl u_now))]) (ws' := [(q, .inr (9, [.int w9, .ref q_script, .int u_scriptSize, .int u_spot, .ref q_readRow, .ref q_now, .ref q_trial, .ref q_diary, .int u_acts, .ref q_kept, .ref q_isKept, .int u_slides, .ref q_sums, .ref q_primes, .ref q_turned])), (q_now, .inl (cI, 84, .inl u_now))]) C hE hW hl.1 (kX10_refused l D cI cZ cJ _ q q_script q_readRow q_now q_trial q_diary q_kept q_isKept q_sums q_primes q_turned u_refusal u_scriptSize u_spot u_acts u_slides j3 v8 w9 h10) gX10_windowKth_X10_refused rfl (by decide +kernel) rfl ⟨Nat.le_of_ble_eq_true rfl, Nat.le_of_ble_eq_true rfl⟩ ⟨Nat.zero_le _, Nat.zero_le _⟩ rfl rfl [0] [1] [1, 0] rfl rfl rfl rfl (by decide) rfl rfl (Nat.le_of_ble_eq_true rfl) rfl rfl dX10_windowKth_34 (fun H locs hW => ?_)
    refine lv_if_eq (tgt := 42) hx hb dX10_windowKth_37 (by decide) (fun hc => ?_) (fun hc => ?_)
    · replace hf := if_t hc hf
      refine lv_iconst (v := 0) hx hb dX10_windowKth_42 (by decide) ?_
      refine lv_istore (lv' := [(7, .int 0), (0, .ref q), (1, .int p0), (2, .int p1), (3, .int p2), (4, .int p3), (5, .int p4), (6, .int p5)]) hx hb dX10_windowKth_43 hl (by decide) rfl (fun ls hl => ?_)
      obtain ⟨xx16, hx130, hf⟩ := bd1_s hf
      have J14 : pX10_windowKth_R82 w9 = some (r, u_refusal') → ∀ (H : Heap) (locs : List Loc) (ls : Array Slot), kH D A s H locs [(q, .inr (9, [.int w9, .ref q_script, .int u_scriptSize, .int u_spot, .ref q_readRow, .ref q_now, .ref q_trial, .ref q_diary, .int u_acts, .ref q_kept, .ref q_isKept, .int u_slides, .ref q_sums, .ref q_primes, .ref q_turned])), (q_now, .inl (cI, 84, .inl u_now))] → lv_has ls 8 [] → W p l e (kRm 3 76 0 0) s m args below meth c H locs 0 0 Q (F0 m 82 ls []) := by
        intro hf H locs ls hW hl
        unfold pX10_windowKth_R82 at hf
        refine lv_bipush (v := (-9)) hx hb dX10_windowKth_82 (by decide) ?_
        obtain ⟨rfl, rfl⟩ := sm2 hf
        exact k_iret C hlocks hr hW hQ dX10_windowKth_84
      have L15 : ∀ (n : Nat) (i11 : Int32), lpI n (pX10_windowKth_L45 u_now p0 p1 p2 p3 p4 p5 w9) i11 = some xx16 → ∀ (H : Heap) (locs : List Loc) (ls : Array Slot), kH D A s H locs [(q, .inr (9, [.int w9, .ref q_script, .int u_scriptSize, .int u_spot, .ref q_readRow, .ref q_now, .ref q_trial, .ref q_diary, .int u_acts, .ref q_kept, .ref q_isKept, .int u_slides, .ref q_sums, .ref q_primes, .ref q_turned])), (q_now, .inl (cI, 84, .inl u_now))] → lv_has ls 8 [(7, .int i11), (0, .ref q), (1, .int p0), (2, .int p1), (3, .int p2), (4, .int p3), (5, .int p4), (6, .int p5)] → W p l e (kRm 3 76 0 0) s m args below meth c H locs 0 0 Q (F0 m 45 ls []) := by
        intro n
        induction n with
        | zero => intro i11 hx13; exact (lpI_0 hx13).elim
        | succ n ih17 =>
          intro i11 hx13 H locs ls hW hl
          obtain ⟨ooho12, ho12, hx13⟩ := lpI_s hx13
          unfold pX10_windowKth_L45 at ho12
          refine lv_iload hx hb dX10_windowKth_45 (lv_at hl 0 rfl) ?_
          refine lv_bipush (v := 100) hx hb dX10_windowKth_47 (by decide) ?_
          refine lv_icmp_ge (tgt := 82) hx hb dX10_windowKth_49 (by decide) (fun hc => ?_) (fun hc => ?_)
          · replace ho12 := if_t hc ho12
            obtain rfl := Option.some.inj ho12
            obtain rfl := lpK_r hx13
            replace hf := el_r hf
            exact J14 hf _ _ _ hW (lv_sub hl [] rfl)
          · replace ho12 := if_f hc ho12
            refine lv_aload_n hx hb dX10_windowKth_52 rfl (lv_at hl 1 rfl) ?_
            refine k_get C hE hW iX10 0 rfl rfl 5 (by decide) f16 (fun _ h9 => h9) rfl dX10_windowKth_53 ?_
            refine lv_iload_n hx hb dX10_windowKth_56 rfl (lv_at hl 2 rfl) ?_
            refine lv_iload_n hx hb dX10_windowKth_57 rfl (lv_at hl 3 rfl) ?_
            refine lv_iload_n hx hb dX10_windowKth_58 rfl (lv_at hl 4 rfl) ?_
            refine lv_iload hx hb dX10_windowKth_59 (lv_at hl 5 rfl) ?_
            refine lv_iload hx hb dX10_windowKth_61 (lv_at hl 6 rfl) ?_
            refine lv_iload hx hb dX10_windowKth_63 (lv_at hl 0 rfl) ?_
            obtain ⟨v18, h19, ho12⟩ := bd1_s ho12
            refine k_callSR (As := [.ref q_now, .int p0, .int p1, .int p2, .int p3, .int p4, .int i11]) (n := 7) (rest := []) (st1 := [.int v18]) C hE hW hl.1 (kX10_countIn l D cI cZ cJ _ q_now u_now p0 p1 p2 p3 p4 i11 v18 h19) gX10_windowKth_X10_countIn rfl (by decide +kernel) rfl ⟨Nat.le_of_ble_eq_true rfl, Nat.le_of_ble_eq_true rfl⟩ ⟨Nat.zero_le _, Nat.zero_le _⟩ [1] rfl rfl (Nat.le_of_ble_eq_true rfl) rfl rfl dX10_windowKth_65 (fun H locs hW => ?_)
            refine lv_iload hx hb dX10_windowKth_68 (lv_at hl 7 rfl) ?_
            refine lv_icmp_le (tgt := 76) hx hb dX10_windowKth_70 (by decide) (fun hc => ?_) (fun hc => ?_)
            · replace ho12 := if_t hc ho12
              refine lv_iinc (v := (i11 + 1)) (lv' := [(7, .int (i11 + 1)), (0, .ref q), (1, .int p0), (2, .int p1), (3, .int p2), (4, .int p3), (5, .int p4), (6, .int p5)]) hx hb dX10_windowKth_76 hl (k := 0) rfl rfl (by decide) rfl (fun ls hl => ?_)
              refine lv_goto (tgt := 45) hx hb dX10_windowKth_79 (by decide) ?_
              obtain rfl := Option.some.inj ho12
              exact ih17 _ hx13 _ _ _ hW (lv_sub hl [0, 1, 2, 3, 4, 5, 6, 7] rfl)
            · replace ho12 := if_f hc ho12
              refine lv_iload hx hb dX10_windowKth_73 (lv_at hl 0 rfl) ?_
              obtain rfl := Option.some.inj ho12
              obtain rfl := lpK_r hx13
              replace hf := el_l hf
              replace hf := un2_s hf
              obtain ⟨rfl, rfl⟩ := sm2 hf
              exact k_iret C hlocks hr hW hQ dX10_windowKth_75
      exact L15 lpF _ hx130 _ _ _ hW (lv_sub hl [0, 1, 2, 3, 4, 5, 6, 7] rfl)
    · replace hf := if_f hc hf
      refine lv_iconst (v := 0) hx hb dX10_windowKth_40 (by decide) ?_
      obtain ⟨rfl, rfl⟩ := sm2 hf
      exact k_iret C hlocks hr hW hQ dX10_windowKth_41
  refine lv_if_ne (tgt := 12) hx hb dX10_windowKth_5 (by decide) (fun hc => ?_) (fun hc => ?_)
  · replace hd4 := if_f hc hd4
    refine lv_iload_n hx hb dX10_windowKth_12 rfl (lv_at hl 2 rfl) ?_
    refine lv_iload_n hx hb dX10_windowKth_13 rfl (lv_at hl 3 rfl) ?_
    refine lv_iload hx hb dX10_windowKth_14 (lv_at hl 4 rfl) ?_
    refine lv_iload hx hb dX10_windowKth_16 (lv_at hl 5 rfl) ?_
    obtain ⟨v6, h7, hd4⟩ := bd1_s hd4
    refine k_callSR (As := [.int p1, .int p2, .int p3, .int p4]) (n := 4) (rest := [.ref q]) (st1 := [.int v6, .ref q]) C hE hW hl.1 (kX10_isWindow l D cI cZ cJ _ p1 p2 p3 p4 v6 h7) gX10_windowKth_X10_isWindow rfl (by decide +kernel) rfl ⟨Nat.le_of_ble_eq_true rfl, Nat.le_of_ble_eq_true rfl⟩ ⟨Nat.zero_le _, Nat.zero_le _⟩ [] rfl rfl (Nat.le_of_ble_eq_true rfl) rfl rfl dX10_windowKth_18 (fun H locs hW => ?_)
    refine lv_if_eq (tgt := 29) hx hb dX10_windowKth_21 (by decide) (fun hc => ?_) (fun hc => ?_)
    · replace hd4 := if_t hc hd4
      refine lv_iconst (v := 2) hx hb dX10_windowKth_29 (by decide) ?_
      refine lv_goto (tgt := 34) hx hb dX10_windowKth_30 (by decide) ?_
      obtain rfl := Option.some.inj hd4
      exact J5 _ _ _ hW (lv_sub hl [0, 1, 2, 3, 4, 5, 6] rfl)
    · replace hd4 := if_f hc hd4
      refine lv_iload hx hb dX10_windowKth_24 (lv_at hl 6 rfl) ?_
      refine lv_if_ge (tgt := 33) hx hb dX10_windowKth_26 (by decide) (fun hc => ?_) (fun hc => ?_)
      · replace hd4 := if_t hc hd4
        refine lv_iconst (v := 0) hx hb dX10_windowKth_33 (by decide) ?_
        obtain rfl := Option.some.inj hd4
        exact J5 _ _ _ hW (lv_sub hl [0, 1, 2, 3, 4, 5, 6] rfl)
      · replace hd4 := if_f hc hd4
        refine lv_iconst (v := 2) hx hb dX10_windowKth_29 (by decide) ?_
        refine lv_goto (tgt := 34) hx hb dX10_windowKth_30 (by decide) ?_
        obtain rfl := Option.some.inj hd4
        exact J5 _ _ _ hW (lv_sub hl [0, 1, 2, 3, 4, 5, 6] rfl)
  · replace hd4 := if_t hc hd4
    refine lv_iconst (v := 1) hx hb dX10_windowKth_8 (by decide) ?_
    refine lv_goto (tgt := 34) hx hb dX10_windowKth_9 (by decide) ?_
    obtain rfl := Option.some.inj hd4
    exact J5 _ _ _ hW (lv_sub hl [0, 1, 2, 3, 4, 5, 6] rfl)

set_option maxHeartbeats 4000000 in
set_option maxRecDepth 100000 in
theorem kX10_upTo (l : Launch) (D : va_G) (cI cZ cJ : ClassId) (sz : Nat) (r0 : Nat) (u0 : Nat → Int32) (p1 : Int32) (p2 : Int32) (r : Int32) (hf : pX10_upTo u0 p1 p2 = some r) : kMet l D cI cZ cJ yX10_upTo wsX10_upTo 3 76 [.ref r0, .int p1, .int p2] [(r0, .inl (cI, 84, .inl u0))] sz (some (.int r)) [(r0, .inl (cI, 84, .inl u0))] := by
  refine kM_of (cc := cX10_upTo) (maxL := 3) (ret := (some .int)) (by decide) rfl (Nat.le_of_ble_eq_true rfl) ?_
  intro p e s m args below meth c A Q ls hQ C hlocks hr hE hW hl
  have hx := C.1
  have hb := C.2.1
  have hts := C.2.2.2.2
  have hl : lv_has ls 3 [(0, .ref r0), (1, .int p1), (2, .int p2)] := hl
  unfold pX10_upTo at hf
  refine lv_aload_n hx hb dX10_upTo_0 rfl (lv_at hl 0 rfl) ?_
  refine lv_iload_n hx hb dX10_upTo_1 rfl (lv_at hl 1 rfl) ?_
  refine lv_iconst (v := 0) hx hb dX10_upTo_2 (by decide) ?_
  refine lv_iconst (v := 0) hx hb dX10_upTo_3 (by decide) ?_
  refine lv_bipush (v := 6) hx hb dX10_upTo_4 (by decide) ?_
  refine lv_bipush (v := 6) hx hb dX10_upTo_6 (by decide) ?_
  refine lv_iload_n hx hb dX10_upTo_8 rfl (lv_at hl 2 rfl) ?_
  obtain ⟨v1, h2, hf⟩ := bd1_s hf
  refine k_callSR (As := [.ref r0, .int p1, .int 0, .int 0, .int 6, .int 6, .int p2]) (n := 7) (rest := []) (st1 := [.int v1]) C hE hW hl.1 (kX10_countIn l D cI cZ cJ _ r0 u0 p1 0 0 6 6 p2 v1 h2) gX10_upTo_X10_countIn rfl (by decide +kernel) rfl ⟨Nat.le_of_ble_eq_true rfl, Nat.le_of_ble_eq_true rfl⟩ ⟨Nat.zero_le _, Nat.zero_le _⟩ [0] rfl rfl (Nat.le_of_ble_eq_true rfl) rfl rfl dX10_upTo_9 (fun H locs hW => ?_)
  obtain rfl := Option.some.inj hf
  exact k_iret C hlocks hr hW hQ dX10_upTo_12

set_option maxHeartbeats 4000000 in
set_option maxRecDepth 100000 in
theorem kX10_kthOfBoth (l : Launch) (D : va_G) (cI cZ cJ : ClassId) (sz : Nat) (q q_now q_script q_readRow q_trial q_diary q_kept q_isKept q_sums q_primes q_turned : Nat) (u_refusal : Int32) (u_scriptSize : Int32) (u_spot : Int32) (u_acts : Int32) (u_slides : Int32) (u_now : Nat → Int32) (p0 : Int32) (p1 : Int32) (r : Int32) (u_refusal' : Int32) (hf : pX10_kthOfBoth u_refusal u_now p0 p1 = some (r, u_refusal')) : kMet l D cI cZ cJ yX10_kthOfBoth wsX10_kthOfBoth 4 98 [.ref q, .int p0, .int p1] [(q, .inr (9, [.int u_refusal, .ref q_script, .int u_scriptSize, .int u_spot, .ref q_readRow, .ref q_now, .ref q_trial, .ref q_diary, .int u_acts, .ref q_kept, .ref q_isKept, .int u_slides, .ref q_sums, .ref q_primes, .ref q_turned])), (q_now, .inl (cI, 84, .inl u_now))] sz (some (.int r)) [(q, .inr (9, [.int u_refusal', .ref q_script, .int u_scriptSize, .int u_spot, .ref q_readRow, .ref q_now, .ref q_trial, .ref q_diary, .int u_acts, .ref q_kept, .ref q_isKept, .int u_slides, .ref q_sums, .ref q_primes, .ref q_turned])), (q_now, .inl (cI, 84, .inl u_now))] := by
  refine kM_of (cc := cX10_kthOfBoth) (maxL := 4) (ret := (some .int)) (by decide) rfl (Nat.le_of_ble_eq_true rfl) ?_
  intro p e s m args below meth c A Q ls hQ C hlocks hr hE hW hl
  have hx := C.1
  have hb := C.2.1
  have hts := C.2.2.2.2
  have hl : lv_has ls 4 [(0, .ref q), (1, .int p0), (2, .int p1)] := hl
  have iX10 : ∀ w ∈ u_ws RX10 TX10 15, w ∈ wsX10_kthOfBoth := by decide +kernel
  have f16 := hts (.fieldLink RX10 16 "SortedTablesModel" "now" "[I") (by decide +kernel)
  unfold pX10_kthOfBoth at hf
  refine lv_aload_n hx hb dX10_kthOfBoth_0 rfl (lv_at hl 0 rfl) ?_
  refine lv_iload_n hx hb dX10_kthOfBoth_1 rfl (lv_at hl 1 rfl) ?_
  obtain ⟨j1, hd2, hf⟩ := bd1_s hf
  have J3 : ∀ (H : Heap) (locs : List Loc) (ls : Array Slot), kH D A s H locs [(q, .inr (9, [.int u_refusal, .ref q_script, .int u_scriptSize, .int u_spot, .ref q_readRow, .ref q_now, .ref q_trial, .ref q_diary, .int u_acts, .ref q_kept, .ref q_isKept, .int u_slides, .ref q_sums, .ref q_primes, .ref q_turned])), (q_now, .inl (cI, 84, .inl u_now))] → lv_has ls 4 [(0, .ref q), (1, .int p0), (2, .int p1)] → W p l e (kRm 4 98 0 0) s m args below meth c H locs 0 0 Q (F0 m 10 ls [.int j1, .ref q]) := by
    intro H locs ls hW hl
    obtain ⟨⟨v4, w5⟩, h6, hf⟩ := bd1_s hf
    replace hf := un2_s hf
    refine k_callV (b := q) (ci := 9) (qb := 0) (As := [.int j1]) (n := 1) (rest := []) (st1 := [.int v4]) (wr := [(q_now, .inl (cI, 84, .inl u_now))]) (ws' := [(q, .inr (9, [.int w5, .ref q_script, .int u_scriptSize, .int u_spot, .ref q_readRow, .ref q_now, .ref q_trial, .ref q_diary, .int u_acts, .ref q_kept, .ref q_isKept, .int u_slides, .ref q_sums, .ref q_primes, .ref q_turned])), (q_now, .inl (cI, 84, .inl u_now))]) C hE hW hl.1 (kX10_refused l D cI cZ cJ _ q q_script q_readRow q_now q_trial q_diary q_kept q_isKept q_sums q_primes q_turned u_refusal u_scriptSize u_spot u_acts u_slides j1 v4 w5 h6) gX10_kthOfBoth_X10_refused rfl (by decide +kernel) rfl ⟨Nat.le_of_ble_eq_true rfl, Nat.le_of_ble_eq_true rfl⟩ ⟨Nat.zero_le _, Nat.zero_le _⟩ rfl rfl [0] [1] [1, 0] rfl rfl rfl rfl (by decide) rfl rfl (Nat.le_of_ble_eq_true rfl) rfl rfl dX10_kthOfBoth_10 (fun H locs hW => ?_)
    refine lv_if_eq (tgt := 18) hx hb dX10_kthOfBoth_13 (by decide) (fun hc => ?_) (fun hc => ?_)
    · replace hf := if_t hc hf
      refine lv_iconst (v := 0) hx hb dX10_kthOfBoth_18 (by decide) ?_
      refine lv_istore_n (lv' := [(3, .int 0), (0, .ref q), (1, .int p0), (2, .int p1)]) hx hb dX10_kthOfBoth_19 rfl hl (by decide) rfl (fun ls hl => ?_)
      obtain ⟨xx12, hx90, hf⟩ := bd1_s hf
      have J10 : pX10_kthOfBoth_R94 w5 = some (r, u_refusal') → ∀ (H : Heap) (locs : List Loc) (ls : Array Slot), kH D A s H locs [(q, .inr (9, [.int w5, .ref q_script, .int u_scriptSize, .int u_spot, .ref q_readRow, .ref q_now, .ref q_trial, .ref q_diary, .int u_acts, .ref q_kept, .ref q_isKept, .int u_slides, .ref q_sums, .ref q_primes, .ref q_turned])), (q_now, .inl (cI, 84, .inl u_now))] → lv_has ls 4 [] → W p l e (kRm 4 98 0 0) s m args below meth c H locs 0 0 Q (F0 m 94 ls []) := by
        intro hf H locs ls hW hl
        unfold pX10_kthOfBoth_R94 at hf
        refine lv_bipush (v := (-9)) hx hb dX10_kthOfBoth_94 (by decide) ?_
        obtain ⟨rfl, rfl⟩ := sm2 hf
        exact k_iret C hlocks hr hW hQ dX10_kthOfBoth_96
      have L11 : ∀ (n : Nat) (i7 : Int32), lpI n (pX10_kthOfBoth_L20 u_now p0 p1 w5) i7 = some xx12 → ∀ (H : Heap) (locs : List Loc) (ls : Array Slot), kH D A s H locs [(q, .inr (9, [.int w5, .ref q_script, .int u_scriptSize, .int u_spot, .ref q_readRow, .ref q_now, .ref q_trial, .ref q_diary, .int u_acts, .ref q_kept, .ref q_isKept, .int u_slides, .ref q_sums, .ref q_primes, .ref q_turned])), (q_now, .inl (cI, 84, .inl u_now))] → lv_has ls 4 [(3, .int i7), (0, .ref q), (1, .int p0), (2, .int p1)] → W p l e (kRm 4 98 0 0) s m args below meth c H locs 0 0 Q (F0 m 20 ls []) := by
        intro n
        induction n with
        | zero => intro i7 hx9; exact (lpI_0 hx9).elim
        | succ n ih13 =>
          intro i7 hx9 H locs ls hW hl
          obtain ⟨ooho8, ho8, hx9⟩ := lpI_s hx9
          unfold pX10_kthOfBoth_L20 at ho8
          refine lv_iload_n hx hb dX10_kthOfBoth_20 rfl (lv_at hl 0 rfl) ?_
          refine lv_bipush (v := 100) hx hb dX10_kthOfBoth_21 (by decide) ?_
          refine lv_icmp_ge (tgt := 94) hx hb dX10_kthOfBoth_23 (by decide) (fun hc => ?_) (fun hc => ?_)
          · replace ho8 := if_t hc ho8
            obtain rfl := Option.some.inj ho8
            obtain rfl := lpK_r hx9
            replace hf := el_r hf
            exact J10 hf _ _ _ hW (lv_sub hl [] rfl)
          · replace ho8 := if_f hc ho8
            refine lv_aload_n hx hb dX10_kthOfBoth_26 rfl (lv_at hl 1 rfl) ?_
            refine k_get C hE hW iX10 0 rfl rfl 5 (by decide) f16 (fun _ h9 => h9) rfl dX10_kthOfBoth_27 ?_
            refine lv_iconst (v := 0) hx hb dX10_kthOfBoth_30 (by decide) ?_
            refine lv_iload_n hx hb dX10_kthOfBoth_31 rfl (lv_at hl 0 rfl) ?_
            obtain ⟨v14, h15, ho8⟩ := bd1_s ho8
            refine k_callSR (As := [.ref q_now, .int 0, .int i7]) (n := 3) (rest := []) (st1 := [.int v14]) C hE hW hl.1 (kX10_upTo l D cI cZ cJ _ q_now u_now 0 i7 v14 h15) gX10_kthOfBoth_X10_upTo rfl (by decide +kernel) rfl ⟨Nat.le_of_ble_eq_true rfl, Nat.le_of_ble_eq_true rfl⟩ ⟨Nat.zero_le _, Nat.zero_le _⟩ [1] rfl rfl (Nat.le_of_ble_eq_true rfl) rfl rfl dX10_kthOfBoth_32 (fun H locs hW => ?_)
            refine lv_aload_n hx hb dX10_kthOfBoth_35 rfl (lv_at hl 1 rfl) ?_
            refine k_get C hE hW iX10 0 rfl rfl 5 (by decide) f16 (fun _ h9 => h9) rfl dX10_kthOfBoth_36 ?_
            refine lv_iconst (v := 1) hx hb dX10_kthOfBoth_39 (by decide) ?_
            refine lv_iload_n hx hb dX10_kthOfBoth_40 rfl (lv_at hl 0 rfl) ?_
            obtain ⟨v16, h17, ho8⟩ := bd1_s ho8
            refine k_callSR (As := [.ref q_now, .int 1, .int i7]) (n := 3) (rest := [.int v14]) (st1 := [.int v16, .int v14]) C hE hW hl.1 (kX10_upTo l D cI cZ cJ _ q_now u_now 1 i7 v16 h17) gX10_kthOfBoth_X10_upTo rfl (by decide +kernel) rfl ⟨Nat.le_of_ble_eq_true rfl, Nat.le_of_ble_eq_true rfl⟩ ⟨Nat.zero_le _, Nat.zero_le _⟩ [1] rfl rfl (Nat.le_of_ble_eq_true rfl) rfl rfl dX10_kthOfBoth_41 (fun H locs hW => ?_)
            refine lv_iadd hx hb dX10_kthOfBoth_44 ?_
            refine lv_iload_n hx hb dX10_kthOfBoth_45 rfl (lv_at hl 2 rfl) ?_
            refine lv_icmp_le (tgt := 88) hx hb dX10_kthOfBoth_46 (by decide) (fun hc => ?_) (fun hc => ?_)
            · replace ho8 := if_t hc ho8
              refine lv_iinc (v := (i7 + 1)) (lv' := [(3, .int (i7 + 1)), (0, .ref q), (1, .int p0), (2, .int p1)]) hx hb dX10_kthOfBoth_88 hl (k := 0) rfl rfl (by decide) rfl (fun ls hl => ?_)
              refine lv_goto (tgt := 20) hx hb dX10_kthOfBoth_91 (by decide) ?_
              obtain rfl := Option.some.inj ho8
              exact ih13 _ hx9 _ _ _ hW (lv_sub hl [0, 1, 2, 3] rfl)
            · replace ho8 := if_f hc ho8
              refine lv_iload_n hx hb dX10_kthOfBoth_49 rfl (lv_at hl 3 rfl) ?_
              refine lv_if_ne (tgt := 57) hx hb dX10_kthOfBoth_50 (by decide) (fun hc => ?_) (fun hc => ?_)
              · replace ho8 := if_f hc ho8
                refine lv_aload_n hx hb dX10_kthOfBoth_57 rfl (lv_at hl 1 rfl) ?_
                refine k_get C hE hW iX10 0 rfl rfl 5 (by decide) f16 (fun _ h9 => h9) rfl dX10_kthOfBoth_58 ?_
                refine lv_iconst (v := 0) hx hb dX10_kthOfBoth_61 (by decide) ?_
                refine lv_iload_n hx hb dX10_kthOfBoth_62 rfl (lv_at hl 0 rfl) ?_
                obtain ⟨v18, h19, ho8⟩ := bd1_s ho8
                refine k_callSR (As := [.ref q_now, .int 0, .int i7]) (n := 3) (rest := []) (st1 := [.int v18]) C hE hW hl.1 (kX10_upTo l D cI cZ cJ _ q_now u_now 0 i7 v18 h19) gX10_kthOfBoth_X10_upTo rfl (by decide +kernel) rfl ⟨Nat.le_of_ble_eq_true rfl, Nat.le_of_ble_eq_true rfl⟩ ⟨Nat.zero_le _, Nat.zero_le _⟩ [1] rfl rfl (Nat.le_of_ble_eq_true rfl) rfl rfl dX10_kthOfBoth_63 (fun H locs hW => ?_)
                refine lv_aload_n hx hb dX10_kthOfBoth_66 rfl (lv_at hl 1 rfl) ?_
                refine k_get C hE hW iX10 0 rfl rfl 5 (by decide) f16 (fun _ h9 => h9) rfl dX10_kthOfBoth_67 ?_
                refine lv_iconst (v := 1) hx hb dX10_kthOfBoth_70 (by decide) ?_
                refine lv_iload_n hx hb dX10_kthOfBoth_71 rfl (lv_at hl 0 rfl) ?_
                refine lv_iconst (v := 1) hx hb dX10_kthOfBoth_72 (by decide) ?_
                refine lv_isub hx hb dX10_kthOfBoth_73 ?_
                obtain ⟨v20, h21, ho8⟩ := bd1_s ho8
                refine k_callSR (As := [.ref q_now, .int 1, .int (i7 - 1)]) (n := 3) (rest := [.int v18]) (st1 := [.int v20, .int v18]) C hE hW hl.1 (kX10_upTo l D cI cZ cJ _ q_now u_now 1 (i7 - 1) v20 h21) gX10_kthOfBoth_X10_upTo rfl (by decide +kernel) rfl ⟨Nat.le_of_ble_eq_true rfl, Nat.le_of_ble_eq_true rfl⟩ ⟨Nat.zero_le _, Nat.zero_le _⟩ [1] rfl rfl (Nat.le_of_ble_eq_true rfl) rfl rfl dX10_kthOfBoth_74 (fun H locs hW => ?_)
                refine lv_iadd hx hb dX10_kthOfBoth_77 ?_
                refine lv_iload_n hx hb dX10_kthOfBoth_78 rfl (lv_at hl 2 rfl) ?_
                refine lv_icmp_le (tgt := 86) hx hb dX10_kthOfBoth_79 (by decide) (fun hc => ?_) (fun hc => ?_)
                · replace ho8 := if_t hc ho8
                  refine lv_iconst (v := 1) hx hb dX10_kthOfBoth_86 (by decide) ?_
                  obtain rfl := Option.some.inj ho8
                  obtain rfl := lpK_r hx9
                  replace hf := el_l hf
                  replace hf := un2_s hf
                  obtain ⟨rfl, rfl⟩ := sm2 hf
                  exact k_iret C hlocks hr hW hQ dX10_kthOfBoth_87
                · replace ho8 := if_f hc ho8
                  refine lv_iconst (v := 0) hx hb dX10_kthOfBoth_82 (by decide) ?_
                  refine lv_goto (tgt := 87) hx hb dX10_kthOfBoth_83 (by decide) ?_
                  obtain rfl := Option.some.inj ho8
                  obtain rfl := lpK_r hx9
                  replace hf := el_l hf
                  replace hf := un2_s hf
                  obtain ⟨rfl, rfl⟩ := sm2 hf
                  exact k_iret C hlocks hr hW hQ dX10_kthOfBoth_87
              · replace ho8 := if_t hc ho8
                refine lv_iload_n hx hb dX10_kthOfBoth_53 rfl (lv_at hl 0 rfl) ?_
                refine lv_goto (tgt := 87) hx hb dX10_kthOfBoth_54 (by decide) ?_
                obtain rfl := Option.some.inj ho8
                obtain rfl := lpK_r hx9
                replace hf := el_l hf
                replace hf := un2_s hf
                obtain ⟨rfl, rfl⟩ := sm2 hf
                exact k_iret C hlocks hr hW hQ dX10_kthOfBoth_87
      exact L11 lpF _ hx90 _ _ _ hW (lv_sub hl [0, 1, 2, 3] rfl)
    · replace hf := if_f hc hf
      refine lv_iconst (v := 0) hx hb dX10_kthOfBoth_16 (by decide) ?_
      obtain ⟨rfl, rfl⟩ := sm2 hf
      exact k_iret C hlocks hr hW hQ dX10_kthOfBoth_17
  refine lv_if_ge (tgt := 9) hx hb dX10_kthOfBoth_2 (by decide) (fun hc => ?_) (fun hc => ?_)
  · replace hd2 := if_t hc hd2
    refine lv_iconst (v := 0) hx hb dX10_kthOfBoth_9 (by decide) ?_
    obtain rfl := Option.some.inj hd2
    exact J3 _ _ _ hW (lv_sub hl [0, 1, 2] rfl)
  · replace hd2 := if_f hc hd2
    refine lv_iconst (v := 1) hx hb dX10_kthOfBoth_5 (by decide) ?_
    refine lv_goto (tgt := 10) hx hb dX10_kthOfBoth_6 (by decide) ?_
    obtain rfl := Option.some.inj hd2
    exact J3 _ _ _ hW (lv_sub hl [0, 1, 2] rfl)

set_option maxHeartbeats 4000000 in
set_option maxRecDepth 100000 in
theorem kX10_pairsOf (l : Launch) (D : va_G) (cI cZ cJ : ClassId) (sz : Nat) (r0 : Nat) (u0 : Nat → Int32) (p1 : Int32) (r : Int32) (hf : pX10_pairsOf u0 p1 = some r) : kMet l D cI cZ cJ yX10_pairsOf wsX10_pairsOf 4 98 [.ref r0, .int p1] [(r0, .inl (cI, 84, .inl u0))] sz (some (.int r)) [(r0, .inl (cI, 84, .inl u0))] := by
  refine kM_of (cc := cX10_pairsOf) (maxL := 5) (ret := (some .int)) (by decide) rfl (Nat.le_of_ble_eq_true rfl) ?_
  intro p e s m args below meth c A Q ls hQ C hlocks hr hE hW hl
  have hx := C.1
  have hb := C.2.1
  have hts := C.2.2.2.2
  have hl : lv_has ls 5 [(0, .ref r0), (1, .int p1)] := hl
  unfold pX10_pairsOf at hf
  refine lv_iconst (v := 0) hx hb dX10_pairsOf_0 (by decide) ?_
  refine lv_istore_n (lv' := [(2, .int 0), (0, .ref r0), (1, .int p1)]) hx hb dX10_pairsOf_1 rfl hl (by decide) rfl (fun ls hl => ?_)
  refine lv_iconst (v := 0) hx hb dX10_pairsOf_2 (by decide) ?_
  refine lv_istore_n (lv' := [(3, .int 0), (2, .int 0), (0, .ref r0), (1, .int p1)]) hx hb dX10_pairsOf_3 rfl hl (by decide) rfl (fun ls hl => ?_)
  obtain ⟨x3, hx50, hf⟩ := bd1_s hf
  have J6 : ∀ (H : Heap) (locs : List Loc) (ls : Array Slot), kH D A s H locs [(r0, .inl (cI, 84, .inl u0))] → lv_has ls 5 [(2, .int x3)] → W p l e (kRm 4 98 0 0) s m args below meth c H locs 0 0 Q (F0 m 54 ls []) := by
    intro H locs ls hW hl
    refine lv_iload_n hx hb dX10_pairsOf_54 rfl (lv_at hl 0 rfl) ?_
    obtain rfl := Option.some.inj hf
    exact k_iret C hlocks hr hW hQ dX10_pairsOf_55
  have L7 : ∀ (n : Nat) (i1 : Int32) (i2 : Int32), lpI n (un2 (pX10_pairsOf_L4 u0 p1)) (i1, i2) = some x3 → ∀ (H : Heap) (locs : List Loc) (ls : Array Slot), kH D A s H locs [(r0, .inl (cI, 84, .inl u0))] → lv_has ls 5 [(3, .int i1), (2, .int i2), (0, .ref r0), (1, .int p1)] → W p l e (kRm 4 98 0 0) s m args below meth c H locs 0 0 Q (F0 m 4 ls []) := by
    intro n
    induction n with
    | zero => intro i1 i2 hx5; exact (lpI_0 hx5).elim
    | succ n ih9 =>
      intro i1 i2 hx5 H locs ls hW hl
      obtain ⟨ooho4, ho4, hx5⟩ := lpI_s hx5
      replace ho4 := un2_s ho4
      unfold pX10_pairsOf_L4 at ho4
      refine lv_iload_n hx hb dX10_pairsOf_4 rfl (lv_at hl 0 rfl) ?_
      refine lv_bipush (v := 6) hx hb dX10_pairsOf_5 (by decide) ?_
      refine lv_icmp_ge (tgt := 54) hx hb dX10_pairsOf_7 (by decide) (fun hc => ?_) (fun hc => ?_)
      · replace ho4 := if_t hc ho4
        obtain rfl := Option.some.inj ho4
        obtain rfl := lpK_r hx5
        exact J6 _ _ _ hW (lv_sub hl [1] rfl)
      · replace ho4 := if_f hc ho4
        refine lv_iconst (v := 0) hx hb dX10_pairsOf_10 (by decide) ?_
        refine lv_istore (lv' := [(4, .int 0), (3, .int i1), (2, .int i2), (0, .ref r0), (1, .int p1)]) hx hb dX10_pairsOf_11 hl (by decide) rfl (fun ls hl => ?_)
        obtain ⟨x12, hx140, ho4⟩ := bd1_s ho4
        have J15 : ∀ (H : Heap) (locs : List Loc) (ls : Array Slot), kH D A s H locs [(r0, .inl (cI, 84, .inl u0))] → lv_has ls 5 [(3, .int i1), (2, .int x12), (0, .ref r0), (1, .int p1)] → W p l e (kRm 4 98 0 0) s m args below meth c H locs 0 0 Q (F0 m 48 ls []) := by
          intro H locs ls hW hl
          refine lv_iinc (v := (i1 + 1)) (lv' := [(3, .int (i1 + 1)), (2, .int x12), (0, .ref r0), (1, .int p1)]) hx hb dX10_pairsOf_48 hl (k := 0) rfl rfl (by decide) rfl (fun ls hl => ?_)
          refine lv_goto (tgt := 4) hx hb dX10_pairsOf_51 (by decide) ?_
          obtain rfl := Option.some.inj ho4
          exact ih9 _ _ hx5 _ _ _ hW (lv_sub hl [0, 1, 2, 3] rfl)
        have L16 : ∀ (n : Nat) (i10 : Int32) (i11 : Int32), lpI n (un2 (pX10_pairsOf_L13 u0 p1 i1)) (i10, i11) = some x12 → ∀ (H : Heap) (locs : List Loc) (ls : Array Slot), kH D A s H locs [(r0, .inl (cI, 84, .inl u0))] → lv_has ls 5 [(4, .int i10), (3, .int i1), (2, .int i11), (0, .ref r0), (1, .int p1)] → W p l e (kRm 4 98 0 0) s m args below meth c H locs 0 0 Q (F0 m 13 ls []) := by
          intro n
          induction n with
          | zero => intro i10 i11 hx14; exact (lpI_0 hx14).elim
          | succ n ih18 =>
            intro i10 i11 hx14 H locs ls hW hl
            obtain ⟨ooho13, ho13, hx14⟩ := lpI_s hx14
            replace ho13 := un2_s ho13
            unfold pX10_pairsOf_L13 at ho13
            refine lv_iload hx hb dX10_pairsOf_13 (lv_at hl 0 rfl) ?_
            refine lv_aload_n hx hb dX10_pairsOf_15 rfl (lv_at hl 3 rfl) ?_
            refine lv_iconst (v := 0) hx hb dX10_pairsOf_16 (by decide) ?_
            refine lv_iload_n hx hb dX10_pairsOf_17 rfl (lv_at hl 1 rfl) ?_
            obtain ⟨v19, h20, ho13⟩ := bd1_s ho13
            refine k_callSR (As := [.ref r0, .int 0, .int i1]) (n := 3) (rest := [.int i10]) (st1 := [.int v19, .int i10]) C hE hW hl.1 (kX10_length l D cI cZ cJ _ r0 u0 0 i1 v19 h20) gX10_pairsOf_X10_length rfl (by decide +kernel) rfl ⟨Nat.le_of_ble_eq_true rfl, Nat.le_of_ble_eq_true rfl⟩ ⟨Nat.zero_le _, Nat.zero_le _⟩ [0] rfl rfl (Nat.le_of_ble_eq_true rfl) rfl rfl dX10_pairsOf_18 (fun H locs hW => ?_)
            refine lv_icmp_ge (tgt := 48) hx hb dX10_pairsOf_21 (by decide) (fun hc => ?_) (fun hc => ?_)
            · replace ho13 := if_t hc ho13
              obtain rfl := Option.some.inj ho13
              obtain rfl := lpK_r hx14
              exact J15 _ _ _ hW (lv_sub hl [1, 2, 3, 4] rfl)
            · replace ho13 := if_f hc ho13
              refine lv_iload_n hx hb dX10_pairsOf_24 rfl (lv_at hl 2 rfl) ?_
              refine lv_aload_n hx hb dX10_pairsOf_25 rfl (lv_at hl 3 rfl) ?_
              refine lv_iconst (v := 1) hx hb dX10_pairsOf_26 (by decide) ?_
              refine lv_iload_n hx hb dX10_pairsOf_27 rfl (lv_at hl 4 rfl) ?_
              refine lv_aload_n hx hb dX10_pairsOf_28 rfl (lv_at hl 3 rfl) ?_
              refine lv_iconst (v := 0) hx hb dX10_pairsOf_29 (by decide) ?_
              refine lv_iload_n hx hb dX10_pairsOf_30 rfl (lv_at hl 1 rfl) ?_
              refine lv_iload hx hb dX10_pairsOf_31 (lv_at hl 0 rfl) ?_
              obtain ⟨v21, h22, ho13⟩ := bd1_s ho13
              refine k_callSR (As := [.ref r0, .int 0, .int i1, .int i10]) (n := 4) (rest := [.int p1, .int 1, .ref r0, .int i11]) (st1 := [.int v21, .int p1, .int 1, .ref r0, .int i11]) C hE hW hl.1 (kX10_get l D cI cZ cJ _ r0 u0 0 i1 i10 v21 h22) gX10_pairsOf_X10_get rfl (by decide +kernel) rfl ⟨Nat.le_of_ble_eq_true rfl, Nat.le_of_ble_eq_true rfl⟩ ⟨Nat.zero_le _, Nat.zero_le _⟩ [0] rfl rfl (Nat.le_of_ble_eq_true rfl) rfl rfl dX10_pairsOf_33 (fun H locs hW => ?_)
              refine lv_isub hx hb dX10_pairsOf_36 ?_
              obtain ⟨v23, h24, ho13⟩ := bd1_s ho13
              refine k_callSR (As := [.ref r0, .int 1, .int (p1 - v21)]) (n := 3) (rest := [.int i11]) (st1 := [.int v23, .int i11]) C hE hW hl.1 (kX10_upTo l D cI cZ cJ _ r0 u0 1 (p1 - v21) v23 h24) gX10_pairsOf_X10_upTo rfl (by decide +kernel) rfl ⟨Nat.le_of_ble_eq_true rfl, Nat.le_of_ble_eq_true rfl⟩ ⟨Nat.zero_le _, Nat.zero_le _⟩ [0] rfl rfl (Nat.le_of_ble_eq_true rfl) rfl rfl dX10_pairsOf_37 (fun H locs hW => ?_)
              refine lv_iadd hx hb dX10_pairsOf_40 ?_
              refine lv_istore_n (lv' := [(2, .int (i11 + v23)), (4, .int i10), (3, .int i1), (0, .ref r0), (1, .int p1)]) hx hb dX10_pairsOf_41 rfl hl (by decide) rfl (fun ls hl => ?_)
              refine lv_iinc (v := (i10 + 1)) (lv' := [(4, .int (i10 + 1)), (2, .int (i11 + v23)), (3, .int i1), (0, .ref r0), (1, .int p1)]) hx hb dX10_pairsOf_42 hl (k := 1) rfl rfl (by decide) rfl (fun ls hl => ?_)
              refine lv_goto (tgt := 13) hx hb dX10_pairsOf_45 (by decide) ?_
              obtain rfl := Option.some.inj ho13
              exact ih18 _ _ hx14 _ _ _ hW (lv_sub hl [0, 2, 1, 3, 4] rfl)
        exact L16 lpF _ _ hx140 _ _ _ hW (lv_sub hl [0, 1, 2, 3, 4] rfl)
  exact L7 lpF _ _ hx50 _ _ _ hW (lv_sub hl [0, 1, 2, 3] rfl)

set_option maxHeartbeats 4000000 in
set_option maxRecDepth 100000 in
theorem kX10_pairs (l : Launch) (D : va_G) (cI cZ cJ : ClassId) (sz : Nat) (q q_now q_script q_readRow q_trial q_diary q_kept q_isKept q_sums q_primes q_turned : Nat) (u_refusal : Int32) (u_scriptSize : Int32) (u_spot : Int32) (u_acts : Int32) (u_slides : Int32) (u_now : Nat → Int32) (p0 : Int32) (r : Int32) (u_refusal' : Int32) (hf : pX10_pairs u_refusal u_now p0 = some (r, u_refusal')) : kMet l D cI cZ cJ yX10_pairs wsX10_pairs 5 122 [.ref q, .int p0] [(q, .inr (9, [.int u_refusal, .ref q_script, .int u_scriptSize, .int u_spot, .ref q_readRow, .ref q_now, .ref q_trial, .ref q_diary, .int u_acts, .ref q_kept, .ref q_isKept, .int u_slides, .ref q_sums, .ref q_primes, .ref q_turned])), (q_now, .inl (cI, 84, .inl u_now))] sz (some (.int r)) [(q, .inr (9, [.int u_refusal', .ref q_script, .int u_scriptSize, .int u_spot, .ref q_readRow, .ref q_now, .ref q_trial, .ref q_diary, .int u_acts, .ref q_kept, .ref q_isKept, .int u_slides, .ref q_sums, .ref q_primes, .ref q_turned])), (q_now, .inl (cI, 84, .inl u_now))] := by
  refine kM_of (cc := cX10_pairs) (maxL := 2) (ret := (some .int)) (by decide) rfl (Nat.le_of_ble_eq_true rfl) ?_
  intro p e s m args below meth c A Q ls hQ C hlocks hr hE hW hl
  have hx := C.1
  have hb := C.2.1
  have hts := C.2.2.2.2
  have hl : lv_has ls 2 [(0, .ref q), (1, .int p0)] := hl
  have iX10 : ∀ w ∈ u_ws RX10 TX10 15, w ∈ wsX10_pairs := by decide +kernel
  have f16 := hts (.fieldLink RX10 16 "SortedTablesModel" "now" "[I") (by decide +kernel)
  unfold pX10_pairs at hf
  refine lv_aload_n hx hb dX10_pairs_0 rfl (lv_at hl 0 rfl) ?_
  refine lv_iload_n hx hb dX10_pairs_1 rfl (lv_at hl 1 rfl) ?_
  refine lv_i2l hx hb dX10_pairs_2 rfl ?_
  refine lv_lconst (v := 0) hx hb dX10_pairs_3 (by decide) ?_
  refine lv_ldc2 (v := 198) hx hb C.2.2.2.1 (hts (.constantLong RX10 196 (198)) (by decide +kernel)) dX10_pairs_4 ?_
  obtain ⟨v1, h2, hf⟩ := bd1_s hf
  refine k_callSR (As := [.long (p0 : Int32).toInt64, .long 0, .long 198]) (n := 3) (rest := [.ref q]) (st1 := [.int v1, .ref q]) C hE hW hl.1 (kX10_in l D cI cZ cJ _ (p0 : Int32).toInt64 0 198 v1 h2) gX10_pairs_X10_in rfl (by decide +kernel) rfl ⟨Nat.le_of_ble_eq_true rfl, Nat.le_of_ble_eq_true rfl⟩ ⟨Nat.zero_le _, Nat.zero_le _⟩ [] rfl rfl (Nat.le_of_ble_eq_true rfl) rfl rfl dX10_pairs_7 (fun H locs hW => ?_)
  obtain ⟨j3, hd4, hf⟩ := bd1_s hf
  have J5 : ∀ (H : Heap) (locs : List Loc) (ls : Array Slot), kH D A s H locs [(q, .inr (9, [.int u_refusal, .ref q_script, .int u_scriptSize, .int u_spot, .ref q_readRow, .ref q_now, .ref q_trial, .ref q_diary, .int u_acts, .ref q_kept, .ref q_isKept, .int u_slides, .ref q_sums, .ref q_primes, .ref q_turned])), (q_now, .inl (cI, 84, .inl u_now))] → lv_has ls 2 [(0, .ref q), (1, .int p0)] → W p l e (kRm 5 122 0 0) s m args below meth c H locs 0 0 Q (F0 m 18 ls [.int j3, .ref q]) := by
    intro H locs ls hW hl
    obtain ⟨⟨v6, w7⟩, h8, hf⟩ := bd1_s hf
    replace hf := un2_s hf
    refine k_callV (b := q) (ci := 9) (qb := 0) (As := [.int j3]) (n := 1) (rest := []) (st1 := [.int v6]) (wr := [(q_now, .inl (cI, 84, .inl u_now))]) (ws' := [(q, .inr (9, [.int w7, .ref q_script, .int u_scriptSize, .int u_spot, .ref q_readRow, .ref q_now, .ref q_trial, .ref q_diary, .int u_acts, .ref q_kept, .ref q_isKept, .int u_slides, .ref q_sums, .ref q_primes, .ref q_turned])), (q_now, .inl (cI, 84, .inl u_now))]) C hE hW hl.1 (kX10_refused l D cI cZ cJ _ q q_script q_readRow q_now q_trial q_diary q_kept q_isKept q_sums q_primes q_turned u_refusal u_scriptSize u_spot u_acts u_slides j3 v6 w7 h8) gX10_pairs_X10_refused rfl (by decide +kernel) rfl ⟨Nat.le_of_ble_eq_true rfl, Nat.le_of_ble_eq_true rfl⟩ ⟨Nat.zero_le _, Nat.zero_le _⟩ rfl rfl [0] [1] [1, 0] rfl rfl rfl rfl (by decide) rfl rfl (Nat.le_of_ble_eq_true rfl) rfl rfl dX10_pairs_18 (fun H locs hW => ?_)
    refine lv_if_eq (tgt := 26) hx hb dX10_pairs_21 (by decide) (fun hc => ?_) (fun hc => ?_)
    · replace hf := if_t hc hf
      refine lv_aload_n hx hb dX10_pairs_26 rfl (lv_at hl 0 rfl) ?_
      refine k_get C hE hW iX10 0 rfl rfl 5 (by decide) f16 (fun _ h9 => h9) rfl dX10_pairs_27 ?_
      refine lv_iload_n hx hb dX10_pairs_30 rfl (lv_at hl 1 rfl) ?_
      obtain ⟨v9, h10, hf⟩ := bd1_s hf
      refine k_callSR (As := [.ref q_now, .int p0]) (n := 2) (rest := []) (st1 := [.int v9]) C hE hW hl.1 (kX10_pairsOf l D cI cZ cJ _ q_now u_now p0 v9 h10) gX10_pairs_X10_pairsOf rfl (by decide +kernel) rfl ⟨Nat.le_of_ble_eq_true rfl, Nat.le_of_ble_eq_true rfl⟩ ⟨Nat.zero_le _, Nat.zero_le _⟩ [1] rfl rfl (Nat.le_of_ble_eq_true rfl) rfl rfl dX10_pairs_31 (fun H locs hW => ?_)
      obtain ⟨rfl, rfl⟩ := sm2 hf
      exact k_iret C hlocks hr hW hQ dX10_pairs_34
    · replace hf := if_f hc hf
      refine lv_iconst (v := 0) hx hb dX10_pairs_24 (by decide) ?_
      obtain ⟨rfl, rfl⟩ := sm2 hf
      exact k_iret C hlocks hr hW hQ dX10_pairs_25
  refine lv_if_eq (tgt := 17) hx hb dX10_pairs_10 (by decide) (fun hc => ?_) (fun hc => ?_)
  · replace hd4 := if_t hc hd4
    refine lv_iconst (v := 1) hx hb dX10_pairs_17 (by decide) ?_
    obtain rfl := Option.some.inj hd4
    exact J5 _ _ _ hW (lv_sub hl [0, 1] rfl)
  · replace hd4 := if_f hc hd4
    refine lv_iconst (v := 0) hx hb dX10_pairs_13 (by decide) ?_
    refine lv_goto (tgt := 18) hx hb dX10_pairs_14 (by decide) ?_
    obtain rfl := Option.some.inj hd4
    exact J5 _ _ _ hW (lv_sub hl [0, 1] rfl)

set_option maxHeartbeats 4000000 in
set_option maxRecDepth 100000 in
theorem kX10_kthSum (l : Launch) (D : va_G) (cI cZ cJ : ClassId) (sz : Nat) (q q_now q_script q_readRow q_trial q_diary q_kept q_isKept q_sums q_primes q_turned : Nat) (u_refusal : Int32) (u_scriptSize : Int32) (u_spot : Int32) (u_acts : Int32) (u_slides : Int32) (u_now : Nat → Int32) (p0 : Int32) (r : Int32) (u_refusal' : Int32) (hf : pX10_kthSum u_refusal u_now p0 = some (r, u_refusal')) : kMet l D cI cZ cJ yX10_kthSum wsX10_kthSum 5 122 [.ref q, .int p0] [(q, .inr (9, [.int u_refusal, .ref q_script, .int u_scriptSize, .int u_spot, .ref q_readRow, .ref q_now, .ref q_trial, .ref q_diary, .int u_acts, .ref q_kept, .ref q_isKept, .int u_slides, .ref q_sums, .ref q_primes, .ref q_turned])), (q_now, .inl (cI, 84, .inl u_now))] sz (some (.int r)) [(q, .inr (9, [.int u_refusal', .ref q_script, .int u_scriptSize, .int u_spot, .ref q_readRow, .ref q_now, .ref q_trial, .ref q_diary, .int u_acts, .ref q_kept, .ref q_isKept, .int u_slides, .ref q_sums, .ref q_primes, .ref q_turned])), (q_now, .inl (cI, 84, .inl u_now))] := by
  refine kM_of (cc := cX10_kthSum) (maxL := 3) (ret := (some .int)) (by decide) rfl (Nat.le_of_ble_eq_true rfl) ?_
  intro p e s m args below meth c A Q ls hQ C hlocks hr hE hW hl
  have hx := C.1
  have hb := C.2.1
  have hts := C.2.2.2.2
  have hl : lv_has ls 3 [(0, .ref q), (1, .int p0)] := hl
  have iX10 : ∀ w ∈ u_ws RX10 TX10 15, w ∈ wsX10_kthSum := by decide +kernel
  have f16 := hts (.fieldLink RX10 16 "SortedTablesModel" "now" "[I") (by decide +kernel)
  unfold pX10_kthSum at hf
  refine lv_aload_n hx hb dX10_kthSum_0 rfl (lv_at hl 0 rfl) ?_
  refine lv_iload_n hx hb dX10_kthSum_1 rfl (lv_at hl 1 rfl) ?_
  obtain ⟨j1, hd2, hf⟩ := bd1_s hf
  have J3 : ∀ (H : Heap) (locs : List Loc) (ls : Array Slot), kH D A s H locs [(q, .inr (9, [.int u_refusal, .ref q_script, .int u_scriptSize, .int u_spot, .ref q_readRow, .ref q_now, .ref q_trial, .ref q_diary, .int u_acts, .ref q_kept, .ref q_isKept, .int u_slides, .ref q_sums, .ref q_primes, .ref q_turned])), (q_now, .inl (cI, 84, .inl u_now))] → lv_has ls 3 [(0, .ref q), (1, .int p0)] → W p l e (kRm 5 122 0 0) s m args below meth c H locs 0 0 Q (F0 m 10 ls [.int j1, .ref q]) := by
    intro H locs ls hW hl
    obtain ⟨⟨v4, w5⟩, h6, hf⟩ := bd1_s hf
    replace hf := un2_s hf
    refine k_callV (b := q) (ci := 9) (qb := 0) (As := [.int j1]) (n := 1) (rest := []) (st1 := [.int v4]) (wr := [(q_now, .inl (cI, 84, .inl u_now))]) (ws' := [(q, .inr (9, [.int w5, .ref q_script, .int u_scriptSize, .int u_spot, .ref q_readRow, .ref q_now, .ref q_trial, .ref q_diary, .int u_acts, .ref q_kept, .ref q_isKept, .int u_slides, .ref q_sums, .ref q_primes, .ref q_turned])), (q_now, .inl (cI, 84, .inl u_now))]) C hE hW hl.1 (kX10_refused l D cI cZ cJ _ q q_script q_readRow q_now q_trial q_diary q_kept q_isKept q_sums q_primes q_turned u_refusal u_scriptSize u_spot u_acts u_slides j1 v4 w5 h6) gX10_kthSum_X10_refused rfl (by decide +kernel) rfl ⟨Nat.le_of_ble_eq_true rfl, Nat.le_of_ble_eq_true rfl⟩ ⟨Nat.zero_le _, Nat.zero_le _⟩ rfl rfl [0] [1] [1, 0] rfl rfl rfl rfl (by decide) rfl rfl (Nat.le_of_ble_eq_true rfl) rfl rfl dX10_kthSum_10 (fun H locs hW => ?_)
    refine lv_if_eq (tgt := 18) hx hb dX10_kthSum_13 (by decide) (fun hc => ?_) (fun hc => ?_)
    · replace hf := if_t hc hf
      refine lv_iconst (v := 0) hx hb dX10_kthSum_18 (by decide) ?_
      refine lv_istore_n (lv' := [(2, .int 0), (0, .ref q), (1, .int p0)]) hx hb dX10_kthSum_19 rfl hl (by decide) rfl (fun ls hl => ?_)
      obtain ⟨xx12, hx90, hf⟩ := bd1_s hf
      have J10 : pX10_kthSum_R47 w5 = some (r, u_refusal') → ∀ (H : Heap) (locs : List Loc) (ls : Array Slot), kH D A s H locs [(q, .inr (9, [.int w5, .ref q_script, .int u_scriptSize, .int u_spot, .ref q_readRow, .ref q_now, .ref q_trial, .ref q_diary, .int u_acts, .ref q_kept, .ref q_isKept, .int u_slides, .ref q_sums, .ref q_primes, .ref q_turned])), (q_now, .inl (cI, 84, .inl u_now))] → lv_has ls 3 [] → W p l e (kRm 5 122 0 0) s m args below meth c H locs 0 0 Q (F0 m 47 ls []) := by
        intro hf H locs ls hW hl
        unfold pX10_kthSum_R47 at hf
        refine lv_bipush (v := (-9)) hx hb dX10_kthSum_47 (by decide) ?_
        obtain ⟨rfl, rfl⟩ := sm2 hf
        exact k_iret C hlocks hr hW hQ dX10_kthSum_49
      have L11 : ∀ (n : Nat) (i7 : Int32), lpI n (pX10_kthSum_L20 u_now p0 w5) i7 = some xx12 → ∀ (H : Heap) (locs : List Loc) (ls : Array Slot), kH D A s H locs [(q, .inr (9, [.int w5, .ref q_script, .int u_scriptSize, .int u_spot, .ref q_readRow, .ref q_now, .ref q_trial, .ref q_diary, .int u_acts, .ref q_kept, .ref q_isKept, .int u_slides, .ref q_sums, .ref q_primes, .ref q_turned])), (q_now, .inl (cI, 84, .inl u_now))] → lv_has ls 3 [(2, .int i7), (0, .ref q), (1, .int p0)] → W p l e (kRm 5 122 0 0) s m args below meth c H locs 0 0 Q (F0 m 20 ls []) := by
        intro n
        induction n with
        | zero => intro i7 hx9; exact (lpI_0 hx9).elim
        | succ n ih13 =>
          intro i7 hx9 H locs ls hW hl
          obtain ⟨ooho8, ho8, hx9⟩ := lpI_s hx9
          unfold pX10_kthSum_L20 at ho8
          refine lv_iload_n hx hb dX10_kthSum_20 rfl (lv_at hl 0 rfl) ?_
          refine lv_sipush (v := 198) hx hb dX10_kthSum_21 (by decide) ?_
          refine lv_icmp_gt (tgt := 47) hx hb dX10_kthSum_24 (by decide) (fun hc => ?_) (fun hc => ?_)
          · replace ho8 := if_t hc ho8
            obtain rfl := Option.some.inj ho8
            obtain rfl := lpK_r hx9
            replace hf := el_r hf
            exact J10 hf _ _ _ hW (lv_sub hl [] rfl)
          · replace ho8 := if_f hc ho8
            refine lv_aload_n hx hb dX10_kthSum_27 rfl (lv_at hl 1 rfl) ?_
            refine k_get C hE hW iX10 0 rfl rfl 5 (by decide) f16 (fun _ h9 => h9) rfl dX10_kthSum_28 ?_
            refine lv_iload_n hx hb dX10_kthSum_31 rfl (lv_at hl 0 rfl) ?_
            obtain ⟨v14, h15, ho8⟩ := bd1_s ho8
            refine k_callSR (As := [.ref q_now, .int i7]) (n := 2) (rest := []) (st1 := [.int v14]) C hE hW hl.1 (kX10_pairsOf l D cI cZ cJ _ q_now u_now i7 v14 h15) gX10_kthSum_X10_pairsOf rfl (by decide +kernel) rfl ⟨Nat.le_of_ble_eq_true rfl, Nat.le_of_ble_eq_true rfl⟩ ⟨Nat.zero_le _, Nat.zero_le _⟩ [1] rfl rfl (Nat.le_of_ble_eq_true rfl) rfl rfl dX10_kthSum_32 (fun H locs hW => ?_)
            refine lv_iload_n hx hb dX10_kthSum_35 rfl (lv_at hl 2 rfl) ?_
            refine lv_icmp_le (tgt := 41) hx hb dX10_kthSum_36 (by decide) (fun hc => ?_) (fun hc => ?_)
            · replace ho8 := if_t hc ho8
              refine lv_iinc (v := (i7 + 1)) (lv' := [(2, .int (i7 + 1)), (0, .ref q), (1, .int p0)]) hx hb dX10_kthSum_41 hl (k := 0) rfl rfl (by decide) rfl (fun ls hl => ?_)
              refine lv_goto (tgt := 20) hx hb dX10_kthSum_44 (by decide) ?_
              obtain rfl := Option.some.inj ho8
              exact ih13 _ hx9 _ _ _ hW (lv_sub hl [0, 1, 2] rfl)
            · replace ho8 := if_f hc ho8
              refine lv_iload_n hx hb dX10_kthSum_39 rfl (lv_at hl 0 rfl) ?_
              obtain rfl := Option.some.inj ho8
              obtain rfl := lpK_r hx9
              replace hf := el_l hf
              replace hf := un2_s hf
              obtain ⟨rfl, rfl⟩ := sm2 hf
              exact k_iret C hlocks hr hW hQ dX10_kthSum_40
      exact L11 lpF _ hx90 _ _ _ hW (lv_sub hl [0, 1, 2] rfl)
    · replace hf := if_f hc hf
      refine lv_iconst (v := 0) hx hb dX10_kthSum_16 (by decide) ?_
      obtain ⟨rfl, rfl⟩ := sm2 hf
      exact k_iret C hlocks hr hW hQ dX10_kthSum_17
  refine lv_if_ge (tgt := 9) hx hb dX10_kthSum_2 (by decide) (fun hc => ?_) (fun hc => ?_)
  · replace hd2 := if_t hc hd2
    refine lv_iconst (v := 0) hx hb dX10_kthSum_9 (by decide) ?_
    obtain rfl := Option.some.inj hd2
    exact J3 _ _ _ hW (lv_sub hl [0, 1] rfl)
  · replace hd2 := if_f hc hd2
    refine lv_iconst (v := 1) hx hb dX10_kthSum_5 (by decide) ?_
    refine lv_goto (tgt := 10) hx hb dX10_kthSum_6 (by decide) ?_
    obtain rfl := Option.some.inj hd2
    exact J3 _ _ _ hW (lv_sub hl [0, 1] rfl)

set_option maxHeartbeats 4000000 in
set_option maxRecDepth 100000 in
theorem kX10_corner (l : Launch) (D : va_G) (cI cZ cJ : ClassId) (sz : Nat) (q q_now q_script q_readRow q_trial q_diary q_kept q_isKept q_sums q_primes q_turned : Nat) (u_refusal : Int32) (u_scriptSize : Int32) (u_spot : Int32) (u_acts : Int32) (u_slides : Int32) (u_now : Nat → Int32) (p0 : Int32) (p1 : Int32) (p2 : Int32) (r : Int32) (u_refusal' : Int32) (hf : pX10_corner u_refusal u_now p0 p1 p2 = some (r, u_refusal')) : kMet l D cI cZ cJ yX10_corner wsX10_corner 3 70 [.ref q, .int p0, .int p1, .int p2] [(q, .inr (9, [.int u_refusal, .ref q_script, .int u_scriptSize, .int u_spot, .ref q_readRow, .ref q_now, .ref q_trial, .ref q_diary, .int u_acts, .ref q_kept, .ref q_isKept, .int u_slides, .ref q_sums, .ref q_primes, .ref q_turned])), (q_now, .inl (cI, 84, .inl u_now))] sz (some (.int r)) [(q, .inr (9, [.int u_refusal', .ref q_script, .int u_scriptSize, .int u_spot, .ref q_readRow, .ref q_now, .ref q_trial, .ref q_diary, .int u_acts, .ref q_kept, .ref q_isKept, .int u_slides, .ref q_sums, .ref q_primes, .ref q_turned])), (q_now, .inl (cI, 84, .inl u_now))] := by
  refine kM_of (cc := cX10_corner) (maxL := 6) (ret := (some .int)) (by decide) rfl (Nat.le_of_ble_eq_true rfl) ?_
  intro p e s m args below meth c A Q ls hQ C hlocks hr hE hW hl
  have hx := C.1
  have hb := C.2.1
  have hts := C.2.2.2.2
  have hl : lv_has ls 6 [(0, .ref q), (1, .int p0), (2, .int p1), (3, .int p2)] := hl
  have iX10 : ∀ w ∈ u_ws RX10 TX10 15, w ∈ wsX10_corner := by decide +kernel
  have f16 := hts (.fieldLink RX10 16 "SortedTablesModel" "now" "[I") (by decide +kernel)
  unfold pX10_corner at hf
  refine lv_aload_n hx hb dX10_corner_0 rfl (lv_at hl 0 rfl) ?_
  refine lv_iload_n hx hb dX10_corner_1 rfl (lv_at hl 1 rfl) ?_
  obtain ⟨v1, h2, hf⟩ := bd1_s hf
  refine k_callSR (As := [.int p0]) (n := 1) (rest := [.ref q]) (st1 := [.int v1, .ref q]) C hE hW hl.1 (kX10_isTable l D cI cZ cJ _ p0 v1 h2) gX10_corner_X10_isTable rfl (by decide +kernel) rfl ⟨Nat.le_of_ble_eq_true rfl, Nat.le_of_ble_eq_true rfl⟩ ⟨Nat.zero_le _, Nat.zero_le _⟩ [] rfl rfl (Nat.le_of_ble_eq_true rfl) rfl rfl dX10_corner_2 (fun H locs hW => ?_)
  obtain ⟨j3, hd4, hf⟩ := bd1_s hf
  have J5 : ∀ (H : Heap) (locs : List Loc) (ls : Array Slot), kH D A s H locs [(q, .inr (9, [.int u_refusal, .ref q_script, .int u_scriptSize, .int u_spot, .ref q_readRow, .ref q_now, .ref q_trial, .ref q_diary, .int u_acts, .ref q_kept, .ref q_isKept, .int u_slides, .ref q_sums, .ref q_primes, .ref q_turned])), (q_now, .inl (cI, 84, .inl u_now))] → lv_has ls 6 [(0, .ref q), (1, .int p0), (2, .int p1), (3, .int p2)] → W p l e (kRm 3 70 0 0) s m args below meth c H locs 0 0 Q (F0 m 21 ls [.int j3, .ref q]) := by
    intro H locs ls hW hl
    obtain ⟨⟨v6, w7⟩, h8, hf⟩ := bd1_s hf
    replace hf := un2_s hf
    refine k_callV (b := q) (ci := 9) (qb := 0) (As := [.int j3]) (n := 1) (rest := []) (st1 := [.int v6]) (wr := [(q_now, .inl (cI, 84, .inl u_now))]) (ws' := [(q, .inr (9, [.int w7, .ref q_script, .int u_scriptSize, .int u_spot, .ref q_readRow, .ref q_now, .ref q_trial, .ref q_diary, .int u_acts, .ref q_kept, .ref q_isKept, .int u_slides, .ref q_sums, .ref q_primes, .ref q_turned])), (q_now, .inl (cI, 84, .inl u_now))]) C hE hW hl.1 (kX10_refused l D cI cZ cJ _ q q_script q_readRow q_now q_trial q_diary q_kept q_isKept q_sums q_primes q_turned u_refusal u_scriptSize u_spot u_acts u_slides j3 v6 w7 h8) gX10_corner_X10_refused rfl (by decide +kernel) rfl ⟨Nat.le_of_ble_eq_true rfl, Nat.le_of_ble_eq_true rfl⟩ ⟨Nat.zero_le _, Nat.zero_le _⟩ rfl rfl [0] [1] [1, 0] rfl rfl rfl rfl (by decide) rfl rfl (Nat.le_of_ble_eq_true rfl) rfl rfl dX10_corner_21 (fun H locs hW => ?_)
    refine lv_if_eq (tgt := 29) hx hb dX10_corner_24 (by decide) (fun hc => ?_) (fun hc => ?_)
    · replace hf := if_t hc hf
      refine lv_iload_n hx hb dX10_corner_29 rfl (lv_at hl 2 rfl) ?_
      refine lv_istore (lv' := [(4, .int p1), (0, .ref q), (1, .int p0), (2, .int p1), (3, .int p2)]) hx hb dX10_corner_30 hl (by decide) rfl (fun ls hl => ?_)
      refine lv_iconst (v := 0) hx hb dX10_corner_32 (by decide) ?_
      refine lv_istore (lv' := [(5, .int 0), (4, .int p1), (0, .ref q), (1, .int p0), (2, .int p1), (3, .int p2)]) hx hb dX10_corner_33 hl (by decide) rfl (fun ls hl => ?_)
      obtain ⟨xx15, hx120, hf⟩ := bd1_s hf
      have J13 : pX10_corner_R116 w7 = some (r, u_refusal') → ∀ (H : Heap) (locs : List Loc) (ls : Array Slot), kH D A s H locs [(q, .inr (9, [.int w7, .ref q_script, .int u_scriptSize, .int u_spot, .ref q_readRow, .ref q_now, .ref q_trial, .ref q_diary, .int u_acts, .ref q_kept, .ref q_isKept, .int u_slides, .ref q_sums, .ref q_primes, .ref q_turned])), (q_now, .inl (cI, 84, .inl u_now))] → lv_has ls 6 [] → W p l e (kRm 3 70 0 0) s m args below meth c H locs 0 0 Q (F0 m 116 ls []) := by
        intro hf H locs ls hW hl
        unfold pX10_corner_R116 at hf
        refine lv_bipush (v := (-9)) hx hb dX10_corner_116 (by decide) ?_
        obtain ⟨rfl, rfl⟩ := sm2 hf
        exact k_iret C hlocks hr hW hQ dX10_corner_118
      have L14 : ∀ (n : Nat) (i9 : Int32) (i10 : Int32), lpI n (un2 (pX10_corner_L35 u_now p0 p2 w7)) (i9, i10) = some xx15 → ∀ (H : Heap) (locs : List Loc) (ls : Array Slot), kH D A s H locs [(q, .inr (9, [.int w7, .ref q_script, .int u_scriptSize, .int u_spot, .ref q_readRow, .ref q_now, .ref q_trial, .ref q_diary, .int u_acts, .ref q_kept, .ref q_isKept, .int u_slides, .ref q_sums, .ref q_primes, .ref q_turned])), (q_now, .inl (cI, 84, .inl u_now))] → lv_has ls 6 [(5, .int i9), (4, .int i10), (0, .ref q), (1, .int p0), (3, .int p2)] → W p l e (kRm 3 70 0 0) s m args below meth c H locs 0 0 Q (F0 m 35 ls []) := by
        intro n
        induction n with
        | zero => intro i9 i10 hx12; exact (lpI_0 hx12).elim
        | succ n ih16 =>
          intro i9 i10 hx12 H locs ls hW hl
          obtain ⟨ooho11, ho11, hx12⟩ := lpI_s hx12
          replace ho11 := un2_s ho11
          unfold pX10_corner_L35 at ho11
          refine lv_iload hx hb dX10_corner_35 (lv_at hl 0 rfl) ?_
          refine lv_bipush (v := 6) hx hb dX10_corner_37 (by decide) ?_
          refine lv_icmp_ge (tgt := 116) hx hb dX10_corner_39 (by decide) (fun hc => ?_) (fun hc => ?_)
          · replace ho11 := if_t hc ho11
            obtain rfl := Option.some.inj ho11
            obtain rfl := lpK_r hx12
            replace hf := el_r hf
            exact J13 hf _ _ _ hW (lv_sub hl [] rfl)
          · replace ho11 := if_f hc ho11
            refine lv_iload_n hx hb dX10_corner_42 rfl (lv_at hl 4 rfl) ?_
            refine lv_if_eq (tgt := 62) hx hb dX10_corner_43 (by decide) (fun hc => ?_) (fun hc => ?_)
            · replace ho11 := if_t hc ho11
              refine lv_aload_n hx hb dX10_corner_62 rfl (lv_at hl 2 rfl) ?_
              refine k_get C hE hW iX10 0 rfl rfl 5 (by decide) f16 (fun _ h9 => h9) rfl dX10_corner_63 ?_
              refine lv_iload_n hx hb dX10_corner_66 rfl (lv_at hl 3 rfl) ?_
              refine lv_iload hx hb dX10_corner_67 (lv_at hl 0 rfl) ?_
              obtain ⟨v17, h18, ho11⟩ := bd1_s ho11
              refine k_callSR (As := [.ref q_now, .int p0, .int i9]) (n := 3) (rest := []) (st1 := [.int v17]) C hE hW hl.1 (kX10_isCorner l D cI cZ cJ _ q_now u_now p0 i9 v17 h18) gX10_corner_X10_isCorner rfl (by decide +kernel) rfl ⟨Nat.le_of_ble_eq_true rfl, Nat.le_of_ble_eq_true rfl⟩ ⟨Nat.zero_le _, Nat.zero_le _⟩ [1] rfl rfl (Nat.le_of_ble_eq_true rfl) rfl rfl dX10_corner_69 (fun H locs hW => ?_)
              refine lv_if_eq (tgt := 110) hx hb dX10_corner_72 (by decide) (fun hc => ?_) (fun hc => ?_)
              · replace ho11 := if_t hc ho11
                refine lv_iinc (v := (i9 + 1)) (lv' := [(5, .int (i9 + 1)), (4, .int i10), (0, .ref q), (1, .int p0), (3, .int p2)]) hx hb dX10_corner_110 hl (k := 0) rfl rfl (by decide) rfl (fun ls hl => ?_)
                refine lv_goto (tgt := 35) hx hb dX10_corner_113 (by decide) ?_
                obtain rfl := Option.some.inj ho11
                exact ih16 _ _ hx12 _ _ _ hW (lv_sub hl [0, 1, 2, 3, 4] rfl)
              · replace ho11 := if_f hc ho11
                refine lv_iload hx hb dX10_corner_75 (lv_at hl 1 rfl) ?_
                refine lv_if_ne (tgt := 107) hx hb dX10_corner_77 (by decide) (fun hc => ?_) (fun hc => ?_)
                · replace ho11 := if_f hc ho11
                  refine lv_iinc (v := (i10 + (-1))) (lv' := [(4, .int (i10 + (-1))), (5, .int i9), (0, .ref q), (1, .int p0), (3, .int p2)]) hx hb dX10_corner_107 hl (k := 1) rfl rfl (by decide) rfl (fun ls hl => ?_)
                  refine lv_iinc (v := (i9 + 1)) (lv' := [(5, .int (i9 + 1)), (4, .int (i10 + (-1))), (0, .ref q), (1, .int p0), (3, .int p2)]) hx hb dX10_corner_110 hl (k := 1) rfl rfl (by decide) rfl (fun ls hl => ?_)
                  refine lv_goto (tgt := 35) hx hb dX10_corner_113 (by decide) ?_
                  obtain rfl := Option.some.inj ho11
                  exact ih16 _ _ hx12 _ _ _ hW (lv_sub hl [0, 1, 2, 3, 4] rfl)
                · replace ho11 := if_t hc ho11
                  refine lv_bipush (v := 10) hx hb dX10_corner_80 (by decide) ?_
                  refine lv_iload hx hb dX10_corner_82 (lv_at hl 0 rfl) ?_
                  refine lv_imul hx hb dX10_corner_84 ?_
                  refine lv_aload_n hx hb dX10_corner_85 rfl (lv_at hl 2 rfl) ?_
                  refine k_get C hE hW iX10 0 rfl rfl 5 (by decide) f16 (fun _ h9 => h9) rfl dX10_corner_86 ?_
                  refine lv_iload_n hx hb dX10_corner_89 rfl (lv_at hl 3 rfl) ?_
                  refine lv_iload hx hb dX10_corner_90 (lv_at hl 0 rfl) ?_
                  obtain ⟨v19, h20, ho11⟩ := bd1_s ho11
                  refine k_callSR (As := [.ref q_now, .int p0, .int i9]) (n := 3) (rest := [.int (10 * i9)]) (st1 := [.int v19, .int (10 * i9)]) C hE hW hl.1 (kX10_length l D cI cZ cJ _ q_now u_now p0 i9 v19 h20) gX10_corner_X10_length rfl (by decide +kernel) rfl ⟨Nat.le_of_ble_eq_true rfl, Nat.le_of_ble_eq_true rfl⟩ ⟨Nat.zero_le _, Nat.zero_le _⟩ [1] rfl rfl (Nat.le_of_ble_eq_true rfl) rfl rfl dX10_corner_92 (fun H locs hW => ?_)
                  refine lv_iadd hx hb dX10_corner_95 ?_
                  refine lv_iload_n hx hb dX10_corner_96 rfl (lv_at hl 4 rfl) ?_
                  refine lv_if_eq (tgt := 104) hx hb dX10_corner_97 (by decide) (fun hc => ?_) (fun hc => ?_)
                  · replace ho11 := if_t hc ho11
                    refine lv_iconst (v := 1) hx hb dX10_corner_104 (by decide) ?_
                    refine lv_isub hx hb dX10_corner_105 ?_
                    obtain rfl := Option.some.inj ho11
                    obtain rfl := lpK_r hx12
                    replace hf := el_l hf
                    replace hf := un2_s hf
                    obtain ⟨rfl, rfl⟩ := sm2 hf
                    exact k_iret C hlocks hr hW hQ dX10_corner_106
                  · replace ho11 := if_f hc ho11
                    refine lv_iconst (v := 0) hx hb dX10_corner_100 (by decide) ?_
                    refine lv_goto (tgt := 105) hx hb dX10_corner_101 (by decide) ?_
                    refine lv_isub hx hb dX10_corner_105 ?_
                    obtain rfl := Option.some.inj ho11
                    obtain rfl := lpK_r hx12
                    replace hf := el_l hf
                    replace hf := un2_s hf
                    obtain ⟨rfl, rfl⟩ := sm2 hf
                    exact k_iret C hlocks hr hW hQ dX10_corner_106
            · replace ho11 := if_f hc ho11
              refine lv_aload_n hx hb dX10_corner_46 rfl (lv_at hl 2 rfl) ?_
              refine k_get C hE hW iX10 0 rfl rfl 5 (by decide) f16 (fun _ h9 => h9) rfl dX10_corner_47 ?_
              refine lv_iload_n hx hb dX10_corner_50 rfl (lv_at hl 3 rfl) ?_
              refine lv_iload hx hb dX10_corner_51 (lv_at hl 0 rfl) ?_
              obtain ⟨v21, h22, ho11⟩ := bd1_s ho11
              refine k_callSR (As := [.ref q_now, .int p0, .int i9]) (n := 3) (rest := []) (st1 := [.int v21]) C hE hW hl.1 (kX10_isGap l D cI cZ cJ _ q_now u_now p0 i9 v21 h22) gX10_corner_X10_isGap rfl (by decide +kernel) rfl ⟨Nat.le_of_ble_eq_true rfl, Nat.le_of_ble_eq_true rfl⟩ ⟨Nat.zero_le _, Nat.zero_le _⟩ [1] rfl rfl (Nat.le_of_ble_eq_true rfl) rfl rfl dX10_corner_53 (fun H locs hW => ?_)
              refine lv_if_eq (tgt := 110) hx hb dX10_corner_56 (by decide) (fun hc => ?_) (fun hc => ?_)
              · replace ho11 := if_t hc ho11
                refine lv_iinc (v := (i9 + 1)) (lv' := [(5, .int (i9 + 1)), (4, .int i10), (0, .ref q), (1, .int p0), (3, .int p2)]) hx hb dX10_corner_110 hl (k := 0) rfl rfl (by decide) rfl (fun ls hl => ?_)
                refine lv_goto (tgt := 35) hx hb dX10_corner_113 (by decide) ?_
                obtain rfl := Option.some.inj ho11
                exact ih16 _ _ hx12 _ _ _ hW (lv_sub hl [0, 1, 2, 3, 4] rfl)
              · replace ho11 := if_f hc ho11
                refine lv_goto (tgt := 75) hx hb dX10_corner_59 (by decide) ?_
                refine lv_iload hx hb dX10_corner_75 (lv_at hl 1 rfl) ?_
                refine lv_if_ne (tgt := 107) hx hb dX10_corner_77 (by decide) (fun hc => ?_) (fun hc => ?_)
                · replace ho11 := if_f hc ho11
                  refine lv_iinc (v := (i10 + (-1))) (lv' := [(4, .int (i10 + (-1))), (5, .int i9), (0, .ref q), (1, .int p0), (3, .int p2)]) hx hb dX10_corner_107 hl (k := 1) rfl rfl (by decide) rfl (fun ls hl => ?_)
                  refine lv_iinc (v := (i9 + 1)) (lv' := [(5, .int (i9 + 1)), (4, .int (i10 + (-1))), (0, .ref q), (1, .int p0), (3, .int p2)]) hx hb dX10_corner_110 hl (k := 1) rfl rfl (by decide) rfl (fun ls hl => ?_)
                  refine lv_goto (tgt := 35) hx hb dX10_corner_113 (by decide) ?_
                  obtain rfl := Option.some.inj ho11
                  exact ih16 _ _ hx12 _ _ _ hW (lv_sub hl [0, 1, 2, 3, 4] rfl)
                · replace ho11 := if_t hc ho11
                  refine lv_bipush (v := 10) hx hb dX10_corner_80 (by decide) ?_
                  refine lv_iload hx hb dX10_corner_82 (lv_at hl 0 rfl) ?_
                  refine lv_imul hx hb dX10_corner_84 ?_
                  refine lv_aload_n hx hb dX10_corner_85 rfl (lv_at hl 2 rfl) ?_
                  refine k_get C hE hW iX10 0 rfl rfl 5 (by decide) f16 (fun _ h9 => h9) rfl dX10_corner_86 ?_
                  refine lv_iload_n hx hb dX10_corner_89 rfl (lv_at hl 3 rfl) ?_
                  refine lv_iload hx hb dX10_corner_90 (lv_at hl 0 rfl) ?_
                  obtain ⟨v23, h24, ho11⟩ := bd1_s ho11
                  refine k_callSR (As := [.ref q_now, .int p0, .int i9]) (n := 3) (rest := [.int (10 * i9)]) (st1 := [.int v23, .int (10 * i9)]) C hE hW hl.1 (kX10_length l D cI cZ cJ _ q_now u_now p0 i9 v23 h24) gX10_corner_X10_length rfl (by decide +kernel) rfl ⟨Nat.le_of_ble_eq_true rfl, Nat.le_of_ble_eq_true rfl⟩ ⟨Nat.zero_le _, Nat.zero_le _⟩ [1] rfl rfl (Nat.le_of_ble_eq_true rfl) rfl rfl dX10_corner_92 (fun H locs hW => ?_)
                  refine lv_iadd hx hb dX10_corner_95 ?_
                  refine lv_iload_n hx hb dX10_corner_96 rfl (lv_at hl 4 rfl) ?_
                  refine lv_if_eq (tgt := 104) hx hb dX10_corner_97 (by decide) (fun hc => ?_) (fun hc => ?_)
                  · replace ho11 := if_t hc ho11
                    refine lv_iconst (v := 1) hx hb dX10_corner_104 (by decide) ?_
                    refine lv_isub hx hb dX10_corner_105 ?_
                    obtain rfl := Option.some.inj ho11
                    obtain rfl := lpK_r hx12
                    replace hf := el_l hf
                    replace hf := un2_s hf
                    obtain ⟨rfl, rfl⟩ := sm2 hf
                    exact k_iret C hlocks hr hW hQ dX10_corner_106
                  · replace ho11 := if_f hc ho11
                    refine lv_iconst (v := 0) hx hb dX10_corner_100 (by decide) ?_
                    refine lv_goto (tgt := 105) hx hb dX10_corner_101 (by decide) ?_
                    refine lv_isub hx hb dX10_corner_105 ?_
                    obtain rfl := Option.some.inj ho11
                    obtain rfl := lpK_r hx12
                    replace hf := el_l hf
                    replace hf := un2_s hf
                    obtain ⟨rfl, rfl⟩ := sm2 hf
                    exact k_iret C hlocks hr hW hQ dX10_corner_106
      exact L14 lpF _ _ hx120 _ _ _ hW (lv_sub hl [0, 1, 2, 3, 5] rfl)
    · replace hf := if_f hc hf
      refine lv_iconst (v := 0) hx hb dX10_corner_27 (by decide) ?_
      obtain ⟨rfl, rfl⟩ := sm2 hf
      exact k_iret C hlocks hr hW hQ dX10_corner_28
  refine lv_if_ne (tgt := 12) hx hb dX10_corner_5 (by decide) (fun hc => ?_) (fun hc => ?_)
  · replace hd4 := if_f hc hd4
    refine lv_iload_n hx hb dX10_corner_12 rfl (lv_at hl 2 rfl) ?_
    refine lv_if_ge (tgt := 20) hx hb dX10_corner_13 (by decide) (fun hc => ?_) (fun hc => ?_)
    · replace hd4 := if_t hc hd4
      refine lv_iconst (v := 0) hx hb dX10_corner_20 (by decide) ?_
      obtain rfl := Option.some.inj hd4
      exact J5 _ _ _ hW (lv_sub hl [0, 1, 2, 3] rfl)
    · replace hd4 := if_f hc hd4
      refine lv_iconst (v := 2) hx hb dX10_corner_16 (by decide) ?_
      refine lv_goto (tgt := 21) hx hb dX10_corner_17 (by decide) ?_
      obtain rfl := Option.some.inj hd4
      exact J5 _ _ _ hW (lv_sub hl [0, 1, 2, 3] rfl)
  · replace hd4 := if_t hc hd4
    refine lv_iconst (v := 1) hx hb dX10_corner_8 (by decide) ?_
    refine lv_goto (tgt := 21) hx hb dX10_corner_9 (by decide) ?_
    obtain rfl := Option.some.inj hd4
    exact J5 _ _ _ hW (lv_sub hl [0, 1, 2, 3] rfl)

set_option maxHeartbeats 4000000 in
set_option maxRecDepth 100000 in
theorem kX10_hookOf (l : Launch) (D : va_G) (cI cZ cJ : ClassId) (sz : Nat) (r0 : Nat) (u0 : Nat → Int32) (p1 : Int32) (p2 : Int32) (p3 : Int32) (r : Int32) (hf : pX10_hookOf u0 p1 p2 p3 = some r) : kMet l D cI cZ cJ yX10_hookOf wsX10_hookOf 3 71 [.ref r0, .int p1, .int p2, .int p3] [(r0, .inl (cI, 84, .inl u0))] sz (some (.int r)) [(r0, .inl (cI, 84, .inl u0))] := by
  refine kM_of (cc := cX10_hookOf) (maxL := 4) (ret := (some .int)) (by decide) rfl (Nat.le_of_ble_eq_true rfl) ?_
  intro p e s m args below meth c A Q ls hQ C hlocks hr hE hW hl
  have hx := C.1
  have hb := C.2.1
  have hts := C.2.2.2.2
  have hl : lv_has ls 4 [(0, .ref r0), (1, .int p1), (2, .int p2), (3, .int p3)] := hl
  unfold pX10_hookOf at hf
  refine lv_aload_n hx hb dX10_hookOf_0 rfl (lv_at hl 0 rfl) ?_
  refine lv_iload_n hx hb dX10_hookOf_1 rfl (lv_at hl 1 rfl) ?_
  refine lv_iload_n hx hb dX10_hookOf_2 rfl (lv_at hl 2 rfl) ?_
  obtain ⟨v1, h2, hf⟩ := bd1_s hf
  refine k_callSR (As := [.ref r0, .int p1, .int p2]) (n := 3) (rest := []) (st1 := [.int v1]) C hE hW hl.1 (kX10_length l D cI cZ cJ _ r0 u0 p1 p2 v1 h2) gX10_hookOf_X10_length rfl (by decide +kernel) rfl ⟨Nat.le_of_ble_eq_true rfl, Nat.le_of_ble_eq_true rfl⟩ ⟨Nat.zero_le _, Nat.zero_le _⟩ [0] rfl rfl (Nat.le_of_ble_eq_true rfl) rfl rfl dX10_hookOf_3 (fun H locs hW => ?_)
  refine lv_iload_n hx hb dX10_hookOf_6 rfl (lv_at hl 3 rfl) ?_
  refine lv_isub hx hb dX10_hookOf_7 ?_
  refine lv_aload_n hx hb dX10_hookOf_8 rfl (lv_at hl 0 rfl) ?_
  refine lv_iload_n hx hb dX10_hookOf_9 rfl (lv_at hl 1 rfl) ?_
  refine lv_iload_n hx hb dX10_hookOf_10 rfl (lv_at hl 3 rfl) ?_
  obtain ⟨v3, h4, hf⟩ := bd1_s hf
  refine k_callSR (As := [.ref r0, .int p1, .int p3]) (n := 3) (rest := [.int (v1 - p3)]) (st1 := [.int v3, .int (v1 - p3)]) C hE hW hl.1 (kX10_tall l D cI cZ cJ _ r0 u0 p1 p3 v3 h4) gX10_hookOf_X10_tall rfl (by decide +kernel) rfl ⟨Nat.le_of_ble_eq_true rfl, Nat.le_of_ble_eq_true rfl⟩ ⟨Nat.zero_le _, Nat.zero_le _⟩ [0] rfl rfl (Nat.le_of_ble_eq_true rfl) rfl rfl dX10_hookOf_11 (fun H locs hW => ?_)
  refine lv_iadd hx hb dX10_hookOf_14 ?_
  refine lv_iload_n hx hb dX10_hookOf_15 rfl (lv_at hl 2 rfl) ?_
  refine lv_isub hx hb dX10_hookOf_16 ?_
  refine lv_iconst (v := 1) hx hb dX10_hookOf_17 (by decide) ?_
  refine lv_isub hx hb dX10_hookOf_18 ?_
  obtain rfl := Option.some.inj hf
  exact k_iret C hlocks hr hW hQ dX10_hookOf_19

set_option maxHeartbeats 4000000 in
set_option maxRecDepth 100000 in
theorem kX10_hook (l : Launch) (D : va_G) (cI cZ cJ : ClassId) (sz : Nat) (q q_now q_script q_readRow q_trial q_diary q_kept q_isKept q_sums q_primes q_turned : Nat) (u_refusal : Int32) (u_scriptSize : Int32) (u_spot : Int32) (u_acts : Int32) (u_slides : Int32) (u_now : Nat → Int32) (p0 : Int32) (p1 : Int32) (p2 : Int32) (r : Int32) (u_refusal' : Int32) (hf : pX10_hook u_refusal u_now p0 p1 p2 = some (r, u_refusal')) : kMet l D cI cZ cJ yX10_hook wsX10_hook 4 94 [.ref q, .int p0, .int p1, .int p2] [(q, .inr (9, [.int u_refusal, .ref q_script, .int u_scriptSize, .int u_spot, .ref q_readRow, .ref q_now, .ref q_trial, .ref q_diary, .int u_acts, .ref q_kept, .ref q_isKept, .int u_slides, .ref q_sums, .ref q_primes, .ref q_turned])), (q_now, .inl (cI, 84, .inl u_now))] sz (some (.int r)) [(q, .inr (9, [.int u_refusal', .ref q_script, .int u_scriptSize, .int u_spot, .ref q_readRow, .ref q_now, .ref q_trial, .ref q_diary, .int u_acts, .ref q_kept, .ref q_isKept, .int u_slides, .ref q_sums, .ref q_primes, .ref q_turned])), (q_now, .inl (cI, 84, .inl u_now))] := by
  refine kM_of (cc := cX10_hook) (maxL := 4) (ret := (some .int)) (by decide) rfl (Nat.le_of_ble_eq_true rfl) ?_
  intro p e s m args below meth c A Q ls hQ C hlocks hr hE hW hl
  have hx := C.1
  have hb := C.2.1
  have hts := C.2.2.2.2
  have hl : lv_has ls 4 [(0, .ref q), (1, .int p0), (2, .int p1), (3, .int p2)] := hl
  have iX10 : ∀ w ∈ u_ws RX10 TX10 15, w ∈ wsX10_hook := by decide +kernel
  have f16 := hts (.fieldLink RX10 16 "SortedTablesModel" "now" "[I") (by decide +kernel)
  unfold pX10_hook at hf
  refine lv_aload_n hx hb dX10_hook_0 rfl (lv_at hl 0 rfl) ?_
  refine lv_aload_n hx hb dX10_hook_1 rfl (lv_at hl 0 rfl) ?_
  refine lv_iload_n hx hb dX10_hook_2 rfl (lv_at hl 1 rfl) ?_
  refine lv_iload_n hx hb dX10_hook_3 rfl (lv_at hl 2 rfl) ?_
  refine lv_iload_n hx hb dX10_hook_4 rfl (lv_at hl 3 rfl) ?_
  obtain ⟨v1, h2, hf⟩ := bd1_s hf
  refine k_callVR (b := q) (ci := 9) (qb := 0) (As := [.int p0, .int p1, .int p2]) (n := 3) (rest := [.ref q]) (st1 := [.int v1, .ref q]) C hE hW hl.1 (kX10_have l D cI cZ cJ _ q q_now q_script q_readRow q_trial q_diary q_kept q_isKept q_sums q_primes q_turned u_refusal u_scriptSize u_spot u_acts u_slides u_now p0 p1 p2 v1 h2) gX10_hook_X10_have rfl (by decide +kernel) rfl ⟨Nat.le_of_ble_eq_true rfl, Nat.le_of_ble_eq_true rfl⟩ ⟨Nat.zero_le _, Nat.zero_le _⟩ rfl rfl [0, 1] rfl rfl (Nat.le_of_ble_eq_true rfl) rfl rfl dX10_hook_5 (fun H locs hW => ?_)
  obtain ⟨j3, hd4, hf⟩ := bd1_s hf
  have J5 : ∀ (H : Heap) (locs : List Loc) (ls : Array Slot), kH D A s H locs [(q, .inr (9, [.int u_refusal, .ref q_script, .int u_scriptSize, .int u_spot, .ref q_readRow, .ref q_now, .ref q_trial, .ref q_diary, .int u_acts, .ref q_kept, .ref q_isKept, .int u_slides, .ref q_sums, .ref q_primes, .ref q_turned])), (q_now, .inl (cI, 84, .inl u_now))] → lv_has ls 4 [(0, .ref q), (1, .int p0), (2, .int p1), (3, .int p2)] → W p l e (kRm 4 94 0 0) s m args below meth c H locs 0 0 Q (F0 m 16 ls [.int j3, .ref q]) := by
    intro H locs ls hW hl
    obtain ⟨⟨v6, w7⟩, h8, hf⟩ := bd1_s hf
    replace hf := un2_s hf
    refine k_callV (b := q) (ci := 9) (qb := 0) (As := [.int j3]) (n := 1) (rest := []) (st1 := [.int v6]) (wr := [(q_now, .inl (cI, 84, .inl u_now))]) (ws' := [(q, .inr (9, [.int w7, .ref q_script, .int u_scriptSize, .int u_spot, .ref q_readRow, .ref q_now, .ref q_trial, .ref q_diary, .int u_acts, .ref q_kept, .ref q_isKept, .int u_slides, .ref q_sums, .ref q_primes, .ref q_turned])), (q_now, .inl (cI, 84, .inl u_now))]) C hE hW hl.1 (kX10_refused l D cI cZ cJ _ q q_script q_readRow q_now q_trial q_diary q_kept q_isKept q_sums q_primes q_turned u_refusal u_scriptSize u_spot u_acts u_slides j3 v6 w7 h8) gX10_hook_X10_refused rfl (by decide +kernel) rfl ⟨Nat.le_of_ble_eq_true rfl, Nat.le_of_ble_eq_true rfl⟩ ⟨Nat.zero_le _, Nat.zero_le _⟩ rfl rfl [0] [1] [1, 0] rfl rfl rfl rfl (by decide) rfl rfl (Nat.le_of_ble_eq_true rfl) rfl rfl dX10_hook_16 (fun H locs hW => ?_)
    refine lv_if_eq (tgt := 24) hx hb dX10_hook_19 (by decide) (fun hc => ?_) (fun hc => ?_)
    · replace hf := if_t hc hf
      refine lv_aload_n hx hb dX10_hook_24 rfl (lv_at hl 0 rfl) ?_
      refine k_get C hE hW iX10 0 rfl rfl 5 (by decide) f16 (fun _ h9 => h9) rfl dX10_hook_25 ?_
      refine lv_iload_n hx hb dX10_hook_28 rfl (lv_at hl 1 rfl) ?_
      refine lv_iload_n hx hb dX10_hook_29 rfl (lv_at hl 2 rfl) ?_
      refine lv_iload_n hx hb dX10_hook_30 rfl (lv_at hl 3 rfl) ?_
      obtain ⟨v9, h10, hf⟩ := bd1_s hf
      refine k_callSR (As := [.ref q_now, .int p0, .int p1, .int p2]) (n := 4) (rest := []) (st1 := [.int v9]) C hE hW hl.1 (kX10_hookOf l D cI cZ cJ _ q_now u_now p0 p1 p2 v9 h10) gX10_hook_X10_hookOf rfl (by decide +kernel) rfl ⟨Nat.le_of_ble_eq_true rfl, Nat.le_of_ble_eq_true rfl⟩ ⟨Nat.zero_le _, Nat.zero_le _⟩ [1] rfl rfl (Nat.le_of_ble_eq_true rfl) rfl rfl dX10_hook_31 (fun H locs hW => ?_)
      obtain ⟨rfl, rfl⟩ := sm2 hf
      exact k_iret C hlocks hr hW hQ dX10_hook_34
    · replace hf := if_f hc hf
      refine lv_iconst (v := 0) hx hb dX10_hook_22 (by decide) ?_
      obtain ⟨rfl, rfl⟩ := sm2 hf
      exact k_iret C hlocks hr hW hQ dX10_hook_23
  refine lv_if_eq (tgt := 15) hx hb dX10_hook_8 (by decide) (fun hc => ?_) (fun hc => ?_)
  · replace hd4 := if_t hc hd4
    refine lv_iconst (v := 1) hx hb dX10_hook_15 (by decide) ?_
    obtain rfl := Option.some.inj hd4
    exact J5 _ _ _ hW (lv_sub hl [0, 1, 2, 3] rfl)
  · replace hd4 := if_f hc hd4
    refine lv_iconst (v := 0) hx hb dX10_hook_11 (by decide) ?_
    refine lv_goto (tgt := 16) hx hb dX10_hook_12 (by decide) ?_
    obtain rfl := Option.some.inj hd4
    exact J5 _ _ _ hW (lv_sub hl [0, 1, 2, 3] rfl)

set_option maxHeartbeats 4000000 in
set_option maxRecDepth 100000 in
theorem kX10_countPrimes (l : Launch) (D : va_G) (cI cZ cJ : ClassId) (sz : Nat) (q q_primes q_script q_readRow q_now q_trial q_diary q_kept q_isKept q_sums q_turned : Nat) (u_refusal : Int32) (u_scriptSize : Int32) (u_spot : Int32) (u_acts : Int32) (u_slides : Int32) (u_primes : Nat → Int32) (p0 : Int32) (p1 : Int32) (u_primes' : Nat → Int32) (hf : pX10_countPrimes u_primes p0 p1 = some u_primes') : kMet l D cI cZ cJ yX10_countPrimes wsX10_countPrimes 0 0 [.ref q, .int p0, .int p1] [(q, .inr (9, [.int u_refusal, .ref q_script, .int u_scriptSize, .int u_spot, .ref q_readRow, .ref q_now, .ref q_trial, .ref q_diary, .int u_acts, .ref q_kept, .ref q_isKept, .int u_slides, .ref q_sums, .ref q_primes, .ref q_turned])), (q_primes, .inl (cI, 37, .inl u_primes))] sz none [(q, .inr (9, [.int u_refusal, .ref q_script, .int u_scriptSize, .int u_spot, .ref q_readRow, .ref q_now, .ref q_trial, .ref q_diary, .int u_acts, .ref q_kept, .ref q_isKept, .int u_slides, .ref q_sums, .ref q_primes, .ref q_turned])), (q_primes, .inl (cI, 37, .inl u_primes'))] := by
  refine kM_of (cc := cX10_countPrimes) (maxL := 5) (ret := none) (by decide) rfl (Nat.le_of_ble_eq_true rfl) ?_
  intro p e s m args below meth c A Q ls hQ C hlocks hr hE hW hl
  have hx := C.1
  have hb := C.2.1
  have hts := C.2.2.2.2
  have hl : lv_has ls 5 [(0, .ref q), (1, .int p0), (2, .int p1)] := hl
  have iX10 : ∀ w ∈ u_ws RX10 TX10 15, w ∈ wsX10_countPrimes := by decide +kernel
  have f35 := hts (.fieldLink RX10 35 "SortedTablesModel" "primes" "[I") (by decide +kernel)
  unfold pX10_countPrimes at hf
  refine lv_iload_n hx hb dX10_countPrimes_0 rfl (lv_at hl 1 rfl) ?_
  refine lv_istore_n (lv' := [(3, .int p0), (0, .ref q), (1, .int p0), (2, .int p1)]) hx hb dX10_countPrimes_1 rfl hl (by decide) rfl (fun ls hl => ?_)
  refine lv_iconst (v := 2) hx hb dX10_countPrimes_2 (by decide) ?_
  refine lv_istore (lv' := [(4, .int 2), (3, .int p0), (0, .ref q), (1, .int p0), (2, .int p1)]) hx hb dX10_countPrimes_3 hl (by decide) rfl (fun ls hl => ?_)
  obtain ⟨w4, hx60, hf⟩ := bd1_s hf
  have J7 : ∀ (H : Heap) (locs : List Loc) (ls : Array Slot), kH D A s H locs [(q, .inr (9, [.int u_refusal, .ref q_script, .int u_scriptSize, .int u_spot, .ref q_readRow, .ref q_now, .ref q_trial, .ref q_diary, .int u_acts, .ref q_kept, .ref q_isKept, .int u_slides, .ref q_sums, .ref q_primes, .ref q_turned])), (q_primes, .inl (cI, 37, .inl w4))] → lv_has ls 5 [] → W p l e (kRm 0 0 0 0) s m args below meth c H locs 0 0 Q (F0 m 43 ls []) := by
    intro H locs ls hW hl
    obtain rfl := Option.some.inj hf
    exact k_vret C hlocks hr hW hQ dX10_countPrimes_43
  have L8 : ∀ (n : Nat) (i1 : Int32) (i2 : Int32) (w3 : Nat → Int32), lpI n (un3 (pX10_countPrimes_L5 p0 p1)) (i1, i2, w3) = some w4 → ∀ (H : Heap) (locs : List Loc) (ls : Array Slot), kH D A s H locs [(q, .inr (9, [.int u_refusal, .ref q_script, .int u_scriptSize, .int u_spot, .ref q_readRow, .ref q_now, .ref q_trial, .ref q_diary, .int u_acts, .ref q_kept, .ref q_isKept, .int u_slides, .ref q_sums, .ref q_primes, .ref q_turned])), (q_primes, .inl (cI, 37, .inl w3))] → lv_has ls 5 [(4, .int i1), (3, .int i2), (0, .ref q), (1, .int p0), (2, .int p1)] → W p l e (kRm 0 0 0 0) s m args below meth c H locs 0 0 Q (F0 m 5 ls []) := by
    intro n
    induction n with
    | zero => intro i1 i2 w3 hx6; exact (lpI_0 hx6).elim
    | succ n ih10 =>
      intro i1 i2 w3 hx6 H locs ls hW hl
      obtain ⟨ooho5, ho5, hx6⟩ := lpI_s hx6
      replace ho5 := un3_s ho5
      unfold pX10_countPrimes_L5 at ho5
      refine lv_iload hx hb dX10_countPrimes_5 (lv_at hl 0 rfl) ?_
      refine lv_iload_n hx hb dX10_countPrimes_7 rfl (lv_at hl 3 rfl) ?_
      refine lv_icmp_gt (tgt := 43) hx hb dX10_countPrimes_8 (by decide) (fun hc => ?_) (fun hc => ?_)
      · replace ho5 := if_t hc ho5
        obtain rfl := Option.some.inj ho5
        obtain rfl := lpK_r hx6
        exact J7 _ _ _ hW (lv_sub hl [] rfl)
      · replace ho5 := if_f hc ho5
        obtain ⟨⟨x13, w14⟩, hx160, ho5⟩ := bd1_s ho5
        replace ho5 := un2_s ho5
        have J17 : ∀ (H : Heap) (locs : List Loc) (ls : Array Slot), kH D A s H locs [(q, .inr (9, [.int u_refusal, .ref q_script, .int u_scriptSize, .int u_spot, .ref q_readRow, .ref q_now, .ref q_trial, .ref q_diary, .int u_acts, .ref q_kept, .ref q_isKept, .int u_slides, .ref q_sums, .ref q_primes, .ref q_turned])), (q_primes, .inl (cI, 37, .inl w14))] → lv_has ls 5 [(4, .int i1), (3, .int x13), (0, .ref q), (1, .int p0), (2, .int p1)] → W p l e (kRm 0 0 0 0) s m args below meth c H locs 0 0 Q (F0 m 37 ls []) := by
          intro H locs ls hW hl
          refine lv_iinc (v := (i1 + 1)) (lv' := [(4, .int (i1 + 1)), (3, .int x13), (0, .ref q), (1, .int p0), (2, .int p1)]) hx hb dX10_countPrimes_37 hl (k := 0) rfl rfl (by decide) rfl (fun ls hl => ?_)
          refine lv_goto (tgt := 5) hx hb dX10_countPrimes_40 (by decide) ?_
          obtain rfl := Option.some.inj ho5
          exact ih10 _ _ _ hx6 _ _ _ hW (lv_sub hl [0, 1, 2, 3, 4] rfl)
        have L18 : ∀ (n : Nat) (i11 : Int32) (w12 : Nat → Int32), lpI n (un2 (pX10_countPrimes_L11 p1 i1)) (i11, w12) = some (x13, w14) → ∀ (H : Heap) (locs : List Loc) (ls : Array Slot), kH D A s H locs [(q, .inr (9, [.int u_refusal, .ref q_script, .int u_scriptSize, .int u_spot, .ref q_readRow, .ref q_now, .ref q_trial, .ref q_diary, .int u_acts, .ref q_kept, .ref q_isKept, .int u_slides, .ref q_sums, .ref q_primes, .ref q_turned])), (q_primes, .inl (cI, 37, .inl w12))] → lv_has ls 5 [(4, .int i1), (3, .int i11), (0, .ref q), (1, .int p0), (2, .int p1)] → W p l e (kRm 0 0 0 0) s m args below meth c H locs 0 0 Q (F0 m 11 ls []) := by
          intro n
          induction n with
          | zero => intro i11 w12 hx16; exact (lpI_0 hx16).elim
          | succ n ih20 =>
            intro i11 w12 hx16 H locs ls hW hl
            obtain ⟨ooho15, ho15, hx16⟩ := lpI_s hx16
            replace ho15 := un2_s ho15
            unfold pX10_countPrimes_L11 at ho15
            refine lv_iload_n hx hb dX10_countPrimes_11 rfl (lv_at hl 1 rfl) ?_
            refine lv_iload hx hb dX10_countPrimes_12 (lv_at hl 0 rfl) ?_
            obtain ⟨v21, h22, ho15⟩ := bd1_s ho15
            refine k_irem C h22 dX10_countPrimes_14 ?_
            refine lv_if_ne (tgt := 37) hx hb dX10_countPrimes_15 (by decide) (fun hc => ?_) (fun hc => ?_)
            · replace ho15 := if_f hc ho15
              obtain rfl := Option.some.inj ho15
              obtain ⟨rfl, rfl⟩ := pr2 (lpK_r hx16)
              exact J17 _ _ _ hW (lv_sub hl [0, 1, 2, 3, 4] rfl)
            · replace ho15 := if_t hc ho15
              refine lv_iload_n hx hb dX10_countPrimes_18 rfl (lv_at hl 1 rfl) ?_
              refine lv_iload hx hb dX10_countPrimes_19 (lv_at hl 0 rfl) ?_
              obtain ⟨v23, h24, ho15⟩ := bd1_s ho15
              refine k_idiv C h24 dX10_countPrimes_21 ?_
              refine lv_istore_n (lv' := [(3, .int v23), (4, .int i1), (0, .ref q), (1, .int p0), (2, .int p1)]) hx hb dX10_countPrimes_22 rfl hl (by decide) rfl (fun ls hl => ?_)
              refine lv_aload_n hx hb dX10_countPrimes_23 rfl (lv_at hl 2 rfl) ?_
              refine k_get C hE hW iX10 0 rfl rfl 13 (by decide) f35 (fun _ h9 => h9) rfl dX10_countPrimes_24 ?_
              refine lv_iload hx hb dX10_countPrimes_27 (lv_at hl 1 rfl) ?_
              refine lv_dup2_11 hx hb dX10_countPrimes_29 rfl rfl ?_
              obtain ⟨v25, h26, ho15⟩ := bd1_s ho15
              refine k_iald C hE hW 1 rfl h26 dX10_countPrimes_30 ?_
              refine lv_iload_n hx hb dX10_countPrimes_31 rfl (lv_at hl 4 rfl) ?_
              refine lv_iadd hx hb dX10_countPrimes_32 ?_
              obtain ⟨w27, h28, ho15⟩ := bd1_s ho15
              refine k_iast (ws' := [(q, .inr (9, [.int u_refusal, .ref q_script, .int u_scriptSize, .int u_spot, .ref q_readRow, .ref q_now, .ref q_trial, .ref q_diary, .int u_acts, .ref q_kept, .ref q_isKept, .int u_slides, .ref q_sums, .ref q_primes, .ref q_turned])), (q_primes, .inl (cI, 37, .inl w27))]) C hE hW 1 rfl h28 rfl dX10_countPrimes_33 (fun H locs hW => ?_)
              refine lv_goto (tgt := 11) hx hb dX10_countPrimes_34 (by decide) ?_
              obtain rfl := Option.some.inj ho15
              exact ih20 _ _ hx16 _ _ _ hW (lv_sub hl [1, 0, 2, 3, 4] rfl)
        exact L18 lpF _ _ hx160 _ _ _ hW (lv_sub hl [0, 1, 2, 3, 4] rfl)
  exact L8 lpF _ _ _ hx60 _ _ _ hW (lv_sub hl [0, 1, 2, 3, 4] rfl)

set_option maxHeartbeats 4000000 in
set_option maxRecDepth 100000 in
theorem kX10_fillings (l : Launch) (D : va_G) (cI cZ cJ : ClassId) (sz : Nat) (q q_now q_primes q_script q_readRow q_trial q_diary q_kept q_isKept q_sums q_turned : Nat) (u_refusal : Int32) (u_scriptSize : Int32) (u_spot : Int32) (u_acts : Int32) (u_slides : Int32) (u_now : Nat → Int32) (u_primes : Nat → Int32) (p0 : Int32) (r : Int64) (u_refusal' : Int32) (u_primes' : Nat → Int32) (hf : pX10_fillings u_refusal u_now u_primes p0 = some (r, u_refusal', u_primes')) : kMet l D cI cZ cJ yX10_fillings wsX10_fillings 4 94 [.ref q, .int p0] [(q, .inr (9, [.int u_refusal, .ref q_script, .int u_scriptSize, .int u_spot, .ref q_readRow, .ref q_now, .ref q_trial, .ref q_diary, .int u_acts, .ref q_kept, .ref q_isKept, .int u_slides, .ref q_sums, .ref q_primes, .ref q_turned])), (q_now, .inl (cI, 84, .inl u_now)), (q_primes, .inl (cI, 37, .inl u_primes))] sz (some (.long r)) [(q, .inr (9, [.int u_refusal', .ref q_script, .int u_scriptSize, .int u_spot, .ref q_readRow, .ref q_now, .ref q_trial, .ref q_diary, .int u_acts, .ref q_kept, .ref q_isKept, .int u_slides, .ref q_sums, .ref q_primes, .ref q_turned])), (q_now, .inl (cI, 84, .inl u_now)), (q_primes, .inl (cI, 37, .inl u_primes'))] := by
  refine kM_of (cc := cX10_fillings) (maxL := 6) (ret := (some .long)) (by decide) rfl (Nat.le_of_ble_eq_true rfl) ?_
  intro p e s m args below meth c A Q ls hQ C hlocks hr hE hW hl
  have hx := C.1
  have hb := C.2.1
  have hts := C.2.2.2.2
  have hl : lv_has ls 6 [(0, .ref q), (1, .int p0)] := hl
  have iX10 : ∀ w ∈ u_ws RX10 TX10 15, w ∈ wsX10_fillings := by decide +kernel
  have f16 := hts (.fieldLink RX10 16 "SortedTablesModel" "now" "[I") (by decide +kernel)
  have f35 := hts (.fieldLink RX10 35 "SortedTablesModel" "primes" "[I") (by decide +kernel)
  unfold pX10_fillings at hf
  refine lv_aload_n hx hb dX10_fillings_0 rfl (lv_at hl 0 rfl) ?_
  refine lv_iload_n hx hb dX10_fillings_1 rfl (lv_at hl 1 rfl) ?_
  obtain ⟨v1, h2, hf⟩ := bd1_s hf
  refine k_callSR (As := [.int p0]) (n := 1) (rest := [.ref q]) (st1 := [.int v1, .ref q]) C hE hW hl.1 (kX10_isTable l D cI cZ cJ _ p0 v1 h2) gX10_fillings_X10_isTable rfl (by decide +kernel) rfl ⟨Nat.le_of_ble_eq_true rfl, Nat.le_of_ble_eq_true rfl⟩ ⟨Nat.zero_le _, Nat.zero_le _⟩ [] rfl rfl (Nat.le_of_ble_eq_true rfl) rfl rfl dX10_fillings_2 (fun H locs hW => ?_)
  obtain ⟨j3, hd4, hf⟩ := bd1_s hf
  have J5 : ∀ (H : Heap) (locs : List Loc) (ls : Array Slot), kH D A s H locs [(q, .inr (9, [.int u_refusal, .ref q_script, .int u_scriptSize, .int u_spot, .ref q_readRow, .ref q_now, .ref q_trial, .ref q_diary, .int u_acts, .ref q_kept, .ref q_isKept, .int u_slides, .ref q_sums, .ref q_primes, .ref q_turned])), (q_now, .inl (cI, 84, .inl u_now)), (q_primes, .inl (cI, 37, .inl u_primes))] → lv_has ls 6 [(0, .ref q), (1, .int p0)] → W p l e (kRm 4 94 0 0) s m args below meth c H locs 0 0 Q (F0 m 13 ls [.int j3, .ref q]) := by
    intro H locs ls hW hl
    obtain ⟨⟨v6, w7⟩, h8, hf⟩ := bd1_s hf
    replace hf := un2_s hf
    refine k_callV (b := q) (ci := 9) (qb := 0) (As := [.int j3]) (n := 1) (rest := []) (st1 := [.int v6]) (wr := [(q_now, .inl (cI, 84, .inl u_now)), (q_primes, .inl (cI, 37, .inl u_primes))]) (ws' := [(q, .inr (9, [.int w7, .ref q_script, .int u_scriptSize, .int u_spot, .ref q_readRow, .ref q_now, .ref q_trial, .ref q_diary, .int u_acts, .ref q_kept, .ref q_isKept, .int u_slides, .ref q_sums, .ref q_primes, .ref q_turned])), (q_now, .inl (cI, 84, .inl u_now)), (q_primes, .inl (cI, 37, .inl u_primes))]) C hE hW hl.1 (kX10_refused l D cI cZ cJ _ q q_script q_readRow q_now q_trial q_diary q_kept q_isKept q_sums q_primes q_turned u_refusal u_scriptSize u_spot u_acts u_slides j3 v6 w7 h8) gX10_fillings_X10_refused rfl (by decide +kernel) rfl ⟨Nat.le_of_ble_eq_true rfl, Nat.le_of_ble_eq_true rfl⟩ ⟨Nat.zero_le _, Nat.zero_le _⟩ rfl rfl [0] [1, 2] [2, 0, 1] rfl rfl rfl rfl (by decide) rfl rfl (Nat.le_of_ble_eq_true rfl) rfl rfl dX10_fillings_13 (fun H locs hW => ?_)
    refine lv_if_eq (tgt := 21) hx hb dX10_fillings_16 (by decide) (fun hc => ?_) (fun hc => ?_)
    · replace hf := if_t hc hf
      refine lv_iconst (v := 0) hx hb dX10_fillings_21 (by decide) ?_
      refine lv_istore_n (lv' := [(2, .int 0), (0, .ref q), (1, .int p0)]) hx hb dX10_fillings_22 rfl hl (by decide) rfl (fun ls hl => ?_)
      obtain ⟨w11, hx130, hf⟩ := bd1_s hf
      have J14 : ∀ (H : Heap) (locs : List Loc) (ls : Array Slot), kH D A s H locs [(q, .inr (9, [.int w7, .ref q_script, .int u_scriptSize, .int u_spot, .ref q_readRow, .ref q_now, .ref q_trial, .ref q_diary, .int u_acts, .ref q_kept, .ref q_isKept, .int u_slides, .ref q_sums, .ref q_primes, .ref q_turned])), (q_now, .inl (cI, 84, .inl u_now)), (q_primes, .inl (cI, 37, .inl w11))] → lv_has ls 6 [(0, .ref q), (1, .int p0)] → W p l e (kRm 4 94 0 0) s m args below meth c H locs 0 0 Q (F0 m 42 ls []) := by
        intro H locs ls hW hl
        refine lv_iconst (v := 2) hx hb dX10_fillings_42 (by decide) ?_
        refine lv_istore_n (lv' := [(2, .int 2), (0, .ref q), (1, .int p0)]) hx hb dX10_fillings_43 rfl hl (by decide) rfl (fun ls hl => ?_)
        obtain ⟨w22, hx240, hf⟩ := bd1_s hf
        have J25 : ∀ (H : Heap) (locs : List Loc) (ls : Array Slot), kH D A s H locs [(q, .inr (9, [.int w7, .ref q_script, .int u_scriptSize, .int u_spot, .ref q_readRow, .ref q_now, .ref q_trial, .ref q_diary, .int u_acts, .ref q_kept, .ref q_isKept, .int u_slides, .ref q_sums, .ref q_primes, .ref q_turned])), (q_now, .inl (cI, 84, .inl u_now)), (q_primes, .inl (cI, 37, .inl w22))] → lv_has ls 6 [(0, .ref q), (1, .int p0)] → W p l e (kRm 4 94 0 0) s m args below meth c H locs 0 0 Q (F0 m 68 ls []) := by
          intro H locs ls hW hl
          refine lv_iconst (v := 0) hx hb dX10_fillings_68 (by decide) ?_
          refine lv_istore_n (lv' := [(2, .int 0), (0, .ref q), (1, .int p0)]) hx hb dX10_fillings_69 rfl hl (by decide) rfl (fun ls hl => ?_)
          obtain ⟨w35, hx370, hf⟩ := bd1_s hf
          have J38 : ∀ (H : Heap) (locs : List Loc) (ls : Array Slot), kH D A s H locs [(q, .inr (9, [.int w7, .ref q_script, .int u_scriptSize, .int u_spot, .ref q_readRow, .ref q_now, .ref q_trial, .ref q_diary, .int u_acts, .ref q_kept, .ref q_isKept, .int u_slides, .ref q_sums, .ref q_primes, .ref q_turned])), (q_now, .inl (cI, 84, .inl u_now)), (q_primes, .inl (cI, 37, .inl w35))] → lv_has ls 6 [(0, .ref q)] → W p l e (kRm 4 94 0 0) s m args below meth c H locs 0 0 Q (F0 m 118 ls []) := by
            intro H locs ls hW hl
            refine lv_lconst (v := 1) hx hb dX10_fillings_118 (by decide) ?_
            refine lv_lstore_n (lv' := [(2, .long 1), (0, .ref q)]) hx hb dX10_fillings_119 rfl hl (by decide) rfl (fun ls hl => ?_)
            refine lv_iconst (v := 2) hx hb dX10_fillings_120 (by decide) ?_
            refine lv_istore (lv' := [(4, .int 2), (2, .long 1), (0, .ref q)]) hx hb dX10_fillings_121 hl (by decide) rfl (fun ls hl => ?_)
            obtain ⟨x59, hx610, hf⟩ := bd1_s hf
            have J62 : ∀ (H : Heap) (locs : List Loc) (ls : Array Slot), kH D A s H locs [(q, .inr (9, [.int w7, .ref q_script, .int u_scriptSize, .int u_spot, .ref q_readRow, .ref q_now, .ref q_trial, .ref q_diary, .int u_acts, .ref q_kept, .ref q_isKept, .int u_slides, .ref q_sums, .ref q_primes, .ref q_turned])), (q_now, .inl (cI, 84, .inl u_now)), (q_primes, .inl (cI, 37, .inl w35))] → lv_has ls 6 [(2, .long x59)] → W p l e (kRm 4 94 0 0) s m args below meth c H locs 0 0 Q (F0 m 163 ls []) := by
              intro H locs ls hW hl
              refine lv_lload_n hx hb dX10_fillings_163 rfl (lv_at hl 0 rfl) ?_
              obtain ⟨rfl, rfl, rfl⟩ := sm3 hf
              exact k_lret C hlocks hr hW hQ dX10_fillings_164
            have L63 : ∀ (n : Nat) (i57 : Int32) (i58 : Int64), lpI n (un2 (pX10_fillings_L123 w35)) (i57, i58) = some x59 → ∀ (H : Heap) (locs : List Loc) (ls : Array Slot), kH D A s H locs [(q, .inr (9, [.int w7, .ref q_script, .int u_scriptSize, .int u_spot, .ref q_readRow, .ref q_now, .ref q_trial, .ref q_diary, .int u_acts, .ref q_kept, .ref q_isKept, .int u_slides, .ref q_sums, .ref q_primes, .ref q_turned])), (q_now, .inl (cI, 84, .inl u_now)), (q_primes, .inl (cI, 37, .inl w35))] → lv_has ls 6 [(4, .int i57), (2, .long i58), (0, .ref q)] → W p l e (kRm 4 94 0 0) s m args below meth c H locs 0 0 Q (F0 m 123 ls []) := by
              intro n
              induction n with
              | zero => intro i57 i58 hx61; exact (lpI_0 hx61).elim
              | succ n ih65 =>
                intro i57 i58 hx61 H locs ls hW hl
                obtain ⟨ooho60, ho60, hx61⟩ := lpI_s hx61
                replace ho60 := un2_s ho60
                unfold pX10_fillings_L123 at ho60
                refine lv_iload hx hb dX10_fillings_123 (lv_at hl 0 rfl) ?_
                refine lv_bipush (v := 36) hx hb dX10_fillings_125 (by decide) ?_
                refine lv_icmp_gt (tgt := 163) hx hb dX10_fillings_127 (by decide) (fun hc => ?_) (fun hc => ?_)
                · replace ho60 := if_t hc ho60
                  obtain rfl := Option.some.inj ho60
                  obtain rfl := lpK_r hx61
                  exact J62 _ _ _ hW (lv_sub hl [1] rfl)
                · replace ho60 := if_f hc ho60
                  refine lv_iconst (v := 0) hx hb dX10_fillings_130 (by decide) ?_
                  refine lv_istore (lv' := [(5, .int 0), (4, .int i57), (2, .long i58), (0, .ref q)]) hx hb dX10_fillings_131 hl (by decide) rfl (fun ls hl => ?_)
                  obtain ⟨x68, hx700, ho60⟩ := bd1_s ho60
                  have J71 : ∀ (H : Heap) (locs : List Loc) (ls : Array Slot), kH D A s H locs [(q, .inr (9, [.int w7, .ref q_script, .int u_scriptSize, .int u_spot, .ref q_readRow, .ref q_now, .ref q_trial, .ref q_diary, .int u_acts, .ref q_kept, .ref q_isKept, .int u_slides, .ref q_sums, .ref q_primes, .ref q_turned])), (q_now, .inl (cI, 84, .inl u_now)), (q_primes, .inl (cI, 37, .inl w35))] → lv_has ls 6 [(4, .int i57), (2, .long x68), (0, .ref q)] → W p l e (kRm 4 94 0 0) s m args below meth c H locs 0 0 Q (F0 m 157 ls []) := by
                    intro H locs ls hW hl
                    refine lv_iinc (v := (i57 + 1)) (lv' := [(4, .int (i57 + 1)), (2, .long x68), (0, .ref q)]) hx hb dX10_fillings_157 hl (k := 0) rfl rfl (by decide) rfl (fun ls hl => ?_)
                    refine lv_goto (tgt := 123) hx hb dX10_fillings_160 (by decide) ?_
                    obtain rfl := Option.some.inj ho60
                    exact ih65 _ _ hx61 _ _ _ hW (lv_sub hl [0, 1, 2] rfl)
                  have L72 : ∀ (n : Nat) (i66 : Int32) (i67 : Int64), lpI n (un2 (pX10_fillings_L133 w35 i57)) (i66, i67) = some x68 → ∀ (H : Heap) (locs : List Loc) (ls : Array Slot), kH D A s H locs [(q, .inr (9, [.int w7, .ref q_script, .int u_scriptSize, .int u_spot, .ref q_readRow, .ref q_now, .ref q_trial, .ref q_diary, .int u_acts, .ref q_kept, .ref q_isKept, .int u_slides, .ref q_sums, .ref q_primes, .ref q_turned])), (q_now, .inl (cI, 84, .inl u_now)), (q_primes, .inl (cI, 37, .inl w35))] → lv_has ls 6 [(5, .int i66), (4, .int i57), (2, .long i67), (0, .ref q)] → W p l e (kRm 4 94 0 0) s m args below meth c H locs 0 0 Q (F0 m 133 ls []) := by
                    intro n
                    induction n with
                    | zero => intro i66 i67 hx70; exact (lpI_0 hx70).elim
                    | succ n ih74 =>
                      intro i66 i67 hx70 H locs ls hW hl
                      obtain ⟨ooho69, ho69, hx70⟩ := lpI_s hx70
                      replace ho69 := un2_s ho69
                      unfold pX10_fillings_L133 at ho69
                      refine lv_iload hx hb dX10_fillings_133 (lv_at hl 0 rfl) ?_
                      refine lv_aload_n hx hb dX10_fillings_135 rfl (lv_at hl 3 rfl) ?_
                      refine k_get C hE hW iX10 0 rfl rfl 13 (by decide) f35 (fun _ h9 => h9) rfl dX10_fillings_136 ?_
                      refine lv_iload hx hb dX10_fillings_139 (lv_at hl 1 rfl) ?_
                      obtain ⟨v75, h76, ho69⟩ := bd1_s ho69
                      refine k_iald C hE hW 2 rfl h76 dX10_fillings_141 ?_
                      refine lv_icmp_ge (tgt := 157) hx hb dX10_fillings_142 (by decide) (fun hc => ?_) (fun hc => ?_)
                      · replace ho69 := if_t hc ho69
                        obtain rfl := Option.some.inj ho69
                        obtain rfl := lpK_r hx70
                        exact J71 _ _ _ hW (lv_sub hl [1, 2, 3] rfl)
                      · replace ho69 := if_f hc ho69
                        refine lv_lload_n hx hb dX10_fillings_145 rfl (lv_at hl 2 rfl) ?_
                        refine lv_iload hx hb dX10_fillings_146 (lv_at hl 1 rfl) ?_
                        refine lv_i2l hx hb dX10_fillings_148 rfl ?_
                        refine lv_lmul hx hb dX10_fillings_149 ?_
                        refine lv_lstore_n (lv' := [(2, .long (i67 * (i57 : Int32).toInt64)), (5, .int i66), (4, .int i57), (0, .ref q)]) hx hb dX10_fillings_150 rfl hl (by decide) rfl (fun ls hl => ?_)
                        refine lv_iinc (v := (i66 + 1)) (lv' := [(5, .int (i66 + 1)), (2, .long (i67 * (i57 : Int32).toInt64)), (4, .int i57), (0, .ref q)]) hx hb dX10_fillings_151 hl (k := 1) rfl rfl (by decide) rfl (fun ls hl => ?_)
                        refine lv_goto (tgt := 133) hx hb dX10_fillings_154 (by decide) ?_
                        obtain rfl := Option.some.inj ho69
                        exact ih74 _ _ hx70 _ _ _ hW (lv_sub hl [0, 2, 1, 3] rfl)
                  exact L72 lpF _ _ hx700 _ _ _ hW (lv_sub hl [0, 1, 2, 3] rfl)
            exact L63 lpF _ _ hx610 _ _ _ hW (lv_sub hl [0, 1, 2] rfl)
          have L39 : ∀ (n : Nat) (i33 : Int32) (w34 : Nat → Int32), lpI n (un2 (pX10_fillings_L70 u_now p0)) (i33, w34) = some w35 → ∀ (H : Heap) (locs : List Loc) (ls : Array Slot), kH D A s H locs [(q, .inr (9, [.int w7, .ref q_script, .int u_scriptSize, .int u_spot, .ref q_readRow, .ref q_now, .ref q_trial, .ref q_diary, .int u_acts, .ref q_kept, .ref q_isKept, .int u_slides, .ref q_sums, .ref q_primes, .ref q_turned])), (q_now, .inl (cI, 84, .inl u_now)), (q_primes, .inl (cI, 37, .inl w34))] → lv_has ls 6 [(2, .int i33), (0, .ref q), (1, .int p0)] → W p l e (kRm 4 94 0 0) s m args below meth c H locs 0 0 Q (F0 m 70 ls []) := by
            intro n
            induction n with
            | zero => intro i33 w34 hx37; exact (lpI_0 hx37).elim
            | succ n ih41 =>
              intro i33 w34 hx37 H locs ls hW hl
              obtain ⟨ooho36, ho36, hx37⟩ := lpI_s hx37
              replace ho36 := un2_s ho36
              unfold pX10_fillings_L70 at ho36
              refine lv_iload_n hx hb dX10_fillings_70 rfl (lv_at hl 0 rfl) ?_
              refine lv_bipush (v := 6) hx hb dX10_fillings_71 (by decide) ?_
              refine lv_icmp_ge (tgt := 118) hx hb dX10_fillings_73 (by decide) (fun hc => ?_) (fun hc => ?_)
              · replace ho36 := if_t hc ho36
                obtain rfl := Option.some.inj ho36
                obtain rfl := lpK_r hx37
                exact J38 _ _ _ hW (lv_sub hl [1] rfl)
              · replace ho36 := if_f hc ho36
                refine lv_iconst (v := 0) hx hb dX10_fillings_76 (by decide) ?_
                refine lv_istore_n (lv' := [(3, .int 0), (2, .int i33), (0, .ref q), (1, .int p0)]) hx hb dX10_fillings_77 rfl hl (by decide) rfl (fun ls hl => ?_)
                obtain ⟨w44, hx460, ho36⟩ := bd1_s ho36
                have J47 : ∀ (H : Heap) (locs : List Loc) (ls : Array Slot), kH D A s H locs [(q, .inr (9, [.int w7, .ref q_script, .int u_scriptSize, .int u_spot, .ref q_readRow, .ref q_now, .ref q_trial, .ref q_diary, .int u_acts, .ref q_kept, .ref q_isKept, .int u_slides, .ref q_sums, .ref q_primes, .ref q_turned])), (q_now, .inl (cI, 84, .inl u_now)), (q_primes, .inl (cI, 37, .inl w44))] → lv_has ls 6 [(2, .int i33), (0, .ref q), (1, .int p0)] → W p l e (kRm 4 94 0 0) s m args below meth c H locs 0 0 Q (F0 m 112 ls []) := by
                  intro H locs ls hW hl
                  refine lv_iinc (v := (i33 + 1)) (lv' := [(2, .int (i33 + 1)), (0, .ref q), (1, .int p0)]) hx hb dX10_fillings_112 hl (k := 0) rfl rfl (by decide) rfl (fun ls hl => ?_)
                  refine lv_goto (tgt := 70) hx hb dX10_fillings_115 (by decide) ?_
                  obtain rfl := Option.some.inj ho36
                  exact ih41 _ _ hx37 _ _ _ hW (lv_sub hl [0, 1, 2] rfl)
                have L48 : ∀ (n : Nat) (i42 : Int32) (w43 : Nat → Int32), lpI n (un2 (pX10_fillings_L78 u_now p0 i33)) (i42, w43) = some w44 → ∀ (H : Heap) (locs : List Loc) (ls : Array Slot), kH D A s H locs [(q, .inr (9, [.int w7, .ref q_script, .int u_scriptSize, .int u_spot, .ref q_readRow, .ref q_now, .ref q_trial, .ref q_diary, .int u_acts, .ref q_kept, .ref q_isKept, .int u_slides, .ref q_sums, .ref q_primes, .ref q_turned])), (q_now, .inl (cI, 84, .inl u_now)), (q_primes, .inl (cI, 37, .inl w43))] → lv_has ls 6 [(3, .int i42), (2, .int i33), (0, .ref q), (1, .int p0)] → W p l e (kRm 4 94 0 0) s m args below meth c H locs 0 0 Q (F0 m 78 ls []) := by
                  intro n
                  induction n with
                  | zero => intro i42 w43 hx46; exact (lpI_0 hx46).elim
                  | succ n ih50 =>
                    intro i42 w43 hx46 H locs ls hW hl
                    obtain ⟨ooho45, ho45, hx46⟩ := lpI_s hx46
                    replace ho45 := un2_s ho45
                    unfold pX10_fillings_L78 at ho45
                    refine lv_iload_n hx hb dX10_fillings_78 rfl (lv_at hl 0 rfl) ?_
                    refine lv_aload_n hx hb dX10_fillings_79 rfl (lv_at hl 2 rfl) ?_
                    refine k_get C hE hW iX10 0 rfl rfl 5 (by decide) f16 (fun _ h9 => h9) rfl dX10_fillings_80 ?_
                    refine lv_iload_n hx hb dX10_fillings_83 rfl (lv_at hl 3 rfl) ?_
                    refine lv_iload_n hx hb dX10_fillings_84 rfl (lv_at hl 1 rfl) ?_
                    obtain ⟨v51, h52, ho45⟩ := bd1_s ho45
                    refine k_callSR (As := [.ref q_now, .int p0, .int i33]) (n := 3) (rest := [.int i42]) (st1 := [.int v51, .int i42]) C hE hW hl.1 (kX10_length l D cI cZ cJ _ q_now u_now p0 i33 v51 h52) gX10_fillings_X10_length rfl (by decide +kernel) rfl ⟨Nat.le_of_ble_eq_true rfl, Nat.le_of_ble_eq_true rfl⟩ ⟨Nat.zero_le _, Nat.zero_le _⟩ [1] rfl rfl (Nat.le_of_ble_eq_true rfl) rfl rfl dX10_fillings_85 (fun H locs hW => ?_)
                    refine lv_icmp_ge (tgt := 112) hx hb dX10_fillings_88 (by decide) (fun hc => ?_) (fun hc => ?_)
                    · replace ho45 := if_t hc ho45
                      obtain rfl := Option.some.inj ho45
                      obtain rfl := lpK_r hx46
                      exact J47 _ _ _ hW (lv_sub hl [1, 2, 3] rfl)
                    · replace ho45 := if_f hc ho45
                      refine lv_aload_n hx hb dX10_fillings_91 rfl (lv_at hl 2 rfl) ?_
                      refine lv_aload_n hx hb dX10_fillings_92 rfl (lv_at hl 2 rfl) ?_
                      refine k_get C hE hW iX10 0 rfl rfl 5 (by decide) f16 (fun _ h9 => h9) rfl dX10_fillings_93 ?_
                      refine lv_iload_n hx hb dX10_fillings_96 rfl (lv_at hl 3 rfl) ?_
                      refine lv_iload_n hx hb dX10_fillings_97 rfl (lv_at hl 1 rfl) ?_
                      refine lv_iload_n hx hb dX10_fillings_98 rfl (lv_at hl 0 rfl) ?_
                      obtain ⟨v53, h54, ho45⟩ := bd1_s ho45
                      refine k_callSR (As := [.ref q_now, .int p0, .int i33, .int i42]) (n := 4) (rest := [.ref q]) (st1 := [.int v53, .ref q]) C hE hW hl.1 (kX10_hookOf l D cI cZ cJ _ q_now u_now p0 i33 i42 v53 h54) gX10_fillings_X10_hookOf rfl (by decide +kernel) rfl ⟨Nat.le_of_ble_eq_true rfl, Nat.le_of_ble_eq_true rfl⟩ ⟨Nat.zero_le _, Nat.zero_le _⟩ [1] rfl rfl (Nat.le_of_ble_eq_true rfl) rfl rfl dX10_fillings_99 (fun H locs hW => ?_)
                      refine lv_iconst (v := (-1)) hx hb dX10_fillings_102 (by decide) ?_
                      obtain ⟨w55, h56, ho45⟩ := bd1_s ho45
                      refine k_callV (b := q) (ci := 9) (qb := 0) (As := [.int v53, .int (-1)]) (n := 2) (rest := []) (st1 := []) (wr := [(q_now, .inl (cI, 84, .inl u_now))]) (ws' := [(q, .inr (9, [.int w7, .ref q_script, .int u_scriptSize, .int u_spot, .ref q_readRow, .ref q_now, .ref q_trial, .ref q_diary, .int u_acts, .ref q_kept, .ref q_isKept, .int u_slides, .ref q_sums, .ref q_primes, .ref q_turned])), (q_now, .inl (cI, 84, .inl u_now)), (q_primes, .inl (cI, 37, .inl w55))]) C hE hW hl.1 (kX10_countPrimes l D cI cZ cJ _ q q_primes q_script q_readRow q_now q_trial q_diary q_kept q_isKept q_sums q_turned w7 u_scriptSize u_spot u_acts u_slides w43 v53 (-1) w55 h56) gX10_fillings_X10_countPrimes rfl (by decide +kernel) rfl ⟨Nat.le_of_ble_eq_true rfl, Nat.le_of_ble_eq_true rfl⟩ ⟨Nat.zero_le _, Nat.zero_le _⟩ rfl rfl [0, 2] [1] [1, 0, 2] rfl rfl rfl rfl (by decide) rfl rfl (Nat.le_of_ble_eq_true rfl) rfl rfl dX10_fillings_103 (fun H locs hW => ?_)
                      refine lv_iinc (v := (i42 + 1)) (lv' := [(3, .int (i42 + 1)), (2, .int i33), (0, .ref q), (1, .int p0)]) hx hb dX10_fillings_106 hl (k := 0) rfl rfl (by decide) rfl (fun ls hl => ?_)
                      refine lv_goto (tgt := 78) hx hb dX10_fillings_109 (by decide) ?_
                      obtain rfl := Option.some.inj ho45
                      exact ih50 _ _ hx46 _ _ _ hW (lv_sub hl [0, 1, 2, 3] rfl)
                exact L48 lpF _ _ hx460 _ _ _ hW (lv_sub hl [0, 1, 2, 3] rfl)
          exact L39 lpF _ _ hx370 _ _ _ hW (lv_sub hl [0, 1, 2] rfl)
        have L26 : ∀ (n : Nat) (i20 : Int32) (w21 : Nat → Int32), lpI n (un2 (pX10_fillings_L44 u_now p0)) (i20, w21) = some w22 → ∀ (H : Heap) (locs : List Loc) (ls : Array Slot), kH D A s H locs [(q, .inr (9, [.int w7, .ref q_script, .int u_scriptSize, .int u_spot, .ref q_readRow, .ref q_now, .ref q_trial, .ref q_diary, .int u_acts, .ref q_kept, .ref q_isKept, .int u_slides, .ref q_sums, .ref q_primes, .ref q_turned])), (q_now, .inl (cI, 84, .inl u_now)), (q_primes, .inl (cI, 37, .inl w21))] → lv_has ls 6 [(2, .int i20), (0, .ref q), (1, .int p0)] → W p l e (kRm 4 94 0 0) s m args below meth c H locs 0 0 Q (F0 m 44 ls []) := by
          intro n
          induction n with
          | zero => intro i20 w21 hx24; exact (lpI_0 hx24).elim
          | succ n ih28 =>
            intro i20 w21 hx24 H locs ls hW hl
            obtain ⟨ooho23, ho23, hx24⟩ := lpI_s hx24
            replace ho23 := un2_s ho23
            unfold pX10_fillings_L44 at ho23
            refine lv_iload_n hx hb dX10_fillings_44 rfl (lv_at hl 0 rfl) ?_
            refine lv_aload_n hx hb dX10_fillings_45 rfl (lv_at hl 1 rfl) ?_
            refine k_get C hE hW iX10 0 rfl rfl 5 (by decide) f16 (fun _ h9 => h9) rfl dX10_fillings_46 ?_
            refine lv_iload_n hx hb dX10_fillings_49 rfl (lv_at hl 2 rfl) ?_
            obtain ⟨v29, h30, ho23⟩ := bd1_s ho23
            refine k_callSR (As := [.ref q_now, .int p0]) (n := 2) (rest := [.int i20]) (st1 := [.int v29, .int i20]) C hE hW hl.1 (kX10_many l D cI cZ cJ _ q_now u_now p0 v29 h30) gX10_fillings_X10_many rfl (by decide +kernel) rfl ⟨Nat.le_of_ble_eq_true rfl, Nat.le_of_ble_eq_true rfl⟩ ⟨Nat.zero_le _, Nat.zero_le _⟩ [1] rfl rfl (Nat.le_of_ble_eq_true rfl) rfl rfl dX10_fillings_50 (fun H locs hW => ?_)
            refine lv_icmp_gt (tgt := 68) hx hb dX10_fillings_53 (by decide) (fun hc => ?_) (fun hc => ?_)
            · replace ho23 := if_t hc ho23
              obtain rfl := Option.some.inj ho23
              obtain rfl := lpK_r hx24
              exact J25 _ _ _ hW (lv_sub hl [1, 2] rfl)
            · replace ho23 := if_f hc ho23
              refine lv_aload_n hx hb dX10_fillings_56 rfl (lv_at hl 1 rfl) ?_
              refine lv_iload_n hx hb dX10_fillings_57 rfl (lv_at hl 0 rfl) ?_
              refine lv_iconst (v := 1) hx hb dX10_fillings_58 (by decide) ?_
              obtain ⟨w31, h32, ho23⟩ := bd1_s ho23
              refine k_callV (b := q) (ci := 9) (qb := 0) (As := [.int i20, .int 1]) (n := 2) (rest := []) (st1 := []) (wr := [(q_now, .inl (cI, 84, .inl u_now))]) (ws' := [(q, .inr (9, [.int w7, .ref q_script, .int u_scriptSize, .int u_spot, .ref q_readRow, .ref q_now, .ref q_trial, .ref q_diary, .int u_acts, .ref q_kept, .ref q_isKept, .int u_slides, .ref q_sums, .ref q_primes, .ref q_turned])), (q_now, .inl (cI, 84, .inl u_now)), (q_primes, .inl (cI, 37, .inl w31))]) C hE hW hl.1 (kX10_countPrimes l D cI cZ cJ _ q q_primes q_script q_readRow q_now q_trial q_diary q_kept q_isKept q_sums q_turned w7 u_scriptSize u_spot u_acts u_slides w21 i20 1 w31 h32) gX10_fillings_X10_countPrimes rfl (by decide +kernel) rfl ⟨Nat.le_of_ble_eq_true rfl, Nat.le_of_ble_eq_true rfl⟩ ⟨Nat.zero_le _, Nat.zero_le _⟩ rfl rfl [0, 2] [1] [1, 0, 2] rfl rfl rfl rfl (by decide) rfl rfl (Nat.le_of_ble_eq_true rfl) rfl rfl dX10_fillings_59 (fun H locs hW => ?_)
              refine lv_iinc (v := (i20 + 1)) (lv' := [(2, .int (i20 + 1)), (0, .ref q), (1, .int p0)]) hx hb dX10_fillings_62 hl (k := 0) rfl rfl (by decide) rfl (fun ls hl => ?_)
              refine lv_goto (tgt := 44) hx hb dX10_fillings_65 (by decide) ?_
              obtain rfl := Option.some.inj ho23
              exact ih28 _ _ hx24 _ _ _ hW (lv_sub hl [0, 1, 2] rfl)
        exact L26 lpF _ _ hx240 _ _ _ hW (lv_sub hl [0, 1, 2] rfl)
      have L15 : ∀ (n : Nat) (i9 : Int32) (w10 : Nat → Int32), lpI n (un2 (pX10_fillings_L23)) (i9, w10) = some w11 → ∀ (H : Heap) (locs : List Loc) (ls : Array Slot), kH D A s H locs [(q, .inr (9, [.int w7, .ref q_script, .int u_scriptSize, .int u_spot, .ref q_readRow, .ref q_now, .ref q_trial, .ref q_diary, .int u_acts, .ref q_kept, .ref q_isKept, .int u_slides, .ref q_sums, .ref q_primes, .ref q_turned])), (q_now, .inl (cI, 84, .inl u_now)), (q_primes, .inl (cI, 37, .inl w10))] → lv_has ls 6 [(2, .int i9), (0, .ref q), (1, .int p0)] → W p l e (kRm 4 94 0 0) s m args below meth c H locs 0 0 Q (F0 m 23 ls []) := by
        intro n
        induction n with
        | zero => intro i9 w10 hx13; exact (lpI_0 hx13).elim
        | succ n ih17 =>
          intro i9 w10 hx13 H locs ls hW hl
          obtain ⟨ooho12, ho12, hx13⟩ := lpI_s hx13
          replace ho12 := un2_s ho12
          unfold pX10_fillings_L23 at ho12
          refine lv_iload_n hx hb dX10_fillings_23 rfl (lv_at hl 0 rfl) ?_
          refine lv_bipush (v := 36) hx hb dX10_fillings_24 (by decide) ?_
          refine lv_icmp_gt (tgt := 42) hx hb dX10_fillings_26 (by decide) (fun hc => ?_) (fun hc => ?_)
          · replace ho12 := if_t hc ho12
            obtain rfl := Option.some.inj ho12
            obtain rfl := lpK_r hx13
            exact J14 _ _ _ hW (lv_sub hl [1, 2] rfl)
          · replace ho12 := if_f hc ho12
            refine lv_aload_n hx hb dX10_fillings_29 rfl (lv_at hl 1 rfl) ?_
            refine k_get C hE hW iX10 0 rfl rfl 13 (by decide) f35 (fun _ h9 => h9) rfl dX10_fillings_30 ?_
            refine lv_iload_n hx hb dX10_fillings_33 rfl (lv_at hl 0 rfl) ?_
            refine lv_iconst (v := 0) hx hb dX10_fillings_34 (by decide) ?_
            obtain ⟨w18, h19, ho12⟩ := bd1_s ho12
            refine k_iast (ws' := [(q, .inr (9, [.int w7, .ref q_script, .int u_scriptSize, .int u_spot, .ref q_readRow, .ref q_now, .ref q_trial, .ref q_diary, .int u_acts, .ref q_kept, .ref q_isKept, .int u_slides, .ref q_sums, .ref q_primes, .ref q_turned])), (q_now, .inl (cI, 84, .inl u_now)), (q_primes, .inl (cI, 37, .inl w18))]) C hE hW 2 rfl h19 rfl dX10_fillings_35 (fun H locs hW => ?_)
            refine lv_iinc (v := (i9 + 1)) (lv' := [(2, .int (i9 + 1)), (0, .ref q), (1, .int p0)]) hx hb dX10_fillings_36 hl (k := 0) rfl rfl (by decide) rfl (fun ls hl => ?_)
            refine lv_goto (tgt := 23) hx hb dX10_fillings_39 (by decide) ?_
            obtain rfl := Option.some.inj ho12
            exact ih17 _ _ hx13 _ _ _ hW (lv_sub hl [0, 1, 2] rfl)
      exact L15 lpF _ _ hx130 _ _ _ hW (lv_sub hl [0, 1, 2] rfl)
    · replace hf := if_f hc hf
      refine lv_lconst (v := 0) hx hb dX10_fillings_19 (by decide) ?_
      obtain ⟨rfl, rfl, rfl⟩ := sm3 hf
      exact k_lret C hlocks hr hW hQ dX10_fillings_20
  refine lv_if_eq (tgt := 12) hx hb dX10_fillings_5 (by decide) (fun hc => ?_) (fun hc => ?_)
  · replace hd4 := if_t hc hd4
    refine lv_iconst (v := 1) hx hb dX10_fillings_12 (by decide) ?_
    obtain rfl := Option.some.inj hd4
    exact J5 _ _ _ hW (lv_sub hl [0, 1] rfl)
  · replace hd4 := if_f hc hd4
    refine lv_iconst (v := 0) hx hb dX10_fillings_8 (by decide) ?_
    refine lv_goto (tgt := 13) hx hb dX10_fillings_9 (by decide) ?_
    obtain rfl := Option.some.inj hd4
    exact J5 _ _ _ hW (lv_sub hl [0, 1] rfl)

set_option maxHeartbeats 4000000 in
set_option maxRecDepth 100000 in
theorem kX10_path (l : Launch) (D : va_G) (cI cZ cJ : ClassId) (sz : Nat) (q q_now q_sums q_script q_readRow q_trial q_diary q_kept q_isKept q_primes q_turned : Nat) (u_refusal : Int32) (u_scriptSize : Int32) (u_spot : Int32) (u_acts : Int32) (u_slides : Int32) (u_now : Nat → Int32) (u_sums : Nat → Int32) (p0 : Int32) (p1 : Int32) (r : Int32) (u_refusal' : Int32) (u_sums' : Nat → Int32) (hf : pX10_path u_refusal u_now u_sums p0 p1 = some (r, u_refusal', u_sums')) : kMet l D cI cZ cJ yX10_path wsX10_path 3 69 [.ref q, .int p0, .int p1] [(q, .inr (9, [.int u_refusal, .ref q_script, .int u_scriptSize, .int u_spot, .ref q_readRow, .ref q_now, .ref q_trial, .ref q_diary, .int u_acts, .ref q_kept, .ref q_isKept, .int u_slides, .ref q_sums, .ref q_primes, .ref q_turned])), (q_now, .inl (cI, 84, .inl u_now)), (q_sums, .inl (cI, 36, .inl u_sums))] sz (some (.int r)) [(q, .inr (9, [.int u_refusal', .ref q_script, .int u_scriptSize, .int u_spot, .ref q_readRow, .ref q_now, .ref q_trial, .ref q_diary, .int u_acts, .ref q_kept, .ref q_isKept, .int u_slides, .ref q_sums, .ref q_primes, .ref q_turned])), (q_now, .inl (cI, 84, .inl u_now)), (q_sums, .inl (cI, 36, .inl u_sums'))] := by
  refine kM_of (cc := cX10_path) (maxL := 11) (ret := (some .int)) (by decide) rfl (Nat.le_of_ble_eq_true rfl) ?_
  intro p e s m args below meth c A Q ls hQ C hlocks hr hE hW hl
  have hx := C.1
  have hb := C.2.1
  have hts := C.2.2.2.2
  have hl : lv_has ls 11 [(0, .ref q), (1, .int p0), (2, .int p1)] := hl
  have iX10 : ∀ w ∈ u_ws RX10 TX10 15, w ∈ wsX10_path := by decide +kernel
  have f16 := hts (.fieldLink RX10 16 "SortedTablesModel" "now" "[I") (by decide +kernel)
  have f32 := hts (.fieldLink RX10 32 "SortedTablesModel" "sums" "[I") (by decide +kernel)
  unfold pX10_path at hf
  refine lv_aload_n hx hb dX10_path_0 rfl (lv_at hl 0 rfl) ?_
  refine lv_iload_n hx hb dX10_path_1 rfl (lv_at hl 1 rfl) ?_
  obtain ⟨v1, h2, hf⟩ := bd1_s hf
  refine k_callSR (As := [.int p0]) (n := 1) (rest := [.ref q]) (st1 := [.int v1, .ref q]) C hE hW hl.1 (kX10_isTable l D cI cZ cJ _ p0 v1 h2) gX10_path_X10_isTable rfl (by decide +kernel) rfl ⟨Nat.le_of_ble_eq_true rfl, Nat.le_of_ble_eq_true rfl⟩ ⟨Nat.zero_le _, Nat.zero_le _⟩ [] rfl rfl (Nat.le_of_ble_eq_true rfl) rfl rfl dX10_path_2 (fun H locs hW => ?_)
  obtain ⟨j3, hd4, hf⟩ := bd1_s hf
  have J5 : ∀ (H : Heap) (locs : List Loc) (ls : Array Slot), kH D A s H locs [(q, .inr (9, [.int u_refusal, .ref q_script, .int u_scriptSize, .int u_spot, .ref q_readRow, .ref q_now, .ref q_trial, .ref q_diary, .int u_acts, .ref q_kept, .ref q_isKept, .int u_slides, .ref q_sums, .ref q_primes, .ref q_turned])), (q_now, .inl (cI, 84, .inl u_now)), (q_sums, .inl (cI, 36, .inl u_sums))] → lv_has ls 11 [(0, .ref q), (1, .int p0), (2, .int p1)] → W p l e (kRm 3 69 0 0) s m args below meth c H locs 0 0 Q (F0 m 27 ls [.int j3, .ref q]) := by
    intro H locs ls hW hl
    obtain ⟨⟨v8, w9⟩, h10, hf⟩ := bd1_s hf
    replace hf := un2_s hf
    refine k_callV (b := q) (ci := 9) (qb := 0) (As := [.int j3]) (n := 1) (rest := []) (st1 := [.int v8]) (wr := [(q_now, .inl (cI, 84, .inl u_now)), (q_sums, .inl (cI, 36, .inl u_sums))]) (ws' := [(q, .inr (9, [.int w9, .ref q_script, .int u_scriptSize, .int u_spot, .ref q_readRow, .ref q_now, .ref q_trial, .ref q_diary, .int u_acts, .ref q_kept, .ref q_isKept, .int u_slides, .ref q_sums, .ref q_primes, .ref q_turned])), (q_now, .inl (cI, 84, .inl u_now)), (q_sums, .inl (cI, 36, .inl u_sums))]) C hE hW hl.1 (kX10_refused l D cI cZ cJ _ q q_script q_readRow q_now q_trial q_diary q_kept q_isKept q_sums q_primes q_turned u_refusal u_scriptSize u_spot u_acts u_slides j3 v8 w9 h10) gX10_path_X10_refused rfl (by decide +kernel) rfl ⟨Nat.le_of_ble_eq_true rfl, Nat.le_of_ble_eq_true rfl⟩ ⟨Nat.zero_le _, Nat.zero_le _⟩ rfl rfl [0] [1, 2] [2, 0, 1] rfl rfl rfl rfl (by decide) rfl rfl (Nat.le_of_ble_eq_true rfl) rfl rfl dX10_path_27 (fun H locs hW => ?_)
    refine lv_if_eq (tgt := 35) hx hb dX10_path_30 (by decide) (fun hc => ?_) (fun hc => ?_)
    · replace hf := if_t hc hf
      refine lv_bipush (v := (-9)) hx hb dX10_path_35 (by decide) ?_
      refine lv_istore_n (lv' := [(3, .int (-9)), (0, .ref q), (1, .int p0), (2, .int p1)]) hx hb dX10_path_37 rfl hl (by decide) rfl (fun ls hl => ?_)
      refine lv_iconst (v := 0) hx hb dX10_path_38 (by decide) ?_
      refine lv_istore (lv' := [(4, .int 0), (3, .int (-9)), (0, .ref q), (1, .int p0), (2, .int p1)]) hx hb dX10_path_39 hl (by decide) rfl (fun ls hl => ?_)
      refine lv_iconst (v := 0) hx hb dX10_path_41 (by decide) ?_
      refine lv_istore (lv' := [(5, .int 0), (4, .int 0), (3, .int (-9)), (0, .ref q), (1, .int p0), (2, .int p1)]) hx hb dX10_path_42 hl (by decide) rfl (fun ls hl => ?_)
      obtain ⟨⟨x15, x16, w17⟩, hx190, hf⟩ := bd1_s hf
      replace hf := un3_s hf
      have J20 : ∀ (H : Heap) (locs : List Loc) (ls : Array Slot), kH D A s H locs [(q, .inr (9, [.int w9, .ref q_script, .int u_scriptSize, .int u_spot, .ref q_readRow, .ref q_now, .ref q_trial, .ref q_diary, .int u_acts, .ref q_kept, .ref q_isKept, .int u_slides, .ref q_sums, .ref q_primes, .ref q_turned])), (q_now, .inl (cI, 84, .inl u_now)), (q_sums, .inl (cI, 36, .inl w17))] → lv_has ls 11 [(4, .int x15), (3, .int x16), (2, .int p1)] → W p l e (kRm 3 69 0 0) s m args below meth c H locs 0 0 Q (F0 m 245 ls []) := by
        intro H locs ls hW hl
        refine lv_iload_n hx hb dX10_path_245 rfl (lv_at hl 1 rfl) ?_
        refine lv_bipush (v := (-9)) hx hb dX10_path_246 (by decide) ?_
        refine lv_icmp_eq (tgt := 256) hx hb dX10_path_248 (by decide) (fun hc => ?_) (fun hc => ?_)
        · replace hf := if_t hc hf
          refine lv_iload_n hx hb dX10_path_256 rfl (lv_at hl 1 rfl) ?_
          refine lv_goto (tgt := 262) hx hb dX10_path_257 (by decide) ?_
          obtain ⟨rfl, rfl, rfl⟩ := sm3 hf
          exact k_iret C hlocks hr hW hQ dX10_path_262
        · replace hf := if_f hc hf
          refine lv_iload_n hx hb dX10_path_251 rfl (lv_at hl 2 rfl) ?_
          refine lv_iconst (v := 1) hx hb dX10_path_252 (by decide) ?_
          refine lv_icmp_ne (tgt := 260) hx hb dX10_path_253 (by decide) (fun hc => ?_) (fun hc => ?_)
          · replace hf := if_f hc hf
            refine lv_iload hx hb dX10_path_260 (lv_at hl 0 rfl) ?_
            obtain ⟨rfl, rfl, rfl⟩ := sm3 hf
            exact k_iret C hlocks hr hW hQ dX10_path_262
          · replace hf := if_t hc hf
            refine lv_iload_n hx hb dX10_path_256 rfl (lv_at hl 1 rfl) ?_
            refine lv_goto (tgt := 262) hx hb dX10_path_257 (by decide) ?_
            obtain ⟨rfl, rfl, rfl⟩ := sm3 hf
            exact k_iret C hlocks hr hW hQ dX10_path_262
      have L21 : ∀ (n : Nat) (i11 : Int32) (i12 : Int32) (i13 : Int32) (w14 : Nat → Int32), lpI n (un4 (pX10_path_L44 u_now p0)) (i11, i12, i13, w14) = some (x15, x16, w17) → ∀ (H : Heap) (locs : List Loc) (ls : Array Slot), kH D A s H locs [(q, .inr (9, [.int w9, .ref q_script, .int u_scriptSize, .int u_spot, .ref q_readRow, .ref q_now, .ref q_trial, .ref q_diary, .int u_acts, .ref q_kept, .ref q_isKept, .int u_slides, .ref q_sums, .ref q_primes, .ref q_turned])), (q_now, .inl (cI, 84, .inl u_now)), (q_sums, .inl (cI, 36, .inl w14))] → lv_has ls 11 [(5, .int i11), (4, .int i12), (3, .int i13), (0, .ref q), (1, .int p0), (2, .int p1)] → W p l e (kRm 3 69 0 0) s m args below meth c H locs 0 0 Q (F0 m 44 ls []) := by
        intro n
        induction n with
        | zero => intro i11 i12 i13 w14 hx19; exact (lpI_0 hx19).elim
        | succ n ih23 =>
          intro i11 i12 i13 w14 hx19 H locs ls hW hl
          obtain ⟨ooho18, ho18, hx19⟩ := lpI_s hx19
          replace ho18 := un4_s ho18
          unfold pX10_path_L44 at ho18
          refine lv_iload hx hb dX10_path_44 (lv_at hl 0 rfl) ?_
          refine lv_bipush (v := 6) hx hb dX10_path_46 (by decide) ?_
          refine lv_icmp_ge (tgt := 245) hx hb dX10_path_48 (by decide) (fun hc => ?_) (fun hc => ?_)
          · replace ho18 := if_t hc ho18
            obtain rfl := Option.some.inj ho18
            obtain ⟨rfl, rfl, rfl⟩ := pr3 (lpK_r hx19)
            exact J20 _ _ _ hW (lv_sub hl [1, 2, 5] rfl)
          · replace ho18 := if_f hc ho18
            refine lv_iconst (v := 0) hx hb dX10_path_51 (by decide) ?_
            refine lv_istore (lv' := [(6, .int 0), (5, .int i11), (4, .int i12), (3, .int i13), (0, .ref q), (1, .int p0), (2, .int p1)]) hx hb dX10_path_52 hl (by decide) rfl (fun ls hl => ?_)
            obtain ⟨⟨x28, x29, w30⟩, hx320, ho18⟩ := bd1_s ho18
            replace ho18 := un3_s ho18
            have J33 : ∀ (H : Heap) (locs : List Loc) (ls : Array Slot), kH D A s H locs [(q, .inr (9, [.int w9, .ref q_script, .int u_scriptSize, .int u_spot, .ref q_readRow, .ref q_now, .ref q_trial, .ref q_diary, .int u_acts, .ref q_kept, .ref q_isKept, .int u_slides, .ref q_sums, .ref q_primes, .ref q_turned])), (q_now, .inl (cI, 84, .inl u_now)), (q_sums, .inl (cI, 36, .inl w30))] → lv_has ls 11 [(5, .int i11), (4, .int x28), (3, .int x29), (0, .ref q), (1, .int p0), (2, .int p1)] → W p l e (kRm 3 69 0 0) s m args below meth c H locs 0 0 Q (F0 m 239 ls []) := by
              intro H locs ls hW hl
              refine lv_iinc (v := (i11 + 1)) (lv' := [(5, .int (i11 + 1)), (4, .int x28), (3, .int x29), (0, .ref q), (1, .int p0), (2, .int p1)]) hx hb dX10_path_239 hl (k := 0) rfl rfl (by decide) rfl (fun ls hl => ?_)
              refine lv_goto (tgt := 44) hx hb dX10_path_242 (by decide) ?_
              obtain rfl := Option.some.inj ho18
              exact ih23 _ _ _ _ hx19 _ _ _ hW (lv_sub hl [0, 1, 2, 3, 4, 5] rfl)
            have L34 : ∀ (n : Nat) (i24 : Int32) (i25 : Int32) (i26 : Int32) (w27 : Nat → Int32), lpI n (un4 (pX10_path_L54 u_now p0 i11)) (i24, i25, i26, w27) = some (x28, x29, w30) → ∀ (H : Heap) (locs : List Loc) (ls : Array Slot), kH D A s H locs [(q, .inr (9, [.int w9, .ref q_script, .int u_scriptSize, .int u_spot, .ref q_readRow, .ref q_now, .ref q_trial, .ref q_diary, .int u_acts, .ref q_kept, .ref q_isKept, .int u_slides, .ref q_sums, .ref q_primes, .ref q_turned])), (q_now, .inl (cI, 84, .inl u_now)), (q_sums, .inl (cI, 36, .inl w27))] → lv_has ls 11 [(6, .int i24), (5, .int i11), (4, .int i25), (3, .int i26), (0, .ref q), (1, .int p0), (2, .int p1)] → W p l e (kRm 3 69 0 0) s m args below meth c H locs 0 0 Q (F0 m 54 ls []) := by
              intro n
              induction n with
              | zero => intro i24 i25 i26 w27 hx32; exact (lpI_0 hx32).elim
              | succ n ih36 =>
                intro i24 i25 i26 w27 hx32 H locs ls hW hl
                obtain ⟨ooho31, ho31, hx32⟩ := lpI_s hx32
                replace ho31 := un4_s ho31
                unfold pX10_path_L54 at ho31
                refine lv_iload hx hb dX10_path_54 (lv_at hl 0 rfl) ?_
                refine lv_aload_n hx hb dX10_path_56 rfl (lv_at hl 4 rfl) ?_
                refine k_get C hE hW iX10 0 rfl rfl 5 (by decide) f16 (fun _ h9 => h9) rfl dX10_path_57 ?_
                refine lv_iload_n hx hb dX10_path_60 rfl (lv_at hl 5 rfl) ?_
                refine lv_iload hx hb dX10_path_61 (lv_at hl 1 rfl) ?_
                obtain ⟨v37, h38, ho31⟩ := bd1_s ho31
                refine k_callSR (As := [.ref q_now, .int p0, .int i11]) (n := 3) (rest := [.int i24]) (st1 := [.int v37, .int i24]) C hE hW hl.1 (kX10_length l D cI cZ cJ _ q_now u_now p0 i11 v37 h38) gX10_path_X10_length rfl (by decide +kernel) rfl ⟨Nat.le_of_ble_eq_true rfl, Nat.le_of_ble_eq_true rfl⟩ ⟨Nat.zero_le _, Nat.zero_le _⟩ [1] rfl rfl (Nat.le_of_ble_eq_true rfl) rfl rfl dX10_path_63 (fun H locs hW => ?_)
                refine lv_icmp_ge (tgt := 239) hx hb dX10_path_66 (by decide) (fun hc => ?_) (fun hc => ?_)
                · replace ho31 := if_t hc ho31
                  obtain rfl := Option.some.inj ho31
                  obtain ⟨rfl, rfl, rfl⟩ := pr3 (lpK_r hx32)
                  exact J33 _ _ _ hW (lv_sub hl [1, 2, 3, 4, 5, 6] rfl)
                · replace ho31 := if_f hc ho31
                  refine lv_iload hx hb dX10_path_69 (lv_at hl 1 rfl) ?_
                  obtain ⟨j39, hd40, ho31⟩ := bd1_s ho31
                  have J41 : ∀ (H : Heap) (locs : List Loc) (ls : Array Slot), kH D A s H locs [(q, .inr (9, [.int w9, .ref q_script, .int u_scriptSize, .int u_spot, .ref q_readRow, .ref q_now, .ref q_trial, .ref q_diary, .int u_acts, .ref q_kept, .ref q_isKept, .int u_slides, .ref q_sums, .ref q_primes, .ref q_turned])), (q_now, .inl (cI, 84, .inl u_now)), (q_sums, .inl (cI, 36, .inl w27))] → lv_has ls 11 [(0, .ref q), (1, .int p0), (2, .int p1), (3, .int i26), (4, .int i25), (5, .int i11), (6, .int i24)] → W p l e (kRm 3 69 0 0) s m args below meth c H locs 0 0 Q (F0 m 93 ls [.int j39]) := by
                    intro H locs ls hW hl
                    refine lv_istore (lv' := [(7, .int j39), (0, .ref q), (1, .int p0), (2, .int p1), (3, .int i26), (4, .int i25), (5, .int i11), (6, .int i24)]) hx hb dX10_path_93 hl (by decide) rfl (fun ls hl => ?_)
                    refine lv_iload hx hb dX10_path_95 (lv_at hl 7 rfl) ?_
                    obtain ⟨j44, hd45, ho31⟩ := bd1_s ho31
                    have J46 : ∀ (H : Heap) (locs : List Loc) (ls : Array Slot), kH D A s H locs [(q, .inr (9, [.int w9, .ref q_script, .int u_scriptSize, .int u_spot, .ref q_readRow, .ref q_now, .ref q_trial, .ref q_diary, .int u_acts, .ref q_kept, .ref q_isKept, .int u_slides, .ref q_sums, .ref q_primes, .ref q_turned])), (q_now, .inl (cI, 84, .inl u_now)), (q_sums, .inl (cI, 36, .inl w27))] → lv_has ls 11 [(0, .ref q), (1, .int p0), (2, .int p1), (3, .int i26), (4, .int i25), (5, .int i11), (6, .int i24), (7, .int j39)] → W p l e (kRm 3 69 0 0) s m args below meth c H locs 0 0 Q (F0 m 119 ls [.int j44]) := by
                      intro H locs ls hW hl
                      refine lv_istore (lv' := [(8, .int j44), (0, .ref q), (1, .int p0), (2, .int p1), (3, .int i26), (4, .int i25), (5, .int i11), (6, .int i24), (7, .int j39)]) hx hb dX10_path_119 hl (by decide) rfl (fun ls hl => ?_)
                      refine lv_aload_n hx hb dX10_path_121 rfl (lv_at hl 1 rfl) ?_
                      refine k_get C hE hW iX10 0 rfl rfl 5 (by decide) f16 (fun _ h9 => h9) rfl dX10_path_122 ?_
                      refine lv_iload_n hx hb dX10_path_125 rfl (lv_at hl 2 rfl) ?_
                      refine lv_iload hx hb dX10_path_126 (lv_at hl 6 rfl) ?_
                      refine lv_iload hx hb dX10_path_128 (lv_at hl 7 rfl) ?_
                      obtain ⟨v49, h50, ho31⟩ := bd1_s ho31
                      refine k_callSR (As := [.ref q_now, .int p0, .int i11, .int i24]) (n := 4) (rest := []) (st1 := [.int v49]) C hE hW hl.1 (kX10_get l D cI cZ cJ _ q_now u_now p0 i11 i24 v49 h50) gX10_path_X10_get rfl (by decide +kernel) rfl ⟨Nat.le_of_ble_eq_true rfl, Nat.le_of_ble_eq_true rfl⟩ ⟨Nat.zero_le _, Nat.zero_le _⟩ [1] rfl rfl (Nat.le_of_ble_eq_true rfl) rfl rfl dX10_path_130 (fun H locs hW => ?_)
                      refine lv_iload hx hb dX10_path_133 (lv_at hl 8 rfl) ?_
                      refine lv_iload hx hb dX10_path_135 (lv_at hl 0 rfl) ?_
                      obtain ⟨j51, hd52, ho31⟩ := bd1_s ho31
                      have J53 : ∀ (H : Heap) (locs : List Loc) (ls : Array Slot), kH D A s H locs [(q, .inr (9, [.int w9, .ref q_script, .int u_scriptSize, .int u_spot, .ref q_readRow, .ref q_now, .ref q_trial, .ref q_diary, .int u_acts, .ref q_kept, .ref q_isKept, .int u_slides, .ref q_sums, .ref q_primes, .ref q_turned])), (q_now, .inl (cI, 84, .inl u_now)), (q_sums, .inl (cI, 36, .inl w27))] → lv_has ls 11 [(0, .ref q), (1, .int p0), (2, .int p1), (3, .int i26), (4, .int i25), (5, .int i11), (6, .int i24)] → W p l e (kRm 3 69 0 0) s m args below meth c H locs 0 0 Q (F0 m 147 ls [.int j51, .int v49]) := by
                        intro H locs ls hW hl
                        refine lv_iadd hx hb dX10_path_147 ?_
                        refine lv_istore (lv' := [(9, .int (v49 + j51)), (0, .ref q), (1, .int p0), (2, .int p1), (3, .int i26), (4, .int i25), (5, .int i11), (6, .int i24)]) hx hb dX10_path_148 hl (by decide) rfl (fun ls hl => ?_)
                        refine lv_aload_n hx hb dX10_path_150 rfl (lv_at hl 1 rfl) ?_
                        refine k_get C hE hW iX10 0 rfl rfl 12 (by decide) f32 (fun _ h9 => h9) rfl dX10_path_151 ?_
                        refine lv_bipush (v := 6) hx hb dX10_path_154 (by decide) ?_
                        refine lv_iload hx hb dX10_path_156 (lv_at hl 6 rfl) ?_
                        refine lv_imul hx hb dX10_path_158 ?_
                        refine lv_iload hx hb dX10_path_159 (lv_at hl 7 rfl) ?_
                        refine lv_iadd hx hb dX10_path_161 ?_
                        refine lv_iload hx hb dX10_path_162 (lv_at hl 0 rfl) ?_
                        obtain ⟨w54, h55, ho31⟩ := bd1_s ho31
                        refine k_iast (ws' := [(q, .inr (9, [.int w9, .ref q_script, .int u_scriptSize, .int u_spot, .ref q_readRow, .ref q_now, .ref q_trial, .ref q_diary, .int u_acts, .ref q_kept, .ref q_isKept, .int u_slides, .ref q_sums, .ref q_primes, .ref q_turned])), (q_now, .inl (cI, 84, .inl u_now)), (q_sums, .inl (cI, 36, .inl w54))]) C hE hW 2 rfl h55 rfl dX10_path_164 (fun H locs hW => ?_)
                        refine lv_aload_n hx hb dX10_path_165 rfl (lv_at hl 1 rfl) ?_
                        refine k_get C hE hW iX10 0 rfl rfl 5 (by decide) f16 (fun _ h9 => h9) rfl dX10_path_166 ?_
                        refine lv_iload_n hx hb dX10_path_169 rfl (lv_at hl 2 rfl) ?_
                        refine lv_iload hx hb dX10_path_170 (lv_at hl 6 rfl) ?_
                        obtain ⟨v56, h57, ho31⟩ := bd1_s ho31
                        refine k_callSR (As := [.ref q_now, .int p0, .int i11]) (n := 3) (rest := []) (st1 := [.int v56]) C hE hW hl.1 (kX10_isCorner l D cI cZ cJ _ q_now u_now p0 i11 v56 h57) gX10_path_X10_isCorner rfl (by decide +kernel) rfl ⟨Nat.le_of_ble_eq_true rfl, Nat.le_of_ble_eq_true rfl⟩ ⟨Nat.zero_le _, Nat.zero_le _⟩ [1] rfl rfl (Nat.le_of_ble_eq_true rfl) rfl rfl dX10_path_172 (fun H locs hW => ?_)
                        obtain ⟨j58, hd59, ho31⟩ := bd1_s ho31
                        have J60 : ∀ (H : Heap) (locs : List Loc) (ls : Array Slot), kH D A s H locs [(q, .inr (9, [.int w9, .ref q_script, .int u_scriptSize, .int u_spot, .ref q_readRow, .ref q_now, .ref q_trial, .ref q_diary, .int u_acts, .ref q_kept, .ref q_isKept, .int u_slides, .ref q_sums, .ref q_primes, .ref q_turned])), (q_now, .inl (cI, 84, .inl u_now)), (q_sums, .inl (cI, 36, .inl w54))] → lv_has ls 11 [(0, .ref q), (1, .int p0), (2, .int p1), (3, .int i26), (4, .int i25), (5, .int i11), (6, .int i24), (9, .int (v49 + j51))] → W p l e (kRm 3 69 0 0) s m args below meth c H locs 0 0 Q (F0 m 200 ls [.int j58]) := by
                          intro H locs ls hW hl
                          refine lv_istore (lv' := [(10, .int j58), (0, .ref q), (1, .int p0), (2, .int p1), (3, .int i26), (4, .int i25), (5, .int i11), (6, .int i24), (9, .int (v49 + j51))]) hx hb dX10_path_200 hl (by decide) rfl (fun ls hl => ?_)
                          refine lv_iload hx hb dX10_path_202 (lv_at hl 0 rfl) ?_
                          refine lv_if_eq (tgt := 233) hx hb dX10_path_204 (by decide) (fun hc => ?_) (fun hc => ?_)
                          · replace ho31 := if_t hc ho31
                            refine lv_iinc (v := (i24 + 1)) (lv' := [(6, .int (i24 + 1)), (10, .int j58), (0, .ref q), (1, .int p0), (2, .int p1), (3, .int i26), (4, .int i25), (5, .int i11), (9, .int (v49 + j51))]) hx hb dX10_path_233 hl (k := 7) rfl rfl (by decide) rfl (fun ls hl => ?_)
                            refine lv_goto (tgt := 54) hx hb dX10_path_236 (by decide) ?_
                            obtain rfl := Option.some.inj ho31
                            exact ih36 _ _ _ _ hx32 _ _ _ hW (lv_sub hl [0, 7, 6, 5, 2, 3, 4] rfl)
                          · replace ho31 := if_f hc ho31
                            refine lv_iload_n hx hb dX10_path_207 rfl (lv_at hl 4 rfl) ?_
                            refine lv_bipush (v := (-9)) hx hb dX10_path_208 (by decide) ?_
                            refine lv_icmp_eq (tgt := 220) hx hb dX10_path_210 (by decide) (fun hc => ?_) (fun hc => ?_)
                            · replace ho31 := if_t hc ho31
                              refine lv_bipush (v := 10) hx hb dX10_path_220 (by decide) ?_
                              refine lv_iload hx hb dX10_path_222 (lv_at hl 6 rfl) ?_
                              refine lv_imul hx hb dX10_path_224 ?_
                              refine lv_iload hx hb dX10_path_225 (lv_at hl 7 rfl) ?_
                              refine lv_iadd hx hb dX10_path_227 ?_
                              refine lv_istore_n (lv' := [(3, .int ((10 * i11) + i24)), (10, .int j58), (0, .ref q), (1, .int p0), (2, .int p1), (4, .int i25), (5, .int i11), (6, .int i24), (9, .int (v49 + j51))]) hx hb dX10_path_228 rfl hl (by decide) rfl (fun ls hl => ?_)
                              refine lv_iload hx hb dX10_path_229 (lv_at hl 8 rfl) ?_
                              refine lv_istore (lv' := [(4, .int (v49 + j51)), (3, .int ((10 * i11) + i24)), (10, .int j58), (0, .ref q), (1, .int p0), (2, .int p1), (5, .int i11), (6, .int i24), (9, .int (v49 + j51))]) hx hb dX10_path_231 hl (by decide) rfl (fun ls hl => ?_)
                              refine lv_iinc (v := (i24 + 1)) (lv' := [(6, .int (i24 + 1)), (4, .int (v49 + j51)), (3, .int ((10 * i11) + i24)), (10, .int j58), (0, .ref q), (1, .int p0), (2, .int p1), (5, .int i11), (9, .int (v49 + j51))]) hx hb dX10_path_233 hl (k := 7) rfl rfl (by decide) rfl (fun ls hl => ?_)
                              refine lv_goto (tgt := 54) hx hb dX10_path_236 (by decide) ?_
                              obtain rfl := Option.some.inj ho31
                              exact ih36 _ _ _ _ hx32 _ _ _ hW (lv_sub hl [0, 7, 1, 2, 4, 5, 6] rfl)
                            · replace ho31 := if_f hc ho31
                              refine lv_iload hx hb dX10_path_213 (lv_at hl 8 rfl) ?_
                              refine lv_iload hx hb dX10_path_215 (lv_at hl 5 rfl) ?_
                              refine lv_icmp_le (tgt := 233) hx hb dX10_path_217 (by decide) (fun hc => ?_) (fun hc => ?_)
                              · replace ho31 := if_t hc ho31
                                refine lv_iinc (v := (i24 + 1)) (lv' := [(6, .int (i24 + 1)), (10, .int j58), (0, .ref q), (1, .int p0), (2, .int p1), (3, .int i26), (4, .int i25), (5, .int i11), (9, .int (v49 + j51))]) hx hb dX10_path_233 hl (k := 7) rfl rfl (by decide) rfl (fun ls hl => ?_)
                                refine lv_goto (tgt := 54) hx hb dX10_path_236 (by decide) ?_
                                obtain rfl := Option.some.inj ho31
                                exact ih36 _ _ _ _ hx32 _ _ _ hW (lv_sub hl [0, 7, 6, 5, 2, 3, 4] rfl)
                              · replace ho31 := if_f hc ho31
                                refine lv_bipush (v := 10) hx hb dX10_path_220 (by decide) ?_
                                refine lv_iload hx hb dX10_path_222 (lv_at hl 6 rfl) ?_
                                refine lv_imul hx hb dX10_path_224 ?_
                                refine lv_iload hx hb dX10_path_225 (lv_at hl 7 rfl) ?_
                                refine lv_iadd hx hb dX10_path_227 ?_
                                refine lv_istore_n (lv' := [(3, .int ((10 * i11) + i24)), (10, .int j58), (0, .ref q), (1, .int p0), (2, .int p1), (4, .int i25), (5, .int i11), (6, .int i24), (9, .int (v49 + j51))]) hx hb dX10_path_228 rfl hl (by decide) rfl (fun ls hl => ?_)
                                refine lv_iload hx hb dX10_path_229 (lv_at hl 8 rfl) ?_
                                refine lv_istore (lv' := [(4, .int (v49 + j51)), (3, .int ((10 * i11) + i24)), (10, .int j58), (0, .ref q), (1, .int p0), (2, .int p1), (5, .int i11), (6, .int i24), (9, .int (v49 + j51))]) hx hb dX10_path_231 hl (by decide) rfl (fun ls hl => ?_)
                                refine lv_iinc (v := (i24 + 1)) (lv' := [(6, .int (i24 + 1)), (4, .int (v49 + j51)), (3, .int ((10 * i11) + i24)), (10, .int j58), (0, .ref q), (1, .int p0), (2, .int p1), (5, .int i11), (9, .int (v49 + j51))]) hx hb dX10_path_233 hl (k := 7) rfl rfl (by decide) rfl (fun ls hl => ?_)
                                refine lv_goto (tgt := 54) hx hb dX10_path_236 (by decide) ?_
                                obtain rfl := Option.some.inj ho31
                                exact ih36 _ _ _ _ hx32 _ _ _ hW (lv_sub hl [0, 7, 1, 2, 4, 5, 6] rfl)
                        refine lv_if_eq (tgt := 199) hx hb dX10_path_175 (by decide) (fun hc => ?_) (fun hc => ?_)
                        · replace hd59 := if_t hc hd59
                          refine lv_iconst (v := 0) hx hb dX10_path_199 (by decide) ?_
                          obtain rfl := Option.some.inj hd59
                          exact J60 _ _ _ hW (lv_sub hl [1, 2, 3, 4, 5, 6, 7, 0] rfl)
                        · replace hd59 := if_f hc hd59
                          refine lv_iload hx hb dX10_path_178 (lv_at hl 7 rfl) ?_
                          refine lv_aload_n hx hb dX10_path_180 rfl (lv_at hl 1 rfl) ?_
                          refine k_get C hE hW iX10 0 rfl rfl 5 (by decide) f16 (fun _ h9 => h9) rfl dX10_path_181 ?_
                          refine lv_iload_n hx hb dX10_path_184 rfl (lv_at hl 2 rfl) ?_
                          refine lv_iload hx hb dX10_path_185 (lv_at hl 6 rfl) ?_
                          obtain ⟨v61, h62, hd59⟩ := bd1_s hd59
                          refine k_callSR (As := [.ref q_now, .int p0, .int i11]) (n := 3) (rest := [.int i24]) (st1 := [.int v61, .int i24]) C hE hW hl.1 (kX10_length l D cI cZ cJ _ q_now u_now p0 i11 v61 h62) gX10_path_X10_length rfl (by decide +kernel) rfl ⟨Nat.le_of_ble_eq_true rfl, Nat.le_of_ble_eq_true rfl⟩ ⟨Nat.zero_le _, Nat.zero_le _⟩ [1] rfl rfl (Nat.le_of_ble_eq_true rfl) rfl rfl dX10_path_187 (fun H locs hW => ?_)
                          refine lv_iconst (v := 1) hx hb dX10_path_190 (by decide) ?_
                          refine lv_isub hx hb dX10_path_191 ?_
                          refine lv_icmp_ne (tgt := 199) hx hb dX10_path_192 (by decide) (fun hc => ?_) (fun hc => ?_)
                          · replace hd59 := if_f hc hd59
                            refine lv_iconst (v := 0) hx hb dX10_path_199 (by decide) ?_
                            obtain rfl := Option.some.inj hd59
                            exact J60 _ _ _ hW (lv_sub hl [1, 2, 3, 4, 5, 6, 7, 0] rfl)
                          · replace hd59 := if_t hc hd59
                            refine lv_iconst (v := 1) hx hb dX10_path_195 (by decide) ?_
                            refine lv_goto (tgt := 200) hx hb dX10_path_196 (by decide) ?_
                            obtain rfl := Option.some.inj hd59
                            exact J60 _ _ _ hW (lv_sub hl [1, 2, 3, 4, 5, 6, 7, 0] rfl)
                      refine lv_icmp_le (tgt := 145) hx hb dX10_path_137 (by decide) (fun hc => ?_) (fun hc => ?_)
                      · replace hd52 := if_t hc hd52
                        refine lv_iload hx hb dX10_path_145 (lv_at hl 0 rfl) ?_
                        obtain rfl := Option.some.inj hd52
                        exact J53 _ _ _ hW (lv_sub hl [1, 2, 3, 4, 5, 6, 7] rfl)
                      · replace hd52 := if_f hc hd52
                        refine lv_iload hx hb dX10_path_140 (lv_at hl 8 rfl) ?_
                        refine lv_goto (tgt := 147) hx hb dX10_path_142 (by decide) ?_
                        obtain rfl := Option.some.inj hd52
                        exact J53 _ _ _ hW (lv_sub hl [1, 2, 3, 4, 5, 6, 7] rfl)
                    refine lv_if_le (tgt := 118) hx hb dX10_path_97 (by decide) (fun hc => ?_) (fun hc => ?_)
                    · replace hd45 := if_t hc hd45
                      refine lv_iconst (v := 0) hx hb dX10_path_118 (by decide) ?_
                      obtain rfl := Option.some.inj hd45
                      exact J46 _ _ _ hW (lv_sub hl [1, 2, 3, 4, 5, 6, 7, 0] rfl)
                    · replace hd45 := if_f hc hd45
                      refine lv_aload_n hx hb dX10_path_100 rfl (lv_at hl 1 rfl) ?_
                      refine k_get C hE hW iX10 0 rfl rfl 12 (by decide) f32 (fun _ h9 => h9) rfl dX10_path_101 ?_
                      refine lv_bipush (v := 6) hx hb dX10_path_104 (by decide) ?_
                      refine lv_iload hx hb dX10_path_106 (lv_at hl 6 rfl) ?_
                      refine lv_imul hx hb dX10_path_108 ?_
                      refine lv_iload hx hb dX10_path_109 (lv_at hl 7 rfl) ?_
                      refine lv_iadd hx hb dX10_path_111 ?_
                      refine lv_iconst (v := 1) hx hb dX10_path_112 (by decide) ?_
                      refine lv_isub hx hb dX10_path_113 ?_
                      obtain ⟨v47, h48, hd45⟩ := bd1_s hd45
                      refine k_iald C hE hW 2 rfl h48 dX10_path_114 ?_
                      refine lv_goto (tgt := 119) hx hb dX10_path_115 (by decide) ?_
                      obtain rfl := Option.some.inj hd45
                      exact J46 _ _ _ hW (lv_sub hl [1, 2, 3, 4, 5, 6, 7, 0] rfl)
                  refine lv_if_le (tgt := 92) hx hb dX10_path_71 (by decide) (fun hc => ?_) (fun hc => ?_)
                  · replace hd40 := if_t hc hd40
                    refine lv_iconst (v := 0) hx hb dX10_path_92 (by decide) ?_
                    obtain rfl := Option.some.inj hd40
                    exact J41 _ _ _ hW (lv_sub hl [4, 5, 6, 3, 2, 1, 0] rfl)
                  · replace hd40 := if_f hc hd40
                    refine lv_aload_n hx hb dX10_path_74 rfl (lv_at hl 4 rfl) ?_
                    refine k_get C hE hW iX10 0 rfl rfl 12 (by decide) f32 (fun _ h9 => h9) rfl dX10_path_75 ?_
                    refine lv_bipush (v := 6) hx hb dX10_path_78 (by decide) ?_
                    refine lv_iload hx hb dX10_path_80 (lv_at hl 1 rfl) ?_
                    refine lv_iconst (v := 1) hx hb dX10_path_82 (by decide) ?_
                    refine lv_isub hx hb dX10_path_83 ?_
                    refine lv_imul hx hb dX10_path_84 ?_
                    refine lv_iload hx hb dX10_path_85 (lv_at hl 0 rfl) ?_
                    refine lv_iadd hx hb dX10_path_87 ?_
                    obtain ⟨v42, h43, hd40⟩ := bd1_s hd40
                    refine k_iald C hE hW 2 rfl h43 dX10_path_88 ?_
                    refine lv_goto (tgt := 93) hx hb dX10_path_89 (by decide) ?_
                    obtain rfl := Option.some.inj hd40
                    exact J41 _ _ _ hW (lv_sub hl [4, 5, 6, 3, 2, 1, 0] rfl)
            exact L34 lpF _ _ _ _ hx320 _ _ _ hW (lv_sub hl [0, 1, 2, 3, 4, 5, 6] rfl)
      exact L21 lpF _ _ _ _ hx190 _ _ _ hW (lv_sub hl [0, 1, 2, 3, 4, 5] rfl)
    · replace hf := if_f hc hf
      refine lv_iconst (v := 0) hx hb dX10_path_33 (by decide) ?_
      obtain ⟨rfl, rfl, rfl⟩ := sm3 hf
      exact k_iret C hlocks hr hW hQ dX10_path_34
  refine lv_if_ne (tgt := 12) hx hb dX10_path_5 (by decide) (fun hc => ?_) (fun hc => ?_)
  · replace hd4 := if_f hc hd4
    refine lv_iload_n hx hb dX10_path_12 rfl (lv_at hl 2 rfl) ?_
    refine lv_i2l hx hb dX10_path_13 rfl ?_
    refine lv_lconst (v := 0) hx hb dX10_path_14 (by decide) ?_
    refine lv_lconst (v := 1) hx hb dX10_path_15 (by decide) ?_
    obtain ⟨v6, h7, hd4⟩ := bd1_s hd4
    refine k_callSR (As := [.long (p1 : Int32).toInt64, .long 0, .long 1]) (n := 3) (rest := [.ref q]) (st1 := [.int v6, .ref q]) C hE hW hl.1 (kX10_in l D cI cZ cJ _ (p1 : Int32).toInt64 0 1 v6 h7) gX10_path_X10_in rfl (by decide +kernel) rfl ⟨Nat.le_of_ble_eq_true rfl, Nat.le_of_ble_eq_true rfl⟩ ⟨Nat.zero_le _, Nat.zero_le _⟩ [] rfl rfl (Nat.le_of_ble_eq_true rfl) rfl rfl dX10_path_16 (fun H locs hW => ?_)
    refine lv_if_ne (tgt := 26) hx hb dX10_path_19 (by decide) (fun hc => ?_) (fun hc => ?_)
    · replace hd4 := if_f hc hd4
      refine lv_iconst (v := 0) hx hb dX10_path_26 (by decide) ?_
      obtain rfl := Option.some.inj hd4
      exact J5 _ _ _ hW (lv_sub hl [0, 1, 2] rfl)
    · replace hd4 := if_t hc hd4
      refine lv_iconst (v := 2) hx hb dX10_path_22 (by decide) ?_
      refine lv_goto (tgt := 27) hx hb dX10_path_23 (by decide) ?_
      obtain rfl := Option.some.inj hd4
      exact J5 _ _ _ hW (lv_sub hl [0, 1, 2] rfl)
  · replace hd4 := if_t hc hd4
    refine lv_iconst (v := 1) hx hb dX10_path_8 (by decide) ?_
    refine lv_goto (tgt := 27) hx hb dX10_path_9 (by decide) ?_
    obtain rfl := Option.some.inj hd4
    exact J5 _ _ _ hW (lv_sub hl [0, 1, 2] rfl)

set_option maxHeartbeats 4000000 in
set_option maxRecDepth 100000 in
theorem kX10_ifInserted (l : Launch) (D : va_G) (cI cZ cJ : ClassId) (sz : Nat) (q q_now q_trial q_script q_readRow q_diary q_kept q_isKept q_sums q_primes q_turned : Nat) (u_refusal : Int32) (u_scriptSize : Int32) (u_spot : Int32) (u_acts : Int32) (u_slides : Int32) (u_now : Nat → Int32) (u_trial : Nat → Int32) (p0 : Int32) (p1 : Int32) (p2 : Int32) (r : Int32) (u_refusal' : Int32) (u_slides' : Int32) (u_trial' : Nat → Int32) (hf : pX10_ifInserted u_refusal u_slides u_now u_trial p0 p1 p2 = some (r, u_refusal', u_slides', u_trial')) : kMet l D cI cZ cJ yX10_ifInserted wsX10_ifInserted 5 118 [.ref q, .int p0, .int p1, .int p2] [(q, .inr (9, [.int u_refusal, .ref q_script, .int u_scriptSize, .int u_spot, .ref q_readRow, .ref q_now, .ref q_trial, .ref q_diary, .int u_acts, .ref q_kept, .ref q_isKept, .int u_slides, .ref q_sums, .ref q_primes, .ref q_turned])), (q_now, .inl (cI, 84, .inl u_now)), (q_trial, .inl (cI, 84, .inl u_trial))] sz (some (.int r)) [(q, .inr (9, [.int u_refusal', .ref q_script, .int u_scriptSize, .int u_spot, .ref q_readRow, .ref q_now, .ref q_trial, .ref q_diary, .int u_acts, .ref q_kept, .ref q_isKept, .int u_slides', .ref q_sums, .ref q_primes, .ref q_turned])), (q_now, .inl (cI, 84, .inl u_now)), (q_trial, .inl (cI, 84, .inl u_trial'))] := by
  refine kM_of (cc := cX10_ifInserted) (maxL := 5) (ret := (some .int)) (by decide) rfl (Nat.le_of_ble_eq_true rfl) ?_
  intro p e s m args below meth c A Q ls hQ C hlocks hr hE hW hl
  have hx := C.1
  have hb := C.2.1
  have hts := C.2.2.2.2
  have hl : lv_has ls 5 [(0, .ref q), (1, .int p0), (2, .int p1), (3, .int p2)] := hl
  have iX10 : ∀ w ∈ u_ws RX10 TX10 15, w ∈ wsX10_ifInserted := by decide +kernel
  have f16 := hts (.fieldLink RX10 16 "SortedTablesModel" "now" "[I") (by decide +kernel)
  have f19 := hts (.fieldLink RX10 19 "SortedTablesModel" "trial" "[I") (by decide +kernel)
  have f84 := hts (.fieldLink RX10 84 "SortedTablesModel" "slides" "I") (by decide +kernel)
  unfold pX10_ifInserted at hf
  refine lv_aload_n hx hb dX10_ifInserted_0 rfl (lv_at hl 0 rfl) ?_
  refine lv_iload_n hx hb dX10_ifInserted_1 rfl (lv_at hl 1 rfl) ?_
  obtain ⟨v1, h2, hf⟩ := bd1_s hf
  refine k_callSR (As := [.int p0]) (n := 1) (rest := [.ref q]) (st1 := [.int v1, .ref q]) C hE hW hl.1 (kX10_isTable l D cI cZ cJ _ p0 v1 h2) gX10_ifInserted_X10_isTable rfl (by decide +kernel) rfl ⟨Nat.le_of_ble_eq_true rfl, Nat.le_of_ble_eq_true rfl⟩ ⟨Nat.zero_le _, Nat.zero_le _⟩ [] rfl rfl (Nat.le_of_ble_eq_true rfl) rfl rfl dX10_ifInserted_2 (fun H locs hW => ?_)
  obtain ⟨j3, hd4, hf⟩ := bd1_s hf
  have J5 : ∀ (H : Heap) (locs : List Loc) (ls : Array Slot), kH D A s H locs [(q, .inr (9, [.int u_refusal, .ref q_script, .int u_scriptSize, .int u_spot, .ref q_readRow, .ref q_now, .ref q_trial, .ref q_diary, .int u_acts, .ref q_kept, .ref q_isKept, .int u_slides, .ref q_sums, .ref q_primes, .ref q_turned])), (q_now, .inl (cI, 84, .inl u_now)), (q_trial, .inl (cI, 84, .inl u_trial))] → lv_has ls 5 [(0, .ref q), (1, .int p0), (2, .int p1), (3, .int p2)] → W p l e (kRm 5 118 0 0) s m args below meth c H locs 0 0 Q (F0 m 24 ls [.int j3, .ref q]) := by
    intro H locs ls hW hl
    obtain ⟨⟨v8, w9⟩, h10, hf⟩ := bd1_s hf
    replace hf := un2_s hf
    refine k_callV (b := q) (ci := 9) (qb := 0) (As := [.int j3]) (n := 1) (rest := []) (st1 := [.int v8]) (wr := [(q_now, .inl (cI, 84, .inl u_now)), (q_trial, .inl (cI, 84, .inl u_trial))]) (ws' := [(q, .inr (9, [.int w9, .ref q_script, .int u_scriptSize, .int u_spot, .ref q_readRow, .ref q_now, .ref q_trial, .ref q_diary, .int u_acts, .ref q_kept, .ref q_isKept, .int u_slides, .ref q_sums, .ref q_primes, .ref q_turned])), (q_now, .inl (cI, 84, .inl u_now)), (q_trial, .inl (cI, 84, .inl u_trial))]) C hE hW hl.1 (kX10_refused l D cI cZ cJ _ q q_script q_readRow q_now q_trial q_diary q_kept q_isKept q_sums q_primes q_turned u_refusal u_scriptSize u_spot u_acts u_slides j3 v8 w9 h10) gX10_ifInserted_X10_refused rfl (by decide +kernel) rfl ⟨Nat.le_of_ble_eq_true rfl, Nat.le_of_ble_eq_true rfl⟩ ⟨Nat.zero_le _, Nat.zero_le _⟩ rfl rfl [0] [1, 2] [2, 0, 1] rfl rfl rfl rfl (by decide) rfl rfl (Nat.le_of_ble_eq_true rfl) rfl rfl dX10_ifInserted_24 (fun H locs hW => ?_)
    refine lv_if_eq (tgt := 32) hx hb dX10_ifInserted_27 (by decide) (fun hc => ?_) (fun hc => ?_)
    · replace hf := if_t hc hf
      refine lv_aload_n hx hb dX10_ifInserted_32 rfl (lv_at hl 0 rfl) ?_
      refine k_get C hE hW iX10 0 rfl rfl 5 (by decide) f16 (fun _ h9 => h9) rfl dX10_ifInserted_33 ?_
      refine lv_iload_n hx hb dX10_ifInserted_36 rfl (lv_at hl 1 rfl) ?_
      obtain ⟨v11, h12, hf⟩ := bd1_s hf
      refine k_callSR (As := [.ref q_now, .int p0]) (n := 2) (rest := []) (st1 := [.int v11]) C hE hW hl.1 (kX10_gapRow l D cI cZ cJ _ q_now u_now p0 v11 h12) gX10_ifInserted_X10_gapRow rfl (by decide +kernel) rfl ⟨Nat.le_of_ble_eq_true rfl, Nat.le_of_ble_eq_true rfl⟩ ⟨Nat.zero_le _, Nat.zero_le _⟩ [1] rfl rfl (Nat.le_of_ble_eq_true rfl) rfl rfl dX10_ifInserted_37 (fun H locs hW => ?_)
      refine lv_bipush (v := (-9)) hx hb dX10_ifInserted_40 (by decide) ?_
      refine lv_icmp_ne (tgt := 48) hx hb dX10_ifInserted_42 (by decide) (fun hc => ?_) (fun hc => ?_)
      · replace hf := if_f hc hf
        refine lv_aload_n hx hb dX10_ifInserted_48 rfl (lv_at hl 0 rfl) ?_
        refine k_get C hE hW iX10 0 rfl rfl 5 (by decide) f16 (fun _ h9 => h9) rfl dX10_ifInserted_49 ?_
        refine lv_iconst (v := 0) hx hb dX10_ifInserted_52 (by decide) ?_
        refine lv_aload_n hx hb dX10_ifInserted_53 rfl (lv_at hl 0 rfl) ?_
        refine k_get C hE hW iX10 0 rfl rfl 6 (by decide) f19 (fun _ h9 => h9) rfl dX10_ifInserted_54 ?_
        refine lv_iconst (v := 0) hx hb dX10_ifInserted_57 (by decide) ?_
        refine lv_bipush (v := 84) hx hb dX10_ifInserted_58 (by decide) ?_
        obtain ⟨w13, h14, hf⟩ := bd1_s hf
        refine k_callS (As := [.ref q_now, .int 0, .ref q_trial, .int 0, .int 84]) (n := 5) (rest := []) (st1 := []) (wr := [(q, .inr (9, [.int w9, .ref q_script, .int u_scriptSize, .int u_spot, .ref q_readRow, .ref q_now, .ref q_trial, .ref q_diary, .int u_acts, .ref q_kept, .ref q_isKept, .int u_slides, .ref q_sums, .ref q_primes, .ref q_turned]))]) (ws' := [(q, .inr (9, [.int w9, .ref q_script, .int u_scriptSize, .int u_spot, .ref q_readRow, .ref q_now, .ref q_trial, .ref q_diary, .int u_acts, .ref q_kept, .ref q_isKept, .int u_slides, .ref q_sums, .ref q_primes, .ref q_turned])), (q_now, .inl (cI, 84, .inl u_now)), (q_trial, .inl (cI, 84, .inl w13))]) C hE hW hl.1 (kX10_copy l D cI cZ cJ _ q_now q_trial 84 84 u_now u_trial 0 0 84 w13 h14) gX10_ifInserted_X10_copy rfl (by decide +kernel) rfl ⟨Nat.le_of_ble_eq_true rfl, Nat.le_of_ble_eq_true rfl⟩ ⟨Nat.zero_le _, Nat.zero_le _⟩ [1, 2] [0] [0, 1, 2] rfl rfl rfl rfl (by decide) rfl rfl (Nat.le_of_ble_eq_true rfl) rfl rfl dX10_ifInserted_60 (fun H locs hW => ?_)
        refine lv_aload_n hx hb dX10_ifInserted_63 rfl (lv_at hl 0 rfl) ?_
        refine lv_aload_n hx hb dX10_ifInserted_64 rfl (lv_at hl 0 rfl) ?_
        refine k_get C hE hW iX10 0 rfl rfl 6 (by decide) f19 (fun _ h9 => h9) rfl dX10_ifInserted_65 ?_
        refine lv_iload_n hx hb dX10_ifInserted_68 rfl (lv_at hl 1 rfl) ?_
        refine lv_iload_n hx hb dX10_ifInserted_69 rfl (lv_at hl 2 rfl) ?_
        obtain ⟨⟨v15, w16, w17⟩, h18, hf⟩ := bd1_s hf
        replace hf := un3_s hf
        refine k_callV (b := q) (ci := 9) (qb := 0) (As := [.ref q_trial, .int p0, .int p1]) (n := 3) (rest := []) (st1 := [.int v15]) (wr := [(q_now, .inl (cI, 84, .inl u_now))]) (ws' := [(q, .inr (9, [.int w9, .ref q_script, .int u_scriptSize, .int u_spot, .ref q_readRow, .ref q_now, .ref q_trial, .ref q_diary, .int u_acts, .ref q_kept, .ref q_isKept, .int w16, .ref q_sums, .ref q_primes, .ref q_turned])), (q_now, .inl (cI, 84, .inl u_now)), (q_trial, .inl (cI, 84, .inl w17))]) C hE hW hl.1 (kX10_insertOn l D cI cZ cJ _ q q_trial q_script q_readRow q_now q_trial q_diary q_kept q_isKept q_sums q_primes q_turned w9 u_scriptSize u_spot u_acts u_slides w13 p0 p1 v15 w16 w17 h18) gX10_ifInserted_X10_insertOn rfl (by decide +kernel) rfl ⟨Nat.le_of_ble_eq_true rfl, Nat.le_of_ble_eq_true rfl⟩ ⟨Nat.zero_le _, Nat.zero_le _⟩ rfl rfl [0, 2] [1] [1, 0, 2] rfl rfl rfl rfl (by decide) rfl rfl (Nat.le_of_ble_eq_true rfl) rfl rfl dX10_ifInserted_70 (fun H locs hW => ?_)
        refine lv_istore (lv' := [(4, .int v15), (0, .ref q), (1, .int p0), (2, .int p1), (3, .int p2)]) hx hb dX10_ifInserted_73 hl (by decide) rfl (fun ls hl => ?_)
        refine lv_iload_n hx hb dX10_ifInserted_75 rfl (lv_at hl 4 rfl) ?_
        refine lv_if_eq (tgt := 86) hx hb dX10_ifInserted_76 (by decide) (fun hc => ?_) (fun hc => ?_)
        · replace hf := if_t hc hf
          refine lv_iload hx hb dX10_ifInserted_86 (lv_at hl 0 rfl) ?_
          obtain ⟨rfl, rfl, rfl, rfl⟩ := sm4 hf
          exact k_iret C hlocks hr hW hQ dX10_ifInserted_88
        · replace hf := if_f hc hf
          refine lv_aload_n hx hb dX10_ifInserted_79 rfl (lv_at hl 1 rfl) ?_
          refine k_get C hE hW iX10 0 rfl rfl 11 (by decide) f84 (fun _ h9 => h9) rfl dX10_ifInserted_80 ?_
          refine lv_goto (tgt := 88) hx hb dX10_ifInserted_83 (by decide) ?_
          obtain ⟨rfl, rfl, rfl, rfl⟩ := sm4 hf
          exact k_iret C hlocks hr hW hQ dX10_ifInserted_88
      · replace hf := if_t hc hf
        refine lv_bipush (v := (-9)) hx hb dX10_ifInserted_45 (by decide) ?_
        obtain ⟨rfl, rfl, rfl, rfl⟩ := sm4 hf
        exact k_iret C hlocks hr hW hQ dX10_ifInserted_47
    · replace hf := if_f hc hf
      refine lv_iconst (v := 0) hx hb dX10_ifInserted_30 (by decide) ?_
      obtain ⟨rfl, rfl, rfl, rfl⟩ := sm4 hf
      exact k_iret C hlocks hr hW hQ dX10_ifInserted_31
  refine lv_if_ne (tgt := 12) hx hb dX10_ifInserted_5 (by decide) (fun hc => ?_) (fun hc => ?_)
  · replace hd4 := if_f hc hd4
    refine lv_iload_n hx hb dX10_ifInserted_12 rfl (lv_at hl 2 rfl) ?_
    obtain ⟨v6, h7, hd4⟩ := bd1_s hd4
    refine k_callSR (As := [.int p1]) (n := 1) (rest := [.ref q]) (st1 := [.int v6, .ref q]) C hE hW hl.1 (kX10_isNumber l D cI cZ cJ _ p1 v6 h7) gX10_ifInserted_X10_isNumber rfl (by decide +kernel) rfl ⟨Nat.le_of_ble_eq_true rfl, Nat.le_of_ble_eq_true rfl⟩ ⟨Nat.zero_le _, Nat.zero_le _⟩ [] rfl rfl (Nat.le_of_ble_eq_true rfl) rfl rfl dX10_ifInserted_13 (fun H locs hW => ?_)
    refine lv_if_ne (tgt := 23) hx hb dX10_ifInserted_16 (by decide) (fun hc => ?_) (fun hc => ?_)
    · replace hd4 := if_f hc hd4
      refine lv_iconst (v := 0) hx hb dX10_ifInserted_23 (by decide) ?_
      obtain rfl := Option.some.inj hd4
      exact J5 _ _ _ hW (lv_sub hl [0, 1, 2, 3] rfl)
    · replace hd4 := if_t hc hd4
      refine lv_iconst (v := 2) hx hb dX10_ifInserted_19 (by decide) ?_
      refine lv_goto (tgt := 24) hx hb dX10_ifInserted_20 (by decide) ?_
      obtain rfl := Option.some.inj hd4
      exact J5 _ _ _ hW (lv_sub hl [0, 1, 2, 3] rfl)
  · replace hd4 := if_t hc hd4
    refine lv_iconst (v := 1) hx hb dX10_ifInserted_8 (by decide) ?_
    refine lv_goto (tgt := 24) hx hb dX10_ifInserted_9 (by decide) ?_
    obtain rfl := Option.some.inj hd4
    exact J5 _ _ _ hW (lv_sub hl [0, 1, 2, 3] rfl)

set_option maxHeartbeats 4000000 in
set_option maxRecDepth 100000 in
theorem kX10_ifRemoved (l : Launch) (D : va_G) (cI cZ cJ : ClassId) (sz : Nat) (q q_now q_trial q_script q_readRow q_diary q_kept q_isKept q_sums q_primes q_turned : Nat) (u_refusal : Int32) (u_scriptSize : Int32) (u_spot : Int32) (u_acts : Int32) (u_slides : Int32) (u_now : Nat → Int32) (u_trial : Nat → Int32) (p0 : Int32) (p1 : Int32) (p2 : Int32) (r : Int32) (u_refusal' : Int32) (u_trial' : Nat → Int32) (hf : pX10_ifRemoved u_refusal u_now u_trial p0 p1 p2 = some (r, u_refusal', u_trial')) : kMet l D cI cZ cJ yX10_ifRemoved wsX10_ifRemoved 4 98 [.ref q, .int p0, .int p1, .int p2] [(q, .inr (9, [.int u_refusal, .ref q_script, .int u_scriptSize, .int u_spot, .ref q_readRow, .ref q_now, .ref q_trial, .ref q_diary, .int u_acts, .ref q_kept, .ref q_isKept, .int u_slides, .ref q_sums, .ref q_primes, .ref q_turned])), (q_now, .inl (cI, 84, .inl u_now)), (q_trial, .inl (cI, 84, .inl u_trial))] sz (some (.int r)) [(q, .inr (9, [.int u_refusal', .ref q_script, .int u_scriptSize, .int u_spot, .ref q_readRow, .ref q_now, .ref q_trial, .ref q_diary, .int u_acts, .ref q_kept, .ref q_isKept, .int u_slides, .ref q_sums, .ref q_primes, .ref q_turned])), (q_now, .inl (cI, 84, .inl u_now)), (q_trial, .inl (cI, 84, .inl u_trial'))] := by
  refine kM_of (cc := cX10_ifRemoved) (maxL := 4) (ret := (some .int)) (by decide) rfl (Nat.le_of_ble_eq_true rfl) ?_
  intro p e s m args below meth c A Q ls hQ C hlocks hr hE hW hl
  have hx := C.1
  have hb := C.2.1
  have hts := C.2.2.2.2
  have hl : lv_has ls 4 [(0, .ref q), (1, .int p0), (2, .int p1), (3, .int p2)] := hl
  have iX10 : ∀ w ∈ u_ws RX10 TX10 15, w ∈ wsX10_ifRemoved := by decide +kernel
  have f16 := hts (.fieldLink RX10 16 "SortedTablesModel" "now" "[I") (by decide +kernel)
  have f19 := hts (.fieldLink RX10 19 "SortedTablesModel" "trial" "[I") (by decide +kernel)
  unfold pX10_ifRemoved at hf
  refine lv_aload_n hx hb dX10_ifRemoved_0 rfl (lv_at hl 0 rfl) ?_
  refine lv_aload_n hx hb dX10_ifRemoved_1 rfl (lv_at hl 0 rfl) ?_
  refine lv_iload_n hx hb dX10_ifRemoved_2 rfl (lv_at hl 1 rfl) ?_
  refine lv_iload_n hx hb dX10_ifRemoved_3 rfl (lv_at hl 2 rfl) ?_
  refine lv_iload_n hx hb dX10_ifRemoved_4 rfl (lv_at hl 3 rfl) ?_
  obtain ⟨v1, h2, hf⟩ := bd1_s hf
  refine k_callVR (b := q) (ci := 9) (qb := 0) (As := [.int p0, .int p1, .int p2]) (n := 3) (rest := [.ref q]) (st1 := [.int v1, .ref q]) C hE hW hl.1 (kX10_have l D cI cZ cJ _ q q_now q_script q_readRow q_trial q_diary q_kept q_isKept q_sums q_primes q_turned u_refusal u_scriptSize u_spot u_acts u_slides u_now p0 p1 p2 v1 h2) gX10_ifRemoved_X10_have rfl (by decide +kernel) rfl ⟨Nat.le_of_ble_eq_true rfl, Nat.le_of_ble_eq_true rfl⟩ ⟨Nat.zero_le _, Nat.zero_le _⟩ rfl rfl [0, 1] rfl rfl (Nat.le_of_ble_eq_true rfl) rfl rfl dX10_ifRemoved_5 (fun H locs hW => ?_)
  obtain ⟨j3, hd4, hf⟩ := bd1_s hf
  have J5 : ∀ (H : Heap) (locs : List Loc) (ls : Array Slot), kH D A s H locs [(q, .inr (9, [.int u_refusal, .ref q_script, .int u_scriptSize, .int u_spot, .ref q_readRow, .ref q_now, .ref q_trial, .ref q_diary, .int u_acts, .ref q_kept, .ref q_isKept, .int u_slides, .ref q_sums, .ref q_primes, .ref q_turned])), (q_now, .inl (cI, 84, .inl u_now)), (q_trial, .inl (cI, 84, .inl u_trial))] → lv_has ls 4 [(0, .ref q), (1, .int p0), (2, .int p1), (3, .int p2)] → W p l e (kRm 4 98 0 0) s m args below meth c H locs 0 0 Q (F0 m 16 ls [.int j3, .ref q]) := by
    intro H locs ls hW hl
    obtain ⟨⟨v6, w7⟩, h8, hf⟩ := bd1_s hf
    replace hf := un2_s hf
    refine k_callV (b := q) (ci := 9) (qb := 0) (As := [.int j3]) (n := 1) (rest := []) (st1 := [.int v6]) (wr := [(q_now, .inl (cI, 84, .inl u_now)), (q_trial, .inl (cI, 84, .inl u_trial))]) (ws' := [(q, .inr (9, [.int w7, .ref q_script, .int u_scriptSize, .int u_spot, .ref q_readRow, .ref q_now, .ref q_trial, .ref q_diary, .int u_acts, .ref q_kept, .ref q_isKept, .int u_slides, .ref q_sums, .ref q_primes, .ref q_turned])), (q_now, .inl (cI, 84, .inl u_now)), (q_trial, .inl (cI, 84, .inl u_trial))]) C hE hW hl.1 (kX10_refused l D cI cZ cJ _ q q_script q_readRow q_now q_trial q_diary q_kept q_isKept q_sums q_primes q_turned u_refusal u_scriptSize u_spot u_acts u_slides j3 v6 w7 h8) gX10_ifRemoved_X10_refused rfl (by decide +kernel) rfl ⟨Nat.le_of_ble_eq_true rfl, Nat.le_of_ble_eq_true rfl⟩ ⟨Nat.zero_le _, Nat.zero_le _⟩ rfl rfl [0] [1, 2] [2, 0, 1] rfl rfl rfl rfl (by decide) rfl rfl (Nat.le_of_ble_eq_true rfl) rfl rfl dX10_ifRemoved_16 (fun H locs hW => ?_)
    refine lv_if_eq (tgt := 24) hx hb dX10_ifRemoved_19 (by decide) (fun hc => ?_) (fun hc => ?_)
    · replace hf := if_t hc hf
      refine lv_aload_n hx hb dX10_ifRemoved_24 rfl (lv_at hl 0 rfl) ?_
      refine k_get C hE hW iX10 0 rfl rfl 5 (by decide) f16 (fun _ h9 => h9) rfl dX10_ifRemoved_25 ?_
      refine lv_iconst (v := 0) hx hb dX10_ifRemoved_28 (by decide) ?_
      refine lv_aload_n hx hb dX10_ifRemoved_29 rfl (lv_at hl 0 rfl) ?_
      refine k_get C hE hW iX10 0 rfl rfl 6 (by decide) f19 (fun _ h9 => h9) rfl dX10_ifRemoved_30 ?_
      refine lv_iconst (v := 0) hx hb dX10_ifRemoved_33 (by decide) ?_
      refine lv_bipush (v := 84) hx hb dX10_ifRemoved_34 (by decide) ?_
      obtain ⟨w9, h10, hf⟩ := bd1_s hf
      refine k_callS (As := [.ref q_now, .int 0, .ref q_trial, .int 0, .int 84]) (n := 5) (rest := []) (st1 := []) (wr := [(q, .inr (9, [.int w7, .ref q_script, .int u_scriptSize, .int u_spot, .ref q_readRow, .ref q_now, .ref q_trial, .ref q_diary, .int u_acts, .ref q_kept, .ref q_isKept, .int u_slides, .ref q_sums, .ref q_primes, .ref q_turned]))]) (ws' := [(q, .inr (9, [.int w7, .ref q_script, .int u_scriptSize, .int u_spot, .ref q_readRow, .ref q_now, .ref q_trial, .ref q_diary, .int u_acts, .ref q_kept, .ref q_isKept, .int u_slides, .ref q_sums, .ref q_primes, .ref q_turned])), (q_now, .inl (cI, 84, .inl u_now)), (q_trial, .inl (cI, 84, .inl w9))]) C hE hW hl.1 (kX10_copy l D cI cZ cJ _ q_now q_trial 84 84 u_now u_trial 0 0 84 w9 h10) gX10_ifRemoved_X10_copy rfl (by decide +kernel) rfl ⟨Nat.le_of_ble_eq_true rfl, Nat.le_of_ble_eq_true rfl⟩ ⟨Nat.zero_le _, Nat.zero_le _⟩ [1, 2] [0] [0, 1, 2] rfl rfl rfl rfl (by decide) rfl rfl (Nat.le_of_ble_eq_true rfl) rfl rfl dX10_ifRemoved_36 (fun H locs hW => ?_)
      refine lv_aload_n hx hb dX10_ifRemoved_39 rfl (lv_at hl 0 rfl) ?_
      refine k_get C hE hW iX10 0 rfl rfl 6 (by decide) f19 (fun _ h9 => h9) rfl dX10_ifRemoved_40 ?_
      refine lv_iload_n hx hb dX10_ifRemoved_43 rfl (lv_at hl 1 rfl) ?_
      refine lv_iload_n hx hb dX10_ifRemoved_44 rfl (lv_at hl 2 rfl) ?_
      refine lv_iload_n hx hb dX10_ifRemoved_45 rfl (lv_at hl 3 rfl) ?_
      obtain ⟨⟨v11, w12⟩, h13, hf⟩ := bd1_s hf
      replace hf := un2_s hf
      refine k_callS (As := [.ref q_trial, .int p0, .int p1, .int p2]) (n := 4) (rest := []) (st1 := [.int v11]) (wr := [(q, .inr (9, [.int w7, .ref q_script, .int u_scriptSize, .int u_spot, .ref q_readRow, .ref q_now, .ref q_trial, .ref q_diary, .int u_acts, .ref q_kept, .ref q_isKept, .int u_slides, .ref q_sums, .ref q_primes, .ref q_turned])), (q_now, .inl (cI, 84, .inl u_now))]) (ws' := [(q, .inr (9, [.int w7, .ref q_script, .int u_scriptSize, .int u_spot, .ref q_readRow, .ref q_now, .ref q_trial, .ref q_diary, .int u_acts, .ref q_kept, .ref q_isKept, .int u_slides, .ref q_sums, .ref q_primes, .ref q_turned])), (q_now, .inl (cI, 84, .inl u_now)), (q_trial, .inl (cI, 84, .inl w12))]) C hE hW hl.1 (kX10_removeOn l D cI cZ cJ _ q_trial w9 p0 p1 p2 v11 w12 h13) gX10_ifRemoved_X10_removeOn rfl (by decide +kernel) rfl ⟨Nat.le_of_ble_eq_true rfl, Nat.le_of_ble_eq_true rfl⟩ ⟨Nat.zero_le _, Nat.zero_le _⟩ [2] [0, 1] [0, 1, 2] rfl rfl rfl rfl (by decide) rfl rfl (Nat.le_of_ble_eq_true rfl) rfl rfl dX10_ifRemoved_46 (fun H locs hW => ?_)
      obtain ⟨rfl, rfl, rfl⟩ := sm3 hf
      exact k_iret C hlocks hr hW hQ dX10_ifRemoved_49
    · replace hf := if_f hc hf
      refine lv_iconst (v := 0) hx hb dX10_ifRemoved_22 (by decide) ?_
      obtain ⟨rfl, rfl, rfl⟩ := sm3 hf
      exact k_iret C hlocks hr hW hQ dX10_ifRemoved_23
  refine lv_if_eq (tgt := 15) hx hb dX10_ifRemoved_8 (by decide) (fun hc => ?_) (fun hc => ?_)
  · replace hd4 := if_t hc hd4
    refine lv_iconst (v := 1) hx hb dX10_ifRemoved_15 (by decide) ?_
    obtain rfl := Option.some.inj hd4
    exact J5 _ _ _ hW (lv_sub hl [0, 1, 2, 3] rfl)
  · replace hd4 := if_f hc hd4
    refine lv_iconst (v := 0) hx hb dX10_ifRemoved_11 (by decide) ?_
    refine lv_goto (tgt := 16) hx hb dX10_ifRemoved_12 (by decide) ?_
    obtain rfl := Option.some.inj hd4
    exact J5 _ _ _ hW (lv_sub hl [0, 1, 2, 3] rfl)

set_option maxHeartbeats 4000000 in
set_option maxRecDepth 100000 in
theorem kX10_has (l : Launch) (D : va_G) (cI cZ cJ : ClassId) (sz : Nat) (r0 : Nat) (u0 : Nat → Int32) (p1 : Int32) (p2 : Int32) (r : Int32) (hf : pX10_has u0 p1 p2 = some r) : kMet l D cI cZ cJ yX10_has wsX10_has 4 98 [.ref r0, .int p1, .int p2] [(r0, .inl (cI, 84, .inl u0))] sz (some (.int r)) [(r0, .inl (cI, 84, .inl u0))] := by
  refine kM_of (cc := cX10_has) (maxL := 3) (ret := (some .boolean)) (by decide) rfl (Nat.le_of_ble_eq_true rfl) ?_
  intro p e s m args below meth c A Q ls hQ C hlocks hr hE hW hl
  have hx := C.1
  have hb := C.2.1
  have hts := C.2.2.2.2
  have hl : lv_has ls 3 [(0, .ref r0), (1, .int p1), (2, .int p2)] := hl
  unfold pX10_has at hf
  refine lv_aload_n hx hb dX10_has_0 rfl (lv_at hl 0 rfl) ?_
  refine lv_iload_n hx hb dX10_has_1 rfl (lv_at hl 1 rfl) ?_
  refine lv_iload_n hx hb dX10_has_2 rfl (lv_at hl 2 rfl) ?_
  obtain ⟨v1, h2, hf⟩ := bd1_s hf
  refine k_callSR (As := [.ref r0, .int p1, .int p2]) (n := 3) (rest := []) (st1 := [.int v1]) C hE hW hl.1 (kX10_upTo l D cI cZ cJ _ r0 u0 p1 p2 v1 h2) gX10_has_X10_upTo rfl (by decide +kernel) rfl ⟨Nat.le_of_ble_eq_true rfl, Nat.le_of_ble_eq_true rfl⟩ ⟨Nat.zero_le _, Nat.zero_le _⟩ [0] rfl rfl (Nat.le_of_ble_eq_true rfl) rfl rfl dX10_has_3 (fun H locs hW => ?_)
  refine lv_aload_n hx hb dX10_has_6 rfl (lv_at hl 0 rfl) ?_
  refine lv_iload_n hx hb dX10_has_7 rfl (lv_at hl 1 rfl) ?_
  refine lv_iload_n hx hb dX10_has_8 rfl (lv_at hl 2 rfl) ?_
  refine lv_iconst (v := 1) hx hb dX10_has_9 (by decide) ?_
  refine lv_isub hx hb dX10_has_10 ?_
  obtain ⟨v3, h4, hf⟩ := bd1_s hf
  refine k_callSR (As := [.ref r0, .int p1, .int (p2 - 1)]) (n := 3) (rest := [.int v1]) (st1 := [.int v3, .int v1]) C hE hW hl.1 (kX10_upTo l D cI cZ cJ _ r0 u0 p1 (p2 - 1) v3 h4) gX10_has_X10_upTo rfl (by decide +kernel) rfl ⟨Nat.le_of_ble_eq_true rfl, Nat.le_of_ble_eq_true rfl⟩ ⟨Nat.zero_le _, Nat.zero_le _⟩ [0] rfl rfl (Nat.le_of_ble_eq_true rfl) rfl rfl dX10_has_11 (fun H locs hW => ?_)
  refine lv_icmp_le (tgt := 21) hx hb dX10_has_14 (by decide) (fun hc => ?_) (fun hc => ?_)
  · replace hf := if_t hc hf
    refine lv_iconst (v := 0) hx hb dX10_has_21 (by decide) ?_
    obtain rfl := Option.some.inj hf
    exact k_zret C hlocks hr hW (by decide) hQ dX10_has_22
  · replace hf := if_f hc hf
    refine lv_iconst (v := 1) hx hb dX10_has_17 (by decide) ?_
    refine lv_goto (tgt := 22) hx hb dX10_has_18 (by decide) ?_
    obtain rfl := Option.some.inj hf
    exact k_zret C hlocks hr hW (by decide) hQ dX10_has_22
