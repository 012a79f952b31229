section LOOP
variable {p : Program} {l : Launch} {e : Env} {s : State} {m : MethodId} {below : List Frame} {meth : Method} {c : Code} {H : Heap} {locs : List Loc} {cells slots : Nat} {Q : State → Prop} {ls : Array Slot} {D : va_G} {cI cZ cJ : ClassId} {A : Nat → Prop} {b L : Nat} {xs : Nat → Int32} {a : Nat → Nat}
theorem vp_in_iz {i : Int} {L : Nat} (h1 : 0 ≤ i) (h2 : i < L) (h3 : L < 2147483648) : vp_in (iz i) L := by
  rw [vp_in_iff, iz_toInt (by omega) (by omega)]
  exact ⟨h1, h2⟩
theorem LI.S (h : LI D cI cZ cJ A s a H locs) : va_S A s.heap H locs := by
  obtain ⟨nf, ns, tf, ts, pn, tc, uf, us, s0f, s0s, s1f, s1s, gm, tm, po, pr, tl, rb, rt, rr, rc, rd, f0, f1, gs, ge, sc, rw, nw, tr, di, kp, ik, su, pq, tu, rf, ss, sp, ac, sl, fo, hW, hN, hP, hT, hS⟩ := h
  exact hW.2.2
-- the choice by the call's number
set_option maxHeartbeats 4000000 in
set_option maxRecDepth 100000 in
theorem lw_choice (hlt : l.stackTraces = false) (C : CallFix p m c cL_law 8 s #[Value.ref b] wsL_law RL) (hE : kEn D cI cZ cJ A s) (hX : va_X b L xs s s.heap) (hbl : b < s.heap.size) (hbA : ¬ A b) (x4 : Int32) (hin : ∀ j : Int32, j ∈ ([1, 2, 3, 4, 5, 6] : List Int32) → vp_in (x4 + j) L) (hcs : cells + 1 ≤ room_1.cells ∧ slots + 6 ≤ room_1.slots) (hI : LI D cI cZ cJ A s a H locs) (hl : lv_has ls 8 [(0, .ref b), (1, .ref (a 0)), (2, .ref (a 37)), (3, .ref (a 48)), (4, .int x4)]) (x : Int32)
    (kk : ∀ (H1 : Heap) (locs1 : List Loc) (ls1 : Array Slot), LI D cI cZ cJ A s a H1 locs1 → lv_has ls1 8 [(0, .ref b), (1, .ref (a 0)), (2, .ref (a 37)), (3, .ref (a 48)), (4, .int x4)] → W p l e room_1 s m #[Value.ref b] below meth c H1 locs1 (cells + 1) (slots + 6) Q (F0 m 2534 ls1 [])) : W p l e room_1 s m #[Value.ref b] below meth c H locs cells slots Q (F0 m 40 ls [.int x]) := by
  have hx := C.1
  have hb := C.2.1
  by_cases c0 : x = 0
  · subst c0
    exact lv_tableIn (tgt := 188) (off := 148) hx hb dL_law_40 (by decide) (by decide) (by first | decide | rfl) (by decide) (lk_append hlt C hE hX hbl hbA x4 hin hcs hI hl kk)
  by_cases c1 : x = 1
  · subst c1
    exact lv_tableIn (tgt := 244) (off := 204) hx hb dL_law_40 (by decide) (by decide) (by first | decide | rfl) (by decide) (lk_clearText hlt C hE hX hbl hbA x4 hin hcs hI hl kk)
  by_cases c2 : x = 2
  · subst c2
    exact lv_tableIn (tgt := 257) (off := 217) hx hb dL_law_40 (by decide) (by decide) (by first | decide | rfl) (by decide) (lk_errorPosition hlt C hE hX hbl hbA x4 hin hcs hI hl kk)
  by_cases c3 : x = 3
  · subst c3
    exact lv_tableIn (tgt := 270) (off := 230) hx hb dL_law_40 (by decide) (by decide) (by first | decide | rfl) (by decide) (lk_load hlt C hE hX hbl hbA x4 hin hcs hI hl kk)
  by_cases c4 : x = 4
  · subst c4
    exact lv_tableIn (tgt := 314) (off := 274) hx hb dL_law_40 (by decide) (by decide) (by first | decide | rfl) (by decide) (lk_about hlt C hE hX hbl hbA x4 hin hcs hI hl kk)
  by_cases c5 : x = 5
  · subst c5
    exact lv_tableIn (tgt := 382) (off := 342) hx hb dL_law_40 (by decide) (by decide) (by first | decide | rfl) (by decide) (lk_cell hlt C hE hX hbl hbA x4 hin hcs hI hl kk)
  by_cases c6 : x = 6
  · subst c6
    exact lv_tableIn (tgt := 462) (off := 422) hx hb dL_law_40 (by decide) (by decide) (by first | decide | rfl) (by decide) (lk_size hlt C hE hX hbl hbA x4 hin hcs hI hl kk)
  by_cases c7 : x = 7
  · subst c7
    exact lv_tableIn (tgt := 558) (off := 518) hx hb dL_law_40 (by decide) (by decide) (by first | decide | rfl) (by decide) (lk_insert hlt C hE hX hbl hbA x4 hin hcs hI hl kk)
  by_cases c8 : x = 8
  · subst c8
    exact lv_tableIn (tgt := 626) (off := 586) hx hb dL_law_40 (by decide) (by decide) (by first | decide | rfl) (by decide) (lk_remove hlt C hE hX hbl hbA x4 hin hcs hI hl kk)
  by_cases c9 : x = 9
  · subst c9
    exact lv_tableIn (tgt := 706) (off := 666) hx hb dL_law_40 (by decide) (by decide) (by first | decide | rfl) (by decide) (lk_change hlt C hE hX hbl hbA x4 hin hcs hI hl kk)
  by_cases c10 : x = 10
  · subst c10
    exact lv_tableIn (tgt := 798) (off := 758) hx hb dL_law_40 (by decide) (by decide) (by first | decide | rfl) (by decide) (lk_transfer hlt C hE hX hbl hbA x4 hin hcs hI hl kk)
  by_cases c11 : x = 11
  · subst c11
    exact lv_tableIn (tgt := 878) (off := 838) hx hb dL_law_40 (by decide) (by decide) (by first | decide | rfl) (by decide) (lk_transpose hlt C hE hX hbl hbA x4 hin hcs hI hl kk)
  by_cases c12 : x = 12
  · subst c12
    exact lv_tableIn (tgt := 934) (off := 894) hx hb dL_law_40 (by decide) (by decide) (by first | decide | rfl) (by decide) (lk_exchange hlt C hE hX hbl hbA x4 hin hcs hI hl kk)
  by_cases c13 : x = 13
  · subst c13
    exact lv_tableIn (tgt := 947) (off := 907) hx hb dL_law_40 (by decide) (by decide) (by first | decide | rfl) (by decide) (lk_undo hlt C hE hX hbl hbA x4 hin hcs hI hl kk)
  by_cases c14 : x = 14
  · subst c14
    exact lv_tableIn (tgt := 991) (off := 951) hx hb dL_law_40 (by decide) (by decide) (by first | decide | rfl) (by decide) (lk_count hlt C hE hX hbl hbA x4 hin hcs hI hl kk)
  by_cases c15 : x = 15
  · subst c15
    exact lv_tableIn (tgt := 1059) (off := 1019) hx hb dL_law_40 (by decide) (by decide) (by first | decide | rfl) (by decide) (lk_walk hlt C hE hX hbl hbA x4 hin hcs hI hl kk)
  by_cases c16 : x = 16
  · subst c16
    exact lv_tableIn (tgt := 1139) (off := 1099) hx hb dL_law_40 (by decide) (by decide) (by first | decide | rfl) (by decide) (lk_kth hlt C hE hX hbl hbA x4 hin hcs hI hl kk)
  by_cases c17 : x = 17
  · subst c17
    exact lv_tableIn (tgt := 1235) (off := 1195) hx hb dL_law_40 (by decide) (by decide) (by first | decide | rfl) (by decide) (lk_rank hlt C hE hX hbl hbA x4 hin hcs hI hl kk)
  by_cases c18 : x = 18
  · subst c18
    exact lv_tableIn (tgt := 1315) (off := 1275) hx hb dL_law_40 (by decide) (by decide) (by first | decide | rfl) (by decide) (lk_windowCount hlt C hE hX hbl hbA x4 hin hcs hI hl kk)
  by_cases c19 : x = 19
  · subst c19
    exact lv_tableIn (tgt := 1433) (off := 1393) hx hb dL_law_40 (by decide) (by decide) (by first | decide | rfl) (by decide) (lk_windowKth hlt C hE hX hbl hbA x4 hin hcs hI hl kk)
  by_cases c20 : x = 20
  · subst c20
    exact lv_tableIn (tgt := 1551) (off := 1511) hx hb dL_law_40 (by decide) (by decide) (by first | decide | rfl) (by decide) (lk_kthOfBoth hlt C hE hX hbl hbA x4 hin hcs hI hl kk)
  by_cases c21 : x = 21
  · subst c21
    exact lv_tableIn (tgt := 1635) (off := 1595) hx hb dL_law_40 (by decide) (by decide) (by first | decide | rfl) (by decide) (lk_pairs hlt C hE hX hbl hbA x4 hin hcs hI hl kk)
  by_cases c22 : x = 22
  · subst c22
    exact lv_tableIn (tgt := 1691) (off := 1651) hx hb dL_law_40 (by decide) (by decide) (by first | decide | rfl) (by decide) (lk_kthSum hlt C hE hX hbl hbA x4 hin hcs hI hl kk)
  by_cases c23 : x = 23
  · subst c23
    exact lv_tableIn (tgt := 1747) (off := 1707) hx hb dL_law_40 (by decide) (by decide) (by first | decide | rfl) (by decide) (lk_corner hlt C hE hX hbl hbA x4 hin hcs hI hl kk)
  by_cases c24 : x = 24
  · subst c24
    exact lv_tableIn (tgt := 1843) (off := 1803) hx hb dL_law_40 (by decide) (by decide) (by first | decide | rfl) (by decide) (lk_hook hlt C hE hX hbl hbA x4 hin hcs hI hl kk)
  by_cases c25 : x = 25
  · subst c25
    exact lv_tableIn (tgt := 1923) (off := 1883) hx hb dL_law_40 (by decide) (by decide) (by first | decide | rfl) (by decide) (lk_fillings hlt C hE hX hbl hbA x4 hin hcs hI hl kk)
  by_cases c26 : x = 26
  · subst c26
    exact lv_tableIn (tgt := 1978) (off := 1938) hx hb dL_law_40 (by decide) (by decide) (by first | decide | rfl) (by decide) (lk_path hlt C hE hX hbl hbA x4 hin hcs hI hl kk)
  by_cases c27 : x = 27
  · subst c27
    exact lv_tableIn (tgt := 2046) (off := 2006) hx hb dL_law_40 (by decide) (by decide) (by first | decide | rfl) (by decide) (lk_ifInserted hlt C hE hX hbl hbA x4 hin hcs hI hl kk)
  by_cases c28 : x = 28
  · subst c28
    exact lv_tableIn (tgt := 2142) (off := 2102) hx hb dL_law_40 (by decide) (by decide) (by first | decide | rfl) (by decide) (lk_ifRemoved hlt C hE hX hbl hbA x4 hin hcs hI hl kk)
  by_cases c29 : x = 29
  · subst c29
    exact lv_tableIn (tgt := 2222) (off := 2182) hx hb dL_law_40 (by decide) (by decide) (by first | decide | rfl) (by decide) (lk_runScript hlt C hE hX hbl hbA x4 hin hcs hI hl kk)
  by_cases c30 : x = 30
  · subst c30
    exact lv_tableIn (tgt := 2322) (off := 2282) hx hb dL_law_40 (by decide) (by decide) (by first | decide | rfl) (by decide) (lk_simulate hlt C hE hX hbl hbA x4 hin hcs hI hl kk)
  by_cases c31 : x = 31
  · subst c31
    exact lv_tableIn (tgt := 2422) (off := 2382) hx hb dL_law_40 (by decide) (by decide) (by first | decide | rfl) (by decide) (lk_save hlt C hE hX hbl hbA x4 hin hcs hI hl kk)
  by_cases c32 : x = 32
  · subst c32
    exact lv_tableIn (tgt := 2478) (off := 2438) hx hb dL_law_40 (by decide) (by decide) (by first | decide | rfl) (by decide) (lk_restore hlt C hE hX hbl hbA x4 hin hcs hI hl kk)
  refine lv_tableOut (tgt := 2534) hx hb dL_law_40 ?_ (by decide) (W.widen (k := cells + 1) (n := slots + 6) (by omega) (by omega) (kk _ _ _ hI hl))
  have d0 : ¬ x.toInt = 0 := lv_neT c0 (by decide)
  have d1 : ¬ x.toInt = 1 := lv_neT c1 (by decide)
  have d2 : ¬ x.toInt = 2 := lv_neT c2 (by decide)
  have d3 : ¬ x.toInt = 3 := lv_neT c3 (by decide)
  have d4 : ¬ x.toInt = 4 := lv_neT c4 (by decide)
  have d5 : ¬ x.toInt = 5 := lv_neT c5 (by decide)
  have d6 : ¬ x.toInt = 6 := lv_neT c6 (by decide)
  have d7 : ¬ x.toInt = 7 := lv_neT c7 (by decide)
  have d8 : ¬ x.toInt = 8 := lv_neT c8 (by decide)
  have d9 : ¬ x.toInt = 9 := lv_neT c9 (by decide)
  have d10 : ¬ x.toInt = 10 := lv_neT c10 (by decide)
  have d11 : ¬ x.toInt = 11 := lv_neT c11 (by decide)
  have d12 : ¬ x.toInt = 12 := lv_neT c12 (by decide)
  have d13 : ¬ x.toInt = 13 := lv_neT c13 (by decide)
  have d14 : ¬ x.toInt = 14 := lv_neT c14 (by decide)
  have d15 : ¬ x.toInt = 15 := lv_neT c15 (by decide)
  have d16 : ¬ x.toInt = 16 := lv_neT c16 (by decide)
  have d17 : ¬ x.toInt = 17 := lv_neT c17 (by decide)
  have d18 : ¬ x.toInt = 18 := lv_neT c18 (by decide)
  have d19 : ¬ x.toInt = 19 := lv_neT c19 (by decide)
  have d20 : ¬ x.toInt = 20 := lv_neT c20 (by decide)
  have d21 : ¬ x.toInt = 21 := lv_neT c21 (by decide)
  have d22 : ¬ x.toInt = 22 := lv_neT c22 (by decide)
  have d23 : ¬ x.toInt = 23 := lv_neT c23 (by decide)
  have d24 : ¬ x.toInt = 24 := lv_neT c24 (by decide)
  have d25 : ¬ x.toInt = 25 := lv_neT c25 (by decide)
  have d26 : ¬ x.toInt = 26 := lv_neT c26 (by decide)
  have d27 : ¬ x.toInt = 27 := lv_neT c27 (by decide)
  have d28 : ¬ x.toInt = 28 := lv_neT c28 (by decide)
  have d29 : ¬ x.toInt = 29 := lv_neT c29 (by decide)
  have d30 : ¬ x.toInt = 30 := lv_neT c30 (by decide)
  have d31 : ¬ x.toInt = 31 := lv_neT c31 (by decide)
  have d32 : ¬ x.toInt = 32 := lv_neT c32 (by decide)
  omega
theorem lw_loop (hlt : l.stackTraces = false) (C : CallFix p m c cL_law 8 s #[Value.ref b] wsL_law RL) (hE : kEn D cI cZ cJ A s) (hX : va_X b L xs s s.heap) (hbl : b < s.heap.size) (hbA : ¬ A b) (hL : L ≤ 3584)
    (fin : ∀ (H1 : Heap) (locs1 : List Loc) (ls1 : Array Slot) (cells1 slots1 : Nat), cells1 ≤ 1084 → slots1 ≤ 11766 → va_S A s.heap H1 locs1 → W p l e room_1 s m #[Value.ref b] below meth c H1 locs1 cells1 slots1 Q (F0 m 2540 ls1 [])) :
    ∀ (n : Nat) (i : Int) (H : Heap) (locs : List Loc) (ls : Array Slot) (cells slots : Nat), 0 ≤ i → i ≤ 3600 → (L : Int) - i < 7 * (n : Int) → cells + n ≤ 1084 → slots + 6 * n ≤ 11766 → LI D cI cZ cJ A s a H locs → lv_has ls 8 [(0, .ref b), (1, .ref (a 0)), (2, .ref (a 37)), (3, .ref (a 48)), (4, .int (iz i))] → W p l e room_1 s m #[Value.ref b] below meth c H locs cells slots Q (F0 m 23 ls []) := by
  intro n
  have hx := C.1
  have hb := C.2.1
  have hLz : Int32.ofNat L = iz (L : Int) := by
    show Int32.ofNat L = Int32.ofInt (L : Int)
    rw [Int32.ofInt_eq_ofNat]
  have hrc : room_1.cells = 1084 := rfl
  have hrs : room_1.slots = 11766 := rfl
  induction n with
  | zero =>
    intro i H locs ls cells slots h0 h1 h2 h3 h4 hI hl
    refine lv_iload hx hb dL_law_23 (lv_at hl 4 rfl) ?_
    refine lv_aload_n hx hb dL_law_25 rfl (lv_at hl 0 rfl) ?_
    refine va_slen hx hb hX hbl hbA hI.S dL_law_26 ?_
    refine lv_bipush (v := 7) hx hb dL_law_27 (by decide) ?_
    refine lv_isub hx hb dL_law_29 ?_
    refine lv_icmp_gt (tgt := 2540) hx hb dL_law_30 (by decide) (fun _ => fin _ _ _ _ _ (by omega) (by omega) hI.S) (fun hc => ?_)
    rw [hLz, iz_7, iz_sub, iz_lt (by omega) (by omega) (by omega) (by omega)] at hc
    omega
  | succ n ih =>
    intro i H locs ls cells slots h0 h1 h2 h3 h4 hI hl
    refine lv_iload hx hb dL_law_23 (lv_at hl 4 rfl) ?_
    refine lv_aload_n hx hb dL_law_25 rfl (lv_at hl 0 rfl) ?_
    refine va_slen hx hb hX hbl hbA hI.S dL_law_26 ?_
    refine lv_bipush (v := 7) hx hb dL_law_27 (by decide) ?_
    refine lv_isub hx hb dL_law_29 ?_
    refine lv_icmp_gt (tgt := 2540) hx hb dL_law_30 (by decide) (fun _ => fin _ _ _ _ _ (by omega) (by omega) hI.S) (fun hc => ?_)
    rw [hLz, iz_7, iz_sub, iz_lt (by omega) (by omega) (by omega) (by omega)] at hc
    refine lv_aload_n hx hb dL_law_33 rfl (lv_at hl 0 rfl) ?_
    refine lv_iload hx hb dL_law_34 (lv_at hl 4 rfl) ?_
    refine va_sld hx hb hX hbl hbA hI.S (vp_in_iz h0 (by omega) (by omega)) dL_law_36 ?_
    refine lv_bipush (v := 63) hx hb dL_law_37 (by decide) ?_
    refine lv_iand hx hb dL_law_39 ?_
    refine lw_choice hlt C hE hX hbl hbA (iz i) (fun j hj => ?_) ⟨by omega, by omega⟩ hI hl _ (fun H1 locs1 ls1 hI1 hl1 => ?_)
    · rcases List.mem_cons.mp hj with rfl | hj
      · rw [iz_1, iz_add]; exact vp_in_iz (by omega) (by omega) (by omega)
      rcases List.mem_cons.mp hj with rfl | hj
      · rw [iz_2, iz_add]; exact vp_in_iz (by omega) (by omega) (by omega)
      rcases List.mem_cons.mp hj with rfl | hj
      · rw [iz_3, iz_add]; exact vp_in_iz (by omega) (by omega) (by omega)
      rcases List.mem_cons.mp hj with rfl | hj
      · rw [iz_4, iz_add]; exact vp_in_iz (by omega) (by omega) (by omega)
      rcases List.mem_cons.mp hj with rfl | hj
      · rw [iz_5, iz_add]; exact vp_in_iz (by omega) (by omega) (by omega)
      rcases List.mem_cons.mp hj with rfl | hj
      · rw [iz_6, iz_add]; exact vp_in_iz (by omega) (by omega) (by omega)
      exact absurd hj List.not_mem_nil
    refine lv_iinc (k := 4) (v := iz (i + 7)) (lv' := [(4, .int (iz (i + 7))), (0, .ref b), (1, .ref (a 0)), (2, .ref (a 37)), (3, .ref (a 48))]) hx hb dL_law_2534 hl1 rfl (iz_add i 7) (by decide) rfl (fun ls2 hl2 => ?_)
    refine lv_goto (tgt := 23) hx hb dL_law_2537 (by decide) ?_
    exact ih (i + 7) _ _ _ _ _ (by omega) (by omega) (by omega) (by omega) (by omega) hI1 (lv_sub hl2 [1, 2, 3, 4, 0] rfl)
end LOOP
