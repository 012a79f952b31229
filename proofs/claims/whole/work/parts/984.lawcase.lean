section LC
variable {p : Program} {l : Launch} {e : Env} {s : State} {m : MethodId} {below : List Frame} {meth : Method} {c : Code} {H : Heap} {locs : List Loc} {cells slots : Nat} {Q : State → Prop} {ls : Array Slot} {D : va_G} {cI cZ cJ : ClassId} {A : Nat → Prop} {b L : Nat} {xs : Nat → Int32}
set_option maxHeartbeats 4000000 in
set_option maxRecDepth 100000 in
theorem lc_windowCount_r (hlt : l.stackTraces = false) (C : CallFix p m c cL_law 8 s #[Value.ref b] wsL_law RL) (hE : kEn D cI cZ cJ A s) (hX : va_X b L xs s s.heap) (hbl : b < s.heap.size) (hbA : ¬ A b) (x4 : Int32) (p1 : Int32) (hv1 : vp_in (x4 + 1) L) (hp1 : xs (x4 + 1).toNatClampNeg = p1) (p2 : Int32) (hv2 : vp_in (x4 + 2) L) (hp2 : xs (x4 + 2).toNatClampNeg = p2) (p3 : Int32) (hv3 : vp_in (x4 + 3) L) (hp3 : xs (x4 + 3).toNatClampNeg = p3) (p4 : Int32) (hv4 : vp_in (x4 + 4) L) (hp4 : xs (x4 + 4).toNatClampNeg = p4) (p5 : Int32) (hv5 : vp_in (x4 + 5) L) (hp5 : xs (x4 + 5).toNatClampNeg = p5) (p6 : Int32) (hv6 : vp_in (x4 + 6) L) (hp6 : xs (x4 + 6).toNatClampNeg = p6) (hcs : cells + 1 ≤ room_1.cells ∧ slots + 6 ≤ room_1.slots) (q q_now q_now_first q_now_first_numbers q_now_second q_now_second_numbers q_trial q_past q_text q_reader q_slot0 q_slot1 q_greatestPath q_fillingsOfShape mq mq_now mq_script mq_readRow mq_trial mq_diary mq_kept mq_isKept mq_sums mq_primes mq_turned qo : Nat) (u_now_first_numbers : Nat → Int32) (u_now_second_numbers : Nat → Int32) (v_refusal : Int32) (v_scriptSize : Int32) (v_spot : Int32) (v_acts : Int32) (v_slides : Int32) (v_now : Nat → Int32) (fo : Nat → Int64) (r : Int32) (zc0 zc1 zc2 zc3 zc4 zc5 zc6 zc7 zc8 zc9 zc10 zc11 zc12 zc13 zc14 zc15 zc16 zc17 zc18 zc19 zc20 zc21 zc22 zc23 zc24 zc25 zc26 zc27 zc28 zc29 zc30 zc31 zc32 zc33 zc34 zc35 zc36 zc37 zc38 zc39 : Nat × va_E) (hf : pX9_windowCount u_now_first_numbers u_now_second_numbers p1 p2 p3 p4 p5 p6 = some (.inr r)) (hm : pX10_windowCount v_refusal v_now p1 p2 p3 p4 p5 p6 = some (r, 0)) (hW : kH D A s H locs [(q, .inr (8, [.ref q_now, .ref q_trial, .ref q_past, .ref q_text, .ref q_reader, .ref q_slot0, .ref q_slot1, .ref q_greatestPath, .ref q_fillingsOfShape])), (q_now, .inr (2, [.ref q_now_first, .ref q_now_second])), (q_now_first, .inr (6, [.ref q_now_first_numbers])), (q_now_first_numbers, .inl (cI, 36, .inl u_now_first_numbers)), (q_now_second, .inr (6, [.ref q_now_second_numbers])), (q_now_second_numbers, .inl (cI, 36, .inl u_now_second_numbers)), (mq, .inr (9, [.int v_refusal, .ref mq_script, .int v_scriptSize, .int v_spot, .ref mq_readRow, .ref mq_now, .ref mq_trial, .ref mq_diary, .int v_acts, .ref mq_kept, .ref mq_isKept, .int v_slides, .ref mq_sums, .ref mq_primes, .ref mq_turned])), (mq_now, .inl (cI, 84, .inl v_now)), (qo, .inl (cJ, 1, .inr (.inl fo))), zc0, zc1, zc2, zc3, zc4, zc5, zc6, zc7, zc8, zc9, zc10, zc11, zc12, zc13, zc14, zc15, zc16, zc17, zc18, zc19, zc20, zc21, zc22, zc23, zc24, zc25, zc26, zc27, zc28, zc29, zc30, zc31, zc32, zc33, zc34, zc35, zc36, zc37, zc38, zc39]) (hl : lv_has ls 8 [(0, .ref b), (1, .ref q), (2, .ref mq), (3, .ref qo), (4, .int x4)])
    (kk : ∀ (H1 : Heap) (locs1 : List Loc) (ls1 : Array Slot), kH D A s H1 locs1 [(q, .inr (8, [.ref q_now, .ref q_trial, .ref q_past, .ref q_text, .ref q_reader, .ref q_slot0, .ref q_slot1, .ref q_greatestPath, .ref q_fillingsOfShape])), (q_now, .inr (2, [.ref q_now_first, .ref q_now_second])), (q_now_first, .inr (6, [.ref q_now_first_numbers])), (q_now_first_numbers, .inl (cI, 36, .inl u_now_first_numbers)), (q_now_second, .inr (6, [.ref q_now_second_numbers])), (q_now_second_numbers, .inl (cI, 36, .inl u_now_second_numbers)), (mq, .inr (9, [.int 0, .ref mq_script, .int v_scriptSize, .int v_spot, .ref mq_readRow, .ref mq_now, .ref mq_trial, .ref mq_diary, .int v_acts, .ref mq_kept, .ref mq_isKept, .int v_slides, .ref mq_sums, .ref mq_primes, .ref mq_turned])), (mq_now, .inl (cI, 84, .inl v_now)), (qo, .inl (cJ, 1, .inr (.inl (vp_updL fo 0 (r.toInt64))))), zc0, zc1, zc2, zc3, zc4, zc5, zc6, zc7, zc8, zc9, zc10, zc11, zc12, zc13, zc14, zc15, zc16, zc17, zc18, zc19, zc20, zc21, zc22, zc23, zc24, zc25, zc26, zc27, zc28, zc29, zc30, zc31, zc32, zc33, zc34, zc35, zc36, zc37, zc38, zc39] → lv_has ls1 8 [(0, .ref b), (1, .ref q), (2, .ref mq), (3, .ref qo), (4, .int x4)] → W p l e room_1 s m #[Value.ref b] below meth c H1 locs1 cells slots Q (F0 m 2534 ls1 [])) : W p l e room_1 s m #[Value.ref b] below meth c H locs cells slots Q (F0 m 1315 ls []) := by
  have hx := C.1
  have hb := C.2.1
  refine lv_aload_n hx hb dL_law_1315 rfl (lv_at hl 1 rfl) ?_
  refine lv_aload_n hx hb dL_law_1316 rfl (lv_at hl 0 rfl) ?_
  refine lv_iload hx hb dL_law_1317 (lv_at hl 4 rfl) ?_
  refine lv_iconst (v := 1) hx hb dL_law_1319 (by decide) ?_
  refine lv_iadd hx hb dL_law_1320 ?_
  refine va_sld hx hb hX hbl hbA hW.2.2 hv1 dL_law_1321 ?_
  rw [hp1]
  refine lv_aload_n hx hb dL_law_1322 rfl (lv_at hl 0 rfl) ?_
  refine lv_iload hx hb dL_law_1323 (lv_at hl 4 rfl) ?_
  refine lv_iconst (v := 2) hx hb dL_law_1325 (by decide) ?_
  refine lv_iadd hx hb dL_law_1326 ?_
  refine va_sld hx hb hX hbl hbA hW.2.2 hv2 dL_law_1327 ?_
  rw [hp2]
  refine lv_aload_n hx hb dL_law_1328 rfl (lv_at hl 0 rfl) ?_
  refine lv_iload hx hb dL_law_1329 (lv_at hl 4 rfl) ?_
  refine lv_iconst (v := 3) hx hb dL_law_1331 (by decide) ?_
  refine lv_iadd hx hb dL_law_1332 ?_
  refine va_sld hx hb hX hbl hbA hW.2.2 hv3 dL_law_1333 ?_
  rw [hp3]
  refine lv_aload_n hx hb dL_law_1334 rfl (lv_at hl 0 rfl) ?_
  refine lv_iload hx hb dL_law_1335 (lv_at hl 4 rfl) ?_
  refine lv_iconst (v := 4) hx hb dL_law_1337 (by decide) ?_
  refine lv_iadd hx hb dL_law_1338 ?_
  refine va_sld hx hb hX hbl hbA hW.2.2 hv4 dL_law_1339 ?_
  rw [hp4]
  refine lv_aload_n hx hb dL_law_1340 rfl (lv_at hl 0 rfl) ?_
  refine lv_iload hx hb dL_law_1341 (lv_at hl 4 rfl) ?_
  refine lv_iconst (v := 5) hx hb dL_law_1343 (by decide) ?_
  refine lv_iadd hx hb dL_law_1344 ?_
  refine va_sld hx hb hX hbl hbA hW.2.2 hv5 dL_law_1345 ?_
  rw [hp5]
  refine lv_aload_n hx hb dL_law_1346 rfl (lv_at hl 0 rfl) ?_
  refine lv_iload hx hb dL_law_1347 (lv_at hl 4 rfl) ?_
  refine lv_bipush (v := 6) hx hb dL_law_1349 (by decide) ?_
  refine lv_iadd hx hb dL_law_1351 ?_
  refine va_sld hx hb hX hbl hbA hW.2.2 hv6 dL_law_1352 ?_
  rw [hp6]
  refine lv_aload_n hx hb dL_law_1353 rfl (lv_at hl 3 rfl) ?_
  refine k_callSW (As := [.ref q, .int p1, .int p2, .int p3, .int p4, .int p5, .int p6, .ref qo]) (n := 8) (rest := []) (st1 := [.int 0]) (wr := [(mq, .inr (9, [.int v_refusal, .ref mq_script, .int v_scriptSize, .int v_spot, .ref mq_readRow, .ref mq_now, .ref mq_trial, .ref mq_diary, .int v_acts, .ref mq_kept, .ref mq_isKept, .int v_slides, .ref mq_sums, .ref mq_primes, .ref mq_turned])), (mq_now, .inl (cI, 84, .inl v_now)), zc0, zc1, zc2, zc3, zc4, zc5, zc6, zc7, zc8, zc9, zc10, zc11, zc12, zc13, zc14, zc15, zc16, zc17, zc18, zc19, zc20, zc21, zc22, zc23, zc24, zc25, zc26, zc27, zc28, zc29, zc30, zc31, zc32, zc33, zc34, zc35, zc36, zc37, zc38, zc39]) (ws' := [(q, .inr (8, [.ref q_now, .ref q_trial, .ref q_past, .ref q_text, .ref q_reader, .ref q_slot0, .ref q_slot1, .ref q_greatestPath, .ref q_fillingsOfShape])), (q_now, .inr (2, [.ref q_now_first, .ref q_now_second])), (q_now_first, .inr (6, [.ref q_now_first_numbers])), (q_now_first_numbers, .inl (cI, 36, .inl u_now_first_numbers)), (q_now_second, .inr (6, [.ref q_now_second_numbers])), (q_now_second_numbers, .inl (cI, 36, .inl u_now_second_numbers)), (mq, .inr (9, [.int v_refusal, .ref mq_script, .int v_scriptSize, .int v_spot, .ref mq_readRow, .ref mq_now, .ref mq_trial, .ref mq_diary, .int v_acts, .ref mq_kept, .ref mq_isKept, .int v_slides, .ref mq_sums, .ref mq_primes, .ref mq_turned])), (mq_now, .inl (cI, 84, .inl v_now)), (qo, .inl (cJ, 1, .inr (.inl (vp_updL fo 0 (r.toInt64))))), zc0, zc1, zc2, zc3, zc4, zc5, zc6, zc7, zc8, zc9, zc10, zc11, zc12, zc13, zc14, zc15, zc16, zc17, zc18, zc19, zc20, zc21, zc22, zc23, zc24, zc25, zc26, zc27, zc28, zc29, zc30, zc31, zc32, zc33, zc34, zc35, zc36, zc37, zc38, zc39]) C hE hW hl.1 (kL_windowCount_r l hlt D cI cZ cJ _ q q_now q_now_first q_now_first_numbers q_now_second q_now_second_numbers q_trial q_past q_text q_reader q_slot0 q_slot1 q_greatestPath q_fillingsOfShape qo u_now_first_numbers u_now_second_numbers fo p1 p2 p3 p4 p5 p6 r (vp_updL fo 0 (r.toInt64)) hf (sJ_0 fo _)) gL_law_L_windowCount rfl (by decide +kernel) rfl ⟨(Nat.le_of_ble_eq_true rfl), (Nat.le_of_ble_eq_true rfl)⟩ ⟨by omega, by omega⟩ [0, 1, 2, 3, 4, 5, 8] [6, 7, 9, 10, 11, 12, 13, 14, 15, 16, 17, 18, 19, 20, 21, 22, 23, 24, 25, 26, 27, 28, 29, 30, 31, 32, 33, 34, 35, 36, 37, 38, 39, 40, 41, 42, 43, 44, 45, 46, 47, 48] [42, 43, 44, 45, 46, 47, 0, 1, 48, 2, 3, 4, 5, 6, 7, 8, 9, 10, 11, 12, 13, 14, 15, 16, 17, 18, 19, 20, 21, 22, 23, 24, 25, 26, 27, 28, 29, 30, 31, 32, 33, 34, 35, 36, 37, 38, 39, 40, 41] rfl rfl rfl rfl (by decide) rfl rfl (Nat.le_of_ble_eq_true rfl) rfl rfl dL_law_1354 (fun H locs hW => ?_)
  refine lv_istore (lv' := [(5, .int 0), (0, .ref b), (1, .ref q), (2, .ref mq), (3, .ref qo), (4, .int x4)]) hx hb dL_law_1357 hl (by decide) rfl (fun ls hl => ?_)
  refine lv_aload_n hx hb dL_law_1359 rfl (lv_at hl 3 rfl) ?_
  refine lv_aload_n hx hb dL_law_1360 rfl (lv_at hl 1 rfl) ?_
  refine lv_iload hx hb dL_law_1361 (lv_at hl 5 rfl) ?_
  refine lv_iconst (v := 1) hx hb dL_law_1363 (by decide) ?_
  refine lv_iadd hx hb dL_law_1364 ?_
  refine va_sld hx hb hX hbl hbA hW.2.2 hv1 dL_law_1365 ?_
  rw [hp1]
  refine lv_aload_n hx hb dL_law_1366 rfl (lv_at hl 1 rfl) ?_
  refine lv_iload hx hb dL_law_1367 (lv_at hl 5 rfl) ?_
  refine lv_iconst (v := 2) hx hb dL_law_1369 (by decide) ?_
  refine lv_iadd hx hb dL_law_1370 ?_
  refine va_sld hx hb hX hbl hbA hW.2.2 hv2 dL_law_1371 ?_
  rw [hp2]
  refine lv_aload_n hx hb dL_law_1372 rfl (lv_at hl 1 rfl) ?_
  refine lv_iload hx hb dL_law_1373 (lv_at hl 5 rfl) ?_
  refine lv_iconst (v := 3) hx hb dL_law_1375 (by decide) ?_
  refine lv_iadd hx hb dL_law_1376 ?_
  refine va_sld hx hb hX hbl hbA hW.2.2 hv3 dL_law_1377 ?_
  rw [hp3]
  refine lv_aload_n hx hb dL_law_1378 rfl (lv_at hl 1 rfl) ?_
  refine lv_iload hx hb dL_law_1379 (lv_at hl 5 rfl) ?_
  refine lv_iconst (v := 4) hx hb dL_law_1381 (by decide) ?_
  refine lv_iadd hx hb dL_law_1382 ?_
  refine va_sld hx hb hX hbl hbA hW.2.2 hv4 dL_law_1383 ?_
  rw [hp4]
  refine lv_aload_n hx hb dL_law_1384 rfl (lv_at hl 1 rfl) ?_
  refine lv_iload hx hb dL_law_1385 (lv_at hl 5 rfl) ?_
  refine lv_iconst (v := 5) hx hb dL_law_1387 (by decide) ?_
  refine lv_iadd hx hb dL_law_1388 ?_
  refine va_sld hx hb hX hbl hbA hW.2.2 hv5 dL_law_1389 ?_
  rw [hp5]
  refine lv_aload_n hx hb dL_law_1390 rfl (lv_at hl 1 rfl) ?_
  refine lv_iload hx hb dL_law_1391 (lv_at hl 5 rfl) ?_
  refine lv_bipush (v := 6) hx hb dL_law_1393 (by decide) ?_
  refine lv_iadd hx hb dL_law_1395 ?_
  refine va_sld hx hb hX hbl hbA hW.2.2 hv6 dL_law_1396 ?_
  rw [hp6]
  refine k_callV (b := mq) (ci := 9) (qb := 0) (As := [.int p1, .int p2, .int p3, .int p4, .int p5, .int p6]) (n := 6) (rest := []) (st1 := [.int r]) (wr := [(q, .inr (8, [.ref q_now, .ref q_trial, .ref q_past, .ref q_text, .ref q_reader, .ref q_slot0, .ref q_slot1, .ref q_greatestPath, .ref q_fillingsOfShape])), (q_now, .inr (2, [.ref q_now_first, .ref q_now_second])), (q_now_first, .inr (6, [.ref q_now_first_numbers])), (q_now_first_numbers, .inl (cI, 36, .inl u_now_first_numbers)), (q_now_second, .inr (6, [.ref q_now_second_numbers])), (q_now_second_numbers, .inl (cI, 36, .inl u_now_second_numbers)), (qo, .inl (cJ, 1, .inr (.inl (vp_updL fo 0 (r.toInt64))))), zc0, zc1, zc2, zc3, zc4, zc5, zc6, zc7, zc8, zc9, zc10, zc11, zc12, zc13, zc14, zc15, zc16, zc17, zc18, zc19, zc20, zc21, zc22, zc23, zc24, zc25, zc26, zc27, zc28, zc29, zc30, zc31, zc32, zc33, zc34, zc35, zc36, zc37, zc38, zc39]) (ws' := [(q, .inr (8, [.ref q_now, .ref q_trial, .ref q_past, .ref q_text, .ref q_reader, .ref q_slot0, .ref q_slot1, .ref q_greatestPath, .ref q_fillingsOfShape])), (q_now, .inr (2, [.ref q_now_first, .ref q_now_second])), (q_now_first, .inr (6, [.ref q_now_first_numbers])), (q_now_first_numbers, .inl (cI, 36, .inl u_now_first_numbers)), (q_now_second, .inr (6, [.ref q_now_second_numbers])), (q_now_second_numbers, .inl (cI, 36, .inl u_now_second_numbers)), (mq, .inr (9, [.int 0, .ref mq_script, .int v_scriptSize, .int v_spot, .ref mq_readRow, .ref mq_now, .ref mq_trial, .ref mq_diary, .int v_acts, .ref mq_kept, .ref mq_isKept, .int v_slides, .ref mq_sums, .ref mq_primes, .ref mq_turned])), (mq_now, .inl (cI, 84, .inl v_now)), (qo, .inl (cJ, 1, .inr (.inl (vp_updL fo 0 (r.toInt64))))), zc0, zc1, zc2, zc3, zc4, zc5, zc6, zc7, zc8, zc9, zc10, zc11, zc12, zc13, zc14, zc15, zc16, zc17, zc18, zc19, zc20, zc21, zc22, zc23, zc24, zc25, zc26, zc27, zc28, zc29, zc30, zc31, zc32, zc33, zc34, zc35, zc36, zc37, zc38, zc39]) C hE hW hl.1 (kX10_windowCount l D cI cZ cJ _ mq mq_now mq_script mq_readRow mq_trial mq_diary mq_kept mq_isKept mq_sums mq_primes mq_turned v_refusal v_scriptSize v_spot v_acts v_slides v_now p1 p2 p3 p4 p5 p6 r 0 hm) gL_law_X10_windowCount rfl (by decide +kernel) rfl ⟨(Nat.le_of_ble_eq_true rfl), (Nat.le_of_ble_eq_true rfl)⟩ ⟨by omega, by omega⟩ rfl rfl [6, 7] [0, 1, 2, 3, 4, 5, 8, 9, 10, 11, 12, 13, 14, 15, 16, 17, 18, 19, 20, 21, 22, 23, 24, 25, 26, 27, 28, 29, 30, 31, 32, 33, 34, 35, 36, 37, 38, 39, 40, 41, 42, 43, 44, 45, 46, 47, 48] [0, 1, 2, 3, 4, 5, 47, 48, 6, 7, 8, 9, 10, 11, 12, 13, 14, 15, 16, 17, 18, 19, 20, 21, 22, 23, 24, 25, 26, 27, 28, 29, 30, 31, 32, 33, 34, 35, 36, 37, 38, 39, 40, 41, 42, 43, 44, 45, 46] rfl rfl rfl rfl (by decide) rfl rfl (Nat.le_of_ble_eq_true rfl) rfl rfl dL_law_1397 (fun H locs hW => ?_)
  refine lv_istore (lv' := [(6, .int r), (5, .int 0), (0, .ref b), (1, .ref q), (2, .ref mq), (3, .ref qo), (4, .int x4)]) hx hb dL_law_1400 hl (by decide) rfl (fun ls hl => ?_)
  refine lv_aload_n hx hb dL_law_1402 rfl (lv_at hl 4 rfl) ?_
  refine k_callVR (b := mq) (ci := 9) (qb := 0) (As := []) (n := 0) (rest := []) (st1 := [.int 0]) C hE hW hl.1 (kX10_thrown l D cI cZ cJ _ mq mq_script mq_readRow mq_now mq_trial mq_diary mq_kept mq_isKept mq_sums mq_primes mq_turned 0 v_scriptSize v_spot v_acts v_slides 0 rfl) gL_law_X10_thrown rfl (by decide +kernel) rfl ⟨(Nat.le_of_ble_eq_true rfl), (Nat.le_of_ble_eq_true rfl)⟩ ⟨by omega, by omega⟩ rfl rfl [6] rfl rfl (Nat.le_of_ble_eq_true rfl) rfl rfl dL_law_1403 (fun H locs hW => ?_)
  refine lv_iload hx hb dL_law_1406 (lv_at hl 1 rfl) ?_
  refine lv_icmp_eq (tgt := 1413) hx hb dL_law_1408 (by decide) (fun _ => ?_) (fun hc => absurd rfl hc)
  refine lv_iload hx hb dL_law_1413 (lv_at hl 1 rfl) ?_
  refine lv_if_ne (tgt := 1430) hx hb dL_law_1415 (by decide) (fun hc => absurd rfl hc) (fun _ => ?_)
  refine lv_aload_n hx hb dL_law_1418 rfl (lv_at hl 5 rfl) ?_
  refine lv_iconst (v := 0) hx hb dL_law_1419 (by decide) ?_
  refine k_lald C hE hW 8 rfl (gJ_0 fo _) dL_law_1420 ?_
  refine lv_iload hx hb dL_law_1421 (lv_at hl 0 rfl) ?_
  refine lv_i2l hx hb dL_law_1423 rfl ?_
  refine W.lcmp hx hb dL_law_1424 ?_
  refine lv_if_eq (tgt := 1430) hx hb dL_law_1425 (by decide) (fun _ => ?_) (fun hc => absurd (cmp_self _) hc)
  refine lv_goto (tgt := 2534) hx hb dL_law_1430 (by decide) ?_
  exact kk _ _ _ hW (lv_sub hl [2, 3, 4, 5, 6] rfl)
set_option maxHeartbeats 4000000 in
set_option maxRecDepth 100000 in
theorem lc_windowCount_t3 (hlt : l.stackTraces = false) (C : CallFix p m c cL_law 8 s #[Value.ref b] wsL_law RL) (hE : kEn D cI cZ cJ A s) (hX : va_X b L xs s s.heap) (hbl : b < s.heap.size) (hbA : ¬ A b) (x4 : Int32) (p1 : Int32) (hv1 : vp_in (x4 + 1) L) (hp1 : xs (x4 + 1).toNatClampNeg = p1) (p2 : Int32) (hv2 : vp_in (x4 + 2) L) (hp2 : xs (x4 + 2).toNatClampNeg = p2) (p3 : Int32) (hv3 : vp_in (x4 + 3) L) (hp3 : xs (x4 + 3).toNatClampNeg = p3) (p4 : Int32) (hv4 : vp_in (x4 + 4) L) (hp4 : xs (x4 + 4).toNatClampNeg = p4) (p5 : Int32) (hv5 : vp_in (x4 + 5) L) (hp5 : xs (x4 + 5).toNatClampNeg = p5) (p6 : Int32) (hv6 : vp_in (x4 + 6) L) (hp6 : xs (x4 + 6).toNatClampNeg = p6) (hcs : cells + 1 ≤ room_1.cells ∧ slots + 6 ≤ room_1.slots) (q q_now q_now_first q_now_first_numbers q_now_second q_now_second_numbers q_trial q_past q_text q_reader q_slot0 q_slot1 q_greatestPath q_fillingsOfShape mq mq_now mq_script mq_readRow mq_trial mq_diary mq_kept mq_isKept mq_sums mq_primes mq_turned qo : Nat) (u_now_first_numbers : Nat → Int32) (u_now_second_numbers : Nat → Int32) (v_refusal : Int32) (v_scriptSize : Int32) (v_spot : Int32) (v_acts : Int32) (v_slides : Int32) (v_now : Nat → Int32) (fo : Nat → Int64) (rb : Int32) (zc0 zc1 zc2 zc3 zc4 zc5 zc6 zc7 zc8 zc9 zc10 zc11 zc12 zc13 zc14 zc15 zc16 zc17 zc18 zc19 zc20 zc21 zc22 zc23 zc24 zc25 zc26 zc27 zc28 zc29 zc30 zc31 zc32 zc33 zc34 zc35 zc36 zc37 zc38 zc39 : Nat × va_E) (hf : pX9_windowCount u_now_first_numbers u_now_second_numbers p1 p2 p3 p4 p5 p6 = some (.inl 3)) (hm : pX10_windowCount v_refusal v_now p1 p2 p3 p4 p5 p6 = some (rb, 1)) (hW : kH D A s H locs [(q, .inr (8, [.ref q_now, .ref q_trial, .ref q_past, .ref q_text, .ref q_reader, .ref q_slot0, .ref q_slot1, .ref q_greatestPath, .ref q_fillingsOfShape])), (q_now, .inr (2, [.ref q_now_first, .ref q_now_second])), (q_now_first, .inr (6, [.ref q_now_first_numbers])), (q_now_first_numbers, .inl (cI, 36, .inl u_now_first_numbers)), (q_now_second, .inr (6, [.ref q_now_second_numbers])), (q_now_second_numbers, .inl (cI, 36, .inl u_now_second_numbers)), (mq, .inr (9, [.int v_refusal, .ref mq_script, .int v_scriptSize, .int v_spot, .ref mq_readRow, .ref mq_now, .ref mq_trial, .ref mq_diary, .int v_acts, .ref mq_kept, .ref mq_isKept, .int v_slides, .ref mq_sums, .ref mq_primes, .ref mq_turned])), (mq_now, .inl (cI, 84, .inl v_now)), (qo, .inl (cJ, 1, .inr (.inl fo))), zc0, zc1, zc2, zc3, zc4, zc5, zc6, zc7, zc8, zc9, zc10, zc11, zc12, zc13, zc14, zc15, zc16, zc17, zc18, zc19, zc20, zc21, zc22, zc23, zc24, zc25, zc26, zc27, zc28, zc29, zc30, zc31, zc32, zc33, zc34, zc35, zc36, zc37, zc38, zc39]) (hl : lv_has ls 8 [(0, .ref b), (1, .ref q), (2, .ref mq), (3, .ref qo), (4, .int x4)])
    (kk : ∀ (H1 : Heap) (locs1 : List Loc) (ls1 : Array Slot), kH D A s H1 locs1 [(q, .inr (8, [.ref q_now, .ref q_trial, .ref q_past, .ref q_text, .ref q_reader, .ref q_slot0, .ref q_slot1, .ref q_greatestPath, .ref q_fillingsOfShape])), (q_now, .inr (2, [.ref q_now_first, .ref q_now_second])), (q_now_first, .inr (6, [.ref q_now_first_numbers])), (q_now_first_numbers, .inl (cI, 36, .inl u_now_first_numbers)), (q_now_second, .inr (6, [.ref q_now_second_numbers])), (q_now_second_numbers, .inl (cI, 36, .inl u_now_second_numbers)), (mq, .inr (9, [.int 1, .ref mq_script, .int v_scriptSize, .int v_spot, .ref mq_readRow, .ref mq_now, .ref mq_trial, .ref mq_diary, .int v_acts, .ref mq_kept, .ref mq_isKept, .int v_slides, .ref mq_sums, .ref mq_primes, .ref mq_turned])), (mq_now, .inl (cI, 84, .inl v_now)), (qo, .inl (cJ, 1, .inr (.inl fo))), zc0, zc1, zc2, zc3, zc4, zc5, zc6, zc7, zc8, zc9, zc10, zc11, zc12, zc13, zc14, zc15, zc16, zc17, zc18, zc19, zc20, zc21, zc22, zc23, zc24, zc25, zc26, zc27, zc28, zc29, zc30, zc31, zc32, zc33, zc34, zc35, zc36, zc37, zc38, zc39] → lv_has ls1 8 [(0, .ref b), (1, .ref q), (2, .ref mq), (3, .ref qo), (4, .int x4)] → W p l e room_1 s m #[Value.ref b] below meth c H1 locs1 (cells + 1) (slots + 6) Q (F0 m 2534 ls1 [])) : W p l e room_1 s m #[Value.ref b] below meth c H locs cells slots Q (F0 m 1315 ls []) := by
  have hx := C.1
  have hb := C.2.1
  refine lv_aload_n hx hb dL_law_1315 rfl (lv_at hl 1 rfl) ?_
  refine lv_aload_n hx hb dL_law_1316 rfl (lv_at hl 0 rfl) ?_
  refine lv_iload hx hb dL_law_1317 (lv_at hl 4 rfl) ?_
  refine lv_iconst (v := 1) hx hb dL_law_1319 (by decide) ?_
  refine lv_iadd hx hb dL_law_1320 ?_
  refine va_sld hx hb hX hbl hbA hW.2.2 hv1 dL_law_1321 ?_
  rw [hp1]
  refine lv_aload_n hx hb dL_law_1322 rfl (lv_at hl 0 rfl) ?_
  refine lv_iload hx hb dL_law_1323 (lv_at hl 4 rfl) ?_
  refine lv_iconst (v := 2) hx hb dL_law_1325 (by decide) ?_
  refine lv_iadd hx hb dL_law_1326 ?_
  refine va_sld hx hb hX hbl hbA hW.2.2 hv2 dL_law_1327 ?_
  rw [hp2]
  refine lv_aload_n hx hb dL_law_1328 rfl (lv_at hl 0 rfl) ?_
  refine lv_iload hx hb dL_law_1329 (lv_at hl 4 rfl) ?_
  refine lv_iconst (v := 3) hx hb dL_law_1331 (by decide) ?_
  refine lv_iadd hx hb dL_law_1332 ?_
  refine va_sld hx hb hX hbl hbA hW.2.2 hv3 dL_law_1333 ?_
  rw [hp3]
  refine lv_aload_n hx hb dL_law_1334 rfl (lv_at hl 0 rfl) ?_
  refine lv_iload hx hb dL_law_1335 (lv_at hl 4 rfl) ?_
  refine lv_iconst (v := 4) hx hb dL_law_1337 (by decide) ?_
  refine lv_iadd hx hb dL_law_1338 ?_
  refine va_sld hx hb hX hbl hbA hW.2.2 hv4 dL_law_1339 ?_
  rw [hp4]
  refine lv_aload_n hx hb dL_law_1340 rfl (lv_at hl 0 rfl) ?_
  refine lv_iload hx hb dL_law_1341 (lv_at hl 4 rfl) ?_
  refine lv_iconst (v := 5) hx hb dL_law_1343 (by decide) ?_
  refine lv_iadd hx hb dL_law_1344 ?_
  refine va_sld hx hb hX hbl hbA hW.2.2 hv5 dL_law_1345 ?_
  rw [hp5]
  refine lv_aload_n hx hb dL_law_1346 rfl (lv_at hl 0 rfl) ?_
  refine lv_iload hx hb dL_law_1347 (lv_at hl 4 rfl) ?_
  refine lv_bipush (v := 6) hx hb dL_law_1349 (by decide) ?_
  refine lv_iadd hx hb dL_law_1351 ?_
  refine va_sld hx hb hX hbl hbA hW.2.2 hv6 dL_law_1352 ?_
  rw [hp6]
  refine lv_aload_n hx hb dL_law_1353 rfl (lv_at hl 3 rfl) ?_
  refine k_callSW (As := [.ref q, .int p1, .int p2, .int p3, .int p4, .int p5, .int p6, .ref qo]) (n := 8) (rest := []) (st1 := [.int 1]) (wr := [(mq, .inr (9, [.int v_refusal, .ref mq_script, .int v_scriptSize, .int v_spot, .ref mq_readRow, .ref mq_now, .ref mq_trial, .ref mq_diary, .int v_acts, .ref mq_kept, .ref mq_isKept, .int v_slides, .ref mq_sums, .ref mq_primes, .ref mq_turned])), (mq_now, .inl (cI, 84, .inl v_now)), zc0, zc1, zc2, zc3, zc4, zc5, zc6, zc7, zc8, zc9, zc10, zc11, zc12, zc13, zc14, zc15, zc16, zc17, zc18, zc19, zc20, zc21, zc22, zc23, zc24, zc25, zc26, zc27, zc28, zc29, zc30, zc31, zc32, zc33, zc34, zc35, zc36, zc37, zc38, zc39]) (ws' := [(q, .inr (8, [.ref q_now, .ref q_trial, .ref q_past, .ref q_text, .ref q_reader, .ref q_slot0, .ref q_slot1, .ref q_greatestPath, .ref q_fillingsOfShape])), (q_now, .inr (2, [.ref q_now_first, .ref q_now_second])), (q_now_first, .inr (6, [.ref q_now_first_numbers])), (q_now_first_numbers, .inl (cI, 36, .inl u_now_first_numbers)), (q_now_second, .inr (6, [.ref q_now_second_numbers])), (q_now_second_numbers, .inl (cI, 36, .inl u_now_second_numbers)), (mq, .inr (9, [.int v_refusal, .ref mq_script, .int v_scriptSize, .int v_spot, .ref mq_readRow, .ref mq_now, .ref mq_trial, .ref mq_diary, .int v_acts, .ref mq_kept, .ref mq_isKept, .int v_slides, .ref mq_sums, .ref mq_primes, .ref mq_turned])), (mq_now, .inl (cI, 84, .inl v_now)), (qo, .inl (cJ, 1, .inr (.inl fo))), zc0, zc1, zc2, zc3, zc4, zc5, zc6, zc7, zc8, zc9, zc10, zc11, zc12, zc13, zc14, zc15, zc16, zc17, zc18, zc19, zc20, zc21, zc22, zc23, zc24, zc25, zc26, zc27, zc28, zc29, zc30, zc31, zc32, zc33, zc34, zc35, zc36, zc37, zc38, zc39]) C hE hW hl.1 (kL_windowCount_t3 l hlt D cI cZ cJ _ q q_now q_now_first q_now_first_numbers q_now_second q_now_second_numbers q_trial q_past q_text q_reader q_slot0 q_slot1 q_greatestPath q_fillingsOfShape qo u_now_first_numbers u_now_second_numbers fo p1 p2 p3 p4 p5 p6 hf) gL_law_L_windowCount rfl (by decide +kernel) rfl ⟨(Nat.le_of_ble_eq_true rfl), (Nat.le_of_ble_eq_true rfl)⟩ ⟨by omega, by omega⟩ [0, 1, 2, 3, 4, 5, 8] [6, 7, 9, 10, 11, 12, 13, 14, 15, 16, 17, 18, 19, 20, 21, 22, 23, 24, 25, 26, 27, 28, 29, 30, 31, 32, 33, 34, 35, 36, 37, 38, 39, 40, 41, 42, 43, 44, 45, 46, 47, 48] [42, 43, 44, 45, 46, 47, 0, 1, 48, 2, 3, 4, 5, 6, 7, 8, 9, 10, 11, 12, 13, 14, 15, 16, 17, 18, 19, 20, 21, 22, 23, 24, 25, 26, 27, 28, 29, 30, 31, 32, 33, 34, 35, 36, 37, 38, 39, 40, 41] rfl rfl rfl rfl (by decide) rfl rfl (Nat.le_of_ble_eq_true rfl) rfl rfl dL_law_1354 (fun H locs hW => ?_)
  refine lv_istore (lv' := [(5, .int 1), (0, .ref b), (1, .ref q), (2, .ref mq), (3, .ref qo), (4, .int x4)]) hx hb dL_law_1357 hl (by decide) rfl (fun ls hl => ?_)
  refine lv_aload_n hx hb dL_law_1359 rfl (lv_at hl 3 rfl) ?_
  refine lv_aload_n hx hb dL_law_1360 rfl (lv_at hl 1 rfl) ?_
  refine lv_iload hx hb dL_law_1361 (lv_at hl 5 rfl) ?_
  refine lv_iconst (v := 1) hx hb dL_law_1363 (by decide) ?_
  refine lv_iadd hx hb dL_law_1364 ?_
  refine va_sld hx hb hX hbl hbA hW.2.2 hv1 dL_law_1365 ?_
  rw [hp1]
  refine lv_aload_n hx hb dL_law_1366 rfl (lv_at hl 1 rfl) ?_
  refine lv_iload hx hb dL_law_1367 (lv_at hl 5 rfl) ?_
  refine lv_iconst (v := 2) hx hb dL_law_1369 (by decide) ?_
  refine lv_iadd hx hb dL_law_1370 ?_
  refine va_sld hx hb hX hbl hbA hW.2.2 hv2 dL_law_1371 ?_
  rw [hp2]
  refine lv_aload_n hx hb dL_law_1372 rfl (lv_at hl 1 rfl) ?_
  refine lv_iload hx hb dL_law_1373 (lv_at hl 5 rfl) ?_
  refine lv_iconst (v := 3) hx hb dL_law_1375 (by decide) ?_
  refine lv_iadd hx hb dL_law_1376 ?_
  refine va_sld hx hb hX hbl hbA hW.2.2 hv3 dL_law_1377 ?_
  rw [hp3]
  refine lv_aload_n hx hb dL_law_1378 rfl (lv_at hl 1 rfl) ?_
  refine lv_iload hx hb dL_law_1379 (lv_at hl 5 rfl) ?_
  refine lv_iconst (v := 4) hx hb dL_law_1381 (by decide) ?_
  refine lv_iadd hx hb dL_law_1382 ?_
  refine va_sld hx hb hX hbl hbA hW.2.2 hv4 dL_law_1383 ?_
  rw [hp4]
  refine lv_aload_n hx hb dL_law_1384 rfl (lv_at hl 1 rfl) ?_
  refine lv_iload hx hb dL_law_1385 (lv_at hl 5 rfl) ?_
  refine lv_iconst (v := 5) hx hb dL_law_1387 (by decide) ?_
  refine lv_iadd hx hb dL_law_1388 ?_
  refine va_sld hx hb hX hbl hbA hW.2.2 hv5 dL_law_1389 ?_
  rw [hp5]
  refine lv_aload_n hx hb dL_law_1390 rfl (lv_at hl 1 rfl) ?_
  refine lv_iload hx hb dL_law_1391 (lv_at hl 5 rfl) ?_
  refine lv_bipush (v := 6) hx hb dL_law_1393 (by decide) ?_
  refine lv_iadd hx hb dL_law_1395 ?_
  refine va_sld hx hb hX hbl hbA hW.2.2 hv6 dL_law_1396 ?_
  rw [hp6]
  refine k_callV (b := mq) (ci := 9) (qb := 0) (As := [.int p1, .int p2, .int p3, .int p4, .int p5, .int p6]) (n := 6) (rest := []) (st1 := [.int rb]) (wr := [(q, .inr (8, [.ref q_now, .ref q_trial, .ref q_past, .ref q_text, .ref q_reader, .ref q_slot0, .ref q_slot1, .ref q_greatestPath, .ref q_fillingsOfShape])), (q_now, .inr (2, [.ref q_now_first, .ref q_now_second])), (q_now_first, .inr (6, [.ref q_now_first_numbers])), (q_now_first_numbers, .inl (cI, 36, .inl u_now_first_numbers)), (q_now_second, .inr (6, [.ref q_now_second_numbers])), (q_now_second_numbers, .inl (cI, 36, .inl u_now_second_numbers)), (qo, .inl (cJ, 1, .inr (.inl fo))), zc0, zc1, zc2, zc3, zc4, zc5, zc6, zc7, zc8, zc9, zc10, zc11, zc12, zc13, zc14, zc15, zc16, zc17, zc18, zc19, zc20, zc21, zc22, zc23, zc24, zc25, zc26, zc27, zc28, zc29, zc30, zc31, zc32, zc33, zc34, zc35, zc36, zc37, zc38, zc39]) (ws' := [(q, .inr (8, [.ref q_now, .ref q_trial, .ref q_past, .ref q_text, .ref q_reader, .ref q_slot0, .ref q_slot1, .ref q_greatestPath, .ref q_fillingsOfShape])), (q_now, .inr (2, [.ref q_now_first, .ref q_now_second])), (q_now_first, .inr (6, [.ref q_now_first_numbers])), (q_now_first_numbers, .inl (cI, 36, .inl u_now_first_numbers)), (q_now_second, .inr (6, [.ref q_now_second_numbers])), (q_now_second_numbers, .inl (cI, 36, .inl u_now_second_numbers)), (mq, .inr (9, [.int 1, .ref mq_script, .int v_scriptSize, .int v_spot, .ref mq_readRow, .ref mq_now, .ref mq_trial, .ref mq_diary, .int v_acts, .ref mq_kept, .ref mq_isKept, .int v_slides, .ref mq_sums, .ref mq_primes, .ref mq_turned])), (mq_now, .inl (cI, 84, .inl v_now)), (qo, .inl (cJ, 1, .inr (.inl fo))), zc0, zc1, zc2, zc3, zc4, zc5, zc6, zc7, zc8, zc9, zc10, zc11, zc12, zc13, zc14, zc15, zc16, zc17, zc18, zc19, zc20, zc21, zc22, zc23, zc24, zc25, zc26, zc27, zc28, zc29, zc30, zc31, zc32, zc33, zc34, zc35, zc36, zc37, zc38, zc39]) C hE hW hl.1 (kX10_windowCount l D cI cZ cJ _ mq mq_now mq_script mq_readRow mq_trial mq_diary mq_kept mq_isKept mq_sums mq_primes mq_turned v_refusal v_scriptSize v_spot v_acts v_slides v_now p1 p2 p3 p4 p5 p6 rb 1 hm) gL_law_X10_windowCount rfl (by decide +kernel) rfl ⟨(Nat.le_of_ble_eq_true rfl), (Nat.le_of_ble_eq_true rfl)⟩ ⟨by omega, by omega⟩ rfl rfl [6, 7] [0, 1, 2, 3, 4, 5, 8, 9, 10, 11, 12, 13, 14, 15, 16, 17, 18, 19, 20, 21, 22, 23, 24, 25, 26, 27, 28, 29, 30, 31, 32, 33, 34, 35, 36, 37, 38, 39, 40, 41, 42, 43, 44, 45, 46, 47, 48] [0, 1, 2, 3, 4, 5, 47, 48, 6, 7, 8, 9, 10, 11, 12, 13, 14, 15, 16, 17, 18, 19, 20, 21, 22, 23, 24, 25, 26, 27, 28, 29, 30, 31, 32, 33, 34, 35, 36, 37, 38, 39, 40, 41, 42, 43, 44, 45, 46] rfl rfl rfl rfl (by decide) rfl rfl (Nat.le_of_ble_eq_true rfl) rfl rfl dL_law_1397 (fun H locs hW => ?_)
  refine lv_istore (lv' := [(6, .int rb), (5, .int 1), (0, .ref b), (1, .ref q), (2, .ref mq), (3, .ref qo), (4, .int x4)]) hx hb dL_law_1400 hl (by decide) rfl (fun ls hl => ?_)
  refine lv_aload_n hx hb dL_law_1402 rfl (lv_at hl 4 rfl) ?_
  refine k_callVR (b := mq) (ci := 9) (qb := 0) (As := []) (n := 0) (rest := []) (st1 := [.int 1]) C hE hW hl.1 (kX10_thrown l D cI cZ cJ _ mq mq_script mq_readRow mq_now mq_trial mq_diary mq_kept mq_isKept mq_sums mq_primes mq_turned 1 v_scriptSize v_spot v_acts v_slides 1 rfl) gL_law_X10_thrown rfl (by decide +kernel) rfl ⟨(Nat.le_of_ble_eq_true rfl), (Nat.le_of_ble_eq_true rfl)⟩ ⟨by omega, by omega⟩ rfl rfl [6] rfl rfl (Nat.le_of_ble_eq_true rfl) rfl rfl dL_law_1403 (fun H locs hW => ?_)
  refine lv_iload hx hb dL_law_1406 (lv_at hl 1 rfl) ?_
  refine lv_icmp_eq (tgt := 1413) hx hb dL_law_1408 (by decide) (fun _ => ?_) (fun hc => absurd rfl hc)
  refine lv_iload hx hb dL_law_1413 (lv_at hl 1 rfl) ?_
  refine lv_if_ne (tgt := 1430) hx hb dL_law_1415 (by decide) (fun _ => ?_) (fun hc => absurd hc (by decide))
  refine lv_goto (tgt := 2534) hx hb dL_law_1430 (by decide) ?_
  exact kk _ _ _ hW (lv_sub hl [2, 3, 4, 5, 6] rfl)
set_option maxHeartbeats 4000000 in
set_option maxRecDepth 100000 in
theorem lc_windowCount_t1 (hlt : l.stackTraces = false) (C : CallFix p m c cL_law 8 s #[Value.ref b] wsL_law RL) (hE : kEn D cI cZ cJ A s) (hX : va_X b L xs s s.heap) (hbl : b < s.heap.size) (hbA : ¬ A b) (x4 : Int32) (p1 : Int32) (hv1 : vp_in (x4 + 1) L) (hp1 : xs (x4 + 1).toNatClampNeg = p1) (p2 : Int32) (hv2 : vp_in (x4 + 2) L) (hp2 : xs (x4 + 2).toNatClampNeg = p2) (p3 : Int32) (hv3 : vp_in (x4 + 3) L) (hp3 : xs (x4 + 3).toNatClampNeg = p3) (p4 : Int32) (hv4 : vp_in (x4 + 4) L) (hp4 : xs (x4 + 4).toNatClampNeg = p4) (p5 : Int32) (hv5 : vp_in (x4 + 5) L) (hp5 : xs (x4 + 5).toNatClampNeg = p5) (p6 : Int32) (hv6 : vp_in (x4 + 6) L) (hp6 : xs (x4 + 6).toNatClampNeg = p6) (hcs : cells + 1 ≤ room_1.cells ∧ slots + 6 ≤ room_1.slots) (q q_now q_now_first q_now_first_numbers q_now_second q_now_second_numbers q_trial q_past q_text q_reader q_slot0 q_slot1 q_greatestPath q_fillingsOfShape mq mq_now mq_script mq_readRow mq_trial mq_diary mq_kept mq_isKept mq_sums mq_primes mq_turned qo : Nat) (u_now_first_numbers : Nat → Int32) (u_now_second_numbers : Nat → Int32) (v_refusal : Int32) (v_scriptSize : Int32) (v_spot : Int32) (v_acts : Int32) (v_slides : Int32) (v_now : Nat → Int32) (fo : Nat → Int64) (rb : Int32) (zc0 zc1 zc2 zc3 zc4 zc5 zc6 zc7 zc8 zc9 zc10 zc11 zc12 zc13 zc14 zc15 zc16 zc17 zc18 zc19 zc20 zc21 zc22 zc23 zc24 zc25 zc26 zc27 zc28 zc29 zc30 zc31 zc32 zc33 zc34 zc35 zc36 zc37 zc38 zc39 : Nat × va_E) (hf : pX9_windowCount u_now_first_numbers u_now_second_numbers p1 p2 p3 p4 p5 p6 = some (.inl 1)) (hm : pX10_windowCount v_refusal v_now p1 p2 p3 p4 p5 p6 = some (rb, 2)) (hW : kH D A s H locs [(q, .inr (8, [.ref q_now, .ref q_trial, .ref q_past, .ref q_text, .ref q_reader, .ref q_slot0, .ref q_slot1, .ref q_greatestPath, .ref q_fillingsOfShape])), (q_now, .inr (2, [.ref q_now_first, .ref q_now_second])), (q_now_first, .inr (6, [.ref q_now_first_numbers])), (q_now_first_numbers, .inl (cI, 36, .inl u_now_first_numbers)), (q_now_second, .inr (6, [.ref q_now_second_numbers])), (q_now_second_numbers, .inl (cI, 36, .inl u_now_second_numbers)), (mq, .inr (9, [.int v_refusal, .ref mq_script, .int v_scriptSize, .int v_spot, .ref mq_readRow, .ref mq_now, .ref mq_trial, .ref mq_diary, .int v_acts, .ref mq_kept, .ref mq_isKept, .int v_slides, .ref mq_sums, .ref mq_primes, .ref mq_turned])), (mq_now, .inl (cI, 84, .inl v_now)), (qo, .inl (cJ, 1, .inr (.inl fo))), zc0, zc1, zc2, zc3, zc4, zc5, zc6, zc7, zc8, zc9, zc10, zc11, zc12, zc13, zc14, zc15, zc16, zc17, zc18, zc19, zc20, zc21, zc22, zc23, zc24, zc25, zc26, zc27, zc28, zc29, zc30, zc31, zc32, zc33, zc34, zc35, zc36, zc37, zc38, zc39]) (hl : lv_has ls 8 [(0, .ref b), (1, .ref q), (2, .ref mq), (3, .ref qo), (4, .int x4)])
    (kk : ∀ (H1 : Heap) (locs1 : List Loc) (ls1 : Array Slot), kH D A s H1 locs1 [(q, .inr (8, [.ref q_now, .ref q_trial, .ref q_past, .ref q_text, .ref q_reader, .ref q_slot0, .ref q_slot1, .ref q_greatestPath, .ref q_fillingsOfShape])), (q_now, .inr (2, [.ref q_now_first, .ref q_now_second])), (q_now_first, .inr (6, [.ref q_now_first_numbers])), (q_now_first_numbers, .inl (cI, 36, .inl u_now_first_numbers)), (q_now_second, .inr (6, [.ref q_now_second_numbers])), (q_now_second_numbers, .inl (cI, 36, .inl u_now_second_numbers)), (mq, .inr (9, [.int 2, .ref mq_script, .int v_scriptSize, .int v_spot, .ref mq_readRow, .ref mq_now, .ref mq_trial, .ref mq_diary, .int v_acts, .ref mq_kept, .ref mq_isKept, .int v_slides, .ref mq_sums, .ref mq_primes, .ref mq_turned])), (mq_now, .inl (cI, 84, .inl v_now)), (qo, .inl (cJ, 1, .inr (.inl fo))), zc0, zc1, zc2, zc3, zc4, zc5, zc6, zc7, zc8, zc9, zc10, zc11, zc12, zc13, zc14, zc15, zc16, zc17, zc18, zc19, zc20, zc21, zc22, zc23, zc24, zc25, zc26, zc27, zc28, zc29, zc30, zc31, zc32, zc33, zc34, zc35, zc36, zc37, zc38, zc39] → lv_has ls1 8 [(0, .ref b), (1, .ref q), (2, .ref mq), (3, .ref qo), (4, .int x4)] → W p l e room_1 s m #[Value.ref b] below meth c H1 locs1 (cells + 1) (slots + 6) Q (F0 m 2534 ls1 [])) : W p l e room_1 s m #[Value.ref b] below meth c H locs cells slots Q (F0 m 1315 ls []) := by
  have hx := C.1
  have hb := C.2.1
  refine lv_aload_n hx hb dL_law_1315 rfl (lv_at hl 1 rfl) ?_
  refine lv_aload_n hx hb dL_law_1316 rfl (lv_at hl 0 rfl) ?_
  refine lv_iload hx hb dL_law_1317 (lv_at hl 4 rfl) ?_
  refine lv_iconst (v := 1) hx hb dL_law_1319 (by decide) ?_
  refine lv_iadd hx hb dL_law_1320 ?_
  refine va_sld hx hb hX hbl hbA hW.2.2 hv1 dL_law_1321 ?_
  rw [hp1]
  refine lv_aload_n hx hb dL_law_1322 rfl (lv_at hl 0 rfl) ?_
  refine lv_iload hx hb dL_law_1323 (lv_at hl 4 rfl) ?_
  refine lv_iconst (v := 2) hx hb dL_law_1325 (by decide) ?_
  refine lv_iadd hx hb dL_law_1326 ?_
  refine va_sld hx hb hX hbl hbA hW.2.2 hv2 dL_law_1327 ?_
  rw [hp2]
  refine lv_aload_n hx hb dL_law_1328 rfl (lv_at hl 0 rfl) ?_
  refine lv_iload hx hb dL_law_1329 (lv_at hl 4 rfl) ?_
  refine lv_iconst (v := 3) hx hb dL_law_1331 (by decide) ?_
  refine lv_iadd hx hb dL_law_1332 ?_
  refine va_sld hx hb hX hbl hbA hW.2.2 hv3 dL_law_1333 ?_
  rw [hp3]
  refine lv_aload_n hx hb dL_law_1334 rfl (lv_at hl 0 rfl) ?_
  refine lv_iload hx hb dL_law_1335 (lv_at hl 4 rfl) ?_
  refine lv_iconst (v := 4) hx hb dL_law_1337 (by decide) ?_
  refine lv_iadd hx hb dL_law_1338 ?_
  refine va_sld hx hb hX hbl hbA hW.2.2 hv4 dL_law_1339 ?_
  rw [hp4]
  refine lv_aload_n hx hb dL_law_1340 rfl (lv_at hl 0 rfl) ?_
  refine lv_iload hx hb dL_law_1341 (lv_at hl 4 rfl) ?_
  refine lv_iconst (v := 5) hx hb dL_law_1343 (by decide) ?_
  refine lv_iadd hx hb dL_law_1344 ?_
  refine va_sld hx hb hX hbl hbA hW.2.2 hv5 dL_law_1345 ?_
  rw [hp5]
  refine lv_aload_n hx hb dL_law_1346 rfl (lv_at hl 0 rfl) ?_
  refine lv_iload hx hb dL_law_1347 (lv_at hl 4 rfl) ?_
  refine lv_bipush (v := 6) hx hb dL_law_1349 (by decide) ?_
  refine lv_iadd hx hb dL_law_1351 ?_
  refine va_sld hx hb hX hbl hbA hW.2.2 hv6 dL_law_1352 ?_
  rw [hp6]
  refine lv_aload_n hx hb dL_law_1353 rfl (lv_at hl 3 rfl) ?_
  refine k_callSW (As := [.ref q, .int p1, .int p2, .int p3, .int p4, .int p5, .int p6, .ref qo]) (n := 8) (rest := []) (st1 := [.int 2]) (wr := [(mq, .inr (9, [.int v_refusal, .ref mq_script, .int v_scriptSize, .int v_spot, .ref mq_readRow, .ref mq_now, .ref mq_trial, .ref mq_diary, .int v_acts, .ref mq_kept, .ref mq_isKept, .int v_slides, .ref mq_sums, .ref mq_primes, .ref mq_turned])), (mq_now, .inl (cI, 84, .inl v_now)), zc0, zc1, zc2, zc3, zc4, zc5, zc6, zc7, zc8, zc9, zc10, zc11, zc12, zc13, zc14, zc15, zc16, zc17, zc18, zc19, zc20, zc21, zc22, zc23, zc24, zc25, zc26, zc27, zc28, zc29, zc30, zc31, zc32, zc33, zc34, zc35, zc36, zc37, zc38, zc39]) (ws' := [(q, .inr (8, [.ref q_now, .ref q_trial, .ref q_past, .ref q_text, .ref q_reader, .ref q_slot0, .ref q_slot1, .ref q_greatestPath, .ref q_fillingsOfShape])), (q_now, .inr (2, [.ref q_now_first, .ref q_now_second])), (q_now_first, .inr (6, [.ref q_now_first_numbers])), (q_now_first_numbers, .inl (cI, 36, .inl u_now_first_numbers)), (q_now_second, .inr (6, [.ref q_now_second_numbers])), (q_now_second_numbers, .inl (cI, 36, .inl u_now_second_numbers)), (mq, .inr (9, [.int v_refusal, .ref mq_script, .int v_scriptSize, .int v_spot, .ref mq_readRow, .ref mq_now, .ref mq_trial, .ref mq_diary, .int v_acts, .ref mq_kept, .ref mq_isKept, .int v_slides, .ref mq_sums, .ref mq_primes, .ref mq_turned])), (mq_now, .inl (cI, 84, .inl v_now)), (qo, .inl (cJ, 1, .inr (.inl fo))), zc0, zc1, zc2, zc3, zc4, zc5, zc6, zc7, zc8, zc9, zc10, zc11, zc12, zc13, zc14, zc15, zc16, zc17, zc18, zc19, zc20, zc21, zc22, zc23, zc24, zc25, zc26, zc27, zc28, zc29, zc30, zc31, zc32, zc33, zc34, zc35, zc36, zc37, zc38, zc39]) C hE hW hl.1 (kL_windowCount_t1 l hlt D cI cZ cJ _ q q_now q_now_first q_now_first_numbers q_now_second q_now_second_numbers q_trial q_past q_text q_reader q_slot0 q_slot1 q_greatestPath q_fillingsOfShape qo u_now_first_numbers u_now_second_numbers fo p1 p2 p3 p4 p5 p6 hf) gL_law_L_windowCount rfl (by decide +kernel) rfl ⟨(Nat.le_of_ble_eq_true rfl), (Nat.le_of_ble_eq_true rfl)⟩ ⟨by omega, by omega⟩ [0, 1, 2, 3, 4, 5, 8] [6, 7, 9, 10, 11, 12, 13, 14, 15, 16, 17, 18, 19, 20, 21, 22, 23, 24, 25, 26, 27, 28, 29, 30, 31, 32, 33, 34, 35, 36, 37, 38, 39, 40, 41, 42, 43, 44, 45, 46, 47, 48] [42, 43, 44, 45, 46, 47, 0, 1, 48, 2, 3, 4, 5, 6, 7, 8, 9, 10, 11, 12, 13, 14, 15, 16, 17, 18, 19, 20, 21, 22, 23, 24, 25, 26, 27, 28, 29, 30, 31, 32, 33, 34, 35, 36, 37, 38, 39, 40, 41] rfl rfl rfl rfl (by decide) rfl rfl (Nat.le_of_ble_eq_true rfl) rfl rfl dL_law_1354 (fun H locs hW => ?_)
  refine lv_istore (lv' := [(5, .int 2), (0, .ref b), (1, .ref q), (2, .ref mq), (3, .ref qo), (4, .int x4)]) hx hb dL_law_1357 hl (by decide) rfl (fun ls hl => ?_)
  refine lv_aload_n hx hb dL_law_1359 rfl (lv_at hl 3 rfl) ?_
  refine lv_aload_n hx hb dL_law_1360 rfl (lv_at hl 1 rfl) ?_
  refine lv_iload hx hb dL_law_1361 (lv_at hl 5 rfl) ?_
  refine lv_iconst (v := 1) hx hb dL_law_1363 (by decide) ?_
  refine lv_iadd hx hb dL_law_1364 ?_
  refine va_sld hx hb hX hbl hbA hW.2.2 hv1 dL_law_1365 ?_
  rw [hp1]
  refine lv_aload_n hx hb dL_law_1366 rfl (lv_at hl 1 rfl) ?_
  refine lv_iload hx hb dL_law_1367 (lv_at hl 5 rfl) ?_
  refine lv_iconst (v := 2) hx hb dL_law_1369 (by decide) ?_
  refine lv_iadd hx hb dL_law_1370 ?_
  refine va_sld hx hb hX hbl hbA hW.2.2 hv2 dL_law_1371 ?_
  rw [hp2]
  refine lv_aload_n hx hb dL_law_1372 rfl (lv_at hl 1 rfl) ?_
  refine lv_iload hx hb dL_law_1373 (lv_at hl 5 rfl) ?_
  refine lv_iconst (v := 3) hx hb dL_law_1375 (by decide) ?_
  refine lv_iadd hx hb dL_law_1376 ?_
  refine va_sld hx hb hX hbl hbA hW.2.2 hv3 dL_law_1377 ?_
  rw [hp3]
  refine lv_aload_n hx hb dL_law_1378 rfl (lv_at hl 1 rfl) ?_
  refine lv_iload hx hb dL_law_1379 (lv_at hl 5 rfl) ?_
  refine lv_iconst (v := 4) hx hb dL_law_1381 (by decide) ?_
  refine lv_iadd hx hb dL_law_1382 ?_
  refine va_sld hx hb hX hbl hbA hW.2.2 hv4 dL_law_1383 ?_
  rw [hp4]
  refine lv_aload_n hx hb dL_law_1384 rfl (lv_at hl 1 rfl) ?_
  refine lv_iload hx hb dL_law_1385 (lv_at hl 5 rfl) ?_
  refine lv_iconst (v := 5) hx hb dL_law_1387 (by decide) ?_
  refine lv_iadd hx hb dL_law_1388 ?_
  refine va_sld hx hb hX hbl hbA hW.2.2 hv5 dL_law_1389 ?_
  rw [hp5]
  refine lv_aload_n hx hb dL_law_1390 rfl (lv_at hl 1 rfl) ?_
  refine lv_iload hx hb dL_law_1391 (lv_at hl 5 rfl) ?_
  refine lv_bipush (v := 6) hx hb dL_law_1393 (by decide) ?_
  refine lv_iadd hx hb dL_law_1395 ?_
  refine va_sld hx hb hX hbl hbA hW.2.2 hv6 dL_law_1396 ?_
  rw [hp6]
  refine k_callV (b := mq) (ci := 9) (qb := 0) (As := [.int p1, .int p2, .int p3, .int p4, .int p5, .int p6]) (n := 6) (rest := []) (st1 := [.int rb]) (wr := [(q, .inr (8, [.ref q_now, .ref q_trial, .ref q_past, .ref q_text, .ref q_reader, .ref q_slot0, .ref q_slot1, .ref q_greatestPath, .ref q_fillingsOfShape])), (q_now, .inr (2, [.ref q_now_first, .ref q_now_second])), (q_now_first, .inr (6, [.ref q_now_first_numbers])), (q_now_first_numbers, .inl (cI, 36, .inl u_now_first_numbers)), (q_now_second, .inr (6, [.ref q_now_second_numbers])), (q_now_second_numbers, .inl (cI, 36, .inl u_now_second_numbers)), (qo, .inl (cJ, 1, .inr (.inl fo))), zc0, zc1, zc2, zc3, zc4, zc5, zc6, zc7, zc8, zc9, zc10, zc11, zc12, zc13, zc14, zc15, zc16, zc17, zc18, zc19, zc20, zc21, zc22, zc23, zc24, zc25, zc26, zc27, zc28, zc29, zc30, zc31, zc32, zc33, zc34, zc35, zc36, zc37, zc38, zc39]) (ws' := [(q, .inr (8, [.ref q_now, .ref q_trial, .ref q_past, .ref q_text, .ref q_reader, .ref q_slot0, .ref q_slot1, .ref q_greatestPath, .ref q_fillingsOfShape])), (q_now, .inr (2, [.ref q_now_first, .ref q_now_second])), (q_now_first, .inr (6, [.ref q_now_first_numbers])), (q_now_first_numbers, .inl (cI, 36, .inl u_now_first_numbers)), (q_now_second, .inr (6, [.ref q_now_second_numbers])), (q_now_second_numbers, .inl (cI, 36, .inl u_now_second_numbers)), (mq, .inr (9, [.int 2, .ref mq_script, .int v_scriptSize, .int v_spot, .ref mq_readRow, .ref mq_now, .ref mq_trial, .ref mq_diary, .int v_acts, .ref mq_kept, .ref mq_isKept, .int v_slides, .ref mq_sums, .ref mq_primes, .ref mq_turned])), (mq_now, .inl (cI, 84, .inl v_now)), (qo, .inl (cJ, 1, .inr (.inl fo))), zc0, zc1, zc2, zc3, zc4, zc5, zc6, zc7, zc8, zc9, zc10, zc11, zc12, zc13, zc14, zc15, zc16, zc17, zc18, zc19, zc20, zc21, zc22, zc23, zc24, zc25, zc26, zc27, zc28, zc29, zc30, zc31, zc32, zc33, zc34, zc35, zc36, zc37, zc38, zc39]) C hE hW hl.1 (kX10_windowCount l D cI cZ cJ _ mq mq_now mq_script mq_readRow mq_trial mq_diary mq_kept mq_isKept mq_sums mq_primes mq_turned v_refusal v_scriptSize v_spot v_acts v_slides v_now p1 p2 p3 p4 p5 p6 rb 2 hm) gL_law_X10_windowCount rfl (by decide +kernel) rfl ⟨(Nat.le_of_ble_eq_true rfl), (Nat.le_of_ble_eq_true rfl)⟩ ⟨by omega, by omega⟩ rfl rfl [6, 7] [0, 1, 2, 3, 4, 5, 8, 9, 10, 11, 12, 13, 14, 15, 16, 17, 18, 19, 20, 21, 22, 23, 24, 25, 26, 27, 28, 29, 30, 31, 32, 33, 34, 35, 36, 37, 38, 39, 40, 41, 42, 43, 44, 45, 46, 47, 48] [0, 1, 2, 3, 4, 5, 47, 48, 6, 7, 8, 9, 10, 11, 12, 13, 14, 15, 16, 17, 18, 19, 20, 21, 22, 23, 24, 25, 26, 27, 28, 29, 30, 31, 32, 33, 34, 35, 36, 37, 38, 39, 40, 41, 42, 43, 44, 45, 46] rfl rfl rfl rfl (by decide) rfl rfl (Nat.le_of_ble_eq_true rfl) rfl rfl dL_law_1397 (fun H locs hW => ?_)
  refine lv_istore (lv' := [(6, .int rb), (5, .int 2), (0, .ref b), (1, .ref q), (2, .ref mq), (3, .ref qo), (4, .int x4)]) hx hb dL_law_1400 hl (by decide) rfl (fun ls hl => ?_)
  refine lv_aload_n hx hb dL_law_1402 rfl (lv_at hl 4 rfl) ?_
  refine k_callVR (b := mq) (ci := 9) (qb := 0) (As := []) (n := 0) (rest := []) (st1 := [.int 2]) C hE hW hl.1 (kX10_thrown l D cI cZ cJ _ mq mq_script mq_readRow mq_now mq_trial mq_diary mq_kept mq_isKept mq_sums mq_primes mq_turned 2 v_scriptSize v_spot v_acts v_slides 2 rfl) gL_law_X10_thrown rfl (by decide +kernel) rfl ⟨(Nat.le_of_ble_eq_true rfl), (Nat.le_of_ble_eq_true rfl)⟩ ⟨by omega, by omega⟩ rfl rfl [6] rfl rfl (Nat.le_of_ble_eq_true rfl) rfl rfl dL_law_1403 (fun H locs hW => ?_)
  refine lv_iload hx hb dL_law_1406 (lv_at hl 1 rfl) ?_
  refine lv_icmp_eq (tgt := 1413) hx hb dL_law_1408 (by decide) (fun _ => ?_) (fun hc => absurd rfl hc)
  refine lv_iload hx hb dL_law_1413 (lv_at hl 1 rfl) ?_
  refine lv_if_ne (tgt := 1430) hx hb dL_law_1415 (by decide) (fun _ => ?_) (fun hc => absurd hc (by decide))
  refine lv_goto (tgt := 2534) hx hb dL_law_1430 (by decide) ?_
  exact kk _ _ _ hW (lv_sub hl [2, 3, 4, 5, 6] rfl)
set_option maxHeartbeats 4000000 in
set_option maxRecDepth 100000 in
theorem lc_windowKth_r (hlt : l.stackTraces = false) (C : CallFix p m c cL_law 8 s #[Value.ref b] wsL_law RL) (hE : kEn D cI cZ cJ A s) (hX : va_X b L xs s s.heap) (hbl : b < s.heap.size) (hbA : ¬ A b) (x4 : Int32) (p1 : Int32) (hv1 : vp_in (x4 + 1) L) (hp1 : xs (x4 + 1).toNatClampNeg = p1) (p2 : Int32) (hv2 : vp_in (x4 + 2) L) (hp2 : xs (x4 + 2).toNatClampNeg = p2) (p3 : Int32) (hv3 : vp_in (x4 + 3) L) (hp3 : xs (x4 + 3).toNatClampNeg = p3) (p4 : Int32) (hv4 : vp_in (x4 + 4) L) (hp4 : xs (x4 + 4).toNatClampNeg = p4) (p5 : Int32) (hv5 : vp_in (x4 + 5) L) (hp5 : xs (x4 + 5).toNatClampNeg = p5) (p6 : Int32) (hv6 : vp_in (x4 + 6) L) (hp6 : xs (x4 + 6).toNatClampNeg = p6) (hcs : cells + 1 ≤ room_1.cells ∧ slots + 6 ≤ room_1.slots) (q q_now q_now_first q_now_first_numbers q_now_second q_now_second_numbers q_trial q_past q_text q_reader q_slot0 q_slot1 q_greatestPath q_fillingsOfShape mq mq_now mq_script mq_readRow mq_trial mq_diary mq_kept mq_isKept mq_sums mq_primes mq_turned qo : Nat) (u_now_first_numbers : Nat → Int32) (u_now_second_numbers : Nat → Int32) (v_refusal : Int32) (v_scriptSize : Int32) (v_spot : Int32) (v_acts : Int32) (v_slides : Int32) (v_now : Nat → Int32) (fo : Nat → Int64) (r : Int32) (zc0 zc1 zc2 zc3 zc4 zc5 zc6 zc7 zc8 zc9 zc10 zc11 zc12 zc13 zc14 zc15 zc16 zc17 zc18 zc19 zc20 zc21 zc22 zc23 zc24 zc25 zc26 zc27 zc28 zc29 zc30 zc31 zc32 zc33 zc34 zc35 zc36 zc37 zc38 zc39 : Nat × va_E) (hf : pX9_windowKth u_now_first_numbers u_now_second_numbers p1 p2 p3 p4 p5 p6 = some (.inr r)) (hm : pX10_windowKth v_refusal v_now p1 p2 p3 p4 p5 p6 = some (r, 0)) (hW : kH D A s H locs [(q, .inr (8, [.ref q_now, .ref q_trial, .ref q_past, .ref q_text, .ref q_reader, .ref q_slot0, .ref q_slot1, .ref q_greatestPath, .ref q_fillingsOfShape])), (q_now, .inr (2, [.ref q_now_first, .ref q_now_second])), (q_now_first, .inr (6, [.ref q_now_first_numbers])), (q_now_first_numbers, .inl (cI, 36, .inl u_now_first_numbers)), (q_now_second, .inr (6, [.ref q_now_second_numbers])), (q_now_second_numbers, .inl (cI, 36, .inl u_now_second_numbers)), (mq, .inr (9, [.int v_refusal, .ref mq_script, .int v_scriptSize, .int v_spot, .ref mq_readRow, .ref mq_now, .ref mq_trial, .ref mq_diary, .int v_acts, .ref mq_kept, .ref mq_isKept, .int v_slides, .ref mq_sums, .ref mq_primes, .ref mq_turned])), (mq_now, .inl (cI, 84, .inl v_now)), (qo, .inl (cJ, 1, .inr (.inl fo))), zc0, zc1, zc2, zc3, zc4, zc5, zc6, zc7, zc8, zc9, zc10, zc11, zc12, zc13, zc14, zc15, zc16, zc17, zc18, zc19, zc20, zc21, zc22, zc23, zc24, zc25, zc26, zc27, zc28, zc29, zc30, zc31, zc32, zc33, zc34, zc35, zc36, zc37, zc38, zc39]) (hl : lv_has ls 8 [(0, .ref b), (1, .ref q), (2, .ref mq), (3, .ref qo), (4, .int x4)])
    (kk : ∀ (H1 : Heap) (locs1 : List Loc) (ls1 : Array Slot), kH D A s H1 locs1 [(q, .inr (8, [.ref q_now, .ref q_trial, .ref q_past, .ref q_text, .ref q_reader, .ref q_slot0, .ref q_slot1, .ref q_greatestPath, .ref q_fillingsOfShape])), (q_now, .inr (2, [.ref q_now_first, .ref q_now_second])), (q_now_first, .inr (6, [.ref q_now_first_numbers])), (q_now_first_numbers, .inl (cI, 36, .inl u_now_first_numbers)), (q_now_second, .inr (6, [.ref q_now_second_numbers])), (q_now_second_numbers, .inl (cI, 36, .inl u_now_second_numbers)), (mq, .inr (9, [.int 0, .ref mq_script, .int v_scriptSize, .int v_spot, .ref mq_readRow, .ref mq_now, .ref mq_trial, .ref mq_diary, .int v_acts, .ref mq_kept, .ref mq_isKept, .int v_slides, .ref mq_sums, .ref mq_primes, .ref mq_turned])), (mq_now, .inl (cI, 84, .inl v_now)), (qo, .inl (cJ, 1, .inr (.inl (vp_updL fo 0 (r.toInt64))))), zc0, zc1, zc2, zc3, zc4, zc5, zc6, zc7, zc8, zc9, zc10, zc11, zc12, zc13, zc14, zc15, zc16, zc17, zc18, zc19, zc20, zc21, zc22, zc23, zc24, zc25, zc26, zc27, zc28, zc29, zc30, zc31, zc32, zc33, zc34, zc35, zc36, zc37, zc38, zc39] → lv_has ls1 8 [(0, .ref b), (1, .ref q), (2, .ref mq), (3, .ref qo), (4, .int x4)] → W p l e room_1 s m #[Value.ref b] below meth c H1 locs1 cells slots Q (F0 m 2534 ls1 [])) : W p l e room_1 s m #[Value.ref b] below meth c H locs cells slots Q (F0 m 1433 ls []) := by
  have hx := C.1
  have hb := C.2.1
  refine lv_aload_n hx hb dL_law_1433 rfl (lv_at hl 1 rfl) ?_
  refine lv_aload_n hx hb dL_law_1434 rfl (lv_at hl 0 rfl) ?_
  refine lv_iload hx hb dL_law_1435 (lv_at hl 4 rfl) ?_
  refine lv_iconst (v := 1) hx hb dL_law_1437 (by decide) ?_
  refine lv_iadd hx hb dL_law_1438 ?_
  refine va_sld hx hb hX hbl hbA hW.2.2 hv1 dL_law_1439 ?_
  rw [hp1]
  refine lv_aload_n hx hb dL_law_1440 rfl (lv_at hl 0 rfl) ?_
  refine lv_iload hx hb dL_law_1441 (lv_at hl 4 rfl) ?_
  refine lv_iconst (v := 2) hx hb dL_law_1443 (by decide) ?_
  refine lv_iadd hx hb dL_law_1444 ?_
  refine va_sld hx hb hX hbl hbA hW.2.2 hv2 dL_law_1445 ?_
  rw [hp2]
  refine lv_aload_n hx hb dL_law_1446 rfl (lv_at hl 0 rfl) ?_
  refine lv_iload hx hb dL_law_1447 (lv_at hl 4 rfl) ?_
  refine lv_iconst (v := 3) hx hb dL_law_1449 (by decide) ?_
  refine lv_iadd hx hb dL_law_1450 ?_
  refine va_sld hx hb hX hbl hbA hW.2.2 hv3 dL_law_1451 ?_
  rw [hp3]
  refine lv_aload_n hx hb dL_law_1452 rfl (lv_at hl 0 rfl) ?_
  refine lv_iload hx hb dL_law_1453 (lv_at hl 4 rfl) ?_
  refine lv_iconst (v := 4) hx hb dL_law_1455 (by decide) ?_
  refine lv_iadd hx hb dL_law_1456 ?_
  refine va_sld hx hb hX hbl hbA hW.2.2 hv4 dL_law_1457 ?_
  rw [hp4]
  refine lv_aload_n hx hb dL_law_1458 rfl (lv_at hl 0 rfl) ?_
  refine lv_iload hx hb dL_law_1459 (lv_at hl 4 rfl) ?_
  refine lv_iconst (v := 5) hx hb dL_law_1461 (by decide) ?_
  refine lv_iadd hx hb dL_law_1462 ?_
  refine va_sld hx hb hX hbl hbA hW.2.2 hv5 dL_law_1463 ?_
  rw [hp5]
  refine lv_aload_n hx hb dL_law_1464 rfl (lv_at hl 0 rfl) ?_
  refine lv_iload hx hb dL_law_1465 (lv_at hl 4 rfl) ?_
  refine lv_bipush (v := 6) hx hb dL_law_1467 (by decide) ?_
  refine lv_iadd hx hb dL_law_1469 ?_
  refine va_sld hx hb hX hbl hbA hW.2.2 hv6 dL_law_1470 ?_
  rw [hp6]
  refine lv_aload_n hx hb dL_law_1471 rfl (lv_at hl 3 rfl) ?_
  refine k_callSW (As := [.ref q, .int p1, .int p2, .int p3, .int p4, .int p5, .int p6, .ref qo]) (n := 8) (rest := []) (st1 := [.int 0]) (wr := [(mq, .inr (9, [.int v_refusal, .ref mq_script, .int v_scriptSize, .int v_spot, .ref mq_readRow, .ref mq_now, .ref mq_trial, .ref mq_diary, .int v_acts, .ref mq_kept, .ref mq_isKept, .int v_slides, .ref mq_sums, .ref mq_primes, .ref mq_turned])), (mq_now, .inl (cI, 84, .inl v_now)), zc0, zc1, zc2, zc3, zc4, zc5, zc6, zc7, zc8, zc9, zc10, zc11, zc12, zc13, zc14, zc15, zc16, zc17, zc18, zc19, zc20, zc21, zc22, zc23, zc24, zc25, zc26, zc27, zc28, zc29, zc30, zc31, zc32, zc33, zc34, zc35, zc36, zc37, zc38, zc39]) (ws' := [(q, .inr (8, [.ref q_now, .ref q_trial, .ref q_past, .ref q_text, .ref q_reader, .ref q_slot0, .ref q_slot1, .ref q_greatestPath, .ref q_fillingsOfShape])), (q_now, .inr (2, [.ref q_now_first, .ref q_now_second])), (q_now_first, .inr (6, [.ref q_now_first_numbers])), (q_now_first_numbers, .inl (cI, 36, .inl u_now_first_numbers)), (q_now_second, .inr (6, [.ref q_now_second_numbers])), (q_now_second_numbers, .inl (cI, 36, .inl u_now_second_numbers)), (mq, .inr (9, [.int v_refusal, .ref mq_script, .int v_scriptSize, .int v_spot, .ref mq_readRow, .ref mq_now, .ref mq_trial, .ref mq_diary, .int v_acts, .ref mq_kept, .ref mq_isKept, .int v_slides, .ref mq_sums, .ref mq_primes, .ref mq_turned])), (mq_now, .inl (cI, 84, .inl v_now)), (qo, .inl (cJ, 1, .inr (.inl (vp_updL fo 0 (r.toInt64))))), zc0, zc1, zc2, zc3, zc4, zc5, zc6, zc7, zc8, zc9, zc10, zc11, zc12, zc13, zc14, zc15, zc16, zc17, zc18, zc19, zc20, zc21, zc22, zc23, zc24, zc25, zc26, zc27, zc28, zc29, zc30, zc31, zc32, zc33, zc34, zc35, zc36, zc37, zc38, zc39]) C hE hW hl.1 (kL_windowKth_r l hlt D cI cZ cJ _ q q_now q_now_first q_now_first_numbers q_now_second q_now_second_numbers q_trial q_past q_text q_reader q_slot0 q_slot1 q_greatestPath q_fillingsOfShape qo u_now_first_numbers u_now_second_numbers fo p1 p2 p3 p4 p5 p6 r (vp_updL fo 0 (r.toInt64)) hf (sJ_0 fo _)) gL_law_L_windowKth rfl (by decide +kernel) rfl ⟨(Nat.le_of_ble_eq_true rfl), (Nat.le_of_ble_eq_true rfl)⟩ ⟨by omega, by omega⟩ [0, 1, 2, 3, 4, 5, 8] [6, 7, 9, 10, 11, 12, 13, 14, 15, 16, 17, 18, 19, 20, 21, 22, 23, 24, 25, 26, 27, 28, 29, 30, 31, 32, 33, 34, 35, 36, 37, 38, 39, 40, 41, 42, 43, 44, 45, 46, 47, 48] [42, 43, 44, 45, 46, 47, 0, 1, 48, 2, 3, 4, 5, 6, 7, 8, 9, 10, 11, 12, 13, 14, 15, 16, 17, 18, 19, 20, 21, 22, 23, 24, 25, 26, 27, 28, 29, 30, 31, 32, 33, 34, 35, 36, 37, 38, 39, 40, 41] rfl rfl rfl rfl (by decide) rfl rfl (Nat.le_of_ble_eq_true rfl) rfl rfl dL_law_1472 (fun H locs hW => ?_)
  refine lv_istore (lv' := [(5, .int 0), (0, .ref b), (1, .ref q), (2, .ref mq), (3, .ref qo), (4, .int x4)]) hx hb dL_law_1475 hl (by decide) rfl (fun ls hl => ?_)
  refine lv_aload_n hx hb dL_law_1477 rfl (lv_at hl 3 rfl) ?_
  refine lv_aload_n hx hb dL_law_1478 rfl (lv_at hl 1 rfl) ?_
  refine lv_iload hx hb dL_law_1479 (lv_at hl 5 rfl) ?_
  refine lv_iconst (v := 1) hx hb dL_law_1481 (by decide) ?_
  refine lv_iadd hx hb dL_law_1482 ?_
  refine va_sld hx hb hX hbl hbA hW.2.2 hv1 dL_law_1483 ?_
  rw [hp1]
  refine lv_aload_n hx hb dL_law_1484 rfl (lv_at hl 1 rfl) ?_
  refine lv_iload hx hb dL_law_1485 (lv_at hl 5 rfl) ?_
  refine lv_iconst (v := 2) hx hb dL_law_1487 (by decide) ?_
  refine lv_iadd hx hb dL_law_1488 ?_
  refine va_sld hx hb hX hbl hbA hW.2.2 hv2 dL_law_1489 ?_
  rw [hp2]
  refine lv_aload_n hx hb dL_law_1490 rfl (lv_at hl 1 rfl) ?_
  refine lv_iload hx hb dL_law_1491 (lv_at hl 5 rfl) ?_
  refine lv_iconst (v := 3) hx hb dL_law_1493 (by decide) ?_
  refine lv_iadd hx hb dL_law_1494 ?_
  refine va_sld hx hb hX hbl hbA hW.2.2 hv3 dL_law_1495 ?_
  rw [hp3]
  refine lv_aload_n hx hb dL_law_1496 rfl (lv_at hl 1 rfl) ?_
  refine lv_iload hx hb dL_law_1497 (lv_at hl 5 rfl) ?_
  refine lv_iconst (v := 4) hx hb dL_law_1499 (by decide) ?_
  refine lv_iadd hx hb dL_law_1500 ?_
  refine va_sld hx hb hX hbl hbA hW.2.2 hv4 dL_law_1501 ?_
  rw [hp4]
  refine lv_aload_n hx hb dL_law_1502 rfl (lv_at hl 1 rfl) ?_
  refine lv_iload hx hb dL_law_1503 (lv_at hl 5 rfl) ?_
  refine lv_iconst (v := 5) hx hb dL_law_1505 (by decide) ?_
  refine lv_iadd hx hb dL_law_1506 ?_
  refine va_sld hx hb hX hbl hbA hW.2.2 hv5 dL_law_1507 ?_
  rw [hp5]
  refine lv_aload_n hx hb dL_law_1508 rfl (lv_at hl 1 rfl) ?_
  refine lv_iload hx hb dL_law_1509 (lv_at hl 5 rfl) ?_
  refine lv_bipush (v := 6) hx hb dL_law_1511 (by decide) ?_
  refine lv_iadd hx hb dL_law_1513 ?_
  refine va_sld hx hb hX hbl hbA hW.2.2 hv6 dL_law_1514 ?_
  rw [hp6]
  refine k_callV (b := mq) (ci := 9) (qb := 0) (As := [.int p1, .int p2, .int p3, .int p4, .int p5, .int p6]) (n := 6) (rest := []) (st1 := [.int r]) (wr := [(q, .inr (8, [.ref q_now, .ref q_trial, .ref q_past, .ref q_text, .ref q_reader, .ref q_slot0, .ref q_slot1, .ref q_greatestPath, .ref q_fillingsOfShape])), (q_now, .inr (2, [.ref q_now_first, .ref q_now_second])), (q_now_first, .inr (6, [.ref q_now_first_numbers])), (q_now_first_numbers, .inl (cI, 36, .inl u_now_first_numbers)), (q_now_second, .inr (6, [.ref q_now_second_numbers])), (q_now_second_numbers, .inl (cI, 36, .inl u_now_second_numbers)), (qo, .inl (cJ, 1, .inr (.inl (vp_updL fo 0 (r.toInt64))))), zc0, zc1, zc2, zc3, zc4, zc5, zc6, zc7, zc8, zc9, zc10, zc11, zc12, zc13, zc14, zc15, zc16, zc17, zc18, zc19, zc20, zc21, zc22, zc23, zc24, zc25, zc26, zc27, zc28, zc29, zc30, zc31, zc32, zc33, zc34, zc35, zc36, zc37, zc38, zc39]) (ws' := [(q, .inr (8, [.ref q_now, .ref q_trial, .ref q_past, .ref q_text, .ref q_reader, .ref q_slot0, .ref q_slot1, .ref q_greatestPath, .ref q_fillingsOfShape])), (q_now, .inr (2, [.ref q_now_first, .ref q_now_second])), (q_now_first, .inr (6, [.ref q_now_first_numbers])), (q_now_first_numbers, .inl (cI, 36, .inl u_now_first_numbers)), (q_now_second, .inr (6, [.ref q_now_second_numbers])), (q_now_second_numbers, .inl (cI, 36, .inl u_now_second_numbers)), (mq, .inr (9, [.int 0, .ref mq_script, .int v_scriptSize, .int v_spot, .ref mq_readRow, .ref mq_now, .ref mq_trial, .ref mq_diary, .int v_acts, .ref mq_kept, .ref mq_isKept, .int v_slides, .ref mq_sums, .ref mq_primes, .ref mq_turned])), (mq_now, .inl (cI, 84, .inl v_now)), (qo, .inl (cJ, 1, .inr (.inl (vp_updL fo 0 (r.toInt64))))), zc0, zc1, zc2, zc3, zc4, zc5, zc6, zc7, zc8, zc9, zc10, zc11, zc12, zc13, zc14, zc15, zc16, zc17, zc18, zc19, zc20, zc21, zc22, zc23, zc24, zc25, zc26, zc27, zc28, zc29, zc30, zc31, zc32, zc33, zc34, zc35, zc36, zc37, zc38, zc39]) C hE hW hl.1 (kX10_windowKth l D cI cZ cJ _ mq mq_now mq_script mq_readRow mq_trial mq_diary mq_kept mq_isKept mq_sums mq_primes mq_turned v_refusal v_scriptSize v_spot v_acts v_slides v_now p1 p2 p3 p4 p5 p6 r 0 hm) gL_law_X10_windowKth rfl (by decide +kernel) rfl ⟨(Nat.le_of_ble_eq_true rfl), (Nat.le_of_ble_eq_true rfl)⟩ ⟨by omega, by omega⟩ rfl rfl [6, 7] [0, 1, 2, 3, 4, 5, 8, 9, 10, 11, 12, 13, 14, 15, 16, 17, 18, 19, 20, 21, 22, 23, 24, 25, 26, 27, 28, 29, 30, 31, 32, 33, 34, 35, 36, 37, 38, 39, 40, 41, 42, 43, 44, 45, 46, 47, 48] [0, 1, 2, 3, 4, 5, 47, 48, 6, 7, 8, 9, 10, 11, 12, 13, 14, 15, 16, 17, 18, 19, 20, 21, 22, 23, 24, 25, 26, 27, 28, 29, 30, 31, 32, 33, 34, 35, 36, 37, 38, 39, 40, 41, 42, 43, 44, 45, 46] rfl rfl rfl rfl (by decide) rfl rfl (Nat.le_of_ble_eq_true rfl) rfl rfl dL_law_1515 (fun H locs hW => ?_)
  refine lv_istore (lv' := [(6, .int r), (5, .int 0), (0, .ref b), (1, .ref q), (2, .ref mq), (3, .ref qo), (4, .int x4)]) hx hb dL_law_1518 hl (by decide) rfl (fun ls hl => ?_)
  refine lv_aload_n hx hb dL_law_1520 rfl (lv_at hl 4 rfl) ?_
  refine k_callVR (b := mq) (ci := 9) (qb := 0) (As := []) (n := 0) (rest := []) (st1 := [.int 0]) C hE hW hl.1 (kX10_thrown l D cI cZ cJ _ mq mq_script mq_readRow mq_now mq_trial mq_diary mq_kept mq_isKept mq_sums mq_primes mq_turned 0 v_scriptSize v_spot v_acts v_slides 0 rfl) gL_law_X10_thrown rfl (by decide +kernel) rfl ⟨(Nat.le_of_ble_eq_true rfl), (Nat.le_of_ble_eq_true rfl)⟩ ⟨by omega, by omega⟩ rfl rfl [6] rfl rfl (Nat.le_of_ble_eq_true rfl) rfl rfl dL_law_1521 (fun H locs hW => ?_)
  refine lv_iload hx hb dL_law_1524 (lv_at hl 1 rfl) ?_
  refine lv_icmp_eq (tgt := 1531) hx hb dL_law_1526 (by decide) (fun _ => ?_) (fun hc => absurd rfl hc)
  refine lv_iload hx hb dL_law_1531 (lv_at hl 1 rfl) ?_
  refine lv_if_ne (tgt := 1548) hx hb dL_law_1533 (by decide) (fun hc => absurd rfl hc) (fun _ => ?_)
  refine lv_aload_n hx hb dL_law_1536 rfl (lv_at hl 5 rfl) ?_
  refine lv_iconst (v := 0) hx hb dL_law_1537 (by decide) ?_
  refine k_lald C hE hW 8 rfl (gJ_0 fo _) dL_law_1538 ?_
  refine lv_iload hx hb dL_law_1539 (lv_at hl 0 rfl) ?_
  refine lv_i2l hx hb dL_law_1541 rfl ?_
  refine W.lcmp hx hb dL_law_1542 ?_
  refine lv_if_eq (tgt := 1548) hx hb dL_law_1543 (by decide) (fun _ => ?_) (fun hc => absurd (cmp_self _) hc)
  refine lv_goto (tgt := 2534) hx hb dL_law_1548 (by decide) ?_
  exact kk _ _ _ hW (lv_sub hl [2, 3, 4, 5, 6] rfl)
set_option maxHeartbeats 4000000 in
set_option maxRecDepth 100000 in
theorem lc_windowKth_t3 (hlt : l.stackTraces = false) (C : CallFix p m c cL_law 8 s #[Value.ref b] wsL_law RL) (hE : kEn D cI cZ cJ A s) (hX : va_X b L xs s s.heap) (hbl : b < s.heap.size) (hbA : ¬ A b) (x4 : Int32) (p1 : Int32) (hv1 : vp_in (x4 + 1) L) (hp1 : xs (x4 + 1).toNatClampNeg = p1) (p2 : Int32) (hv2 : vp_in (x4 + 2) L) (hp2 : xs (x4 + 2).toNatClampNeg = p2) (p3 : Int32) (hv3 : vp_in (x4 + 3) L) (hp3 : xs (x4 + 3).toNatClampNeg = p3) (p4 : Int32) (hv4 : vp_in (x4 + 4) L) (hp4 : xs (x4 + 4).toNatClampNeg = p4) (p5 : Int32) (hv5 : vp_in (x4 + 5) L) (hp5 : xs (x4 + 5).toNatClampNeg = p5) (p6 : Int32) (hv6 : vp_in (x4 + 6) L) (hp6 : xs (x4 + 6).toNatClampNeg = p6) (hcs : cells + 1 ≤ room_1.cells ∧ slots + 6 ≤ room_1.slots) (q q_now q_now_first q_now_first_numbers q_now_second q_now_second_numbers q_trial q_past q_text q_reader q_slot0 q_slot1 q_greatestPath q_fillingsOfShape mq mq_now mq_script mq_readRow mq_trial mq_diary mq_kept mq_isKept mq_sums mq_primes mq_turned qo : Nat) (u_now_first_numbers : Nat → Int32) (u_now_second_numbers : Nat → Int32) (v_refusal : Int32) (v_scriptSize : Int32) (v_spot : Int32) (v_acts : Int32) (v_slides : Int32) (v_now : Nat → Int32) (fo : Nat → Int64) (rb : Int32) (zc0 zc1 zc2 zc3 zc4 zc5 zc6 zc7 zc8 zc9 zc10 zc11 zc12 zc13 zc14 zc15 zc16 zc17 zc18 zc19 zc20 zc21 zc22 zc23 zc24 zc25 zc26 zc27 zc28 zc29 zc30 zc31 zc32 zc33 zc34 zc35 zc36 zc37 zc38 zc39 : Nat × va_E) (hf : pX9_windowKth u_now_first_numbers u_now_second_numbers p1 p2 p3 p4 p5 p6 = some (.inl 3)) (hm : pX10_windowKth v_refusal v_now p1 p2 p3 p4 p5 p6 = some (rb, 1)) (hW : kH D A s H locs [(q, .inr (8, [.ref q_now, .ref q_trial, .ref q_past, .ref q_text, .ref q_reader, .ref q_slot0, .ref q_slot1, .ref q_greatestPath, .ref q_fillingsOfShape])), (q_now, .inr (2, [.ref q_now_first, .ref q_now_second])), (q_now_first, .inr (6, [.ref q_now_first_numbers])), (q_now_first_numbers, .inl (cI, 36, .inl u_now_first_numbers)), (q_now_second, .inr (6, [.ref q_now_second_numbers])), (q_now_second_numbers, .inl (cI, 36, .inl u_now_second_numbers)), (mq, .inr (9, [.int v_refusal, .ref mq_script, .int v_scriptSize, .int v_spot, .ref mq_readRow, .ref mq_now, .ref mq_trial, .ref mq_diary, .int v_acts, .ref mq_kept, .ref mq_isKept, .int v_slides, .ref mq_sums, .ref mq_primes, .ref mq_turned])), (mq_now, .inl (cI, 84, .inl v_now)), (qo, .inl (cJ, 1, .inr (.inl fo))), zc0, zc1, zc2, zc3, zc4, zc5, zc6, zc7, zc8, zc9, zc10, zc11, zc12, zc13, zc14, zc15, zc16, zc17, zc18, zc19, zc20, zc21, zc22, zc23, zc24, zc25, zc26, zc27, zc28, zc29, zc30, zc31, zc32, zc33, zc34, zc35, zc36, zc37, zc38, zc39]) (hl : lv_has ls 8 [(0, .ref b), (1, .ref q), (2, .ref mq), (3, .ref qo), (4, .int x4)])
    (kk : ∀ (H1 : Heap) (locs1 : List Loc) (ls1 : Array Slot), kH D A s H1 locs1 [(q, .inr (8, [.ref q_now, .ref q_trial, .ref q_past, .ref q_text, .ref q_reader, .ref q_slot0, .ref q_slot1, .ref q_greatestPath, .ref q_fillingsOfShape])), (q_now, .inr (2, [.ref q_now_first, .ref q_now_second])), (q_now_first, .inr (6, [.ref q_now_first_numbers])), (q_now_first_numbers, .inl (cI, 36, .inl u_now_first_numbers)), (q_now_second, .inr (6, [.ref q_now_second_numbers])), (q_now_second_numbers, .inl (cI, 36, .inl u_now_second_numbers)), (mq, .inr (9, [.int 1, .ref mq_script, .int v_scriptSize, .int v_spot, .ref mq_readRow, .ref mq_now, .ref mq_trial, .ref mq_diary, .int v_acts, .ref mq_kept, .ref mq_isKept, .int v_slides, .ref mq_sums, .ref mq_primes, .ref mq_turned])), (mq_now, .inl (cI, 84, .inl v_now)), (qo, .inl (cJ, 1, .inr (.inl fo))), zc0, zc1, zc2, zc3, zc4, zc5, zc6, zc7, zc8, zc9, zc10, zc11, zc12, zc13, zc14, zc15, zc16, zc17, zc18, zc19, zc20, zc21, zc22, zc23, zc24, zc25, zc26, zc27, zc28, zc29, zc30, zc31, zc32, zc33, zc34, zc35, zc36, zc37, zc38, zc39] → lv_has ls1 8 [(0, .ref b), (1, .ref q), (2, .ref mq), (3, .ref qo), (4, .int x4)] → W p l e room_1 s m #[Value.ref b] below meth c H1 locs1 (cells + 1) (slots + 6) Q (F0 m 2534 ls1 [])) : W p l e room_1 s m #[Value.ref b] below meth c H locs cells slots Q (F0 m 1433 ls []) := by
  have hx := C.1
  have hb := C.2.1
  refine lv_aload_n hx hb dL_law_1433 rfl (lv_at hl 1 rfl) ?_
  refine lv_aload_n hx hb dL_law_1434 rfl (lv_at hl 0 rfl) ?_
  refine lv_iload hx hb dL_law_1435 (lv_at hl 4 rfl) ?_
  refine lv_iconst (v := 1) hx hb dL_law_1437 (by decide) ?_
  refine lv_iadd hx hb dL_law_1438 ?_
  refine va_sld hx hb hX hbl hbA hW.2.2 hv1 dL_law_1439 ?_
  rw [hp1]
  refine lv_aload_n hx hb dL_law_1440 rfl (lv_at hl 0 rfl) ?_
  refine lv_iload hx hb dL_law_1441 (lv_at hl 4 rfl) ?_
  refine lv_iconst (v := 2) hx hb dL_law_1443 (by decide) ?_
  refine lv_iadd hx hb dL_law_1444 ?_
  refine va_sld hx hb hX hbl hbA hW.2.2 hv2 dL_law_1445 ?_
  rw [hp2]
  refine lv_aload_n hx hb dL_law_1446 rfl (lv_at hl 0 rfl) ?_
  refine lv_iload hx hb dL_law_1447 (lv_at hl 4 rfl) ?_
  refine lv_iconst (v := 3) hx hb dL_law_1449 (by decide) ?_
  refine lv_iadd hx hb dL_law_1450 ?_
  refine va_sld hx hb hX hbl hbA hW.2.2 hv3 dL_law_1451 ?_
  rw [hp3]
  refine lv_aload_n hx hb dL_law_1452 rfl (lv_at hl 0 rfl) ?_
  refine lv_iload hx hb dL_law_1453 (lv_at hl 4 rfl) ?_
  refine lv_iconst (v := 4) hx hb dL_law_1455 (by decide) ?_
  refine lv_iadd hx hb dL_law_1456 ?_
  refine va_sld hx hb hX hbl hbA hW.2.2 hv4 dL_law_1457 ?_
  rw [hp4]
  refine lv_aload_n hx hb dL_law_1458 rfl (lv_at hl 0 rfl) ?_
  refine lv_iload hx hb dL_law_1459 (lv_at hl 4 rfl) ?_
  refine lv_iconst (v := 5) hx hb dL_law_1461 (by decide) ?_
  refine lv_iadd hx hb dL_law_1462 ?_
  refine va_sld hx hb hX hbl hbA hW.2.2 hv5 dL_law_1463 ?_
  rw [hp5]
  refine lv_aload_n hx hb dL_law_1464 rfl (lv_at hl 0 rfl) ?_
  refine lv_iload hx hb dL_law_1465 (lv_at hl 4 rfl) ?_
  refine lv_bipush (v := 6) hx hb dL_law_1467 (by decide) ?_
  refine lv_iadd hx hb dL_law_1469 ?_
  refine va_sld hx hb hX hbl hbA hW.2.2 hv6 dL_law_1470 ?_
  rw [hp6]
  refine lv_aload_n hx hb dL_law_1471 rfl (lv_at hl 3 rfl) ?_
  refine k_callSW (As := [.ref q, .int p1, .int p2, .int p3, .int p4, .int p5, .int p6, .ref qo]) (n := 8) (rest := []) (st1 := [.int 1]) (wr := [(mq, .inr (9, [.int v_refusal, .ref mq_script, .int v_scriptSize, .int v_spot, .ref mq_readRow, .ref mq_now, .ref mq_trial, .ref mq_diary, .int v_acts, .ref mq_kept, .ref mq_isKept, .int v_slides, .ref mq_sums, .ref mq_primes, .ref mq_turned])), (mq_now, .inl (cI, 84, .inl v_now)), zc0, zc1, zc2, zc3, zc4, zc5, zc6, zc7, zc8, zc9, zc10, zc11, zc12, zc13, zc14, zc15, zc16, zc17, zc18, zc19, zc20, zc21, zc22, zc23, zc24, zc25, zc26, zc27, zc28, zc29, zc30, zc31, zc32, zc33, zc34, zc35, zc36, zc37, zc38, zc39]) (ws' := [(q, .inr (8, [.ref q_now, .ref q_trial, .ref q_past, .ref q_text, .ref q_reader, .ref q_slot0, .ref q_slot1, .ref q_greatestPath, .ref q_fillingsOfShape])), (q_now, .inr (2, [.ref q_now_first, .ref q_now_second])), (q_now_first, .inr (6, [.ref q_now_first_numbers])), (q_now_first_numbers, .inl (cI, 36, .inl u_now_first_numbers)), (q_now_second, .inr (6, [.ref q_now_second_numbers])), (q_now_second_numbers, .inl (cI, 36, .inl u_now_second_numbers)), (mq, .inr (9, [.int v_refusal, .ref mq_script, .int v_scriptSize, .int v_spot, .ref mq_readRow, .ref mq_now, .ref mq_trial, .ref mq_diary, .int v_acts, .ref mq_kept, .ref mq_isKept, .int v_slides, .ref mq_sums, .ref mq_primes, .ref mq_turned])), (mq_now, .inl (cI, 84, .inl v_now)), (qo, .inl (cJ, 1, .inr (.inl fo))), zc0, zc1, zc2, zc3, zc4, zc5, zc6, zc7, zc8, zc9, zc10, zc11, zc12, zc13, zc14, zc15, zc16, zc17, zc18, zc19, zc20, zc21, zc22, zc23, zc24, zc25, zc26, zc27, zc28, zc29, zc30, zc31, zc32, zc33, zc34, zc35, zc36, zc37, zc38, zc39]) C hE hW hl.1 (kL_windowKth_t3 l hlt D cI cZ cJ _ q q_now q_now_first q_now_first_numbers q_now_second q_now_second_numbers q_trial q_past q_text q_reader q_slot0 q_slot1 q_greatestPath q_fillingsOfShape qo u_now_first_numbers u_now_second_numbers fo p1 p2 p3 p4 p5 p6 hf) gL_law_L_windowKth rfl (by decide +kernel) rfl ⟨(Nat.le_of_ble_eq_true rfl), (Nat.le_of_ble_eq_true rfl)⟩ ⟨by omega, by omega⟩ [0, 1, 2, 3, 4, 5, 8] [6, 7, 9, 10, 11, 12, 13, 14, 15, 16, 17, 18, 19, 20, 21, 22, 23, 24, 25, 26, 27, 28, 29, 30, 31, 32, 33, 34, 35, 36, 37, 38, 39, 40, 41, 42, 43, 44, 45, 46, 47, 48] [42, 43, 44, 45, 46, 47, 0, 1, 48, 2, 3, 4, 5, 6, 7, 8, 9, 10, 11, 12, 13, 14, 15, 16, 17, 18, 19, 20, 21, 22, 23, 24, 25, 26, 27, 28, 29, 30, 31, 32, 33, 34, 35, 36, 37, 38, 39, 40, 41] rfl rfl rfl rfl (by decide) rfl rfl (Nat.le_of_ble_eq_true rfl) rfl rfl dL_law_1472 (fun H locs hW => ?_)
  refine lv_istore (lv' := [(5, .int 1), (0, .ref b), (1, .ref q), (2, .ref mq), (3, .ref qo), (4, .int x4)]) hx hb dL_law_1475 hl (by decide) rfl (fun ls hl => ?_)
  refine lv_aload_n hx hb dL_law_1477 rfl (lv_at hl 3 rfl) ?_
  refine lv_aload_n hx hb dL_law_1478 rfl (lv_at hl 1 rfl) ?_
  refine lv_iload hx hb dL_law_1479 (lv_at hl 5 rfl) ?_
  refine lv_iconst (v := 1) hx hb dL_law_1481 (by decide) ?_
  refine lv_iadd hx hb dL_law_1482 ?_
  refine va_sld hx hb hX hbl hbA hW.2.2 hv1 dL_law_1483 ?_
  rw [hp1]
  refine lv_aload_n hx hb dL_law_1484 rfl (lv_at hl 1 rfl) ?_
  refine lv_iload hx hb dL_law_1485 (lv_at hl 5 rfl) ?_
  refine lv_iconst (v := 2) hx hb dL_law_1487 (by decide) ?_
  refine lv_iadd hx hb dL_law_1488 ?_
  refine va_sld hx hb hX hbl hbA hW.2.2 hv2 dL_law_1489 ?_
  rw [hp2]
  refine lv_aload_n hx hb dL_law_1490 rfl (lv_at hl 1 rfl) ?_
  refine lv_iload hx hb dL_law_1491 (lv_at hl 5 rfl) ?_
  refine lv_iconst (v := 3) hx hb dL_law_1493 (by decide) ?_
  refine lv_iadd hx hb dL_law_1494 ?_
  refine va_sld hx hb hX hbl hbA hW.2.2 hv3 dL_law_1495 ?_
  rw [hp3]
  refine lv_aload_n hx hb dL_law_1496 rfl (lv_at hl 1 rfl) ?_
  refine lv_iload hx hb dL_law_1497 (lv_at hl 5 rfl) ?_
  refine lv_iconst (v := 4) hx hb dL_law_1499 (by decide) ?_
  refine lv_iadd hx hb dL_law_1500 ?_
  refine va_sld hx hb hX hbl hbA hW.2.2 hv4 dL_law_1501 ?_
  rw [hp4]
  refine lv_aload_n hx hb dL_law_1502 rfl (lv_at hl 1 rfl) ?_
  refine lv_iload hx hb dL_law_1503 (lv_at hl 5 rfl) ?_
  refine lv_iconst (v := 5) hx hb dL_law_1505 (by decide) ?_
  refine lv_iadd hx hb dL_law_1506 ?_
  refine va_sld hx hb hX hbl hbA hW.2.2 hv5 dL_law_1507 ?_
  rw [hp5]
  refine lv_aload_n hx hb dL_law_1508 rfl (lv_at hl 1 rfl) ?_
  refine lv_iload hx hb dL_law_1509 (lv_at hl 5 rfl) ?_
  refine lv_bipush (v := 6) hx hb dL_law_1511 (by decide) ?_
  refine lv_iadd hx hb dL_law_1513 ?_
  refine va_sld hx hb hX hbl hbA hW.2.2 hv6 dL_law_1514 ?_
  rw [hp6]
  refine k_callV (b := mq) (ci := 9) (qb := 0) (As := [.int p1, .int p2, .int p3, .int p4, .int p5, .int p6]) (n := 6) (rest := []) (st1 := [.int rb]) (wr := [(q, .inr (8, [.ref q_now, .ref q_trial, .ref q_past, .ref q_text, .ref q_reader, .ref q_slot0, .ref q_slot1, .ref q_greatestPath, .ref q_fillingsOfShape])), (q_now, .inr (2, [.ref q_now_first, .ref q_now_second])), (q_now_first, .inr (6, [.ref q_now_first_numbers])), (q_now_first_numbers, .inl (cI, 36, .inl u_now_first_numbers)), (q_now_second, .inr (6, [.ref q_now_second_numbers])), (q_now_second_numbers, .inl (cI, 36, .inl u_now_second_numbers)), (qo, .inl (cJ, 1, .inr (.inl fo))), zc0, zc1, zc2, zc3, zc4, zc5, zc6, zc7, zc8, zc9, zc10, zc11, zc12, zc13, zc14, zc15, zc16, zc17, zc18, zc19, zc20, zc21, zc22, zc23, zc24, zc25, zc26, zc27, zc28, zc29, zc30, zc31, zc32, zc33, zc34, zc35, zc36, zc37, zc38, zc39]) (ws' := [(q, .inr (8, [.ref q_now, .ref q_trial, .ref q_past, .ref q_text, .ref q_reader, .ref q_slot0, .ref q_slot1, .ref q_greatestPath, .ref q_fillingsOfShape])), (q_now, .inr (2, [.ref q_now_first, .ref q_now_second])), (q_now_first, .inr (6, [.ref q_now_first_numbers])), (q_now_first_numbers, .inl (cI, 36, .inl u_now_first_numbers)), (q_now_second, .inr (6, [.ref q_now_second_numbers])), (q_now_second_numbers, .inl (cI, 36, .inl u_now_second_numbers)), (mq, .inr (9, [.int 1, .ref mq_script, .int v_scriptSize, .int v_spot, .ref mq_readRow, .ref mq_now, .ref mq_trial, .ref mq_diary, .int v_acts, .ref mq_kept, .ref mq_isKept, .int v_slides, .ref mq_sums, .ref mq_primes, .ref mq_turned])), (mq_now, .inl (cI, 84, .inl v_now)), (qo, .inl (cJ, 1, .inr (.inl fo))), zc0, zc1, zc2, zc3, zc4, zc5, zc6, zc7, zc8, zc9, zc10, zc11, zc12, zc13, zc14, zc15, zc16, zc17, zc18, zc19, zc20, zc21, zc22, zc23, zc24, zc25, zc26, zc27, zc28, zc29, zc30, zc31, zc32, zc33, zc34, zc35, zc36, zc37, zc38, zc39]) C hE hW hl.1 (kX10_windowKth l D cI cZ cJ _ mq mq_now mq_script mq_readRow mq_trial mq_diary mq_kept mq_isKept mq_sums mq_primes mq_turned v_refusal v_scriptSize v_spot v_acts v_slides v_now p1 p2 p3 p4 p5 p6 rb 1 hm) gL_law_X10_windowKth rfl (by decide +kernel) rfl ⟨(Nat.le_of_ble_eq_true rfl), (Nat.le_of_ble_eq_true rfl)⟩ ⟨by omega, by omega⟩ rfl rfl [6, 7] [0, 1, 2, 3, 4, 5, 8, 9, 10, 11, 12, 13, 14, 15, 16, 17, 18, 19, 20, 21, 22, 23, 24, 25, 26, 27, 28, 29, 30, 31, 32, 33, 34, 35, 36, 37, 38, 39, 40, 41, 42, 43, 44, 45, 46, 47, 48] [0, 1, 2, 3, 4, 5, 47, 48, 6, 7, 8, 9, 10, 11, 12, 13, 14, 15, 16, 17, 18, 19, 20, 21, 22, 23, 24, 25, 26, 27, 28, 29, 30, 31, 32, 33, 34, 35, 36, 37, 38, 39, 40, 41, 42, 43, 44, 45, 46] rfl rfl rfl rfl (by decide) rfl rfl (Nat.le_of_ble_eq_true rfl) rfl rfl dL_law_1515 (fun H locs hW => ?_)
  refine lv_istore (lv' := [(6, .int rb), (5, .int 1), (0, .ref b), (1, .ref q), (2, .ref mq), (3, .ref qo), (4, .int x4)]) hx hb dL_law_1518 hl (by decide) rfl (fun ls hl => ?_)
  refine lv_aload_n hx hb dL_law_1520 rfl (lv_at hl 4 rfl) ?_
  refine k_callVR (b := mq) (ci := 9) (qb := 0) (As := []) (n := 0) (rest := []) (st1 := [.int 1]) C hE hW hl.1 (kX10_thrown l D cI cZ cJ _ mq mq_script mq_readRow mq_now mq_trial mq_diary mq_kept mq_isKept mq_sums mq_primes mq_turned 1 v_scriptSize v_spot v_acts v_slides 1 rfl) gL_law_X10_thrown rfl (by decide +kernel) rfl ⟨(Nat.le_of_ble_eq_true rfl), (Nat.le_of_ble_eq_true rfl)⟩ ⟨by omega, by omega⟩ rfl rfl [6] rfl rfl (Nat.le_of_ble_eq_true rfl) rfl rfl dL_law_1521 (fun H locs hW => ?_)
  refine lv_iload hx hb dL_law_1524 (lv_at hl 1 rfl) ?_
  refine lv_icmp_eq (tgt := 1531) hx hb dL_law_1526 (by decide) (fun _ => ?_) (fun hc => absurd rfl hc)
  refine lv_iload hx hb dL_law_1531 (lv_at hl 1 rfl) ?_
  refine lv_if_ne (tgt := 1548) hx hb dL_law_1533 (by decide) (fun _ => ?_) (fun hc => absurd hc (by decide))
  refine lv_goto (tgt := 2534) hx hb dL_law_1548 (by decide) ?_
  exact kk _ _ _ hW (lv_sub hl [2, 3, 4, 5, 6] rfl)
set_option maxHeartbeats 4000000 in
set_option maxRecDepth 100000 in
theorem lc_windowKth_t1 (hlt : l.stackTraces = false) (C : CallFix p m c cL_law 8 s #[Value.ref b] wsL_law RL) (hE : kEn D cI cZ cJ A s) (hX : va_X b L xs s s.heap) (hbl : b < s.heap.size) (hbA : ¬ A b) (x4 : Int32) (p1 : Int32) (hv1 : vp_in (x4 + 1) L) (hp1 : xs (x4 + 1).toNatClampNeg = p1) (p2 : Int32) (hv2 : vp_in (x4 + 2) L) (hp2 : xs (x4 + 2).toNatClampNeg = p2) (p3 : Int32) (hv3 : vp_in (x4 + 3) L) (hp3 : xs (x4 + 3).toNatClampNeg = p3) (p4 : Int32) (hv4 : vp_in (x4 + 4) L) (hp4 : xs (x4 + 4).toNatClampNeg = p4) (p5 : Int32) (hv5 : vp_in (x4 + 5) L) (hp5 : xs (x4 + 5).toNatClampNeg = p5) (p6 : Int32) (hv6 : vp_in (x4 + 6) L) (hp6 : xs (x4 + 6).toNatClampNeg = p6) (hcs : cells + 1 ≤ room_1.cells ∧ slots + 6 ≤ room_1.slots) (q q_now q_now_first q_now_first_numbers q_now_second q_now_second_numbers q_trial q_past q_text q_reader q_slot0 q_slot1 q_greatestPath q_fillingsOfShape mq mq_now mq_script mq_readRow mq_trial mq_diary mq_kept mq_isKept mq_sums mq_primes mq_turned qo : Nat) (u_now_first_numbers : Nat → Int32) (u_now_second_numbers : Nat → Int32) (v_refusal : Int32) (v_scriptSize : Int32) (v_spot : Int32) (v_acts : Int32) (v_slides : Int32) (v_now : Nat → Int32) (fo : Nat → Int64) (rb : Int32) (zc0 zc1 zc2 zc3 zc4 zc5 zc6 zc7 zc8 zc9 zc10 zc11 zc12 zc13 zc14 zc15 zc16 zc17 zc18 zc19 zc20 zc21 zc22 zc23 zc24 zc25 zc26 zc27 zc28 zc29 zc30 zc31 zc32 zc33 zc34 zc35 zc36 zc37 zc38 zc39 : Nat × va_E) (hf : pX9_windowKth u_now_first_numbers u_now_second_numbers p1 p2 p3 p4 p5 p6 = some (.inl 1)) (hm : pX10_windowKth v_refusal v_now p1 p2 p3 p4 p5 p6 = some (rb, 2)) (hW : kH D A s H locs [(q, .inr (8, [.ref q_now, .ref q_trial, .ref q_past, .ref q_text, .ref q_reader, .ref q_slot0, .ref q_slot1, .ref q_greatestPath, .ref q_fillingsOfShape])), (q_now, .inr (2, [.ref q_now_first, .ref q_now_second])), (q_now_first, .inr (6, [.ref q_now_first_numbers])), (q_now_first_numbers, .inl (cI, 36, .inl u_now_first_numbers)), (q_now_second, .inr (6, [.ref q_now_second_numbers])), (q_now_second_numbers, .inl (cI, 36, .inl u_now_second_numbers)), (mq, .inr (9, [.int v_refusal, .ref mq_script, .int v_scriptSize, .int v_spot, .ref mq_readRow, .ref mq_now, .ref mq_trial, .ref mq_diary, .int v_acts, .ref mq_kept, .ref mq_isKept, .int v_slides, .ref mq_sums, .ref mq_primes, .ref mq_turned])), (mq_now, .inl (cI, 84, .inl v_now)), (qo, .inl (cJ, 1, .inr (.inl fo))), zc0, zc1, zc2, zc3, zc4, zc5, zc6, zc7, zc8, zc9, zc10, zc11, zc12, zc13, zc14, zc15, zc16, zc17, zc18, zc19, zc20, zc21, zc22, zc23, zc24, zc25, zc26, zc27, zc28, zc29, zc30, zc31, zc32, zc33, zc34, zc35, zc36, zc37, zc38, zc39]) (hl : lv_has ls 8 [(0, .ref b), (1, .ref q), (2, .ref mq), (3, .ref qo), (4, .int x4)])
    (kk : ∀ (H1 : Heap) (locs1 : List Loc) (ls1 : Array Slot), kH D A s H1 locs1 [(q, .inr (8, [.ref q_now, .ref q_trial, .ref q_past, .ref q_text, .ref q_reader, .ref q_slot0, .ref q_slot1, .ref q_greatestPath, .ref q_fillingsOfShape])), (q_now, .inr (2, [.ref q_now_first, .ref q_now_second])), (q_now_first, .inr (6, [.ref q_now_first_numbers])), (q_now_first_numbers, .inl (cI, 36, .inl u_now_first_numbers)), (q_now_second, .inr (6, [.ref q_now_second_numbers])), (q_now_second_numbers, .inl (cI, 36, .inl u_now_second_numbers)), (mq, .inr (9, [.int 2, .ref mq_script, .int v_scriptSize, .int v_spot, .ref mq_readRow, .ref mq_now, .ref mq_trial, .ref mq_diary, .int v_acts, .ref mq_kept, .ref mq_isKept, .int v_slides, .ref mq_sums, .ref mq_primes, .ref mq_turned])), (mq_now, .inl (cI, 84, .inl v_now)), (qo, .inl (cJ, 1, .inr (.inl fo))), zc0, zc1, zc2, zc3, zc4, zc5, zc6, zc7, zc8, zc9, zc10, zc11, zc12, zc13, zc14, zc15, zc16, zc17, zc18, zc19, zc20, zc21, zc22, zc23, zc24, zc25, zc26, zc27, zc28, zc29, zc30, zc31, zc32, zc33, zc34, zc35, zc36, zc37, zc38, zc39] → lv_has ls1 8 [(0, .ref b), (1, .ref q), (2, .ref mq), (3, .ref qo), (4, .int x4)] → W p l e room_1 s m #[Value.ref b] below meth c H1 locs1 (cells + 1) (slots + 6) Q (F0 m 2534 ls1 [])) : W p l e room_1 s m #[Value.ref b] below meth c H locs cells slots Q (F0 m 1433 ls []) := by
  have hx := C.1
  have hb := C.2.1
  refine lv_aload_n hx hb dL_law_1433 rfl (lv_at hl 1 rfl) ?_
  refine lv_aload_n hx hb dL_law_1434 rfl (lv_at hl 0 rfl) ?_
  refine lv_iload hx hb dL_law_1435 (lv_at hl 4 rfl) ?_
  refine lv_iconst (v := 1) hx hb dL_law_1437 (by decide) ?_
  refine lv_iadd hx hb dL_law_1438 ?_
  refine va_sld hx hb hX hbl hbA hW.2.2 hv1 dL_law_1439 ?_
  rw [hp1]
  refine lv_aload_n hx hb dL_law_1440 rfl (lv_at hl 0 rfl) ?_
  refine lv_iload hx hb dL_law_1441 (lv_at hl 4 rfl) ?_
  refine lv_iconst (v := 2) hx hb dL_law_1443 (by decide) ?_
  refine lv_iadd hx hb dL_law_1444 ?_
  refine va_sld hx hb hX hbl hbA hW.2.2 hv2 dL_law_1445 ?_
  rw [hp2]
  refine lv_aload_n hx hb dL_law_1446 rfl (lv_at hl 0 rfl) ?_
  refine lv_iload hx hb dL_law_1447 (lv_at hl 4 rfl) ?_
  refine lv_iconst (v := 3) hx hb dL_law_1449 (by decide) ?_
  refine lv_iadd hx hb dL_law_1450 ?_
  refine va_sld hx hb hX hbl hbA hW.2.2 hv3 dL_law_1451 ?_
  rw [hp3]
  refine lv_aload_n hx hb dL_law_1452 rfl (lv_at hl 0 rfl) ?_
  refine lv_iload hx hb dL_law_1453 (lv_at hl 4 rfl) ?_
  refine lv_iconst (v := 4) hx hb dL_law_1455 (by decide) ?_
  refine lv_iadd hx hb dL_law_1456 ?_
  refine va_sld hx hb hX hbl hbA hW.2.2 hv4 dL_law_1457 ?_
  rw [hp4]
  refine lv_aload_n hx hb dL_law_1458 rfl (lv_at hl 0 rfl) ?_
  refine lv_iload hx hb dL_law_1459 (lv_at hl 4 rfl) ?_
  refine lv_iconst (v := 5) hx hb dL_law_1461 (by decide) ?_
  refine lv_iadd hx hb dL_law_1462 ?_
  refine va_sld hx hb hX hbl hbA hW.2.2 hv5 dL_law_1463 ?_
  rw [hp5]
  refine lv_aload_n hx hb dL_law_1464 rfl (lv_at hl 0 rfl) ?_
  refine lv_iload hx hb dL_law_1465 (lv_at hl 4 rfl) ?_
  refine lv_bipush (v := 6) hx hb dL_law_1467 (by decide) ?_
  refine lv_iadd hx hb dL_law_1469 ?_
  refine va_sld hx hb hX hbl hbA hW.2.2 hv6 dL_law_1470 ?_
  rw [hp6]
  refine lv_aload_n hx hb dL_law_1471 rfl (lv_at hl 3 rfl) ?_
  refine k_callSW (As := [.ref q, .int p1, .int p2, .int p3, .int p4, .int p5, .int p6, .ref qo]) (n := 8) (rest := []) (st1 := [.int 2]) (wr := [(mq, .inr (9, [.int v_refusal, .ref mq_script, .int v_scriptSize, .int v_spot, .ref mq_readRow, .ref mq_now, .ref mq_trial, .ref mq_diary, .int v_acts, .ref mq_kept, .ref mq_isKept, .int v_slides, .ref mq_sums, .ref mq_primes, .ref mq_turned])), (mq_now, .inl (cI, 84, .inl v_now)), zc0, zc1, zc2, zc3, zc4, zc5, zc6, zc7, zc8, zc9, zc10, zc11, zc12, zc13, zc14, zc15, zc16, zc17, zc18, zc19, zc20, zc21, zc22, zc23, zc24, zc25, zc26, zc27, zc28, zc29, zc30, zc31, zc32, zc33, zc34, zc35, zc36, zc37, zc38, zc39]) (ws' := [(q, .inr (8, [.ref q_now, .ref q_trial, .ref q_past, .ref q_text, .ref q_reader, .ref q_slot0, .ref q_slot1, .ref q_greatestPath, .ref q_fillingsOfShape])), (q_now, .inr (2, [.ref q_now_first, .ref q_now_second])), (q_now_first, .inr (6, [.ref q_now_first_numbers])), (q_now_first_numbers, .inl (cI, 36, .inl u_now_first_numbers)), (q_now_second, .inr (6, [.ref q_now_second_numbers])), (q_now_second_numbers, .inl (cI, 36, .inl u_now_second_numbers)), (mq, .inr (9, [.int v_refusal, .ref mq_script, .int v_scriptSize, .int v_spot, .ref mq_readRow, .ref mq_now, .ref mq_trial, .ref mq_diary, .int v_acts, .ref mq_kept, .ref mq_isKept, .int v_slides, .ref mq_sums, .ref mq_primes, .ref mq_turned])), (mq_now, .inl (cI, 84, .inl v_now)), (qo, .inl (cJ, 1, .inr (.inl fo))), zc0, zc1, zc2, zc3, zc4, zc5, zc6, zc7, zc8, zc9, zc10, zc11, zc12, zc13, zc14, zc15, zc16, zc17, zc18, zc19, zc20, zc21, zc22, zc23, zc24, zc25, zc26, zc27, zc28, zc29, zc30, zc31, zc32, zc33, zc34, zc35, zc36, zc37, zc38, zc39]) C hE hW hl.1 (kL_windowKth_t1 l hlt D cI cZ cJ _ q q_now q_now_first q_now_first_numbers q_now_second q_now_second_numbers q_trial q_past q_text q_reader q_slot0 q_slot1 q_greatestPath q_fillingsOfShape qo u_now_first_numbers u_now_second_numbers fo p1 p2 p3 p4 p5 p6 hf) gL_law_L_windowKth rfl (by decide +kernel) rfl ⟨(Nat.le_of_ble_eq_true rfl), (Nat.le_of_ble_eq_true rfl)⟩ ⟨by omega, by omega⟩ [0, 1, 2, 3, 4, 5, 8] [6, 7, 9, 10, 11, 12, 13, 14, 15, 16, 17, 18, 19, 20, 21, 22, 23, 24, 25, 26, 27, 28, 29, 30, 31, 32, 33, 34, 35, 36, 37, 38, 39, 40, 41, 42, 43, 44, 45, 46, 47, 48] [42, 43, 44, 45, 46, 47, 0, 1, 48, 2, 3, 4, 5, 6, 7, 8, 9, 10, 11, 12, 13, 14, 15, 16, 17, 18, 19, 20, 21, 22, 23, 24, 25, 26, 27, 28, 29, 30, 31, 32, 33, 34, 35, 36, 37, 38, 39, 40, 41] rfl rfl rfl rfl (by decide) rfl rfl (Nat.le_of_ble_eq_true rfl) rfl rfl dL_law_1472 (fun H locs hW => ?_)
  refine lv_istore (lv' := [(5, .int 2), (0, .ref b), (1, .ref q), (2, .ref mq), (3, .ref qo), (4, .int x4)]) hx hb dL_law_1475 hl (by decide) rfl (fun ls hl => ?_)
  refine lv_aload_n hx hb dL_law_1477 rfl (lv_at hl 3 rfl) ?_
  refine lv_aload_n hx hb dL_law_1478 rfl (lv_at hl 1 rfl) ?_
  refine lv_iload hx hb dL_law_1479 (lv_at hl 5 rfl) ?_
  refine lv_iconst (v := 1) hx hb dL_law_1481 (by decide) ?_
  refine lv_iadd hx hb dL_law_1482 ?_
  refine va_sld hx hb hX hbl hbA hW.2.2 hv1 dL_law_1483 ?_
  rw [hp1]
  refine lv_aload_n hx hb dL_law_1484 rfl (lv_at hl 1 rfl) ?_
  refine lv_iload hx hb dL_law_1485 (lv_at hl 5 rfl) ?_
  refine lv_iconst (v := 2) hx hb dL_law_1487 (by decide) ?_
  refine lv_iadd hx hb dL_law_1488 ?_
  refine va_sld hx hb hX hbl hbA hW.2.2 hv2 dL_law_1489 ?_
  rw [hp2]
  refine lv_aload_n hx hb dL_law_1490 rfl (lv_at hl 1 rfl) ?_
  refine lv_iload hx hb dL_law_1491 (lv_at hl 5 rfl) ?_
  refine lv_iconst (v := 3) hx hb dL_law_1493 (by decide) ?_
  refine lv_iadd hx hb dL_law_1494 ?_
  refine va_sld hx hb hX hbl hbA hW.2.2 hv3 dL_law_1495 ?_
  rw [hp3]
  refine lv_aload_n hx hb dL_law_1496 rfl (lv_at hl 1 rfl) ?_
  refine lv_iload hx hb dL_law_1497 (lv_at hl 5 rfl) ?_
  refine lv_iconst (v := 4) hx hb dL_law_1499 (by decide) ?_
  refine lv_iadd hx hb dL_law_1500 ?_
  refine va_sld hx hb hX hbl hbA hW.2.2 hv4 dL_law_1501 ?_
  rw [hp4]
  refine lv_aload_n hx hb dL_law_1502 rfl (lv_at hl 1 rfl) ?_
  refine lv_iload hx hb dL_law_1503 (lv_at hl 5 rfl) ?_
  refine lv_iconst (v := 5) hx hb dL_law_1505 (by decide) ?_
  refine lv_iadd hx hb dL_law_1506 ?_
  refine va_sld hx hb hX hbl hbA hW.2.2 hv5 dL_law_1507 ?_
  rw [hp5]
  refine lv_aload_n hx hb dL_law_1508 rfl (lv_at hl 1 rfl) ?_
  refine lv_iload hx hb dL_law_1509 (lv_at hl 5 rfl) ?_
  refine lv_bipush (v := 6) hx hb dL_law_1511 (by decide) ?_
  refine lv_iadd hx hb dL_law_1513 ?_
  refine va_sld hx hb hX hbl hbA hW.2.2 hv6 dL_law_1514 ?_
  rw [hp6]
  refine k_callV (b := mq) (ci := 9) (qb := 0) (As := [.int p1, .int p2, .int p3, .int p4, .int p5, .int p6]) (n := 6) (rest := []) (st1 := [.int rb]) (wr := [(q, .inr (8, [.ref q_now, .ref q_trial, .ref q_past, .ref q_text, .ref q_reader, .ref q_slot0, .ref q_slot1, .ref q_greatestPath, .ref q_fillingsOfShape])), (q_now, .inr (2, [.ref q_now_first, .ref q_now_second])), (q_now_first, .inr (6, [.ref q_now_first_numbers])), (q_now_first_numbers, .inl (cI, 36, .inl u_now_first_numbers)), (q_now_second, .inr (6, [.ref q_now_second_numbers])), (q_now_second_numbers, .inl (cI, 36, .inl u_now_second_numbers)), (qo, .inl (cJ, 1, .inr (.inl fo))), zc0, zc1, zc2, zc3, zc4, zc5, zc6, zc7, zc8, zc9, zc10, zc11, zc12, zc13, zc14, zc15, zc16, zc17, zc18, zc19, zc20, zc21, zc22, zc23, zc24, zc25, zc26, zc27, zc28, zc29, zc30, zc31, zc32, zc33, zc34, zc35, zc36, zc37, zc38, zc39]) (ws' := [(q, .inr (8, [.ref q_now, .ref q_trial, .ref q_past, .ref q_text, .ref q_reader, .ref q_slot0, .ref q_slot1, .ref q_greatestPath, .ref q_fillingsOfShape])), (q_now, .inr (2, [.ref q_now_first, .ref q_now_second])), (q_now_first, .inr (6, [.ref q_now_first_numbers])), (q_now_first_numbers, .inl (cI, 36, .inl u_now_first_numbers)), (q_now_second, .inr (6, [.ref q_now_second_numbers])), (q_now_second_numbers, .inl (cI, 36, .inl u_now_second_numbers)), (mq, .inr (9, [.int 2, .ref mq_script, .int v_scriptSize, .int v_spot, .ref mq_readRow, .ref mq_now, .ref mq_trial, .ref mq_diary, .int v_acts, .ref mq_kept, .ref mq_isKept, .int v_slides, .ref mq_sums, .ref mq_primes, .ref mq_turned])), (mq_now, .inl (cI, 84, .inl v_now)), (qo, .inl (cJ, 1, .inr (.inl fo))), zc0, zc1, zc2, zc3, zc4, zc5, zc6, zc7, zc8, zc9, zc10, zc11, zc12, zc13, zc14, zc15, zc16, zc17, zc18, zc19, zc20, zc21, zc22, zc23, zc24, zc25, zc26, zc27, zc28, zc29, zc30, zc31, zc32, zc33, zc34, zc35, zc36, zc37, zc38, zc39]) C hE hW hl.1 (kX10_windowKth l D cI cZ cJ _ mq mq_now mq_script mq_readRow mq_trial mq_diary mq_kept mq_isKept mq_sums mq_primes mq_turned v_refusal v_scriptSize v_spot v_acts v_slides v_now p1 p2 p3 p4 p5 p6 rb 2 hm) gL_law_X10_windowKth rfl (by decide +kernel) rfl ⟨(Nat.le_of_ble_eq_true rfl), (Nat.le_of_ble_eq_true rfl)⟩ ⟨by omega, by omega⟩ rfl rfl [6, 7] [0, 1, 2, 3, 4, 5, 8, 9, 10, 11, 12, 13, 14, 15, 16, 17, 18, 19, 20, 21, 22, 23, 24, 25, 26, 27, 28, 29, 30, 31, 32, 33, 34, 35, 36, 37, 38, 39, 40, 41, 42, 43, 44, 45, 46, 47, 48] [0, 1, 2, 3, 4, 5, 47, 48, 6, 7, 8, 9, 10, 11, 12, 13, 14, 15, 16, 17, 18, 19, 20, 21, 22, 23, 24, 25, 26, 27, 28, 29, 30, 31, 32, 33, 34, 35, 36, 37, 38, 39, 40, 41, 42, 43, 44, 45, 46] rfl rfl rfl rfl (by decide) rfl rfl (Nat.le_of_ble_eq_true rfl) rfl rfl dL_law_1515 (fun H locs hW => ?_)
  refine lv_istore (lv' := [(6, .int rb), (5, .int 2), (0, .ref b), (1, .ref q), (2, .ref mq), (3, .ref qo), (4, .int x4)]) hx hb dL_law_1518 hl (by decide) rfl (fun ls hl => ?_)
  refine lv_aload_n hx hb dL_law_1520 rfl (lv_at hl 4 rfl) ?_
  refine k_callVR (b := mq) (ci := 9) (qb := 0) (As := []) (n := 0) (rest := []) (st1 := [.int 2]) C hE hW hl.1 (kX10_thrown l D cI cZ cJ _ mq mq_script mq_readRow mq_now mq_trial mq_diary mq_kept mq_isKept mq_sums mq_primes mq_turned 2 v_scriptSize v_spot v_acts v_slides 2 rfl) gL_law_X10_thrown rfl (by decide +kernel) rfl ⟨(Nat.le_of_ble_eq_true rfl), (Nat.le_of_ble_eq_true rfl)⟩ ⟨by omega, by omega⟩ rfl rfl [6] rfl rfl (Nat.le_of_ble_eq_true rfl) rfl rfl dL_law_1521 (fun H locs hW => ?_)
  refine lv_iload hx hb dL_law_1524 (lv_at hl 1 rfl) ?_
  refine lv_icmp_eq (tgt := 1531) hx hb dL_law_1526 (by decide) (fun _ => ?_) (fun hc => absurd rfl hc)
  refine lv_iload hx hb dL_law_1531 (lv_at hl 1 rfl) ?_
  refine lv_if_ne (tgt := 1548) hx hb dL_law_1533 (by decide) (fun _ => ?_) (fun hc => absurd hc (by decide))
  refine lv_goto (tgt := 2534) hx hb dL_law_1548 (by decide) ?_
  exact kk _ _ _ hW (lv_sub hl [2, 3, 4, 5, 6] rfl)
set_option maxHeartbeats 4000000 in
set_option maxRecDepth 100000 in
theorem lc_kthOfBoth_r_z0 (hlt : l.stackTraces = false) (C : CallFix p m c cL_law 8 s #[Value.ref b] wsL_law RL) (hE : kEn D cI cZ cJ A s) (hX : va_X b L xs s s.heap) (hbl : b < s.heap.size) (hbA : ¬ A b) (x4 : Int32) (p1 : Int32) (hv1 : vp_in (x4 + 1) L) (hp1 : xs (x4 + 1).toNatClampNeg = p1) (p2 : Int32) (hv2 : vp_in (x4 + 2) L) (hp2 : xs (x4 + 2).toNatClampNeg = p2) (hz : p2 = 0) (hcs : cells + 1 ≤ room_1.cells ∧ slots + 6 ≤ room_1.slots) (q q_now q_now_first q_now_first_numbers q_now_second q_now_second_numbers q_trial q_past q_text q_reader q_slot0 q_slot1 q_greatestPath q_fillingsOfShape mq mq_now mq_script mq_readRow mq_trial mq_diary mq_kept mq_isKept mq_sums mq_primes mq_turned qo : Nat) (u_now_first_numbers : Nat → Int32) (u_now_second_numbers : Nat → Int32) (v_refusal : Int32) (v_scriptSize : Int32) (v_spot : Int32) (v_acts : Int32) (v_slides : Int32) (v_now : Nat → Int32) (fo : Nat → Int64) (r : Int32) (zc0 zc1 zc2 zc3 zc4 zc5 zc6 zc7 zc8 zc9 zc10 zc11 zc12 zc13 zc14 zc15 zc16 zc17 zc18 zc19 zc20 zc21 zc22 zc23 zc24 zc25 zc26 zc27 zc28 zc29 zc30 zc31 zc32 zc33 zc34 zc35 zc36 zc37 zc38 zc39 : Nat × va_E) (hf : pX9_kthOfBoth u_now_first_numbers u_now_second_numbers p1 0 = some (.inr r)) (hm : pX10_kthOfBoth v_refusal v_now p1 0 = some (r, 0)) (hW : kH D A s H locs [(q, .inr (8, [.ref q_now, .ref q_trial, .ref q_past, .ref q_text, .ref q_reader, .ref q_slot0, .ref q_slot1, .ref q_greatestPath, .ref q_fillingsOfShape])), (q_now, .inr (2, [.ref q_now_first, .ref q_now_second])), (q_now_first, .inr (6, [.ref q_now_first_numbers])), (q_now_first_numbers, .inl (cI, 36, .inl u_now_first_numbers)), (q_now_second, .inr (6, [.ref q_now_second_numbers])), (q_now_second_numbers, .inl (cI, 36, .inl u_now_second_numbers)), (mq, .inr (9, [.int v_refusal, .ref mq_script, .int v_scriptSize, .int v_spot, .ref mq_readRow, .ref mq_now, .ref mq_trial, .ref mq_diary, .int v_acts, .ref mq_kept, .ref mq_isKept, .int v_slides, .ref mq_sums, .ref mq_primes, .ref mq_turned])), (mq_now, .inl (cI, 84, .inl v_now)), (qo, .inl (cJ, 1, .inr (.inl fo))), zc0, zc1, zc2, zc3, zc4, zc5, zc6, zc7, zc8, zc9, zc10, zc11, zc12, zc13, zc14, zc15, zc16, zc17, zc18, zc19, zc20, zc21, zc22, zc23, zc24, zc25, zc26, zc27, zc28, zc29, zc30, zc31, zc32, zc33, zc34, zc35, zc36, zc37, zc38, zc39]) (hl : lv_has ls 8 [(0, .ref b), (1, .ref q), (2, .ref mq), (3, .ref qo), (4, .int x4)])
    (kk : ∀ (H1 : Heap) (locs1 : List Loc) (ls1 : Array Slot), kH D A s H1 locs1 [(q, .inr (8, [.ref q_now, .ref q_trial, .ref q_past, .ref q_text, .ref q_reader, .ref q_slot0, .ref q_slot1, .ref q_greatestPath, .ref q_fillingsOfShape])), (q_now, .inr (2, [.ref q_now_first, .ref q_now_second])), (q_now_first, .inr (6, [.ref q_now_first_numbers])), (q_now_first_numbers, .inl (cI, 36, .inl u_now_first_numbers)), (q_now_second, .inr (6, [.ref q_now_second_numbers])), (q_now_second_numbers, .inl (cI, 36, .inl u_now_second_numbers)), (mq, .inr (9, [.int 0, .ref mq_script, .int v_scriptSize, .int v_spot, .ref mq_readRow, .ref mq_now, .ref mq_trial, .ref mq_diary, .int v_acts, .ref mq_kept, .ref mq_isKept, .int v_slides, .ref mq_sums, .ref mq_primes, .ref mq_turned])), (mq_now, .inl (cI, 84, .inl v_now)), (qo, .inl (cJ, 1, .inr (.inl (vp_updL fo 0 (r.toInt64))))), zc0, zc1, zc2, zc3, zc4, zc5, zc6, zc7, zc8, zc9, zc10, zc11, zc12, zc13, zc14, zc15, zc16, zc17, zc18, zc19, zc20, zc21, zc22, zc23, zc24, zc25, zc26, zc27, zc28, zc29, zc30, zc31, zc32, zc33, zc34, zc35, zc36, zc37, zc38, zc39] → lv_has ls1 8 [(0, .ref b), (1, .ref q), (2, .ref mq), (3, .ref qo), (4, .int x4)] → W p l e room_1 s m #[Value.ref b] below meth c H1 locs1 cells slots Q (F0 m 2534 ls1 [])) : W p l e room_1 s m #[Value.ref b] below meth c H locs cells slots Q (F0 m 1551 ls []) := by
  have hx := C.1
  have hb := C.2.1
  refine lv_aload_n hx hb dL_law_1551 rfl (lv_at hl 1 rfl) ?_
  refine lv_aload_n hx hb dL_law_1552 rfl (lv_at hl 0 rfl) ?_
  refine lv_iload hx hb dL_law_1553 (lv_at hl 4 rfl) ?_
  refine lv_iconst (v := 1) hx hb dL_law_1555 (by decide) ?_
  refine lv_iadd hx hb dL_law_1556 ?_
  refine va_sld hx hb hX hbl hbA hW.2.2 hv1 dL_law_1557 ?_
  rw [hp1]
  refine lv_aload_n hx hb dL_law_1558 rfl (lv_at hl 0 rfl) ?_
  refine lv_iload hx hb dL_law_1559 (lv_at hl 4 rfl) ?_
  refine lv_iconst (v := 2) hx hb dL_law_1561 (by decide) ?_
  refine lv_iadd hx hb dL_law_1562 ?_
  refine va_sld hx hb hX hbl hbA hW.2.2 hv2 dL_law_1563 ?_
  rw [hp2]
  refine lv_if_eq (tgt := 1571) hx hb dL_law_1564 (by decide) (fun _ => ?_) (fun hc => absurd hz hc)
  refine lv_iconst (v := 0) hx hb dL_law_1571 (by decide) ?_
  refine lv_aload_n hx hb dL_law_1572 rfl (lv_at hl 3 rfl) ?_
  refine k_callSW (As := [.ref q, .int p1, .int 0, .ref qo]) (n := 4) (rest := []) (st1 := [.int 0]) (wr := [(mq, .inr (9, [.int v_refusal, .ref mq_script, .int v_scriptSize, .int v_spot, .ref mq_readRow, .ref mq_now, .ref mq_trial, .ref mq_diary, .int v_acts, .ref mq_kept, .ref mq_isKept, .int v_slides, .ref mq_sums, .ref mq_primes, .ref mq_turned])), (mq_now, .inl (cI, 84, .inl v_now)), zc0, zc1, zc2, zc3, zc4, zc5, zc6, zc7, zc8, zc9, zc10, zc11, zc12, zc13, zc14, zc15, zc16, zc17, zc18, zc19, zc20, zc21, zc22, zc23, zc24, zc25, zc26, zc27, zc28, zc29, zc30, zc31, zc32, zc33, zc34, zc35, zc36, zc37, zc38, zc39]) (ws' := [(q, .inr (8, [.ref q_now, .ref q_trial, .ref q_past, .ref q_text, .ref q_reader, .ref q_slot0, .ref q_slot1, .ref q_greatestPath, .ref q_fillingsOfShape])), (q_now, .inr (2, [.ref q_now_first, .ref q_now_second])), (q_now_first, .inr (6, [.ref q_now_first_numbers])), (q_now_first_numbers, .inl (cI, 36, .inl u_now_first_numbers)), (q_now_second, .inr (6, [.ref q_now_second_numbers])), (q_now_second_numbers, .inl (cI, 36, .inl u_now_second_numbers)), (mq, .inr (9, [.int v_refusal, .ref mq_script, .int v_scriptSize, .int v_spot, .ref mq_readRow, .ref mq_now, .ref mq_trial, .ref mq_diary, .int v_acts, .ref mq_kept, .ref mq_isKept, .int v_slides, .ref mq_sums, .ref mq_primes, .ref mq_turned])), (mq_now, .inl (cI, 84, .inl v_now)), (qo, .inl (cJ, 1, .inr (.inl (vp_updL fo 0 (r.toInt64))))), zc0, zc1, zc2, zc3, zc4, zc5, zc6, zc7, zc8, zc9, zc10, zc11, zc12, zc13, zc14, zc15, zc16, zc17, zc18, zc19, zc20, zc21, zc22, zc23, zc24, zc25, zc26, zc27, zc28, zc29, zc30, zc31, zc32, zc33, zc34, zc35, zc36, zc37, zc38, zc39]) C hE hW hl.1 (kL_kthOfBoth_r l hlt D cI cZ cJ _ q q_now q_now_first q_now_first_numbers q_now_second q_now_second_numbers q_trial q_past q_text q_reader q_slot0 q_slot1 q_greatestPath q_fillingsOfShape qo u_now_first_numbers u_now_second_numbers fo p1 0 r (vp_updL fo 0 (r.toInt64)) hf (sJ_0 fo _)) gL_law_L_kthOfBoth rfl (by decide +kernel) rfl ⟨(Nat.le_of_ble_eq_true rfl), (Nat.le_of_ble_eq_true rfl)⟩ ⟨by omega, by omega⟩ [0, 1, 2, 3, 4, 5, 8] [6, 7, 9, 10, 11, 12, 13, 14, 15, 16, 17, 18, 19, 20, 21, 22, 23, 24, 25, 26, 27, 28, 29, 30, 31, 32, 33, 34, 35, 36, 37, 38, 39, 40, 41, 42, 43, 44, 45, 46, 47, 48] [42, 43, 44, 45, 46, 47, 0, 1, 48, 2, 3, 4, 5, 6, 7, 8, 9, 10, 11, 12, 13, 14, 15, 16, 17, 18, 19, 20, 21, 22, 23, 24, 25, 26, 27, 28, 29, 30, 31, 32, 33, 34, 35, 36, 37, 38, 39, 40, 41] rfl rfl rfl rfl (by decide) rfl rfl (Nat.le_of_ble_eq_true rfl) rfl rfl dL_law_1573 (fun H locs hW => ?_)
  refine lv_istore (lv' := [(5, .int 0), (0, .ref b), (1, .ref q), (2, .ref mq), (3, .ref qo), (4, .int x4)]) hx hb dL_law_1576 hl (by decide) rfl (fun ls hl => ?_)
  refine lv_aload_n hx hb dL_law_1578 rfl (lv_at hl 3 rfl) ?_
  refine lv_aload_n hx hb dL_law_1579 rfl (lv_at hl 1 rfl) ?_
  refine lv_iload hx hb dL_law_1580 (lv_at hl 5 rfl) ?_
  refine lv_iconst (v := 1) hx hb dL_law_1582 (by decide) ?_
  refine lv_iadd hx hb dL_law_1583 ?_
  refine va_sld hx hb hX hbl hbA hW.2.2 hv1 dL_law_1584 ?_
  rw [hp1]
  refine lv_aload_n hx hb dL_law_1585 rfl (lv_at hl 1 rfl) ?_
  refine lv_iload hx hb dL_law_1586 (lv_at hl 5 rfl) ?_
  refine lv_iconst (v := 2) hx hb dL_law_1588 (by decide) ?_
  refine lv_iadd hx hb dL_law_1589 ?_
  refine va_sld hx hb hX hbl hbA hW.2.2 hv2 dL_law_1590 ?_
  rw [hp2]
  refine lv_if_eq (tgt := 1598) hx hb dL_law_1591 (by decide) (fun _ => ?_) (fun hc => absurd hz hc)
  refine lv_iconst (v := 0) hx hb dL_law_1598 (by decide) ?_
  refine k_callV (b := mq) (ci := 9) (qb := 0) (As := [.int p1, .int 0]) (n := 2) (rest := []) (st1 := [.int r]) (wr := [(q, .inr (8, [.ref q_now, .ref q_trial, .ref q_past, .ref q_text, .ref q_reader, .ref q_slot0, .ref q_slot1, .ref q_greatestPath, .ref q_fillingsOfShape])), (q_now, .inr (2, [.ref q_now_first, .ref q_now_second])), (q_now_first, .inr (6, [.ref q_now_first_numbers])), (q_now_first_numbers, .inl (cI, 36, .inl u_now_first_numbers)), (q_now_second, .inr (6, [.ref q_now_second_numbers])), (q_now_second_numbers, .inl (cI, 36, .inl u_now_second_numbers)), (qo, .inl (cJ, 1, .inr (.inl (vp_updL fo 0 (r.toInt64))))), zc0, zc1, zc2, zc3, zc4, zc5, zc6, zc7, zc8, zc9, zc10, zc11, zc12, zc13, zc14, zc15, zc16, zc17, zc18, zc19, zc20, zc21, zc22, zc23, zc24, zc25, zc26, zc27, zc28, zc29, zc30, zc31, zc32, zc33, zc34, zc35, zc36, zc37, zc38, zc39]) (ws' := [(q, .inr (8, [.ref q_now, .ref q_trial, .ref q_past, .ref q_text, .ref q_reader, .ref q_slot0, .ref q_slot1, .ref q_greatestPath, .ref q_fillingsOfShape])), (q_now, .inr (2, [.ref q_now_first, .ref q_now_second])), (q_now_first, .inr (6, [.ref q_now_first_numbers])), (q_now_first_numbers, .inl (cI, 36, .inl u_now_first_numbers)), (q_now_second, .inr (6, [.ref q_now_second_numbers])), (q_now_second_numbers, .inl (cI, 36, .inl u_now_second_numbers)), (mq, .inr (9, [.int 0, .ref mq_script, .int v_scriptSize, .int v_spot, .ref mq_readRow, .ref mq_now, .ref mq_trial, .ref mq_diary, .int v_acts, .ref mq_kept, .ref mq_isKept, .int v_slides, .ref mq_sums, .ref mq_primes, .ref mq_turned])), (mq_now, .inl (cI, 84, .inl v_now)), (qo, .inl (cJ, 1, .inr (.inl (vp_updL fo 0 (r.toInt64))))), zc0, zc1, zc2, zc3, zc4, zc5, zc6, zc7, zc8, zc9, zc10, zc11, zc12, zc13, zc14, zc15, zc16, zc17, zc18, zc19, zc20, zc21, zc22, zc23, zc24, zc25, zc26, zc27, zc28, zc29, zc30, zc31, zc32, zc33, zc34, zc35, zc36, zc37, zc38, zc39]) C hE hW hl.1 (kX10_kthOfBoth l D cI cZ cJ _ mq mq_now mq_script mq_readRow mq_trial mq_diary mq_kept mq_isKept mq_sums mq_primes mq_turned v_refusal v_scriptSize v_spot v_acts v_slides v_now p1 0 r 0 hm) gL_law_X10_kthOfBoth rfl (by decide +kernel) rfl ⟨(Nat.le_of_ble_eq_true rfl), (Nat.le_of_ble_eq_true rfl)⟩ ⟨by omega, by omega⟩ rfl rfl [6, 7] [0, 1, 2, 3, 4, 5, 8, 9, 10, 11, 12, 13, 14, 15, 16, 17, 18, 19, 20, 21, 22, 23, 24, 25, 26, 27, 28, 29, 30, 31, 32, 33, 34, 35, 36, 37, 38, 39, 40, 41, 42, 43, 44, 45, 46, 47, 48] [0, 1, 2, 3, 4, 5, 47, 48, 6, 7, 8, 9, 10, 11, 12, 13, 14, 15, 16, 17, 18, 19, 20, 21, 22, 23, 24, 25, 26, 27, 28, 29, 30, 31, 32, 33, 34, 35, 36, 37, 38, 39, 40, 41, 42, 43, 44, 45, 46] rfl rfl rfl rfl (by decide) rfl rfl (Nat.le_of_ble_eq_true rfl) rfl rfl dL_law_1599 (fun H locs hW => ?_)
  refine lv_istore (lv' := [(6, .int r), (5, .int 0), (0, .ref b), (1, .ref q), (2, .ref mq), (3, .ref qo), (4, .int x4)]) hx hb dL_law_1602 hl (by decide) rfl (fun ls hl => ?_)
  refine lv_aload_n hx hb dL_law_1604 rfl (lv_at hl 4 rfl) ?_
  refine k_callVR (b := mq) (ci := 9) (qb := 0) (As := []) (n := 0) (rest := []) (st1 := [.int 0]) C hE hW hl.1 (kX10_thrown l D cI cZ cJ _ mq mq_script mq_readRow mq_now mq_trial mq_diary mq_kept mq_isKept mq_sums mq_primes mq_turned 0 v_scriptSize v_spot v_acts v_slides 0 rfl) gL_law_X10_thrown rfl (by decide +kernel) rfl ⟨(Nat.le_of_ble_eq_true rfl), (Nat.le_of_ble_eq_true rfl)⟩ ⟨by omega, by omega⟩ rfl rfl [6] rfl rfl (Nat.le_of_ble_eq_true rfl) rfl rfl dL_law_1605 (fun H locs hW => ?_)
  refine lv_iload hx hb dL_law_1608 (lv_at hl 1 rfl) ?_
  refine lv_icmp_eq (tgt := 1615) hx hb dL_law_1610 (by decide) (fun _ => ?_) (fun hc => absurd rfl hc)
  refine lv_iload hx hb dL_law_1615 (lv_at hl 1 rfl) ?_
  refine lv_if_ne (tgt := 1632) hx hb dL_law_1617 (by decide) (fun hc => absurd rfl hc) (fun _ => ?_)
  refine lv_aload_n hx hb dL_law_1620 rfl (lv_at hl 5 rfl) ?_
  refine lv_iconst (v := 0) hx hb dL_law_1621 (by decide) ?_
  refine k_lald C hE hW 8 rfl (gJ_0 fo _) dL_law_1622 ?_
  refine lv_iload hx hb dL_law_1623 (lv_at hl 0 rfl) ?_
  refine lv_i2l hx hb dL_law_1625 rfl ?_
  refine W.lcmp hx hb dL_law_1626 ?_
  refine lv_if_eq (tgt := 1632) hx hb dL_law_1627 (by decide) (fun _ => ?_) (fun hc => absurd (cmp_self _) hc)
  refine lv_goto (tgt := 2534) hx hb dL_law_1632 (by decide) ?_
  exact kk _ _ _ hW (lv_sub hl [2, 3, 4, 5, 6] rfl)
set_option maxHeartbeats 4000000 in
set_option maxRecDepth 100000 in
theorem lc_kthOfBoth_r_z1 (hlt : l.stackTraces = false) (C : CallFix p m c cL_law 8 s #[Value.ref b] wsL_law RL) (hE : kEn D cI cZ cJ A s) (hX : va_X b L xs s s.heap) (hbl : b < s.heap.size) (hbA : ¬ A b) (x4 : Int32) (p1 : Int32) (hv1 : vp_in (x4 + 1) L) (hp1 : xs (x4 + 1).toNatClampNeg = p1) (p2 : Int32) (hv2 : vp_in (x4 + 2) L) (hp2 : xs (x4 + 2).toNatClampNeg = p2) (hz : ¬ p2 = 0) (hcs : cells + 1 ≤ room_1.cells ∧ slots + 6 ≤ room_1.slots) (q q_now q_now_first q_now_first_numbers q_now_second q_now_second_numbers q_trial q_past q_text q_reader q_slot0 q_slot1 q_greatestPath q_fillingsOfShape mq mq_now mq_script mq_readRow mq_trial mq_diary mq_kept mq_isKept mq_sums mq_primes mq_turned qo : Nat) (u_now_first_numbers : Nat → Int32) (u_now_second_numbers : Nat → Int32) (v_refusal : Int32) (v_scriptSize : Int32) (v_spot : Int32) (v_acts : Int32) (v_slides : Int32) (v_now : Nat → Int32) (fo : Nat → Int64) (r : Int32) (zc0 zc1 zc2 zc3 zc4 zc5 zc6 zc7 zc8 zc9 zc10 zc11 zc12 zc13 zc14 zc15 zc16 zc17 zc18 zc19 zc20 zc21 zc22 zc23 zc24 zc25 zc26 zc27 zc28 zc29 zc30 zc31 zc32 zc33 zc34 zc35 zc36 zc37 zc38 zc39 : Nat × va_E) (hf : pX9_kthOfBoth u_now_first_numbers u_now_second_numbers p1 1 = some (.inr r)) (hm : pX10_kthOfBoth v_refusal v_now p1 1 = some (r, 0)) (hW : kH D A s H locs [(q, .inr (8, [.ref q_now, .ref q_trial, .ref q_past, .ref q_text, .ref q_reader, .ref q_slot0, .ref q_slot1, .ref q_greatestPath, .ref q_fillingsOfShape])), (q_now, .inr (2, [.ref q_now_first, .ref q_now_second])), (q_now_first, .inr (6, [.ref q_now_first_numbers])), (q_now_first_numbers, .inl (cI, 36, .inl u_now_first_numbers)), (q_now_second, .inr (6, [.ref q_now_second_numbers])), (q_now_second_numbers, .inl (cI, 36, .inl u_now_second_numbers)), (mq, .inr (9, [.int v_refusal, .ref mq_script, .int v_scriptSize, .int v_spot, .ref mq_readRow, .ref mq_now, .ref mq_trial, .ref mq_diary, .int v_acts, .ref mq_kept, .ref mq_isKept, .int v_slides, .ref mq_sums, .ref mq_primes, .ref mq_turned])), (mq_now, .inl (cI, 84, .inl v_now)), (qo, .inl (cJ, 1, .inr (.inl fo))), zc0, zc1, zc2, zc3, zc4, zc5, zc6, zc7, zc8, zc9, zc10, zc11, zc12, zc13, zc14, zc15, zc16, zc17, zc18, zc19, zc20, zc21, zc22, zc23, zc24, zc25, zc26, zc27, zc28, zc29, zc30, zc31, zc32, zc33, zc34, zc35, zc36, zc37, zc38, zc39]) (hl : lv_has ls 8 [(0, .ref b), (1, .ref q), (2, .ref mq), (3, .ref qo), (4, .int x4)])
    (kk : ∀ (H1 : Heap) (locs1 : List Loc) (ls1 : Array Slot), kH D A s H1 locs1 [(q, .inr (8, [.ref q_now, .ref q_trial, .ref q_past, .ref q_text, .ref q_reader, .ref q_slot0, .ref q_slot1, .ref q_greatestPath, .ref q_fillingsOfShape])), (q_now, .inr (2, [.ref q_now_first, .ref q_now_second])), (q_now_first, .inr (6, [.ref q_now_first_numbers])), (q_now_first_numbers, .inl (cI, 36, .inl u_now_first_numbers)), (q_now_second, .inr (6, [.ref q_now_second_numbers])), (q_now_second_numbers, .inl (cI, 36, .inl u_now_second_numbers)), (mq, .inr (9, [.int 0, .ref mq_script, .int v_scriptSize, .int v_spot, .ref mq_readRow, .ref mq_now, .ref mq_trial, .ref mq_diary, .int v_acts, .ref mq_kept, .ref mq_isKept, .int v_slides, .ref mq_sums, .ref mq_primes, .ref mq_turned])), (mq_now, .inl (cI, 84, .inl v_now)), (qo, .inl (cJ, 1, .inr (.inl (vp_updL fo 0 (r.toInt64))))), zc0, zc1, zc2, zc3, zc4, zc5, zc6, zc7, zc8, zc9, zc10, zc11, zc12, zc13, zc14, zc15, zc16, zc17, zc18, zc19, zc20, zc21, zc22, zc23, zc24, zc25, zc26, zc27, zc28, zc29, zc30, zc31, zc32, zc33, zc34, zc35, zc36, zc37, zc38, zc39] → lv_has ls1 8 [(0, .ref b), (1, .ref q), (2, .ref mq), (3, .ref qo), (4, .int x4)] → W p l e room_1 s m #[Value.ref b] below meth c H1 locs1 cells slots Q (F0 m 2534 ls1 [])) : W p l e room_1 s m #[Value.ref b] below meth c H locs cells slots Q (F0 m 1551 ls []) := by
  have hx := C.1
  have hb := C.2.1
  refine lv_aload_n hx hb dL_law_1551 rfl (lv_at hl 1 rfl) ?_
  refine lv_aload_n hx hb dL_law_1552 rfl (lv_at hl 0 rfl) ?_
  refine lv_iload hx hb dL_law_1553 (lv_at hl 4 rfl) ?_
  refine lv_iconst (v := 1) hx hb dL_law_1555 (by decide) ?_
  refine lv_iadd hx hb dL_law_1556 ?_
  refine va_sld hx hb hX hbl hbA hW.2.2 hv1 dL_law_1557 ?_
  rw [hp1]
  refine lv_aload_n hx hb dL_law_1558 rfl (lv_at hl 0 rfl) ?_
  refine lv_iload hx hb dL_law_1559 (lv_at hl 4 rfl) ?_
  refine lv_iconst (v := 2) hx hb dL_law_1561 (by decide) ?_
  refine lv_iadd hx hb dL_law_1562 ?_
  refine va_sld hx hb hX hbl hbA hW.2.2 hv2 dL_law_1563 ?_
  rw [hp2]
  refine lv_if_eq (tgt := 1571) hx hb dL_law_1564 (by decide) (fun hc => absurd hc hz) (fun _ => ?_)
  refine lv_iconst (v := 1) hx hb dL_law_1567 (by decide) ?_
  refine lv_goto (tgt := 1572) hx hb dL_law_1568 (by decide) ?_
  refine lv_aload_n hx hb dL_law_1572 rfl (lv_at hl 3 rfl) ?_
  refine k_callSW (As := [.ref q, .int p1, .int 1, .ref qo]) (n := 4) (rest := []) (st1 := [.int 0]) (wr := [(mq, .inr (9, [.int v_refusal, .ref mq_script, .int v_scriptSize, .int v_spot, .ref mq_readRow, .ref mq_now, .ref mq_trial, .ref mq_diary, .int v_acts, .ref mq_kept, .ref mq_isKept, .int v_slides, .ref mq_sums, .ref mq_primes, .ref mq_turned])), (mq_now, .inl (cI, 84, .inl v_now)), zc0, zc1, zc2, zc3, zc4, zc5, zc6, zc7, zc8, zc9, zc10, zc11, zc12, zc13, zc14, zc15, zc16, zc17, zc18, zc19, zc20, zc21, zc22, zc23, zc24, zc25, zc26, zc27, zc28, zc29, zc30, zc31, zc32, zc33, zc34, zc35, zc36, zc37, zc38, zc39]) (ws' := [(q, .inr (8, [.ref q_now, .ref q_trial, .ref q_past, .ref q_text, .ref q_reader, .ref q_slot0, .ref q_slot1, .ref q_greatestPath, .ref q_fillingsOfShape])), (q_now, .inr (2, [.ref q_now_first, .ref q_now_second])), (q_now_first, .inr (6, [.ref q_now_first_numbers])), (q_now_first_numbers, .inl (cI, 36, .inl u_now_first_numbers)), (q_now_second, .inr (6, [.ref q_now_second_numbers])), (q_now_second_numbers, .inl (cI, 36, .inl u_now_second_numbers)), (mq, .inr (9, [.int v_refusal, .ref mq_script, .int v_scriptSize, .int v_spot, .ref mq_readRow, .ref mq_now, .ref mq_trial, .ref mq_diary, .int v_acts, .ref mq_kept, .ref mq_isKept, .int v_slides, .ref mq_sums, .ref mq_primes, .ref mq_turned])), (mq_now, .inl (cI, 84, .inl v_now)), (qo, .inl (cJ, 1, .inr (.inl (vp_updL fo 0 (r.toInt64))))), zc0, zc1, zc2, zc3, zc4, zc5, zc6, zc7, zc8, zc9, zc10, zc11, zc12, zc13, zc14, zc15, zc16, zc17, zc18, zc19, zc20, zc21, zc22, zc23, zc24, zc25, zc26, zc27, zc28, zc29, zc30, zc31, zc32, zc33, zc34, zc35, zc36, zc37, zc38, zc39]) C hE hW hl.1 (kL_kthOfBoth_r l hlt D cI cZ cJ _ q q_now q_now_first q_now_first_numbers q_now_second q_now_second_numbers q_trial q_past q_text q_reader q_slot0 q_slot1 q_greatestPath q_fillingsOfShape qo u_now_first_numbers u_now_second_numbers fo p1 1 r (vp_updL fo 0 (r.toInt64)) hf (sJ_0 fo _)) gL_law_L_kthOfBoth rfl (by decide +kernel) rfl ⟨(Nat.le_of_ble_eq_true rfl), (Nat.le_of_ble_eq_true rfl)⟩ ⟨by omega, by omega⟩ [0, 1, 2, 3, 4, 5, 8] [6, 7, 9, 10, 11, 12, 13, 14, 15, 16, 17, 18, 19, 20, 21, 22, 23, 24, 25, 26, 27, 28, 29, 30, 31, 32, 33, 34, 35, 36, 37, 38, 39, 40, 41, 42, 43, 44, 45, 46, 47, 48] [42, 43, 44, 45, 46, 47, 0, 1, 48, 2, 3, 4, 5, 6, 7, 8, 9, 10, 11, 12, 13, 14, 15, 16, 17, 18, 19, 20, 21, 22, 23, 24, 25, 26, 27, 28, 29, 30, 31, 32, 33, 34, 35, 36, 37, 38, 39, 40, 41] rfl rfl rfl rfl (by decide) rfl rfl (Nat.le_of_ble_eq_true rfl) rfl rfl dL_law_1573 (fun H locs hW => ?_)
  refine lv_istore (lv' := [(5, .int 0), (0, .ref b), (1, .ref q), (2, .ref mq), (3, .ref qo), (4, .int x4)]) hx hb dL_law_1576 hl (by decide) rfl (fun ls hl => ?_)
  refine lv_aload_n hx hb dL_law_1578 rfl (lv_at hl 3 rfl) ?_
  refine lv_aload_n hx hb dL_law_1579 rfl (lv_at hl 1 rfl) ?_
  refine lv_iload hx hb dL_law_1580 (lv_at hl 5 rfl) ?_
  refine lv_iconst (v := 1) hx hb dL_law_1582 (by decide) ?_
  refine lv_iadd hx hb dL_law_1583 ?_
  refine va_sld hx hb hX hbl hbA hW.2.2 hv1 dL_law_1584 ?_
  rw [hp1]
  refine lv_aload_n hx hb dL_law_1585 rfl (lv_at hl 1 rfl) ?_
  refine lv_iload hx hb dL_law_1586 (lv_at hl 5 rfl) ?_
  refine lv_iconst (v := 2) hx hb dL_law_1588 (by decide) ?_
  refine lv_iadd hx hb dL_law_1589 ?_
  refine va_sld hx hb hX hbl hbA hW.2.2 hv2 dL_law_1590 ?_
  rw [hp2]
  refine lv_if_eq (tgt := 1598) hx hb dL_law_1591 (by decide) (fun hc => absurd hc hz) (fun _ => ?_)
  refine lv_iconst (v := 1) hx hb dL_law_1594 (by decide) ?_
  refine lv_goto (tgt := 1599) hx hb dL_law_1595 (by decide) ?_
  refine k_callV (b := mq) (ci := 9) (qb := 0) (As := [.int p1, .int 1]) (n := 2) (rest := []) (st1 := [.int r]) (wr := [(q, .inr (8, [.ref q_now, .ref q_trial, .ref q_past, .ref q_text, .ref q_reader, .ref q_slot0, .ref q_slot1, .ref q_greatestPath, .ref q_fillingsOfShape])), (q_now, .inr (2, [.ref q_now_first, .ref q_now_second])), (q_now_first, .inr (6, [.ref q_now_first_numbers])), (q_now_first_numbers, .inl (cI, 36, .inl u_now_first_numbers)), (q_now_second, .inr (6, [.ref q_now_second_numbers])), (q_now_second_numbers, .inl (cI, 36, .inl u_now_second_numbers)), (qo, .inl (cJ, 1, .inr (.inl (vp_updL fo 0 (r.toInt64))))), zc0, zc1, zc2, zc3, zc4, zc5, zc6, zc7, zc8, zc9, zc10, zc11, zc12, zc13, zc14, zc15, zc16, zc17, zc18, zc19, zc20, zc21, zc22, zc23, zc24, zc25, zc26, zc27, zc28, zc29, zc30, zc31, zc32, zc33, zc34, zc35, zc36, zc37, zc38, zc39]) (ws' := [(q, .inr (8, [.ref q_now, .ref q_trial, .ref q_past, .ref q_text, .ref q_reader, .ref q_slot0, .ref q_slot1, .ref q_greatestPath, .ref q_fillingsOfShape])), (q_now, .inr (2, [.ref q_now_first, .ref q_now_second])), (q_now_first, .inr (6, [.ref q_now_first_numbers])), (q_now_first_numbers, .inl (cI, 36, .inl u_now_first_numbers)), (q_now_second, .inr (6, [.ref q_now_second_numbers])), (q_now_second_numbers, .inl (cI, 36, .inl u_now_second_numbers)), (mq, .inr (9, [.int 0, .ref mq_script, .int v_scriptSize, .int v_spot, .ref mq_readRow, .ref mq_now, .ref mq_trial, .ref mq_diary, .int v_acts, .ref mq_kept, .ref mq_isKept, .int v_slides, .ref mq_sums, .ref mq_primes, .ref mq_turned])), (mq_now, .inl (cI, 84, .inl v_now)), (qo, .inl (cJ, 1, .inr (.inl (vp_updL fo 0 (r.toInt64))))), zc0, zc1, zc2, zc3, zc4, zc5, zc6, zc7, zc8, zc9, zc10, zc11, zc12, zc13, zc14, zc15, zc16, zc17, zc18, zc19, zc20, zc21, zc22, zc23, zc24, zc25, zc26, zc27, zc28, zc29, zc30, zc31, zc32, zc33, zc34, zc35, zc36, zc37, zc38, zc39]) C hE hW hl.1 (kX10_kthOfBoth l D cI cZ cJ _ mq mq_now mq_script mq_readRow mq_trial mq_diary mq_kept mq_isKept mq_sums mq_primes mq_turned v_refusal v_scriptSize v_spot v_acts v_slides v_now p1 1 r 0 hm) gL_law_X10_kthOfBoth rfl (by decide +kernel) rfl ⟨(Nat.le_of_ble_eq_true rfl), (Nat.le_of_ble_eq_true rfl)⟩ ⟨by omega, by omega⟩ rfl rfl [6, 7] [0, 1, 2, 3, 4, 5, 8, 9, 10, 11, 12, 13, 14, 15, 16, 17, 18, 19, 20, 21, 22, 23, 24, 25, 26, 27, 28, 29, 30, 31, 32, 33, 34, 35, 36, 37, 38, 39, 40, 41, 42, 43, 44, 45, 46, 47, 48] [0, 1, 2, 3, 4, 5, 47, 48, 6, 7, 8, 9, 10, 11, 12, 13, 14, 15, 16, 17, 18, 19, 20, 21, 22, 23, 24, 25, 26, 27, 28, 29, 30, 31, 32, 33, 34, 35, 36, 37, 38, 39, 40, 41, 42, 43, 44, 45, 46] rfl rfl rfl rfl (by decide) rfl rfl (Nat.le_of_ble_eq_true rfl) rfl rfl dL_law_1599 (fun H locs hW => ?_)
  refine lv_istore (lv' := [(6, .int r), (5, .int 0), (0, .ref b), (1, .ref q), (2, .ref mq), (3, .ref qo), (4, .int x4)]) hx hb dL_law_1602 hl (by decide) rfl (fun ls hl => ?_)
  refine lv_aload_n hx hb dL_law_1604 rfl (lv_at hl 4 rfl) ?_
  refine k_callVR (b := mq) (ci := 9) (qb := 0) (As := []) (n := 0) (rest := []) (st1 := [.int 0]) C hE hW hl.1 (kX10_thrown l D cI cZ cJ _ mq mq_script mq_readRow mq_now mq_trial mq_diary mq_kept mq_isKept mq_sums mq_primes mq_turned 0 v_scriptSize v_spot v_acts v_slides 0 rfl) gL_law_X10_thrown rfl (by decide +kernel) rfl ⟨(Nat.le_of_ble_eq_true rfl), (Nat.le_of_ble_eq_true rfl)⟩ ⟨by omega, by omega⟩ rfl rfl [6] rfl rfl (Nat.le_of_ble_eq_true rfl) rfl rfl dL_law_1605 (fun H locs hW => ?_)
  refine lv_iload hx hb dL_law_1608 (lv_at hl 1 rfl) ?_
  refine lv_icmp_eq (tgt := 1615) hx hb dL_law_1610 (by decide) (fun _ => ?_) (fun hc => absurd rfl hc)
  refine lv_iload hx hb dL_law_1615 (lv_at hl 1 rfl) ?_
  refine lv_if_ne (tgt := 1632) hx hb dL_law_1617 (by decide) (fun hc => absurd rfl hc) (fun _ => ?_)
  refine lv_aload_n hx hb dL_law_1620 rfl (lv_at hl 5 rfl) ?_
  refine lv_iconst (v := 0) hx hb dL_law_1621 (by decide) ?_
  refine k_lald C hE hW 8 rfl (gJ_0 fo _) dL_law_1622 ?_
  refine lv_iload hx hb dL_law_1623 (lv_at hl 0 rfl) ?_
  refine lv_i2l hx hb dL_law_1625 rfl ?_
  refine W.lcmp hx hb dL_law_1626 ?_
  refine lv_if_eq (tgt := 1632) hx hb dL_law_1627 (by decide) (fun _ => ?_) (fun hc => absurd (cmp_self _) hc)
  refine lv_goto (tgt := 2534) hx hb dL_law_1632 (by decide) ?_
  exact kk _ _ _ hW (lv_sub hl [2, 3, 4, 5, 6] rfl)
set_option maxHeartbeats 4000000 in
set_option maxRecDepth 100000 in
theorem lc_kthOfBoth_t1_z0 (hlt : l.stackTraces = false) (C : CallFix p m c cL_law 8 s #[Value.ref b] wsL_law RL) (hE : kEn D cI cZ cJ A s) (hX : va_X b L xs s s.heap) (hbl : b < s.heap.size) (hbA : ¬ A b) (x4 : Int32) (p1 : Int32) (hv1 : vp_in (x4 + 1) L) (hp1 : xs (x4 + 1).toNatClampNeg = p1) (p2 : Int32) (hv2 : vp_in (x4 + 2) L) (hp2 : xs (x4 + 2).toNatClampNeg = p2) (hz : p2 = 0) (hcs : cells + 1 ≤ room_1.cells ∧ slots + 6 ≤ room_1.slots) (q q_now q_now_first q_now_first_numbers q_now_second q_now_second_numbers q_trial q_past q_text q_reader q_slot0 q_slot1 q_greatestPath q_fillingsOfShape mq mq_now mq_script mq_readRow mq_trial mq_diary mq_kept mq_isKept mq_sums mq_primes mq_turned qo : Nat) (u_now_first_numbers : Nat → Int32) (u_now_second_numbers : Nat → Int32) (v_refusal : Int32) (v_scriptSize : Int32) (v_spot : Int32) (v_acts : Int32) (v_slides : Int32) (v_now : Nat → Int32) (fo : Nat → Int64) (rb : Int32) (zc0 zc1 zc2 zc3 zc4 zc5 zc6 zc7 zc8 zc9 zc10 zc11 zc12 zc13 zc14 zc15 zc16 zc17 zc18 zc19 zc20 zc21 zc22 zc23 zc24 zc25 zc26 zc27 zc28 zc29 zc30 zc31 zc32 zc33 zc34 zc35 zc36 zc37 zc38 zc39 : Nat × va_E) (hf : pX9_kthOfBoth u_now_first_numbers u_now_second_numbers p1 0 = some (.inl 1)) (hm : pX10_kthOfBoth v_refusal v_now p1 0 = some (rb, 1)) (hW : kH D A s H locs [(q, .inr (8, [.ref q_now, .ref q_trial, .ref q_past, .ref q_text, .ref q_reader, .ref q_slot0, .ref q_slot1, .ref q_greatestPath, .ref q_fillingsOfShape])), (q_now, .inr (2, [.ref q_now_first, .ref q_now_second])), (q_now_first, .inr (6, [.ref q_now_first_numbers])), (q_now_first_numbers, .inl (cI, 36, .inl u_now_first_numbers)), (q_now_second, .inr (6, [.ref q_now_second_numbers])), (q_now_second_numbers, .inl (cI, 36, .inl u_now_second_numbers)), (mq, .inr (9, [.int v_refusal, .ref mq_script, .int v_scriptSize, .int v_spot, .ref mq_readRow, .ref mq_now, .ref mq_trial, .ref mq_diary, .int v_acts, .ref mq_kept, .ref mq_isKept, .int v_slides, .ref mq_sums, .ref mq_primes, .ref mq_turned])), (mq_now, .inl (cI, 84, .inl v_now)), (qo, .inl (cJ, 1, .inr (.inl fo))), zc0, zc1, zc2, zc3, zc4, zc5, zc6, zc7, zc8, zc9, zc10, zc11, zc12, zc13, zc14, zc15, zc16, zc17, zc18, zc19, zc20, zc21, zc22, zc23, zc24, zc25, zc26, zc27, zc28, zc29, zc30, zc31, zc32, zc33, zc34, zc35, zc36, zc37, zc38, zc39]) (hl : lv_has ls 8 [(0, .ref b), (1, .ref q), (2, .ref mq), (3, .ref qo), (4, .int x4)])
    (kk : ∀ (H1 : Heap) (locs1 : List Loc) (ls1 : Array Slot), kH D A s H1 locs1 [(q, .inr (8, [.ref q_now, .ref q_trial, .ref q_past, .ref q_text, .ref q_reader, .ref q_slot0, .ref q_slot1, .ref q_greatestPath, .ref q_fillingsOfShape])), (q_now, .inr (2, [.ref q_now_first, .ref q_now_second])), (q_now_first, .inr (6, [.ref q_now_first_numbers])), (q_now_first_numbers, .inl (cI, 36, .inl u_now_first_numbers)), (q_now_second, .inr (6, [.ref q_now_second_numbers])), (q_now_second_numbers, .inl (cI, 36, .inl u_now_second_numbers)), (mq, .inr (9, [.int 1, .ref mq_script, .int v_scriptSize, .int v_spot, .ref mq_readRow, .ref mq_now, .ref mq_trial, .ref mq_diary, .int v_acts, .ref mq_kept, .ref mq_isKept, .int v_slides, .ref mq_sums, .ref mq_primes, .ref mq_turned])), (mq_now, .inl (cI, 84, .inl v_now)), (qo, .inl (cJ, 1, .inr (.inl fo))), zc0, zc1, zc2, zc3, zc4, zc5, zc6, zc7, zc8, zc9, zc10, zc11, zc12, zc13, zc14, zc15, zc16, zc17, zc18, zc19, zc20, zc21, zc22, zc23, zc24, zc25, zc26, zc27, zc28, zc29, zc30, zc31, zc32, zc33, zc34, zc35, zc36, zc37, zc38, zc39] → lv_has ls1 8 [(0, .ref b), (1, .ref q), (2, .ref mq), (3, .ref qo), (4, .int x4)] → W p l e room_1 s m #[Value.ref b] below meth c H1 locs1 (cells + 1) (slots + 6) Q (F0 m 2534 ls1 [])) : W p l e room_1 s m #[Value.ref b] below meth c H locs cells slots Q (F0 m 1551 ls []) := by
  have hx := C.1
  have hb := C.2.1
  refine lv_aload_n hx hb dL_law_1551 rfl (lv_at hl 1 rfl) ?_
  refine lv_aload_n hx hb dL_law_1552 rfl (lv_at hl 0 rfl) ?_
  refine lv_iload hx hb dL_law_1553 (lv_at hl 4 rfl) ?_
  refine lv_iconst (v := 1) hx hb dL_law_1555 (by decide) ?_
  refine lv_iadd hx hb dL_law_1556 ?_
  refine va_sld hx hb hX hbl hbA hW.2.2 hv1 dL_law_1557 ?_
  rw [hp1]
  refine lv_aload_n hx hb dL_law_1558 rfl (lv_at hl 0 rfl) ?_
  refine lv_iload hx hb dL_law_1559 (lv_at hl 4 rfl) ?_
  refine lv_iconst (v := 2) hx hb dL_law_1561 (by decide) ?_
  refine lv_iadd hx hb dL_law_1562 ?_
  refine va_sld hx hb hX hbl hbA hW.2.2 hv2 dL_law_1563 ?_
  rw [hp2]
  refine lv_if_eq (tgt := 1571) hx hb dL_law_1564 (by decide) (fun _ => ?_) (fun hc => absurd hz hc)
  refine lv_iconst (v := 0) hx hb dL_law_1571 (by decide) ?_
  refine lv_aload_n hx hb dL_law_1572 rfl (lv_at hl 3 rfl) ?_
  refine k_callSW (As := [.ref q, .int p1, .int 0, .ref qo]) (n := 4) (rest := []) (st1 := [.int 1]) (wr := [(mq, .inr (9, [.int v_refusal, .ref mq_script, .int v_scriptSize, .int v_spot, .ref mq_readRow, .ref mq_now, .ref mq_trial, .ref mq_diary, .int v_acts, .ref mq_kept, .ref mq_isKept, .int v_slides, .ref mq_sums, .ref mq_primes, .ref mq_turned])), (mq_now, .inl (cI, 84, .inl v_now)), zc0, zc1, zc2, zc3, zc4, zc5, zc6, zc7, zc8, zc9, zc10, zc11, zc12, zc13, zc14, zc15, zc16, zc17, zc18, zc19, zc20, zc21, zc22, zc23, zc24, zc25, zc26, zc27, zc28, zc29, zc30, zc31, zc32, zc33, zc34, zc35, zc36, zc37, zc38, zc39]) (ws' := [(q, .inr (8, [.ref q_now, .ref q_trial, .ref q_past, .ref q_text, .ref q_reader, .ref q_slot0, .ref q_slot1, .ref q_greatestPath, .ref q_fillingsOfShape])), (q_now, .inr (2, [.ref q_now_first, .ref q_now_second])), (q_now_first, .inr (6, [.ref q_now_first_numbers])), (q_now_first_numbers, .inl (cI, 36, .inl u_now_first_numbers)), (q_now_second, .inr (6, [.ref q_now_second_numbers])), (q_now_second_numbers, .inl (cI, 36, .inl u_now_second_numbers)), (mq, .inr (9, [.int v_refusal, .ref mq_script, .int v_scriptSize, .int v_spot, .ref mq_readRow, .ref mq_now, .ref mq_trial, .ref mq_diary, .int v_acts, .ref mq_kept, .ref mq_isKept, .int v_slides, .ref mq_sums, .ref mq_primes, .ref mq_turned])), (mq_now, .inl (cI, 84, .inl v_now)), (qo, .inl (cJ, 1, .inr (.inl fo))), zc0, zc1, zc2, zc3, zc4, zc5, zc6, zc7, zc8, zc9, zc10, zc11, zc12, zc13, zc14, zc15, zc16, zc17, zc18, zc19, zc20, zc21, zc22, zc23, zc24, zc25, zc26, zc27, zc28, zc29, zc30, zc31, zc32, zc33, zc34, zc35, zc36, zc37, zc38, zc39]) C hE hW hl.1 (kL_kthOfBoth_t1 l hlt D cI cZ cJ _ q q_now q_now_first q_now_first_numbers q_now_second q_now_second_numbers q_trial q_past q_text q_reader q_slot0 q_slot1 q_greatestPath q_fillingsOfShape qo u_now_first_numbers u_now_second_numbers fo p1 0 hf) gL_law_L_kthOfBoth rfl (by decide +kernel) rfl ⟨(Nat.le_of_ble_eq_true rfl), (Nat.le_of_ble_eq_true rfl)⟩ ⟨by omega, by omega⟩ [0, 1, 2, 3, 4, 5, 8] [6, 7, 9, 10, 11, 12, 13, 14, 15, 16, 17, 18, 19, 20, 21, 22, 23, 24, 25, 26, 27, 28, 29, 30, 31, 32, 33, 34, 35, 36, 37, 38, 39, 40, 41, 42, 43, 44, 45, 46, 47, 48] [42, 43, 44, 45, 46, 47, 0, 1, 48, 2, 3, 4, 5, 6, 7, 8, 9, 10, 11, 12, 13, 14, 15, 16, 17, 18, 19, 20, 21, 22, 23, 24, 25, 26, 27, 28, 29, 30, 31, 32, 33, 34, 35, 36, 37, 38, 39, 40, 41] rfl rfl rfl rfl (by decide) rfl rfl (Nat.le_of_ble_eq_true rfl) rfl rfl dL_law_1573 (fun H locs hW => ?_)
  refine lv_istore (lv' := [(5, .int 1), (0, .ref b), (1, .ref q), (2, .ref mq), (3, .ref qo), (4, .int x4)]) hx hb dL_law_1576 hl (by decide) rfl (fun ls hl => ?_)
  refine lv_aload_n hx hb dL_law_1578 rfl (lv_at hl 3 rfl) ?_
  refine lv_aload_n hx hb dL_law_1579 rfl (lv_at hl 1 rfl) ?_
  refine lv_iload hx hb dL_law_1580 (lv_at hl 5 rfl) ?_
  refine lv_iconst (v := 1) hx hb dL_law_1582 (by decide) ?_
  refine lv_iadd hx hb dL_law_1583 ?_
  refine va_sld hx hb hX hbl hbA hW.2.2 hv1 dL_law_1584 ?_
  rw [hp1]
  refine lv_aload_n hx hb dL_law_1585 rfl (lv_at hl 1 rfl) ?_
  refine lv_iload hx hb dL_law_1586 (lv_at hl 5 rfl) ?_
  refine lv_iconst (v := 2) hx hb dL_law_1588 (by decide) ?_
  refine lv_iadd hx hb dL_law_1589 ?_
  refine va_sld hx hb hX hbl hbA hW.2.2 hv2 dL_law_1590 ?_
  rw [hp2]
  refine lv_if_eq (tgt := 1598) hx hb dL_law_1591 (by decide) (fun _ => ?_) (fun hc => absurd hz hc)
  refine lv_iconst (v := 0) hx hb dL_law_1598 (by decide) ?_
  refine k_callV (b := mq) (ci := 9) (qb := 0) (As := [.int p1, .int 0]) (n := 2) (rest := []) (st1 := [.int rb]) (wr := [(q, .inr (8, [.ref q_now, .ref q_trial, .ref q_past, .ref q_text, .ref q_reader, .ref q_slot0, .ref q_slot1, .ref q_greatestPath, .ref q_fillingsOfShape])), (q_now, .inr (2, [.ref q_now_first, .ref q_now_second])), (q_now_first, .inr (6, [.ref q_now_first_numbers])), (q_now_first_numbers, .inl (cI, 36, .inl u_now_first_numbers)), (q_now_second, .inr (6, [.ref q_now_second_numbers])), (q_now_second_numbers, .inl (cI, 36, .inl u_now_second_numbers)), (qo, .inl (cJ, 1, .inr (.inl fo))), zc0, zc1, zc2, zc3, zc4, zc5, zc6, zc7, zc8, zc9, zc10, zc11, zc12, zc13, zc14, zc15, zc16, zc17, zc18, zc19, zc20, zc21, zc22, zc23, zc24, zc25, zc26, zc27, zc28, zc29, zc30, zc31, zc32, zc33, zc34, zc35, zc36, zc37, zc38, zc39]) (ws' := [(q, .inr (8, [.ref q_now, .ref q_trial, .ref q_past, .ref q_text, .ref q_reader, .ref q_slot0, .ref q_slot1, .ref q_greatestPath, .ref q_fillingsOfShape])), (q_now, .inr (2, [.ref q_now_first, .ref q_now_second])), (q_now_first, .inr (6, [.ref q_now_first_numbers])), (q_now_first_numbers, .inl (cI, 36, .inl u_now_first_numbers)), (q_now_second, .inr (6, [.ref q_now_second_numbers])), (q_now_second_numbers, .inl (cI, 36, .inl u_now_second_numbers)), (mq, .inr (9, [.int 1, .ref mq_script, .int v_scriptSize, .int v_spot, .ref mq_readRow, .ref mq_now, .ref mq_trial, .ref mq_diary, .int v_acts, .ref mq_kept, .ref mq_isKept, .int v_slides, .ref mq_sums, .ref mq_primes, .ref mq_turned])), (mq_now, .inl (cI, 84, .inl v_now)), (qo, .inl (cJ, 1, .inr (.inl fo))), zc0, zc1, zc2, zc3, zc4, zc5, zc6, zc7, zc8, zc9, zc10, zc11, zc12, zc13, zc14, zc15, zc16, zc17, zc18, zc19, zc20, zc21, zc22, zc23, zc24, zc25, zc26, zc27, zc28, zc29, zc30, zc31, zc32, zc33, zc34, zc35, zc36, zc37, zc38, zc39]) C hE hW hl.1 (kX10_kthOfBoth l D cI cZ cJ _ mq mq_now mq_script mq_readRow mq_trial mq_diary mq_kept mq_isKept mq_sums mq_primes mq_turned v_refusal v_scriptSize v_spot v_acts v_slides v_now p1 0 rb 1 hm) gL_law_X10_kthOfBoth rfl (by decide +kernel) rfl ⟨(Nat.le_of_ble_eq_true rfl), (Nat.le_of_ble_eq_true rfl)⟩ ⟨by omega, by omega⟩ rfl rfl [6, 7] [0, 1, 2, 3, 4, 5, 8, 9, 10, 11, 12, 13, 14, 15, 16, 17, 18, 19, 20, 21, 22, 23, 24, 25, 26, 27, 28, 29, 30, 31, 32, 33, 34, 35, 36, 37, 38, 39, 40, 41, 42, 43, 44, 45, 46, 47, 48] [0, 1, 2, 3, 4, 5, 47, 48, 6, 7, 8, 9, 10, 11, 12, 13, 14, 15, 16, 17, 18, 19, 20, 21, 22, 23, 24, 25, 26, 27, 28, 29, 30, 31, 32, 33, 34, 35, 36, 37, 38, 39, 40, 41, 42, 43, 44, 45, 46] rfl rfl rfl rfl (by decide) rfl rfl (Nat.le_of_ble_eq_true rfl) rfl rfl dL_law_1599 (fun H locs hW => ?_)
  refine lv_istore (lv' := [(6, .int rb), (5, .int 1), (0, .ref b), (1, .ref q), (2, .ref mq), (3, .ref qo), (4, .int x4)]) hx hb dL_law_1602 hl (by decide) rfl (fun ls hl => ?_)
  refine lv_aload_n hx hb dL_law_1604 rfl (lv_at hl 4 rfl) ?_
  refine k_callVR (b := mq) (ci := 9) (qb := 0) (As := []) (n := 0) (rest := []) (st1 := [.int 1]) C hE hW hl.1 (kX10_thrown l D cI cZ cJ _ mq mq_script mq_readRow mq_now mq_trial mq_diary mq_kept mq_isKept mq_sums mq_primes mq_turned 1 v_scriptSize v_spot v_acts v_slides 1 rfl) gL_law_X10_thrown rfl (by decide +kernel) rfl ⟨(Nat.le_of_ble_eq_true rfl), (Nat.le_of_ble_eq_true rfl)⟩ ⟨by omega, by omega⟩ rfl rfl [6] rfl rfl (Nat.le_of_ble_eq_true rfl) rfl rfl dL_law_1605 (fun H locs hW => ?_)
  refine lv_iload hx hb dL_law_1608 (lv_at hl 1 rfl) ?_
  refine lv_icmp_eq (tgt := 1615) hx hb dL_law_1610 (by decide) (fun _ => ?_) (fun hc => absurd rfl hc)
  refine lv_iload hx hb dL_law_1615 (lv_at hl 1 rfl) ?_
  refine lv_if_ne (tgt := 1632) hx hb dL_law_1617 (by decide) (fun _ => ?_) (fun hc => absurd hc (by decide))
  refine lv_goto (tgt := 2534) hx hb dL_law_1632 (by decide) ?_
  exact kk _ _ _ hW (lv_sub hl [2, 3, 4, 5, 6] rfl)
set_option maxHeartbeats 4000000 in
set_option maxRecDepth 100000 in
theorem lc_kthOfBoth_t1_z1 (hlt : l.stackTraces = false) (C : CallFix p m c cL_law 8 s #[Value.ref b] wsL_law RL) (hE : kEn D cI cZ cJ A s) (hX : va_X b L xs s s.heap) (hbl : b < s.heap.size) (hbA : ¬ A b) (x4 : Int32) (p1 : Int32) (hv1 : vp_in (x4 + 1) L) (hp1 : xs (x4 + 1).toNatClampNeg = p1) (p2 : Int32) (hv2 : vp_in (x4 + 2) L) (hp2 : xs (x4 + 2).toNatClampNeg = p2) (hz : ¬ p2 = 0) (hcs : cells + 1 ≤ room_1.cells ∧ slots + 6 ≤ room_1.slots) (q q_now q_now_first q_now_first_numbers q_now_second q_now_second_numbers q_trial q_past q_text q_reader q_slot0 q_slot1 q_greatestPath q_fillingsOfShape mq mq_now mq_script mq_readRow mq_trial mq_diary mq_kept mq_isKept mq_sums mq_primes mq_turned qo : Nat) (u_now_first_numbers : Nat → Int32) (u_now_second_numbers : Nat → Int32) (v_refusal : Int32) (v_scriptSize : Int32) (v_spot : Int32) (v_acts : Int32) (v_slides : Int32) (v_now : Nat → Int32) (fo : Nat → Int64) (rb : Int32) (zc0 zc1 zc2 zc3 zc4 zc5 zc6 zc7 zc8 zc9 zc10 zc11 zc12 zc13 zc14 zc15 zc16 zc17 zc18 zc19 zc20 zc21 zc22 zc23 zc24 zc25 zc26 zc27 zc28 zc29 zc30 zc31 zc32 zc33 zc34 zc35 zc36 zc37 zc38 zc39 : Nat × va_E) (hf : pX9_kthOfBoth u_now_first_numbers u_now_second_numbers p1 1 = some (.inl 1)) (hm : pX10_kthOfBoth v_refusal v_now p1 1 = some (rb, 1)) (hW : kH D A s H locs [(q, .inr (8, [.ref q_now, .ref q_trial, .ref q_past, .ref q_text, .ref q_reader, .ref q_slot0, .ref q_slot1, .ref q_greatestPath, .ref q_fillingsOfShape])), (q_now, .inr (2, [.ref q_now_first, .ref q_now_second])), (q_now_first, .inr (6, [.ref q_now_first_numbers])), (q_now_first_numbers, .inl (cI, 36, .inl u_now_first_numbers)), (q_now_second, .inr (6, [.ref q_now_second_numbers])), (q_now_second_numbers, .inl (cI, 36, .inl u_now_second_numbers)), (mq, .inr (9, [.int v_refusal, .ref mq_script, .int v_scriptSize, .int v_spot, .ref mq_readRow, .ref mq_now, .ref mq_trial, .ref mq_diary, .int v_acts, .ref mq_kept, .ref mq_isKept, .int v_slides, .ref mq_sums, .ref mq_primes, .ref mq_turned])), (mq_now, .inl (cI, 84, .inl v_now)), (qo, .inl (cJ, 1, .inr (.inl fo))), zc0, zc1, zc2, zc3, zc4, zc5, zc6, zc7, zc8, zc9, zc10, zc11, zc12, zc13, zc14, zc15, zc16, zc17, zc18, zc19, zc20, zc21, zc22, zc23, zc24, zc25, zc26, zc27, zc28, zc29, zc30, zc31, zc32, zc33, zc34, zc35, zc36, zc37, zc38, zc39]) (hl : lv_has ls 8 [(0, .ref b), (1, .ref q), (2, .ref mq), (3, .ref qo), (4, .int x4)])
    (kk : ∀ (H1 : Heap) (locs1 : List Loc) (ls1 : Array Slot), kH D A s H1 locs1 [(q, .inr (8, [.ref q_now, .ref q_trial, .ref q_past, .ref q_text, .ref q_reader, .ref q_slot0, .ref q_slot1, .ref q_greatestPath, .ref q_fillingsOfShape])), (q_now, .inr (2, [.ref q_now_first, .ref q_now_second])), (q_now_first, .inr (6, [.ref q_now_first_numbers])), (q_now_first_numbers, .inl (cI, 36, .inl u_now_first_numbers)), (q_now_second, .inr (6, [.ref q_now_second_numbers])), (q_now_second_numbers, .inl (cI, 36, .inl u_now_second_numbers)), (mq, .inr (9, [.int 1, .ref mq_script, .int v_scriptSize, .int v_spot, .ref mq_readRow, .ref mq_now, .ref mq_trial, .ref mq_diary, .int v_acts, .ref mq_kept, .ref mq_isKept, .int v_slides, .ref mq_sums, .ref mq_primes, .ref mq_turned])), (mq_now, .inl (cI, 84, .inl v_now)), (qo, .inl (cJ, 1, .inr (.inl fo))), zc0, zc1, zc2, zc3, zc4, zc5, zc6, zc7, zc8, zc9, zc10, zc11, zc12, zc13, zc14, zc15, zc16, zc17, zc18, zc19, zc20, zc21, zc22, zc23, zc24, zc25, zc26, zc27, zc28, zc29, zc30, zc31, zc32, zc33, zc34, zc35, zc36, zc37, zc38, zc39] → lv_has ls1 8 [(0, .ref b), (1, .ref q), (2, .ref mq), (3, .ref qo), (4, .int x4)] → W p l e room_1 s m #[Value.ref b] below meth c H1 locs1 (cells + 1) (slots + 6) Q (F0 m 2534 ls1 [])) : W p l e room_1 s m #[Value.ref b] below meth c H locs cells slots Q (F0 m 1551 ls []) := by
  have hx := C.1
  have hb := C.2.1
  refine lv_aload_n hx hb dL_law_1551 rfl (lv_at hl 1 rfl) ?_
  refine lv_aload_n hx hb dL_law_1552 rfl (lv_at hl 0 rfl) ?_
  refine lv_iload hx hb dL_law_1553 (lv_at hl 4 rfl) ?_
  refine lv_iconst (v := 1) hx hb dL_law_1555 (by decide) ?_
  refine lv_iadd hx hb dL_law_1556 ?_
  refine va_sld hx hb hX hbl hbA hW.2.2 hv1 dL_law_1557 ?_
  rw [hp1]
  refine lv_aload_n hx hb dL_law_1558 rfl (lv_at hl 0 rfl) ?_
  refine lv_iload hx hb dL_law_1559 (lv_at hl 4 rfl) ?_
  refine lv_iconst (v := 2) hx hb dL_law_1561 (by decide) ?_
  refine lv_iadd hx hb dL_law_1562 ?_
  refine va_sld hx hb hX hbl hbA hW.2.2 hv2 dL_law_1563 ?_
  rw [hp2]
  refine lv_if_eq (tgt := 1571) hx hb dL_law_1564 (by decide) (fun hc => absurd hc hz) (fun _ => ?_)
  refine lv_iconst (v := 1) hx hb dL_law_1567 (by decide) ?_
  refine lv_goto (tgt := 1572) hx hb dL_law_1568 (by decide) ?_
  refine lv_aload_n hx hb dL_law_1572 rfl (lv_at hl 3 rfl) ?_
  refine k_callSW (As := [.ref q, .int p1, .int 1, .ref qo]) (n := 4) (rest := []) (st1 := [.int 1]) (wr := [(mq, .inr (9, [.int v_refusal, .ref mq_script, .int v_scriptSize, .int v_spot, .ref mq_readRow, .ref mq_now, .ref mq_trial, .ref mq_diary, .int v_acts, .ref mq_kept, .ref mq_isKept, .int v_slides, .ref mq_sums, .ref mq_primes, .ref mq_turned])), (mq_now, .inl (cI, 84, .inl v_now)), zc0, zc1, zc2, zc3, zc4, zc5, zc6, zc7, zc8, zc9, zc10, zc11, zc12, zc13, zc14, zc15, zc16, zc17, zc18, zc19, zc20, zc21, zc22, zc23, zc24, zc25, zc26, zc27, zc28, zc29, zc30, zc31, zc32, zc33, zc34, zc35, zc36, zc37, zc38, zc39]) (ws' := [(q, .inr (8, [.ref q_now, .ref q_trial, .ref q_past, .ref q_text, .ref q_reader, .ref q_slot0, .ref q_slot1, .ref q_greatestPath, .ref q_fillingsOfShape])), (q_now, .inr (2, [.ref q_now_first, .ref q_now_second])), (q_now_first, .inr (6, [.ref q_now_first_numbers])), (q_now_first_numbers, .inl (cI, 36, .inl u_now_first_numbers)), (q_now_second, .inr (6, [.ref q_now_second_numbers])), (q_now_second_numbers, .inl (cI, 36, .inl u_now_second_numbers)), (mq, .inr (9, [.int v_refusal, .ref mq_script, .int v_scriptSize, .int v_spot, .ref mq_readRow, .ref mq_now, .ref mq_trial, .ref mq_diary, .int v_acts, .ref mq_kept, .ref mq_isKept, .int v_slides, .ref mq_sums, .ref mq_primes, .ref mq_turned])), (mq_now, .inl (cI, 84, .inl v_now)), (qo, .inl (cJ, 1, .inr (.inl fo))), zc0, zc1, zc2, zc3, zc4, zc5, zc6, zc7, zc8, zc9, zc10, zc11, zc12, zc13, zc14, zc15, zc16, zc17, zc18, zc19, zc20, zc21, zc22, zc23, zc24, zc25, zc26, zc27, zc28, zc29, zc30, zc31, zc32, zc33, zc34, zc35, zc36, zc37, zc38, zc39]) C hE hW hl.1 (kL_kthOfBoth_t1 l hlt D cI cZ cJ _ q q_now q_now_first q_now_first_numbers q_now_second q_now_second_numbers q_trial q_past q_text q_reader q_slot0 q_slot1 q_greatestPath q_fillingsOfShape qo u_now_first_numbers u_now_second_numbers fo p1 1 hf) gL_law_L_kthOfBoth rfl (by decide +kernel) rfl ⟨(Nat.le_of_ble_eq_true rfl), (Nat.le_of_ble_eq_true rfl)⟩ ⟨by omega, by omega⟩ [0, 1, 2, 3, 4, 5, 8] [6, 7, 9, 10, 11, 12, 13, 14, 15, 16, 17, 18, 19, 20, 21, 22, 23, 24, 25, 26, 27, 28, 29, 30, 31, 32, 33, 34, 35, 36, 37, 38, 39, 40, 41, 42, 43, 44, 45, 46, 47, 48] [42, 43, 44, 45, 46, 47, 0, 1, 48, 2, 3, 4, 5, 6, 7, 8, 9, 10, 11, 12, 13, 14, 15, 16, 17, 18, 19, 20, 21, 22, 23, 24, 25, 26, 27, 28, 29, 30, 31, 32, 33, 34, 35, 36, 37, 38, 39, 40, 41] rfl rfl rfl rfl (by decide) rfl rfl (Nat.le_of_ble_eq_true rfl) rfl rfl dL_law_1573 (fun H locs hW => ?_)
  refine lv_istore (lv' := [(5, .int 1), (0, .ref b), (1, .ref q), (2, .ref mq), (3, .ref qo), (4, .int x4)]) hx hb dL_law_1576 hl (by decide) rfl (fun ls hl => ?_)
  refine lv_aload_n hx hb dL_law_1578 rfl (lv_at hl 3 rfl) ?_
  refine lv_aload_n hx hb dL_law_1579 rfl (lv_at hl 1 rfl) ?_
  refine lv_iload hx hb dL_law_1580 (lv_at hl 5 rfl) ?_
  refine lv_iconst (v := 1) hx hb dL_law_1582 (by decide) ?_
  refine lv_iadd hx hb dL_law_1583 ?_
  refine va_sld hx hb hX hbl hbA hW.2.2 hv1 dL_law_1584 ?_
  rw [hp1]
  refine lv_aload_n hx hb dL_law_1585 rfl (lv_at hl 1 rfl) ?_
  refine lv_iload hx hb dL_law_1586 (lv_at hl 5 rfl) ?_
  refine lv_iconst (v := 2) hx hb dL_law_1588 (by decide) ?_
  refine lv_iadd hx hb dL_law_1589 ?_
  refine va_sld hx hb hX hbl hbA hW.2.2 hv2 dL_law_1590 ?_
  rw [hp2]
  refine lv_if_eq (tgt := 1598) hx hb dL_law_1591 (by decide) (fun hc => absurd hc hz) (fun _ => ?_)
  refine lv_iconst (v := 1) hx hb dL_law_1594 (by decide) ?_
  refine lv_goto (tgt := 1599) hx hb dL_law_1595 (by decide) ?_
  refine k_callV (b := mq) (ci := 9) (qb := 0) (As := [.int p1, .int 1]) (n := 2) (rest := []) (st1 := [.int rb]) (wr := [(q, .inr (8, [.ref q_now, .ref q_trial, .ref q_past, .ref q_text, .ref q_reader, .ref q_slot0, .ref q_slot1, .ref q_greatestPath, .ref q_fillingsOfShape])), (q_now, .inr (2, [.ref q_now_first, .ref q_now_second])), (q_now_first, .inr (6, [.ref q_now_first_numbers])), (q_now_first_numbers, .inl (cI, 36, .inl u_now_first_numbers)), (q_now_second, .inr (6, [.ref q_now_second_numbers])), (q_now_second_numbers, .inl (cI, 36, .inl u_now_second_numbers)), (qo, .inl (cJ, 1, .inr (.inl fo))), zc0, zc1, zc2, zc3, zc4, zc5, zc6, zc7, zc8, zc9, zc10, zc11, zc12, zc13, zc14, zc15, zc16, zc17, zc18, zc19, zc20, zc21, zc22, zc23, zc24, zc25, zc26, zc27, zc28, zc29, zc30, zc31, zc32, zc33, zc34, zc35, zc36, zc37, zc38, zc39]) (ws' := [(q, .inr (8, [.ref q_now, .ref q_trial, .ref q_past, .ref q_text, .ref q_reader, .ref q_slot0, .ref q_slot1, .ref q_greatestPath, .ref q_fillingsOfShape])), (q_now, .inr (2, [.ref q_now_first, .ref q_now_second])), (q_now_first, .inr (6, [.ref q_now_first_numbers])), (q_now_first_numbers, .inl (cI, 36, .inl u_now_first_numbers)), (q_now_second, .inr (6, [.ref q_now_second_numbers])), (q_now_second_numbers, .inl (cI, 36, .inl u_now_second_numbers)), (mq, .inr (9, [.int 1, .ref mq_script, .int v_scriptSize, .int v_spot, .ref mq_readRow, .ref mq_now, .ref mq_trial, .ref mq_diary, .int v_acts, .ref mq_kept, .ref mq_isKept, .int v_slides, .ref mq_sums, .ref mq_primes, .ref mq_turned])), (mq_now, .inl (cI, 84, .inl v_now)), (qo, .inl (cJ, 1, .inr (.inl fo))), zc0, zc1, zc2, zc3, zc4, zc5, zc6, zc7, zc8, zc9, zc10, zc11, zc12, zc13, zc14, zc15, zc16, zc17, zc18, zc19, zc20, zc21, zc22, zc23, zc24, zc25, zc26, zc27, zc28, zc29, zc30, zc31, zc32, zc33, zc34, zc35, zc36, zc37, zc38, zc39]) C hE hW hl.1 (kX10_kthOfBoth l D cI cZ cJ _ mq mq_now mq_script mq_readRow mq_trial mq_diary mq_kept mq_isKept mq_sums mq_primes mq_turned v_refusal v_scriptSize v_spot v_acts v_slides v_now p1 1 rb 1 hm) gL_law_X10_kthOfBoth rfl (by decide +kernel) rfl ⟨(Nat.le_of_ble_eq_true rfl), (Nat.le_of_ble_eq_true rfl)⟩ ⟨by omega, by omega⟩ rfl rfl [6, 7] [0, 1, 2, 3, 4, 5, 8, 9, 10, 11, 12, 13, 14, 15, 16, 17, 18, 19, 20, 21, 22, 23, 24, 25, 26, 27, 28, 29, 30, 31, 32, 33, 34, 35, 36, 37, 38, 39, 40, 41, 42, 43, 44, 45, 46, 47, 48] [0, 1, 2, 3, 4, 5, 47, 48, 6, 7, 8, 9, 10, 11, 12, 13, 14, 15, 16, 17, 18, 19, 20, 21, 22, 23, 24, 25, 26, 27, 28, 29, 30, 31, 32, 33, 34, 35, 36, 37, 38, 39, 40, 41, 42, 43, 44, 45, 46] rfl rfl rfl rfl (by decide) rfl rfl (Nat.le_of_ble_eq_true rfl) rfl rfl dL_law_1599 (fun H locs hW => ?_)
  refine lv_istore (lv' := [(6, .int rb), (5, .int 1), (0, .ref b), (1, .ref q), (2, .ref mq), (3, .ref qo), (4, .int x4)]) hx hb dL_law_1602 hl (by decide) rfl (fun ls hl => ?_)
  refine lv_aload_n hx hb dL_law_1604 rfl (lv_at hl 4 rfl) ?_
  refine k_callVR (b := mq) (ci := 9) (qb := 0) (As := []) (n := 0) (rest := []) (st1 := [.int 1]) C hE hW hl.1 (kX10_thrown l D cI cZ cJ _ mq mq_script mq_readRow mq_now mq_trial mq_diary mq_kept mq_isKept mq_sums mq_primes mq_turned 1 v_scriptSize v_spot v_acts v_slides 1 rfl) gL_law_X10_thrown rfl (by decide +kernel) rfl ⟨(Nat.le_of_ble_eq_true rfl), (Nat.le_of_ble_eq_true rfl)⟩ ⟨by omega, by omega⟩ rfl rfl [6] rfl rfl (Nat.le_of_ble_eq_true rfl) rfl rfl dL_law_1605 (fun H locs hW => ?_)
  refine lv_iload hx hb dL_law_1608 (lv_at hl 1 rfl) ?_
  refine lv_icmp_eq (tgt := 1615) hx hb dL_law_1610 (by decide) (fun _ => ?_) (fun hc => absurd rfl hc)
  refine lv_iload hx hb dL_law_1615 (lv_at hl 1 rfl) ?_
  refine lv_if_ne (tgt := 1632) hx hb dL_law_1617 (by decide) (fun _ => ?_) (fun hc => absurd hc (by decide))
  refine lv_goto (tgt := 2534) hx hb dL_law_1632 (by decide) ?_
  exact kk _ _ _ hW (lv_sub hl [2, 3, 4, 5, 6] rfl)
set_option maxHeartbeats 4000000 in
set_option maxRecDepth 100000 in
theorem lc_pairs_r (hlt : l.stackTraces = false) (C : CallFix p m c cL_law 8 s #[Value.ref b] wsL_law RL) (hE : kEn D cI cZ cJ A s) (hX : va_X b L xs s s.heap) (hbl : b < s.heap.size) (hbA : ¬ A b) (x4 : Int32) (p1 : Int32) (hv1 : vp_in (x4 + 1) L) (hp1 : xs (x4 + 1).toNatClampNeg = p1) (hcs : cells + 1 ≤ room_1.cells ∧ slots + 6 ≤ room_1.slots) (q q_now q_now_first q_now_first_numbers q_now_second q_now_second_numbers q_trial q_past q_text q_reader q_slot0 q_slot1 q_greatestPath q_fillingsOfShape mq mq_now mq_script mq_readRow mq_trial mq_diary mq_kept mq_isKept mq_sums mq_primes mq_turned qo : Nat) (u_now_first_numbers : Nat → Int32) (u_now_second_numbers : Nat → Int32) (v_refusal : Int32) (v_scriptSize : Int32) (v_spot : Int32) (v_acts : Int32) (v_slides : Int32) (v_now : Nat → Int32) (fo : Nat → Int64) (r : Int32) (zc0 zc1 zc2 zc3 zc4 zc5 zc6 zc7 zc8 zc9 zc10 zc11 zc12 zc13 zc14 zc15 zc16 zc17 zc18 zc19 zc20 zc21 zc22 zc23 zc24 zc25 zc26 zc27 zc28 zc29 zc30 zc31 zc32 zc33 zc34 zc35 zc36 zc37 zc38 zc39 : Nat × va_E) (hf : pX9_pairs u_now_first_numbers u_now_second_numbers p1 = some (.inr r)) (hm : pX10_pairs v_refusal v_now p1 = some (r, 0)) (hW : kH D A s H locs [(q, .inr (8, [.ref q_now, .ref q_trial, .ref q_past, .ref q_text, .ref q_reader, .ref q_slot0, .ref q_slot1, .ref q_greatestPath, .ref q_fillingsOfShape])), (q_now, .inr (2, [.ref q_now_first, .ref q_now_second])), (q_now_first, .inr (6, [.ref q_now_first_numbers])), (q_now_first_numbers, .inl (cI, 36, .inl u_now_first_numbers)), (q_now_second, .inr (6, [.ref q_now_second_numbers])), (q_now_second_numbers, .inl (cI, 36, .inl u_now_second_numbers)), (mq, .inr (9, [.int v_refusal, .ref mq_script, .int v_scriptSize, .int v_spot, .ref mq_readRow, .ref mq_now, .ref mq_trial, .ref mq_diary, .int v_acts, .ref mq_kept, .ref mq_isKept, .int v_slides, .ref mq_sums, .ref mq_primes, .ref mq_turned])), (mq_now, .inl (cI, 84, .inl v_now)), (qo, .inl (cJ, 1, .inr (.inl fo))), zc0, zc1, zc2, zc3, zc4, zc5, zc6, zc7, zc8, zc9, zc10, zc11, zc12, zc13, zc14, zc15, zc16, zc17, zc18, zc19, zc20, zc21, zc22, zc23, zc24, zc25, zc26, zc27, zc28, zc29, zc30, zc31, zc32, zc33, zc34, zc35, zc36, zc37, zc38, zc39]) (hl : lv_has ls 8 [(0, .ref b), (1, .ref q), (2, .ref mq), (3, .ref qo), (4, .int x4)])
    (kk : ∀ (H1 : Heap) (locs1 : List Loc) (ls1 : Array Slot), kH D A s H1 locs1 [(q, .inr (8, [.ref q_now, .ref q_trial, .ref q_past, .ref q_text, .ref q_reader, .ref q_slot0, .ref q_slot1, .ref q_greatestPath, .ref q_fillingsOfShape])), (q_now, .inr (2, [.ref q_now_first, .ref q_now_second])), (q_now_first, .inr (6, [.ref q_now_first_numbers])), (q_now_first_numbers, .inl (cI, 36, .inl u_now_first_numbers)), (q_now_second, .inr (6, [.ref q_now_second_numbers])), (q_now_second_numbers, .inl (cI, 36, .inl u_now_second_numbers)), (mq, .inr (9, [.int 0, .ref mq_script, .int v_scriptSize, .int v_spot, .ref mq_readRow, .ref mq_now, .ref mq_trial, .ref mq_diary, .int v_acts, .ref mq_kept, .ref mq_isKept, .int v_slides, .ref mq_sums, .ref mq_primes, .ref mq_turned])), (mq_now, .inl (cI, 84, .inl v_now)), (qo, .inl (cJ, 1, .inr (.inl (vp_updL fo 0 (r.toInt64))))), zc0, zc1, zc2, zc3, zc4, zc5, zc6, zc7, zc8, zc9, zc10, zc11, zc12, zc13, zc14, zc15, zc16, zc17, zc18, zc19, zc20, zc21, zc22, zc23, zc24, zc25, zc26, zc27, zc28, zc29, zc30, zc31, zc32, zc33, zc34, zc35, zc36, zc37, zc38, zc39] → lv_has ls1 8 [(0, .ref b), (1, .ref q), (2, .ref mq), (3, .ref qo), (4, .int x4)] → W p l e room_1 s m #[Value.ref b] below meth c H1 locs1 cells slots Q (F0 m 2534 ls1 [])) : W p l e room_1 s m #[Value.ref b] below meth c H locs cells slots Q (F0 m 1635 ls []) := by
  have hx := C.1
  have hb := C.2.1
  refine lv_aload_n hx hb dL_law_1635 rfl (lv_at hl 1 rfl) ?_
  refine lv_aload_n hx hb dL_law_1636 rfl (lv_at hl 0 rfl) ?_
  refine lv_iload hx hb dL_law_1637 (lv_at hl 4 rfl) ?_
  refine lv_iconst (v := 1) hx hb dL_law_1639 (by decide) ?_
  refine lv_iadd hx hb dL_law_1640 ?_
  refine va_sld hx hb hX hbl hbA hW.2.2 hv1 dL_law_1641 ?_
  rw [hp1]
  refine lv_aload_n hx hb dL_law_1642 rfl (lv_at hl 3 rfl) ?_
  refine k_callSW (As := [.ref q, .int p1, .ref qo]) (n := 3) (rest := []) (st1 := [.int 0]) (wr := [(mq, .inr (9, [.int v_refusal, .ref mq_script, .int v_scriptSize, .int v_spot, .ref mq_readRow, .ref mq_now, .ref mq_trial, .ref mq_diary, .int v_acts, .ref mq_kept, .ref mq_isKept, .int v_slides, .ref mq_sums, .ref mq_primes, .ref mq_turned])), (mq_now, .inl (cI, 84, .inl v_now)), zc0, zc1, zc2, zc3, zc4, zc5, zc6, zc7, zc8, zc9, zc10, zc11, zc12, zc13, zc14, zc15, zc16, zc17, zc18, zc19, zc20, zc21, zc22, zc23, zc24, zc25, zc26, zc27, zc28, zc29, zc30, zc31, zc32, zc33, zc34, zc35, zc36, zc37, zc38, zc39]) (ws' := [(q, .inr (8, [.ref q_now, .ref q_trial, .ref q_past, .ref q_text, .ref q_reader, .ref q_slot0, .ref q_slot1, .ref q_greatestPath, .ref q_fillingsOfShape])), (q_now, .inr (2, [.ref q_now_first, .ref q_now_second])), (q_now_first, .inr (6, [.ref q_now_first_numbers])), (q_now_first_numbers, .inl (cI, 36, .inl u_now_first_numbers)), (q_now_second, .inr (6, [.ref q_now_second_numbers])), (q_now_second_numbers, .inl (cI, 36, .inl u_now_second_numbers)), (mq, .inr (9, [.int v_refusal, .ref mq_script, .int v_scriptSize, .int v_spot, .ref mq_readRow, .ref mq_now, .ref mq_trial, .ref mq_diary, .int v_acts, .ref mq_kept, .ref mq_isKept, .int v_slides, .ref mq_sums, .ref mq_primes, .ref mq_turned])), (mq_now, .inl (cI, 84, .inl v_now)), (qo, .inl (cJ, 1, .inr (.inl (vp_updL fo 0 (r.toInt64))))), zc0, zc1, zc2, zc3, zc4, zc5, zc6, zc7, zc8, zc9, zc10, zc11, zc12, zc13, zc14, zc15, zc16, zc17, zc18, zc19, zc20, zc21, zc22, zc23, zc24, zc25, zc26, zc27, zc28, zc29, zc30, zc31, zc32, zc33, zc34, zc35, zc36, zc37, zc38, zc39]) C hE hW hl.1 (kL_pairs_r l hlt D cI cZ cJ _ q q_now q_now_first q_now_first_numbers q_now_second q_now_second_numbers q_trial q_past q_text q_reader q_slot0 q_slot1 q_greatestPath q_fillingsOfShape qo u_now_first_numbers u_now_second_numbers fo p1 r (vp_updL fo 0 (r.toInt64)) hf (sJ_0 fo _)) gL_law_L_pairs rfl (by decide +kernel) rfl ⟨(Nat.le_of_ble_eq_true rfl), (Nat.le_of_ble_eq_true rfl)⟩ ⟨by omega, by omega⟩ [0, 1, 2, 3, 4, 5, 8] [6, 7, 9, 10, 11, 12, 13, 14, 15, 16, 17, 18, 19, 20, 21, 22, 23, 24, 25, 26, 27, 28, 29, 30, 31, 32, 33, 34, 35, 36, 37, 38, 39, 40, 41, 42, 43, 44, 45, 46, 47, 48] [42, 43, 44, 45, 46, 47, 0, 1, 48, 2, 3, 4, 5, 6, 7, 8, 9, 10, 11, 12, 13, 14, 15, 16, 17, 18, 19, 20, 21, 22, 23, 24, 25, 26, 27, 28, 29, 30, 31, 32, 33, 34, 35, 36, 37, 38, 39, 40, 41] rfl rfl rfl rfl (by decide) rfl rfl (Nat.le_of_ble_eq_true rfl) rfl rfl dL_law_1643 (fun H locs hW => ?_)
  refine lv_istore (lv' := [(5, .int 0), (0, .ref b), (1, .ref q), (2, .ref mq), (3, .ref qo), (4, .int x4)]) hx hb dL_law_1646 hl (by decide) rfl (fun ls hl => ?_)
  refine lv_aload_n hx hb dL_law_1648 rfl (lv_at hl 3 rfl) ?_
  refine lv_aload_n hx hb dL_law_1649 rfl (lv_at hl 1 rfl) ?_
  refine lv_iload hx hb dL_law_1650 (lv_at hl 5 rfl) ?_
  refine lv_iconst (v := 1) hx hb dL_law_1652 (by decide) ?_
  refine lv_iadd hx hb dL_law_1653 ?_
  refine va_sld hx hb hX hbl hbA hW.2.2 hv1 dL_law_1654 ?_
  rw [hp1]
  refine k_callV (b := mq) (ci := 9) (qb := 0) (As := [.int p1]) (n := 1) (rest := []) (st1 := [.int r]) (wr := [(q, .inr (8, [.ref q_now, .ref q_trial, .ref q_past, .ref q_text, .ref q_reader, .ref q_slot0, .ref q_slot1, .ref q_greatestPath, .ref q_fillingsOfShape])), (q_now, .inr (2, [.ref q_now_first, .ref q_now_second])), (q_now_first, .inr (6, [.ref q_now_first_numbers])), (q_now_first_numbers, .inl (cI, 36, .inl u_now_first_numbers)), (q_now_second, .inr (6, [.ref q_now_second_numbers])), (q_now_second_numbers, .inl (cI, 36, .inl u_now_second_numbers)), (qo, .inl (cJ, 1, .inr (.inl (vp_updL fo 0 (r.toInt64))))), zc0, zc1, zc2, zc3, zc4, zc5, zc6, zc7, zc8, zc9, zc10, zc11, zc12, zc13, zc14, zc15, zc16, zc17, zc18, zc19, zc20, zc21, zc22, zc23, zc24, zc25, zc26, zc27, zc28, zc29, zc30, zc31, zc32, zc33, zc34, zc35, zc36, zc37, zc38, zc39]) (ws' := [(q, .inr (8, [.ref q_now, .ref q_trial, .ref q_past, .ref q_text, .ref q_reader, .ref q_slot0, .ref q_slot1, .ref q_greatestPath, .ref q_fillingsOfShape])), (q_now, .inr (2, [.ref q_now_first, .ref q_now_second])), (q_now_first, .inr (6, [.ref q_now_first_numbers])), (q_now_first_numbers, .inl (cI, 36, .inl u_now_first_numbers)), (q_now_second, .inr (6, [.ref q_now_second_numbers])), (q_now_second_numbers, .inl (cI, 36, .inl u_now_second_numbers)), (mq, .inr (9, [.int 0, .ref mq_script, .int v_scriptSize, .int v_spot, .ref mq_readRow, .ref mq_now, .ref mq_trial, .ref mq_diary, .int v_acts, .ref mq_kept, .ref mq_isKept, .int v_slides, .ref mq_sums, .ref mq_primes, .ref mq_turned])), (mq_now, .inl (cI, 84, .inl v_now)), (qo, .inl (cJ, 1, .inr (.inl (vp_updL fo 0 (r.toInt64))))), zc0, zc1, zc2, zc3, zc4, zc5, zc6, zc7, zc8, zc9, zc10, zc11, zc12, zc13, zc14, zc15, zc16, zc17, zc18, zc19, zc20, zc21, zc22, zc23, zc24, zc25, zc26, zc27, zc28, zc29, zc30, zc31, zc32, zc33, zc34, zc35, zc36, zc37, zc38, zc39]) C hE hW hl.1 (kX10_pairs l D cI cZ cJ _ mq mq_now mq_script mq_readRow mq_trial mq_diary mq_kept mq_isKept mq_sums mq_primes mq_turned v_refusal v_scriptSize v_spot v_acts v_slides v_now p1 r 0 hm) gL_law_X10_pairs rfl (by decide +kernel) rfl ⟨(Nat.le_of_ble_eq_true rfl), (Nat.le_of_ble_eq_true rfl)⟩ ⟨by omega, by omega⟩ rfl rfl [6, 7] [0, 1, 2, 3, 4, 5, 8, 9, 10, 11, 12, 13, 14, 15, 16, 17, 18, 19, 20, 21, 22, 23, 24, 25, 26, 27, 28, 29, 30, 31, 32, 33, 34, 35, 36, 37, 38, 39, 40, 41, 42, 43, 44, 45, 46, 47, 48] [0, 1, 2, 3, 4, 5, 47, 48, 6, 7, 8, 9, 10, 11, 12, 13, 14, 15, 16, 17, 18, 19, 20, 21, 22, 23, 24, 25, 26, 27, 28, 29, 30, 31, 32, 33, 34, 35, 36, 37, 38, 39, 40, 41, 42, 43, 44, 45, 46] rfl rfl rfl rfl (by decide) rfl rfl (Nat.le_of_ble_eq_true rfl) rfl rfl dL_law_1655 (fun H locs hW => ?_)
  refine lv_istore (lv' := [(6, .int r), (5, .int 0), (0, .ref b), (1, .ref q), (2, .ref mq), (3, .ref qo), (4, .int x4)]) hx hb dL_law_1658 hl (by decide) rfl (fun ls hl => ?_)
  refine lv_aload_n hx hb dL_law_1660 rfl (lv_at hl 4 rfl) ?_
  refine k_callVR (b := mq) (ci := 9) (qb := 0) (As := []) (n := 0) (rest := []) (st1 := [.int 0]) C hE hW hl.1 (kX10_thrown l D cI cZ cJ _ mq mq_script mq_readRow mq_now mq_trial mq_diary mq_kept mq_isKept mq_sums mq_primes mq_turned 0 v_scriptSize v_spot v_acts v_slides 0 rfl) gL_law_X10_thrown rfl (by decide +kernel) rfl ⟨(Nat.le_of_ble_eq_true rfl), (Nat.le_of_ble_eq_true rfl)⟩ ⟨by omega, by omega⟩ rfl rfl [6] rfl rfl (Nat.le_of_ble_eq_true rfl) rfl rfl dL_law_1661 (fun H locs hW => ?_)
  refine lv_iload hx hb dL_law_1664 (lv_at hl 1 rfl) ?_
  refine lv_icmp_eq (tgt := 1671) hx hb dL_law_1666 (by decide) (fun _ => ?_) (fun hc => absurd rfl hc)
  refine lv_iload hx hb dL_law_1671 (lv_at hl 1 rfl) ?_
  refine lv_if_ne (tgt := 1688) hx hb dL_law_1673 (by decide) (fun hc => absurd rfl hc) (fun _ => ?_)
  refine lv_aload_n hx hb dL_law_1676 rfl (lv_at hl 5 rfl) ?_
  refine lv_iconst (v := 0) hx hb dL_law_1677 (by decide) ?_
  refine k_lald C hE hW 8 rfl (gJ_0 fo _) dL_law_1678 ?_
  refine lv_iload hx hb dL_law_1679 (lv_at hl 0 rfl) ?_
  refine lv_i2l hx hb dL_law_1681 rfl ?_
  refine W.lcmp hx hb dL_law_1682 ?_
  refine lv_if_eq (tgt := 1688) hx hb dL_law_1683 (by decide) (fun _ => ?_) (fun hc => absurd (cmp_self _) hc)
  refine lv_goto (tgt := 2534) hx hb dL_law_1688 (by decide) ?_
  exact kk _ _ _ hW (lv_sub hl [2, 3, 4, 5, 6] rfl)
set_option maxHeartbeats 4000000 in
set_option maxRecDepth 100000 in
theorem lc_pairs_t1 (hlt : l.stackTraces = false) (C : CallFix p m c cL_law 8 s #[Value.ref b] wsL_law RL) (hE : kEn D cI cZ cJ A s) (hX : va_X b L xs s s.heap) (hbl : b < s.heap.size) (hbA : ¬ A b) (x4 : Int32) (p1 : Int32) (hv1 : vp_in (x4 + 1) L) (hp1 : xs (x4 + 1).toNatClampNeg = p1) (hcs : cells + 1 ≤ room_1.cells ∧ slots + 6 ≤ room_1.slots) (q q_now q_now_first q_now_first_numbers q_now_second q_now_second_numbers q_trial q_past q_text q_reader q_slot0 q_slot1 q_greatestPath q_fillingsOfShape mq mq_now mq_script mq_readRow mq_trial mq_diary mq_kept mq_isKept mq_sums mq_primes mq_turned qo : Nat) (u_now_first_numbers : Nat → Int32) (u_now_second_numbers : Nat → Int32) (v_refusal : Int32) (v_scriptSize : Int32) (v_spot : Int32) (v_acts : Int32) (v_slides : Int32) (v_now : Nat → Int32) (fo : Nat → Int64) (rb : Int32) (zc0 zc1 zc2 zc3 zc4 zc5 zc6 zc7 zc8 zc9 zc10 zc11 zc12 zc13 zc14 zc15 zc16 zc17 zc18 zc19 zc20 zc21 zc22 zc23 zc24 zc25 zc26 zc27 zc28 zc29 zc30 zc31 zc32 zc33 zc34 zc35 zc36 zc37 zc38 zc39 : Nat × va_E) (hf : pX9_pairs u_now_first_numbers u_now_second_numbers p1 = some (.inl 1)) (hm : pX10_pairs v_refusal v_now p1 = some (rb, 1)) (hW : kH D A s H locs [(q, .inr (8, [.ref q_now, .ref q_trial, .ref q_past, .ref q_text, .ref q_reader, .ref q_slot0, .ref q_slot1, .ref q_greatestPath, .ref q_fillingsOfShape])), (q_now, .inr (2, [.ref q_now_first, .ref q_now_second])), (q_now_first, .inr (6, [.ref q_now_first_numbers])), (q_now_first_numbers, .inl (cI, 36, .inl u_now_first_numbers)), (q_now_second, .inr (6, [.ref q_now_second_numbers])), (q_now_second_numbers, .inl (cI, 36, .inl u_now_second_numbers)), (mq, .inr (9, [.int v_refusal, .ref mq_script, .int v_scriptSize, .int v_spot, .ref mq_readRow, .ref mq_now, .ref mq_trial, .ref mq_diary, .int v_acts, .ref mq_kept, .ref mq_isKept, .int v_slides, .ref mq_sums, .ref mq_primes, .ref mq_turned])), (mq_now, .inl (cI, 84, .inl v_now)), (qo, .inl (cJ, 1, .inr (.inl fo))), zc0, zc1, zc2, zc3, zc4, zc5, zc6, zc7, zc8, zc9, zc10, zc11, zc12, zc13, zc14, zc15, zc16, zc17, zc18, zc19, zc20, zc21, zc22, zc23, zc24, zc25, zc26, zc27, zc28, zc29, zc30, zc31, zc32, zc33, zc34, zc35, zc36, zc37, zc38, zc39]) (hl : lv_has ls 8 [(0, .ref b), (1, .ref q), (2, .ref mq), (3, .ref qo), (4, .int x4)])
    (kk : ∀ (H1 : Heap) (locs1 : List Loc) (ls1 : Array Slot), kH D A s H1 locs1 [(q, .inr (8, [.ref q_now, .ref q_trial, .ref q_past, .ref q_text, .ref q_reader, .ref q_slot0, .ref q_slot1, .ref q_greatestPath, .ref q_fillingsOfShape])), (q_now, .inr (2, [.ref q_now_first, .ref q_now_second])), (q_now_first, .inr (6, [.ref q_now_first_numbers])), (q_now_first_numbers, .inl (cI, 36, .inl u_now_first_numbers)), (q_now_second, .inr (6, [.ref q_now_second_numbers])), (q_now_second_numbers, .inl (cI, 36, .inl u_now_second_numbers)), (mq, .inr (9, [.int 1, .ref mq_script, .int v_scriptSize, .int v_spot, .ref mq_readRow, .ref mq_now, .ref mq_trial, .ref mq_diary, .int v_acts, .ref mq_kept, .ref mq_isKept, .int v_slides, .ref mq_sums, .ref mq_primes, .ref mq_turned])), (mq_now, .inl (cI, 84, .inl v_now)), (qo, .inl (cJ, 1, .inr (.inl fo))), zc0, zc1, zc2, zc3, zc4, zc5, zc6, zc7, zc8, zc9, zc10, zc11, zc12, zc13, zc14, zc15, zc16, zc17, zc18, zc19, zc20, zc21, zc22, zc23, zc24, zc25, zc26, zc27, zc28, zc29, zc30, zc31, zc32, zc33, zc34, zc35, zc36, zc37, zc38, zc39] → lv_has ls1 8 [(0, .ref b), (1, .ref q), (2, .ref mq), (3, .ref qo), (4, .int x4)] → W p l e room_1 s m #[Value.ref b] below meth c H1 locs1 (cells + 1) (slots + 6) Q (F0 m 2534 ls1 [])) : W p l e room_1 s m #[Value.ref b] below meth c H locs cells slots Q (F0 m 1635 ls []) := by
  have hx := C.1
  have hb := C.2.1
  refine lv_aload_n hx hb dL_law_1635 rfl (lv_at hl 1 rfl) ?_
  refine lv_aload_n hx hb dL_law_1636 rfl (lv_at hl 0 rfl) ?_
  refine lv_iload hx hb dL_law_1637 (lv_at hl 4 rfl) ?_
  refine lv_iconst (v := 1) hx hb dL_law_1639 (by decide) ?_
  refine lv_iadd hx hb dL_law_1640 ?_
  refine va_sld hx hb hX hbl hbA hW.2.2 hv1 dL_law_1641 ?_
  rw [hp1]
  refine lv_aload_n hx hb dL_law_1642 rfl (lv_at hl 3 rfl) ?_
  refine k_callSW (As := [.ref q, .int p1, .ref qo]) (n := 3) (rest := []) (st1 := [.int 1]) (wr := [(mq, .inr (9, [.int v_refusal, .ref mq_script, .int v_scriptSize, .int v_spot, .ref mq_readRow, .ref mq_now, .ref mq_trial, .ref mq_diary, .int v_acts, .ref mq_kept, .ref mq_isKept, .int v_slides, .ref mq_sums, .ref mq_primes, .ref mq_turned])), (mq_now, .inl (cI, 84, .inl v_now)), zc0, zc1, zc2, zc3, zc4, zc5, zc6, zc7, zc8, zc9, zc10, zc11, zc12, zc13, zc14, zc15, zc16, zc17, zc18, zc19, zc20, zc21, zc22, zc23, zc24, zc25, zc26, zc27, zc28, zc29, zc30, zc31, zc32, zc33, zc34, zc35, zc36, zc37, zc38, zc39]) (ws' := [(q, .inr (8, [.ref q_now, .ref q_trial, .ref q_past, .ref q_text, .ref q_reader, .ref q_slot0, .ref q_slot1, .ref q_greatestPath, .ref q_fillingsOfShape])), (q_now, .inr (2, [.ref q_now_first, .ref q_now_second])), (q_now_first, .inr (6, [.ref q_now_first_numbers])), (q_now_first_numbers, .inl (cI, 36, .inl u_now_first_numbers)), (q_now_second, .inr (6, [.ref q_now_second_numbers])), (q_now_second_numbers, .inl (cI, 36, .inl u_now_second_numbers)), (mq, .inr (9, [.int v_refusal, .ref mq_script, .int v_scriptSize, .int v_spot, .ref mq_readRow, .ref mq_now, .ref mq_trial, .ref mq_diary, .int v_acts, .ref mq_kept, .ref mq_isKept, .int v_slides, .ref mq_sums, .ref mq_primes, .ref mq_turned])), (mq_now, .inl (cI, 84, .inl v_now)), (qo, .inl (cJ, 1, .inr (.inl fo))), zc0, zc1, zc2, zc3, zc4, zc5, zc6, zc7, zc8, zc9, zc10, zc11, zc12, zc13, zc14, zc15, zc16, zc17, zc18, zc19, zc20, zc21, zc22, zc23, zc24, zc25, zc26, zc27, zc28, zc29, zc30, zc31, zc32, zc33, zc34, zc35, zc36, zc37, zc38, zc39]) C hE hW hl.1 (kL_pairs_t1 l hlt D cI cZ cJ _ q q_now q_now_first q_now_first_numbers q_now_second q_now_second_numbers q_trial q_past q_text q_reader q_slot0 q_slot1 q_greatestPath q_fillingsOfShape qo u_now_first_numbers u_now_second_numbers fo p1 hf) gL_law_L_pairs rfl (by decide +kernel) rfl ⟨(Nat.le_of_ble_eq_true rfl), (Nat.le_of_ble_eq_true rfl)⟩ ⟨by omega, by omega⟩ [0, 1, 2, 3, 4, 5, 8] [6, 7, 9, 10, 11, 12, 13, 14, 15, 16, 17, 18, 19, 20, 21, 22, 23, 24, 25, 26, 27, 28, 29, 30, 31, 32, 33, 34, 35, 36, 37, 38, 39, 40, 41, 42, 43, 44, 45, 46, 47, 48] [42, 43, 44, 45, 46, 47, 0, 1, 48, 2, 3, 4, 5, 6, 7, 8, 9, 10, 11, 12, 13, 14, 15, 16, 17, 18, 19, 20, 21, 22, 23, 24, 25, 26, 27, 28, 29, 30, 31, 32, 33, 34, 35, 36, 37, 38, 39, 40, 41] rfl rfl rfl rfl (by decide) rfl rfl (Nat.le_of_ble_eq_true rfl) rfl rfl dL_law_1643 (fun H locs hW => ?_)
  refine lv_istore (lv' := [(5, .int 1), (0, .ref b), (1, .ref q), (2, .ref mq), (3, .ref qo), (4, .int x4)]) hx hb dL_law_1646 hl (by decide) rfl (fun ls hl => ?_)
  refine lv_aload_n hx hb dL_law_1648 rfl (lv_at hl 3 rfl) ?_
  refine lv_aload_n hx hb dL_law_1649 rfl (lv_at hl 1 rfl) ?_
  refine lv_iload hx hb dL_law_1650 (lv_at hl 5 rfl) ?_
  refine lv_iconst (v := 1) hx hb dL_law_1652 (by decide) ?_
  refine lv_iadd hx hb dL_law_1653 ?_
  refine va_sld hx hb hX hbl hbA hW.2.2 hv1 dL_law_1654 ?_
  rw [hp1]
  refine k_callV (b := mq) (ci := 9) (qb := 0) (As := [.int p1]) (n := 1) (rest := []) (st1 := [.int rb]) (wr := [(q, .inr (8, [.ref q_now, .ref q_trial, .ref q_past, .ref q_text, .ref q_reader, .ref q_slot0, .ref q_slot1, .ref q_greatestPath, .ref q_fillingsOfShape])), (q_now, .inr (2, [.ref q_now_first, .ref q_now_second])), (q_now_first, .inr (6, [.ref q_now_first_numbers])), (q_now_first_numbers, .inl (cI, 36, .inl u_now_first_numbers)), (q_now_second, .inr (6, [.ref q_now_second_numbers])), (q_now_second_numbers, .inl (cI, 36, .inl u_now_second_numbers)), (qo, .inl (cJ, 1, .inr (.inl fo))), zc0, zc1, zc2, zc3, zc4, zc5, zc6, zc7, zc8, zc9, zc10, zc11, zc12, zc13, zc14, zc15, zc16, zc17, zc18, zc19, zc20, zc21, zc22, zc23, zc24, zc25, zc26, zc27, zc28, zc29, zc30, zc31, zc32, zc33, zc34, zc35, zc36, zc37, zc38, zc39]) (ws' := [(q, .inr (8, [.ref q_now, .ref q_trial, .ref q_past, .ref q_text, .ref q_reader, .ref q_slot0, .ref q_slot1, .ref q_greatestPath, .ref q_fillingsOfShape])), (q_now, .inr (2, [.ref q_now_first, .ref q_now_second])), (q_now_first, .inr (6, [.ref q_now_first_numbers])), (q_now_first_numbers, .inl (cI, 36, .inl u_now_first_numbers)), (q_now_second, .inr (6, [.ref q_now_second_numbers])), (q_now_second_numbers, .inl (cI, 36, .inl u_now_second_numbers)), (mq, .inr (9, [.int 1, .ref mq_script, .int v_scriptSize, .int v_spot, .ref mq_readRow, .ref mq_now, .ref mq_trial, .ref mq_diary, .int v_acts, .ref mq_kept, .ref mq_isKept, .int v_slides, .ref mq_sums, .ref mq_primes, .ref mq_turned])), (mq_now, .inl (cI, 84, .inl v_now)), (qo, .inl (cJ, 1, .inr (.inl fo))), zc0, zc1, zc2, zc3, zc4, zc5, zc6, zc7, zc8, zc9, zc10, zc11, zc12, zc13, zc14, zc15, zc16, zc17, zc18, zc19, zc20, zc21, zc22, zc23, zc24, zc25, zc26, zc27, zc28, zc29, zc30, zc31, zc32, zc33, zc34, zc35, zc36, zc37, zc38, zc39]) C hE hW hl.1 (kX10_pairs l D cI cZ cJ _ mq mq_now mq_script mq_readRow mq_trial mq_diary mq_kept mq_isKept mq_sums mq_primes mq_turned v_refusal v_scriptSize v_spot v_acts v_slides v_now p1 rb 1 hm) gL_law_X10_pairs rfl (by decide +kernel) rfl ⟨(Nat.le_of_ble_eq_true rfl), (Nat.le_of_ble_eq_true rfl)⟩ ⟨by omega, by omega⟩ rfl rfl [6, 7] [0, 1, 2, 3, 4, 5, 8, 9, 10, 11, 12, 13, 14, 15, 16, 17, 18, 19, 20, 21, 22, 23, 24, 25, 26, 27, 28, 29, 30, 31, 32, 33, 34, 35, 36, 37, 38, 39, 40, 41, 42, 43, 44, 45, 46, 47, 48] [0, 1, 2, 3, 4, 5, 47, 48, 6, 7, 8, 9, 10, 11, 12, 13, 14, 15, 16, 17, 18, 19, 20, 21, 22, 23, 24, 25, 26, 27, 28, 29, 30, 31, 32, 33, 34, 35, 36, 37, 38, 39, 40, 41, 42, 43, 44, 45, 46] rfl rfl rfl rfl (by decide) rfl rfl (Nat.le_of_ble_eq_true rfl) rfl rfl dL_law_1655 (fun H locs hW => ?_)
  refine lv_istore (lv' := [(6, .int rb), (5, .int 1), (0, .ref b), (1, .ref q), (2, .ref mq), (3, .ref qo), (4, .int x4)]) hx hb dL_law_1658 hl (by decide) rfl (fun ls hl => ?_)
  refine lv_aload_n hx hb dL_law_1660 rfl (lv_at hl 4 rfl) ?_
  refine k_callVR (b := mq) (ci := 9) (qb := 0) (As := []) (n := 0) (rest := []) (st1 := [.int 1]) C hE hW hl.1 (kX10_thrown l D cI cZ cJ _ mq mq_script mq_readRow mq_now mq_trial mq_diary mq_kept mq_isKept mq_sums mq_primes mq_turned 1 v_scriptSize v_spot v_acts v_slides 1 rfl) gL_law_X10_thrown rfl (by decide +kernel) rfl ⟨(Nat.le_of_ble_eq_true rfl), (Nat.le_of_ble_eq_true rfl)⟩ ⟨by omega, by omega⟩ rfl rfl [6] rfl rfl (Nat.le_of_ble_eq_true rfl) rfl rfl dL_law_1661 (fun H locs hW => ?_)
  refine lv_iload hx hb dL_law_1664 (lv_at hl 1 rfl) ?_
  refine lv_icmp_eq (tgt := 1671) hx hb dL_law_1666 (by decide) (fun _ => ?_) (fun hc => absurd rfl hc)
  refine lv_iload hx hb dL_law_1671 (lv_at hl 1 rfl) ?_
  refine lv_if_ne (tgt := 1688) hx hb dL_law_1673 (by decide) (fun _ => ?_) (fun hc => absurd hc (by decide))
  refine lv_goto (tgt := 2534) hx hb dL_law_1688 (by decide) ?_
  exact kk _ _ _ hW (lv_sub hl [2, 3, 4, 5, 6] rfl)
set_option maxHeartbeats 4000000 in
set_option maxRecDepth 100000 in
theorem lc_kthSum_r (hlt : l.stackTraces = false) (C : CallFix p m c cL_law 8 s #[Value.ref b] wsL_law RL) (hE : kEn D cI cZ cJ A s) (hX : va_X b L xs s s.heap) (hbl : b < s.heap.size) (hbA : ¬ A b) (x4 : Int32) (p1 : Int32) (hv1 : vp_in (x4 + 1) L) (hp1 : xs (x4 + 1).toNatClampNeg = p1) (hcs : cells + 1 ≤ room_1.cells ∧ slots + 6 ≤ room_1.slots) (q q_now q_now_first q_now_first_numbers q_now_second q_now_second_numbers q_trial q_past q_text q_reader q_slot0 q_slot1 q_greatestPath q_fillingsOfShape mq mq_now mq_script mq_readRow mq_trial mq_diary mq_kept mq_isKept mq_sums mq_primes mq_turned qo : Nat) (u_now_first_numbers : Nat → Int32) (u_now_second_numbers : Nat → Int32) (v_refusal : Int32) (v_scriptSize : Int32) (v_spot : Int32) (v_acts : Int32) (v_slides : Int32) (v_now : Nat → Int32) (fo : Nat → Int64) (r : Int32) (zc0 zc1 zc2 zc3 zc4 zc5 zc6 zc7 zc8 zc9 zc10 zc11 zc12 zc13 zc14 zc15 zc16 zc17 zc18 zc19 zc20 zc21 zc22 zc23 zc24 zc25 zc26 zc27 zc28 zc29 zc30 zc31 zc32 zc33 zc34 zc35 zc36 zc37 zc38 zc39 : Nat × va_E) (hf : pX9_kthSum u_now_first_numbers u_now_second_numbers p1 = some (.inr r)) (hm : pX10_kthSum v_refusal v_now p1 = some (r, 0)) (hW : kH D A s H locs [(q, .inr (8, [.ref q_now, .ref q_trial, .ref q_past, .ref q_text, .ref q_reader, .ref q_slot0, .ref q_slot1, .ref q_greatestPath, .ref q_fillingsOfShape])), (q_now, .inr (2, [.ref q_now_first, .ref q_now_second])), (q_now_first, .inr (6, [.ref q_now_first_numbers])), (q_now_first_numbers, .inl (cI, 36, .inl u_now_first_numbers)), (q_now_second, .inr (6, [.ref q_now_second_numbers])), (q_now_second_numbers, .inl (cI, 36, .inl u_now_second_numbers)), (mq, .inr (9, [.int v_refusal, .ref mq_script, .int v_scriptSize, .int v_spot, .ref mq_readRow, .ref mq_now, .ref mq_trial, .ref mq_diary, .int v_acts, .ref mq_kept, .ref mq_isKept, .int v_slides, .ref mq_sums, .ref mq_primes, .ref mq_turned])), (mq_now, .inl (cI, 84, .inl v_now)), (qo, .inl (cJ, 1, .inr (.inl fo))), zc0, zc1, zc2, zc3, zc4, zc5, zc6, zc7, zc8, zc9, zc10, zc11, zc12, zc13, zc14, zc15, zc16, zc17, zc18, zc19, zc20, zc21, zc22, zc23, zc24, zc25, zc26, zc27, zc28, zc29, zc30, zc31, zc32, zc33, zc34, zc35, zc36, zc37, zc38, zc39]) (hl : lv_has ls 8 [(0, .ref b), (1, .ref q), (2, .ref mq), (3, .ref qo), (4, .int x4)])
    (kk : ∀ (H1 : Heap) (locs1 : List Loc) (ls1 : Array Slot), kH D A s H1 locs1 [(q, .inr (8, [.ref q_now, .ref q_trial, .ref q_past, .ref q_text, .ref q_reader, .ref q_slot0, .ref q_slot1, .ref q_greatestPath, .ref q_fillingsOfShape])), (q_now, .inr (2, [.ref q_now_first, .ref q_now_second])), (q_now_first, .inr (6, [.ref q_now_first_numbers])), (q_now_first_numbers, .inl (cI, 36, .inl u_now_first_numbers)), (q_now_second, .inr (6, [.ref q_now_second_numbers])), (q_now_second_numbers, .inl (cI, 36, .inl u_now_second_numbers)), (mq, .inr (9, [.int 0, .ref mq_script, .int v_scriptSize, .int v_spot, .ref mq_readRow, .ref mq_now, .ref mq_trial, .ref mq_diary, .int v_acts, .ref mq_kept, .ref mq_isKept, .int v_slides, .ref mq_sums, .ref mq_primes, .ref mq_turned])), (mq_now, .inl (cI, 84, .inl v_now)), (qo, .inl (cJ, 1, .inr (.inl (vp_updL fo 0 (r.toInt64))))), zc0, zc1, zc2, zc3, zc4, zc5, zc6, zc7, zc8, zc9, zc10, zc11, zc12, zc13, zc14, zc15, zc16, zc17, zc18, zc19, zc20, zc21, zc22, zc23, zc24, zc25, zc26, zc27, zc28, zc29, zc30, zc31, zc32, zc33, zc34, zc35, zc36, zc37, zc38, zc39] → lv_has ls1 8 [(0, .ref b), (1, .ref q), (2, .ref mq), (3, .ref qo), (4, .int x4)] → W p l e room_1 s m #[Value.ref b] below meth c H1 locs1 cells slots Q (F0 m 2534 ls1 [])) : W p l e room_1 s m #[Value.ref b] below meth c H locs cells slots Q (F0 m 1691 ls []) := by
  have hx := C.1
  have hb := C.2.1
  refine lv_aload_n hx hb dL_law_1691 rfl (lv_at hl 1 rfl) ?_
  refine lv_aload_n hx hb dL_law_1692 rfl (lv_at hl 0 rfl) ?_
  refine lv_iload hx hb dL_law_1693 (lv_at hl 4 rfl) ?_
  refine lv_iconst (v := 1) hx hb dL_law_1695 (by decide) ?_
  refine lv_iadd hx hb dL_law_1696 ?_
  refine va_sld hx hb hX hbl hbA hW.2.2 hv1 dL_law_1697 ?_
  rw [hp1]
  refine lv_aload_n hx hb dL_law_1698 rfl (lv_at hl 3 rfl) ?_
  refine k_callSW (As := [.ref q, .int p1, .ref qo]) (n := 3) (rest := []) (st1 := [.int 0]) (wr := [(mq, .inr (9, [.int v_refusal, .ref mq_script, .int v_scriptSize, .int v_spot, .ref mq_readRow, .ref mq_now, .ref mq_trial, .ref mq_diary, .int v_acts, .ref mq_kept, .ref mq_isKept, .int v_slides, .ref mq_sums, .ref mq_primes, .ref mq_turned])), (mq_now, .inl (cI, 84, .inl v_now)), zc0, zc1, zc2, zc3, zc4, zc5, zc6, zc7, zc8, zc9, zc10, zc11, zc12, zc13, zc14, zc15, zc16, zc17, zc18, zc19, zc20, zc21, zc22, zc23, zc24, zc25, zc26, zc27, zc28, zc29, zc30, zc31, zc32, zc33, zc34, zc35, zc36, zc37, zc38, zc39]) (ws' := [(q, .inr (8, [.ref q_now, .ref q_trial, .ref q_past, .ref q_text, .ref q_reader, .ref q_slot0, .ref q_slot1, .ref q_greatestPath, .ref q_fillingsOfShape])), (q_now, .inr (2, [.ref q_now_first, .ref q_now_second])), (q_now_first, .inr (6, [.ref q_now_first_numbers])), (q_now_first_numbers, .inl (cI, 36, .inl u_now_first_numbers)), (q_now_second, .inr (6, [.ref q_now_second_numbers])), (q_now_second_numbers, .inl (cI, 36, .inl u_now_second_numbers)), (mq, .inr (9, [.int v_refusal, .ref mq_script, .int v_scriptSize, .int v_spot, .ref mq_readRow, .ref mq_now, .ref mq_trial, .ref mq_diary, .int v_acts, .ref mq_kept, .ref mq_isKept, .int v_slides, .ref mq_sums, .ref mq_primes, .ref mq_turned])), (mq_now, .inl (cI, 84, .inl v_now)), (qo, .inl (cJ, 1, .inr (.inl (vp_updL fo 0 (r.toInt64))))), zc0, zc1, zc2, zc3, zc4, zc5, zc6, zc7, zc8, zc9, zc10, zc11, zc12, zc13, zc14, zc15, zc16, zc17, zc18, zc19, zc20, zc21, zc22, zc23, zc24, zc25, zc26, zc27, zc28, zc29, zc30, zc31, zc32, zc33, zc34, zc35, zc36, zc37, zc38, zc39]) C hE hW hl.1 (kL_kthSum_r l hlt D cI cZ cJ _ q q_now q_now_first q_now_first_numbers q_now_second q_now_second_numbers q_trial q_past q_text q_reader q_slot0 q_slot1 q_greatestPath q_fillingsOfShape qo u_now_first_numbers u_now_second_numbers fo p1 r (vp_updL fo 0 (r.toInt64)) hf (sJ_0 fo _)) gL_law_L_kthSum rfl (by decide +kernel) rfl ⟨(Nat.le_of_ble_eq_true rfl), (Nat.le_of_ble_eq_true rfl)⟩ ⟨by omega, by omega⟩ [0, 1, 2, 3, 4, 5, 8] [6, 7, 9, 10, 11, 12, 13, 14, 15, 16, 17, 18, 19, 20, 21, 22, 23, 24, 25, 26, 27, 28, 29, 30, 31, 32, 33, 34, 35, 36, 37, 38, 39, 40, 41, 42, 43, 44, 45, 46, 47, 48] [42, 43, 44, 45, 46, 47, 0, 1, 48, 2, 3, 4, 5, 6, 7, 8, 9, 10, 11, 12, 13, 14, 15, 16, 17, 18, 19, 20, 21, 22, 23, 24, 25, 26, 27, 28, 29, 30, 31, 32, 33, 34, 35, 36, 37, 38, 39, 40, 41] rfl rfl rfl rfl (by decide) rfl rfl (Nat.le_of_ble_eq_true rfl) rfl rfl dL_law_1699 (fun H locs hW => ?_)
  refine lv_istore (lv' := [(5, .int 0), (0, .ref b), (1, .ref q), (2, .ref mq), (3, .ref qo), (4, .int x4)]) hx hb dL_law_1702 hl (by decide) rfl (fun ls hl => ?_)
  refine lv_aload_n hx hb dL_law_1704 rfl (lv_at hl 3 rfl) ?_
  refine lv_aload_n hx hb dL_law_1705 rfl (lv_at hl 1 rfl) ?_
  refine lv_iload hx hb dL_law_1706 (lv_at hl 5 rfl) ?_
  refine lv_iconst (v := 1) hx hb dL_law_1708 (by decide) ?_
  refine lv_iadd hx hb dL_law_1709 ?_
  refine va_sld hx hb hX hbl hbA hW.2.2 hv1 dL_law_1710 ?_
  rw [hp1]
  refine k_callV (b := mq) (ci := 9) (qb := 0) (As := [.int p1]) (n := 1) (rest := []) (st1 := [.int r]) (wr := [(q, .inr (8, [.ref q_now, .ref q_trial, .ref q_past, .ref q_text, .ref q_reader, .ref q_slot0, .ref q_slot1, .ref q_greatestPath, .ref q_fillingsOfShape])), (q_now, .inr (2, [.ref q_now_first, .ref q_now_second])), (q_now_first, .inr (6, [.ref q_now_first_numbers])), (q_now_first_numbers, .inl (cI, 36, .inl u_now_first_numbers)), (q_now_second, .inr (6, [.ref q_now_second_numbers])), (q_now_second_numbers, .inl (cI, 36, .inl u_now_second_numbers)), (qo, .inl (cJ, 1, .inr (.inl (vp_updL fo 0 (r.toInt64))))), zc0, zc1, zc2, zc3, zc4, zc5, zc6, zc7, zc8, zc9, zc10, zc11, zc12, zc13, zc14, zc15, zc16, zc17, zc18, zc19, zc20, zc21, zc22, zc23, zc24, zc25, zc26, zc27, zc28, zc29, zc30, zc31, zc32, zc33, zc34, zc35, zc36, zc37, zc38, zc39]) (ws' := [(q, .inr (8, [.ref q_now, .ref q_trial, .ref q_past, .ref q_text, .ref q_reader, .ref q_slot0, .ref q_slot1, .ref q_greatestPath, .ref q_fillingsOfShape])), (q_now, .inr (2, [.ref q_now_first, .ref q_now_second])), (q_now_first, .inr (6, [.ref q_now_first_numbers])), (q_now_first_numbers, .inl (cI, 36, .inl u_now_first_numbers)), (q_now_second, .inr (6, [.ref q_now_second_numbers])), (q_now_second_numbers, .inl (cI, 36, .inl u_now_second_numbers)), (mq, .inr (9, [.int 0, .ref mq_script, .int v_scriptSize, .int v_spot, .ref mq_readRow, .ref mq_now, .ref mq_trial, .ref mq_diary, .int v_acts, .ref mq_kept, .ref mq_isKept, .int v_slides, .ref mq_sums, .ref mq_primes, .ref mq_turned])), (mq_now, .inl (cI, 84, .inl v_now)), (qo, .inl (cJ, 1, .inr (.inl (vp_updL fo 0 (r.toInt64))))), zc0, zc1, zc2, zc3, zc4, zc5, zc6, zc7, zc8, zc9, zc10, zc11, zc12, zc13, zc14, zc15, zc16, zc17, zc18, zc19, zc20, zc21, zc22, zc23, zc24, zc25, zc26, zc27, zc28, zc29, zc30, zc31, zc32, zc33, zc34, zc35, zc36, zc37, zc38, zc39]) C hE hW hl.1 (kX10_kthSum l D cI cZ cJ _ mq mq_now mq_script mq_readRow mq_trial mq_diary mq_kept mq_isKept mq_sums mq_primes mq_turned v_refusal v_scriptSize v_spot v_acts v_slides v_now p1 r 0 hm) gL_law_X10_kthSum rfl (by decide +kernel) rfl ⟨(Nat.le_of_ble_eq_true rfl), (Nat.le_of_ble_eq_true rfl)⟩ ⟨by omega, by omega⟩ rfl rfl [6, 7] [0, 1, 2, 3, 4, 5, 8, 9, 10, 11, 12, 13, 14, 15, 16, 17, 18, 19, 20, 21, 22, 23, 24, 25, 26, 27, 28, 29, 30, 31, 32, 33, 34, 35, 36, 37, 38, 39, 40, 41, 42, 43, 44, 45, 46, 47, 48] [0, 1, 2, 3, 4, 5, 47, 48, 6, 7, 8, 9, 10, 11, 12, 13, 14, 15, 16, 17, 18, 19, 20, 21, 22, 23, 24, 25, 26, 27, 28, 29, 30, 31, 32, 33, 34, 35, 36, 37, 38, 39, 40, 41, 42, 43, 44, 45, 46] rfl rfl rfl rfl (by decide) rfl rfl (Nat.le_of_ble_eq_true rfl) rfl rfl dL_law_1711 (fun H locs hW => ?_)
  refine lv_istore (lv' := [(6, .int r), (5, .int 0), (0, .ref b), (1, .ref q), (2, .ref mq), (3, .ref qo), (4, .int x4)]) hx hb dL_law_1714 hl (by decide) rfl (fun ls hl => ?_)
  refine lv_aload_n hx hb dL_law_1716 rfl (lv_at hl 4 rfl) ?_
  refine k_callVR (b := mq) (ci := 9) (qb := 0) (As := []) (n := 0) (rest := []) (st1 := [.int 0]) C hE hW hl.1 (kX10_thrown l D cI cZ cJ _ mq mq_script mq_readRow mq_now mq_trial mq_diary mq_kept mq_isKept mq_sums mq_primes mq_turned 0 v_scriptSize v_spot v_acts v_slides 0 rfl) gL_law_X10_thrown rfl (by decide +kernel) rfl ⟨(Nat.le_of_ble_eq_true rfl), (Nat.le_of_ble_eq_true rfl)⟩ ⟨by omega, by omega⟩ rfl rfl [6] rfl rfl (Nat.le_of_ble_eq_true rfl) rfl rfl dL_law_1717 (fun H locs hW => ?_)
  refine lv_iload hx hb dL_law_1720 (lv_at hl 1 rfl) ?_
  refine lv_icmp_eq (tgt := 1727) hx hb dL_law_1722 (by decide) (fun _ => ?_) (fun hc => absurd rfl hc)
  refine lv_iload hx hb dL_law_1727 (lv_at hl 1 rfl) ?_
  refine lv_if_ne (tgt := 1744) hx hb dL_law_1729 (by decide) (fun hc => absurd rfl hc) (fun _ => ?_)
  refine lv_aload_n hx hb dL_law_1732 rfl (lv_at hl 5 rfl) ?_
  refine lv_iconst (v := 0) hx hb dL_law_1733 (by decide) ?_
  refine k_lald C hE hW 8 rfl (gJ_0 fo _) dL_law_1734 ?_
  refine lv_iload hx hb dL_law_1735 (lv_at hl 0 rfl) ?_
  refine lv_i2l hx hb dL_law_1737 rfl ?_
  refine W.lcmp hx hb dL_law_1738 ?_
  refine lv_if_eq (tgt := 1744) hx hb dL_law_1739 (by decide) (fun _ => ?_) (fun hc => absurd (cmp_self _) hc)
  refine lv_goto (tgt := 2534) hx hb dL_law_1744 (by decide) ?_
  exact kk _ _ _ hW (lv_sub hl [2, 3, 4, 5, 6] rfl)
set_option maxHeartbeats 4000000 in
set_option maxRecDepth 100000 in
theorem lc_kthSum_t1 (hlt : l.stackTraces = false) (C : CallFix p m c cL_law 8 s #[Value.ref b] wsL_law RL) (hE : kEn D cI cZ cJ A s) (hX : va_X b L xs s s.heap) (hbl : b < s.heap.size) (hbA : ¬ A b) (x4 : Int32) (p1 : Int32) (hv1 : vp_in (x4 + 1) L) (hp1 : xs (x4 + 1).toNatClampNeg = p1) (hcs : cells + 1 ≤ room_1.cells ∧ slots + 6 ≤ room_1.slots) (q q_now q_now_first q_now_first_numbers q_now_second q_now_second_numbers q_trial q_past q_text q_reader q_slot0 q_slot1 q_greatestPath q_fillingsOfShape mq mq_now mq_script mq_readRow mq_trial mq_diary mq_kept mq_isKept mq_sums mq_primes mq_turned qo : Nat) (u_now_first_numbers : Nat → Int32) (u_now_second_numbers : Nat → Int32) (v_refusal : Int32) (v_scriptSize : Int32) (v_spot : Int32) (v_acts : Int32) (v_slides : Int32) (v_now : Nat → Int32) (fo : Nat → Int64) (rb : Int32) (zc0 zc1 zc2 zc3 zc4 zc5 zc6 zc7 zc8 zc9 zc10 zc11 zc12 zc13 zc14 zc15 zc16 zc17 zc18 zc19 zc20 zc21 zc22 zc23 zc24 zc25 zc26 zc27 zc28 zc29 zc30 zc31 zc32 zc33 zc34 zc35 zc36 zc37 zc38 zc39 : Nat × va_E) (hf : pX9_kthSum u_now_first_numbers u_now_second_numbers p1 = some (.inl 1)) (hm : pX10_kthSum v_refusal v_now p1 = some (rb, 1)) (hW : kH D A s H locs [(q, .inr (8, [.ref q_now, .ref q_trial, .ref q_past, .ref q_text, .ref q_reader, .ref q_slot0, .ref q_slot1, .ref q_greatestPath, .ref q_fillingsOfShape])), (q_now, .inr (2, [.ref q_now_first, .ref q_now_second])), (q_now_first, .inr (6, [.ref q_now_first_numbers])), (q_now_first_numbers, .inl (cI, 36, .inl u_now_first_numbers)), (q_now_second, .inr (6, [.ref q_now_second_numbers])), (q_now_second_numbers, .inl (cI, 36, .inl u_now_second_numbers)), (mq, .inr (9, [.int v_refusal, .ref mq_script, .int v_scriptSize, .int v_spot, .ref mq_readRow, .ref mq_now, .ref mq_trial, .ref mq_diary, .int v_acts, .ref mq_kept, .ref mq_isKept, .int v_slides, .ref mq_sums, .ref mq_primes, .ref mq_turned])), (mq_now, .inl (cI, 84, .inl v_now)), (qo, .inl (cJ, 1, .inr (.inl fo))), zc0, zc1, zc2, zc3, zc4, zc5, zc6, zc7, zc8, zc9, zc10, zc11, zc12, zc13, zc14, zc15, zc16, zc17, zc18, zc19, zc20, zc21, zc22, zc23, zc24, zc25, zc26, zc27, zc28, zc29, zc30, zc31, zc32, zc33, zc34, zc35, zc36, zc37, zc38, zc39]) (hl : lv_has ls 8 [(0, .ref b), (1, .ref q), (2, .ref mq), (3, .ref qo), (4, .int x4)])
    (kk : ∀ (H1 : Heap) (locs1 : List Loc) (ls1 : Array Slot), kH D A s H1 locs1 [(q, .inr (8, [.ref q_now, .ref q_trial, .ref q_past, .ref q_text, .ref q_reader, .ref q_slot0, .ref q_slot1, .ref q_greatestPath, .ref q_fillingsOfShape])), (q_now, .inr (2, [.ref q_now_first, .ref q_now_second])), (q_now_first, .inr (6, [.ref q_now_first_numbers])), (q_now_first_numbers, .inl (cI, 36, .inl u_now_first_numbers)), (q_now_second, .inr (6, [.ref q_now_second_numbers])), (q_now_second_numbers, .inl (cI, 36, .inl u_now_second_numbers)), (mq, .inr (9, [.int 1, .ref mq_script, .int v_scriptSize, .int v_spot, .ref mq_readRow, .ref mq_now, .ref mq_trial, .ref mq_diary, .int v_acts, .ref mq_kept, .ref mq_isKept, .int v_slides, .ref mq_sums, .ref mq_primes, .ref mq_turned])), (mq_now, .inl (cI, 84, .inl v_now)), (qo, .inl (cJ, 1, .inr (.inl fo))), zc0, zc1, zc2, zc3, zc4, zc5, zc6, zc7, zc8, zc9, zc10, zc11, zc12, zc13, zc14, zc15, zc16, zc17, zc18, zc19, zc20, zc21, zc22, zc23, zc24, zc25, zc26, zc27, zc28, zc29, zc30, zc31, zc32, zc33, zc34, zc35, zc36, zc37, zc38, zc39] → lv_has ls1 8 [(0, .ref b), (1, .ref q), (2, .ref mq), (3, .ref qo), (4, .int x4)] → W p l e room_1 s m #[Value.ref b] below meth c H1 locs1 (cells + 1) (slots + 6) Q (F0 m 2534 ls1 [])) : W p l e room_1 s m #[Value.ref b] below meth c H locs cells slots Q (F0 m 1691 ls []) := by
  have hx := C.1
  have hb := C.2.1
  refine lv_aload_n hx hb dL_law_1691 rfl (lv_at hl 1 rfl) ?_
  refine lv_aload_n hx hb dL_law_1692 rfl (lv_at hl 0 rfl) ?_
  refine lv_iload hx hb dL_law_1693 (lv_at hl 4 rfl) ?_
  refine lv_iconst (v := 1) hx hb dL_law_1695 (by decide) ?_
  refine lv_iadd hx hb dL_law_1696 ?_
  refine va_sld hx hb hX hbl hbA hW.2.2 hv1 dL_law_1697 ?_
  rw [hp1]
  refine lv_aload_n hx hb dL_law_1698 rfl (lv_at hl 3 rfl) ?_
  refine k_callSW (As := [.ref q, .int p1, .ref qo]) (n := 3) (rest := []) (st1 := [.int 1]) (wr := [(mq, .inr (9, [.int v_refusal, .ref mq_script, .int v_scriptSize, .int v_spot, .ref mq_readRow, .ref mq_now, .ref mq_trial, .ref mq_diary, .int v_acts, .ref mq_kept, .ref mq_isKept, .int v_slides, .ref mq_sums, .ref mq_primes, .ref mq_turned])), (mq_now, .inl (cI, 84, .inl v_now)), zc0, zc1, zc2, zc3, zc4, zc5, zc6, zc7, zc8, zc9, zc10, zc11, zc12, zc13, zc14, zc15, zc16, zc17, zc18, zc19, zc20, zc21, zc22, zc23, zc24, zc25, zc26, zc27, zc28, zc29, zc30, zc31, zc32, zc33, zc34, zc35, zc36, zc37, zc38, zc39]) (ws' := [(q, .inr (8, [.ref q_now, .ref q_trial, .ref q_past, .ref q_text, .ref q_reader, .ref q_slot0, .ref q_slot1, .ref q_greatestPath, .ref q_fillingsOfShape])), (q_now, .inr (2, [.ref q_now_first, .ref q_now_second])), (q_now_first, .inr (6, [.ref q_now_first_numbers])), (q_now_first_numbers, .inl (cI, 36, .inl u_now_first_numbers)), (q_now_second, .inr (6, [.ref q_now_second_numbers])), (q_now_second_numbers, .inl (cI, 36, .inl u_now_second_numbers)), (mq, .inr (9, [.int v_refusal, .ref mq_script, .int v_scriptSize, .int v_spot, .ref mq_readRow, .ref mq_now, .ref mq_trial, .ref mq_diary, .int v_acts, .ref mq_kept, .ref mq_isKept, .int v_slides, .ref mq_sums, .ref mq_primes, .ref mq_turned])), (mq_now, .inl (cI, 84, .inl v_now)), (qo, .inl (cJ, 1, .inr (.inl fo))), zc0, zc1, zc2, zc3, zc4, zc5, zc6, zc7, zc8, zc9, zc10, zc11, zc12, zc13, zc14, zc15, zc16, zc17, zc18, zc19, zc20, zc21, zc22, zc23, zc24, zc25, zc26, zc27, zc28, zc29, zc30, zc31, zc32, zc33, zc34, zc35, zc36, zc37, zc38, zc39]) C hE hW hl.1 (kL_kthSum_t1 l hlt D cI cZ cJ _ q q_now q_now_first q_now_first_numbers q_now_second q_now_second_numbers q_trial q_past q_text q_reader q_slot0 q_slot1 q_greatestPath q_fillingsOfShape qo u_now_first_numbers u_now_second_numbers fo p1 hf) gL_law_L_kthSum rfl (by decide +kernel) rfl ⟨(Nat.le_of_ble_eq_true rfl), (Nat.le_of_ble_eq_true rfl)⟩ ⟨by omega, by omega⟩ [0, 1, 2, 3, 4, 5, 8] [6, 7, 9, 10, 11, 12, 13, 14, 15, 16, 17, 18, 19, 20, 21, 22, 23, 24, 25, 26, 27, 28, 29, 30, 31, 32, 33, 34, 35, 36, 37, 38, 39, 40, 41, 42, 43, 44, 45, 46, 47, 48] [42, 43, 44, 45, 46, 47, 0, 1, 48, 2, 3, 4, 5, 6, 7, 8, 9, 10, 11, 12, 13, 14, 15, 16, 17, 18, 19, 20, 21, 22, 23, 24, 25, 26, 27, 28, 29, 30, 31, 32, 33, 34, 35, 36, 37, 38, 39, 40, 41] rfl rfl rfl rfl (by decide) rfl rfl (Nat.le_of_ble_eq_true rfl) rfl rfl dL_law_1699 (fun H locs hW => ?_)
  refine lv_istore (lv' := [(5, .int 1), (0, .ref b), (1, .ref q), (2, .ref mq), (3, .ref qo), (4, .int x4)]) hx hb dL_law_1702 hl (by decide) rfl (fun ls hl => ?_)
  refine lv_aload_n hx hb dL_law_1704 rfl (lv_at hl 3 rfl) ?_
  refine lv_aload_n hx hb dL_law_1705 rfl (lv_at hl 1 rfl) ?_
  refine lv_iload hx hb dL_law_1706 (lv_at hl 5 rfl) ?_
  refine lv_iconst (v := 1) hx hb dL_law_1708 (by decide) ?_
  refine lv_iadd hx hb dL_law_1709 ?_
  refine va_sld hx hb hX hbl hbA hW.2.2 hv1 dL_law_1710 ?_
  rw [hp1]
  refine k_callV (b := mq) (ci := 9) (qb := 0) (As := [.int p1]) (n := 1) (rest := []) (st1 := [.int rb]) (wr := [(q, .inr (8, [.ref q_now, .ref q_trial, .ref q_past, .ref q_text, .ref q_reader, .ref q_slot0, .ref q_slot1, .ref q_greatestPath, .ref q_fillingsOfShape])), (q_now, .inr (2, [.ref q_now_first, .ref q_now_second])), (q_now_first, .inr (6, [.ref q_now_first_numbers])), (q_now_first_numbers, .inl (cI, 36, .inl u_now_first_numbers)), (q_now_second, .inr (6, [.ref q_now_second_numbers])), (q_now_second_numbers, .inl (cI, 36, .inl u_now_second_numbers)), (qo, .inl (cJ, 1, .inr (.inl fo))), zc0, zc1, zc2, zc3, zc4, zc5, zc6, zc7, zc8, zc9, zc10, zc11, zc12, zc13, zc14, zc15, zc16, zc17, zc18, zc19, zc20, zc21, zc22, zc23, zc24, zc25, zc26, zc27, zc28, zc29, zc30, zc31, zc32, zc33, zc34, zc35, zc36, zc37, zc38, zc39]) (ws' := [(q, .inr (8, [.ref q_now, .ref q_trial, .ref q_past, .ref q_text, .ref q_reader, .ref q_slot0, .ref q_slot1, .ref q_greatestPath, .ref q_fillingsOfShape])), (q_now, .inr (2, [.ref q_now_first, .ref q_now_second])), (q_now_first, .inr (6, [.ref q_now_first_numbers])), (q_now_first_numbers, .inl (cI, 36, .inl u_now_first_numbers)), (q_now_second, .inr (6, [.ref q_now_second_numbers])), (q_now_second_numbers, .inl (cI, 36, .inl u_now_second_numbers)), (mq, .inr (9, [.int 1, .ref mq_script, .int v_scriptSize, .int v_spot, .ref mq_readRow, .ref mq_now, .ref mq_trial, .ref mq_diary, .int v_acts, .ref mq_kept, .ref mq_isKept, .int v_slides, .ref mq_sums, .ref mq_primes, .ref mq_turned])), (mq_now, .inl (cI, 84, .inl v_now)), (qo, .inl (cJ, 1, .inr (.inl fo))), zc0, zc1, zc2, zc3, zc4, zc5, zc6, zc7, zc8, zc9, zc10, zc11, zc12, zc13, zc14, zc15, zc16, zc17, zc18, zc19, zc20, zc21, zc22, zc23, zc24, zc25, zc26, zc27, zc28, zc29, zc30, zc31, zc32, zc33, zc34, zc35, zc36, zc37, zc38, zc39]) C hE hW hl.1 (kX10_kthSum l D cI cZ cJ _ mq mq_now mq_script mq_readRow mq_trial mq_diary mq_kept mq_isKept mq_sums mq_primes mq_turned v_refusal v_scriptSize v_spot v_acts v_slides v_now p1 rb 1 hm) gL_law_X10_kthSum rfl (by decide +kernel) rfl ⟨(Nat.le_of_ble_eq_true rfl), (Nat.le_of_ble_eq_true rfl)⟩ ⟨by omega, by omega⟩ rfl rfl [6, 7] [0, 1, 2, 3, 4, 5, 8, 9, 10, 11, 12, 13, 14, 15, 16, 17, 18, 19, 20, 21, 22, 23, 24, 25, 26, 27, 28, 29, 30, 31, 32, 33, 34, 35, 36, 37, 38, 39, 40, 41, 42, 43, 44, 45, 46, 47, 48] [0, 1, 2, 3, 4, 5, 47, 48, 6, 7, 8, 9, 10, 11, 12, 13, 14, 15, 16, 17, 18, 19, 20, 21, 22, 23, 24, 25, 26, 27, 28, 29, 30, 31, 32, 33, 34, 35, 36, 37, 38, 39, 40, 41, 42, 43, 44, 45, 46] rfl rfl rfl rfl (by decide) rfl rfl (Nat.le_of_ble_eq_true rfl) rfl rfl dL_law_1711 (fun H locs hW => ?_)
  refine lv_istore (lv' := [(6, .int rb), (5, .int 1), (0, .ref b), (1, .ref q), (2, .ref mq), (3, .ref qo), (4, .int x4)]) hx hb dL_law_1714 hl (by decide) rfl (fun ls hl => ?_)
  refine lv_aload_n hx hb dL_law_1716 rfl (lv_at hl 4 rfl) ?_
  refine k_callVR (b := mq) (ci := 9) (qb := 0) (As := []) (n := 0) (rest := []) (st1 := [.int 1]) C hE hW hl.1 (kX10_thrown l D cI cZ cJ _ mq mq_script mq_readRow mq_now mq_trial mq_diary mq_kept mq_isKept mq_sums mq_primes mq_turned 1 v_scriptSize v_spot v_acts v_slides 1 rfl) gL_law_X10_thrown rfl (by decide +kernel) rfl ⟨(Nat.le_of_ble_eq_true rfl), (Nat.le_of_ble_eq_true rfl)⟩ ⟨by omega, by omega⟩ rfl rfl [6] rfl rfl (Nat.le_of_ble_eq_true rfl) rfl rfl dL_law_1717 (fun H locs hW => ?_)
  refine lv_iload hx hb dL_law_1720 (lv_at hl 1 rfl) ?_
  refine lv_icmp_eq (tgt := 1727) hx hb dL_law_1722 (by decide) (fun _ => ?_) (fun hc => absurd rfl hc)
  refine lv_iload hx hb dL_law_1727 (lv_at hl 1 rfl) ?_
  refine lv_if_ne (tgt := 1744) hx hb dL_law_1729 (by decide) (fun _ => ?_) (fun hc => absurd hc (by decide))
  refine lv_goto (tgt := 2534) hx hb dL_law_1744 (by decide) ?_
  exact kk _ _ _ hW (lv_sub hl [2, 3, 4, 5, 6] rfl)
set_option maxHeartbeats 4000000 in
set_option maxRecDepth 100000 in
theorem lc_corner_r_z0 (hlt : l.stackTraces = false) (C : CallFix p m c cL_law 8 s #[Value.ref b] wsL_law RL) (hE : kEn D cI cZ cJ A s) (hX : va_X b L xs s s.heap) (hbl : b < s.heap.size) (hbA : ¬ A b) (x4 : Int32) (p1 : Int32) (hv1 : vp_in (x4 + 1) L) (hp1 : xs (x4 + 1).toNatClampNeg = p1) (p2 : Int32) (hv2 : vp_in (x4 + 2) L) (hp2 : xs (x4 + 2).toNatClampNeg = p2) (p3 : Int32) (hv3 : vp_in (x4 + 3) L) (hp3 : xs (x4 + 3).toNatClampNeg = p3) (hz : p3 = 0) (hcs : cells + 1 ≤ room_1.cells ∧ slots + 6 ≤ room_1.slots) (q q_now q_now_first q_now_first_numbers q_now_second q_now_second_numbers q_trial q_past q_text q_reader q_slot0 q_slot1 q_greatestPath q_fillingsOfShape mq mq_now mq_script mq_readRow mq_trial mq_diary mq_kept mq_isKept mq_sums mq_primes mq_turned qo : Nat) (u_now_first_numbers : Nat → Int32) (u_now_second_numbers : Nat → Int32) (v_refusal : Int32) (v_scriptSize : Int32) (v_spot : Int32) (v_acts : Int32) (v_slides : Int32) (v_now : Nat → Int32) (fo : Nat → Int64) (r : Int32) (zc0 zc1 zc2 zc3 zc4 zc5 zc6 zc7 zc8 zc9 zc10 zc11 zc12 zc13 zc14 zc15 zc16 zc17 zc18 zc19 zc20 zc21 zc22 zc23 zc24 zc25 zc26 zc27 zc28 zc29 zc30 zc31 zc32 zc33 zc34 zc35 zc36 zc37 zc38 zc39 : Nat × va_E) (hf : pX9_corner u_now_first_numbers u_now_second_numbers p1 p2 0 = some (.inr r)) (hm : pX10_corner v_refusal v_now p1 p2 0 = some (r, 0)) (hW : kH D A s H locs [(q, .inr (8, [.ref q_now, .ref q_trial, .ref q_past, .ref q_text, .ref q_reader, .ref q_slot0, .ref q_slot1, .ref q_greatestPath, .ref q_fillingsOfShape])), (q_now, .inr (2, [.ref q_now_first, .ref q_now_second])), (q_now_first, .inr (6, [.ref q_now_first_numbers])), (q_now_first_numbers, .inl (cI, 36, .inl u_now_first_numbers)), (q_now_second, .inr (6, [.ref q_now_second_numbers])), (q_now_second_numbers, .inl (cI, 36, .inl u_now_second_numbers)), (mq, .inr (9, [.int v_refusal, .ref mq_script, .int v_scriptSize, .int v_spot, .ref mq_readRow, .ref mq_now, .ref mq_trial, .ref mq_diary, .int v_acts, .ref mq_kept, .ref mq_isKept, .int v_slides, .ref mq_sums, .ref mq_primes, .ref mq_turned])), (mq_now, .inl (cI, 84, .inl v_now)), (qo, .inl (cJ, 1, .inr (.inl fo))), zc0, zc1, zc2, zc3, zc4, zc5, zc6, zc7, zc8, zc9, zc10, zc11, zc12, zc13, zc14, zc15, zc16, zc17, zc18, zc19, zc20, zc21, zc22, zc23, zc24, zc25, zc26, zc27, zc28, zc29, zc30, zc31, zc32, zc33, zc34, zc35, zc36, zc37, zc38, zc39]) (hl : lv_has ls 8 [(0, .ref b), (1, .ref q), (2, .ref mq), (3, .ref qo), (4, .int x4)])
    (kk : ∀ (H1 : Heap) (locs1 : List Loc) (ls1 : Array Slot), kH D A s H1 locs1 [(q, .inr (8, [.ref q_now, .ref q_trial, .ref q_past, .ref q_text, .ref q_reader, .ref q_slot0, .ref q_slot1, .ref q_greatestPath, .ref q_fillingsOfShape])), (q_now, .inr (2, [.ref q_now_first, .ref q_now_second])), (q_now_first, .inr (6, [.ref q_now_first_numbers])), (q_now_first_numbers, .inl (cI, 36, .inl u_now_first_numbers)), (q_now_second, .inr (6, [.ref q_now_second_numbers])), (q_now_second_numbers, .inl (cI, 36, .inl u_now_second_numbers)), (mq, .inr (9, [.int 0, .ref mq_script, .int v_scriptSize, .int v_spot, .ref mq_readRow, .ref mq_now, .ref mq_trial, .ref mq_diary, .int v_acts, .ref mq_kept, .ref mq_isKept, .int v_slides, .ref mq_sums, .ref mq_primes, .ref mq_turned])), (mq_now, .inl (cI, 84, .inl v_now)), (qo, .inl (cJ, 1, .inr (.inl (vp_updL fo 0 (r.toInt64))))), zc0, zc1, zc2, zc3, zc4, zc5, zc6, zc7, zc8, zc9, zc10, zc11, zc12, zc13, zc14, zc15, zc16, zc17, zc18, zc19, zc20, zc21, zc22, zc23, zc24, zc25, zc26, zc27, zc28, zc29, zc30, zc31, zc32, zc33, zc34, zc35, zc36, zc37, zc38, zc39] → lv_has ls1 8 [(0, .ref b), (1, .ref q), (2, .ref mq), (3, .ref qo), (4, .int x4)] → W p l e room_1 s m #[Value.ref b] below meth c H1 locs1 cells slots Q (F0 m 2534 ls1 [])) : W p l e room_1 s m #[Value.ref b] below meth c H locs cells slots Q (F0 m 1747 ls []) := by
  have hx := C.1
  have hb := C.2.1
  refine lv_aload_n hx hb dL_law_1747 rfl (lv_at hl 1 rfl) ?_
  refine lv_aload_n hx hb dL_law_1748 rfl (lv_at hl 0 rfl) ?_
  refine lv_iload hx hb dL_law_1749 (lv_at hl 4 rfl) ?_
  refine lv_iconst (v := 1) hx hb dL_law_1751 (by decide) ?_
  refine lv_iadd hx hb dL_law_1752 ?_
  refine va_sld hx hb hX hbl hbA hW.2.2 hv1 dL_law_1753 ?_
  rw [hp1]
  refine lv_aload_n hx hb dL_law_1754 rfl (lv_at hl 0 rfl) ?_
  refine lv_iload hx hb dL_law_1755 (lv_at hl 4 rfl) ?_
  refine lv_iconst (v := 2) hx hb dL_law_1757 (by decide) ?_
  refine lv_iadd hx hb dL_law_1758 ?_
  refine va_sld hx hb hX hbl hbA hW.2.2 hv2 dL_law_1759 ?_
  rw [hp2]
  refine lv_aload_n hx hb dL_law_1760 rfl (lv_at hl 0 rfl) ?_
  refine lv_iload hx hb dL_law_1761 (lv_at hl 4 rfl) ?_
  refine lv_iconst (v := 3) hx hb dL_law_1763 (by decide) ?_
  refine lv_iadd hx hb dL_law_1764 ?_
  refine va_sld hx hb hX hbl hbA hW.2.2 hv3 dL_law_1765 ?_
  rw [hp3]
  refine lv_if_eq (tgt := 1773) hx hb dL_law_1766 (by decide) (fun _ => ?_) (fun hc => absurd hz hc)
  refine lv_iconst (v := 0) hx hb dL_law_1773 (by decide) ?_
  refine lv_aload_n hx hb dL_law_1774 rfl (lv_at hl 3 rfl) ?_
  refine k_callSW (As := [.ref q, .int p1, .int p2, .int 0, .ref qo]) (n := 5) (rest := []) (st1 := [.int 0]) (wr := [(mq, .inr (9, [.int v_refusal, .ref mq_script, .int v_scriptSize, .int v_spot, .ref mq_readRow, .ref mq_now, .ref mq_trial, .ref mq_diary, .int v_acts, .ref mq_kept, .ref mq_isKept, .int v_slides, .ref mq_sums, .ref mq_primes, .ref mq_turned])), (mq_now, .inl (cI, 84, .inl v_now)), zc0, zc1, zc2, zc3, zc4, zc5, zc6, zc7, zc8, zc9, zc10, zc11, zc12, zc13, zc14, zc15, zc16, zc17, zc18, zc19, zc20, zc21, zc22, zc23, zc24, zc25, zc26, zc27, zc28, zc29, zc30, zc31, zc32, zc33, zc34, zc35, zc36, zc37, zc38, zc39]) (ws' := [(q, .inr (8, [.ref q_now, .ref q_trial, .ref q_past, .ref q_text, .ref q_reader, .ref q_slot0, .ref q_slot1, .ref q_greatestPath, .ref q_fillingsOfShape])), (q_now, .inr (2, [.ref q_now_first, .ref q_now_second])), (q_now_first, .inr (6, [.ref q_now_first_numbers])), (q_now_first_numbers, .inl (cI, 36, .inl u_now_first_numbers)), (q_now_second, .inr (6, [.ref q_now_second_numbers])), (q_now_second_numbers, .inl (cI, 36, .inl u_now_second_numbers)), (mq, .inr (9, [.int v_refusal, .ref mq_script, .int v_scriptSize, .int v_spot, .ref mq_readRow, .ref mq_now, .ref mq_trial, .ref mq_diary, .int v_acts, .ref mq_kept, .ref mq_isKept, .int v_slides, .ref mq_sums, .ref mq_primes, .ref mq_turned])), (mq_now, .inl (cI, 84, .inl v_now)), (qo, .inl (cJ, 1, .inr (.inl (vp_updL fo 0 (r.toInt64))))), zc0, zc1, zc2, zc3, zc4, zc5, zc6, zc7, zc8, zc9, zc10, zc11, zc12, zc13, zc14, zc15, zc16, zc17, zc18, zc19, zc20, zc21, zc22, zc23, zc24, zc25, zc26, zc27, zc28, zc29, zc30, zc31, zc32, zc33, zc34, zc35, zc36, zc37, zc38, zc39]) C hE hW hl.1 (kL_corner_r l hlt D cI cZ cJ _ q q_now q_now_first q_now_first_numbers q_now_second q_now_second_numbers q_trial q_past q_text q_reader q_slot0 q_slot1 q_greatestPath q_fillingsOfShape qo u_now_first_numbers u_now_second_numbers fo p1 p2 0 r (vp_updL fo 0 (r.toInt64)) hf (sJ_0 fo _)) gL_law_L_corner rfl (by decide +kernel) rfl ⟨(Nat.le_of_ble_eq_true rfl), (Nat.le_of_ble_eq_true rfl)⟩ ⟨by omega, by omega⟩ [0, 1, 2, 3, 4, 5, 8] [6, 7, 9, 10, 11, 12, 13, 14, 15, 16, 17, 18, 19, 20, 21, 22, 23, 24, 25, 26, 27, 28, 29, 30, 31, 32, 33, 34, 35, 36, 37, 38, 39, 40, 41, 42, 43, 44, 45, 46, 47, 48] [42, 43, 44, 45, 46, 47, 0, 1, 48, 2, 3, 4, 5, 6, 7, 8, 9, 10, 11, 12, 13, 14, 15, 16, 17, 18, 19, 20, 21, 22, 23, 24, 25, 26, 27, 28, 29, 30, 31, 32, 33, 34, 35, 36, 37, 38, 39, 40, 41] rfl rfl rfl rfl (by decide) rfl rfl (Nat.le_of_ble_eq_true rfl) rfl rfl dL_law_1775 (fun H locs hW => ?_)
  refine lv_istore (lv' := [(5, .int 0), (0, .ref b), (1, .ref q), (2, .ref mq), (3, .ref qo), (4, .int x4)]) hx hb dL_law_1778 hl (by decide) rfl (fun ls hl => ?_)
  refine lv_aload_n hx hb dL_law_1780 rfl (lv_at hl 3 rfl) ?_
  refine lv_aload_n hx hb dL_law_1781 rfl (lv_at hl 1 rfl) ?_
  refine lv_iload hx hb dL_law_1782 (lv_at hl 5 rfl) ?_
  refine lv_iconst (v := 1) hx hb dL_law_1784 (by decide) ?_
  refine lv_iadd hx hb dL_law_1785 ?_
  refine va_sld hx hb hX hbl hbA hW.2.2 hv1 dL_law_1786 ?_
  rw [hp1]
  refine lv_aload_n hx hb dL_law_1787 rfl (lv_at hl 1 rfl) ?_
  refine lv_iload hx hb dL_law_1788 (lv_at hl 5 rfl) ?_
  refine lv_iconst (v := 2) hx hb dL_law_1790 (by decide) ?_
  refine lv_iadd hx hb dL_law_1791 ?_
  refine va_sld hx hb hX hbl hbA hW.2.2 hv2 dL_law_1792 ?_
  rw [hp2]
  refine lv_aload_n hx hb dL_law_1793 rfl (lv_at hl 1 rfl) ?_
  refine lv_iload hx hb dL_law_1794 (lv_at hl 5 rfl) ?_
  refine lv_iconst (v := 3) hx hb dL_law_1796 (by decide) ?_
  refine lv_iadd hx hb dL_law_1797 ?_
  refine va_sld hx hb hX hbl hbA hW.2.2 hv3 dL_law_1798 ?_
  rw [hp3]
  refine lv_if_eq (tgt := 1806) hx hb dL_law_1799 (by decide) (fun _ => ?_) (fun hc => absurd hz hc)
  refine lv_iconst (v := 0) hx hb dL_law_1806 (by decide) ?_
  refine k_callV (b := mq) (ci := 9) (qb := 0) (As := [.int p1, .int p2, .int 0]) (n := 3) (rest := []) (st1 := [.int r]) (wr := [(q, .inr (8, [.ref q_now, .ref q_trial, .ref q_past, .ref q_text, .ref q_reader, .ref q_slot0, .ref q_slot1, .ref q_greatestPath, .ref q_fillingsOfShape])), (q_now, .inr (2, [.ref q_now_first, .ref q_now_second])), (q_now_first, .inr (6, [.ref q_now_first_numbers])), (q_now_first_numbers, .inl (cI, 36, .inl u_now_first_numbers)), (q_now_second, .inr (6, [.ref q_now_second_numbers])), (q_now_second_numbers, .inl (cI, 36, .inl u_now_second_numbers)), (qo, .inl (cJ, 1, .inr (.inl (vp_updL fo 0 (r.toInt64))))), zc0, zc1, zc2, zc3, zc4, zc5, zc6, zc7, zc8, zc9, zc10, zc11, zc12, zc13, zc14, zc15, zc16, zc17, zc18, zc19, zc20, zc21, zc22, zc23, zc24, zc25, zc26, zc27, zc28, zc29, zc30, zc31, zc32, zc33, zc34, zc35, zc36, zc37, zc38, zc39]) (ws' := [(q, .inr (8, [.ref q_now, .ref q_trial, .ref q_past, .ref q_text, .ref q_reader, .ref q_slot0, .ref q_slot1, .ref q_greatestPath, .ref q_fillingsOfShape])), (q_now, .inr (2, [.ref q_now_first, .ref q_now_second])), (q_now_first, .inr (6, [.ref q_now_first_numbers])), (q_now_first_numbers, .inl (cI, 36, .inl u_now_first_numbers)), (q_now_second, .inr (6, [.ref q_now_second_numbers])), (q_now_second_numbers, .inl (cI, 36, .inl u_now_second_numbers)), (mq, .inr (9, [.int 0, .ref mq_script, .int v_scriptSize, .int v_spot, .ref mq_readRow, .ref mq_now, .ref mq_trial, .ref mq_diary, .int v_acts, .ref mq_kept, .ref mq_isKept, .int v_slides, .ref mq_sums, .ref mq_primes, .ref mq_turned])), (mq_now, .inl (cI, 84, .inl v_now)), (qo, .inl (cJ, 1, .inr (.inl (vp_updL fo 0 (r.toInt64))))), zc0, zc1, zc2, zc3, zc4, zc5, zc6, zc7, zc8, zc9, zc10, zc11, zc12, zc13, zc14, zc15, zc16, zc17, zc18, zc19, zc20, zc21, zc22, zc23, zc24, zc25, zc26, zc27, zc28, zc29, zc30, zc31, zc32, zc33, zc34, zc35, zc36, zc37, zc38, zc39]) C hE hW hl.1 (kX10_corner l D cI cZ cJ _ mq mq_now mq_script mq_readRow mq_trial mq_diary mq_kept mq_isKept mq_sums mq_primes mq_turned v_refusal v_scriptSize v_spot v_acts v_slides v_now p1 p2 0 r 0 hm) gL_law_X10_corner rfl (by decide +kernel) rfl ⟨(Nat.le_of_ble_eq_true rfl), (Nat.le_of_ble_eq_true rfl)⟩ ⟨by omega, by omega⟩ rfl rfl [6, 7] [0, 1, 2, 3, 4, 5, 8, 9, 10, 11, 12, 13, 14, 15, 16, 17, 18, 19, 20, 21, 22, 23, 24, 25, 26, 27, 28, 29, 30, 31, 32, 33, 34, 35, 36, 37, 38, 39, 40, 41, 42, 43, 44, 45, 46, 47, 48] [0, 1, 2, 3, 4, 5, 47, 48, 6, 7, 8, 9, 10, 11, 12, 13, 14, 15, 16, 17, 18, 19, 20, 21, 22, 23, 24, 25, 26, 27, 28, 29, 30, 31, 32, 33, 34, 35, 36, 37, 38, 39, 40, 41, 42, 43, 44, 45, 46] rfl rfl rfl rfl (by decide) rfl rfl (Nat.le_of_ble_eq_true rfl) rfl rfl dL_law_1807 (fun H locs hW => ?_)
  refine lv_istore (lv' := [(6, .int r), (5, .int 0), (0, .ref b), (1, .ref q), (2, .ref mq), (3, .ref qo), (4, .int x4)]) hx hb dL_law_1810 hl (by decide) rfl (fun ls hl => ?_)
  refine lv_aload_n hx hb dL_law_1812 rfl (lv_at hl 4 rfl) ?_
  refine k_callVR (b := mq) (ci := 9) (qb := 0) (As := []) (n := 0) (rest := []) (st1 := [.int 0]) C hE hW hl.1 (kX10_thrown l D cI cZ cJ _ mq mq_script mq_readRow mq_now mq_trial mq_diary mq_kept mq_isKept mq_sums mq_primes mq_turned 0 v_scriptSize v_spot v_acts v_slides 0 rfl) gL_law_X10_thrown rfl (by decide +kernel) rfl ⟨(Nat.le_of_ble_eq_true rfl), (Nat.le_of_ble_eq_true rfl)⟩ ⟨by omega, by omega⟩ rfl rfl [6] rfl rfl (Nat.le_of_ble_eq_true rfl) rfl rfl dL_law_1813 (fun H locs hW => ?_)
  refine lv_iload hx hb dL_law_1816 (lv_at hl 1 rfl) ?_
  refine lv_icmp_eq (tgt := 1823) hx hb dL_law_1818 (by decide) (fun _ => ?_) (fun hc => absurd rfl hc)
  refine lv_iload hx hb dL_law_1823 (lv_at hl 1 rfl) ?_
  refine lv_if_ne (tgt := 1840) hx hb dL_law_1825 (by decide) (fun hc => absurd rfl hc) (fun _ => ?_)
  refine lv_aload_n hx hb dL_law_1828 rfl (lv_at hl 5 rfl) ?_
  refine lv_iconst (v := 0) hx hb dL_law_1829 (by decide) ?_
  refine k_lald C hE hW 8 rfl (gJ_0 fo _) dL_law_1830 ?_
  refine lv_iload hx hb dL_law_1831 (lv_at hl 0 rfl) ?_
  refine lv_i2l hx hb dL_law_1833 rfl ?_
  refine W.lcmp hx hb dL_law_1834 ?_
  refine lv_if_eq (tgt := 1840) hx hb dL_law_1835 (by decide) (fun _ => ?_) (fun hc => absurd (cmp_self _) hc)
  refine lv_goto (tgt := 2534) hx hb dL_law_1840 (by decide) ?_
  exact kk _ _ _ hW (lv_sub hl [2, 3, 4, 5, 6] rfl)
set_option maxHeartbeats 4000000 in
set_option maxRecDepth 100000 in
theorem lc_corner_r_z1 (hlt : l.stackTraces = false) (C : CallFix p m c cL_law 8 s #[Value.ref b] wsL_law RL) (hE : kEn D cI cZ cJ A s) (hX : va_X b L xs s s.heap) (hbl : b < s.heap.size) (hbA : ¬ A b) (x4 : Int32) (p1 : Int32) (hv1 : vp_in (x4 + 1) L) (hp1 : xs (x4 + 1).toNatClampNeg = p1) (p2 : Int32) (hv2 : vp_in (x4 + 2) L) (hp2 : xs (x4 + 2).toNatClampNeg = p2) (p3 : Int32) (hv3 : vp_in (x4 + 3) L) (hp3 : xs (x4 + 3).toNatClampNeg = p3) (hz : ¬ p3 = 0) (hcs : cells + 1 ≤ room_1.cells ∧ slots + 6 ≤ room_1.slots) (q q_now q_now_first q_now_first_numbers q_now_second q_now_second_numbers q_trial q_past q_text q_reader q_slot0 q_slot1 q_greatestPath q_fillingsOfShape mq mq_now mq_script mq_readRow mq_trial mq_diary mq_kept mq_isKept mq_sums mq_primes mq_turned qo : Nat) (u_now_first_numbers : Nat → Int32) (u_now_second_numbers : Nat → Int32) (v_refusal : Int32) (v_scriptSize : Int32) (v_spot : Int32) (v_acts : Int32) (v_slides : Int32) (v_now : Nat → Int32) (fo : Nat → Int64) (r : Int32) (zc0 zc1 zc2 zc3 zc4 zc5 zc6 zc7 zc8 zc9 zc10 zc11 zc12 zc13 zc14 zc15 zc16 zc17 zc18 zc19 zc20 zc21 zc22 zc23 zc24 zc25 zc26 zc27 zc28 zc29 zc30 zc31 zc32 zc33 zc34 zc35 zc36 zc37 zc38 zc39 : Nat × va_E) (hf : pX9_corner u_now_first_numbers u_now_second_numbers p1 p2 1 = some (.inr r)) (hm : pX10_corner v_refusal v_now p1 p2 1 = some (r, 0)) (hW : kH D A s H locs [(q, .inr (8, [.ref q_now, .ref q_trial, .ref q_past, .ref q_text, .ref q_reader, .ref q_slot0, .ref q_slot1, .ref q_greatestPath, .ref q_fillingsOfShape])), (q_now, .inr (2, [.ref q_now_first, .ref q_now_second])), (q_now_first, .inr (6, [.ref q_now_first_numbers])), (q_now_first_numbers, .inl (cI, 36, .inl u_now_first_numbers)), (q_now_second, .inr (6, [.ref q_now_second_numbers])), (q_now_second_numbers, .inl (cI, 36, .inl u_now_second_numbers)), (mq, .inr (9, [.int v_refusal, .ref mq_script, .int v_scriptSize, .int v_spot, .ref mq_readRow, .ref mq_now, .ref mq_trial, .ref mq_diary, .int v_acts, .ref mq_kept, .ref mq_isKept, .int v_slides, .ref mq_sums, .ref mq_primes, .ref mq_turned])), (mq_now, .inl (cI, 84, .inl v_now)), (qo, .inl (cJ, 1, .inr (.inl fo))), zc0, zc1, zc2, zc3, zc4, zc5, zc6, zc7, zc8, zc9, zc10, zc11, zc12, zc13, zc14, zc15, zc16, zc17, zc18, zc19, zc20, zc21, zc22, zc23, zc24, zc25, zc26, zc27, zc28, zc29, zc30, zc31, zc32, zc33, zc34, zc35, zc36, zc37, zc38, zc39]) (hl : lv_has ls 8 [(0, .ref b), (1, .ref q), (2, .ref mq), (3, .ref qo), (4, .int x4)])
    (kk : ∀ (H1 : Heap) (locs1 : List Loc) (ls1 : Array Slot), kH D A s H1 locs1 [(q, .inr (8, [.ref q_now, .ref q_trial, .ref q_past, .ref q_text, .ref q_reader, .ref q_slot0, .ref q_slot1, .ref q_greatestPath, .ref q_fillingsOfShape])), (q_now, .inr (2, [.ref q_now_first, .ref q_now_second])), (q_now_first, .inr (6, [.ref q_now_first_numbers])), (q_now_first_numbers, .inl (cI, 36, .inl u_now_first_numbers)), (q_now_second, .inr (6, [.ref q_now_second_numbers])), (q_now_second_numbers, .inl (cI, 36, .inl u_now_second_numbers)), (mq, .inr (9, [.int 0, .ref mq_script, .int v_scriptSize, .int v_spot, .ref mq_readRow, .ref mq_now, .ref mq_trial, .ref mq_diary, .int v_acts, .ref mq_kept, .ref mq_isKept, .int v_slides, .ref mq_sums, .ref mq_primes, .ref mq_turned])), (mq_now, .inl (cI, 84, .inl v_now)), (qo, .inl (cJ, 1, .inr (.inl (vp_updL fo 0 (r.toInt64))))), zc0, zc1, zc2, zc3, zc4, zc5, zc6, zc7, zc8, zc9, zc10, zc11, zc12, zc13, zc14, zc15, zc16, zc17, zc18, zc19, zc20, zc21, zc22, zc23, zc24, zc25, zc26, zc27, zc28, zc29, zc30, zc31, zc32, zc33, zc34, zc35, zc36, zc37, zc38, zc39] → lv_has ls1 8 [(0, .ref b), (1, .ref q), (2, .ref mq), (3, .ref qo), (4, .int x4)] → W p l e room_1 s m #[Value.ref b] below meth c H1 locs1 cells slots Q (F0 m 2534 ls1 [])) : W p l e room_1 s m #[Value.ref b] below meth c H locs cells slots Q (F0 m 1747 ls []) := by
  have hx := C.1
  have hb := C.2.1
  refine lv_aload_n hx hb dL_law_1747 rfl (lv_at hl 1 rfl) ?_
  refine lv_aload_n hx hb dL_law_1748 rfl (lv_at hl 0 rfl) ?_
  refine lv_iload hx hb dL_law_1749 (lv_at hl 4 rfl) ?_
  refine lv_iconst (v := 1) hx hb dL_law_1751 (by decide) ?_
  refine lv_iadd hx hb dL_law_1752 ?_
  refine va_sld hx hb hX hbl hbA hW.2.2 hv1 dL_law_1753 ?_
  rw [hp1]
  refine lv_aload_n hx hb dL_law_1754 rfl (lv_at hl 0 rfl) ?_
  refine lv_iload hx hb dL_law_1755 (lv_at hl 4 rfl) ?_
  refine lv_iconst (v := 2) hx hb dL_law_1757 (by decide) ?_
  refine lv_iadd hx hb dL_law_1758 ?_
  refine va_sld hx hb hX hbl hbA hW.2.2 hv2 dL_law_1759 ?_
  rw [hp2]
  refine lv_aload_n hx hb dL_law_1760 rfl (lv_at hl 0 rfl) ?_
  refine lv_iload hx hb dL_law_1761 (lv_at hl 4 rfl) ?_
  refine lv_iconst (v := 3) hx hb dL_law_1763 (by decide) ?_
  refine lv_iadd hx hb dL_law_1764 ?_
  refine va_sld hx hb hX hbl hbA hW.2.2 hv3 dL_law_1765 ?_
  rw [hp3]
  refine lv_if_eq (tgt := 1773) hx hb dL_law_1766 (by decide) (fun hc => absurd hc hz) (fun _ => ?_)
  refine lv_iconst (v := 1) hx hb dL_law_1769 (by decide) ?_
  refine lv_goto (tgt := 1774) hx hb dL_law_1770 (by decide) ?_
  refine lv_aload_n hx hb dL_law_1774 rfl (lv_at hl 3 rfl) ?_
  refine k_callSW (As := [.ref q, .int p1, .int p2, .int 1, .ref qo]) (n := 5) (rest := []) (st1 := [.int 0]) (wr := [(mq, .inr (9, [.int v_refusal, .ref mq_script, .int v_scriptSize, .int v_spot, .ref mq_readRow, .ref mq_now, .ref mq_trial, .ref mq_diary, .int v_acts, .ref mq_kept, .ref mq_isKept, .int v_slides, .ref mq_sums, .ref mq_primes, .ref mq_turned])), (mq_now, .inl (cI, 84, .inl v_now)), zc0, zc1, zc2, zc3, zc4, zc5, zc6, zc7, zc8, zc9, zc10, zc11, zc12, zc13, zc14, zc15, zc16, zc17, zc18, zc19, zc20, zc21, zc22, zc23, zc24, zc25, zc26, zc27, zc28, zc29, zc30, zc31, zc32, zc33, zc34, zc35, zc36, zc37, zc38, zc39]) (ws' := [(q, .inr (8, [.ref q_now, .ref q_trial, .ref q_past, .ref q_text, .ref q_reader, .ref q_slot0, .ref q_slot1, .ref q_greatestPath, .ref q_fillingsOfShape])), (q_now, .inr (2, [.ref q_now_first, .ref q_now_second])), (q_now_first, .inr (6, [.ref q_now_first_numbers])), (q_now_first_numbers, .inl (cI, 36, .inl u_now_first_numbers)), (q_now_second, .inr (6, [.ref q_now_second_numbers])), (q_now_second_numbers, .inl (cI, 36, .inl u_now_second_numbers)), (mq, .inr (9, [.int v_refusal, .ref mq_script, .int v_scriptSize, .int v_spot, .ref mq_readRow, .ref mq_now, .ref mq_trial, .ref mq_diary, .int v_acts, .ref mq_kept, .ref mq_isKept, .int v_slides, .ref mq_sums, .ref mq_primes, .ref mq_turned])), (mq_now, .inl (cI, 84, .inl v_now)), (qo, .inl (cJ, 1, .inr (.inl (vp_updL fo 0 (r.toInt64))))), zc0, zc1, zc2, zc3, zc4, zc5, zc6, zc7, zc8, zc9, zc10, zc11, zc12, zc13, zc14, zc15, zc16, zc17, zc18, zc19, zc20, zc21, zc22, zc23, zc24, zc25, zc26, zc27, zc28, zc29, zc30, zc31, zc32, zc33, zc34, zc35, zc36, zc37, zc38, zc39]) C hE hW hl.1 (kL_corner_r l hlt D cI cZ cJ _ q q_now q_now_first q_now_first_numbers q_now_second q_now_second_numbers q_trial q_past q_text q_reader q_slot0 q_slot1 q_greatestPath q_fillingsOfShape qo u_now_first_numbers u_now_second_numbers fo p1 p2 1 r (vp_updL fo 0 (r.toInt64)) hf (sJ_0 fo _)) gL_law_L_corner rfl (by decide +kernel) rfl ⟨(Nat.le_of_ble_eq_true rfl), (Nat.le_of_ble_eq_true rfl)⟩ ⟨by omega, by omega⟩ [0, 1, 2, 3, 4, 5, 8] [6, 7, 9, 10, 11, 12, 13, 14, 15, 16, 17, 18, 19, 20, 21, 22, 23, 24, 25, 26, 27, 28, 29, 30, 31, 32, 33, 34, 35, 36, 37, 38, 39, 40, 41, 42, 43, 44, 45, 46, 47, 48] [42, 43, 44, 45, 46, 47, 0, 1, 48, 2, 3, 4, 5, 6, 7, 8, 9, 10, 11, 12, 13, 14, 15, 16, 17, 18, 19, 20, 21, 22, 23, 24, 25, 26, 27, 28, 29, 30, 31, 32, 33, 34, 35, 36, 37, 38, 39, 40, 41] rfl rfl rfl rfl (by decide) rfl rfl (Nat.le_of_ble_eq_true rfl) rfl rfl dL_law_1775 (fun H locs hW => ?_)
  refine lv_istore (lv' := [(5, .int 0), (0, .ref b), (1, .ref q), (2, .ref mq), (3, .ref qo), (4, .int x4)]) hx hb dL_law_1778 hl (by decide) rfl (fun ls hl => ?_)
  refine lv_aload_n hx hb dL_law_1780 rfl (lv_at hl 3 rfl) ?_
  refine lv_aload_n hx hb dL_law_1781 rfl (lv_at hl 1 rfl) ?_
  refine lv_iload hx hb dL_law_1782 (lv_at hl 5 rfl) ?_
  refine lv_iconst (v := 1) hx hb dL_law_1784 (by decide) ?_
  refine lv_iadd hx hb dL_law_1785 ?_
  refine va_sld hx hb hX hbl hbA hW.2.2 hv1 dL_law_1786 ?_
  rw [hp1]
  refine lv_aload_n hx hb dL_law_1787 rfl (lv_at hl 1 rfl) ?_
  refine lv_iload hx hb dL_law_1788 (lv_at hl 5 rfl) ?_
  refine lv_iconst (v := 2) hx hb dL_law_1790 (by decide) ?_
  refine lv_iadd hx hb dL_law_1791 ?_
  refine va_sld hx hb hX hbl hbA hW.2.2 hv2 dL_law_1792 ?_
  rw [hp2]
  refine lv_aload_n hx hb dL_law_1793 rfl (lv_at hl 1 rfl) ?_
  refine lv_iload hx hb dL_law_1794 (lv_at hl 5 rfl) ?_
  refine lv_iconst (v := 3) hx hb dL_law_1796 (by decide) ?_
  refine lv_iadd hx hb dL_law_1797 ?_
  refine va_sld hx hb hX hbl hbA hW.2.2 hv3 dL_law_1798 ?_
  rw [hp3]
  refine lv_if_eq (tgt := 1806) hx hb dL_law_1799 (by decide) (fun hc => absurd hc hz) (fun _ => ?_)
  refine lv_iconst (v := 1) hx hb dL_law_1802 (by decide) ?_
  refine lv_goto (tgt := 1807) hx hb dL_law_1803 (by decide) ?_
  refine k_callV (b := mq) (ci := 9) (qb := 0) (As := [.int p1, .int p2, .int 1]) (n := 3) (rest := []) (st1 := [.int r]) (wr := [(q, .inr (8, [.ref q_now, .ref q_trial, .ref q_past, .ref q_text, .ref q_reader, .ref q_slot0, .ref q_slot1, .ref q_greatestPath, .ref q_fillingsOfShape])), (q_now, .inr (2, [.ref q_now_first, .ref q_now_second])), (q_now_first, .inr (6, [.ref q_now_first_numbers])), (q_now_first_numbers, .inl (cI, 36, .inl u_now_first_numbers)), (q_now_second, .inr (6, [.ref q_now_second_numbers])), (q_now_second_numbers, .inl (cI, 36, .inl u_now_second_numbers)), (qo, .inl (cJ, 1, .inr (.inl (vp_updL fo 0 (r.toInt64))))), zc0, zc1, zc2, zc3, zc4, zc5, zc6, zc7, zc8, zc9, zc10, zc11, zc12, zc13, zc14, zc15, zc16, zc17, zc18, zc19, zc20, zc21, zc22, zc23, zc24, zc25, zc26, zc27, zc28, zc29, zc30, zc31, zc32, zc33, zc34, zc35, zc36, zc37, zc38, zc39]) (ws' := [(q, .inr (8, [.ref q_now, .ref q_trial, .ref q_past, .ref q_text, .ref q_reader, .ref q_slot0, .ref q_slot1, .ref q_greatestPath, .ref q_fillingsOfShape])), (q_now, .inr (2, [.ref q_now_first, .ref q_now_second])), (q_now_first, .inr (6, [.ref q_now_first_numbers])), (q_now_first_numbers, .inl (cI, 36, .inl u_now_first_numbers)), (q_now_second, .inr (6, [.ref q_now_second_numbers])), (q_now_second_numbers, .inl (cI, 36, .inl u_now_second_numbers)), (mq, .inr (9, [.int 0, .ref mq_script, .int v_scriptSize, .int v_spot, .ref mq_readRow, .ref mq_now, .ref mq_trial, .ref mq_diary, .int v_acts, .ref mq_kept, .ref mq_isKept, .int v_slides, .ref mq_sums, .ref mq_primes, .ref mq_turned])), (mq_now, .inl (cI, 84, .inl v_now)), (qo, .inl (cJ, 1, .inr (.inl (vp_updL fo 0 (r.toInt64))))), zc0, zc1, zc2, zc3, zc4, zc5, zc6, zc7, zc8, zc9, zc10, zc11, zc12, zc13, zc14, zc15, zc16, zc17, zc18, zc19, zc20, zc21, zc22, zc23, zc24, zc25, zc26, zc27, zc28, zc29, zc30, zc31, zc32, zc33, zc34, zc35, zc36, zc37, zc38, zc39]) C hE hW hl.1 (kX10_corner l D cI cZ cJ _ mq mq_now mq_script mq_readRow mq_trial mq_diary mq_kept mq_isKept mq_sums mq_primes mq_turned v_refusal v_scriptSize v_spot v_acts v_slides v_now p1 p2 1 r 0 hm) gL_law_X10_corner rfl (by decide +kernel) rfl ⟨(Nat.le_of_ble_eq_true rfl), (Nat.le_of_ble_eq_true rfl)⟩ ⟨by omega, by omega⟩ rfl rfl [6, 7] [0, 1, 2, 3, 4, 5, 8, 9, 10, 11, 12, 13, 14, 15, 16, 17, 18, 19, 20, 21, 22, 23, 24, 25, 26, 27, 28, 29, 30, 31, 32, 33, 34, 35, 36, 37, 38, 39, 40, 41, 42, 43, 44, 45, 46, 47, 48] [0, 1, 2, 3, 4, 5, 47, 48, 6, 7, 8, 9, 10, 11, 12, 13, 14, 15, 16, 17, 18, 19, 20, 21, 22, 23, 24, 25, 26, 27, 28, 29, 30, 31, 32, 33, 34, 35, 36, 37, 38, 39, 40, 41, 42, 43, 44, 45, 46] rfl rfl rfl rfl (by decide) rfl rfl (Nat.le_of_ble_eq_true rfl) rfl rfl dL_law_1807 (fun H locs hW => ?_)
  refine lv_istore (lv' := [(6, .int r), (5, .int 0), (0, .ref b), (1, .ref q), (2, .ref mq), (3, .ref qo), (4, .int x4)]) hx hb dL_law_1810 hl (by decide) rfl (fun ls hl => ?_)
  refine lv_aload_n hx hb dL_law_1812 rfl (lv_at hl 4 rfl) ?_
  refine k_callVR (b := mq) (ci := 9) (qb := 0) (As := []) (n := 0) (rest := []) (st1 := [.int 0]) C hE hW hl.1 (kX10_thrown l D cI cZ cJ _ mq mq_script mq_readRow mq_now mq_trial mq_diary mq_kept mq_isKept mq_sums mq_primes mq_turned 0 v_scriptSize v_spot v_acts v_slides 0 rfl) gL_law_X10_thrown rfl (by decide +kernel) rfl ⟨(Nat.le_of_ble_eq_true rfl), (Nat.le_of_ble_eq_true rfl)⟩ ⟨by omega, by omega⟩ rfl rfl [6] rfl rfl (Nat.le_of_ble_eq_true rfl) rfl rfl dL_law_1813 (fun H locs hW => ?_)
  refine lv_iload hx hb dL_law_1816 (lv_at hl 1 rfl) ?_
  refine lv_icmp_eq (tgt := 1823) hx hb dL_law_1818 (by decide) (fun _ => ?_) (fun hc => absurd rfl hc)
  refine lv_iload hx hb dL_law_1823 (lv_at hl 1 rfl) ?_
  refine lv_if_ne (tgt := 1840) hx hb dL_law_1825 (by decide) (fun hc => absurd rfl hc) (fun _ => ?_)
  refine lv_aload_n hx hb dL_law_1828 rfl (lv_at hl 5 rfl) ?_
  refine lv_iconst (v := 0) hx hb dL_law_1829 (by decide) ?_
  refine k_lald C hE hW 8 rfl (gJ_0 fo _) dL_law_1830 ?_
  refine lv_iload hx hb dL_law_1831 (lv_at hl 0 rfl) ?_
  refine lv_i2l hx hb dL_law_1833 rfl ?_
  refine W.lcmp hx hb dL_law_1834 ?_
  refine lv_if_eq (tgt := 1840) hx hb dL_law_1835 (by decide) (fun _ => ?_) (fun hc => absurd (cmp_self _) hc)
  refine lv_goto (tgt := 2534) hx hb dL_law_1840 (by decide) ?_
  exact kk _ _ _ hW (lv_sub hl [2, 3, 4, 5, 6] rfl)
set_option maxHeartbeats 4000000 in
set_option maxRecDepth 100000 in
theorem lc_corner_t3_z0 (hlt : l.stackTraces = false) (C : CallFix p m c cL_law 8 s #[Value.ref b] wsL_law RL) (hE : kEn D cI cZ cJ A s) (hX : va_X b L xs s s.heap) (hbl : b < s.heap.size) (hbA : ¬ A b) (x4 : Int32) (p1 : Int32) (hv1 : vp_in (x4 + 1) L) (hp1 : xs (x4 + 1).toNatClampNeg = p1) (p2 : Int32) (hv2 : vp_in (x4 + 2) L) (hp2 : xs (x4 + 2).toNatClampNeg = p2) (p3 : Int32) (hv3 : vp_in (x4 + 3) L) (hp3 : xs (x4 + 3).toNatClampNeg = p3) (hz : p3 = 0) (hcs : cells + 1 ≤ room_1.cells ∧ slots + 6 ≤ room_1.slots) (q q_now q_now_first q_now_first_numbers q_now_second q_now_second_numbers q_trial q_past q_text q_reader q_slot0 q_slot1 q_greatestPath q_fillingsOfShape mq mq_now mq_script mq_readRow mq_trial mq_diary mq_kept mq_isKept mq_sums mq_primes mq_turned qo : Nat) (u_now_first_numbers : Nat → Int32) (u_now_second_numbers : Nat → Int32) (v_refusal : Int32) (v_scriptSize : Int32) (v_spot : Int32) (v_acts : Int32) (v_slides : Int32) (v_now : Nat → Int32) (fo : Nat → Int64) (rb : Int32) (zc0 zc1 zc2 zc3 zc4 zc5 zc6 zc7 zc8 zc9 zc10 zc11 zc12 zc13 zc14 zc15 zc16 zc17 zc18 zc19 zc20 zc21 zc22 zc23 zc24 zc25 zc26 zc27 zc28 zc29 zc30 zc31 zc32 zc33 zc34 zc35 zc36 zc37 zc38 zc39 : Nat × va_E) (hf : pX9_corner u_now_first_numbers u_now_second_numbers p1 p2 0 = some (.inl 3)) (hm : pX10_corner v_refusal v_now p1 p2 0 = some (rb, 1)) (hW : kH D A s H locs [(q, .inr (8, [.ref q_now, .ref q_trial, .ref q_past, .ref q_text, .ref q_reader, .ref q_slot0, .ref q_slot1, .ref q_greatestPath, .ref q_fillingsOfShape])), (q_now, .inr (2, [.ref q_now_first, .ref q_now_second])), (q_now_first, .inr (6, [.ref q_now_first_numbers])), (q_now_first_numbers, .inl (cI, 36, .inl u_now_first_numbers)), (q_now_second, .inr (6, [.ref q_now_second_numbers])), (q_now_second_numbers, .inl (cI, 36, .inl u_now_second_numbers)), (mq, .inr (9, [.int v_refusal, .ref mq_script, .int v_scriptSize, .int v_spot, .ref mq_readRow, .ref mq_now, .ref mq_trial, .ref mq_diary, .int v_acts, .ref mq_kept, .ref mq_isKept, .int v_slides, .ref mq_sums, .ref mq_primes, .ref mq_turned])), (mq_now, .inl (cI, 84, .inl v_now)), (qo, .inl (cJ, 1, .inr (.inl fo))), zc0, zc1, zc2, zc3, zc4, zc5, zc6, zc7, zc8, zc9, zc10, zc11, zc12, zc13, zc14, zc15, zc16, zc17, zc18, zc19, zc20, zc21, zc22, zc23, zc24, zc25, zc26, zc27, zc28, zc29, zc30, zc31, zc32, zc33, zc34, zc35, zc36, zc37, zc38, zc39]) (hl : lv_has ls 8 [(0, .ref b), (1, .ref q), (2, .ref mq), (3, .ref qo), (4, .int x4)])
    (kk : ∀ (H1 : Heap) (locs1 : List Loc) (ls1 : Array Slot), kH D A s H1 locs1 [(q, .inr (8, [.ref q_now, .ref q_trial, .ref q_past, .ref q_text, .ref q_reader, .ref q_slot0, .ref q_slot1, .ref q_greatestPath, .ref q_fillingsOfShape])), (q_now, .inr (2, [.ref q_now_first, .ref q_now_second])), (q_now_first, .inr (6, [.ref q_now_first_numbers])), (q_now_first_numbers, .inl (cI, 36, .inl u_now_first_numbers)), (q_now_second, .inr (6, [.ref q_now_second_numbers])), (q_now_second_numbers, .inl (cI, 36, .inl u_now_second_numbers)), (mq, .inr (9, [.int 1, .ref mq_script, .int v_scriptSize, .int v_spot, .ref mq_readRow, .ref mq_now, .ref mq_trial, .ref mq_diary, .int v_acts, .ref mq_kept, .ref mq_isKept, .int v_slides, .ref mq_sums, .ref mq_primes, .ref mq_turned])), (mq_now, .inl (cI, 84, .inl v_now)), (qo, .inl (cJ, 1, .inr (.inl fo))), zc0, zc1, zc2, zc3, zc4, zc5, zc6, zc7, zc8, zc9, zc10, zc11, zc12, zc13, zc14, zc15, zc16, zc17, zc18, zc19, zc20, zc21, zc22, zc23, zc24, zc25, zc26, zc27, zc28, zc29, zc30, zc31, zc32, zc33, zc34, zc35, zc36, zc37, zc38, zc39] → lv_has ls1 8 [(0, .ref b), (1, .ref q), (2, .ref mq), (3, .ref qo), (4, .int x4)] → W p l e room_1 s m #[Value.ref b] below meth c H1 locs1 (cells + 1) (slots + 6) Q (F0 m 2534 ls1 [])) : W p l e room_1 s m #[Value.ref b] below meth c H locs cells slots Q (F0 m 1747 ls []) := by
  have hx := C.1
  have hb := C.2.1
  refine lv_aload_n hx hb dL_law_1747 rfl (lv_at hl 1 rfl) ?_
  refine lv_aload_n hx hb dL_law_1748 rfl (lv_at hl 0 rfl) ?_
  refine lv_iload hx hb dL_law_1749 (lv_at hl 4 rfl) ?_
  refine lv_iconst (v := 1) hx hb dL_law_1751 (by decide) ?_
  refine lv_iadd hx hb dL_law_1752 ?_
  refine va_sld hx hb hX hbl hbA hW.2.2 hv1 dL_law_1753 ?_
  rw [hp1]
  refine lv_aload_n hx hb dL_law_1754 rfl (lv_at hl 0 rfl) ?_
  refine lv_iload hx hb dL_law_1755 (lv_at hl 4 rfl) ?_
  refine lv_iconst (v := 2) hx hb dL_law_1757 (by decide) ?_
  refine lv_iadd hx hb dL_law_1758 ?_
  refine va_sld hx hb hX hbl hbA hW.2.2 hv2 dL_law_1759 ?_
  rw [hp2]
  refine lv_aload_n hx hb dL_law_1760 rfl (lv_at hl 0 rfl) ?_
  refine lv_iload hx hb dL_law_1761 (lv_at hl 4 rfl) ?_
  refine lv_iconst (v := 3) hx hb dL_law_1763 (by decide) ?_
  refine lv_iadd hx hb dL_law_1764 ?_
  refine va_sld hx hb hX hbl hbA hW.2.2 hv3 dL_law_1765 ?_
  rw [hp3]
  refine lv_if_eq (tgt := 1773) hx hb dL_law_1766 (by decide) (fun _ => ?_) (fun hc => absurd hz hc)
  refine lv_iconst (v := 0) hx hb dL_law_1773 (by decide) ?_
  refine lv_aload_n hx hb dL_law_1774 rfl (lv_at hl 3 rfl) ?_
  refine k_callSW (As := [.ref q, .int p1, .int p2, .int 0, .ref qo]) (n := 5) (rest := []) (st1 := [.int 1]) (wr := [(mq, .inr (9, [.int v_refusal, .ref mq_script, .int v_scriptSize, .int v_spot, .ref mq_readRow, .ref mq_now, .ref mq_trial, .ref mq_diary, .int v_acts, .ref mq_kept, .ref mq_isKept, .int v_slides, .ref mq_sums, .ref mq_primes, .ref mq_turned])), (mq_now, .inl (cI, 84, .inl v_now)), zc0, zc1, zc2, zc3, zc4, zc5, zc6, zc7, zc8, zc9, zc10, zc11, zc12, zc13, zc14, zc15, zc16, zc17, zc18, zc19, zc20, zc21, zc22, zc23, zc24, zc25, zc26, zc27, zc28, zc29, zc30, zc31, zc32, zc33, zc34, zc35, zc36, zc37, zc38, zc39]) (ws' := [(q, .inr (8, [.ref q_now, .ref q_trial, .ref q_past, .ref q_text, .ref q_reader, .ref q_slot0, .ref q_slot1, .ref q_greatestPath, .ref q_fillingsOfShape])), (q_now, .inr (2, [.ref q_now_first, .ref q_now_second])), (q_now_first, .inr (6, [.ref q_now_first_numbers])), (q_now_first_numbers, .inl (cI, 36, .inl u_now_first_numbers)), (q_now_second, .inr (6, [.ref q_now_second_numbers])), (q_now_second_numbers, .inl (cI, 36, .inl u_now_second_numbers)), (mq, .inr (9, [.int v_refusal, .ref mq_script, .int v_scriptSize, .int v_spot, .ref mq_readRow, .ref mq_now, .ref mq_trial, .ref mq_diary, .int v_acts, .ref mq_kept, .ref mq_isKept, .int v_slides, .ref mq_sums, .ref mq_primes, .ref mq_turned])), (mq_now, .inl (cI, 84, .inl v_now)), (qo, .inl (cJ, 1, .inr (.inl fo))), zc0, zc1, zc2, zc3, zc4, zc5, zc6, zc7, zc8, zc9, zc10, zc11, zc12, zc13, zc14, zc15, zc16, zc17, zc18, zc19, zc20, zc21, zc22, zc23, zc24, zc25, zc26, zc27, zc28, zc29, zc30, zc31, zc32, zc33, zc34, zc35, zc36, zc37, zc38, zc39]) C hE hW hl.1 (kL_corner_t3 l hlt D cI cZ cJ _ q q_now q_now_first q_now_first_numbers q_now_second q_now_second_numbers q_trial q_past q_text q_reader q_slot0 q_slot1 q_greatestPath q_fillingsOfShape qo u_now_first_numbers u_now_second_numbers fo p1 p2 0 hf) gL_law_L_corner rfl (by decide +kernel) rfl ⟨(Nat.le_of_ble_eq_true rfl), (Nat.le_of_ble_eq_true rfl)⟩ ⟨by omega, by omega⟩ [0, 1, 2, 3, 4, 5, 8] [6, 7, 9, 10, 11, 12, 13, 14, 15, 16, 17, 18, 19, 20, 21, 22, 23, 24, 25, 26, 27, 28, 29, 30, 31, 32, 33, 34, 35, 36, 37, 38, 39, 40, 41, 42, 43, 44, 45, 46, 47, 48] [42, 43, 44, 45, 46, 47, 0, 1, 48, 2, 3, 4, 5, 6, 7, 8, 9, 10, 11, 12, 13, 14, 15, 16, 17, 18, 19, 20, 21, 22, 23, 24, 25, 26, 27, 28, 29, 30, 31, 32, 33, 34, 35, 36, 37, 38, 39, 40, 41] rfl rfl rfl rfl (by decide) rfl rfl (Nat.le_of_ble_eq_true rfl) rfl rfl dL_law_1775 (fun H locs hW => ?_)
  refine lv_istore (lv' := [(5, .int 1), (0, .ref b), (1, .ref q), (2, .ref mq), (3, .ref qo), (4, .int x4)]) hx hb dL_law_1778 hl (by decide) rfl (fun ls hl => ?_)
  refine lv_aload_n hx hb dL_law_1780 rfl (lv_at hl 3 rfl) ?_
  refine lv_aload_n hx hb dL_law_1781 rfl (lv_at hl 1 rfl) ?_
  refine lv_iload hx hb dL_law_1782 (lv_at hl 5 rfl) ?_
  refine lv_iconst (v := 1) hx hb dL_law_1784 (by decide) ?_
  refine lv_iadd hx hb dL_law_1785 ?_
  refine va_sld hx hb hX hbl hbA hW.2.2 hv1 dL_law_1786 ?_
  rw [hp1]
  refine lv_aload_n hx hb dL_law_1787 rfl (lv_at hl 1 rfl) ?_
  refine lv_iload hx hb dL_law_1788 (lv_at hl 5 rfl) ?_
  refine lv_iconst (v := 2) hx hb dL_law_1790 (by decide) ?_
  refine lv_iadd hx hb dL_law_1791 ?_
  refine va_sld hx hb hX hbl hbA hW.2.2 hv2 dL_law_1792 ?_
  rw [hp2]
  refine lv_aload_n hx hb dL_law_1793 rfl (lv_at hl 1 rfl) ?_
  refine lv_iload hx hb dL_law_1794 (lv_at hl 5 rfl) ?_
  refine lv_iconst (v := 3) hx hb dL_law_1796 (by decide) ?_
  refine lv_iadd hx hb dL_law_1797 ?_
  refine va_sld hx hb hX hbl hbA hW.2.2 hv3 dL_law_1798 ?_
  rw [hp3]
  refine lv_if_eq (tgt := 1806) hx hb dL_law_1799 (by decide) (fun _ => ?_) (fun hc => absurd hz hc)
  refine lv_iconst (v := 0) hx hb dL_law_1806 (by decide) ?_
  refine k_callV (b := mq) (ci := 9) (qb := 0) (As := [.int p1, .int p2, .int 0]) (n := 3) (rest := []) (st1 := [.int rb]) (wr := [(q, .inr (8, [.ref q_now, .ref q_trial, .ref q_past, .ref q_text, .ref q_reader, .ref q_slot0, .ref q_slot1, .ref q_greatestPath, .ref q_fillingsOfShape])), (q_now, .inr (2, [.ref q_now_first, .ref q_now_second])), (q_now_first, .inr (6, [.ref q_now_first_numbers])), (q_now_first_numbers, .inl (cI, 36, .inl u_now_first_numbers)), (q_now_second, .inr (6, [.ref q_now_second_numbers])), (q_now_second_numbers, .inl (cI, 36, .inl u_now_second_numbers)), (qo, .inl (cJ, 1, .inr (.inl fo))), zc0, zc1, zc2, zc3, zc4, zc5, zc6, zc7, zc8, zc9, zc10, zc11, zc12, zc13, zc14, zc15, zc16, zc17, zc18, zc19, zc20, zc21, zc22, zc23, zc24, zc25, zc26, zc27, zc28, zc29, zc30, zc31, zc32, zc33, zc34, zc35, zc36, zc37, zc38, zc39]) (ws' := [(q, .inr (8, [.ref q_now, .ref q_trial, .ref q_past, .ref q_text, .ref q_reader, .ref q_slot0, .ref q_slot1, .ref q_greatestPath, .ref q_fillingsOfShape])), (q_now, .inr (2, [.ref q_now_first, .ref q_now_second])), (q_now_first, .inr (6, [.ref q_now_first_numbers])), (q_now_first_numbers, .inl (cI, 36, .inl u_now_first_numbers)), (q_now_second, .inr (6, [.ref q_now_second_numbers])), (q_now_second_numbers, .inl (cI, 36, .inl u_now_second_numbers)), (mq, .inr (9, [.int 1, .ref mq_script, .int v_scriptSize, .int v_spot, .ref mq_readRow, .ref mq_now, .ref mq_trial, .ref mq_diary, .int v_acts, .ref mq_kept, .ref mq_isKept, .int v_slides, .ref mq_sums, .ref mq_primes, .ref mq_turned])), (mq_now, .inl (cI, 84, .inl v_now)), (qo, .inl (cJ, 1, .inr (.inl fo))), zc0, zc1, zc2, zc3, zc4, zc5, zc6, zc7, zc8, zc9, zc10, zc11, zc12, zc13, zc14, zc15, zc16, zc17, zc18, zc19, zc20, zc21, zc22, zc23, zc24, zc25, zc26, zc27, zc28, zc29, zc30, zc31, zc32, zc33, zc34, zc35, zc36, zc37, zc38, zc39]) C hE hW hl.1 (kX10_corner l D cI cZ cJ _ mq mq_now mq_script mq_readRow mq_trial mq_diary mq_kept mq_isKept mq_sums mq_primes mq_turned v_refusal v_scriptSize v_spot v_acts v_slides v_now p1 p2 0 rb 1 hm) gL_law_X10_corner rfl (by decide +kernel) rfl ⟨(Nat.le_of_ble_eq_true rfl), (Nat.le_of_ble_eq_true rfl)⟩ ⟨by omega, by omega⟩ rfl rfl [6, 7] [0, 1, 2, 3, 4, 5, 8, 9, 10, 11, 12, 13, 14, 15, 16, 17, 18, 19, 20, 21, 22, 23, 24, 25, 26, 27, 28, 29, 30, 31, 32, 33, 34, 35, 36, 37, 38, 39, 40, 41, 42, 43, 44, 45, 46, 47, 48] [0, 1, 2, 3, 4, 5, 47, 48, 6, 7, 8, 9, 10, 11, 12, 13, 14, 15, 16, 17, 18, 19, 20, 21, 22, 23, 24, 25, 26, 27, 28, 29, 30, 31, 32, 33, 34, 35, 36, 37, 38, 39, 40, 41, 42, 43, 44, 45, 46] rfl rfl rfl rfl (by decide) rfl rfl (Nat.le_of_ble_eq_true rfl) rfl rfl dL_law_1807 (fun H locs hW => ?_)
  refine lv_istore (lv' := [(6, .int rb), (5, .int 1), (0, .ref b), (1, .ref q), (2, .ref mq), (3, .ref qo), (4, .int x4)]) hx hb dL_law_1810 hl (by decide) rfl (fun ls hl => ?_)
  refine lv_aload_n hx hb dL_law_1812 rfl (lv_at hl 4 rfl) ?_
  refine k_callVR (b := mq) (ci := 9) (qb := 0) (As := []) (n := 0) (rest := []) (st1 := [.int 1]) C hE hW hl.1 (kX10_thrown l D cI cZ cJ _ mq mq_script mq_readRow mq_now mq_trial mq_diary mq_kept mq_isKept mq_sums mq_primes mq_turned 1 v_scriptSize v_spot v_acts v_slides 1 rfl) gL_law_X10_thrown rfl (by decide +kernel) rfl ⟨(Nat.le_of_ble_eq_true rfl), (Nat.le_of_ble_eq_true rfl)⟩ ⟨by omega, by omega⟩ rfl rfl [6] rfl rfl (Nat.le_of_ble_eq_true rfl) rfl rfl dL_law_1813 (fun H locs hW => ?_)
  refine lv_iload hx hb dL_law_1816 (lv_at hl 1 rfl) ?_
  refine lv_icmp_eq (tgt := 1823) hx hb dL_law_1818 (by decide) (fun _ => ?_) (fun hc => absurd rfl hc)
  refine lv_iload hx hb dL_law_1823 (lv_at hl 1 rfl) ?_
  refine lv_if_ne (tgt := 1840) hx hb dL_law_1825 (by decide) (fun _ => ?_) (fun hc => absurd hc (by decide))
  refine lv_goto (tgt := 2534) hx hb dL_law_1840 (by decide) ?_
  exact kk _ _ _ hW (lv_sub hl [2, 3, 4, 5, 6] rfl)
set_option maxHeartbeats 4000000 in
set_option maxRecDepth 100000 in
theorem lc_corner_t3_z1 (hlt : l.stackTraces = false) (C : CallFix p m c cL_law 8 s #[Value.ref b] wsL_law RL) (hE : kEn D cI cZ cJ A s) (hX : va_X b L xs s s.heap) (hbl : b < s.heap.size) (hbA : ¬ A b) (x4 : Int32) (p1 : Int32) (hv1 : vp_in (x4 + 1) L) (hp1 : xs (x4 + 1).toNatClampNeg = p1) (p2 : Int32) (hv2 : vp_in (x4 + 2) L) (hp2 : xs (x4 + 2).toNatClampNeg = p2) (p3 : Int32) (hv3 : vp_in (x4 + 3) L) (hp3 : xs (x4 + 3).toNatClampNeg = p3) (hz : ¬ p3 = 0) (hcs : cells + 1 ≤ room_1.cells ∧ slots + 6 ≤ room_1.slots) (q q_now q_now_first q_now_first_numbers q_now_second q_now_second_numbers q_trial q_past q_text q_reader q_slot0 q_slot1 q_greatestPath q_fillingsOfShape mq mq_now mq_script mq_readRow mq_trial mq_diary mq_kept mq_isKept mq_sums mq_primes mq_turned qo : Nat) (u_now_first_numbers : Nat → Int32) (u_now_second_numbers : Nat → Int32) (v_refusal : Int32) (v_scriptSize : Int32) (v_spot : Int32) (v_acts : Int32) (v_slides : Int32) (v_now : Nat → Int32) (fo : Nat → Int64) (rb : Int32) (zc0 zc1 zc2 zc3 zc4 zc5 zc6 zc7 zc8 zc9 zc10 zc11 zc12 zc13 zc14 zc15 zc16 zc17 zc18 zc19 zc20 zc21 zc22 zc23 zc24 zc25 zc26 zc27 zc28 zc29 zc30 zc31 zc32 zc33 zc34 zc35 zc36 zc37 zc38 zc39 : Nat × va_E) (hf : pX9_corner u_now_first_numbers u_now_second_numbers p1 p2 1 = some (.inl 3)) (hm : pX10_corner v_refusal v_now p1 p2 1 = some (rb, 1)) (hW : kH D A s H locs [(q, .inr (8, [.ref q_now, .ref q_trial, .ref q_past, .ref q_text, .ref q_reader, .ref q_slot0, .ref q_slot1, .ref q_greatestPath, .ref q_fillingsOfShape])), (q_now, .inr (2, [.ref q_now_first, .ref q_now_second])), (q_now_first, .inr (6, [.ref q_now_first_numbers])), (q_now_first_numbers, .inl (cI, 36, .inl u_now_first_numbers)), (q_now_second, .inr (6, [.ref q_now_second_numbers])), (q_now_second_numbers, .inl (cI, 36, .inl u_now_second_numbers)), (mq, .inr (9, [.int v_refusal, .ref mq_script, .int v_scriptSize, .int v_spot, .ref mq_readRow, .ref mq_now, .ref mq_trial, .ref mq_diary, .int v_acts, .ref mq_kept, .ref mq_isKept, .int v_slides, .ref mq_sums, .ref mq_primes, .ref mq_turned])), (mq_now, .inl (cI, 84, .inl v_now)), (qo, .inl (cJ, 1, .inr (.inl fo))), zc0, zc1, zc2, zc3, zc4, zc5, zc6, zc7, zc8, zc9, zc10, zc11, zc12, zc13, zc14, zc15, zc16, zc17, zc18, zc19, zc20, zc21, zc22, zc23, zc24, zc25, zc26, zc27, zc28, zc29, zc30, zc31, zc32, zc33, zc34, zc35, zc36, zc37, zc38, zc39]) (hl : lv_has ls 8 [(0, .ref b), (1, .ref q), (2, .ref mq), (3, .ref qo), (4, .int x4)])
    (kk : ∀ (H1 : Heap) (locs1 : List Loc) (ls1 : Array Slot), kH D A s H1 locs1 [(q, .inr (8, [.ref q_now, .ref q_trial, .ref q_past, .ref q_text, .ref q_reader, .ref q_slot0, .ref q_slot1, .ref q_greatestPath, .ref q_fillingsOfShape])), (q_now, .inr (2, [.ref q_now_first, .ref q_now_second])), (q_now_first, .inr (6, [.ref q_now_first_numbers])), (q_now_first_numbers, .inl (cI, 36, .inl u_now_first_numbers)), (q_now_second, .inr (6, [.ref q_now_second_numbers])), (q_now_second_numbers, .inl (cI, 36, .inl u_now_second_numbers)), (mq, .inr (9, [.int 1, .ref mq_script, .int v_scriptSize, .int v_spot, .ref mq_readRow, .ref mq_now, .ref mq_trial, .ref mq_diary, .int v_acts, .ref mq_kept, .ref mq_isKept, .int v_slides, .ref mq_sums, .ref mq_primes, .ref mq_turned])), (mq_now, .inl (cI, 84, .inl v_now)), (qo, .inl (cJ, 1, .inr (.inl fo))), zc0, zc1, zc2, zc3, zc4, zc5, zc6, zc7, zc8, zc9, zc10, zc11, zc12, zc13, zc14, zc15, zc16, zc17, zc18, zc19, zc20, zc21, zc22, zc23, zc24, zc25, zc26, zc27, zc28, zc29, zc30, zc31, zc32, zc33, zc34, zc35, zc36, zc37, zc38, zc39] → lv_has ls1 8 [(0, .ref b), (1, .ref q), (2, .ref mq), (3, .ref qo), (4, .int x4)] → W p l e room_1 s m #[Value.ref b] below meth c H1 locs1 (cells + 1) (slots + 6) Q (F0 m 2534 ls1 [])) : W p l e room_1 s m #[Value.ref b] below meth c H locs cells slots Q (F0 m 1747 ls []) := by
  have hx := C.1
  have hb := C.2.1
  refine lv_aload_n hx hb dL_law_1747 rfl (lv_at hl 1 rfl) ?_
  refine lv_aload_n hx hb dL_law_1748 rfl (lv_at hl 0 rfl) ?_
  refine lv_iload hx hb dL_law_1749 (lv_at hl 4 rfl) ?_
  refine lv_iconst (v := 1) hx hb dL_law_1751 (by decide) ?_
  refine lv_iadd hx hb dL_law_1752 ?_
  refine va_sld hx hb hX hbl hbA hW.2.2 hv1 dL_law_1753 ?_
  rw [hp1]
  refine lv_aload_n hx hb dL_law_1754 rfl (lv_at hl 0 rfl) ?_
  refine lv_iload hx hb dL_law_1755 (lv_at hl 4 rfl) ?_
  refine lv_iconst (v := 2) hx hb dL_law_1757 (by decide) ?_
  refine lv_iadd hx hb dL_law_1758 ?_
  refine va_sld hx hb hX hbl hbA hW.2.2 hv2 dL_law_1759 ?_
  rw [hp2]
  refine lv_aload_n hx hb dL_law_1760 rfl (lv_at hl 0 rfl) ?_
  refine lv_iload hx hb dL_law_1761 (lv_at hl 4 rfl) ?_
  refine lv_iconst (v := 3) hx hb dL_law_1763 (by decide) ?_
  refine lv_iadd hx hb dL_law_1764 ?_
  refine va_sld hx hb hX hbl hbA hW.2.2 hv3 dL_law_1765 ?_
  rw [hp3]
  refine lv_if_eq (tgt := 1773) hx hb dL_law_1766 (by decide) (fun hc => absurd hc hz) (fun _ => ?_)
  refine lv_iconst (v := 1) hx hb dL_law_1769 (by decide) ?_
  refine lv_goto (tgt := 1774) hx hb dL_law_1770 (by decide) ?_
  refine lv_aload_n hx hb dL_law_1774 rfl (lv_at hl 3 rfl) ?_
  refine k_callSW (As := [.ref q, .int p1, .int p2, .int 1, .ref qo]) (n := 5) (rest := []) (st1 := [.int 1]) (wr := [(mq, .inr (9, [.int v_refusal, .ref mq_script, .int v_scriptSize, .int v_spot, .ref mq_readRow, .ref mq_now, .ref mq_trial, .ref mq_diary, .int v_acts, .ref mq_kept, .ref mq_isKept, .int v_slides, .ref mq_sums, .ref mq_primes, .ref mq_turned])), (mq_now, .inl (cI, 84, .inl v_now)), zc0, zc1, zc2, zc3, zc4, zc5, zc6, zc7, zc8, zc9, zc10, zc11, zc12, zc13, zc14, zc15, zc16, zc17, zc18, zc19, zc20, zc21, zc22, zc23, zc24, zc25, zc26, zc27, zc28, zc29, zc30, zc31, zc32, zc33, zc34, zc35, zc36, zc37, zc38, zc39]) (ws' := [(q, .inr (8, [.ref q_now, .ref q_trial, .ref q_past, .ref q_text, .ref q_reader, .ref q_slot0, .ref q_slot1, .ref q_greatestPath, .ref q_fillingsOfShape])), (q_now, .inr (2, [.ref q_now_first, .ref q_now_second])), (q_now_first, .inr (6, [.ref q_now_first_numbers])), (q_now_first_numbers, .inl (cI, 36, .inl u_now_first_numbers)), (q_now_second, .inr (6, [.ref q_now_second_numbers])), (q_now_second_numbers, .inl (cI, 36, .inl u_now_second_numbers)), (mq, .inr (9, [.int v_refusal, .ref mq_script, .int v_scriptSize, .int v_spot, .ref mq_readRow, .ref mq_now, .ref mq_trial, .ref mq_diary, .int v_acts, .ref mq_kept, .ref mq_isKept, .int v_slides, .ref mq_sums, .ref mq_primes, .ref mq_turned])), (mq_now, .inl (cI, 84, .inl v_now)), (qo, .inl (cJ, 1, .inr (.inl fo))), zc0, zc1, zc2, zc3, zc4, zc5, zc6, zc7, zc8, zc9, zc10, zc11, zc12, zc13, zc14, zc15, zc16, zc17, zc18, zc19, zc20, zc21, zc22, zc23, zc24, zc25, zc26, zc27, zc28, zc29, zc30, zc31, zc32, zc33, zc34, zc35, zc36, zc37, zc38, zc39]) C hE hW hl.1 (kL_corner_t3 l hlt D cI cZ cJ _ q q_now q_now_first q_now_first_numbers q_now_second q_now_second_numbers q_trial q_past q_text q_reader q_slot0 q_slot1 q_greatestPath q_fillingsOfShape qo u_now_first_numbers u_now_second_numbers fo p1 p2 1 hf) gL_law_L_corner rfl (by decide +kernel) rfl ⟨(Nat.le_of_ble_eq_true rfl), (Nat.le_of_ble_eq_true rfl)⟩ ⟨by omega, by omega⟩ [0, 1, 2, 3, 4, 5, 8] [6, 7, 9, 10, 11, 12, 13, 14, 15, 16, 17, 18, 19, 20, 21, 22, 23, 24, 25, 26, 27, 28, 29, 30, 31, 32, 33, 34, 35, 36, 37, 38, 39, 40, 41, 42, 43, 44, 45, 46, 47, 48] [42, 43, 44, 45, 46, 47, 0, 1, 48, 2, 3, 4, 5, 6, 7, 8, 9, 10, 11, 12, 13, 14, 15, 16, 17, 18, 19, 20, 21, 22, 23, 24, 25, 26, 27, 28, 29, 30, 31, 32, 33, 34, 35, 36, 37, 38, 39, 40, 41] rfl rfl rfl rfl (by decide) rfl rfl (Nat.le_of_ble_eq_true rfl) rfl rfl dL_law_1775 (fun H locs hW => ?_)
  refine lv_istore (lv' := [(5, .int 1), (0, .ref b), (1, .ref q), (2, .ref mq), (3, .ref qo), (4, .int x4)]) hx hb dL_law_1778 hl (by decide) rfl (fun ls hl => ?_)
  refine lv_aload_n hx hb dL_law_1780 rfl (lv_at hl 3 rfl) ?_
  refine lv_aload_n hx hb dL_law_1781 rfl (lv_at hl 1 rfl) ?_
  refine lv_iload hx hb dL_law_1782 (lv_at hl 5 rfl) ?_
  refine lv_iconst (v := 1) hx hb dL_law_1784 (by decide) ?_
  refine lv_iadd hx hb dL_law_1785 ?_
  refine va_sld hx hb hX hbl hbA hW.2.2 hv1 dL_law_1786 ?_
  rw [hp1]
  refine lv_aload_n hx hb dL_law_1787 rfl (lv_at hl 1 rfl) ?_
  refine lv_iload hx hb dL_law_1788 (lv_at hl 5 rfl) ?_
  refine lv_iconst (v := 2) hx hb dL_law_1790 (by decide) ?_
  refine lv_iadd hx hb dL_law_1791 ?_
  refine va_sld hx hb hX hbl hbA hW.2.2 hv2 dL_law_1792 ?_
  rw [hp2]
  refine lv_aload_n hx hb dL_law_1793 rfl (lv_at hl 1 rfl) ?_
  refine lv_iload hx hb dL_law_1794 (lv_at hl 5 rfl) ?_
  refine lv_iconst (v := 3) hx hb dL_law_1796 (by decide) ?_
  refine lv_iadd hx hb dL_law_1797 ?_
  refine va_sld hx hb hX hbl hbA hW.2.2 hv3 dL_law_1798 ?_
  rw [hp3]
  refine lv_if_eq (tgt := 1806) hx hb dL_law_1799 (by decide) (fun hc => absurd hc hz) (fun _ => ?_)
  refine lv_iconst (v := 1) hx hb dL_law_1802 (by decide) ?_
  refine lv_goto (tgt := 1807) hx hb dL_law_1803 (by decide) ?_
  refine k_callV (b := mq) (ci := 9) (qb := 0) (As := [.int p1, .int p2, .int 1]) (n := 3) (rest := []) (st1 := [.int rb]) (wr := [(q, .inr (8, [.ref q_now, .ref q_trial, .ref q_past, .ref q_text, .ref q_reader, .ref q_slot0, .ref q_slot1, .ref q_greatestPath, .ref q_fillingsOfShape])), (q_now, .inr (2, [.ref q_now_first, .ref q_now_second])), (q_now_first, .inr (6, [.ref q_now_first_numbers])), (q_now_first_numbers, .inl (cI, 36, .inl u_now_first_numbers)), (q_now_second, .inr (6, [.ref q_now_second_numbers])), (q_now_second_numbers, .inl (cI, 36, .inl u_now_second_numbers)), (qo, .inl (cJ, 1, .inr (.inl fo))), zc0, zc1, zc2, zc3, zc4, zc5, zc6, zc7, zc8, zc9, zc10, zc11, zc12, zc13, zc14, zc15, zc16, zc17, zc18, zc19, zc20, zc21, zc22, zc23, zc24, zc25, zc26, zc27, zc28, zc29, zc30, zc31, zc32, zc33, zc34, zc35, zc36, zc37, zc38, zc39]) (ws' := [(q, .inr (8, [.ref q_now, .ref q_trial, .ref q_past, .ref q_text, .ref q_reader, .ref q_slot0, .ref q_slot1, .ref q_greatestPath, .ref q_fillingsOfShape])), (q_now, .inr (2, [.ref q_now_first, .ref q_now_second])), (q_now_first, .inr (6, [.ref q_now_first_numbers])), (q_now_first_numbers, .inl (cI, 36, .inl u_now_first_numbers)), (q_now_second, .inr (6, [.ref q_now_second_numbers])), (q_now_second_numbers, .inl (cI, 36, .inl u_now_second_numbers)), (mq, .inr (9, [.int 1, .ref mq_script, .int v_scriptSize, .int v_spot, .ref mq_readRow, .ref mq_now, .ref mq_trial, .ref mq_diary, .int v_acts, .ref mq_kept, .ref mq_isKept, .int v_slides, .ref mq_sums, .ref mq_primes, .ref mq_turned])), (mq_now, .inl (cI, 84, .inl v_now)), (qo, .inl (cJ, 1, .inr (.inl fo))), zc0, zc1, zc2, zc3, zc4, zc5, zc6, zc7, zc8, zc9, zc10, zc11, zc12, zc13, zc14, zc15, zc16, zc17, zc18, zc19, zc20, zc21, zc22, zc23, zc24, zc25, zc26, zc27, zc28, zc29, zc30, zc31, zc32, zc33, zc34, zc35, zc36, zc37, zc38, zc39]) C hE hW hl.1 (kX10_corner l D cI cZ cJ _ mq mq_now mq_script mq_readRow mq_trial mq_diary mq_kept mq_isKept mq_sums mq_primes mq_turned v_refusal v_scriptSize v_spot v_acts v_slides v_now p1 p2 1 rb 1 hm) gL_law_X10_corner rfl (by decide +kernel) rfl ⟨(Nat.le_of_ble_eq_true rfl), (Nat.le_of_ble_eq_true rfl)⟩ ⟨by omega, by omega⟩ rfl rfl [6, 7] [0, 1, 2, 3, 4, 5, 8, 9, 10, 11, 12, 13, 14, 15, 16, 17, 18, 19, 20, 21, 22, 23, 24, 25, 26, 27, 28, 29, 30, 31, 32, 33, 34, 35, 36, 37, 38, 39, 40, 41, 42, 43, 44, 45, 46, 47, 48] [0, 1, 2, 3, 4, 5, 47, 48, 6, 7, 8, 9, 10, 11, 12, 13, 14, 15, 16, 17, 18, 19, 20, 21, 22, 23, 24, 25, 26, 27, 28, 29, 30, 31, 32, 33, 34, 35, 36, 37, 38, 39, 40, 41, 42, 43, 44, 45, 46] rfl rfl rfl rfl (by decide) rfl rfl (Nat.le_of_ble_eq_true rfl) rfl rfl dL_law_1807 (fun H locs hW => ?_)
  refine lv_istore (lv' := [(6, .int rb), (5, .int 1), (0, .ref b), (1, .ref q), (2, .ref mq), (3, .ref qo), (4, .int x4)]) hx hb dL_law_1810 hl (by decide) rfl (fun ls hl => ?_)
  refine lv_aload_n hx hb dL_law_1812 rfl (lv_at hl 4 rfl) ?_
  refine k_callVR (b := mq) (ci := 9) (qb := 0) (As := []) (n := 0) (rest := []) (st1 := [.int 1]) C hE hW hl.1 (kX10_thrown l D cI cZ cJ _ mq mq_script mq_readRow mq_now mq_trial mq_diary mq_kept mq_isKept mq_sums mq_primes mq_turned 1 v_scriptSize v_spot v_acts v_slides 1 rfl) gL_law_X10_thrown rfl (by decide +kernel) rfl ⟨(Nat.le_of_ble_eq_true rfl), (Nat.le_of_ble_eq_true rfl)⟩ ⟨by omega, by omega⟩ rfl rfl [6] rfl rfl (Nat.le_of_ble_eq_true rfl) rfl rfl dL_law_1813 (fun H locs hW => ?_)
  refine lv_iload hx hb dL_law_1816 (lv_at hl 1 rfl) ?_
  refine lv_icmp_eq (tgt := 1823) hx hb dL_law_1818 (by decide) (fun _ => ?_) (fun hc => absurd rfl hc)
  refine lv_iload hx hb dL_law_1823 (lv_at hl 1 rfl) ?_
  refine lv_if_ne (tgt := 1840) hx hb dL_law_1825 (by decide) (fun _ => ?_) (fun hc => absurd hc (by decide))
  refine lv_goto (tgt := 2534) hx hb dL_law_1840 (by decide) ?_
  exact kk _ _ _ hW (lv_sub hl [2, 3, 4, 5, 6] rfl)
set_option maxHeartbeats 4000000 in
set_option maxRecDepth 100000 in
theorem lc_corner_t1_z0 (hlt : l.stackTraces = false) (C : CallFix p m c cL_law 8 s #[Value.ref b] wsL_law RL) (hE : kEn D cI cZ cJ A s) (hX : va_X b L xs s s.heap) (hbl : b < s.heap.size) (hbA : ¬ A b) (x4 : Int32) (p1 : Int32) (hv1 : vp_in (x4 + 1) L) (hp1 : xs (x4 + 1).toNatClampNeg = p1) (p2 : Int32) (hv2 : vp_in (x4 + 2) L) (hp2 : xs (x4 + 2).toNatClampNeg = p2) (p3 : Int32) (hv3 : vp_in (x4 + 3) L) (hp3 : xs (x4 + 3).toNatClampNeg = p3) (hz : p3 = 0) (hcs : cells + 1 ≤ room_1.cells ∧ slots + 6 ≤ room_1.slots) (q q_now q_now_first q_now_first_numbers q_now_second q_now_second_numbers q_trial q_past q_text q_reader q_slot0 q_slot1 q_greatestPath q_fillingsOfShape mq mq_now mq_script mq_readRow mq_trial mq_diary mq_kept mq_isKept mq_sums mq_primes mq_turned qo : Nat) (u_now_first_numbers : Nat → Int32) (u_now_second_numbers : Nat → Int32) (v_refusal : Int32) (v_scriptSize : Int32) (v_spot : Int32) (v_acts : Int32) (v_slides : Int32) (v_now : Nat → Int32) (fo : Nat → Int64) (rb : Int32) (zc0 zc1 zc2 zc3 zc4 zc5 zc6 zc7 zc8 zc9 zc10 zc11 zc12 zc13 zc14 zc15 zc16 zc17 zc18 zc19 zc20 zc21 zc22 zc23 zc24 zc25 zc26 zc27 zc28 zc29 zc30 zc31 zc32 zc33 zc34 zc35 zc36 zc37 zc38 zc39 : Nat × va_E) (hf : pX9_corner u_now_first_numbers u_now_second_numbers p1 p2 0 = some (.inl 1)) (hm : pX10_corner v_refusal v_now p1 p2 0 = some (rb, 2)) (hW : kH D A s H locs [(q, .inr (8, [.ref q_now, .ref q_trial, .ref q_past, .ref q_text, .ref q_reader, .ref q_slot0, .ref q_slot1, .ref q_greatestPath, .ref q_fillingsOfShape])), (q_now, .inr (2, [.ref q_now_first, .ref q_now_second])), (q_now_first, .inr (6, [.ref q_now_first_numbers])), (q_now_first_numbers, .inl (cI, 36, .inl u_now_first_numbers)), (q_now_second, .inr (6, [.ref q_now_second_numbers])), (q_now_second_numbers, .inl (cI, 36, .inl u_now_second_numbers)), (mq, .inr (9, [.int v_refusal, .ref mq_script, .int v_scriptSize, .int v_spot, .ref mq_readRow, .ref mq_now, .ref mq_trial, .ref mq_diary, .int v_acts, .ref mq_kept, .ref mq_isKept, .int v_slides, .ref mq_sums, .ref mq_primes, .ref mq_turned])), (mq_now, .inl (cI, 84, .inl v_now)), (qo, .inl (cJ, 1, .inr (.inl fo))), zc0, zc1, zc2, zc3, zc4, zc5, zc6, zc7, zc8, zc9, zc10, zc11, zc12, zc13, zc14, zc15, zc16, zc17, zc18, zc19, zc20, zc21, zc22, zc23, zc24, zc25, zc26, zc27, zc28, zc29, zc30, zc31, zc32, zc33, zc34, zc35, zc36, zc37, zc38, zc39]) (hl : lv_has ls 8 [(0, .ref b), (1, .ref q), (2, .ref mq), (3, .ref qo), (4, .int x4)])
    (kk : ∀ (H1 : Heap) (locs1 : List Loc) (ls1 : Array Slot), kH D A s H1 locs1 [(q, .inr (8, [.ref q_now, .ref q_trial, .ref q_past, .ref q_text, .ref q_reader, .ref q_slot0, .ref q_slot1, .ref q_greatestPath, .ref q_fillingsOfShape])), (q_now, .inr (2, [.ref q_now_first, .ref q_now_second])), (q_now_first, .inr (6, [.ref q_now_first_numbers])), (q_now_first_numbers, .inl (cI, 36, .inl u_now_first_numbers)), (q_now_second, .inr (6, [.ref q_now_second_numbers])), (q_now_second_numbers, .inl (cI, 36, .inl u_now_second_numbers)), (mq, .inr (9, [.int 2, .ref mq_script, .int v_scriptSize, .int v_spot, .ref mq_readRow, .ref mq_now, .ref mq_trial, .ref mq_diary, .int v_acts, .ref mq_kept, .ref mq_isKept, .int v_slides, .ref mq_sums, .ref mq_primes, .ref mq_turned])), (mq_now, .inl (cI, 84, .inl v_now)), (qo, .inl (cJ, 1, .inr (.inl fo))), zc0, zc1, zc2, zc3, zc4, zc5, zc6, zc7, zc8, zc9, zc10, zc11, zc12, zc13, zc14, zc15, zc16, zc17, zc18, zc19, zc20, zc21, zc22, zc23, zc24, zc25, zc26, zc27, zc28, zc29, zc30, zc31, zc32, zc33, zc34, zc35, zc36, zc37, zc38, zc39] → lv_has ls1 8 [(0, .ref b), (1, .ref q), (2, .ref mq), (3, .ref qo), (4, .int x4)] → W p l e room_1 s m #[Value.ref b] below meth c H1 locs1 (cells + 1) (slots + 6) Q (F0 m 2534 ls1 [])) : W p l e room_1 s m #[Value.ref b] below meth c H locs cells slots Q (F0 m 1747 ls []) := by
  have hx := C.1
  have hb := C.2.1
  refine lv_aload_n hx hb dL_law_1747 rfl (lv_at hl 1 rfl) ?_
  refine lv_aload_n hx hb dL_law_1748 rfl (lv_at hl 0 rfl) ?_
  refine lv_iload hx hb dL_law_1749 (lv_at hl 4 rfl) ?_
  refine lv_iconst (v := 1) hx hb dL_law_1751 (by decide) ?_
  refine lv_iadd hx hb dL_law_1752 ?_
  refine va_sld hx hb hX hbl hbA hW.2.2 hv1 dL_law_1753 ?_
  rw [hp1]
  refine lv_aload_n hx hb dL_law_1754 rfl (lv_at hl 0 rfl) ?_
  refine lv_iload hx hb dL_law_1755 (lv_at hl 4 rfl) ?_
  refine lv_iconst (v := 2) hx hb dL_law_1757 (by decide) ?_
  refine lv_iadd hx hb dL_law_1758 ?_
  refine va_sld hx hb hX hbl hbA hW.2.2 hv2 dL_law_1759 ?_
  rw [hp2]
  refine lv_aload_n hx hb dL_law_1760 rfl (lv_at hl 0 rfl) ?_
  refine lv_iload hx hb dL_law_1761 (lv_at hl 4 rfl) ?_
  refine lv_iconst (v := 3) hx hb dL_law_1763 (by decide) ?_
  refine lv_iadd hx hb dL_law_1764 ?_
  refine va_sld hx hb hX hbl hbA hW.2.2 hv3 dL_law_1765 ?_
  rw [hp3]
  refine lv_if_eq (tgt := 1773) hx hb dL_law_1766 (by decide) (fun _ => ?_) (fun hc => absurd hz hc)
  refine lv_iconst (v := 0) hx hb dL_law_1773 (by decide) ?_
  refine lv_aload_n hx hb dL_law_1774 rfl (lv_at hl 3 rfl) ?_
  refine k_callSW (As := [.ref q, .int p1, .int p2, .int 0, .ref qo]) (n := 5) (rest := []) (st1 := [.int 2]) (wr := [(mq, .inr (9, [.int v_refusal, .ref mq_script, .int v_scriptSize, .int v_spot, .ref mq_readRow, .ref mq_now, .ref mq_trial, .ref mq_diary, .int v_acts, .ref mq_kept, .ref mq_isKept, .int v_slides, .ref mq_sums, .ref mq_primes, .ref mq_turned])), (mq_now, .inl (cI, 84, .inl v_now)), zc0, zc1, zc2, zc3, zc4, zc5, zc6, zc7, zc8, zc9, zc10, zc11, zc12, zc13, zc14, zc15, zc16, zc17, zc18, zc19, zc20, zc21, zc22, zc23, zc24, zc25, zc26, zc27, zc28, zc29, zc30, zc31, zc32, zc33, zc34, zc35, zc36, zc37, zc38, zc39]) (ws' := [(q, .inr (8, [.ref q_now, .ref q_trial, .ref q_past, .ref q_text, .ref q_reader, .ref q_slot0, .ref q_slot1, .ref q_greatestPath, .ref q_fillingsOfShape])), (q_now, .inr (2, [.ref q_now_first, .ref q_now_second])), (q_now_first, .inr (6, [.ref q_now_first_numbers])), (q_now_first_numbers, .inl (cI, 36, .inl u_now_first_numbers)), (q_now_second, .inr (6, [.ref q_now_second_numbers])), (q_now_second_numbers, .inl (cI, 36, .inl u_now_second_numbers)), (mq, .inr (9, [.int v_refusal, .ref mq_script, .int v_scriptSize, .int v_spot, .ref mq_readRow, .ref mq_now, .ref mq_trial, .ref mq_diary, .int v_acts, .ref mq_kept, .ref mq_isKept, .int v_slides, .ref mq_sums, .ref mq_primes, .ref mq_turned])), (mq_now, .inl (cI, 84, .inl v_now)), (qo, .inl (cJ, 1, .inr (.inl fo))), zc0, zc1, zc2, zc3, zc4, zc5, zc6, zc7, zc8, zc9, zc10, zc11, zc12, zc13, zc14, zc15, zc16, zc17, zc18, zc19, zc20, zc21, zc22, zc23, zc24, zc25, zc26, zc27, zc28, zc29, zc30, zc31, zc32, zc33, zc34, zc35, zc36, zc37, zc38, zc39]) C hE hW hl.1 (kL_corner_t1 l hlt D cI cZ cJ _ q q_now q_now_first q_now_first_numbers q_now_second q_now_second_numbers q_trial q_past q_text q_reader q_slot0 q_slot1 q_greatestPath q_fillingsOfShape qo u_now_first_numbers u_now_second_numbers fo p1 p2 0 hf) gL_law_L_corner rfl (by decide +kernel) rfl ⟨(Nat.le_of_ble_eq_true rfl), (Nat.le_of_ble_eq_true rfl)⟩ ⟨by omega, by omega⟩ [0, 1, 2, 3, 4, 5, 8] [6, 7, 9, 10, 11, 12, 13, 14, 15, 16, 17, 18, 19, 20, 21, 22, 23, 24, 25, 26, 27, 28, 29, 30, 31, 32, 33, 34, 35, 36, 37, 38, 39, 40, 41, 42, 43, 44, 45, 46, 47, 48] [42, 43, 44, 45, 46, 47, 0, 1, 48, 2, 3, 4, 5, 6, 7, 8, 9, 10, 11, 12, 13, 14, 15, 16, 17, 18, 19, 20, 21, 22, 23, 24, 25, 26, 27, 28, 29, 30, 31, 32, 33, 34, 35, 36, 37, 38, 39, 40, 41] rfl rfl rfl rfl (by decide) rfl rfl (Nat.le_of_ble_eq_true rfl) rfl rfl dL_law_1775 (fun H locs hW => ?_)
  refine lv_istore (lv' := [(5, .int 2), (0, .ref b), (1, .ref q), (2, .ref mq), (3, .ref qo), (4, .int x4)]) hx hb dL_law_1778 hl (by decide) rfl (fun ls hl => ?_)
  refine lv_aload_n hx hb dL_law_1780 rfl (lv_at hl 3 rfl) ?_
  refine lv_aload_n hx hb dL_law_1781 rfl (lv_at hl 1 rfl) ?_
  refine lv_iload hx hb dL_law_1782 (lv_at hl 5 rfl) ?_
  refine lv_iconst (v := 1) hx hb dL_law_1784 (by decide) ?_
  refine lv_iadd hx hb dL_law_1785 ?_
  refine va_sld hx hb hX hbl hbA hW.2.2 hv1 dL_law_1786 ?_
  rw [hp1]
  refine lv_aload_n hx hb dL_law_1787 rfl (lv_at hl 1 rfl) ?_
  refine lv_iload hx hb dL_law_1788 (lv_at hl 5 rfl) ?_
  refine lv_iconst (v := 2) hx hb dL_law_1790 (by decide) ?_
  refine lv_iadd hx hb dL_law_1791 ?_
  refine va_sld hx hb hX hbl hbA hW.2.2 hv2 dL_law_1792 ?_
  rw [hp2]
  refine lv_aload_n hx hb dL_law_1793 rfl (lv_at hl 1 rfl) ?_
  refine lv_iload hx hb dL_law_1794 (lv_at hl 5 rfl) ?_
  refine lv_iconst (v := 3) hx hb dL_law_1796 (by decide) ?_
  refine lv_iadd hx hb dL_law_1797 ?_
  refine va_sld hx hb hX hbl hbA hW.2.2 hv3 dL_law_1798 ?_
  rw [hp3]
  refine lv_if_eq (tgt := 1806) hx hb dL_law_1799 (by decide) (fun _ => ?_) (fun hc => absurd hz hc)
  refine lv_iconst (v := 0) hx hb dL_law_1806 (by decide) ?_
  refine k_callV (b := mq) (ci := 9) (qb := 0) (As := [.int p1, .int p2, .int 0]) (n := 3) (rest := []) (st1 := [.int rb]) (wr := [(q, .inr (8, [.ref q_now, .ref q_trial, .ref q_past, .ref q_text, .ref q_reader, .ref q_slot0, .ref q_slot1, .ref q_greatestPath, .ref q_fillingsOfShape])), (q_now, .inr (2, [.ref q_now_first, .ref q_now_second])), (q_now_first, .inr (6, [.ref q_now_first_numbers])), (q_now_first_numbers, .inl (cI, 36, .inl u_now_first_numbers)), (q_now_second, .inr (6, [.ref q_now_second_numbers])), (q_now_second_numbers, .inl (cI, 36, .inl u_now_second_numbers)), (qo, .inl (cJ, 1, .inr (.inl fo))), zc0, zc1, zc2, zc3, zc4, zc5, zc6, zc7, zc8, zc9, zc10, zc11, zc12, zc13, zc14, zc15, zc16, zc17, zc18, zc19, zc20, zc21, zc22, zc23, zc24, zc25, zc26, zc27, zc28, zc29, zc30, zc31, zc32, zc33, zc34, zc35, zc36, zc37, zc38, zc39]) (ws' := [(q, .inr (8, [.ref q_now, .ref q_trial, .ref q_past, .ref q_text, .ref q_reader, .ref q_slot0, .ref q_slot1, .ref q_greatestPath, .ref q_fillingsOfShape])), (q_now, .inr (2, [.ref q_now_first, .ref q_now_second])), (q_now_first, .inr (6, [.ref q_now_first_numbers])), (q_now_first_numbers, .inl (cI, 36, .inl u_now_first_numbers)), (q_now_second, .inr (6, [.ref q_now_second_numbers])), (q_now_second_numbers, .inl (cI, 36, .inl u_now_second_numbers)), (mq, .inr (9, [.int 2, .ref mq_script, .int v_scriptSize, .int v_spot, .ref mq_readRow, .ref mq_now, .ref mq_trial, .ref mq_diary, .int v_acts, .ref mq_kept, .ref mq_isKept, .int v_slides, .ref mq_sums, .ref mq_primes, .ref mq_turned])), (mq_now, .inl (cI, 84, .inl v_now)), (qo, .inl (cJ, 1, .inr (.inl fo))), zc0, zc1, zc2, zc3, zc4, zc5, zc6, zc7, zc8, zc9, zc10, zc11, zc12, zc13, zc14, zc15, zc16, zc17, zc18, zc19, zc20, zc21, zc22, zc23, zc24, zc25, zc26, zc27, zc28, zc29, zc30, zc31, zc32, zc33, zc34, zc35, zc36, zc37, zc38, zc39]) C hE hW hl.1 (kX10_corner l D cI cZ cJ _ mq mq_now mq_script mq_readRow mq_trial mq_diary mq_kept mq_isKept mq_sums mq_primes mq_turned v_refusal v_scriptSize v_spot v_acts v_slides v_now p1 p2 0 rb 2 hm) gL_law_X10_corner rfl (by decide +kernel) rfl ⟨(Nat.le_of_ble_eq_true rfl), (Nat.le_of_ble_eq_true rfl)⟩ ⟨by omega, by omega⟩ rfl rfl [6, 7] [0, 1, 2, 3, 4, 5, 8, 9, 10, 11, 12, 13, 14, 15, 16, 17, 18, 19, 20, 21, 22, 23, 24, 25, 26, 27, 28, 29, 30, 31, 32, 33, 34, 35, 36, 37, 38, 39, 40, 41, 42, 43, 44, 45, 46, 47, 48] [0, 1, 2, 3, 4, 5, 47, 48, 6, 7, 8, 9, 10, 11, 12, 13, 14, 15, 16, 17, 18, 19, 20, 21, 22, 23, 24, 25, 26, 27, 28, 29, 30, 31, 32, 33, 34, 35, 36, 37, 38, 39, 40, 41, 42, 43, 44, 45, 46] rfl rfl rfl rfl (by decide) rfl rfl (Nat.le_of_ble_eq_true rfl) rfl rfl dL_law_1807 (fun H locs hW => ?_)
  refine lv_istore (lv' := [(6, .int rb), (5, .int 2), (0, .ref b), (1, .ref q), (2, .ref mq), (3, .ref qo), (4, .int x4)]) hx hb dL_law_1810 hl (by decide) rfl (fun ls hl => ?_)
  refine lv_aload_n hx hb dL_law_1812 rfl (lv_at hl 4 rfl) ?_
  refine k_callVR (b := mq) (ci := 9) (qb := 0) (As := []) (n := 0) (rest := []) (st1 := [.int 2]) C hE hW hl.1 (kX10_thrown l D cI cZ cJ _ mq mq_script mq_readRow mq_now mq_trial mq_diary mq_kept mq_isKept mq_sums mq_primes mq_turned 2 v_scriptSize v_spot v_acts v_slides 2 rfl) gL_law_X10_thrown rfl (by decide +kernel) rfl ⟨(Nat.le_of_ble_eq_true rfl), (Nat.le_of_ble_eq_true rfl)⟩ ⟨by omega, by omega⟩ rfl rfl [6] rfl rfl (Nat.le_of_ble_eq_true rfl) rfl rfl dL_law_1813 (fun H locs hW => ?_)
  refine lv_iload hx hb dL_law_1816 (lv_at hl 1 rfl) ?_
  refine lv_icmp_eq (tgt := 1823) hx hb dL_law_1818 (by decide) (fun _ => ?_) (fun hc => absurd rfl hc)
  refine lv_iload hx hb dL_law_1823 (lv_at hl 1 rfl) ?_
  refine lv_if_ne (tgt := 1840) hx hb dL_law_1825 (by decide) (fun _ => ?_) (fun hc => absurd hc (by decide))
  refine lv_goto (tgt := 2534) hx hb dL_law_1840 (by decide) ?_
  exact kk _ _ _ hW (lv_sub hl [2, 3, 4, 5, 6] rfl)
set_option maxHeartbeats 4000000 in
set_option maxRecDepth 100000 in
theorem lc_corner_t1_z1 (hlt : l.stackTraces = false) (C : CallFix p m c cL_law 8 s #[Value.ref b] wsL_law RL) (hE : kEn D cI cZ cJ A s) (hX : va_X b L xs s s.heap) (hbl : b < s.heap.size) (hbA : ¬ A b) (x4 : Int32) (p1 : Int32) (hv1 : vp_in (x4 + 1) L) (hp1 : xs (x4 + 1).toNatClampNeg = p1) (p2 : Int32) (hv2 : vp_in (x4 + 2) L) (hp2 : xs (x4 + 2).toNatClampNeg = p2) (p3 : Int32) (hv3 : vp_in (x4 + 3) L) (hp3 : xs (x4 + 3).toNatClampNeg = p3) (hz : ¬ p3 = 0) (hcs : cells + 1 ≤ room_1.cells ∧ slots + 6 ≤ room_1.slots) (q q_now q_now_first q_now_first_numbers q_now_second q_now_second_numbers q_trial q_past q_text q_reader q_slot0 q_slot1 q_greatestPath q_fillingsOfShape mq mq_now mq_script mq_readRow mq_trial mq_diary mq_kept mq_isKept mq_sums mq_primes mq_turned qo : Nat) (u_now_first_numbers : Nat → Int32) (u_now_second_numbers : Nat → Int32) (v_refusal : Int32) (v_scriptSize : Int32) (v_spot : Int32) (v_acts : Int32) (v_slides : Int32) (v_now : Nat → Int32) (fo : Nat → Int64) (rb : Int32) (zc0 zc1 zc2 zc3 zc4 zc5 zc6 zc7 zc8 zc9 zc10 zc11 zc12 zc13 zc14 zc15 zc16 zc17 zc18 zc19 zc20 zc21 zc22 zc23 zc24 zc25 zc26 zc27 zc28 zc29 zc30 zc31 zc32 zc33 zc34 zc35 zc36 zc37 zc38 zc39 : Nat × va_E) (hf : pX9_corner u_now_first_numbers u_now_second_numbers p1 p2 1 = some (.inl 1)) (hm : pX10_corner v_refusal v_now p1 p2 1 = some (rb, 2)) (hW : kH D A s H locs [(q, .inr (8, [.ref q_now, .ref q_trial, .ref q_past, .ref q_text, .ref q_reader, .ref q_slot0, .ref q_slot1, .ref q_greatestPath, .ref q_fillingsOfShape])), (q_now, .inr (2, [.ref q_now_first, .ref q_now_second])), (q_now_first, .inr (6, [.ref q_now_first_numbers])), (q_now_first_numbers, .inl (cI, 36, .inl u_now_first_numbers)), (q_now_second, .inr (6, [.ref q_now_second_numbers])), (q_now_second_numbers, .inl (cI, 36, .inl u_now_second_numbers)), (mq, .inr (9, [.int v_refusal, .ref mq_script, .int v_scriptSize, .int v_spot, .ref mq_readRow, .ref mq_now, .ref mq_trial, .ref mq_diary, .int v_acts, .ref mq_kept, .ref mq_isKept, .int v_slides, .ref mq_sums, .ref mq_primes, .ref mq_turned])), (mq_now, .inl (cI, 84, .inl v_now)), (qo, .inl (cJ, 1, .inr (.inl fo))), zc0, zc1, zc2, zc3, zc4, zc5, zc6, zc7, zc8, zc9, zc10, zc11, zc12, zc13, zc14, zc15, zc16, zc17, zc18, zc19, zc20, zc21, zc22, zc23, zc24, zc25, zc26, zc27, zc28, zc29, zc30, zc31, zc32, zc33, zc34, zc35, zc36, zc37, zc38, zc39]) (hl : lv_has ls 8 [(0, .ref b), (1, .ref q), (2, .ref mq), (3, .ref qo), (4, .int x4)])
    (kk : ∀ (H1 : Heap) (locs1 : List Loc) (ls1 : Array Slot), kH D A s H1 locs1 [(q, .inr (8, [.ref q_now, .ref q_trial, .ref q_past, .ref q_text, .ref q_reader, .ref q_slot0, .ref q_slot1, .ref q_greatestPath, .ref q_fillingsOfShape])), (q_now, .inr (2, [.ref q_now_first, .ref q_now_second])), (q_now_first, .inr (6, [.ref q_now_first_numbers])), (q_now_first_numbers, .inl (cI, 36, .inl u_now_first_numbers)), (q_now_second, .inr (6, [.ref q_now_second_numbers])), (q_now_second_numbers, .inl (cI, 36, .inl u_now_second_numbers)), (mq, .inr (9, [.int 2, .ref mq_script, .int v_scriptSize, .int v_spot, .ref mq_readRow, .ref mq_now, .ref mq_trial, .ref mq_diary, .int v_acts, .ref mq_kept, .ref mq_isKept, .int v_slides, .ref mq_sums, .ref mq_primes, .ref mq_turned])), (mq_now, .inl (cI, 84, .inl v_now)), (qo, .inl (cJ, 1, .inr (.inl fo))), zc0, zc1, zc2, zc3, zc4, zc5, zc6, zc7, zc8, zc9, zc10, zc11, zc12, zc13, zc14, zc15, zc16, zc17, zc18, zc19, zc20, zc21, zc22, zc23, zc24, zc25, zc26, zc27, zc28, zc29, zc30, zc31, zc32, zc33, zc34, zc35, zc36, zc37, zc38, zc39] → lv_has ls1 8 [(0, .ref b), (1, .ref q), (2, .ref mq), (3, .ref qo), (4, .int x4)] → W p l e room_1 s m #[Value.ref b] below meth c H1 locs1 (cells + 1) (slots + 6) Q (F0 m 2534 ls1 [])) : W p l e room_1 s m #[Value.ref b] below meth c H locs cells slots Q (F0 m 1747 ls []) := by
  have hx := C.1
  have hb := C.2.1
  refine lv_aload_n hx hb dL_law_1747 rfl (lv_at hl 1 rfl) ?_
  refine lv_aload_n hx hb dL_law_1748 rfl (lv_at hl 0 rfl) ?_
  refine lv_iload hx hb dL_law_1749 (lv_at hl 4 rfl) ?_
  refine lv_iconst (v := 1) hx hb dL_law_1751 (by decide) ?_
  refine lv_iadd hx hb dL_law_1752 ?_
  refine va_sld hx hb hX hbl hbA hW.2.2 hv1 dL_law_1753 ?_
  rw [hp1]
  refine lv_aload_n hx hb dL_law_1754 rfl (lv_at hl 0 rfl) ?_
  refine lv_iload hx hb dL_law_1755 (lv_at hl 4 rfl) ?_
  refine lv_iconst (v := 2) hx hb dL_law_1757 (by decide) ?_
  refine lv_iadd hx hb dL_law_1758 ?_
  refine va_sld hx hb hX hbl hbA hW.2.2 hv2 dL_law_1759 ?_
  rw [hp2]
  refine lv_aload_n hx hb dL_law_1760 rfl (lv_at hl 0 rfl) ?_
  refine lv_iload hx hb dL_law_1761 (lv_at hl 4 rfl) ?_
  refine lv_iconst (v := 3) hx hb dL_law_1763 (by decide) ?_
  refine lv_iadd hx hb dL_law_1764 ?_
  refine va_sld hx hb hX hbl hbA hW.2.2 hv3 dL_law_1765 ?_
  rw [hp3]
  refine lv_if_eq (tgt := 1773) hx hb dL_law_1766 (by decide) (fun hc => absurd hc hz) (fun _ => ?_)
  refine lv_iconst (v := 1) hx hb dL_law_1769 (by decide) ?_
  refine lv_goto (tgt := 1774) hx hb dL_law_1770 (by decide) ?_
  refine lv_aload_n hx hb dL_law_1774 rfl (lv_at hl 3 rfl) ?_
  refine k_callSW (As := [.ref q, .int p1, .int p2, .int 1, .ref qo]) (n := 5) (rest := []) (st1 := [.int 2]) (wr := [(mq, .inr (9, [.int v_refusal, .ref mq_script, .int v_scriptSize, .int v_spot, .ref mq_readRow, .ref mq_now, .ref mq_trial, .ref mq_diary, .int v_acts, .ref mq_kept, .ref mq_isKept, .int v_slides, .ref mq_sums, .ref mq_primes, .ref mq_turned])), (mq_now, .inl (cI, 84, .inl v_now)), zc0, zc1, zc2, zc3, zc4, zc5, zc6, zc7, zc8, zc9, zc10, zc11, zc12, zc13, zc14, zc15, zc16, zc17, zc18, zc19, zc20, zc21, zc22, zc23, zc24, zc25, zc26, zc27, zc28, zc29, zc30, zc31, zc32, zc33, zc34, zc35, zc36, zc37, zc38, zc39]) (ws' := [(q, .inr (8, [.ref q_now, .ref q_trial, .ref q_past, .ref q_text, .ref q_reader, .ref q_slot0, .ref q_slot1, .ref q_greatestPath, .ref q_fillingsOfShape])), (q_now, .inr (2, [.ref q_now_first, .ref q_now_second])), (q_now_first, .inr (6, [.ref q_now_first_numbers])), (q_now_first_numbers, .inl (cI, 36, .inl u_now_first_numbers)), (q_now_second, .inr (6, [.ref q_now_second_numbers])), (q_now_second_numbers, .inl (cI, 36, .inl u_now_second_numbers)), (mq, .inr (9, [.int v_refusal, .ref mq_script, .int v_scriptSize, .int v_spot, .ref mq_readRow, .ref mq_now, .ref mq_trial, .ref mq_diary, .int v_acts, .ref mq_kept, .ref mq_isKept, .int v_slides, .ref mq_sums, .ref mq_primes, .ref mq_turned])), (mq_now, .inl (cI, 84, .inl v_now)), (qo, .inl (cJ, 1, .inr (.inl fo))), zc0, zc1, zc2, zc3, zc4, zc5, zc6, zc7, zc8, zc9, zc10, zc11, zc12, zc13, zc14, zc15, zc16, zc17, zc18, zc19, zc20, zc21, zc22, zc23, zc24, zc25, zc26, zc27, zc28, zc29, zc30, zc31, zc32, zc33, zc34, zc35, zc36, zc37, zc38, zc39]) C hE hW hl.1 (kL_corner_t1 l hlt D cI cZ cJ _ q q_now q_now_first q_now_first_numbers q_now_second q_now_second_numbers q_trial q_past q_text q_reader q_slot0 q_slot1 q_greatestPath q_fillingsOfShape qo u_now_first_numbers u_now_second_numbers fo p1 p2 1 hf) gL_law_L_corner rfl (by decide +kernel) rfl ⟨(Nat.le_of_ble_eq_true rfl), (Nat.le_of_ble_eq_true rfl)⟩ ⟨by omega, by omega⟩ [0, 1, 2, 3, 4, 5, 8] [6, 7, 9, 10, 11, 12, 13, 14, 15, 16, 17, 18, 19, 20, 21, 22, 23, 24, 25, 26, 27, 28, 29, 30, 31, 32, 33, 34, 35, 36, 37, 38, 39, 40, 41, 42, 43, 44, 45, 46, 47, 48] [42, 43, 44, 45, 46, 47, 0, 1, 48, 2, 3, 4, 5, 6, 7, 8, 9, 10, 11, 12, 13, 14, 15, 16, 17, 18, 19, 20, 21, 22, 23, 24, 25, 26, 27, 28, 29, 30, 31, 32, 33, 34, 35, 36, 37, 38, 39, 40, 41] rfl rfl rfl rfl (by decide) rfl rfl (Nat.le_of_ble_eq_true rfl) rfl rfl dL_law_1775 (fun H locs hW => ?_)
  refine lv_istore (lv' := [(5, .int 2), (0, .ref b), (1, .ref q), (2, .ref mq), (3, .ref qo), (4, .int x4)]) hx hb dL_law_1778 hl (by decide) rfl (fun ls hl => ?_)
  refine lv_aload_n hx hb dL_law_1780 rfl (lv_at hl 3 rfl) ?_
  refine lv_aload_n hx hb dL_law_1781 rfl (lv_at hl 1 rfl) ?_
  refine lv_iload hx hb dL_law_1782 (lv_at hl 5 rfl) ?_
  refine lv_iconst (v := 1) hx hb dL_law_1784 (by decide) ?_
  refine lv_iadd hx hb dL_law_1785 ?_
  refine va_sld hx hb hX hbl hbA hW.2.2 hv1 dL_law_1786 ?_
  rw [hp1]
  refine lv_aload_n hx hb dL_law_1787 rfl (lv_at hl 1 rfl) ?_
  refine lv_iload hx hb dL_law_1788 (lv_at hl 5 rfl) ?_
  refine lv_iconst (v := 2) hx hb dL_law_1790 (by decide) ?_
  refine lv_iadd hx hb dL_law_1791 ?_
  refine va_sld hx hb hX hbl hbA hW.2.2 hv2 dL_law_1792 ?_
  rw [hp2]
  refine lv_aload_n hx hb dL_law_1793 rfl (lv_at hl 1 rfl) ?_
  refine lv_iload hx hb dL_law_1794 (lv_at hl 5 rfl) ?_
  refine lv_iconst (v := 3) hx hb dL_law_1796 (by decide) ?_
  refine lv_iadd hx hb dL_law_1797 ?_
  refine va_sld hx hb hX hbl hbA hW.2.2 hv3 dL_law_1798 ?_
  rw [hp3]
  refine lv_if_eq (tgt := 1806) hx hb dL_law_1799 (by decide) (fun hc => absurd hc hz) (fun _ => ?_)
  refine lv_iconst (v := 1) hx hb dL_law_1802 (by decide) ?_
  refine lv_goto (tgt := 1807) hx hb dL_law_1803 (by decide) ?_
  refine k_callV (b := mq) (ci := 9) (qb := 0) (As := [.int p1, .int p2, .int 1]) (n := 3) (rest := []) (st1 := [.int rb]) (wr := [(q, .inr (8, [.ref q_now, .ref q_trial, .ref q_past, .ref q_text, .ref q_reader, .ref q_slot0, .ref q_slot1, .ref q_greatestPath, .ref q_fillingsOfShape])), (q_now, .inr (2, [.ref q_now_first, .ref q_now_second])), (q_now_first, .inr (6, [.ref q_now_first_numbers])), (q_now_first_numbers, .inl (cI, 36, .inl u_now_first_numbers)), (q_now_second, .inr (6, [.ref q_now_second_numbers])), (q_now_second_numbers, .inl (cI, 36, .inl u_now_second_numbers)), (qo, .inl (cJ, 1, .inr (.inl fo))), zc0, zc1, zc2, zc3, zc4, zc5, zc6, zc7, zc8, zc9, zc10, zc11, zc12, zc13, zc14, zc15, zc16, zc17, zc18, zc19, zc20, zc21, zc22, zc23, zc24, zc25, zc26, zc27, zc28, zc29, zc30, zc31, zc32, zc33, zc34, zc35, zc36, zc37, zc38, zc39]) (ws' := [(q, .inr (8, [.ref q_now, .ref q_trial, .ref q_past, .ref q_text, .ref q_reader, .ref q_slot0, .ref q_slot1, .ref q_greatestPath, .ref q_fillingsOfShape])), (q_now, .inr (2, [.ref q_now_first, .ref q_now_second])), (q_now_first, .inr (6, [.ref q_now_first_numbers])), (q_now_first_numbers, .inl (cI, 36, .inl u_now_first_numbers)), (q_now_second, .inr (6, [.ref q_now_second_numbers])), (q_now_second_numbers, .inl (cI, 36, .inl u_now_second_numbers)), (mq, .inr (9, [.int 2, .ref mq_script, .int v_scriptSize, .int v_spot, .ref mq_readRow, .ref mq_now, .ref mq_trial, .ref mq_diary, .int v_acts, .ref mq_kept, .ref mq_isKept, .int v_slides, .ref mq_sums, .ref mq_primes, .ref mq_turned])), (mq_now, .inl (cI, 84, .inl v_now)), (qo, .inl (cJ, 1, .inr (.inl fo))), zc0, zc1, zc2, zc3, zc4, zc5, zc6, zc7, zc8, zc9, zc10, zc11, zc12, zc13, zc14, zc15, zc16, zc17, zc18, zc19, zc20, zc21, zc22, zc23, zc24, zc25, zc26, zc27, zc28, zc29, zc30, zc31, zc32, zc33, zc34, zc35, zc36, zc37, zc38, zc39]) C hE hW hl.1 (kX10_corner l D cI cZ cJ _ mq mq_now mq_script mq_readRow mq_trial mq_diary mq_kept mq_isKept mq_sums mq_primes mq_turned v_refusal v_scriptSize v_spot v_acts v_slides v_now p1 p2 1 rb 2 hm) gL_law_X10_corner rfl (by decide +kernel) rfl ⟨(Nat.le_of_ble_eq_true rfl), (Nat.le_of_ble_eq_true rfl)⟩ ⟨by omega, by omega⟩ rfl rfl [6, 7] [0, 1, 2, 3, 4, 5, 8, 9, 10, 11, 12, 13, 14, 15, 16, 17, 18, 19, 20, 21, 22, 23, 24, 25, 26, 27, 28, 29, 30, 31, 32, 33, 34, 35, 36, 37, 38, 39, 40, 41, 42, 43, 44, 45, 46, 47, 48] [0, 1, 2, 3, 4, 5, 47, 48, 6, 7, 8, 9, 10, 11, 12, 13, 14, 15, 16, 17, 18, 19, 20, 21, 22, 23, 24, 25, 26, 27, 28, 29, 30, 31, 32, 33, 34, 35, 36, 37, 38, 39, 40, 41, 42, 43, 44, 45, 46] rfl rfl rfl rfl (by decide) rfl rfl (Nat.le_of_ble_eq_true rfl) rfl rfl dL_law_1807 (fun H locs hW => ?_)
  refine lv_istore (lv' := [(6, .int rb), (5, .int 2), (0, .ref b), (1, .ref q), (2, .ref mq), (3, .ref qo), (4, .int x4)]) hx hb dL_law_1810 hl (by decide) rfl (fun ls hl => ?_)
  refine lv_aload_n hx hb dL_law_1812 rfl (lv_at hl 4 rfl) ?_
  refine k_callVR (b := mq) (ci := 9) (qb := 0) (As := []) (n := 0) (rest := []) (st1 := [.int 2]) C hE hW hl.1 (kX10_thrown l D cI cZ cJ _ mq mq_script mq_readRow mq_now mq_trial mq_diary mq_kept mq_isKept mq_sums mq_primes mq_turned 2 v_scriptSize v_spot v_acts v_slides 2 rfl) gL_law_X10_thrown rfl (by decide +kernel) rfl ⟨(Nat.le_of_ble_eq_true rfl), (Nat.le_of_ble_eq_true rfl)⟩ ⟨by omega, by omega⟩ rfl rfl [6] rfl rfl (Nat.le_of_ble_eq_true rfl) rfl rfl dL_law_1813 (fun H locs hW => ?_)
  refine lv_iload hx hb dL_law_1816 (lv_at hl 1 rfl) ?_
  refine lv_icmp_eq (tgt := 1823) hx hb dL_law_1818 (by decide) (fun _ => ?_) (fun hc => absurd rfl hc)
  refine lv_iload hx hb dL_law_1823 (lv_at hl 1 rfl) ?_
  refine lv_if_ne (tgt := 1840) hx hb dL_law_1825 (by decide) (fun _ => ?_) (fun hc => absurd hc (by decide))
  refine lv_goto (tgt := 2534) hx hb dL_law_1840 (by decide) ?_
  exact kk _ _ _ hW (lv_sub hl [2, 3, 4, 5, 6] rfl)
end LC
