theorem start_iN {w0 : Nat → Int32} (h : tX tE w0) : iN w0 w0 (fun _ => 0) :=
  ⟨tE, tE, tE_ok, tE_ok, h, h, tM_0 (by omega) (by omega) (fun _ _ _ => iz_0), tM_0 (by omega) (by omega) (fun _ _ _ => iz_0)⟩
theorem start_iT : iT 0 (fun _ => 0) 0 (fun _ => 0) := ⟨fun _ => 0, 0, iz_0, iz_0, by omega, by omega, fun k h1 h2 => by omega, fun k h1 h2 => by omega⟩
theorem start_iS (a b c d : Nat → Int32) : iS 0 a b 0 c d (fun _ => 0) (fun _ => 0) := ⟨Or.inl ⟨rfl, rfl⟩, Or.inl ⟨rfl, rfl⟩⟩
set_option maxHeartbeats 4000000 in
set_option maxRecDepth 100000 in
theorem whole_start {p : Program} {e : Env} {s : State} {m : MethodId} {below : List Frame} {meth : Method} {c : Code} (l : Launch) (hflags : l.flags = flags0) {b L : Nat} {xs : Nat → Int32} (hL : L ≤ 3584) (C0 : lw_At p s m meth c b L xs) : W p l e room_1 s m #[Value.ref b] below meth c s.heap [] 0 0 (lw_Z below #[Value.ref b] s) (entryFrame m ([Value.ref b] : List Value).toArray 8) := by
  obtain ⟨hx, hb, hret, hml, hown, hts, hX, hbl, hlocks, hgv⟩ := C0
  have hlt : l.stackTraces = false := by
    unfold Launch.stackTraces
    rw [hflags]
    decide
  have C : CallFix p m c cL_law 8 s #[Value.ref b] wsL_law RL := ⟨hx, hb, hml, hown, fun w h => hts w (wsL_law_in w h)⟩
  obtain ⟨D, cI, cZ, cJ, hV⟩ := st_kV hts hgv
  have hZ := st_kZ hts hgv
  have hE : kEn D cI cZ cJ (fun q : Nat => s.heap.size ≤ q) s := ⟨hV, hZ, fun q h => h⟩
  have hbA : ¬ (fun q : Nat => s.heap.size ≤ q) b := Nat.not_le.mpr hbl
  have hW : kH D (fun q : Nat => s.heap.size ≤ q) s s.heap [] [] := ⟨fun k q h => by simp at h, ⟨fun i j p q h => by simp at h, fun k q h => by simp at h⟩, va_S.rf⟩
  obtain ⟨w0, hw0, hwE⟩ := pX7_wipe_iz (fun _ => 0)
  have hl := lv_entry [Value.ref b] (n := 8) (Nat.le_of_ble_eq_true rfl)
  rw [lg_entry_eq]
  generalize (lg_sl [Value.ref b] ++ List.replicate (8 - (lg_sl [Value.ref b]).length) Slot.unset).toArray = ls at hl
  have hl : lv_has ls 8 [(0, .ref b)] := hl
  refine k_newO (ci := 8) (fs := [.null, .null, .null, .null, .null, .null, .null, .null, .null]) (ty := tyX9) C hE hW inlX9 tyX9_ok (by decide +kernel) (by decide +kernel) (by decide +kernel) rfl (fun j hj => by rcases (show j = 0 ∨ j = 1 ∨ j = 2 ∨ j = 3 ∨ j = 4 ∨ j = 5 ∨ j = 6 ∨ j = 7 ∨ j = 8 by omega) with rfl | rfl | rfl | rfl | rfl | rfl | rfl | rfl | rfl <;> rfl) (Nat.le_of_ble_eq_true rfl) (Nat.le_of_ble_eq_true rfl) dL_law_0 (fun q H hW => ?_)
  refine lv_dup hx hb dL_law_3 rfl ?_
  refine k_callI (b := q) (As := []) (n := 0) (rest := [.ref q]) (wr := []) C hE hW hl.1 (kX9_init l D cI cZ cJ _ q w0 hw0) gL_law_X9_init rfl (by decide +kernel) (by decide +kernel) (by decide +kernel) rfl (by decide +kernel) rfl ⟨Nat.le_of_ble_eq_true rfl, Nat.le_of_ble_eq_true rfl⟩ ⟨Nat.le_of_ble_eq_true rfl, Nat.le_of_ble_eq_true rfl⟩ [0] [] rfl rfl rfl rfl (by decide) (Nat.le_of_ble_eq_true rfl) rfl dL_law_4 (fun x H locs hW => ?_)
  obtain ⟨n1, n2, n3, n4, n5, n6, n7, n8, n9, n10, n11, n12, n13, n14, n15, n16, n17, n18, n19, n20, n21, n22, n23, n24, n25, n26, n27, n28, n29, n30, n31⟩ := x
  refine lv_astore_n (lv' := [(1, .ref q), (0, .ref b)]) hx hb dL_law_7 rfl hl (by decide) rfl (fun ls hl => ?_)
  refine k_newO (ci := 9) (fs := [.int 0, .null, .int 0, .int 0, .null, .null, .null, .null, .int 0, .null, .null, .int 0, .null, .null, .null]) (ty := tyX10) C hE hW inlX10 tyX10_ok (by decide +kernel) (by decide +kernel) (by decide +kernel) rfl (fun j hj => by rcases (show j = 0 ∨ j = 1 ∨ j = 2 ∨ j = 3 ∨ j = 4 ∨ j = 5 ∨ j = 6 ∨ j = 7 ∨ j = 8 ∨ j = 9 ∨ j = 10 ∨ j = 11 ∨ j = 12 ∨ j = 13 ∨ j = 14 by omega) with rfl | rfl | rfl | rfl | rfl | rfl | rfl | rfl | rfl | rfl | rfl | rfl | rfl | rfl | rfl <;> rfl) (Nat.le_of_ble_eq_true rfl) (Nat.le_of_ble_eq_true rfl) dL_law_8 (fun mq H hW => ?_)
  refine lv_dup hx hb dL_law_11 rfl ?_
  refine k_callI (b := mq) (As := []) (n := 0) (rest := [.ref mq]) (wr := pmW _ [0, 1, 2, 3, 4, 5, 6, 7, 8, 9, 10, 11, 12, 13, 14, 15, 16, 17, 18, 19, 20, 21, 22, 23, 24, 25, 26, 27, 28, 29, 30, 31]) C hE hW hl.1 (kX10_init l D cI cZ cJ _ mq) gL_law_X10_init rfl (by decide +kernel) (by decide +kernel) (by decide +kernel) rfl (by decide +kernel) rfl ⟨Nat.le_of_ble_eq_true rfl, Nat.le_of_ble_eq_true rfl⟩ ⟨Nat.le_of_ble_eq_true rfl, Nat.le_of_ble_eq_true rfl⟩ [32] [0, 1, 2, 3, 4, 5, 6, 7, 8, 9, 10, 11, 12, 13, 14, 15, 16, 17, 18, 19, 20, 21, 22, 23, 24, 25, 26, 27, 28, 29, 30, 31] rfl rfl rfl rfl (by decide) (Nat.le_of_ble_eq_true rfl) rfl dL_law_12 (fun x H locs hW => ?_)
  obtain ⟨k1, k2, k3, k4, k5, k6, k7, k8, k9, k10⟩ := x
  refine lv_astore_n (lv' := [(2, .ref mq), (1, .ref q), (0, .ref b)]) hx hb dL_law_15 rfl hl (by decide) rfl (fun ls hl => ?_)
  refine lv_iconst (v := 1) hx hb dL_law_16 (by decide) ?_
  refine k_newJ (N := 1) C hE hW (by decide +kernel) (by decide) rfl (Nat.le_of_ble_eq_true rfl) (Nat.le_of_ble_eq_true rfl) (Nat.le_of_ble_eq_true rfl) dL_law_17 (fun qo H hW => ?_)
  refine lv_astore_n (lv' := [(3, .ref qo), (2, .ref mq), (1, .ref q), (0, .ref b)]) hx hb dL_law_19 rfl hl (by decide) rfl (fun ls hl => ?_)
  refine lv_iconst (v := 0) hx hb dL_law_20 (by decide) ?_
  refine lv_istore (lv' := [(4, .int 0), (3, .ref qo), (2, .ref mq), (1, .ref q), (0, .ref b)]) hx hb dL_law_21 hl (by decide) rfl (fun ls hl => ?_)
  have hI : LI D cI cZ cJ (fun q : Nat => s.heap.size ≤ q) s (fun k => [q, n1, n2, n3, n4, n5, n6, n7, n8, n9, n10, n11, n12, n13, n14, n15, n16, n17, n18, n19, n20, n21, n22, n23, n24, n25, n26, n27, n28, n29, n30, n31, mq, k1, k2, k3, k4, k5, k6, k7, k8, k9, k10, qo].getD k 0) H locs := ⟨w0, w0, w0, w0, (fun _ => 0), (fun _ => 0), w0, w0, w0, w0, (fun _ => 0), (fun _ => 0), 0, 0, 0, 0, 0, 0, 0, (-1), 0, 0, (-9), (-9), (fun _ => 0), (fun _ => 0), (fun _ => 0), (fun _ => 0), (fun _ => 0), (fun _ => 0), (fun _ => 0), (fun _ => 0), (fun _ => 0), (fun _ => 0), 0, 0, 0, 0, 0, (fun _ => 0), hW, start_iN hwE, iP_0 iz_0 (by omega) (by omega), start_iT, start_iS _ _ _ _⟩
  refine lw_loop (a := fun k => [q, n1, n2, n3, n4, n5, n6, n7, n8, n9, n10, n11, n12, n13, n14, n15, n16, n17, n18, n19, n20, n21, n22, n23, n24, n25, n26, n27, n28, n29, n30, n31, mq, k1, k2, k3, k4, k5, k6, k7, k8, k9, k10, qo].getD k 0) hlt C hE hX hbl hbA hL (fun H1 locs1 ls1 cells1 slots1 hc1 hc2 hS => ?_) 513 0 H locs ls _ _ (by omega) (by omega) (by omega) (Nat.le_of_ble_eq_true rfl) (Nat.le_of_ble_eq_true rfl) hI (lv_sub hl [4, 3, 2, 1, 0] rfl)
  refine lv_iconst (v := 1) hx hb dL_law_2540 (by decide) ?_
  refine va_forget (fun q hq => hS.2.2 q hq) ?_
  refine W.widen (k := 1078) (n := 11685) hc1 hc2 ?_
  exact lw_ret hx hb hret hlocks dL_law_2541
