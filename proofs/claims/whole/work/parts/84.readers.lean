theorem cc_cell {nf ns now : Nat → Int32} (h : iN nf ns now) (rf p0 p1 p2 : Int32) :
    (∃ r, pX9_cell nf ns p0 p1 p2 = some (.inr r) ∧ pX10_cell rf now p0 p1 p2 = some (r, 0)) ∨ (pX9_cell nf ns p0 p1 p2 = some (.inl 3) ∧ pX10_cell rf now p0 p1 p2 = some (0, 1)) := by
  obtain ⟨t, ht, rfl⟩ := arg_iz p0
  obtain ⟨i, hi, rfl⟩ := arg_iz p1
  obtain ⟨j, hj, rfl⟩ := arg_iz p2
  obtain ⟨T, U, hN⟩ := h
  by_cases c : (t = 0 ∧ T i j ≠ -1) ∨ (t = 1 ∧ U i j ≠ -1)
  · obtain ⟨a1, a2, a3, a4, a5, a6⟩ := id hN
    refine Or.inl ?_
    rcases c with ⟨rfl, hc⟩ | ⟨rfl, hc⟩
    · have hb := a1.1 i j hc
      refine ⟨iz (T i j), ?_, ?_⟩
      · unfold pX9_cell
        rw [tw_0 hN hi hj hc, bdE_r, cond_true, pX7_at_gen a1.b a3 hi hj, bd1_some]
      · unfold pX10_cell
        rw [hv_yes a1 a5 (by omega) (by omega) hc, bd1_some, rf_0, pX10_get_iz a5 (by omega) (by omega) hc (by omega) (by omega) (by omega) (by omega), bd1_some]
    · have hb := a2.1 i j hc
      refine ⟨iz (U i j), ?_, ?_⟩
      · unfold pX9_cell
        rw [tw_1 hN hi hj hc, bdE_r, cond_false, pX7_at_gen a2.b a4 hi hj, bd1_some]
      · unfold pX10_cell
        rw [hv_yes a2 a6 (by omega) (by omega) hc, bd1_some, rf_0, pX10_get_iz a6 (by omega) (by omega) hc (by omega) (by omega) (by omega) (by omega), bd1_some]
  · refine Or.inr ⟨?_, ?_⟩
    · unfold pX9_cell
      rw [tw_no hN ht hi hj c, bdE_l]
    · unfold pX10_cell
      rw [hv_no hN ht hi hj c, bd1_some, rf_1]

theorem cc_rank {nf ns now : Nat → Int32} (h : iN nf ns now) (rf p0 p1 p2 : Int32) :
    (∃ r, pX9_rank nf ns p0 p1 p2 = some (.inr r) ∧ pX10_rank rf now p0 p1 p2 = some (r, 0)) ∨ (pX9_rank nf ns p0 p1 p2 = some (.inl 3) ∧ pX10_rank rf now p0 p1 p2 = some (0, 1)) := by
  obtain ⟨t, ht, rfl⟩ := arg_iz p0
  obtain ⟨i, hi, rfl⟩ := arg_iz p1
  obtain ⟨j, hj, rfl⟩ := arg_iz p2
  obtain ⟨T, U, hN⟩ := h
  by_cases c : (t = 0 ∧ T i j ≠ -1) ∨ (t = 1 ∧ U i j ≠ -1)
  · obtain ⟨a1, a2, a3, a4, a5, a6⟩ := id hN
    refine Or.inl ?_
    rcases c with ⟨rfl, hc⟩ | ⟨rfl, hc⟩
    · have hb := a1.1 i j hc
      refine ⟨iz (rk T i j), ?_, ?_⟩
      · unfold pX9_rank
        rw [tw_0 hN hi hj hc, bdE_r, cond_true, pX7_cellsBefore_iz a1 a3 hc, bd1_some]
      · unfold pX10_rank
        rw [hv_yes a1 a5 (by omega) (by omega) hc, bd1_some, rf_0, pX10_rankOf_iz a1.s a5 (by omega) (by omega) hc, bd1_some]
    · have hb := a2.1 i j hc
      refine ⟨iz (rk U i j), ?_, ?_⟩
      · unfold pX9_rank
        rw [tw_1 hN hi hj hc, bdE_r, cond_false, pX7_cellsBefore_iz a2 a4 hc, bd1_some]
      · unfold pX10_rank
        rw [hv_yes a2 a6 (by omega) (by omega) hc, bd1_some, rf_0, pX10_rankOf_iz a2.s a6 (by omega) (by omega) hc, bd1_some]
  · refine Or.inr ⟨?_, ?_⟩
    · unfold pX9_rank
      rw [tw_no hN ht hi hj c, bdE_l]
    · unfold pX10_rank
      rw [hv_no hN ht hi hj c, bd1_some, rf_1]

theorem cc_hook {nf ns now : Nat → Int32} (h : iN nf ns now) (rf p0 p1 p2 : Int32) :
    (∃ r, pX9_hook nf ns p0 p1 p2 = some (.inr r) ∧ pX10_hook rf now p0 p1 p2 = some (r, 0)) ∨ (pX9_hook nf ns p0 p1 p2 = some (.inl 3) ∧ pX10_hook rf now p0 p1 p2 = some (0, 1)) := by
  obtain ⟨t, ht, rfl⟩ := arg_iz p0
  obtain ⟨i, hi, rfl⟩ := arg_iz p1
  obtain ⟨j, hj, rfl⟩ := arg_iz p2
  obtain ⟨T, U, hN⟩ := h
  by_cases c : (t = 0 ∧ T i j ≠ -1) ∨ (t = 1 ∧ U i j ≠ -1)
  · obtain ⟨a1, a2, a3, a4, a5, a6⟩ := id hN
    refine Or.inl ?_
    rcases c with ⟨rfl, hc⟩ | ⟨rfl, hc⟩
    · have hb := a1.1 i j hc
      refine ⟨iz (len T i - j + tall T j - i - 1), ?_, ?_⟩
      · unfold pX9_hook
        rw [tw_0 hN hi hj hc, bdE_r, cond_true, pX7_hookOf_iz a1.b a3 (by omega) (by omega) (by omega) (by omega), bd1_some]
      · unfold pX10_hook
        rw [hv_yes a1 a5 (by omega) (by omega) hc, bd1_some, rf_0, pX10_hookOf_iz a1.s a5 (by omega) (by omega) (by omega) (by omega) (by omega) (by omega), bd1_some]
    · have hb := a2.1 i j hc
      refine ⟨iz (len U i - j + tall U j - i - 1), ?_, ?_⟩
      · unfold pX9_hook
        rw [tw_1 hN hi hj hc, bdE_r, cond_false, pX7_hookOf_iz a2.b a4 (by omega) (by omega) (by omega) (by omega), bd1_some]
      · unfold pX10_hook
        rw [hv_yes a2 a6 (by omega) (by omega) hc, bd1_some, rf_0, pX10_hookOf_iz a2.s a6 (by omega) (by omega) (by omega) (by omega) (by omega) (by omega), bd1_some]
  · refine Or.inr ⟨?_, ?_⟩
    · unfold pX9_hook
      rw [tw_no hN ht hi hj c, bdE_l]
    · unfold pX10_hook
      rw [hv_no hN ht hi hj c, bd1_some, rf_1]

theorem cc_size {nf ns now : Nat → Int32} (h : iN nf ns now) (rf p0 p1 p2 : Int32) :
    (∃ r, pX9_size nf ns p0 p1 p2 = some (.inr r) ∧ pX10_size rf now p0 p1 p2 = some (r, 0)) ∨ (pX9_size nf ns p0 p1 p2 = some (.inl 3) ∧ pX10_size rf now p0 p1 p2 = some (0, 1)) ∨ (pX9_size nf ns p0 p1 p2 = some (.inl 1) ∧ pX10_size rf now p0 p1 p2 = some (0, 2)) := by
  obtain ⟨t, ht, rfl⟩ := arg_iz p0
  obtain ⟨k, hk, rfl⟩ := arg_iz p1
  obtain ⟨z, hz, rfl⟩ := arg_iz p2
  by_cases c : 0 ≤ t ∧ t ≤ 1
  · obtain ⟨V, hK, hX, hM⟩ := h.pick c.1 c.2
    have e : pX9_size nf ns (iz t) (iz k) (iz z) = bdE (pX9_requireRange (iz k) 0 5) (fun k => some (.inl k)) (fun _ => if iz z = 0 then bd1 (pX7_rowLength (fs t nf ns) (iz k)) (fun r => some (.inr r)) else bd1 (pX7_columnLength (fs t nf ns) (iz k)) (fun r => some (.inr r))) := by
      unfold pX9_size
      rcases t01 c with rfl | rfl
      · rw [ex_0]; rfl
      · rw [ex_1]; rfl
    rw [e]
    rw [iz_0, iz_5]
    by_cases c1 : 0 ≤ k ∧ k ≤ 5
    · refine Or.inl ?_
      rw [rr_yes hk ⟨by omega, by omega⟩ ⟨by omega, by omega⟩ c1, bdE_r, ifz_eq hz.1 hz.2 (by omega) (by omega)]
      unfold pX10_size
      rw [rt_yes c (in_yes (x := 0) (y := 5) hk ⟨by omega, by omega⟩ ⟨by omega, by omega⟩ (by decide) (by decide) c1 _ _), rf_0, iz_0, ifz_eq hz.1 hz.2 (by omega) (by omega)]
      by_cases c2 : z = 0
      · rw [if_pos c2, if_pos c2]
        exact ⟨iz (len V k), by rw [pX7_rowLength_iz hK.b hX (by omega) (by omega), bd1_some], by rw [pX10_length_iz hK.b hM c.1 c.2 (by omega) (by omega), bd1_some]⟩
      · rw [if_neg c2, if_neg c2]
        exact ⟨iz (tall V k), by rw [pX7_columnLength_iz hK.b hX (by omega) (by omega), bd1_some], by rw [pX10_tall_iz hK.s hM c.1 c.2 (by omega) (by omega), bd1_some]⟩
    · refine Or.inr (Or.inr ⟨?_, ?_⟩)
      · rw [rr_no hk ⟨by omega, by omega⟩ ⟨by omega, by omega⟩ (by omega), bdE_l]
      · unfold pX10_size
        rw [rt_yes c (in_no (x := 0) (y := 5) hk ⟨by omega, by omega⟩ ⟨by omega, by omega⟩ (by decide) (by decide) c1 _ _), rf_2]
        rfl
  · refine Or.inr (Or.inl ⟨?_, ?_⟩)
    · unfold pX9_size
      rw [ex_no ht c, bdE_l]
    · unfold pX10_size
      rw [rt_no ht c, rf_1]

theorem cc_walk {nf ns now : Nat → Int32} (h : iN nf ns now) (rf p0 p1 p2 : Int32) :
    (∃ r, pX9_walk nf ns p0 p1 p2 = some (.inr r) ∧ pX10_walk rf now p0 p1 p2 = some (r, 0)) ∨ (pX9_walk nf ns p0 p1 p2 = some (.inl 3) ∧ pX10_walk rf now p0 p1 p2 = some (0, 1)) ∨ (pX9_walk nf ns p0 p1 p2 = some (.inl 1) ∧ pX10_walk rf now p0 p1 p2 = some (0, 2)) := by
  obtain ⟨t, ht, rfl⟩ := arg_iz p0
  obtain ⟨v, hv, rfl⟩ := arg_iz p1
  obtain ⟨w, hw, rfl⟩ := arg_iz p2
  by_cases c : 0 ≤ t ∧ t ≤ 1
  · obtain ⟨V, hK, hX, hM⟩ := h.pick c.1 c.2
    have e : pX9_walk nf ns (iz t) (iz v) (iz w) = bdE (pX9_requireRange (iz v) 0 99) (fun k => some (.inl k)) (fun _ => bdE (pX9_requireRange (iz w) 0 2) (fun k => some (.inl k)) (fun _ => bd1 (pX7_tellWalk (fs t nf ns) (iz v) (iz w)) (fun r => some (.inr r)))) := by
      unfold pX9_walk
      rcases t01 c with rfl | rfl
      · rw [ex_0]; rfl
      · rw [ex_1]; rfl
    rw [e]
    rw [iz_0, iz_99, iz_2]
    by_cases c1 : 0 ≤ v ∧ v ≤ 99
    · rw [rr_yes hv ⟨by omega, by omega⟩ ⟨by omega, by omega⟩ c1, bdE_r]
      by_cases c2 : 0 ≤ w ∧ w ≤ 2
      · rw [rr_yes hw ⟨by omega, by omega⟩ ⟨by omega, by omega⟩ c2, bdE_r]
        have hl := len_b V 0
        obtain ⟨r, q1, q2⟩ := walk_both hK.s hX hM c.1 c.2 c1.1 (by omega) 14 lpF (iz (-9)) (iz (-9)) 0 (len V 0 - 1) 0 (by omega) (by omega) (by omega) (by omega) (fun q => (len_spec hK.s 0 (len V 0 - 1) (by omega)).2 (by omega)) (by omega) (by omega) (by omega) (by unfold lpF; omega)
        obtain ⟨r1, r2, r3⟩ := r
        refine Or.inl ⟨if w = 0 then r3 else if w = 1 then r2 else r1, ?_, ?_⟩
        · unfold pX7_tellWalk
          simp only [iz_0, iz_9, iz_neg, iz_1]
          rw [pX7_rowLength_iz hK.b hX (by omega) (by omega), bd1_some, iz_sub, q1, bd1_some, un3_mk, ifz_eq hw.1 hw.2 (by omega) (by omega), ifz_eq hw.1 hw.2 (by omega) (by omega)]
          by_cases d1 : w = 0
          · rw [if_pos d1, if_pos d1, bd1_some]
          · rw [if_neg d1, if_neg d1]
            by_cases d2 : w = 1
            · rw [if_pos d2, if_pos d2, bd1_some]
            · rw [if_neg d2, if_neg d2, bd1_some]
        · unfold pX10_walk
          rw [rt_yes c (by rw [num_yes c1, in_yes (x := 0) (y := 2) hw ⟨by omega, by omega⟩ ⟨by omega, by omega⟩ (by decide) (by decide) c2]), rf_0]
          simp only [iz_0, iz_9, iz_neg, iz_1]
          rw [pX10_length_iz hK.b hM c.1 c.2 (by omega) (by omega), bd1_some, iz_sub, q2, bd1_some, un3_mk, ifz_eq hw.1 hw.2 (by omega) (by omega), ifz_eq hw.1 hw.2 (by omega) (by omega)]
          by_cases d1 : w = 0
          · rw [if_pos d1, if_pos d1]
          · rw [if_neg d1, if_neg d1]
            by_cases d2 : w = 1
            · rw [if_pos d2, if_pos d2]
            · rw [if_neg d2, if_neg d2]
      · refine Or.inr (Or.inr ⟨?_, ?_⟩)
        · rw [rr_no hw ⟨by omega, by omega⟩ ⟨by omega, by omega⟩ (by omega), bdE_l]
        · unfold pX10_walk
          rw [rt_yes c (by rw [num_yes c1, in_no (x := 0) (y := 2) hw ⟨by omega, by omega⟩ ⟨by omega, by omega⟩ (by decide) (by decide) c2]), rf_2]
          rfl
    · refine Or.inr (Or.inr ⟨?_, ?_⟩)
      · rw [rr_no hv ⟨by omega, by omega⟩ ⟨by omega, by omega⟩ (by omega), bdE_l]
      · unfold pX10_walk
        rw [rt_yes c (num_no hv c1 _ _), rf_2]
        rfl
  · refine Or.inr (Or.inl ⟨?_, ?_⟩)
    · unfold pX9_walk
      rw [ex_no ht c, bdE_l]
    · unfold pX10_walk
      rw [rt_no ht c, rf_1]

theorem cc_kth {nf ns now : Nat → Int32} (h : iN nf ns now) (rf p0 p1 p2 : Int32) :
    (∃ r, pX9_kth nf ns p0 p1 p2 = some (.inr r) ∧ pX10_kth rf now p0 p1 p2 = some (r, 0)) ∨ (pX9_kth nf ns p0 p1 p2 = some (.inl 3) ∧ pX10_kth rf now p0 p1 p2 = some (0, 1)) ∨ (pX9_kth nf ns p0 p1 p2 = some (.inl 1) ∧ pX10_kth rf now p0 p1 p2 = some (0, 2)) := by
  obtain ⟨t, ht, rfl⟩ := arg_iz p0
  obtain ⟨k, hk, rfl⟩ := arg_iz p1
  obtain ⟨z, hz, rfl⟩ := arg_iz p2
  by_cases c : 0 ≤ t ∧ t ≤ 1
  · obtain ⟨V, hK, hX, hM⟩ := h.pick c.1 c.2
    have e : pX9_kth nf ns (iz t) (iz k) (iz z) = bdE (pX9_requireNotNegative (iz k)) (fun k => some (.inl k)) (fun _ => if iz z = 0 then bd1 (pX7_kthNumber (fs t nf ns) (iz k)) (fun r => some (.inr r)) else bd1 (pX7_kthPlace (fs t nf ns) (iz k)) (fun r => some (.inr r))) := by
      unfold pX9_kth
      rcases t01 c with rfl | rfl
      · rw [ex_0]; rfl
      · rw [ex_1]; rfl
    rw [e]
    by_cases c1 : 0 ≤ k
    · refine Or.inl ?_
      rw [rN_yes hk c1, bdE_r]
      unfold pX10_kth
      rw [rt_yes c (nn_yes hk c1 _ _), rf_0]
      simp only [iz_0, iz_9, iz_neg, iz_10]
      rw [ifz_eq hz.1 hz.2 (by omega) (by omega)]
      obtain ⟨m, g1, g2⟩ := pX7_kthNumber_iz hK hX c1 hk.2
      by_cases c2 : cU V 99 ≤ k
      · obtain ⟨q1, q2⟩ := pX7_kthPlace_no hK hX c1 hk.2 c2
        rw [q1, q2, pX10_kthPlace_no hK.s hM c.1 c.2 hk c2 hK]
        simp only [bd1_some, if_true]
        refine ⟨iz (-9), ?_, rfl⟩
        by_cases d : z = 0
        · rw [if_pos d]
        · rw [if_neg d]
      · have hm : isMin (fun v => wc V 0 0 5 5 v) k m := by
          rcases g2 with ⟨-, q, -⟩ | ⟨q, -⟩
          · exact q
          · exact absurd q c2
        obtain ⟨i, j, hc, hr⟩ := rk_ex hK.b c1 hm
        have hb := hK.1 i j hc
        obtain ⟨q1, q2⟩ := pX7_kthPlace_yes hK hX c1 hk.2 hc hr
        have hne : ¬ iz (10 * i + j) = iz (-9) := by
          rw [iz_eq (by omega) (by omega) (by omega) (by omega)]
          omega
        rw [q1, q2, pX10_kthPlace_yes hK.s hM c.1 c.2 hk hc hr]
        simp only [bd1_some]
        rw [if_neg hne, iz_divn (by omega) (by omega) (by omega) (by omega), iz_rem (by omega) (by omega) (by omega) (by omega), show (10 * i + j) / 10 = i by omega, show (10 * i + j) % 10 = j by omega, pX10_get_iz hM c.1 c.2 hc (by omega) (by omega) (by omega) (by omega), bd1_some, ifz_eq hz.1 hz.2 (by omega) (by omega)]
        by_cases d : z = 0
        · rw [if_pos d, if_pos d]
          exact ⟨_, rfl, rfl⟩
        · rw [if_neg d, if_neg d]
          exact ⟨_, rfl, rfl⟩
    · refine Or.inr (Or.inr ⟨?_, ?_⟩)
      · rw [rN_no hk (by omega), bdE_l]
      · unfold pX10_kth
        rw [rt_yes c (nn_no hk (by omega) _ _), rf_2]
  · refine Or.inr (Or.inl ⟨?_, ?_⟩)
    · unfold pX9_kth
      rw [ex_no ht c, bdE_l]
    · unfold pX10_kth
      rw [rt_no ht c, rf_1]

theorem cc_corner {nf ns now : Nat → Int32} (h : iN nf ns now) (rf p0 p1 p2 : Int32) :
    (∃ r, pX9_corner nf ns p0 p1 p2 = some (.inr r) ∧ pX10_corner rf now p0 p1 p2 = some (r, 0)) ∨ (pX9_corner nf ns p0 p1 p2 = some (.inl 3) ∧ pX10_corner rf now p0 p1 p2 = some (0, 1)) ∨ (pX9_corner nf ns p0 p1 p2 = some (.inl 1) ∧ pX10_corner rf now p0 p1 p2 = some (0, 2)) := by
  obtain ⟨t, ht, rfl⟩ := arg_iz p0
  obtain ⟨k, hk, rfl⟩ := arg_iz p1
  obtain ⟨z, hz, rfl⟩ := arg_iz p2
  by_cases c : 0 ≤ t ∧ t ≤ 1
  · obtain ⟨V, hK, hX, hM⟩ := h.pick c.1 c.2
    have e : pX9_corner nf ns (iz t) (iz k) (iz z) = bdE (pX9_requireNotNegative (iz k)) (fun k => some (.inl k)) (fun _ => bd1 (pX7_kthEnd (fs t nf ns) (iz k) (iz z)) (fun r => some (.inr r))) := by
      unfold pX9_corner
      rcases t01 c with rfl | rfl
      · rw [ex_0]; rfl
      · rw [ex_1]; rfl
    rw [e]
    by_cases c1 : 0 ≤ k
    · refine Or.inl ?_
      rw [rN_yes hk c1, bdE_r]
      unfold pX10_corner
      rw [rt_yes c (nn_yes hk c1 _ _), rf_0, iz_0]
      by_cases c2 : ∃ i, 0 ≤ i ∧ i < 6 ∧ enF V z i = 1 ∧ sumI (enF V z) i.toNat = k
      · obtain ⟨i, d1, d2, d3, d4⟩ := c2
        rw [pX7_kthEnd_yes hK.b hX hz c1 hk.2 d1 d2 d3 d4, bd1_some, pX10_corner_yes hK.b hM c.1 c.2 hz c1 hk.2 d1 d2 d3 d4, bd1_some, el_inl, un2_mk]
        exact ⟨_, rfl, rfl⟩
      · have c3 : ∀ i, 0 ≤ i → i < 6 → enF V z i = 1 → sumI (enF V z) i.toNat ≠ k := fun i d1 d2 d3 d4 => c2 ⟨i, d1, d2, d3, d4⟩
        rw [pX7_kthEnd_no hK.b hX hz c1 hk.2 c3, bd1_some, pX10_corner_no hK.b hM c.1 c.2 hz c1 hk.2 c3, bd1_some, el_inr]
        unfold pX10_corner_R116
        simp only [iz_9, iz_neg]
        exact ⟨_, rfl, rfl⟩
    · refine Or.inr (Or.inr ⟨?_, ?_⟩)
      · rw [rN_no hk (by omega), bdE_l]
      · unfold pX10_corner
        rw [rt_yes c (nn_no hk (by omega) _ _), rf_2]
  · refine Or.inr (Or.inl ⟨?_, ?_⟩)
    · unfold pX9_corner
      rw [ex_no ht c, bdE_l]
    · unfold pX10_corner
      rw [rt_no ht c, rf_1]

theorem cc_about {nf ns now : Nat → Int32} (h : iN nf ns now) (rf p0 p1 : Int32) :
    (∃ r, pX9_about nf ns p0 p1 = some (.inr r) ∧ pX10_about rf now p0 p1 = some (r, 0)) ∨ (pX9_about nf ns p0 p1 = some (.inl 3) ∧ pX10_about rf now p0 p1 = some (0, 1)) ∨ (pX9_about nf ns p0 p1 = some (.inl 1) ∧ pX10_about rf now p0 p1 = some (0, 2)) := by
  obtain ⟨t, ht, rfl⟩ := arg_iz p0
  obtain ⟨w, hw, rfl⟩ := arg_iz p1
  by_cases c : 0 ≤ t ∧ t ≤ 1
  · obtain ⟨V, hK, hX, hM⟩ := h.pick c.1 c.2
    have e : pX9_about nf ns (iz t) (iz w) = bdE (pX9_requireRange (iz w) 0 7) (fun k => some (.inl k)) (fun _ =>
        if iz w = 0 then bd1 (pX7_columnLength (fs t nf ns) 0) (fun r => some (.inr r)) else
        if iz w = 1 then bd1 (pX7_rowLength (fs t nf ns) 0) (fun r => some (.inr r)) else
        if iz w = 2 then bd1 (pX7_cells (fs t nf ns)) (fun r => some (.inr r)) else
        if iz w = 3 then bd1 (pX7_has (fs t nf ns) 0 0) (fun v => if v = 0 then some (.inr (-9)) else bd1 (pX7_at (fs t nf ns) 0 0) (fun r => some (.inr r))) else
        if iz w = 4 then bd1 (pX7_greatest (fs t nf ns)) (fun r => some (.inr r)) else
        if iz w = 5 then bd1 (pX7_sum (fs t nf ns)) (fun r => some (.inr r)) else
        if iz w = 6 then bd1 (pX7_ends (fs t nf ns) 0) (fun r => some (.inr r)) else
        bd1 (pX7_ends (fs t nf ns) 1) (fun r => some (.inr r))) := by
      unfold pX9_about
      rcases t01 c with rfl | rfl
      · rw [ex_0]; rfl
      · rw [ex_1]; rfl
    rw [e]
    by_cases c1 : 0 ≤ w ∧ w ≤ 7
    · refine Or.inl ?_
      unfold pX10_about
      rw [rt_yes c (in_yes (x := 0) (y := 7) hw ⟨by omega, by omega⟩ ⟨by omega, by omega⟩ (by decide) (by decide) c1 _ _), rf_0]
      simp only [iz_0, iz_1, iz_2, iz_3, iz_4, iz_5, iz_6, iz_7, iz_9, iz_neg]
      rw [rr_yes hw ⟨by omega, by omega⟩ ⟨by omega, by omega⟩ c1, bdE_r, pX10_about_loop hK.b hM c.1 c.2, bd1_some, un2_mk]
      have hq : ∀ (α : Type) (x y : α) (b : Int), 0 ≤ b → b ≤ 7 → (if iz w = iz b then x else y) = if w = b then x else y := fun α x y b q1 q2 => ifz_eq (by omega) (by omega) (by omega) (by omega)
      rw [pX7_columnLength_iz hK.b hX (by omega) (by omega), pX7_rowLength_iz hK.b hX (by omega) (by omega), pX7_cells_iz hK.b hX, pX7_has_iz hK.b hX (by omega) (by omega) (by omega) (by omega), pX7_at_iz hK.b hX (by omega) (by omega) (by omega) (by omega), pX7_greatest_iz hK.b hX, pX7_sum_iz hK.b hX, pX7_ends_iz hK.b hX ⟨by omega, by omega⟩, pX7_ends_iz hK.b hX ⟨by omega, by omega⟩]
      rw [pX10_rows_iz hK.s hM c.1 c.2, pX10_length_iz hK.b hM c.1 c.2 (by omega) (by omega), pX10_many_iz hK.b hM c.1 c.2, pX10_sumOf_iz hK.s hM c.1 c.2]
      simp only [bd1_some]
      have e8 : w = 0 ∨ w = 1 ∨ w = 2 ∨ w = 3 ∨ w = 4 ∨ w = 5 ∨ w = 6 ∨ w = 7 := by omega
      simp (disch := omega) only [hq]
      rcases e8 with d | d | d | d | d | d | d | d
      · simp only [if_pos d]
        exact ⟨_, rfl, rfl⟩
      · simp only [if_neg (show ¬ w = 0 by omega), if_pos d]
        exact ⟨_, rfl, rfl⟩
      · simp only [if_neg (show ¬ w = 0 by omega), if_neg (show ¬ w = 1 by omega), if_pos d]
        exact ⟨_, rfl, rfl⟩
      · have hl := hK.b.lo 0 0
        simp only [if_neg (show ¬ w = 0 by omega), if_neg (show ¬ w = 1 by omega), if_neg (show ¬ w = 2 by omega), if_pos d, if_neg (show ¬ w = 4 by omega)]
        refine ⟨iz (if V 0 0 = -1 then -9 else V 0 0), ?_, ?_⟩
        · by_cases d2 : V 0 0 = -1
          · rw [if_pos d2, if_pos rfl, if_pos d2]
          · rw [if_neg d2, if_neg iz1_ne, if_neg d2]
        · rw [bd1_some, pX10_extreme_0 hK hM c.1 c.2, bd1_some]
      · simp only [if_neg (show ¬ w = 0 by omega), if_neg (show ¬ w = 1 by omega), if_neg (show ¬ w = 2 by omega), if_neg (show ¬ w = 3 by omega), if_pos d]
        refine ⟨iz (mx V 36), rfl, ?_⟩
        rw [bd1_some, pX10_extreme_1 hK.s hM c.1 c.2, bd1_some]
      · simp only [if_neg (show ¬ w = 0 by omega), if_neg (show ¬ w = 1 by omega), if_neg (show ¬ w = 2 by omega), if_neg (show ¬ w = 3 by omega), if_neg (show ¬ w = 4 by omega), if_pos d]
        exact ⟨_, rfl, rfl⟩
      · simp only [if_neg (show ¬ w = 0 by omega), if_neg (show ¬ w = 1 by omega), if_neg (show ¬ w = 2 by omega), if_neg (show ¬ w = 3 by omega), if_neg (show ¬ w = 4 by omega), if_neg (show ¬ w = 5 by omega), if_pos d]
        exact ⟨_, rfl, rfl⟩
      · simp only [if_neg (show ¬ w = 0 by omega), if_neg (show ¬ w = 1 by omega), if_neg (show ¬ w = 2 by omega), if_neg (show ¬ w = 3 by omega), if_neg (show ¬ w = 4 by omega), if_neg (show ¬ w = 5 by omega), if_neg (show ¬ w = 6 by omega)]
        exact ⟨_, rfl, rfl⟩
    · refine Or.inr (Or.inr ⟨?_, ?_⟩)
      · rw [iz_0, iz_7, rr_no hw ⟨by omega, by omega⟩ ⟨by omega, by omega⟩ (by omega), bdE_l]
      · unfold pX10_about
        rw [rt_yes c (in_no (x := 0) (y := 7) hw ⟨by omega, by omega⟩ ⟨by omega, by omega⟩ (by decide) (by decide) c1 _ _), rf_2]
  · refine Or.inr (Or.inl ⟨?_, ?_⟩)
    · unfold pX9_about
      rw [ex_no ht c, bdE_l]
    · unfold pX10_about
      rw [rt_no ht c, rf_1]

theorem rw_yes {i j a w : Int} (hi : sm32 i) (hj : sm32 j) (ha : sm32 a) (hw : sm32 w) (h : (0 ≤ i ∧ i ≤ 5) ∧ (0 ≤ j ∧ j ≤ 5) ∧ (1 ≤ a ∧ a ≤ 6) ∧ (1 ≤ w ∧ w ≤ 6)) : pX9_requireWindow (iz i) (iz j) (iz a) (iz w) = some (.inr ()) := by
  unfold pX9_requireWindow
  simp only [iz_0, iz_1, iz_5, iz_6]
  rw [rr_yes hi ⟨by omega, by omega⟩ ⟨by omega, by omega⟩ h.1, bdE_r, rr_yes hj ⟨by omega, by omega⟩ ⟨by omega, by omega⟩ h.2.1, bdE_r, rr_yes ha ⟨by omega, by omega⟩ ⟨by omega, by omega⟩ h.2.2.1, bdE_r, rr_yes hw ⟨by omega, by omega⟩ ⟨by omega, by omega⟩ h.2.2.2, bdE_r]
theorem rw_no {i j a w : Int} (hi : sm32 i) (hj : sm32 j) (ha : sm32 a) (hw : sm32 w) (h : ¬ ((0 ≤ i ∧ i ≤ 5) ∧ (0 ≤ j ∧ j ≤ 5) ∧ (1 ≤ a ∧ a ≤ 6) ∧ (1 ≤ w ∧ w ≤ 6))) : pX9_requireWindow (iz i) (iz j) (iz a) (iz w) = some (.inl 1) := by
  unfold pX9_requireWindow
  simp only [iz_0, iz_1, iz_5, iz_6]
  by_cases c1 : 0 ≤ i ∧ i ≤ 5
  · rw [rr_yes hi ⟨by omega, by omega⟩ ⟨by omega, by omega⟩ c1, bdE_r]
    by_cases c2 : 0 ≤ j ∧ j ≤ 5
    · rw [rr_yes hj ⟨by omega, by omega⟩ ⟨by omega, by omega⟩ c2, bdE_r]
      by_cases c3 : 1 ≤ a ∧ a ≤ 6
      · rw [rr_yes ha ⟨by omega, by omega⟩ ⟨by omega, by omega⟩ c3, bdE_r, rr_no hw ⟨by omega, by omega⟩ ⟨by omega, by omega⟩ (by omega), bdE_l]
      · rw [rr_no ha ⟨by omega, by omega⟩ ⟨by omega, by omega⟩ (by omega), bdE_l]
    · rw [rr_no hj ⟨by omega, by omega⟩ ⟨by omega, by omega⟩ (by omega), bdE_l]
  · rw [rr_no hi ⟨by omega, by omega⟩ ⟨by omega, by omega⟩ (by omega), bdE_l]
theorem wi_yes {σ : Type} {i j a w : Int} (hi : sm32 i) (hj : sm32 j) (ha : sm32 a) (hw : sm32 w) (h : (0 ≤ i ∧ i ≤ 5) ∧ (0 ≤ j ∧ j ≤ 5) ∧ (1 ≤ a ∧ a ≤ 6) ∧ (1 ≤ w ∧ w ≤ 6)) (x y : Option σ) : bd1 (pX10_isWindow (iz i) (iz j) (iz a) (iz w)) (fun v6 => if v6 = 0 then x else y) = y := by
  have e : pX10_isWindow (iz i) (iz j) (iz a) (iz w) = some 1 := by
    unfold pX10_isWindow
    rw [in_yes (x := 0) (y := 5) hi ⟨by omega, by omega⟩ ⟨by omega, by omega⟩ (by decide) (by decide) h.1, in_yes (x := 0) (y := 5) hj ⟨by omega, by omega⟩ ⟨by omega, by omega⟩ (by decide) (by decide) h.2.1, in_yes (x := 1) (y := 6) ha ⟨by omega, by omega⟩ ⟨by omega, by omega⟩ (by decide) (by decide) h.2.2.1, in_yes (x := 1) (y := 6) hw ⟨by omega, by omega⟩ ⟨by omega, by omega⟩ (by decide) (by decide) h.2.2.2]
  rw [e, bd1_some, if_neg (by decide)]
theorem wi_no {σ : Type} {i j a w : Int} (hi : sm32 i) (hj : sm32 j) (ha : sm32 a) (hw : sm32 w) (h : ¬ ((0 ≤ i ∧ i ≤ 5) ∧ (0 ≤ j ∧ j ≤ 5) ∧ (1 ≤ a ∧ a ≤ 6) ∧ (1 ≤ w ∧ w ≤ 6))) (x y : Option σ) : bd1 (pX10_isWindow (iz i) (iz j) (iz a) (iz w)) (fun v6 => if v6 = 0 then x else y) = x := by
  have e : pX10_isWindow (iz i) (iz j) (iz a) (iz w) = some 0 := by
    unfold pX10_isWindow
    by_cases c1 : 0 ≤ i ∧ i ≤ 5
    · rw [in_yes (x := 0) (y := 5) hi ⟨by omega, by omega⟩ ⟨by omega, by omega⟩ (by decide) (by decide) c1]
      by_cases c2 : 0 ≤ j ∧ j ≤ 5
      · rw [in_yes (x := 0) (y := 5) hj ⟨by omega, by omega⟩ ⟨by omega, by omega⟩ (by decide) (by decide) c2]
        by_cases c3 : 1 ≤ a ∧ a ≤ 6
        · rw [in_yes (x := 1) (y := 6) ha ⟨by omega, by omega⟩ ⟨by omega, by omega⟩ (by decide) (by decide) c3, in_no (x := 1) (y := 6) hw ⟨by omega, by omega⟩ ⟨by omega, by omega⟩ (by decide) (by decide) (by omega)]
        · rw [in_no (x := 1) (y := 6) ha ⟨by omega, by omega⟩ ⟨by omega, by omega⟩ (by decide) (by decide) c3]
      · rw [in_no (x := 0) (y := 5) hj ⟨by omega, by omega⟩ ⟨by omega, by omega⟩ (by decide) (by decide) c2]
    · rw [in_no (x := 0) (y := 5) hi ⟨by omega, by omega⟩ ⟨by omega, by omega⟩ (by decide) (by decide) c1]
  rw [e, bd1_some, if_pos rfl]
theorem lo_iz {i a : Int} (h1 : 0 ≤ i) (h2 : i ≤ 5) (h3 : 1 ≤ a) (h4 : a ≤ 6) : ∃ b, pX9_lastOf (iz i) (iz a) = some (iz b) ∧ (b = i + a - 1 ∧ b ≤ 5 ∨ b = 5 ∧ 5 ≤ i + a - 1) := by
  unfold pX9_lastOf
  simp only [iz_1, iz_5, iz_add, iz_sub]
  rw [ifz_lt (by omega) (by omega) (by omega) (by omega)]
  by_cases c : 5 < i + a - 1
  · rw [if_pos c]
    exact ⟨5, rfl, by omega⟩
  · rw [if_neg c]
    exact ⟨i + a - 1, rfl, by omega⟩

theorem cc_windowCount {nf ns now : Nat → Int32} (h : iN nf ns now) (rf p0 p1 p2 p3 p4 p5 : Int32) :
    (∃ r, pX9_windowCount nf ns p0 p1 p2 p3 p4 p5 = some (.inr r) ∧ pX10_windowCount rf now p0 p1 p2 p3 p4 p5 = some (r, 0)) ∨ (pX9_windowCount nf ns p0 p1 p2 p3 p4 p5 = some (.inl 3) ∧ pX10_windowCount rf now p0 p1 p2 p3 p4 p5 = some (0, 1)) ∨ (pX9_windowCount nf ns p0 p1 p2 p3 p4 p5 = some (.inl 1) ∧ pX10_windowCount rf now p0 p1 p2 p3 p4 p5 = some (0, 2)) := by
  obtain ⟨t, ht, rfl⟩ := arg_iz p0
  obtain ⟨i, hi, rfl⟩ := arg_iz p1
  obtain ⟨j, hj, rfl⟩ := arg_iz p2
  obtain ⟨a, ha, rfl⟩ := arg_iz p3
  obtain ⟨w, hw, rfl⟩ := arg_iz p4
  obtain ⟨v, hv, rfl⟩ := arg_iz p5
  by_cases c : 0 ≤ t ∧ t ≤ 1
  · obtain ⟨V, hK, hX, hM⟩ := h.pick c.1 c.2
    have e : pX9_windowCount nf ns (iz t) (iz i) (iz j) (iz a) (iz w) (iz v) = bdE (pX9_requireWindow (iz i) (iz j) (iz a) (iz w)) (fun k => some (.inl k)) (fun _ => bdE (pX9_requireRange (iz v) 0 99) (fun k => some (.inl k)) (fun _ => bd1 (pX9_lastOf (iz i) (iz a)) (fun v8 => bd1 (pX9_lastOf (iz j) (iz w)) (fun v10 => bd1 (pX7_countWithin (fs t nf ns) (iz i) (iz j) v8 v10 (iz v)) (fun r => some (.inr r)))))) := by
      unfold pX9_windowCount
      rcases t01 c with rfl | rfl
      · rw [ex_0]; rfl
      · rw [ex_1]; rfl
    rw [e]
    by_cases c1 : (0 ≤ i ∧ i ≤ 5) ∧ (0 ≤ j ∧ j ≤ 5) ∧ (1 ≤ a ∧ a ≤ 6) ∧ (1 ≤ w ∧ w ≤ 6)
    · rw [rw_yes hi hj ha hw c1, bdE_r, iz_0, iz_99]
      by_cases c2 : 0 ≤ v ∧ v ≤ 99
      · rw [rr_yes hv ⟨by omega, by omega⟩ ⟨by omega, by omega⟩ c2, bdE_r]
        obtain ⟨b, g1, g2⟩ := lo_iz (i := i) (a := a) (by omega) (by omega) (by omega) (by omega)
        obtain ⟨r, g3, g4⟩ := lo_iz (i := j) (a := w) (by omega) (by omega) (by omega) (by omega)
        refine Or.inl ⟨iz (wc V i j b r v), ?_, ?_⟩
        · rw [g1, bd1_some, g3, bd1_some, pX7_countWithin_iz hK hX (by omega) (by omega) (by omega) (by omega) (by omega) (by omega) (by omega) (by omega), bd1_some]
        · unfold pX10_windowCount
          rw [rt_yes c (by rw [wi_yes hi hj ha hw c1, num_yes c2]), rf_0, pX10_countIn_iz hK.s hM c.1 c.2 (by omega) (by omega) (by omega) (by omega) (by omega) (by omega) (by omega) (by omega) g2 g4 (by omega) (by omega), bd1_some]
          rfl
      · refine Or.inr (Or.inr ⟨?_, ?_⟩)
        · rw [rr_no hv ⟨by omega, by omega⟩ ⟨by omega, by omega⟩ (by omega), bdE_l]
        · unfold pX10_windowCount
          rw [rt_yes c (by rw [wi_yes hi hj ha hw c1, num_no hv c2]), rf_2]
          rfl
    · refine Or.inr (Or.inr ⟨?_, ?_⟩)
      · rw [rw_no hi hj ha hw c1, bdE_l]
      · unfold pX10_windowCount
        rw [rt_yes c (wi_no hi hj ha hw c1 _ _), rf_2]
  · refine Or.inr (Or.inl ⟨?_, ?_⟩)
    · unfold pX9_windowCount
      rw [ex_no ht c, bdE_l]
    · unfold pX10_windowCount
      rw [rt_no ht c, rf_1]

theorem cc_windowKth {nf ns now : Nat → Int32} (h : iN nf ns now) (rf p0 p1 p2 p3 p4 p5 : Int32) :
    (∃ r, pX9_windowKth nf ns p0 p1 p2 p3 p4 p5 = some (.inr r) ∧ pX10_windowKth rf now p0 p1 p2 p3 p4 p5 = some (r, 0)) ∨ (pX9_windowKth nf ns p0 p1 p2 p3 p4 p5 = some (.inl 3) ∧ pX10_windowKth rf now p0 p1 p2 p3 p4 p5 = some (0, 1)) ∨ (pX9_windowKth nf ns p0 p1 p2 p3 p4 p5 = some (.inl 1) ∧ pX10_windowKth rf now p0 p1 p2 p3 p4 p5 = some (0, 2)) := by
  obtain ⟨t, ht, rfl⟩ := arg_iz p0
  obtain ⟨i, hi, rfl⟩ := arg_iz p1
  obtain ⟨j, hj, rfl⟩ := arg_iz p2
  obtain ⟨a, ha, rfl⟩ := arg_iz p3
  obtain ⟨w, hw, rfl⟩ := arg_iz p4
  obtain ⟨k, hk, rfl⟩ := arg_iz p5
  by_cases c : 0 ≤ t ∧ t ≤ 1
  · obtain ⟨V, hK, hX, hM⟩ := h.pick c.1 c.2
    have e : pX9_windowKth nf ns (iz t) (iz i) (iz j) (iz a) (iz w) (iz k) = bdE (pX9_requireWindow (iz i) (iz j) (iz a) (iz w)) (fun k => some (.inl k)) (fun _ => bdE (pX9_requireNotNegative (iz k)) (fun k => some (.inl k)) (fun _ => bd1 (pX9_lastOf (iz i) (iz a)) (fun v8 => bd1 (pX9_lastOf (iz j) (iz w)) (fun v10 => bd1 (pX7_kthWithin (fs t nf ns) (iz i) (iz j) v8 v10 (iz k)) (fun r => some (.inr r)))))) := by
      unfold pX9_windowKth
      rcases t01 c with rfl | rfl
      · rw [ex_0]; rfl
      · rw [ex_1]; rfl
    rw [e]
    by_cases c1 : (0 ≤ i ∧ i ≤ 5) ∧ (0 ≤ j ∧ j ≤ 5) ∧ (1 ≤ a ∧ a ≤ 6) ∧ (1 ≤ w ∧ w ≤ 6)
    · rw [rw_yes hi hj ha hw c1, bdE_r]
      by_cases c2 : 0 ≤ k
      · rw [rN_yes hk c2, bdE_r]
        obtain ⟨b, g1, g2⟩ := lo_iz (i := i) (a := a) (by omega) (by omega) (by omega) (by omega)
        obtain ⟨r, g3, g4⟩ := lo_iz (i := j) (a := w) (by omega) (by omega) (by omega) (by omega)
        obtain ⟨m, g5, g6⟩ := pX7_kthWithin_iz hK hX (a := i) (l := j) (b := b) (r := r) (k := k) (by omega) (by omega) (by omega) (by omega) (by omega) (by omega) c2 hk.2
        refine Or.inl ⟨iz m, ?_, ?_⟩
        · rw [g1, bd1_some, g3, bd1_some, g5, bd1_some]
        · unfold pX10_windowKth
          rw [rt_yes c (by rw [wi_yes hi hj ha hw c1, nn_yes hk c2]), rf_0, iz_0]
          exact pX10_windowKth_loop hK.s hM c.1 c.2 (by omega) (by omega) (by omega) (by omega) (by omega) (by omega) (by omega) (by omega) g2 g4 c2 hk.2 _ g6
      · refine Or.inr (Or.inr ⟨?_, ?_⟩)
        · rw [rN_no hk (by omega), bdE_l]
        · unfold pX10_windowKth
          rw [rt_yes c (by rw [wi_yes hi hj ha hw c1, nn_no hk (by omega)]), rf_2]
    · refine Or.inr (Or.inr ⟨?_, ?_⟩)
      · rw [rw_no hi hj ha hw c1, bdE_l]
      · unfold pX10_windowKth
        rw [rt_yes c (wi_no hi hj ha hw c1 _ _), rf_2]
  · refine Or.inr (Or.inl ⟨?_, ?_⟩)
    · unfold pX9_windowKth
      rw [ex_no ht c, bdE_l]
    · unfold pX10_windowKth
      rw [rt_no ht c, rf_1]

theorem cc_kthOfBoth {nf ns now : Nat → Int32} (h : iN nf ns now) (rf p0 p1 : Int32) :
    (∃ r, pX9_kthOfBoth nf ns p0 p1 = some (.inr r) ∧ pX10_kthOfBoth rf now p0 p1 = some (r, 0)) ∨ (pX9_kthOfBoth nf ns p0 p1 = some (.inl 1) ∧ pX10_kthOfBoth rf now p0 p1 = some (0, 1)) := by
  obtain ⟨k, hk, rfl⟩ := arg_iz p0
  obtain ⟨z, hz, rfl⟩ := arg_iz p1
  obtain ⟨T, U, a1, a2, a3, a4, a5, a6⟩ := h
  by_cases c : 0 ≤ k
  · obtain ⟨m, g1, g2⟩ := pX2_kthNumberOfBoth_iz a1 a3 a2 a4 c hk.2
    have hm : -9 ≤ m ∧ m ≤ 99 ∧ (m = -9 ∨ 0 ≤ m) := by
      rcases g2 with ⟨-, q, q2⟩ | ⟨-, q⟩
      · have := q.1
        omega
      · omega
    refine Or.inl ⟨if m = -9 then iz (-9) else if z = 0 then iz m else if cU T m + cU U (m - 1) ≤ k then iz 1 else iz 0, ?_, ?_⟩
    · unfold pX9_kthOfBoth
      simp only [iz_0, iz_9, iz_neg]
      rw [rN_yes hk c, bdE_r, g1, bd1_some, ifz_eq hz.1 hz.2 (by omega) (by omega), ifz_eq (by omega) (by omega) (by omega) (by omega)]
      by_cases d1 : m = -9
      · rw [if_pos d1, if_pos d1, d1]
        by_cases d2 : z = 0
        · rw [if_pos d2]
        · rw [if_neg d2]
      · rw [if_neg d1, if_neg d1]
        by_cases d2 : z = 0
        · rw [if_pos d2, if_pos d2]
        · rw [if_neg d2, if_neg d2, pX2_tableOfKth_iz a1 a3 a2 a4 c hk.2 (by omega) (by omega), bd1_some]
    · unfold pX10_kthOfBoth
      rw [nn_yes hk c, bd1_some, rf_0, iz_0]
      exact pX10_kthOfBoth_loop a1.s a5 a2.s a6 c hk.2 hz _ g2
  · refine Or.inr ⟨?_, ?_⟩
    · unfold pX9_kthOfBoth
      rw [rN_no hk (by omega), bdE_l]
    · unfold pX10_kthOfBoth
      rw [nn_no hk (by omega), bd1_some, rf_1]
theorem cc_kthSum {nf ns now : Nat → Int32} (h : iN nf ns now) (rf p0 : Int32) :
    (∃ r, pX9_kthSum nf ns p0 = some (.inr r) ∧ pX10_kthSum rf now p0 = some (r, 0)) ∨ (pX9_kthSum nf ns p0 = some (.inl 1) ∧ pX10_kthSum rf now p0 = some (0, 1)) := by
  obtain ⟨k, hk, rfl⟩ := arg_iz p0
  obtain ⟨T, U, a1, a2, a3, a4, a5, a6⟩ := h
  by_cases c : 0 ≤ k
  · obtain ⟨m, g1, g2⟩ := pX2_kthSumOfPair_iz a1 a3 a2 a4 c hk.2
    refine Or.inl ⟨iz m, ?_, ?_⟩
    · unfold pX9_kthSum
      rw [rN_yes hk c, bdE_r, g1, bd1_some]
    · unfold pX10_kthSum
      rw [nn_yes hk c, bd1_some, rf_0, iz_0]
      exact pX10_kthSum_loop a1.s a5 a2.s a6 c hk.2 _ g2
  · refine Or.inr ⟨?_, ?_⟩
    · unfold pX9_kthSum
      rw [rN_no hk (by omega), bdE_l]
    · unfold pX10_kthSum
      rw [nn_no hk (by omega), bd1_some, rf_1]
theorem cc_pairs {nf ns now : Nat → Int32} (h : iN nf ns now) (rf p0 : Int32) :
    (∃ r, pX9_pairs nf ns p0 = some (.inr r) ∧ pX10_pairs rf now p0 = some (r, 0)) ∨ (pX9_pairs nf ns p0 = some (.inl 1) ∧ pX10_pairs rf now p0 = some (0, 1)) := by
  obtain ⟨s, hs, rfl⟩ := arg_iz p0
  obtain ⟨T, U, a1, a2, a3, a4, a5, a6⟩ := h
  have hin : ∀ (σ : Type) (a b : Option Int32) (K : Int32 → Option σ), (0 ≤ s ∧ s ≤ 198 → bd1 (pX10_in (iz s).toInt64 0 198) (fun v1 => bd1 (if v1 = 0 then a else b) K) = bd1 b K) ∧ (¬ (0 ≤ s ∧ s ≤ 198) → bd1 (pX10_in (iz s).toInt64 0 198) (fun v1 => bd1 (if v1 = 0 then a else b) K) = bd1 a K) := fun σ a b K => by
    rw [iz_lz hs.1 hs.2, lz_0, lz_198, pX10_in_lz (by omega) (by omega) (by omega) (by omega) (by omega) (by omega), bd1_some, iz_0]
    refine ⟨fun q => by rw [if_pos q, if_neg iz1_ne], fun q => by rw [if_neg q, if_pos rfl]⟩
  by_cases c : 0 ≤ s ∧ s ≤ 198
  · refine Or.inl ⟨iz (prs T U s), ?_, ?_⟩
    · unfold pX9_pairs
      rw [iz_0, iz_198, rr_yes hs ⟨by omega, by omega⟩ ⟨by omega, by omega⟩ c, bdE_r, pX2_pairsUpTo_iz a1 a3 a2 a4 (by omega) (by omega), bd1_some]
    · unfold pX10_pairs
      rw [(hin _ _ _ _).1 c, bd1_some, rf_0, pX10_pairsOf_iz a1.s a5 a2.s a6 (by omega) (by omega), bd1_some]
  · refine Or.inr ⟨?_, ?_⟩
    · unfold pX9_pairs
      rw [iz_0, iz_198, rr_no hs ⟨by omega, by omega⟩ ⟨by omega, by omega⟩ (by omega), bdE_l]
    · unfold pX10_pairs
      rw [(hin _ _ _ _).2 c, bd1_some, rf_1]
