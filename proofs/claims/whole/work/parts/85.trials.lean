-- calls with rows of their own
theorem cc_fillings {nf ns now : Nat → Int32} (h : iN nf ns now) (rf p0 : Int32) (tm pr : Nat → Int32) :
    (∃ r tm' pr', pX9_fillings nf ns tm p0 = some (.inr (r, tm')) ∧ pX10_fillings rf now pr p0 = some (r, 0, pr')) ∨ (pX9_fillings nf ns tm p0 = some (.inl (3, tm)) ∧ pX10_fillings rf now pr p0 = some (0, 1, pr)) := by
  obtain ⟨t, ht, rfl⟩ := arg_iz p0
  by_cases c : 0 ≤ t ∧ t ≤ 1
  · obtain ⟨V, hK, hX, hM⟩ := h.pick c.1 c.2
    have e : pX9_fillings nf ns tm (iz t) = bd1 (pX0_countFor tm (fs t nf ns)) (un2 (fun v w => some (.inr (v, w)))) := by
      unfold pX9_fillings
      rcases t01 c with rfl | rfl
      · rw [ex_0]; rfl
      · rw [ex_1]; rfl
    obtain ⟨w', hw⟩ := pX0_countFor_iz hK.s hX tm
    refine Or.inl ⟨pcE (wM V 36) 37, w', aW (wM V 36) pr, ?_, ?_⟩
    · rw [e, hw, bd1_some, un2_mk]
    · unfold pX10_fillings
      rw [rt_yes c rfl, rf_0]
      simp only [iz_0, iz_2]
      rw [fillM_L23, bd1_some, fillM_L44 hK.s hM c.1 c.2, bd1_some, fillM_L70 hK.s hM c.1 c.2, bd1_some, fill_M hK.s, bd1_some]
  · refine Or.inr ⟨?_, ?_⟩
    · unfold pX9_fillings
      rw [ex_no ht c, bdE_l]
    · unfold pX10_fillings
      rw [rt_no ht c, rf_1]
theorem cc_path {nf ns now : Nat → Int32} (h : iN nf ns now) (rf p0 p1 gs ge : Int32) (gm su : Nat → Int32) :
    (∃ r gs' ge' gm' su', pX9_path nf ns gs ge gm p0 p1 = some (.inr (r, gs', ge', gm')) ∧ pX10_path rf now su p0 p1 = some (r, 0, su')) ∨ (pX9_path nf ns gs ge gm p0 p1 = some (.inl (3, gs, ge, gm)) ∧ pX10_path rf now su p0 p1 = some (0, 1, su)) ∨ (pX9_path nf ns gs ge gm p0 p1 = some (.inl (1, gs, ge, gm)) ∧ pX10_path rf now su p0 p1 = some (0, 2, su)) := by
  obtain ⟨t, ht, rfl⟩ := arg_iz p0
  obtain ⟨w, hw, rfl⟩ := arg_iz p1
  by_cases c : 0 ≤ t ∧ t ≤ 1
  · obtain ⟨V, hK, hX, hM⟩ := h.pick c.1 c.2
    have e : pX9_path nf ns gs ge gm (iz t) (iz w) = bdE (pX9_requireRange (iz w) 0 1) (fun k5 => some (.inl (k5, gs, ge, gm))) (fun _ => bd1 (pX1_search gs ge gm (fs t nf ns)) (un3 (fun w6 w7 w8 => if iz w = 0 then bd1 (pX1_sum w6) (fun v12 => some (.inr (v12, w6, w7, w8))) else bd1 (pX1_end w7) (fun v10 => some (.inr (v10, w6, w7, w8)))))) := by
      unfold pX9_path
      rcases t01 c with rfl | rfl
      · rw [ex_0]; rfl
      · rw [ex_1]; rfl
    rw [e, iz_0, iz_1]
    by_cases c1 : 0 ≤ w ∧ w ≤ 1
    · obtain ⟨w', hs⟩ := pX1_search_iz hK.s hX gs ge gm
      obtain ⟨su', hm⟩ := path_M hK.s hM c.1 c.2 6 lpF 0 su (by omega) (by omega) (by unfold lpF; omega) (fun a b q1 q2 => by
        have := hK.1 a b q1
        omega)
      have e1 : bM (bst V (0 : Int).toNat) = 0 := rfl
      have e2 : (bst V (0 : Int).toNat).2 = -9 := rfl
      rw [e1, e2] at hm
      have hb := bst_b hK.b 6 (by omega)
      refine Or.inl ⟨iz (if w = 0 then (bst V 6).1 else (bst V 6).2), iz (bst V 6).1, iz (bst V 6).2, w', su', ?_, ?_⟩
      · rw [rr_yes hw ⟨by omega, by omega⟩ ⟨by omega, by omega⟩ c1, bdE_r, hs, bd1_some, un3_mk, ifz_eq hw.1 hw.2 (by omega) (by omega)]
        unfold pX1_sum pX1_end
        rw [bd1_some, bd1_some]
        by_cases d : w = 0
        · rw [if_pos d, if_pos d]
        · rw [if_neg d, if_neg d]
      · unfold pX10_path
        rw [rt_yes c (in_yes (x := 0) (y := 1) hw ⟨by omega, by omega⟩ ⟨by omega, by omega⟩ (by decide) (by decide) c1 _ _), rf_0]
        simp only [iz_0, iz_1, iz_9, iz_neg]
        rw [hm, bd1_some, un3_mk, ifz_eq (by omega) (by omega) (by omega) (by omega), ifz_eq hw.1 hw.2 (by omega) (by omega)]
        by_cases d : (bst V 6).2 = -9
        · rw [if_pos d]
          by_cases d2 : w = 0
          · rw [if_pos d2, show (bst V 6).1 = (bst V 6).2 by omega]
          · rw [if_neg d2]
        · rw [if_neg d]
          by_cases d2 : w = 0
          · rw [if_pos d2, if_neg (by omega)]
            unfold bM
            rw [if_neg d]
          · rw [if_neg d2, if_pos (by omega)]
    · refine Or.inr (Or.inr ⟨?_, ?_⟩)
      · rw [rr_no hw ⟨by omega, by omega⟩ ⟨by omega, by omega⟩ (by omega), bdE_l]
      · unfold pX10_path
        rw [rt_yes c (in_no (x := 0) (y := 1) hw ⟨by omega, by omega⟩ ⟨by omega, by omega⟩ (by decide) (by decide) c1 _ _), rf_2]
        rfl
  · refine Or.inr (Or.inl ⟨?_, ?_⟩)
    · unfold pX9_path
      rw [ex_no ht c, bdE_l]
    · unfold pX10_path
      rw [rt_no ht c, rf_1]
-- tables anywhere in a row of numbers
def tN (T : Tb) (p : Int) (g : Nat → Int32) : Prop := (∀ i, 0 ≤ i → i < 6 → g (p + 36 + i).toNat = iz (len T i)) ∧ ∀ i j, T i j ≠ -1 → g (p + 6 * i + j).toNat = iz (T i j)
theorem tN.cp {T : Tb} {p p0 q n : Int} {u : Nat → Int32} (w : Nat → Int32) (hB : tB T) (h : tN T p u) (h1 : p0 ≤ p) (h2 : p + 42 ≤ p0 + n) (h3 : 0 ≤ p0) (h4 : 0 ≤ q) : tN T (q + (p - p0)) (cpW u w p0 q n) := by
  refine ⟨fun i a b => ?_, fun i j hc => ?_⟩
  · unfold cpW
    rw [if_pos (by omega), show (((q + (p - p0) + 36 + i).toNat : Nat) : Int) - q + p0 = p + 36 + i by omega]
    exact h.1 i a b
  · have := hB i j hc
    unfold cpW
    rw [if_pos (by omega), show (((q + (p - p0) + 6 * i + j).toNat : Nat) : Int) - q + p0 = p + 6 * i + j by omega]
    exact h.2 i j hc
theorem tN.keep {T : Tb} {p p0 q n : Int} {u w : Nat → Int32} (hB : tB T) (h : tN T p w) (h1 : p + 42 ≤ q ∨ q + n ≤ p) (h3 : 0 ≤ p) : tN T p (cpW u w p0 q n) := by
  refine ⟨fun i a b => ?_, fun i j hc => ?_⟩
  · unfold cpW
    rw [if_neg (by omega)]
    exact h.1 i a b
  · have := hB i j hc
    unfold cpW
    rw [if_neg (by omega)]
    exact h.2 i j hc
/-- all 84 numbers, copied -/
theorem tM.cp84 {T : Tb} {t : Int} {u : Nat → Int32} (w : Nat → Int32) (hB : tB T) (h : tM T t u) (ht : 0 ≤ t) (ht2 : t ≤ 1) : tM T t (cpW u w 0 0 84) := by
  have q := tN.cp (T := T) (p := 42 * t) (p0 := 0) (q := 0) (n := 84) w hB h (by omega) (by omega) (by omega) (by omega)
  rw [show 0 + (42 * t - 0) = 42 * t by omega] at q
  exact q
theorem cp84 (u w : Nat → Int32) : pX10_copy 84 84 u w 0 0 84 = some (cpW u w 0 0 84) := by
  simp only [iz_0, iz_84]
  exact pX10_copy_iz (by omega) (by omega) (by omega) (by omega) (by omega) (by omega) (by omega) (by omega)
theorem pX9_steps_iz {i j : Int} (h1 : 0 ≤ i) (h2 : i ≤ 1000) (h3 : 0 ≤ j) (h4 : j < 10) : pX9_stepsFromOrigin (iz (10 * i + j)) = some (iz (i + j)) := by
  unfold pX9_stepsFromOrigin
  rw [pX9_rowOf_iz h1 h2 h3 h4, bd1_some, pX9_columnOf_iz h1 h2 h3 h4, bd1_some, iz_add]
theorem cc_ifInserted {nf ns now : Nat → Int32} (h : iN nf ns now) (rf p0 p1 p2 sl : Int32) (tf ts tr : Nat → Int32) :
    (∃ r tf' ts' sl' tr', pX9_ifInserted nf ns tf ts p0 p1 p2 = some (.inr (r, tf', ts')) ∧ pX10_ifInserted rf sl now tr p0 p1 p2 = some (r, 0, sl', tr')) ∨ (pX9_ifInserted nf ns tf ts p0 p1 p2 = some (.inl (3, tf, ts)) ∧ pX10_ifInserted rf sl now tr p0 p1 p2 = some (0, 1, sl, tr)) ∨ (pX9_ifInserted nf ns tf ts p0 p1 p2 = some (.inl (1, tf, ts)) ∧ pX10_ifInserted rf sl now tr p0 p1 p2 = some (0, 2, sl, tr)) := by
  obtain ⟨t, ht, rfl⟩ := arg_iz p0
  obtain ⟨v, hv, rfl⟩ := arg_iz p1
  obtain ⟨z, hz, rfl⟩ := arg_iz p2
  by_cases c : 0 ≤ t ∧ t ≤ 1
  · obtain ⟨V, hK, hX, hM⟩ := h.pick c.1 c.2
    have e : pX9_ifInserted nf ns tf ts (iz t) (iz v) (iz z) = bdE (pX9_requireRange (iz v) 0 99) (fun k5 => some (.inl (k5, tf, ts))) (fun _ => bd1 (pX7_isFull (fs t nf ns)) (fun v6 => if v6 = 0 then bd1 (pX7_nearestGap (fs t nf ns)) (fun v8 => bd1 (pX7_copyFrom tf (fs t nf ns)) (fun w12 => bd1 (pX7_takeIn w12 (iz v)) (un2 (fun v14 w15 => if iz z = 0 then some (.inr (v14, w15, ts)) else bd1 (pX9_stepsFromOrigin v8) (fun v17 => bd1 (pX9_stepsFromOrigin v14) (fun v19 => some (.inr ((v17 - v19), w15, ts)))))))) else some (.inr ((-9), tf, ts)))) := by
      unfold pX9_ifInserted
      rcases t01 c with rfl | rfl
      · rw [ex_0]; rfl
      · rw [ex_1]; rfl
    rw [e, iz_0, iz_99]
    by_cases c1 : 0 ≤ v ∧ v ≤ 99
    · refine Or.inl ?_
      rw [rr_yes hv ⟨by omega, by omega⟩ ⟨by omega, by omega⟩ c1, bdE_r, pX7_isFull_iz hK.b hX, bd1_some]
      unfold pX10_ifInserted
      rw [rt_yes c (num_yes c1 _ _), rf_0, pX10_gapRow_iz hK.b hM c.1 c.2, bd1_some, cp84, bd1_some]
      simp only [iz_0, iz_9, iz_neg]
      have hgb : gr V 6 = -9 ∨ (0 ≤ gr V 6 ∧ gr V 6 < 6) := by
        rcases gr_spec V 6 with ⟨a, -⟩ | ⟨a, b, -⟩
        · exact Or.inl a
        · exact Or.inr ⟨a, b⟩
      by_cases c2 : gr V 6 = -9
      · have c3 := (gr_full hK.s).1 c2
        rw [if_neg c3, if_neg iz1_ne, c2, if_pos rfl]
        exact ⟨_, _, _, _, _, rfl, rfl⟩
      · have c3 : V 5 5 = -1 := by
          by_cases q : V 5 5 = -1
          · exact q
          · exact absurd ((gr_full hK.s).2 q) c2
        have hl := len_b V (gr V 6)
        obtain ⟨f1, k1, k2⟩ := pX7_copyFrom_iz (f := tf) hX
        obtain ⟨f2, k3, k4, k5, k6, k7, k8⟩ := pX7_takeIn_iz hK k2 c1.1 c1.2 c2
        obtain ⟨g2, k9, k10, k11⟩ := pX10_insertOn_iz hK (hM.cp84 tr hK.b c.1 c.2) c.1 c.2 c1.1 c1.2 c2 sl
        have k12 := (ins_ok hK c1.1 c1.2 c2).2
        rw [if_pos c3, if_pos rfl, pX7_nearestGap_iz hK.b hX, bd1_some, if_neg c2, k1, bd1_some, k3, bd1_some, un2_mk, pX9_steps_iz (by omega) (by omega) (by omega) (by omega), bd1_some, pX9_steps_iz k5 (by omega) k7 (by omega), bd1_some, ifz_eq hz.1 hz.2 (by omega) (by omega)]
        rw [ifz_eq (by omega) (by omega) (by omega) (by omega), if_neg c2, k9, bd1_some, un3_mk, ifz_eq hz.1 hz.2 (by omega) (by omega)]
        by_cases d : z = 0
        · rw [if_pos d, if_pos d]
          exact ⟨_, _, _, _, _, rfl, rfl⟩
        · rw [if_neg d, if_neg d, iz_sub, show gr V 6 + len V (gr V 6) - ((insT V v).2.1 + (insT V v).2.2.1) = (insT V v).2.2.2 by omega]
          exact ⟨_, _, _, _, _, rfl, rfl⟩
    · refine Or.inr (Or.inr ⟨?_, ?_⟩)
      · rw [rr_no hv ⟨by omega, by omega⟩ ⟨by omega, by omega⟩ (by omega), bdE_l]
      · unfold pX10_ifInserted
        rw [rt_yes c (num_no hv c1 _ _), rf_2]
        rfl
  · refine Or.inr (Or.inl ⟨?_, ?_⟩)
    · unfold pX9_ifInserted
      rw [ex_no ht c, bdE_l]
    · unfold pX10_ifInserted
      rw [rt_no ht c, rf_1]
theorem cc_ifRemoved {nf ns now : Nat → Int32} (h : iN nf ns now) (rf p0 p1 p2 : Int32) (tf ts tr : Nat → Int32) :
    (∃ r tf' ts' tr', pX9_ifRemoved nf ns tf ts p0 p1 p2 = some (.inr (r, tf', ts')) ∧ pX10_ifRemoved rf now tr p0 p1 p2 = some (r, 0, tr')) ∨ (pX9_ifRemoved nf ns tf ts p0 p1 p2 = some (.inl (3, tf, ts)) ∧ pX10_ifRemoved rf now tr p0 p1 p2 = some (0, 1, tr)) := by
  obtain ⟨t, ht, rfl⟩ := arg_iz p0
  obtain ⟨i, hi, rfl⟩ := arg_iz p1
  obtain ⟨j, hj, rfl⟩ := arg_iz p2
  obtain ⟨T, U, hN⟩ := h
  by_cases c : (t = 0 ∧ T i j ≠ -1) ∨ (t = 1 ∧ U i j ≠ -1)
  · obtain ⟨a1, a2, a3, a4, a5, a6⟩ := id hN
    refine Or.inl ?_
    have hT0 : pX2_table 0 = some true := by decide
    rcases c with ⟨rfl, hc⟩ | ⟨rfl, hc⟩
    · obtain ⟨f1, k1, k2⟩ := pX7_copyFrom_iz (f := tf) a3
      obtain ⟨f2, k3, k4⟩ := pX7_takeAway_iz a1 k2 hc
      obtain ⟨g2, k5, k6⟩ := pX10_removeOn_iz a1 (a5.cp84 tr a1.b (by omega) (by omega)) (by omega) (by omega) hc
      refine ⟨iz (10 * (remS T i j).2.1 + (remS T i j).2.2), f2, ts, g2, ?_, ?_⟩
      · unfold pX9_ifRemoved
        rw [tw_0 hN hi hj hc, bdE_r, cond_true, hT0, bd1_some, cond_true, k1, bd1_some, k3, bd1_some, un2_mk]
      · unfold pX10_ifRemoved
        rw [hv_yes a1 a5 (by omega) (by omega) hc, bd1_some, rf_0, cp84, bd1_some, k5, bd1_some, un2_mk]
    · obtain ⟨f1, k1, k2⟩ := pX7_copyFrom_iz (f := tf) a4
      obtain ⟨f2, k3, k4⟩ := pX7_takeAway_iz a2 k2 hc
      obtain ⟨g2, k5, k6⟩ := pX10_removeOn_iz a2 (a6.cp84 tr a2.b (by omega) (by omega)) (by omega) (by omega) hc
      refine ⟨iz (10 * (remS U i j).2.1 + (remS U i j).2.2), f2, ts, g2, ?_, ?_⟩
      · unfold pX9_ifRemoved
        rw [tw_1 hN hi hj hc, bdE_r, cond_false, hT0, bd1_some, cond_true, k1, bd1_some, k3, bd1_some, un2_mk]
      · unfold pX10_ifRemoved
        rw [hv_yes a2 a6 (by omega) (by omega) hc, bd1_some, rf_0, cp84, bd1_some, k5, bd1_some, un2_mk]
  · refine Or.inr ⟨?_, ?_⟩
    · unfold pX9_ifRemoved
      rw [tw_no hN ht hi hj c, bdE_l]
    · unfold pX10_ifRemoved
      rw [hv_no hN ht hi hj c, bd1_some, rf_1]
