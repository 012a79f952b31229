theorem m9 : (-9 : Int32) = iz (-9) := by decide
theorem rg_yes {V : Tb} {f : Nat → Int32} (hB : tB V) (h : tX V f) (c : V 5 5 = -1) : pX9_requireGap f = some (.inr ()) := by
  unfold pX9_requireGap
  rw [pX7_isFull_iz hB h, bd1_some, if_pos c, iz_0, if_pos rfl]
theorem rg_no {V : Tb} {f : Nat → Int32} (hB : tB V) (h : tX V f) (c : V 5 5 ≠ -1) : pX9_requireGap f = some (.inl 2) := by
  unfold pX9_requireGap
  rw [pX7_isFull_iz hB h, bd1_some, if_neg c, iz_0, if_neg iz1_ne]
theorem gp_no {σ : Type} {V : Tb} {now : Nat → Int32} {t : Int} (hK : tOK V) (hM : tM V t now) (ht : 0 ≤ t) (ht2 : t ≤ 1) (c : V 5 5 ≠ -1) (a b : Option σ) : bd1 (pX10_gapRow now (iz t)) (fun v8 => if v8 = -9 then a else b) = a := by
  rw [pX10_gapRow_iz hK.b hM ht ht2, bd1_some, (gr_full hK.s).2 c, m9, if_pos rfl]
theorem gr_b (V : Tb) : gr V 6 = -9 ∨ (0 ≤ gr V 6 ∧ gr V 6 < 6) := by
  rcases gr_spec V 6 with ⟨a, -⟩ | ⟨a, b, -⟩
  · exact Or.inl a
  · exact Or.inr ⟨a, b⟩
theorem gp_yes {σ : Type} {V : Tb} {now : Nat → Int32} {t : Int} (hK : tOK V) (hM : tM V t now) (ht : 0 ≤ t) (ht2 : t ≤ 1) (c : V 5 5 = -1) (a b : Option σ) : bd1 (pX10_gapRow now (iz t)) (fun v8 => if v8 = -9 then a else b) = b := by
  have hb := gr_b V
  have hn : gr V 6 ≠ -9 := fun q => (gr_full hK.s).1 q c
  rw [pX10_gapRow_iz hK.b hM ht ht2, bd1_some, m9, ifz_eq (by omega) (by omega) (by omega) (by omega), if_neg hn]
theorem gr_ne {V : Tb} (hK : tOK V) (c : V 5 5 = -1) : gr V 6 ≠ -9 := fun q => (gr_full hK.s).1 q c

theorem cc_insert {nf ns now : Nat → Int32} (hN : iN nf ns now) {o r : Int32} {pn : Nat → Int32} {ac : Int32} {di : Nat → Int32} (hP : iP o r pn ac di) (rf sl p0 p1 : Int32) :
    (∃ x nf' ns' o' r' pn' ac' sl' now' di', pX9_insert nf ns o r pn p0 p1 = some (.inr (x, nf', ns', o', r', pn')) ∧ pX10_insert rf ac sl now di p0 p1 = some (x, 0, ac', sl', now', di') ∧ iN nf' ns' now' ∧ iP o' r' pn' ac' di') ∨ (pX9_insert nf ns o r pn p0 p1 = some (.inl (3, nf, ns, o, r, pn)) ∧ pX10_insert rf ac sl now di p0 p1 = some (0, 1, ac, sl, now, di)) ∨ (pX9_insert nf ns o r pn p0 p1 = some (.inl (1, nf, ns, o, r, pn)) ∧ pX10_insert rf ac sl now di p0 p1 = some (0, 2, ac, sl, now, di)) ∨ (pX9_insert nf ns o r pn p0 p1 = some (.inl (2, nf, ns, o, r, pn)) ∧ pX10_insert rf ac sl now di p0 p1 = some (0, 3, ac, sl, now, di)) := by
  obtain ⟨t, ht, rfl⟩ := arg_iz p0
  obtain ⟨v, hv, rfl⟩ := arg_iz p1
  obtain ⟨T, U, hN2⟩ := hN
  obtain ⟨o', r', pn', ac', di', k1, k2, k3⟩ := remember_both hN2 hP
  obtain ⟨a1, a2, a3, a4, a5, a6⟩ := id hN2
  by_cases c : 0 ≤ t ∧ t ≤ 1
  · rcases t01 c with rfl | rfl
    · by_cases c1 : 0 ≤ v ∧ v ≤ 99
      · by_cases c2 : T 5 5 = -1
        · obtain ⟨f', q1, q2, -⟩ := pX7_takeIn_iz a1 a3 c1.1 c1.2 (gr_ne a1 c2)
          obtain ⟨g', q3, q4, q5⟩ := pX10_insertOn_iz a1 a5 (by omega) (by omega) c1.1 c1.2 (gr_ne a1 c2) sl
          refine Or.inl ⟨iz (10 * (insT T v).2.1 + (insT T v).2.2.1), f', ns, o', r', pn', ac', iz (insT T v).2.2.2, g', di', ?_, ?_, ⟨(insT T v).1, U, (ins_ok a1 c1.1 c1.2 (gr_ne a1 c2)).1, a2, q2, a4, q4, a6.out a2.b q5 (by omega) (by omega) (by omega)⟩, k3⟩
          · unfold pX9_insert
            rw [ex_0, bdE_r, cond_true, iz_0, iz_99, rr_yes hv ⟨by omega, by omega⟩ ⟨by omega, by omega⟩ c1, bdE_r, rg_yes a1.b a3 c2, bdE_r, k1, bd1_some, un3_mk, q1, bd1_some, un2_mk]
          · unfold pX10_insert
            rw [rt_yes c (by rw [num_yes c1, gp_yes a1 a5 (by omega) (by omega) c2]), rf_0, k2, bd1_some, un2_mk, q3, bd1_some, un3_mk]
        · refine Or.inr (Or.inr (Or.inr ⟨?_, ?_⟩))
          · unfold pX9_insert
            rw [ex_0, bdE_r, cond_true, iz_0, iz_99, rr_yes hv ⟨by omega, by omega⟩ ⟨by omega, by omega⟩ c1, bdE_r, rg_no a1.b a3 c2, bdE_l]
          · unfold pX10_insert
            rw [rt_yes c (by rw [num_yes c1, gp_no a1 a5 (by omega) (by omega) c2]), rf_3]
      · refine Or.inr (Or.inr (Or.inl ⟨?_, ?_⟩))
        · unfold pX9_insert
          rw [ex_0, bdE_r, cond_true, iz_0, iz_99, rr_no hv ⟨by omega, by omega⟩ ⟨by omega, by omega⟩ (by omega), bdE_l]
        · unfold pX10_insert
          rw [rt_yes c (num_no hv c1 _ _), rf_2]
    · by_cases c1 : 0 ≤ v ∧ v ≤ 99
      · by_cases c2 : U 5 5 = -1
        · obtain ⟨f', q1, q2, -⟩ := pX7_takeIn_iz a2 a4 c1.1 c1.2 (gr_ne a2 c2)
          obtain ⟨g', q3, q4, q5⟩ := pX10_insertOn_iz a2 a6 (by omega) (by omega) c1.1 c1.2 (gr_ne a2 c2) sl
          refine Or.inl ⟨iz (10 * (insT U v).2.1 + (insT U v).2.2.1), nf, f', o', r', pn', ac', iz (insT U v).2.2.2, g', di', ?_, ?_, ⟨T, (insT U v).1, a1, (ins_ok a2 c1.1 c1.2 (gr_ne a2 c2)).1, a3, q2, a5.out a1.b q5 (by omega) (by omega) (by omega), q4⟩, k3⟩
          · unfold pX9_insert
            rw [ex_1, bdE_r, cond_false, iz_0, iz_99, rr_yes hv ⟨by omega, by omega⟩ ⟨by omega, by omega⟩ c1, bdE_r, rg_yes a2.b a4 c2, bdE_r, k1, bd1_some, un3_mk, q1, bd1_some, un2_mk]
          · unfold pX10_insert
            rw [rt_yes c (by rw [num_yes c1, gp_yes a2 a6 (by omega) (by omega) c2]), rf_0, k2, bd1_some, un2_mk, q3, bd1_some, un3_mk]
        · refine Or.inr (Or.inr (Or.inr ⟨?_, ?_⟩))
          · unfold pX9_insert
            rw [ex_1, bdE_r, cond_false, iz_0, iz_99, rr_yes hv ⟨by omega, by omega⟩ ⟨by omega, by omega⟩ c1, bdE_r, rg_no a2.b a4 c2, bdE_l]
          · unfold pX10_insert
            rw [rt_yes c (by rw [num_yes c1, gp_no a2 a6 (by omega) (by omega) c2]), rf_3]
      · refine Or.inr (Or.inr (Or.inl ⟨?_, ?_⟩))
        · unfold pX9_insert
          rw [ex_1, bdE_r, cond_false, iz_0, iz_99, rr_no hv ⟨by omega, by omega⟩ ⟨by omega, by omega⟩ (by omega), bdE_l]
        · unfold pX10_insert
          rw [rt_yes c (num_no hv c1 _ _), rf_2]
  · refine Or.inr (Or.inl ⟨?_, ?_⟩)
    · unfold pX9_insert
      rw [ex_no ht c, bdE_l]
    · unfold pX10_insert
      rw [rt_no ht c, rf_1]

theorem cc_remove {nf ns now : Nat → Int32} (hN : iN nf ns now) {o r : Int32} {pn : Nat → Int32} {ac : Int32} {di : Nat → Int32} (hP : iP o r pn ac di) (rf p0 p1 p2 : Int32) :
    (∃ x nf' ns' o' r' pn' ac' now' di', pX9_remove nf ns o r pn p0 p1 p2 = some (.inr (x, nf', ns', o', r', pn')) ∧ pX10_remove rf ac now di p0 p1 p2 = some (x, 0, ac', now', di') ∧ iN nf' ns' now' ∧ iP o' r' pn' ac' di') ∨ (pX9_remove nf ns o r pn p0 p1 p2 = some (.inl (3, nf, ns, o, r, pn)) ∧ pX10_remove rf ac now di p0 p1 p2 = some (0, 1, ac, now, di)) := by
  obtain ⟨t, ht, rfl⟩ := arg_iz p0
  obtain ⟨i, hi, rfl⟩ := arg_iz p1
  obtain ⟨j, hj, rfl⟩ := arg_iz p2
  obtain ⟨T, U, hN2⟩ := hN
  obtain ⟨o', r', pn', ac', di', k1, k2, k3⟩ := remember_both hN2 hP
  obtain ⟨a1, a2, a3, a4, a5, a6⟩ := id hN2
  by_cases c : (t = 0 ∧ T i j ≠ -1) ∨ (t = 1 ∧ U i j ≠ -1)
  · rcases c with ⟨rfl, hc⟩ | ⟨rfl, hc⟩
    · have hb := a1.1 i j hc
      obtain ⟨f', q1, q2⟩ := pX7_takeAway_iz a1 a3 hc
      obtain ⟨g', q3, q4, q5⟩ := pX10_removeOn_iz a1 a5 (by omega) (by omega) hc
      refine Or.inl ⟨iz (T i j), f', ns, o', r', pn', ac', g', di', ?_, ?_, ⟨remT T i j, U, rem_ok a1 hc, a2, q2, a4, q4, a6.out a2.b q5 (by omega) (by omega) (by omega)⟩, k3⟩
      · unfold pX9_remove
        rw [tw_0 hN2 hi hj hc, bdE_r, cond_true, pX7_at_gen a1.b a3 hi hj, bd1_some, k1, bd1_some, un3_mk, q1, bd1_some, un2_mk]
      · unfold pX10_remove
        rw [hv_yes a1 a5 (by omega) (by omega) hc, bd1_some, rf_0, k2, bd1_some, un2_mk, pX10_get_iz a5 (by omega) (by omega) hc (by omega) (by omega) (by omega) (by omega), bd1_some, q3, bd1_some, un2_mk]
    · have hb := a2.1 i j hc
      obtain ⟨f', q1, q2⟩ := pX7_takeAway_iz a2 a4 hc
      obtain ⟨g', q3, q4, q5⟩ := pX10_removeOn_iz a2 a6 (by omega) (by omega) hc
      refine Or.inl ⟨iz (U i j), nf, f', o', r', pn', ac', g', di', ?_, ?_, ⟨T, remT U i j, a1, rem_ok a2 hc, a3, q2, a5.out a1.b q5 (by omega) (by omega) (by omega), q4⟩, k3⟩
      · unfold pX9_remove
        rw [tw_1 hN2 hi hj hc, bdE_r, cond_false, pX7_at_gen a2.b a4 hi hj, bd1_some, k1, bd1_some, un3_mk, q1, bd1_some, un2_mk]
      · unfold pX10_remove
        rw [hv_yes a2 a6 (by omega) (by omega) hc, bd1_some, rf_0, k2, bd1_some, un2_mk, pX10_get_iz a6 (by omega) (by omega) hc (by omega) (by omega) (by omega) (by omega), bd1_some, q3, bd1_some, un2_mk]
  · refine Or.inr ⟨?_, ?_⟩
    · unfold pX9_remove
      rw [tw_no hN2 ht hi hj c, bdE_l]
    · unfold pX10_remove
      rw [hv_no hN2 ht hi hj c, bd1_some, rf_1]

theorem cc_change {nf ns now : Nat → Int32} (hN : iN nf ns now) {o r : Int32} {pn : Nat → Int32} {ac : Int32} {di : Nat → Int32} (hP : iP o r pn ac di) (rf sl p0 p1 p2 p3 : Int32) :
    (∃ x nf' ns' o' r' pn' ac' sl' now' di', pX9_change nf ns o r pn p0 p1 p2 p3 = some (.inr (x, nf', ns', o', r', pn')) ∧ pX10_change rf ac sl now di p0 p1 p2 p3 = some (x, 0, ac', sl', now', di') ∧ iN nf' ns' now' ∧ iP o' r' pn' ac' di') ∨ (pX9_change nf ns o r pn p0 p1 p2 p3 = some (.inl (3, nf, ns, o, r, pn)) ∧ pX10_change rf ac sl now di p0 p1 p2 p3 = some (0, 1, ac, sl, now, di)) ∨ (pX9_change nf ns o r pn p0 p1 p2 p3 = some (.inl (1, nf, ns, o, r, pn)) ∧ pX10_change rf ac sl now di p0 p1 p2 p3 = some (0, 2, ac, sl, now, di)) := by
  obtain ⟨t, ht, rfl⟩ := arg_iz p0
  obtain ⟨i, hi, rfl⟩ := arg_iz p1
  obtain ⟨j, hj, rfl⟩ := arg_iz p2
  obtain ⟨v, hv, rfl⟩ := arg_iz p3
  obtain ⟨sz, hsz, rfl⟩ := arg_iz sl
  obtain ⟨T, U, hN2⟩ := hN
  obtain ⟨o', r', pn', ac', di', k1, k2, k3⟩ := remember_both hN2 hP
  obtain ⟨a1, a2, a3, a4, a5, a6⟩ := id hN2
  by_cases c : (t = 0 ∧ T i j ≠ -1) ∨ (t = 1 ∧ U i j ≠ -1)
  · rcases c with ⟨rfl, hc⟩ | ⟨rfl, hc⟩
    · have hb := a1.1 i j hc
      by_cases c1 : 0 ≤ v ∧ v ≤ 99
      · obtain ⟨f', q1, q2⟩ := pX7_replace_iz a1 a3 hc c1.1 c1.2
        have hS1 := a1.s.set (i := i) (j := j) (v := v) hc c1.1 (by omega)
        have hM1 := a5.set a1.b (by omega) (i := i) (j := j) (v := v) hc (by omega)
        have o1 : sameOut 0 now (upd now (42 * 0 + 6 * i + j).toNat (iz v)) := (sameOut.rf 0 now).put (by omega) (by omega) (by omega)
        obtain ⟨g1, q3, q4, q5, q6⟩ := pX10_slideUp_iz c1.1 (by omega) (t := 0) (by omega) (by omega) (sl := sz) hS1 hM1 (tset_at _ _ _ _)
        obtain ⟨r1, r2, -⟩ := ch_inv a1 hc c1.1 c1.2
        obtain ⟨g2, q7, q8, q9, q10⟩ := pX10_slideDown_iz c1.1 c1.2 (t := 0) (by omega) (by omega) q5 q4 r2
        have o2 := (o1.tr q6).tr q10
        refine Or.inl ⟨iz (10 * (chT T i j v).2.1 + (chT T i j v).2.2), f', ns, o', r', pn', ac', iz (sz + (chU T i j v).2.2.2), g2, di', ?_, ?_, ⟨(chT T i j v).1, U, ch_ok a1 hc c1.1 c1.2, a2, q2, a4, q8, a6.out a2.b o2 (by omega) (by omega) (by omega)⟩, k3⟩
        · unfold pX9_change
          rw [tw_0 hN2 hi hj hc, bdE_r, cond_true, iz_0, iz_99, rr_yes hv ⟨by omega, by omega⟩ ⟨by omega, by omega⟩ c1, bdE_r, k1, bd1_some, un3_mk, q1, bd1_some, un2_mk]
        · unfold pX10_change
          rw [hv_yes a1 a5 (by omega) (by omega) hc, num_yes c1, bd1_some, rf_0, k2, bd1_some, un2_mk, pX10_set_iz (by omega) (by omega) (by omega) (by omega) (by omega) (by omega), bd1_some, iz_10, iz_mul, iz_add, q3, bd1_some, un3_mk]
          show bd1 (pX10_slideDown g1 (iz 0) (iz (10 * (chU T i j v).2.1 + (chU T i j v).2.2.1))) _ = _
          rw [q7, bd1_some, un2_mk]
          rfl
      · refine Or.inr (Or.inr ⟨?_, ?_⟩)
        · unfold pX9_change
          rw [tw_0 hN2 hi hj hc, bdE_r, cond_true, iz_0, iz_99, rr_no hv ⟨by omega, by omega⟩ ⟨by omega, by omega⟩ (by omega), bdE_l]
        · unfold pX10_change
          rw [hv_yes a1 a5 (by omega) (by omega) hc, num_no hv c1, bd1_some, rf_2]
    · have hb := a2.1 i j hc
      by_cases c1 : 0 ≤ v ∧ v ≤ 99
      · obtain ⟨f', q1, q2⟩ := pX7_replace_iz a2 a4 hc c1.1 c1.2
        have hS1 := a2.s.set (i := i) (j := j) (v := v) hc c1.1 (by omega)
        have hM1 := a6.set a2.b (by omega) (i := i) (j := j) (v := v) hc (by omega)
        have o1 : sameOut 1 now (upd now (42 * 1 + 6 * i + j).toNat (iz v)) := (sameOut.rf 1 now).put (by omega) (by omega) (by omega)
        obtain ⟨g1, q3, q4, q5, q6⟩ := pX10_slideUp_iz c1.1 (by omega) (t := 1) (by omega) (by omega) (sl := sz) hS1 hM1 (tset_at _ _ _ _)
        obtain ⟨r1, r2, -⟩ := ch_inv a2 hc c1.1 c1.2
        obtain ⟨g2, q7, q8, q9, q10⟩ := pX10_slideDown_iz c1.1 c1.2 (t := 1) (by omega) (by omega) q5 q4 r2
        have o2 := (o1.tr q6).tr q10
        refine Or.inl ⟨iz (10 * (chT U i j v).2.1 + (chT U i j v).2.2), nf, f', o', r', pn', ac', iz (sz + (chU U i j v).2.2.2), g2, di', ?_, ?_, ⟨T, (chT U i j v).1, a1, ch_ok a2 hc c1.1 c1.2, a3, q2, a5.out a1.b o2 (by omega) (by omega) (by omega), q8⟩, k3⟩
        · unfold pX9_change
          rw [tw_1 hN2 hi hj hc, bdE_r, cond_false, iz_0, iz_99, rr_yes hv ⟨by omega, by omega⟩ ⟨by omega, by omega⟩ c1, bdE_r, k1, bd1_some, un3_mk, q1, bd1_some, un2_mk]
        · unfold pX10_change
          rw [hv_yes a2 a6 (by omega) (by omega) hc, num_yes c1, bd1_some, rf_0, k2, bd1_some, un2_mk, pX10_set_iz (by omega) (by omega) (by omega) (by omega) (by omega) (by omega), bd1_some, iz_10, iz_mul, iz_add, q3, bd1_some, un3_mk]
          show bd1 (pX10_slideDown g1 (iz 1) (iz (10 * (chU U i j v).2.1 + (chU U i j v).2.2.1))) _ = _
          rw [q7, bd1_some, un2_mk]
          rfl
      · refine Or.inr (Or.inr ⟨?_, ?_⟩)
        · unfold pX9_change
          rw [tw_1 hN2 hi hj hc, bdE_r, cond_false, iz_0, iz_99, rr_no hv ⟨by omega, by omega⟩ ⟨by omega, by omega⟩ (by omega), bdE_l]
        · unfold pX10_change
          rw [hv_yes a2 a6 (by omega) (by omega) hc, num_no hv c1, bd1_some, rf_2]
  · refine Or.inr (Or.inl ⟨?_, ?_⟩)
    · unfold pX9_change
      rw [tw_no hN2 ht hi hj c, bdE_l]
    · unfold pX10_change
      rw [hv_no hN2 ht hi hj c, bd1_some, rf_1]

theorem mover_0 {T U : Tb} {nf ns now : Nat → Int32} (hN2 : N2 T U nf ns now) {i j : Int} (hc : T i j ≠ -1) (hg : U 5 5 = -1) (sl : Int32) :
    ∃ x f' u' now1 now' sl' y, pX2_moveOver nf ns (iz 0) (iz i) (iz j) = some (x, f', u') ∧ pX10_get now (iz 0) (iz i) (iz j) = some (iz (T i j)) ∧ pX10_removeOn now (iz 0) (iz i) (iz j) = some (y, now1) ∧ pX10_insertOn sl now1 (iz 1) (iz (T i j)) = some (x, sl', now') ∧ N2 (remT T i j) (insT U (T i j)).1 f' u' now' := by
  obtain ⟨a1, a2, a3, a4, a5, a6⟩ := hN2
  have hb := a1.1 i j hc
  obtain ⟨f', q1, q2⟩ := pX7_takeAway_iz a1 a3 hc
  obtain ⟨g1, q3, q4, q5⟩ := pX10_removeOn_iz a1 a5 (by omega) (by omega) hc
  have hM2 := a6.out a2.b q5 (by omega) (by omega) (by omega)
  obtain ⟨u', q6, q7, -⟩ := pX7_takeIn_iz a2 a4 (v := T i j) (by omega) (by omega) (gr_ne a2 hg)
  obtain ⟨g2, q8, q9, q10⟩ := pX10_insertOn_iz a2 hM2 (by omega) (by omega) (v := T i j) (by omega) (by omega) (gr_ne a2 hg) sl
  have h01 : pX2_table (iz 0) = some true := by decide
  have h10 : pX2_table (1 - iz 0) = some false := by decide
  have hM3 := q4.out (rem_ok a1 hc).b q10 (by omega) (by omega) (by omega)
  refine ⟨iz (10 * (insT U (T i j)).2.1 + (insT U (T i j)).2.2.1), f', u', g1, g2, iz (insT U (T i j)).2.2.2, iz (10 * (remS T i j).2.1 + (remS T i j).2.2), ?_, pX10_get_iz a5 (by omega) (by omega) hc (by omega) (by omega) (by omega) (by omega), q3, q8, rem_ok a1 hc, (ins_ok a2 (by omega) (by omega) (gr_ne a2 hg)).1, q2, q7, hM3, q9⟩
  unfold pX2_moveOver
  rw [h01, bd1_some, cond_true, pX7_at_iz a1.b a3 (by omega) (by omega) (by omega) (by omega), bd1_some, q1, bd1_some, un2_mk, h10, bd1_some, cond_false, q6, bd1_some, un2_mk]

theorem mover_1 {T U : Tb} {nf ns now : Nat → Int32} (hN2 : N2 T U nf ns now) {i j : Int} (hc : U i j ≠ -1) (hg : T 5 5 = -1) (sl : Int32) :
    ∃ x f' u' now1 now' sl' y, pX2_moveOver nf ns (iz 1) (iz i) (iz j) = some (x, u', f') ∧ pX10_get now (iz 1) (iz i) (iz j) = some (iz (U i j)) ∧ pX10_removeOn now (iz 1) (iz i) (iz j) = some (y, now1) ∧ pX10_insertOn sl now1 (iz 0) (iz (U i j)) = some (x, sl', now') ∧ N2 (insT T (U i j)).1 (remT U i j) u' f' now' := by
  obtain ⟨a1, a2, a3, a4, a5, a6⟩ := hN2
  have hb := a2.1 i j hc
  obtain ⟨f', q1, q2⟩ := pX7_takeAway_iz a2 a4 hc
  obtain ⟨g1, q3, q4, q5⟩ := pX10_removeOn_iz a2 a6 (by omega) (by omega) hc
  have hM2 := a5.out a1.b q5 (by omega) (by omega) (by omega)
  obtain ⟨u', q6, q7, -⟩ := pX7_takeIn_iz a1 a3 (v := U i j) (by omega) (by omega) (gr_ne a1 hg)
  obtain ⟨g2, q8, q9, q10⟩ := pX10_insertOn_iz a1 hM2 (by omega) (by omega) (v := U i j) (by omega) (by omega) (gr_ne a1 hg) sl
  have h01 : pX2_table (iz 1) = some false := by decide
  have h10 : pX2_table (1 - iz 1) = some true := by decide
  have hM3 := q4.out (rem_ok a2 hc).b q10 (by omega) (by omega) (by omega)
  refine ⟨iz (10 * (insT T (U i j)).2.1 + (insT T (U i j)).2.2.1), f', u', g1, g2, iz (insT T (U i j)).2.2.2, iz (10 * (remS U i j).2.1 + (remS U i j).2.2), ?_, pX10_get_iz a6 (by omega) (by omega) hc (by omega) (by omega) (by omega) (by omega), q3, q8, (ins_ok a1 (by omega) (by omega) (gr_ne a1 hg)).1, rem_ok a2 hc, q7, q2, q9, hM3⟩
  unfold pX2_moveOver
  rw [h01, bd1_some, cond_false, pX7_at_iz a2.b a4 (by omega) (by omega) (by omega) (by omega), bd1_some, q1, bd1_some, un2_mk, h10, bd1_some, cond_true, q6, bd1_some, un2_mk]

theorem cc_transfer {nf ns now : Nat → Int32} (hN : iN nf ns now) {o r : Int32} {pn : Nat → Int32} {ac : Int32} {di : Nat → Int32} (hP : iP o r pn ac di) (rf sl p0 p1 p2 : Int32) :
    (∃ x nf' ns' o' r' pn' ac' sl' now' di', pX9_transfer nf ns o r pn p0 p1 p2 = some (.inr (x, nf', ns', o', r', pn')) ∧ pX10_transfer rf ac sl now di p0 p1 p2 = some (x, 0, ac', sl', now', di') ∧ iN nf' ns' now' ∧ iP o' r' pn' ac' di') ∨ (pX9_transfer nf ns o r pn p0 p1 p2 = some (.inl (3, nf, ns, o, r, pn)) ∧ pX10_transfer rf ac sl now di p0 p1 p2 = some (0, 1, ac, sl, now, di)) ∨ (pX9_transfer nf ns o r pn p0 p1 p2 = some (.inl (2, nf, ns, o, r, pn)) ∧ pX10_transfer rf ac sl now di p0 p1 p2 = some (0, 2, ac, sl, now, di)) := by
  obtain ⟨t, ht, rfl⟩ := arg_iz p0
  obtain ⟨i, hi, rfl⟩ := arg_iz p1
  obtain ⟨j, hj, rfl⟩ := arg_iz p2
  obtain ⟨T, U, hN2⟩ := hN
  obtain ⟨o', r', pn', ac', di', k1, k2, k3⟩ := remember_both hN2 hP
  obtain ⟨a1, a2, a3, a4, a5, a6⟩ := id hN2
  by_cases c : (t = 0 ∧ T i j ≠ -1) ∨ (t = 1 ∧ U i j ≠ -1)
  · rcases c with ⟨rfl, hc⟩ | ⟨rfl, hc⟩
    · have hb := a1.1 i j hc
      have h10 : pX2_table (1 - iz 0) = some false := by decide
      have e10 : (1 - iz 0) = iz 1 := by decide
      by_cases c1 : U 5 5 = -1
      · obtain ⟨x, f', u', now1, now', sl', y, q1, q2, q3, q4, q5⟩ := mover_0 hN2 hc c1 sl
        refine Or.inl ⟨x, f', u', o', r', pn', ac', sl', now', di', ?_, ?_, ⟨_, _, q5⟩, k3⟩
        · unfold pX9_transfer
          rw [tw_0 hN2 hi hj hc, bdE_r, cond_true, h10, bd1_some, cond_false, rg_yes a2.b a4 c1, bdE_r, k1, bd1_some, un3_mk, q1, bd1_some, un3_mk]
        · unfold pX10_transfer
          rw [hv_yes a1 a5 (by omega) (by omega) hc, e10, gp_yes a2 a6 (by omega) (by omega) c1, bd1_some, rf_0, k2, bd1_some, un2_mk, q2, bd1_some, q3, bd1_some, un2_mk, q4, bd1_some, un3_mk]
      · refine Or.inr (Or.inr ⟨?_, ?_⟩)
        · unfold pX9_transfer
          rw [tw_0 hN2 hi hj hc, bdE_r, cond_true, h10, bd1_some, cond_false, rg_no a2.b a4 c1, bdE_l]
        · unfold pX10_transfer
          rw [hv_yes a1 a5 (by omega) (by omega) hc, e10, gp_no a2 a6 (by omega) (by omega) c1, bd1_some, rf_2]
    · have hb := a2.1 i j hc
      have h10 : pX2_table (1 - iz 1) = some true := by decide
      have e10 : (1 - iz 1) = iz 0 := by decide
      by_cases c1 : T 5 5 = -1
      · obtain ⟨x, f', u', now1, now', sl', y, q1, q2, q3, q4, q5⟩ := mover_1 hN2 hc c1 sl
        refine Or.inl ⟨x, u', f', o', r', pn', ac', sl', now', di', ?_, ?_, ⟨_, _, q5⟩, k3⟩
        · unfold pX9_transfer
          rw [tw_1 hN2 hi hj hc, bdE_r, cond_false, h10, bd1_some, cond_true, rg_yes a1.b a3 c1, bdE_r, k1, bd1_some, un3_mk, q1, bd1_some, un3_mk]
        · unfold pX10_transfer
          rw [hv_yes a2 a6 (by omega) (by omega) hc, e10, gp_yes a1 a5 (by omega) (by omega) c1, bd1_some, rf_0, k2, bd1_some, un2_mk, q2, bd1_some, q3, bd1_some, un2_mk, q4, bd1_some, un3_mk]
      · refine Or.inr (Or.inr ⟨?_, ?_⟩)
        · unfold pX9_transfer
          rw [tw_1 hN2 hi hj hc, bdE_r, cond_false, h10, bd1_some, cond_true, rg_no a1.b a3 c1, bdE_l]
        · unfold pX10_transfer
          rw [hv_yes a2 a6 (by omega) (by omega) hc, e10, gp_no a1 a5 (by omega) (by omega) c1, bd1_some, rf_2]
  · refine Or.inr (Or.inl ⟨?_, ?_⟩)
    · unfold pX9_transfer
      rw [tw_no hN2 ht hi hj c, bdE_l]
    · unfold pX10_transfer
      rw [hv_no hN2 ht hi hj c, bd1_some, rf_1]

theorem cc_transpose {nf ns now : Nat → Int32} (hN : iN nf ns now) {o r : Int32} {pn : Nat → Int32} {ac : Int32} {di : Nat → Int32} (hP : iP o r pn ac di) (rf p0 : Int32) (tu : Nat → Int32) :
    (∃ x nf' ns' o' r' pn' ac' now' di' tu', pX9_transpose nf ns o r pn p0 = some (.inr (x, nf', ns', o', r', pn')) ∧ pX10_transpose rf ac now di tu p0 = some (x, 0, ac', now', di', tu') ∧ iN nf' ns' now' ∧ iP o' r' pn' ac' di') ∨ (pX9_transpose nf ns o r pn p0 = some (.inl (3, nf, ns, o, r, pn)) ∧ pX10_transpose rf ac now di tu p0 = some (0, 1, ac, now, di, tu)) := by
  obtain ⟨t, ht, rfl⟩ := arg_iz p0
  obtain ⟨T, U, hN2⟩ := hN
  obtain ⟨o', r', pn', ac', di', k1, k2, k3⟩ := remember_both hN2 hP
  obtain ⟨a1, a2, a3, a4, a5, a6⟩ := id hN2
  by_cases c : 0 ≤ t ∧ t ≤ 1
  · rcases t01 c with rfl | rfl
    · obtain ⟨f', q1, q2⟩ := pX7_flip_iz a1.b a3
      obtain ⟨tu', g', q3, q4, q5⟩ := pX10_transposeOn_iz (w := tu) a1.s a5 (by omega) (by omega)
      refine Or.inl ⟨iz (tall (flT T) 0), f', ns, o', r', pn', ac', g', di', tu', ?_, ?_, ⟨flT T, U, fl_ok a1, a2, q2, a4, q4, a6.out a2.b q5 (by omega) (by omega) (by omega)⟩, k3⟩
      · unfold pX9_transpose
        rw [ex_0, bdE_r, cond_true, k1, bd1_some, un3_mk, q1, bd1_some, iz_0, pX7_columnLength_iz (fl_ok a1).b q2 (by omega) (by omega), bd1_some]
      · unfold pX10_transpose
        rw [rt_yes c rfl, rf_0, k2, bd1_some, un2_mk, q3, bd1_some, un2_mk, pX10_rows_iz (fl_ok a1).s q4 (by omega) (by omega), bd1_some]
    · obtain ⟨f', q1, q2⟩ := pX7_flip_iz a2.b a4
      obtain ⟨tu', g', q3, q4, q5⟩ := pX10_transposeOn_iz (w := tu) a2.s a6 (by omega) (by omega)
      refine Or.inl ⟨iz (tall (flT U) 0), nf, f', o', r', pn', ac', g', di', tu', ?_, ?_, ⟨T, flT U, a1, fl_ok a2, a3, q2, a5.out a1.b q5 (by omega) (by omega) (by omega), q4⟩, k3⟩
      · unfold pX9_transpose
        rw [ex_1, bdE_r, cond_false, k1, bd1_some, un3_mk, q1, bd1_some, iz_0, pX7_columnLength_iz (fl_ok a2).b q2 (by omega) (by omega), bd1_some]
      · unfold pX10_transpose
        rw [rt_yes c rfl, rf_0, k2, bd1_some, un2_mk, q3, bd1_some, un2_mk, pX10_rows_iz (fl_ok a2).s q4 (by omega) (by omega), bd1_some]
  · refine Or.inr ⟨?_, ?_⟩
    · unfold pX9_transpose
      rw [ex_no ht c, bdE_l]
    · unfold pX10_transpose
      rw [rt_no ht c, rf_1]

theorem cc_exchange {nf ns now : Nat → Int32} (hN : iN nf ns now) {o r : Int32} {pn : Nat → Int32} {ac : Int32} {di : Nat → Int32} (hP : iP o r pn ac di) (rf : Int32) (tu : Nat → Int32) :
    ∃ x nf' ns' o' r' pn' ac' now' di' tu', pX9_exchange nf ns o r pn = some (x, nf', ns', o', r', pn') ∧ pX10_exchange rf ac now di tu = some (x, 0, ac', now', di', tu') ∧ iN nf' ns' now' ∧ iP o' r' pn' ac' di' := by
  obtain ⟨T, U, hN2⟩ := hN
  obtain ⟨o', r', pn', ac', di', k1, k2, k3⟩ := remember_both hN2 hP
  obtain ⟨a1, a2, a3, a4, a5, a6⟩ := id hN2
  obtain ⟨f', u', q1, q2, q3⟩ := pX7_swapWith_iz a3 a4
  have hT0 : pX2_table 0 = some true := by decide
  have m1 : tM U 0 (cpW (cpW now tu 0 0 42) (cpW now now 42 0 42) 0 42 42) := by
    have q := tN.cp (q := 0) (n := 42) (p0 := 42) now a2.b (show tN U (42 * 1) now from a6) (by omega) (by omega) (by omega) (by omega)
    rw [show 0 + (42 * 1 - 42) = 42 * (0 : Int) by omega] at q
    exact q.keep a2.b (by omega) (by omega)
  have m2 : tM T 1 (cpW (cpW now tu 0 0 42) (cpW now now 42 0 42) 0 42 42) := by
    have q := tN.cp (q := 0) (n := 42) (p0 := 0) tu a1.b (show tN T (42 * 0) now from a5) (by omega) (by omega) (by omega) (by omega)
    have q' := tN.cp (q := 42) (n := 42) (p0 := 0) (cpW now now 42 0 42) a1.b q (by omega) (by omega) (by omega) (by omega)
    rw [show 42 + (0 + (42 * 0 - 0) - 0) = 42 * (1 : Int) by omega] at q'
    exact q'
  refine ⟨iz (cnt U), f', u', o', r', pn', ac', cpW (cpW now tu 0 0 42) (cpW now now 42 0 42) 0 42 42, di', cpW now tu 0 0 42, ?_, ?_, ⟨U, T, a2, a1, q2, q3, m1, m2⟩, k3⟩
  · unfold pX9_exchange pX2_swap
    rw [k1, bd1_some, un3_mk, q1, bd1_some, un2_mk, bd1_some, un2_mk, hT0, bd1_some, cond_true, pX7_cells_iz a2.b q2, bd1_some]
  · unfold pX10_exchange
    simp only [iz_0, iz_42]
    rw [k2, bd1_some, un2_mk, pX10_copy_iz (by omega) (by omega) (by omega) (by omega) (by omega) (by omega) (by omega) (by omega), bd1_some, pX10_copy_s_iz (by omega) (by omega) (by omega) (by omega) (by omega) (by omega) (by omega), bd1_some, pX10_copy_iz (by omega) (by omega) (by omega) (by omega) (by omega) (by omega) (by omega) (by omega), bd1_some, pX10_many_iz a2.b m1 (by omega) (by omega), bd1_some]
