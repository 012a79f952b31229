-- inserting, on both sides
theorem pX7_slideUp_iz {v : Int} (hv : 0 ≤ v) (hv2 : v ≤ 100) {T : Tb} {f : Nat → Int32} {i j : Int} (hB : tB T) (hX : tX T f) (hT : T i j = v) (h1 : 0 ≤ i) (h2 : i < 6) (h3 : 0 ≤ j) (h4 : j < 6) :
    ∃ f', pX7_slideUp f (iz i) (iz j) = some (iz (10 * (su v 12 T i j).2.1 + (su v 12 T i j).2.2.1), f') ∧ tX (su v 12 T i j).1 f' ∧ tB (su v 12 T i j).1 ∧ 0 ≤ (su v 12 T i j).2.1 ∧ (su v 12 T i j).2.1 < 6 ∧ 0 ≤ (su v 12 T i j).2.2.1 ∧ (su v 12 T i j).2.2.1 < 6 := by
  obtain ⟨f', r1, r2⟩ := su_X hv hv2 12 lpF 0 T f i j hB hX h1 h2 h3 h4 (by omega) (by unfold lpF; omega) (by omega) (by omega)
  refine ⟨f', ?_, r2⟩
  unfold pX7_slideUp
  rw [pX7_at_iz hB hX (by omega) (by omega) (by omega) (by omega), bd1_some, hT, iz_0, r1, bd1_some, un3_mk, pX9_placeOf_iz, bd1_some]
theorem pX10_slideUp_iz {v : Int} (hv : 0 ≤ v) (hv2 : v ≤ 100) {t : Int} (ht : 0 ≤ t) (ht2 : t ≤ 1) {T : Tb} {g : Nat → Int32} {i j sl : Int} (hS : tS T) (hM : tM T t g) (hT : T i j = v) :
    ∃ g', pX10_slideUp (iz sl) g (iz t) (iz (10 * i + j)) = some (iz (10 * (su v 12 T i j).2.1 + (su v 12 T i j).2.2.1), iz (sl + (su v 12 T i j).2.2.2), g') ∧ tM (su v 12 T i j).1 t g' ∧ tS (su v 12 T i j).1 ∧ sameOut t g g' := by
  have hb := hS.1 i j (by omega)
  obtain ⟨g', r1, r2⟩ := su_M hv hv2 ht ht2 12 lpF sl T g g i j hS hM (sameOut.rf t g) (by omega) (by omega) (by unfold lpF; omega)
  refine ⟨g', ?_, r2⟩
  unfold pX10_slideUp
  rw [iz_10, iz_divn (by omega) (by omega) (by omega) (by omega), iz_rem (by omega) (by omega) (by omega) (by omega)]
  rw [show (10 * i + j) / 10 = i by omega, show (10 * i + j) % 10 = j by omega]
  rw [pX10_get_iz hM ht ht2 (by omega) (by omega) (by omega) (by omega) (by omega), bd1_some, hT, iz_1, r1, bd1_some, un4_mk, iz_mul, iz_add]
noncomputable def insT (T : Tb) (v : Int) : Tb × Int × Int × Int := su v 12 (tset T (gr T 6) (len T (gr T 6)) v) (gr T 6) (len T (gr T 6))
theorem ins_ok {T : Tb} (h : tOK T) {v : Int} (hv : 0 ≤ v) (hv2 : v ≤ 99) (hg : gr T 6 ≠ -9) : tOK (insT T v).1 ∧ (insT T v).2.2.2 = gr T 6 + len T (gr T 6) - (insT T v).2.1 - (insT T v).2.2.1 := by
  rcases gr_spec T 6 with ⟨a, -⟩ | ⟨a, b, c⟩
  · exact absurd a hg
  · obtain ⟨h1, h2, h3, h4, h5⟩ := gap_hole h a b c (v := v) (by omega)
    have b1 := len_b T (gr T 6)
    obtain ⟨r1, r2, r3, r4, r5, r6, r7⟩ := su_inv hv hv2 12 _ _ _ h1 (tset_at _ _ _ _) (by omega)
    have r8 := r7 (Or.inl h4) (Or.inl h5)
    refine ⟨r1.done (by rw [r2]; exact hv) (by rw [r2]; exact hv2) (by rw [r2]; exact r3) (by rw [r2]; exact r4) (fun hc => ?_) (fun hc => ?_), r6⟩
    · rw [r2]
      rcases r8.1 with q | q
      · exact absurd q hc
      · exact q
    · rw [r2]
      rcases r8.2 with q | q
      · exact absurd q hc
      · exact q
theorem pX7_takeIn_no {T : Tb} {f : Nat → Int32} (hB : tB T) (h : tX T f) (hg : gr T 6 = -9) (x : Int32) : pX7_takeIn f x = some (iz (-9), f) := by
  unfold pX7_takeIn
  rw [pX7_nearestGap_iz hB h, bd1_some, if_pos hg]
  simp only [iz_9, iz_neg]
  rw [if_pos trivial]
theorem pX7_takeIn_iz {T : Tb} {f : Nat → Int32} (hK : tOK T) (h : tX T f) {v : Int} (hv : 0 ≤ v) (hv2 : v ≤ 99) (hg : gr T 6 ≠ -9) :
    ∃ f', pX7_takeIn f (iz v) = some (iz (10 * (insT T v).2.1 + (insT T v).2.2.1), f') ∧ tX (insT T v).1 f' ∧ 0 ≤ (insT T v).2.1 ∧ (insT T v).2.1 < 6 ∧ 0 ≤ (insT T v).2.2.1 ∧ (insT T v).2.2.1 < 6 := by
  rcases gr_spec T 6 with ⟨a, -⟩ | ⟨a, b, c⟩
  · exact absurd a hg
  · obtain ⟨h1, h2, h3, h4, h5⟩ := gap_hole hK a b c (v := v) (by omega)
    have b1 := len_b T (gr T 6)
    have hX1 := h.set (v := v) (i := gr T 6) (j := len T (gr T 6)) (by omega) (by omega) (by omega) h3
    have hB1 := hK.b.set (i := gr T 6) (j := len T (gr T 6)) (v := v) (by omega) (by omega) (by omega) h3 hv (by omega)
    obtain ⟨f', r1, r2, r3, r4⟩ := pX7_slideUp_iz hv (by omega) hB1 hX1 (tset_at _ _ _ _) a (by omega) (by omega) h3
    refine ⟨f', ?_, r2, r4⟩
    unfold pX7_takeIn
    rw [pX7_nearestGap_iz hK.b h, bd1_some, if_neg hg]
    simp only [iz_9, iz_neg]
    rw [ifz_eq (by omega) (by omega) (by omega) (by omega), if_neg (by omega)]
    simp only [pX9_rowOf_iz a (by omega : gr T 6 ≤ 1000) (by omega : 0 ≤ len T (gr T 6)) (by omega), pX9_columnOf_iz a (by omega : gr T 6 ≤ 1000) (by omega : 0 ≤ len T (gr T 6)) (by omega), bd1_some]
    rw [pX7_put_iz a (by omega) (by omega) h3, bd1_some, r1, bd1_some, un2_mk]
    rfl
theorem pX10_insertOn_iz {T : Tb} {g : Nat → Int32} {t : Int} (hK : tOK T) (h : tM T t g) (ht : 0 ≤ t) (ht2 : t ≤ 1) {v : Int} (hv : 0 ≤ v) (hv2 : v ≤ 99) (hg : gr T 6 ≠ -9) (sl : Int32) :
    ∃ g', pX10_insertOn sl g (iz t) (iz v) = some (iz (10 * (insT T v).2.1 + (insT T v).2.2.1), iz (insT T v).2.2.2, g') ∧ tM (insT T v).1 t g' ∧ sameOut t g g' := by
  rcases gr_spec T 6 with ⟨a, -⟩ | ⟨a, b, c⟩
  · exact absurd a hg
  · obtain ⟨h1, h2, h3, h4, h5⟩ := gap_hole hK a b c (v := v) (by omega)
    have b1 := len_b T (gr T 6)
    have hS1 : tS (tset T (gr T 6) (len T (gr T 6)) v) := h1.s (Or.inr (by rw [tset_at]; omega))
    have hM1 : tM (tset T (gr T 6) (len T (gr T 6)) v) t (upd (upd g (42 * t + 36 + gr T 6).toNat (iz (len T (gr T 6) + 1))) (42 * t + 6 * gr T 6 + len T (gr T 6)).toNat (iz v)) := by
      refine ⟨fun x hx hx2 => ?_, fun x y hxy => ?_⟩
      · rw [len_grow hK h2 h3 (by omega)]
        unfold upd
        rw [if_neg (by omega)]
        by_cases c9 : x = gr T 6
        · rw [if_pos (by omega), if_pos c9]
        · rw [if_neg (by omega), if_neg c9, h.1 x hx hx2]
      · have hb := hS1.1 x y hxy
        unfold upd
        by_cases c9 : x = gr T 6 ∧ y = len T (gr T 6)
        · obtain ⟨rfl, rfl⟩ := c9
          rw [if_pos rfl, tset_at]
        · rw [if_neg (by omega), if_neg (by omega)]
          rw [tset_ne _ _ _ _ (by omega)] at hxy ⊢
          exact h.2 x y hxy
    obtain ⟨g', r1, r2, r3, r4⟩ := pX10_slideUp_iz (sl := 0) hv (by omega) ht ht2 hS1 hM1 (tset_at _ _ _ _)
    refine ⟨g', ?_, r2, fun k hk => ?_⟩
    · unfold pX10_insertOn
      rw [pX10_gapRow_iz hK.b h ht ht2, bd1_some, pX10_length_iz hK.b h ht ht2 (by omega) (by omega), bd1_some]
      simp only [iz_42, iz_36, iz_1, iz_10, iz_0, iz_mul, iz_add]
      rw [gI_iz (by omega) (by omega) (by omega), bd1_some, h.1 _ a (by omega), iz_add, sI_iz (by omega) (by omega) (by omega), bd1_some, pX10_set_iz ht ht2 a (by omega) (by omega) h3, bd1_some, r1, bd1_some, un3_mk]
      show some (_, iz (0 + _), _) = _
      rw [show ∀ z : Int, 0 + z = z from fun z => by omega]
      rfl
    · rw [r4 k hk]
      unfold upd
      rw [if_neg (by omega), if_neg (by omega)]
