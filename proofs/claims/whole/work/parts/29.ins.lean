-- gaps, and inserting
def gapAt (T : Tb) (i : Int) : Prop := len T i < (if i = 0 then 6 else len T (i - 1))
theorem gapAt_dec (T : Tb) (i : Int) : gapAt T i ∨ ¬ gapAt T i := Classical.em _
noncomputable def gr (T : Tb) : Nat → Int
  | 0 => -9
  | k + 1 => @ite _ (gapAt T k) (Classical.propDecidable _) (if gr T k = -9 then (k : Int) else if (k : Int) + len T k < gr T k + len T (gr T k) then (k : Int) else gr T k) (gr T k)
theorem gr_s (T : Tb) (k : Nat) : (gapAt T k ∧ gr T (k + 1) = (if gr T k = -9 then (k : Int) else if (k : Int) + len T k < gr T k + len T (gr T k) then (k : Int) else gr T k)) ∨ (¬ gapAt T k ∧ gr T (k + 1) = gr T k) := by
  rw [gr]
  by_cases c : gapAt T k
  · exact Or.inl ⟨c, by rw [if_pos c]⟩
  · exact Or.inr ⟨c, by rw [if_neg c]⟩
theorem gr_spec (T : Tb) : ∀ k : Nat, (gr T k = -9 ∧ ∀ i : Int, 0 ≤ i → i < k → ¬ gapAt T i) ∨ (0 ≤ gr T k ∧ gr T k < k ∧ gapAt T (gr T k)) := by
  intro k
  induction k with
  | zero => exact Or.inl ⟨rfl, fun i h1 h2 => by omega⟩
  | succ k ih =>
    rcases gr_s T k with ⟨h1, h2⟩ | ⟨h1, h2⟩
    · rw [h2]
      refine Or.inr ?_
      rcases ih with ⟨i1, -⟩ | ⟨i1, i2, i3⟩
      · rw [if_pos i1]
        exact ⟨by omega, by omega, h1⟩
      · rw [if_neg (by omega)]
        by_cases c : (k : Int) + len T k < gr T k + len T (gr T k)
        · rw [if_pos c]
          exact ⟨by omega, by omega, h1⟩
        · rw [if_neg c]
          exact ⟨i1, by omega, i3⟩
    · rw [h2]
      rcases ih with ⟨i1, i2⟩ | ⟨i1, i2, i3⟩
      · refine Or.inl ⟨i1, fun i a b => ?_⟩
        by_cases c : i = k
        · rw [c]; exact h1
        · exact i2 i a (by omega)
      · exact Or.inr ⟨i1, by omega, i3⟩
theorem pX9_placeOf_iz (i j : Int) : pX9_placeOf (iz i) (iz j) = some (iz (10 * i + j)) := by
  unfold pX9_placeOf
  rw [iz_10, iz_mul, iz_add]
theorem pX9_rowOf_iz {i j : Int} (h1 : 0 ≤ i) (h2 : i ≤ 1000) (h3 : 0 ≤ j) (h4 : j < 10) : pX9_rowOf (iz (10 * i + j)) = some (iz i) := by
  unfold pX9_rowOf
  rw [iz_10, iz_divn (by omega) (by omega) (by omega) (by omega)]
  congr 2
  omega
theorem pX9_columnOf_iz {i j : Int} (h1 : 0 ≤ i) (h2 : i ≤ 1000) (h3 : 0 ≤ j) (h4 : j < 10) : pX9_columnOf (iz (10 * i + j)) = some (iz j) := by
  unfold pX9_columnOf
  rw [iz_10, iz_rem (by omega) (by omega) (by omega) (by omega)]
  congr 2
  omega
theorem pX7_nearestGap_iz {T : Tb} {f : Nat → Int32} (hB : tB T) (h : tX T f) : pX7_nearestGap f = some (iz (if gr T 6 = -9 then -9 else 10 * gr T 6 + len T (gr T 6))) := by
  unfold pX7_nearestGap
  simp only [iz_0, iz_6, iz_12, iz_9, iz_neg]
  have hl : lpI lpF (un4 (pX7_nearestGap_L12 f)) (iz 0, iz 6, iz 12, iz (-9)) = some (iz (if gr T 6 = -9 then -9 else 10 * gr T 6 + len T (gr T 6))) := by
    refine lp_cf (fun i => (iz (if i = 0 then 6 else len T (i - 1)), iz (if gr T i.toNat = -9 then 12 else gr T i.toNat + len T (gr T i.toNat)), iz (if gr T i.toNat = -9 then -9 else 10 * gr T i.toNat + len T (gr T i.toNat)))) 0 6 _ (by omega) (by omega) (fun i h1 h2 => ?_) ?_
    · rw [un4_mk]
      unfold pX7_nearestGap_L12
      have b1 := len_b T i
      have b2 := len_b T (i - 1)
      have b3 := len_b T (gr T i.toNat)
      have sp := gr_spec T i.toNat
      have ec : ((i.toNat : Nat) : Int) = i := by omega
      simp only [iz_6, iz_1, iz_add]
      rw [ifz_le (by omega) (by omega) (by omega) (by omega), if_neg (by omega), pX7_rowLength_iz hB h (by omega) (by omega), bd1_some]
      rw [show (i + 1).toNat = i.toNat + 1 by omega]
      have hg : (if i = 0 then 6 else len T (i - 1)) ≤ 6 ∧ 0 ≤ (if i = 0 then 6 else len T (i - 1)) := by
        by_cases c : i = 0
        · rw [if_pos c]; omega
        · rw [if_neg c]; omega
      have hq : -9 ≤ gr T i.toNat ∧ gr T i.toNat ≤ 6 := by omega
      have hf : 0 ≤ (if gr T i.toNat = -9 then 12 else gr T i.toNat + len T (gr T i.toNat)) ∧ (if gr T i.toNat = -9 then 12 else gr T i.toNat + len T (gr T i.toNat)) ≤ 12 := by
        by_cases c : gr T i.toNat = -9
        · rw [if_pos c]; omega
        · rw [if_neg c]; omega
      rw [ifz_le (by omega) (by omega) (by omega) (by omega), iz_add, ifz_le (by omega) (by omega) (by omega) (by omega)]
      rw [if_neg (show ¬ i + 1 = 0 by omega), show i + 1 - 1 = i by omega]
      rcases gr_s T i.toNat with ⟨g1, g2⟩ | ⟨g1, g2⟩
      · rw [ec] at g1 g2
        unfold gapAt at g1
        rw [if_neg (by omega), g2]
        by_cases c : gr T i.toNat = -9
        · simp only [c, if_true]
          rw [if_neg (by omega), pX9_placeOf_iz, bd1_some, if_neg (by omega)]
          rw [if_neg (show ¬ i = -9 by omega)]
        · simp only [c, if_false]
          by_cases c2 : i + len T i < gr T i.toNat + len T (gr T i.toNat)
          · rw [if_neg (by omega), pX9_placeOf_iz, bd1_some, if_pos c2, if_neg (by omega), if_neg (by omega)]
          · rw [if_pos (by omega), if_neg c2, if_neg c, if_neg c]
      · rw [ec] at g1
        unfold gapAt at g1
        rw [if_pos (by omega), g2]
    · rw [un4_mk]
      unfold pX7_nearestGap_L12
      simp only [iz_6]
      rw [ifz_le (by omega) (by omega) (by omega) (by omega), if_pos (by omega)]
      rfl
  rw [hl, bd1_some]
theorem pX10_isGap_iz {T : Tb} {g : Nat → Int32} {t : Int} (hB : tB T) (h : tM T t g) (ht : 0 ≤ t) (ht2 : t ≤ 1) {i : Int} (h1 : 0 ≤ i) (h2 : i < 6) : (gapAt T i ∧ pX10_isGap g (iz t) (iz i) = some (iz 1)) ∨ (¬ gapAt T i ∧ pX10_isGap g (iz t) (iz i) = some (iz 0)) := by
  unfold pX10_isGap gapAt
  have b1 := len_b T i
  have b2 := len_b T (i - 1)
  simp only [iz_0, iz_1, iz_6, iz_sub]
  rw [pX10_length_iz hB h ht ht2 (by omega) (by omega), bd1_some, ifz_le (by omega) (by omega) (by omega) (by omega), ifz_eq (by omega) (by omega) (by omega) (by omega), pX10_length_iz hB h ht ht2 (by omega) (by omega), bd1_some, ifz_le (by omega) (by omega) (by omega) (by omega)]
  by_cases c : i = 0
  · rw [if_pos c, if_pos c]
    by_cases c2 : 6 ≤ len T i
    · rw [if_pos c2]; exact Or.inr ⟨by omega, rfl⟩
    · rw [if_neg c2]; exact Or.inl ⟨by omega, rfl⟩
  · rw [if_neg c, if_neg c]
    by_cases c2 : len T (i - 1) ≤ len T i
    · rw [if_pos c2]
      refine Or.inr ⟨by omega, ?_⟩
      by_cases c3 : 6 ≤ len T i
      · rw [if_pos c3]
      · rw [if_neg c3]
    · rw [if_neg c2, if_neg (by omega)]
      exact Or.inl ⟨by omega, rfl⟩
theorem pX10_gapRow_iz {T : Tb} {g : Nat → Int32} {t : Int} (hB : tB T) (h : tM T t g) (ht : 0 ≤ t) (ht2 : t ≤ 1) : pX10_gapRow g (iz t) = some (iz (gr T 6)) := by
  unfold pX10_gapRow
  simp only [iz_0, iz_9, iz_neg]
  have hl : lpI lpF (un2 (pX10_gapRow_L5 g (iz t))) (iz 0, iz (-9)) = some (iz (gr T 6)) := by
    refine lp_cf (fun i => iz (gr T i.toNat)) 0 6 _ (by omega) (by omega) (fun i h1 h2 => ?_) ?_
    · rw [un2_mk]
      unfold pX10_gapRow_L5
      have b1 := len_b T i
      have b3 := len_b T (gr T i.toNat)
      have sp := gr_spec T i.toNat
      have ec : ((i.toNat : Nat) : Int) = i := by omega
      have hq : -9 ≤ gr T i.toNat ∧ gr T i.toNat ≤ 6 := by omega
      simp only [iz_0, iz_6, iz_1, iz_9, iz_neg, iz_add]
      rw [ifz_le (by omega) (by omega) (by omega) (by omega), if_neg (by omega), show (i + 1).toNat = i.toNat + 1 by omega]
      have hgs := gr_s T i.toNat
      rw [ec] at hgs
      rcases pX10_isGap_iz hB h ht ht2 h1 h2 with ⟨a1, a2⟩ | ⟨a1, a2⟩
      · rw [a2, bd1_some, ifz_eq (by omega) (by omega) (by omega) (by omega), if_neg (by omega), ifz_eq (by omega) (by omega) (by omega) (by omega), pX10_length_iz hB h ht ht2 (by omega) (by omega), bd1_some, pX10_length_iz hB h ht ht2 (by omega) (by omega), bd1_some, iz_add, iz_add, ifz_le (by omega) (by omega) (by omega) (by omega)]
        rcases hgs with ⟨g1, g2⟩ | ⟨g1, g2⟩
        · rw [g2]
          by_cases c : gr T i.toNat = -9
          · rw [if_pos c, if_pos c]
          · rw [if_neg c, if_neg c]
            by_cases c2 : i + len T i < gr T i.toNat + len T (gr T i.toNat)
            · rw [if_pos c2, if_neg (by omega)]
            · rw [if_neg c2, if_pos (by omega)]
        · exact absurd a1 g1
      · rw [a2, bd1_some, if_pos rfl]
        rcases hgs with ⟨g1, g2⟩ | ⟨g1, g2⟩
        · exact absurd g1 a1
        · rw [g2]
    · rw [un2_mk]
      unfold pX10_gapRow_L5
      simp only [iz_6]
      rw [ifz_le (by omega) (by omega) (by omega) (by omega), if_pos (by omega)]
      rfl
  rw [hl, bd1_some]
/-- a cell more, at a gap -/
theorem gap_hole {T : Tb} (h : tOK T) {g v : Int} (h1 : 0 ≤ g) (h2 : g < 6) (hg : gapAt T g) (hv : v ≠ -1) : hH (tset T g (len T g) v) g (len T g) ∧ T g (len T g) = -1 ∧ len T g < 6 ∧ tset T g (len T g) v (g + 1) (len T g) = -1 ∧ tset T g (len T g) v g (len T g + 1) = -1 := by
  have b1 := len_b T g
  have b2 := len_b T (g - 1)
  unfold gapAt at hg
  have hlt : len T g < 6 ∧ (0 < g → len T g < len T (g - 1)) := by
    by_cases c : g = 0
    · rw [if_pos c] at hg; omega
    · rw [if_neg c] at hg; omega
  have z0 : T g (len T g) = -1 := by
    by_cases c : T g (len T g) = -1
    · exact c
    · have := (len_spec h.s g (len T g) (by omega)).mp c; omega
  have d1 := len_dec h.s g h1
  have z1 : T (g + 1) (len T g) = -1 := by
    by_cases c : T (g + 1) (len T g) = -1
    · exact c
    · have := (len_spec h.s (g + 1) (len T g) (by omega)).mp c; omega
  have z2 : T g (len T g + 1) = -1 := by
    by_cases c : T g (len T g + 1) = -1
    · exact c
    · have := (len_spec h.s g (len T g + 1) (by omega)).mp c; omega
  have y1 : tset T g (len T g) v (g + 1) (len T g) = -1 := by rw [tset_ne _ _ _ _ (by omega)]; exact z1
  have y2 : tset T g (len T g) v g (len T g + 1) = -1 := by rw [tset_ne _ _ _ _ (by omega)]; exact z2
  refine ⟨⟨fun a b hc => ?_, fun a b hc => ?_, fun a b hc ha n1 n2 => ?_, fun a b hc hb n1 n2 => ?_, fun hc => absurd y1 hc, fun hc => absurd y2 hc⟩, z0, hlt.1, y1, y2⟩
  · by_cases c : a = g ∧ b = len T g
    · obtain ⟨rfl, rfl⟩ := c
      exact ⟨h1, h2, by omega, by omega, fun n => by omega⟩
    · rw [tset_ne _ _ _ _ (by omega)] at hc ⊢
      have := h.1 a b hc
      exact ⟨by omega, by omega, by omega, by omega, fun _ => by omega⟩
  · by_cases c : a = g ∧ b = len T g
    · obtain ⟨rfl, rfl⟩ := c
      refine ⟨fun ha => ?_, fun hb => ?_⟩
      · rw [tset_ne _ _ _ _ (by omega)]
        exact (len_spec h.s _ _ (by omega)).mpr (hlt.2 ha)
      · rw [tset_ne _ _ _ _ (by omega)]
        exact (len_spec h.s _ _ (by omega)).mpr (by omega)
    · rw [tset_ne _ _ _ _ (by omega)] at hc
      refine ⟨fun ha => ?_, fun hb => ?_⟩
      · by_cases c2 : a - 1 = g ∧ b = len T g
        · obtain ⟨e1, rfl⟩ := c2
          rw [e1, tset_at]; exact hv
        · rw [tset_ne _ _ _ _ (by omega)]
          exact (h.2.1 a b hc ha).1
      · by_cases c2 : a = g ∧ b - 1 = len T g
        · obtain ⟨rfl, e1⟩ := c2
          rw [e1, tset_at]; exact hv
        · rw [tset_ne _ _ _ _ (by omega)]
          exact (h.2.2 a b hc hb).1
  · rw [tset_ne _ _ _ _ n1] at hc ⊢
    rw [tset_ne _ _ _ _ n2]
    exact (h.2.1 a b hc ha).2
  · rw [tset_ne _ _ _ _ n1] at hc ⊢
    rw [tset_ne _ _ _ _ n2]
    exact (h.2.2 a b hc hb).2
theorem len_grow {T : Tb} {g v : Int} (h : tOK T) (hz : T g (len T g) = -1) (hl : len T g < 6) (hv : v ≠ -1) (a : Int) : len (tset T g (len T g) v) a = if a = g then len T g + 1 else len T a := by
  have b1 := len_b T g
  by_cases c : a = g
  · subst c
    rw [if_pos rfl]
    have key : ∀ j, ex (tset T a (len T a) v) a j = ex T a j + (if j = len T a then 1 else 0) := by
      intro j
      unfold ex
      by_cases c : j = len T a
      · subst c
        rw [tset_at, if_neg hv, if_pos hz, if_pos rfl]; rfl
      · rw [tset_ne _ _ _ _ (by omega), if_neg c]; omega
    rw [len_6, key, key, key, key, key, key, len_6 T a]
    rw [len_6] at hl b1
    rcases (show len T a = 0 ∨ len T a = 1 ∨ len T a = 2 ∨ len T a = 3 ∨ len T a = 4 ∨ len T a = 5 by rw [len_6]; omega) with e | e | e | e | e | e <;> rw [len_6] at e <;> rw [e] <;> simp <;> omega
  · rw [if_neg c]
    unfold len
    refine sumI_congr (fun k _ _ => ?_)
    unfold ex
    rw [tset_ne _ _ _ _ (by omega)]
