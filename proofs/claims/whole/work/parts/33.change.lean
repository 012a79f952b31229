-- changing a number, on both sides
theorem sd_M {v : Int} (hv : 0 ≤ v) (hv2 : v ≤ 99) {t : Int} (ht : 0 ≤ t) (ht2 : t ≤ 1) : ∀ (n m : Nat) (T : Tb) (g g0 : Nat → Int32) (i j : Int), tS T → tM T t g → sameOut t g0 g → T i j ≠ -1 → 11 - i - j ≤ n → n + 1 ≤ m →
    ∃ g', lpI m (un4 (pX10_slideDown_L24 (iz t) (iz v))) (iz 1, iz j, iz i, g) = some (iz (sd v n T i j).2.2, iz (sd v n T i j).2.1, g') ∧ tM (sd v n T i j).1 t g' ∧ tS (sd v n T i j).1 ∧ sameOut t g0 g' := by
  intro n
  induction n with
  | zero =>
    intro m T g g0 i j hS hM hO hc h
    have := hS.1 i j hc
    omega
  | succ n ih =>
    intro m T g g0 i j hS hM hO hc h5 h6
    obtain ⟨m, rfl⟩ : ∃ m', m = m' + 1 := ⟨m - 1, by omega⟩
    have hb := hS.1 i j hc
    have b1 := hS.1.lo (i + 1) j
    have b2 := hS.1.lo i (j + 1)
    have eB := pX10_isCell_iz hS hM ht ht2 (i := i + 1) (j := j) (by omega) (by omega) (by omega) (by omega)
    have eR := pX10_isCell_iz hS hM ht ht2 (i := i) (j := j + 1) (by omega) (by omega) (by omega) (by omega)
    have fB : (if (if T (i + 1) j = -1 then iz 0 else iz 1) = iz 0 then some (iz 1000) else bd1 (pX10_get g (iz t) (iz (i + 1)) (iz j)) (fun v21 => some v21)) = some (iz (lo1 (T (i + 1) j))) := by
      unfold lo1
      by_cases c : T (i + 1) j = -1
      · rw [if_pos c, if_pos c, if_pos rfl]
      · have := hS.1 _ _ c
        rw [if_neg c, if_neg c, if_neg iz1_ne, pX10_get_iz hM ht ht2 c (by omega) (by omega) (by omega) (by omega), bd1_some]
    have fR : (if (if T i (j + 1) = -1 then iz 0 else iz 1) = iz 0 then some (iz 1000) else bd1 (pX10_get g (iz t) (iz i) (iz (j + 1))) (fun v28 => some v28)) = some (iz (lo1 (T i (j + 1)))) := by
      unfold lo1
      by_cases c : T i (j + 1) = -1
      · rw [if_pos c, if_pos c, if_pos rfl]
      · have := hS.1 _ _ c
        rw [if_neg c, if_neg c, if_neg iz1_ne, pX10_get_iz hM ht ht2 c (by omega) (by omega) (by omega) (by omega), bd1_some]
    have kP : (lo1 (T (i + 1) j) = T (i + 1) j ∧ T (i + 1) j ≠ -1) ∨ (lo1 (T (i + 1) j) = 1000 ∧ T (i + 1) j = -1) := by
      unfold lo1
      by_cases c : T (i + 1) j = -1
      · rw [if_pos c]; exact Or.inr ⟨rfl, c⟩
      · rw [if_neg c]; exact Or.inl ⟨rfl, c⟩
    have kL : (lo1 (T i (j + 1)) = T i (j + 1) ∧ T i (j + 1) ≠ -1) ∨ (lo1 (T i (j + 1)) = 1000 ∧ T i (j + 1) = -1) := by
      unfold lo1
      by_cases c : T i (j + 1) = -1
      · rw [if_pos c]; exact Or.inr ⟨rfl, c⟩
      · rw [if_neg c]; exact Or.inl ⟨rfl, c⟩
    rw [sd]
    obtain ⟨P, hP⟩ : ∃ P, P = lo1 (T (i + 1) j) := ⟨_, rfl⟩
    obtain ⟨L, hL⟩ : ∃ L, L = lo1 (T i (j + 1)) := ⟨_, rfl⟩
    rw [← hP] at fB kP ⊢
    rw [← hL] at fR kL ⊢
    by_cases c0 : v ≤ P ∧ v ≤ L
    · rw [if_pos c0]
      have hb1 : un4 (pX10_slideDown_L24 (iz t) (iz v)) (iz 1, iz j, iz i, g) = some (.inl (iz 0, iz j, iz i, g)) := by
        rw [un4_mk]
        unfold pX10_slideDown_L24
        simp only [iz_0, iz_1, iz_1000, iz_add]
        rw [if_neg iz1_ne, eB, bd1_some, fB, bd1_some, eR, bd1_some, fR, bd1_some, ifz_lt (by omega) (by omega) (by omega) (by omega), if_neg (by omega), ifz_le (by omega) (by omega) (by omega) (by omega), if_pos (by omega), bd1_some, if_pos rfl]
      have hb2 : un4 (pX10_slideDown_L24 (iz t) (iz v)) (iz 0, iz j, iz i, g) = some (.inr (iz j, iz i, g)) := by
        rw [un4_mk]
        unfold pX10_slideDown_L24
        rw [iz_0, if_pos rfl]
      obtain ⟨m, rfl⟩ : ∃ m', m = m' + 1 := ⟨m - 1, by omega⟩
      rw [lpI_c hb1, lpI_x hb2]
      exact ⟨g, rfl, hM, hS, hO⟩
    · rw [if_neg c0]
      have e1 : (if P < v then some (iz 1) else if v ≤ L then some (iz 0) else some (iz 1)) = some (iz 1) := by
        by_cases c : P < v
        · rw [if_pos c]
        · rw [if_neg c, if_neg (by omega)]
      by_cases c1 : P ≤ L
      · rw [if_pos c1]
        obtain ⟨hP2, hu⟩ : P = T (i + 1) j ∧ T (i + 1) j ≠ -1 := by omega
        have hb3 := hS.1 _ _ hu
        have hb1 : un4 (pX10_slideDown_L24 (iz t) (iz v)) (iz 1, iz j, iz i, g) = some (.inl (iz 1, iz j, iz (i + 1), upd (upd g (42 * t + 6 * i + j).toNat (iz (T (i + 1) j))) (42 * t + 6 * (i + 1) + j).toNat (iz v))) := by
          rw [un4_mk]
          unfold pX10_slideDown_L24
          simp only [iz_0, iz_1, iz_1000, iz_add]
          rw [if_neg iz1_ne, eB, bd1_some, fB, bd1_some, eR, bd1_some, fR, bd1_some, ifz_lt (by omega) (by omega) (by omega) (by omega), ifz_le (by omega) (by omega) (by omega) (by omega), e1, bd1_some, if_neg iz1_ne, ifz_lt (by omega) (by omega) (by omega) (by omega), if_neg (by omega), bd1_some, if_neg iz1_ne, bd1_some, pX10_set_iz ht ht2 (by omega) (by omega) (by omega) (by omega), bd1_some, if_neg iz1_ne, bd1_some, if_neg iz1_ne, bd1_some, iz_add, iz_add, pX10_set_iz ht ht2 (by omega) (by omega) (by omega) (by omega), bd1_some, show j + 0 = j by omega, hP2]
        rw [lpI_c hb1]
        have hu1 : tset T i j (T (i + 1) j) (i + 1) j ≠ -1 := by rw [tset_ne _ _ _ _ (by omega)]; exact hu
        have hS1 := hS.set (v := T (i + 1) j) hc (by omega) (by omega)
        have hM1 := hM.set (v := T (i + 1) j) hS.1 ht hc hu
        exact ih m _ _ g0 (i + 1) j (hS1.set (v := v) hu1 hv (by omega)) (hM1.set (v := v) hS1.1 ht hu1 (by omega)) ((hO.put (by omega) (by omega) ht).put (by omega) (by omega) ht) (by rw [tset_at]; omega) (by omega) (by omega)
      · rw [if_neg c1]
        obtain ⟨hL2, hu⟩ : L = T i (j + 1) ∧ T i (j + 1) ≠ -1 := by omega
        have hb3 := hS.1 _ _ hu
        have hb1 : un4 (pX10_slideDown_L24 (iz t) (iz v)) (iz 1, iz j, iz i, g) = some (.inl (iz 1, iz (j + 1), iz i, upd (upd g (42 * t + 6 * i + j).toNat (iz (T i (j + 1)))) (42 * t + 6 * i + (j + 1)).toNat (iz v))) := by
          rw [un4_mk]
          unfold pX10_slideDown_L24
          simp only [iz_0, iz_1, iz_1000, iz_add]
          rw [if_neg iz1_ne, eB, bd1_some, fB, bd1_some, eR, bd1_some, fR, bd1_some, ifz_lt (by omega) (by omega) (by omega) (by omega), ifz_le (by omega) (by omega) (by omega) (by omega), e1, bd1_some, if_neg iz1_ne, ifz_lt (by omega) (by omega) (by omega) (by omega), if_pos (by omega), bd1_some, if_pos rfl, bd1_some, pX10_set_iz ht ht2 (by omega) (by omega) (by omega) (by omega), bd1_some, if_pos rfl, bd1_some, if_pos rfl, bd1_some, iz_add, iz_add, pX10_set_iz ht ht2 (by omega) (by omega) (by omega) (by omega), bd1_some, show i + 0 = i by omega, hL2]
        rw [lpI_c hb1]
        have hu1 : tset T i j (T i (j + 1)) i (j + 1) ≠ -1 := by rw [tset_ne _ _ _ _ (by omega)]; exact hu
        have hS1 := hS.set (v := T i (j + 1)) hc (by omega) (by omega)
        have hM1 := hM.set (v := T i (j + 1)) hS.1 ht hc hu
        exact ih m _ _ g0 i (j + 1) (hS1.set (v := v) hu1 hv (by omega)) (hM1.set (v := v) hS1.1 ht hu1 (by omega)) ((hO.put (by omega) (by omega) ht).put (by omega) (by omega) ht) (by rw [tset_at]; omega) (by omega) (by omega)
def chU (T : Tb) (i j v : Int) : Tb × Int × Int × Int := su v 12 (tset T i j v) i j
def chT (T : Tb) (i j v : Int) : Tb × Int × Int := sd v 11 (chU T i j v).1 (chU T i j v).2.1 (chU T i j v).2.2.1
theorem ch_inv {T : Tb} (h : tOK T) {i j v : Int} (hc : T i j ≠ -1) (hv : 0 ≤ v) (hv2 : v ≤ 99) : hH (chU T i j v).1 (chU T i j v).2.1 (chU T i j v).2.2.1 ∧ (chU T i j v).1 (chU T i j v).2.1 (chU T i j v).2.2.1 = v ∧ (chU T i j v).1 ((chU T i j v).2.1 - 1) (chU T i j v).2.2.1 ≤ v ∧ (chU T i j v).1 (chU T i j v).2.1 ((chU T i j v).2.2.1 - 1) ≤ v := by
  have hb := h.1 i j hc
  obtain ⟨r1, r2, r3, r4, -⟩ := su_inv hv hv2 12 _ i j (h.hole i j v hc (by omega)) (tset_at _ _ _ _) (by omega)
  exact ⟨r1, r2, r3, r4⟩
theorem ch_ok {T : Tb} (h : tOK T) {i j v : Int} (hc : T i j ≠ -1) (hv : 0 ≤ v) (hv2 : v ≤ 99) : tOK (chT T i j v).1 := by
  obtain ⟨r1, r2, r3, r4⟩ := ch_inv h hc hv hv2
  have hb := r1.1 (chU T i j v).2.1 (chU T i j v).2.2.1 (by omega)
  obtain ⟨q1, q2, q3, q4, q5, q6, q7⟩ := sd_inv hv (by omega) 11 _ _ _ r1 r2 r3 r4 (by omega)
  unfold chT
  refine q1.done (by rw [q2]; exact hv) (by rw [q2]; exact hv2) (by rw [q2]; exact q3) (by rw [q2]; exact q4) (fun hn => ?_) (fun hn => ?_)
  · rw [q2]
    unfold lo1 at q6
    rw [if_neg hn] at q6
    exact q6
  · rw [q2]
    unfold lo1 at q7
    rw [if_neg hn] at q7
    exact q7
theorem hH.t99 {T : Tb} {i j : Int} (h : hH T i j) : t99 T i j := by
  intro a b hn
  by_cases c : T a b = -1
  · omega
  · have := (h.1 a b c).2.2.2.2 hn
    omega
theorem pX7_replace_iz {T : Tb} {f : Nat → Int32} (hK : tOK T) (h : tX T f) {i j v : Int} (hc : T i j ≠ -1) (hv : 0 ≤ v) (hv2 : v ≤ 99) :
    ∃ f', pX7_replace f (iz i) (iz j) (iz v) = some (iz (10 * (chT T i j v).2.1 + (chT T i j v).2.2), f') ∧ tX (chT T i j v).1 f' := by
  have hb := hK.1 i j hc
  have hX1 := h.set (v := v) (i := i) (j := j) (by omega) (by omega) (by omega) (by omega)
  have hB1 := hK.b.set (i := i) (j := j) (v := v) (by omega) (by omega) (by omega) (by omega) hv (by omega)
  obtain ⟨f1, r1, r2, r3, r4, r5, r6, r7⟩ := pX7_slideUp_iz hv (by omega) hB1 hX1 (tset_at _ _ _ _) (by omega) (by omega) (by omega) (by omega)
  obtain ⟨q1, q2, q3, q4⟩ := ch_inv hK hc hv hv2
  have q1' : hH (su v 12 (tset T i j v) i j).1 (su v 12 (tset T i j v) i j).2.1 (su v 12 (tset T i j v) i j).2.2.1 := q1
  have q2' : (su v 12 (tset T i j v) i j).1 (su v 12 (tset T i j v) i j).2.1 (su v 12 (tset T i j v) i j).2.2.1 = v := q2
  obtain ⟨f2, s1, s2, s3⟩ := pX7_slideDown_iz hv (by omega) r3 q1'.t99 r2 q2' r4 r5 r6 r7
  refine ⟨f2, ?_, s2⟩
  unfold pX7_replace
  rw [pX7_put_iz (by omega) (by omega) (by omega) (by omega), bd1_some, r1, bd1_some, un2_mk, pX9_rowOf_iz r4 (by omega) r6 (by omega), bd1_some, pX9_columnOf_iz r4 (by omega) r6 (by omega), bd1_some, s1, bd1_some, un2_mk]
  rfl
theorem pX10_slideDown_iz {v : Int} (hv : 0 ≤ v) (hv2 : v ≤ 99) {t : Int} (ht : 0 ≤ t) (ht2 : t ≤ 1) {T : Tb} {g : Nat → Int32} {i j : Int} (hS : tS T) (hM : tM T t g) (hT : T i j = v) :
    ∃ g', pX10_slideDown g (iz t) (iz (10 * i + j)) = some (iz (10 * (sd v 11 T i j).2.1 + (sd v 11 T i j).2.2), g') ∧ tM (sd v 11 T i j).1 t g' ∧ tS (sd v 11 T i j).1 ∧ sameOut t g g' := by
  have hb := hS.1 i j (by omega)
  obtain ⟨g', r1, r2⟩ := sd_M hv hv2 ht ht2 11 lpF T g g i j hS hM (sameOut.rf t g) (by omega) (by omega) (by unfold lpF; omega)
  refine ⟨g', ?_, r2⟩
  unfold pX10_slideDown
  rw [iz_10, iz_divn (by omega) (by omega) (by omega) (by omega), iz_rem (by omega) (by omega) (by omega) (by omega)]
  rw [show (10 * i + j) / 10 = i by omega, show (10 * i + j) % 10 = j by omega]
  rw [pX10_get_iz hM ht ht2 (by omega) (by omega) (by omega) (by omega) (by omega), bd1_some, hT, iz_1, r1, bd1_some, un3_mk, iz_mul, iz_add]
