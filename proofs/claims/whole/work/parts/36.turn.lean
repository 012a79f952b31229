theorem pX10_tall_iz {T : Tb} {g : Nat → Int32} {t : Int} (hS : tS T) (h : tM T t g) (ht : 0 ≤ t) (ht2 : t ≤ 1) {j : Int} (h1 : 0 ≤ j) (h2 : j ≤ 1000) : pX10_tall g (iz t) (iz j) = some (iz (tall T j)) := by
  unfold pX10_tall
  simp only [iz_0]
  have hl : lpI lpF (un2 (pX10_tall_L5 g (iz t) (iz j))) (iz 0, iz 0) = some (iz (tall T j)) := by
    refine lp_cf (fun i => iz (sumI (fun i => ex T i j) i.toNat)) 0 6 _ (by omega) (by omega) (fun i hi hi2 => ?_) ?_
    · rw [un2_mk]
      unfold pX10_tall_L5
      have hb := len_b T i
      have hs := len_spec hS i j h1
      have he := ex_01 T i j
      simp only [iz_6, iz_1, iz_0, iz_add]
      rw [ifz_le (by omega) (by omega) (by omega) (by omega), if_neg (by omega), pX10_length_iz hS.1 h ht ht2 (by omega) (by omega), bd1_some, ifz_le (by omega) (by omega) (by omega) (by omega)]
      rw [show (i + 1).toNat = i.toNat + 1 by omega, sumI_s, show ((i.toNat : Nat) : Int) = i by omega]
      by_cases c : len T i ≤ j
      · rw [if_pos c, show ex T i j = 0 by omega]
      · rw [if_neg c, show ex T i j = 1 by omega]
    · rw [un2_mk]
      unfold pX10_tall_L5
      simp only [iz_6]
      rw [ifz_le (by omega) (by omega) (by omega) (by omega), if_pos (by omega)]
      rfl
  rw [hl, bd1_some]
/-- turned so far: n heights, the rows before i, and of row i the cells before j -/
def trI (T : Tb) (t : Int) (g : Nat → Int32) (n i j : Int) (w : Nat → Int32) : Prop :=
  (∀ a, 0 ≤ a → a < n → w (36 + a).toNat = iz (tall T a)) ∧ ∀ a b, 0 ≤ a → a < 6 → 0 ≤ b → b < 6 → (a < i ∨ a = i ∧ b < j) → w (6 * a + b).toNat = g (42 * t + 6 * b + a).toNat
theorem turn_row {T : Tb} {t : Int} {g : Nat → Int32} (ht : 0 ≤ t) (ht2 : t ≤ 1) {i : Int} (h1 : 0 ≤ i) (h2 : i < 6) : ∀ (m k : Nat) (j : Int) (w : Nat → Int32), trI T t g (i + 1) i j w → 0 ≤ j → j ≤ 6 → 6 - j ≤ k → k < m → ∃ w', lpI m (un2 (pX10_transposeOn_L26 g (iz t) (iz i))) (iz j, w) = some w' ∧ trI T t g (i + 1) (i + 1) 0 w' := by
  intro m
  induction m with
  | zero => intro k j w _ _ _ _ hk; omega
  | succ m ih =>
    intro k j w hw hj hj2 hk hk2
    by_cases c : 6 ≤ j
    · have hb : un2 (pX10_transposeOn_L26 g (iz t) (iz i)) (iz j, w) = some (.inr w) := by
        rw [un2_mk]
        unfold pX10_transposeOn_L26
        rw [iz_6, ifz_le (by omega) (by omega) (by omega) (by omega), if_pos c]
      exact ⟨w, by rw [lpI_x hb], hw.1, fun a b q1 q2 q3 q4 q5 => hw.2 a b q1 q2 q3 q4 (by omega)⟩
    · have hb : un2 (pX10_transposeOn_L26 g (iz t) (iz i)) (iz j, w) = some (.inl (iz (j + 1), upd w (6 * i + j).toNat (g (42 * t + 6 * j + i).toNat))) := by
        rw [un2_mk]
        unfold pX10_transposeOn_L26 pX10_get
        simp only [iz_6, iz_42, iz_1, iz_mul, iz_add]
        rw [ifz_le (by omega) (by omega) (by omega) (by omega), if_neg c]
        rw [gI_iz (by omega) (by omega) (by omega), bd1_some, bd1_some, sI_iz (by omega) (by omega) (by omega), bd1_some]
      have hX : trI T t g (i + 1) i (j + 1) (upd w (6 * i + j).toNat (g (42 * t + 6 * j + i).toNat)) := by
        refine ⟨fun a q1 q2 => ?_, fun a b q1 q2 q3 q4 q5 => ?_⟩
        · unfold upd
          rw [if_neg (by omega)]
          exact hw.1 a q1 q2
        · unfold upd
          by_cases e : a = i ∧ b = j
          · rw [if_pos (by omega), e.1, e.2]
          · rw [if_neg (by omega)]
            exact hw.2 a b q1 q2 q3 q4 (by omega)
      obtain ⟨w', r1, r2⟩ := ih (k - 1) (j + 1) _ hX (by omega) (by omega) (by omega) (by omega)
      exact ⟨w', by rw [lpI_c hb]; exact r1, r2⟩
theorem turn_all {T : Tb} {t : Int} {g : Nat → Int32} (hS : tS T) (hM : tM T t g) (ht : 0 ≤ t) (ht2 : t ≤ 1) : ∀ (m k : Nat) (i : Int) (w : Nat → Int32), trI T t g i i 0 w → 0 ≤ i → i ≤ 6 → 6 - i ≤ k → k < m → ∃ w', lpI m (un2 (pX10_transposeOn_L2 g (iz t))) (iz i, w) = some w' ∧ trI T t g 6 6 0 w' := by
  intro m
  induction m with
  | zero => intro k i w _ _ _ _ hk; omega
  | succ m ih =>
    intro k i w hw hi hi2 hk hk2
    by_cases c : 6 ≤ i
    · have e : i = 6 := by omega
      subst e
      have hb : un2 (pX10_transposeOn_L2 g (iz t)) (iz 6, w) = some (.inr w) := by
        rw [un2_mk]
        unfold pX10_transposeOn_L2
        simp only [iz_6]
        rw [ifz_le (by omega) (by omega) (by omega) (by omega), if_pos c]
      exact ⟨w, by rw [lpI_x hb], hw⟩
    · have h0 : trI T t g (i + 1) i 0 (upd w (36 + i).toNat (iz (tall T i))) := by
        refine ⟨fun a q1 q2 => ?_, fun a b q1 q2 q3 q4 q5 => ?_⟩
        · unfold upd
          by_cases e : a = i
          · rw [if_pos (by omega), e]
          · rw [if_neg (by omega)]
            exact hw.1 a q1 (by omega)
        · unfold upd
          rw [if_neg (by omega)]
          exact hw.2 a b q1 q2 q3 q4 (by omega)
      obtain ⟨w1, r1, r2⟩ := turn_row ht ht2 hi (by omega) lpF 6 0 _ h0 (by omega) (by omega) (by omega) (by unfold lpF; omega)
      have hb : un2 (pX10_transposeOn_L2 g (iz t)) (iz i, w) = some (.inl (iz (i + 1), w1)) := by
        rw [un2_mk]
        unfold pX10_transposeOn_L2
        simp only [iz_0, iz_6, iz_36, iz_1, iz_add]
        rw [ifz_le (by omega) (by omega) (by omega) (by omega), if_neg c, pX10_tall_iz hS hM ht ht2 hi (by omega), bd1_some, sI_iz (by omega) (by omega) (by omega), bd1_some, r1, bd1_some]
      obtain ⟨w', s1, s2⟩ := ih (k - 1) (i + 1) w1 r2 (by omega) (by omega) (by omega) (by omega)
      exact ⟨w', by rw [lpI_c hb]; exact s1, s2⟩
theorem pX10_transposeOn_iz {T : Tb} {t : Int} {g w : Nat → Int32} (hS : tS T) (hM : tM T t g) (ht : 0 ≤ t) (ht2 : t ≤ 1) : ∃ w' g', pX10_transposeOn w g (iz t) = some (w', g') ∧ tM (flT T) t g' ∧ sameOut t g g' := by
  obtain ⟨w', r1, r2⟩ := turn_all hS hM ht ht2 lpF 6 0 w ⟨fun a q1 q2 => by omega, fun a b q1 q2 q3 q4 q5 => by omega⟩ (by omega) (by omega) (by omega) (by unfold lpF; omega)
  refine ⟨w', cpW w' g 0 (42 * t) 42, ?_, ⟨fun a q1 q2 => ?_, fun a b hc => ?_⟩, fun k hk => ?_⟩
  · unfold pX10_transposeOn
    simp only [iz_0, iz_42, iz_mul]
    rw [r1, bd1_some, pX10_copy_iz (by omega) (by omega) (by omega) (by omega) (by omega) (by omega) (by omega) (by omega), bd1_some]
  · unfold cpW
    rw [if_pos (by omega)]
    have := r2.1 a q1 q2
    rw [show (((42 * t + 36 + a).toNat : Nat) : Int) - 42 * t + 0 = 36 + a by omega, this]
    rfl
  · have hb := hS.1 b a hc
    have := r2.2 a b (by omega) (by omega) (by omega) (by omega) (by omega)
    unfold cpW
    rw [if_pos (by omega), show (((42 * t + 6 * a + b).toNat : Nat) : Int) - 42 * t + 0 = 6 * a + b by omega, this]
    exact hM.2 b a hc
  · unfold cpW
    rw [if_neg (by omega)]
