-- a place of a table at which the order may be broken
def hH (T : Tb) (i j : Int) : Prop :=
  (∀ a b, T a b ≠ -1 → 0 ≤ a ∧ a < 6 ∧ 0 ≤ b ∧ b < 6 ∧ ((a ≠ i ∨ b ≠ j) → 0 ≤ T a b ∧ T a b ≤ 99)) ∧
  (∀ a b, T a b ≠ -1 → (0 < a → T (a - 1) b ≠ -1) ∧ (0 < b → T a (b - 1) ≠ -1)) ∧
  (∀ a b, T a b ≠ -1 → 0 < a → (a ≠ i ∨ b ≠ j) → (a - 1 ≠ i ∨ b ≠ j) → T (a - 1) b ≤ T a b) ∧
  (∀ a b, T a b ≠ -1 → 0 < b → (a ≠ i ∨ b ≠ j) → (a ≠ i ∨ b - 1 ≠ j) → T a (b - 1) ≤ T a b) ∧
  (T (i + 1) j ≠ -1 → T (i - 1) j ≤ T (i + 1) j ∧ T i (j - 1) ≤ T (i + 1) j) ∧
  (T i (j + 1) ≠ -1 → T (i - 1) j ≤ T i (j + 1) ∧ T i (j - 1) ≤ T i (j + 1))
theorem hH.done {T : Tb} {i j : Int} (h : hH T i j) (h1 : 0 ≤ T i j) (h2 : T i j ≤ 99) (hu : T (i - 1) j ≤ T i j) (hl : T i (j - 1) ≤ T i j) (hb : T (i + 1) j ≠ -1 → T i j ≤ T (i + 1) j) (hr : T i (j + 1) ≠ -1 → T i j ≤ T i (j + 1)) : tOK T := by
  obtain ⟨q1, q2, q3, q4, q5, q6⟩ := h
  refine ⟨fun a b hc => ?_, fun a b hc ha => ⟨(q2 a b hc).1 ha, ?_⟩, fun a b hc hb' => ⟨(q2 a b hc).2 hb', ?_⟩⟩
  · have := q1 a b hc
    by_cases c : a = i ∧ b = j
    · obtain ⟨rfl, rfl⟩ := c
      omega
    · have := this.2.2.2.2 (by omega)
      omega
  · by_cases c : a = i ∧ b = j
    · obtain ⟨rfl, rfl⟩ := c
      exact hu
    · by_cases c2 : a - 1 = i ∧ b = j
      · obtain ⟨e1, rfl⟩ := c2
        have : a = i + 1 := by omega
        subst this
        rw [show i + 1 - 1 = i by omega]
        exact hb hc
      · exact q3 a b hc ha (by omega) (by omega)
  · by_cases c : a = i ∧ b = j
    · obtain ⟨rfl, rfl⟩ := c
      exact hl
    · by_cases c2 : a = i ∧ b - 1 = j
      · obtain ⟨rfl, e1⟩ := c2
        have : b = j + 1 := by omega
        subst this
        rw [show j + 1 - 1 = j by omega]
        exact hr hc
      · exact q4 a b hc hb' (by omega) (by omega)
theorem tOK.hole {T : Tb} (h : tOK T) (i j : Int) (v : Int) (hc : T i j ≠ -1) (hv : v ≠ -1) : hH (tset T i j v) i j := by
  obtain ⟨q1, q2, q3⟩ := h
  have hb := q1 i j hc
  have ex : ∀ a b, tset T i j v a b ≠ -1 → T a b ≠ -1 := by
    intro a b h
    by_cases c : a = i ∧ b = j
    · obtain ⟨rfl, rfl⟩ := c
      exact hc
    · rwa [tset_ne T i j v (by omega)] at h
  have ex2 : ∀ a b, T a b ≠ -1 → tset T i j v a b ≠ -1 := by
    intro a b h
    by_cases c : a = i ∧ b = j
    · obtain ⟨rfl, rfl⟩ := c
      rw [tset_at]; exact hv
    · rwa [tset_ne T i j v (by omega)]
  refine ⟨fun a b hc' => ?_, fun a b hc' => ⟨fun ha => ex2 _ _ (q2 a b (ex a b hc') ha).1, fun hb => ex2 _ _ (q3 a b (ex a b hc') hb).1⟩, fun a b hc' ha n1 n2 => ?_, fun a b hc' hb n1 n2 => ?_, fun hc' => ?_, fun hc' => ?_⟩
  · have := q1 a b (ex a b hc')
    refine ⟨by omega, by omega, by omega, by omega, fun n => ?_⟩
    rw [tset_ne T i j v n]
    omega
  · rw [tset_ne T i j v n1, tset_ne T i j v n2]
    exact (q2 a b (ex a b hc') ha).2
  · rw [tset_ne T i j v n1, tset_ne T i j v n2]
    exact (q3 a b (ex a b hc') hb).2
  · rw [tset_ne T i j v (by omega)] at hc'
    rw [tset_ne T i j v (by omega), tset_ne T i j v (by omega), tset_ne T i j v (by omega)]
    have a1 := (q2 (i + 1) j hc' (by omega)).2
    rw [show i + 1 - 1 = i by omega] at a1
    have a2 : T (i - 1) j ≤ T i j := by
      by_cases c : 0 < i
      · exact (q2 i j hc c).2
      · by_cases c2 : T (i - 1) j = -1
        · omega
        · have := q1 _ _ c2; omega
    have a3 : T i (j - 1) ≤ T i j := by
      by_cases c : 0 < j
      · exact (q3 i j hc c).2
      · by_cases c2 : T i (j - 1) = -1
        · omega
        · have := q1 _ _ c2; omega
    omega
  · rw [tset_ne T i j v (by omega)] at hc'
    rw [tset_ne T i j v (by omega), tset_ne T i j v (by omega), tset_ne T i j v (by omega)]
    have a1 := (q3 i (j + 1) hc' (by omega)).2
    rw [show j + 1 - 1 = j by omega] at a1
    have a2 : T (i - 1) j ≤ T i j := by
      by_cases c : 0 < i
      · exact (q2 i j hc c).2
      · by_cases c2 : T (i - 1) j = -1
        · omega
        · have := q1 _ _ c2; omega
    have a3 : T i (j - 1) ≤ T i j := by
      by_cases c : 0 < j
      · exact (q3 i j hc c).2
      · by_cases c2 : T i (j - 1) = -1
        · omega
        · have := q1 _ _ c2; omega
    omega
theorem hH.neg {T : Tb} {i j : Int} (h : hH T i j) {a b : Int} (ho : a < 0 ∨ b < 0) : T a b = -1 := by
  by_cases c : T a b = -1
  · exact c
  · have := h.1 a b c
    omega
/-- one exchange with the cell above -/
theorem hH.up {T : Tb} {i j v : Int} (h : hH T i j) (hc : T i j ≠ -1) (h0 : 0 < i) (hv : v ≠ -1) (hl : T i (j - 1) ≤ T (i - 1) j) : hH (tset (tset T i j (T (i - 1) j)) (i - 1) j v) (i - 1) j := by
  obtain ⟨q1, q2, q3, q4, q5, q6⟩ := id h
  have hu := (q2 i j hc).1 h0
  have bu := q1 (i - 1) j hu
  have bij := q1 i j hc
  have e0 : ∀ a b, (a ≠ i - 1 ∨ b ≠ j) → (a ≠ i ∨ b ≠ j) → tset (tset T i j (T (i - 1) j)) (i - 1) j v a b = T a b := fun a b n1 n2 => by rw [tset_ne _ _ _ _ n1, tset_ne _ _ _ _ n2]
  have e1 : tset (tset T i j (T (i - 1) j)) (i - 1) j v i j = T (i - 1) j := by rw [tset_ne _ _ _ _ (by omega), tset_at]
  have e2 : tset (tset T i j (T (i - 1) j)) (i - 1) j v (i - 1) j = v := tset_at _ _ _ _
  generalize tset (tset T i j (T (i - 1) j)) (i - 1) j v = S at e0 e1 e2
  have ex : ∀ a b, S a b ≠ -1 ↔ T a b ≠ -1 := by
    intro a b
    by_cases c1 : a = i - 1 ∧ b = j
    · obtain ⟨rfl, rfl⟩ := c1
      rw [e2]; exact ⟨fun _ => hu, fun _ => hv⟩
    · by_cases c2 : a = i ∧ b = j
      · obtain ⟨rfl, rfl⟩ := c2
        rw [e1]; exact ⟨fun _ => hc, fun _ => hu⟩
      · rw [e0 a b (by omega) (by omega)]
  have u1 := bu.2.2.2.2 (by omega)
  have w1 : T (i - 1 - 1) j ≤ T (i - 1) j := by
    by_cases c : 0 < i - 1
    · exact q3 (i - 1) j hu c (by omega) (by omega)
    · rw [h.neg (by omega)]; omega
  have w2 : T (i - 1) (j - 1) ≤ T (i - 1) j := by
    by_cases c : 0 < j
    · exact q4 (i - 1) j hu c (by omega) (by omega)
    · rw [h.neg (by omega)]; omega
  refine ⟨fun a b hab => ?_, fun a b hab => ?_, fun a b hab ha n1 n2 => ?_, fun a b hab hb n1 n2 => ?_, fun hab => ?_, fun hab => ?_⟩
  · have := q1 a b ((ex a b).mp hab)
    refine ⟨by omega, by omega, by omega, by omega, fun n => ?_⟩
    by_cases c2 : a = i ∧ b = j
    · obtain ⟨rfl, rfl⟩ := c2
      rw [e1]; omega
    · rw [e0 a b n (by omega)]
      exact this.2.2.2.2 (by omega)
  · have := q2 a b ((ex a b).mp hab)
    exact ⟨fun ha => (ex _ _).mpr (this.1 ha), fun hb => (ex _ _).mpr (this.2 hb)⟩
  · have hab' := (ex a b).mp hab
    have n3 : a ≠ i ∨ b ≠ j := by omega
    rw [e0 a b n1 n3]
    by_cases c : a - 1 = i ∧ b = j
    · obtain ⟨c1, rfl⟩ := c
      have : a = i + 1 := by omega
      subst this
      rw [show i + 1 - 1 = i by omega, e1]
      exact (q5 hab').1
    · rw [e0 (a - 1) b n2 (by omega)]
      exact q3 a b hab' ha n3 (by omega)
  · have hab' := (ex a b).mp hab
    by_cases c : a = i ∧ b = j
    · obtain ⟨rfl, rfl⟩ := c
      rw [e1, e0 a (b - 1) (by omega) (by omega)]
      exact hl
    · rw [e0 a b n1 (by omega)]
      by_cases c2 : a = i ∧ b - 1 = j
      · obtain ⟨rfl, c3⟩ := c2
        have : b = j + 1 := by omega
        subst this
        rw [show j + 1 - 1 = j by omega, e1]
        exact (q6 hab').1
      · rw [e0 a (b - 1) (by omega) (by omega)]
        exact q4 a b hab' hb (by omega) (by omega)
  · rw [show i - 1 + 1 = i by omega, e1, e0 (i - 1 - 1) j (by omega) (by omega), e0 (i - 1) (j - 1) (by omega) (by omega)]
    exact ⟨w1, w2⟩
  · have hab' := (ex _ _).mp hab
    have w3 := q4 (i - 1) (j + 1) hab' (by have := q1 _ _ hab'; omega) (by omega) (by omega)
    rw [show j + 1 - 1 = j by omega] at w3
    rw [e0 (i - 1) (j + 1) (by omega) (by omega), e0 (i - 1 - 1) j (by omega) (by omega), e0 (i - 1) (j - 1) (by omega) (by omega)]
    omega
/-- one exchange with the cell to the left -/
theorem hH.left {T : Tb} {i j v : Int} (h : hH T i j) (hc : T i j ≠ -1) (h0 : 0 < j) (hv : v ≠ -1) (hl : T (i - 1) j ≤ T i (j - 1)) : hH (tset (tset T i j (T i (j - 1))) i (j - 1) v) i (j - 1) := by
  obtain ⟨q1, q2, q3, q4, q5, q6⟩ := id h
  have hu := (q2 i j hc).2 h0
  have bu := q1 i (j - 1) hu
  have bij := q1 i j hc
  have e0 : ∀ a b, (a ≠ i ∨ b ≠ j - 1) → (a ≠ i ∨ b ≠ j) → tset (tset T i j (T i (j - 1))) i (j - 1) v a b = T a b := fun a b n1 n2 => by rw [tset_ne _ _ _ _ n1, tset_ne _ _ _ _ n2]
  have e1 : tset (tset T i j (T i (j - 1))) i (j - 1) v i j = T i (j - 1) := by rw [tset_ne _ _ _ _ (by omega), tset_at]
  have e2 : tset (tset T i j (T i (j - 1))) i (j - 1) v i (j - 1) = v := tset_at _ _ _ _
  generalize tset (tset T i j (T i (j - 1))) i (j - 1) v = S at e0 e1 e2
  have ex : ∀ a b, S a b ≠ -1 ↔ T a b ≠ -1 := by
    intro a b
    by_cases c1 : a = i ∧ b = j - 1
    · obtain ⟨rfl, rfl⟩ := c1
      rw [e2]; exact ⟨fun _ => hu, fun _ => hv⟩
    · by_cases c2 : a = i ∧ b = j
      · obtain ⟨rfl, rfl⟩ := c2
        rw [e1]; exact ⟨fun _ => hc, fun _ => hu⟩
      · rw [e0 a b (by omega) (by omega)]
  have u1 := bu.2.2.2.2 (by omega)
  have w1 : T i (j - 1 - 1) ≤ T i (j - 1) := by
    by_cases c : 0 < j - 1
    · exact q4 i (j - 1) hu c (by omega) (by omega)
    · rw [h.neg (by omega)]; omega
  have w2 : T (i - 1) (j - 1) ≤ T i (j - 1) := by
    by_cases c : 0 < i
    · exact q3 i (j - 1) hu c (by omega) (by omega)
    · rw [h.neg (by omega)]; omega
  refine ⟨fun a b hab => ?_, fun a b hab => ?_, fun a b hab ha n1 n2 => ?_, fun a b hab hb n1 n2 => ?_, fun hab => ?_, fun hab => ?_⟩
  · have := q1 a b ((ex a b).mp hab)
    refine ⟨by omega, by omega, by omega, by omega, fun n => ?_⟩
    by_cases c2 : a = i ∧ b = j
    · obtain ⟨rfl, rfl⟩ := c2
      rw [e1]; omega
    · rw [e0 a b n (by omega)]
      exact this.2.2.2.2 (by omega)
  · have := q2 a b ((ex a b).mp hab)
    exact ⟨fun ha => (ex _ _).mpr (this.1 ha), fun hb => (ex _ _).mpr (this.2 hb)⟩
  · have hab' := (ex a b).mp hab
    by_cases c : a = i ∧ b = j
    · obtain ⟨rfl, rfl⟩ := c
      rw [e1, e0 (a - 1) b (by omega) (by omega)]
      exact hl
    · rw [e0 a b n1 (by omega)]
      by_cases c2 : a - 1 = i ∧ b = j
      · obtain ⟨c3, rfl⟩ := c2
        have : a = i + 1 := by omega
        subst this
        rw [show i + 1 - 1 = i by omega, e1]
        exact (q5 hab').2
      · rw [e0 (a - 1) b (by omega) (by omega)]
        exact q3 a b hab' ha (by omega) (by omega)
  · have hab' := (ex a b).mp hab
    have n3 : a ≠ i ∨ b ≠ j := by omega
    rw [e0 a b n1 n3]
    by_cases c : a = i ∧ b - 1 = j
    · obtain ⟨rfl, c1⟩ := c
      have : b = j + 1 := by omega
      subst this
      rw [show j + 1 - 1 = j by omega, e1]
      exact (q6 hab').2
    · rw [e0 a (b - 1) n2 (by omega)]
      exact q4 a b hab' hb n3 (by omega)
  · have hab' := (ex _ _).mp hab
    have w3 := q3 (i + 1) (j - 1) hab' (by have := q1 _ _ hab'; omega) (by omega) (by omega)
    rw [show i + 1 - 1 = i by omega] at w3
    rw [e0 (i + 1) (j - 1) (by omega) (by omega), e0 (i - 1) (j - 1) (by omega) (by omega), e0 i (j - 1 - 1) (by omega) (by omega)]
    omega
  · rw [show j - 1 + 1 = j by omega, e1, e0 (i - 1) (j - 1) (by omega) (by omega), e0 i (j - 1 - 1) (by omega) (by omega)]
    exact ⟨w2, w1⟩
