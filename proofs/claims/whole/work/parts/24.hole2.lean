/-- one exchange with the cell below -/
theorem hH.down {T : Tb} {i j v : Int} (h : hH T i j) (hc : T i j ≠ -1) (hu : T (i + 1) j ≠ -1) (hv : v ≠ -1) (hr : T i (j + 1) ≠ -1 → T (i + 1) j ≤ T i (j + 1)) : hH (tset (tset T i j (T (i + 1) j)) (i + 1) j v) (i + 1) j := by
  obtain ⟨q1, q2, q3, q4, q5, q6⟩ := id h
  have bu := q1 (i + 1) j hu
  have bij := q1 i j hc
  have e0 : ∀ a b, (a ≠ i + 1 ∨ b ≠ j) → (a ≠ i ∨ b ≠ j) → tset (tset T i j (T (i + 1) j)) (i + 1) j v a b = T a b := fun a b n1 n2 => by rw [tset_ne _ _ _ _ n1, tset_ne _ _ _ _ n2]
  have e1 : tset (tset T i j (T (i + 1) j)) (i + 1) j v i j = T (i + 1) j := by rw [tset_ne _ _ _ _ (by omega), tset_at]
  have e2 : tset (tset T i j (T (i + 1) j)) (i + 1) j v (i + 1) j = v := tset_at _ _ _ _
  generalize tset (tset T i j (T (i + 1) j)) (i + 1) j v = S at e0 e1 e2
  have ex : ∀ a b, S a b ≠ -1 ↔ T a b ≠ -1 := by
    intro a b
    by_cases c1 : a = i + 1 ∧ b = j
    · obtain ⟨rfl, rfl⟩ := c1
      rw [e2]; exact ⟨fun _ => hu, fun _ => hv⟩
    · by_cases c2 : a = i ∧ b = j
      · obtain ⟨rfl, rfl⟩ := c2
        rw [e1]; exact ⟨fun _ => hc, fun _ => hu⟩
      · rw [e0 a b (by omega) (by omega)]
  have u1 := bu.2.2.2.2 (by omega)
  have w2 : T (i + 1) (j - 1) ≤ T (i + 1) j := by
    by_cases c : 0 < j
    · exact q4 (i + 1) j hu c (by omega) (by omega)
    · rw [h.neg (by omega)]; omega
  refine ⟨fun a b hab => ?_, fun a b hab => ?_, fun a b hab ha n1 n2 => ?_, fun a b hab hb n1 n2 => ?_, fun hab => ?_, fun hab => ?_⟩
  · have := q1 a b ((ex a b).mp hab)
    refine ⟨by omega, by omega, by omega, by omega, fun n => ?_⟩
    by_cases c2 : a = i ∧ b = j
    · obtain ⟨rfl, rfl⟩ := c2
      rw [e1]; omega
    · rw [e0 a b n (by omega)]
      exact this.2.2.2.2 (by omega)
  · have := q2 a b ((ex a b).mp hab)
    exact ⟨fun ha => (ex _ _).mpr (this.1 ha), fun hb => (ex _ _).mpr (this.2 hb)⟩
  · have hab' := (ex a b).mp hab
    by_cases c : a = i ∧ b = j
    · obtain ⟨rfl, rfl⟩ := c
      rw [e1, e0 (a - 1) b (by omega) (by omega)]
      exact (q5 hu).1
    · rw [e0 a b n1 (by omega), e0 (a - 1) b n2 (by omega)]
      exact q3 a b hab' ha (by omega) (by omega)
  · have hab' := (ex a b).mp hab
    by_cases c : a = i ∧ b = j
    · obtain ⟨rfl, rfl⟩ := c
      rw [e1, e0 a (b - 1) (by omega) (by omega)]
      exact (q5 hu).2
    · rw [e0 a b n1 (by omega)]
      by_cases c2 : a = i ∧ b - 1 = j
      · obtain ⟨rfl, c3⟩ := c2
        have : b = j + 1 := by omega
        subst this
        rw [show j + 1 - 1 = j by omega, e1]
        exact hr hab'
      · rw [e0 a (b - 1) n2 (by omega)]
        exact q4 a b hab' hb (by omega) (by omega)
  · have hab' := (ex _ _).mp hab
    have w3 := q3 (i + 1 + 1) j hab' (by omega) (by omega) (by omega)
    rw [show i + 1 + 1 - 1 = i + 1 by omega] at w3
    rw [e0 (i + 1 + 1) j (by omega) (by omega), show i + 1 - 1 = i by omega, e1, e0 (i + 1) (j - 1) (by omega) (by omega)]
    omega
  · have hab' := (ex _ _).mp hab
    have w3 := q4 (i + 1) (j + 1) hab' (by have := q1 _ _ hab'; omega) (by omega) (by omega)
    rw [show j + 1 - 1 = j by omega] at w3
    rw [e0 (i + 1) (j + 1) (by omega) (by omega), show i + 1 - 1 = i by omega, e1, e0 (i + 1) (j - 1) (by omega) (by omega)]
    omega
/-- one exchange with the cell to the right -/
theorem hH.right {T : Tb} {i j v : Int} (h : hH T i j) (hc : T i j ≠ -1) (hu : T i (j + 1) ≠ -1) (hv : v ≠ -1) (hr : T (i + 1) j ≠ -1 → T i (j + 1) ≤ T (i + 1) j) : hH (tset (tset T i j (T i (j + 1))) i (j + 1) v) i (j + 1) := by
  obtain ⟨q1, q2, q3, q4, q5, q6⟩ := id h
  have bu := q1 i (j + 1) hu
  have bij := q1 i j hc
  have e0 : ∀ a b, (a ≠ i ∨ b ≠ j + 1) → (a ≠ i ∨ b ≠ j) → tset (tset T i j (T i (j + 1))) i (j + 1) v a b = T a b := fun a b n1 n2 => by rw [tset_ne _ _ _ _ n1, tset_ne _ _ _ _ n2]
  have e1 : tset (tset T i j (T i (j + 1))) i (j + 1) v i j = T i (j + 1) := by rw [tset_ne _ _ _ _ (by omega), tset_at]
  have e2 : tset (tset T i j (T i (j + 1))) i (j + 1) v i (j + 1) = v := tset_at _ _ _ _
  generalize tset (tset T i j (T i (j + 1))) i (j + 1) v = S at e0 e1 e2
  have ex : ∀ a b, S a b ≠ -1 ↔ T a b ≠ -1 := by
    intro a b
    by_cases c1 : a = i ∧ b = j + 1
    · obtain ⟨rfl, rfl⟩ := c1
      rw [e2]; exact ⟨fun _ => hu, fun _ => hv⟩
    · by_cases c2 : a = i ∧ b = j
      · obtain ⟨rfl, rfl⟩ := c2
        rw [e1]; exact ⟨fun _ => hc, fun _ => hu⟩
      · rw [e0 a b (by omega) (by omega)]
  have u1 := bu.2.2.2.2 (by omega)
  have w2 : T (i - 1) (j + 1) ≤ T i (j + 1) := by
    by_cases c : 0 < i
    · exact q3 i (j + 1) hu c (by omega) (by omega)
    · rw [h.neg (by omega)]; omega
  refine ⟨fun a b hab => ?_, fun a b hab => ?_, fun a b hab ha n1 n2 => ?_, fun a b hab hb n1 n2 => ?_, fun hab => ?_, fun hab => ?_⟩
  · have := q1 a b ((ex a b).mp hab)
    refine ⟨by omega, by omega, by omega, by omega, fun n => ?_⟩
    by_cases c2 : a = i ∧ b = j
    · obtain ⟨rfl, rfl⟩ := c2
      rw [e1]; omega
    · rw [e0 a b n (by omega)]
      exact this.2.2.2.2 (by omega)
  · have := q2 a b ((ex a b).mp hab)
    exact ⟨fun ha => (ex _ _).mpr (this.1 ha), fun hb => (ex _ _).mpr (this.2 hb)⟩
  · have hab' := (ex a b).mp hab
    by_cases c : a = i ∧ b = j
    · obtain ⟨rfl, rfl⟩ := c
      rw [e1, e0 (a - 1) b (by omega) (by omega)]
      exact (q6 hu).1
    · rw [e0 a b n1 (by omega)]
      by_cases c2 : a - 1 = i ∧ b = j
      · obtain ⟨c3, rfl⟩ := c2
        have : a = i + 1 := by omega
        subst this
        rw [show i + 1 - 1 = i by omega, e1]
        exact hr hab'
      · rw [e0 (a - 1) b n2 (by omega)]
        exact q3 a b hab' ha (by omega) (by omega)
  · have hab' := (ex a b).mp hab
    by_cases c : a = i ∧ b = j
    · obtain ⟨rfl, rfl⟩ := c
      rw [e1, e0 a (b - 1) (by omega) (by omega)]
      exact (q6 hu).2
    · rw [e0 a b n1 (by omega), e0 a (b - 1) n2 (by omega)]
      exact q4 a b hab' hb (by omega) (by omega)
  · have hab' := (ex _ _).mp hab
    have w3 := q3 (i + 1) (j + 1) hab' (by have := q1 _ _ hab'; omega) (by omega) (by omega)
    rw [show i + 1 - 1 = i by omega] at w3
    rw [e0 (i + 1) (j + 1) (by omega) (by omega), show j + 1 - 1 = j by omega, e1, e0 (i - 1) (j + 1) (by omega) (by omega)]
    omega
  · have hab' := (ex _ _).mp hab
    have w3 := q4 i (j + 1 + 1) hab' (by omega) (by omega) (by omega)
    rw [show j + 1 + 1 - 1 = j + 1 by omega] at w3
    rw [e0 i (j + 1 + 1) (by omega) (by omega), show j + 1 - 1 = j by omega, e1, e0 (i - 1) (j + 1) (by omega) (by omega)]
    omega
