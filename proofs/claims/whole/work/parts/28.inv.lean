theorem tset2_ex {T : Tb} {i j a b x v : Int} (hc : T i j ≠ -1) (hx : x ≠ -1) (hd : T a b ≠ -1) (hv : v ≠ -1) (p q : Int) : tset (tset T i j x) a b v p q = -1 ↔ T p q = -1 := by
  by_cases c1 : p = a ∧ q = b
  · obtain ⟨rfl, rfl⟩ := c1
    rw [tset_at]
    exact ⟨fun h => absurd h hv, fun h => absurd h hd⟩
  · rw [tset_ne _ _ _ _ (by omega)]
    by_cases c2 : p = i ∧ q = j
    · obtain ⟨rfl, rfl⟩ := c2
      rw [tset_at]
      exact ⟨fun h => absurd h hx, fun h => absurd h hc⟩
    · rw [tset_ne _ _ _ _ (by omega)]
theorem hH.s {T : Tb} {i j : Int} (h : hH T i j) (h1 : T i j = -1 ∨ (0 ≤ T i j ∧ T i j ≤ 100)) : tS T := by
  refine ⟨fun a b hc => ?_, h.2.1⟩
  have := h.1 a b hc
  by_cases c : a = i ∧ b = j
  · obtain ⟨rfl, rfl⟩ := c
    omega
  · have := this.2.2.2.2 (by omega)
    omega
theorem su_inv {v : Int} (hv : 0 ≤ v) (hv2 : v ≤ 99) : ∀ (n : Nat) (T : Tb) (i j : Int), hH T i j → T i j = v → i + j < n →
    hH (su v n T i j).1 (su v n T i j).2.1 (su v n T i j).2.2.1 ∧ (su v n T i j).1 (su v n T i j).2.1 (su v n T i j).2.2.1 = v ∧
    (su v n T i j).1 ((su v n T i j).2.1 - 1) (su v n T i j).2.2.1 ≤ v ∧ (su v n T i j).1 (su v n T i j).2.1 ((su v n T i j).2.2.1 - 1) ≤ v ∧
    (∀ a b, (su v n T i j).1 a b = -1 ↔ T a b = -1) ∧ (su v n T i j).2.2.2 = i + j - (su v n T i j).2.1 - (su v n T i j).2.2.1 ∧
    ((T (i + 1) j = -1 ∨ v ≤ T (i + 1) j) → (T i (j + 1) = -1 ∨ v ≤ T i (j + 1)) → ((su v n T i j).1 ((su v n T i j).2.1 + 1) (su v n T i j).2.2.1 = -1 ∨ v ≤ (su v n T i j).1 ((su v n T i j).2.1 + 1) (su v n T i j).2.2.1) ∧ ((su v n T i j).1 (su v n T i j).2.1 ((su v n T i j).2.2.1 + 1) = -1 ∨ v ≤ (su v n T i j).1 (su v n T i j).2.1 ((su v n T i j).2.2.1 + 1))) := by
  intro n
  induction n with
  | zero =>
    intro T i j h hT hn
    have := h.1 i j (by omega)
    omega
  | succ n ih =>
    intro T i j h hT hn
    have hc : T i j ≠ -1 := by omega
    have hb := h.1 i j hc
    rw [su]
    by_cases c0 : T (i - 1) j ≤ v ∧ T i (j - 1) ≤ v
    · rw [if_pos c0]
      exact ⟨h, hT, c0.1, c0.2, fun _ _ => Iff.rfl, by show (0 : Int) = i + j - i - j; omega, fun a b => ⟨a, b⟩⟩
    · rw [if_neg c0]
      by_cases c1 : T i (j - 1) ≤ T (i - 1) j
      · rw [if_pos c1]
        have hu : T (i - 1) j ≠ -1 := by omega
        have hub := h.1 (i - 1) j hu
        have hu2 := hub.2.2.2.2 (by omega)
        have h' := h.up (v := v) hc (by omega) (by omega) c1
        obtain ⟨r1, r2, r3, r4, r5, r6, r7⟩ := ih _ (i - 1) j h' (tset_at _ _ _ _) (by omega)
        refine ⟨r1, r2, r3, r4, fun a b => (r5 a b).trans (tset2_ex hc hu hu (by omega) a b), ?_, fun _ _ => ?_⟩
        · dsimp only
          omega
        · refine r7 ?_ ?_
          · rw [show i - 1 + 1 = i by omega, tset_ne _ _ _ _ (by omega), tset_at]
            omega
          · rw [tset_ne _ _ _ _ (by omega), tset_ne _ _ _ _ (by omega)]
            by_cases c : T (i - 1) (j + 1) = -1
            · exact Or.inl c
            · have := h.2.2.2.1 (i - 1) (j + 1) c (by have := h.1 _ _ c; omega) (by omega) (by omega)
              rw [show j + 1 - 1 = j by omega] at this
              omega
      · rw [if_neg c1]
        have hu : T i (j - 1) ≠ -1 := by
          intro hz
          by_cases c : T (i - 1) j = -1
          · omega
          · have := h.1 _ _ c
            have := this.2.2.2.2 (by omega)
            omega
        have hub := h.1 i (j - 1) hu
        have hu2 := hub.2.2.2.2 (by omega)
        have h' := h.left (v := v) hc (by omega) (by omega) (by omega)
        obtain ⟨r1, r2, r3, r4, r5, r6, r7⟩ := ih _ i (j - 1) h' (tset_at _ _ _ _) (by omega)
        refine ⟨r1, r2, r3, r4, fun a b => (r5 a b).trans (tset2_ex hc hu hu (by omega) a b), ?_, fun _ _ => ?_⟩
        · dsimp only
          omega
        · refine r7 ?_ ?_
          · rw [tset_ne _ _ _ _ (by omega), tset_ne _ _ _ _ (by omega)]
            by_cases c : T (i + 1) (j - 1) = -1
            · exact Or.inl c
            · have := h.2.2.1 (i + 1) (j - 1) c (by have := h.1 _ _ c; omega) (by omega) (by omega)
              rw [show i + 1 - 1 = i by omega] at this
              omega
          · rw [show j - 1 + 1 = j by omega, tset_ne _ _ _ _ (by omega), tset_at]
            omega
theorem sd_inv {v : Int} (hv : 0 ≤ v) (hv2 : v ≤ 100) : ∀ (n : Nat) (T : Tb) (i j : Int), hH T i j → T i j = v → T (i - 1) j ≤ v → T i (j - 1) ≤ v → 11 - i - j ≤ n →
    hH (sd v n T i j).1 (sd v n T i j).2.1 (sd v n T i j).2.2 ∧ (sd v n T i j).1 (sd v n T i j).2.1 (sd v n T i j).2.2 = v ∧
    (sd v n T i j).1 ((sd v n T i j).2.1 - 1) (sd v n T i j).2.2 ≤ v ∧ (sd v n T i j).1 (sd v n T i j).2.1 ((sd v n T i j).2.2 - 1) ≤ v ∧
    (∀ a b, (sd v n T i j).1 a b = -1 ↔ T a b = -1) ∧
    v ≤ lo1 ((sd v n T i j).1 ((sd v n T i j).2.1 + 1) (sd v n T i j).2.2) ∧ v ≤ lo1 ((sd v n T i j).1 (sd v n T i j).2.1 ((sd v n T i j).2.2 + 1)) := by
  intro n
  induction n with
  | zero =>
    intro T i j h hT _ _ hn
    have := h.1 i j (by omega)
    omega
  | succ n ih =>
    intro T i j h hT hu0 hl0 hn
    have hc : T i j ≠ -1 := by omega
    have hb := h.1 i j hc
    have kP : (lo1 (T (i + 1) j) = T (i + 1) j ∧ T (i + 1) j ≠ -1) ∨ (lo1 (T (i + 1) j) = 1000 ∧ T (i + 1) j = -1) := by
      unfold lo1
      by_cases c : T (i + 1) j = -1
      · rw [if_pos c]; exact Or.inr ⟨rfl, c⟩
      · rw [if_neg c]; exact Or.inl ⟨rfl, c⟩
    have kL : (lo1 (T i (j + 1)) = T i (j + 1) ∧ T i (j + 1) ≠ -1) ∨ (lo1 (T i (j + 1)) = 1000 ∧ T i (j + 1) = -1) := by
      unfold lo1
      by_cases c : T i (j + 1) = -1
      · rw [if_pos c]; exact Or.inr ⟨rfl, c⟩
      · rw [if_neg c]; exact Or.inl ⟨rfl, c⟩
    have kP9 : T (i + 1) j ≤ 99 := by
      by_cases c : T (i + 1) j = -1
      · omega
      · have := (h.1 _ _ c).2.2.2.2 (by omega); omega
    have kL9 : T i (j + 1) ≤ 99 := by
      by_cases c : T i (j + 1) = -1
      · omega
      · have := (h.1 _ _ c).2.2.2.2 (by omega); omega
    rw [sd]
    by_cases c0 : v ≤ lo1 (T (i + 1) j) ∧ v ≤ lo1 (T i (j + 1))
    · rw [if_pos c0]
      exact ⟨h, hT, hu0, hl0, fun _ _ => Iff.rfl, c0.1, c0.2⟩
    · rw [if_neg c0]
      by_cases c1 : lo1 (T (i + 1) j) ≤ lo1 (T i (j + 1))
      · rw [if_pos c1]
        have hu : T (i + 1) j ≠ -1 := by omega
        have hub := h.1 (i + 1) j hu
        have h' := h.down (v := v) hc hu (by omega) (by omega)
        obtain ⟨r1, r2, r3, r4, r5, r6, r7⟩ := ih _ (i + 1) j h' (tset_at _ _ _ _) (by rw [show i + 1 - 1 = i by omega, tset_ne _ _ _ _ (by omega), tset_at]; omega) (by
          rw [tset_ne _ _ _ _ (by omega), tset_ne _ _ _ _ (by omega)]
          by_cases c : 0 < j
          · have := h.2.2.2.1 (i + 1) j hu c (by omega) (by omega); omega
          · rw [h.neg (by omega)]; omega) (by omega)
        exact ⟨r1, r2, r3, r4, fun a b => (r5 a b).trans (tset2_ex hc hu hu (by omega) a b), r6, r7⟩
      · rw [if_neg c1]
        have hu : T i (j + 1) ≠ -1 := by omega
        have hub := h.1 i (j + 1) hu
        have h' := h.right (v := v) hc hu (by omega) (by omega)
        obtain ⟨r1, r2, r3, r4, r5, r6, r7⟩ := ih _ i (j + 1) h' (tset_at _ _ _ _) (by
          rw [tset_ne _ _ _ _ (by omega), tset_ne _ _ _ _ (by omega)]
          by_cases c : 0 < i
          · have := h.2.2.1 i (j + 1) hu c (by omega) (by omega); omega
          · rw [h.neg (by omega)]; omega) (by rw [show j + 1 - 1 = j by omega, tset_ne _ _ _ _ (by omega), tset_at]; omega) (by omega)
        exact ⟨r1, r2, r3, r4, fun a b => (r5 a b).trans (tset2_ex hc hu hu (by omega) a b), r6, r7⟩
