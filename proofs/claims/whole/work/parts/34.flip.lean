/-- transposed, and transposed as far as row i, column j -/
def flT (T : Tb) : Tb := fun a b => T b a
def flP (T : Tb) (i j : Int) : Tb := fun a b => if 0 ≤ a ∧ 0 ≤ b ∧ ((a < i ∧ b < i) ∨ (a = i ∧ b < i ∧ b < j) ∨ (b = i ∧ a < i ∧ a < j)) then T b a else T a b
theorem fl_ok {T : Tb} (h : tOK T) : tOK (flT T) := by
  refine ⟨fun i j hc => ?_, fun i j hc hi => h.2.2 j i hc hi, fun i j hc hj => h.2.1 j i hc hj⟩
  have := h.1 j i hc
  unfold flT
  omega
theorem flP_step {T : Tb} {i j : Int} (h0 : 0 ≤ j) (hj : j < i) : tset (tset (flP T i j) i j (T j i)) j i (T i j) = flP T i (j + 1) := by
  funext a b
  unfold tset flP
  by_cases c1 : a = j ∧ b = i
  · obtain ⟨e1, e2⟩ := c1
    subst e1; subst e2
    rw [if_pos ⟨rfl, rfl⟩, if_pos (by omega)]
  · rw [if_neg c1]
    by_cases c2 : a = i ∧ b = j
    · obtain ⟨e1, e2⟩ := c2
      subst e1; subst e2
      rw [if_pos ⟨rfl, rfl⟩, if_pos (by omega)]
    · rw [if_neg c2]
      by_cases c3 : 0 ≤ a ∧ 0 ≤ b ∧ ((a < i ∧ b < i) ∨ (a = i ∧ b < i ∧ b < j) ∨ (b = i ∧ a < i ∧ a < j))
      · rw [if_pos c3, if_pos (by omega)]
      · rw [if_neg c3, if_neg (by omega)]
theorem flP_row {T : Tb} {i : Int} : flP T i i = flP T (i + 1) 0 := by
  funext a b
  unfold flP
  by_cases c : a = i ∧ b = i
  · obtain ⟨e1, e2⟩ := c
    subst e1; subst e2
    split <;> split <;> rfl
  · by_cases c3 : 0 ≤ a ∧ 0 ≤ b ∧ ((a < i ∧ b < i) ∨ (a = i ∧ b < i ∧ b < i) ∨ (b = i ∧ a < i ∧ a < i))
    · rw [if_pos c3]
      split
      · rfl
      · omega
    · rw [if_neg c3]
      split
      · omega
      · rfl
theorem flP_b {T : Tb} (h : tB T) (i j : Int) : tB (flP T i j) := by
  intro a b hc
  unfold flP at hc ⊢
  by_cases c : 0 ≤ a ∧ 0 ≤ b ∧ ((a < i ∧ b < i) ∨ (a = i ∧ b < i ∧ b < j) ∨ (b = i ∧ a < i ∧ a < j))
  · rw [if_pos c] at hc ⊢
    have := h b a hc
    omega
  · rw [if_neg c] at hc ⊢
    exact h a b hc
theorem flip_row {T : Tb} (hB : tB T) {i : Int} (h1 : 0 ≤ i) (h2 : i < 6) : ∀ (m k : Nat) (j : Int) (f : Nat → Int32), tX (flP T i j) f → 0 ≤ j → j ≤ i → i - j ≤ k → k < m → ∃ f', lpI m (un2 (pX7_flip_L10 (iz i))) (iz j, f) = some f' ∧ tX (flP T (i + 1) 0) f' := by
  intro m
  induction m with
  | zero => intro k j f _ _ _ _ hk; omega
  | succ m ih =>
    intro k j f hf hj hj2 hk hk2
    by_cases c : i ≤ j
    · have e : j = i := by omega
      subst e
      have hb : un2 (pX7_flip_L10 (iz j)) (iz j, f) = some (.inr f) := by
        rw [un2_mk]
        unfold pX7_flip_L10
        rw [ifz_le (by omega) (by omega) (by omega) (by omega), if_pos c]
      refine ⟨f, by rw [lpI_x hb], ?_⟩
      rw [← flP_row]
      exact hf
    · have hb : un2 (pX7_flip_L10 (iz i)) (iz j, f) = some (.inl (iz (j + 1), upd (upd f (i * 6 + j).toNat (iz (T j i))) (j * 6 + i).toNat (iz (T i j)))) := by
        rw [un2_mk]
        unfold pX7_flip_L10
        rw [ifz_le (by omega) (by omega) (by omega) (by omega), if_neg c]
        rw [pX7_at_iz (flP_b hB i j) hf (by omega) (by omega) (by omega) (by omega), bd1_some, pX7_at_iz (flP_b hB i j) hf (by omega) (by omega) (by omega) (by omega), bd1_some]
        rw [show flP T i j i j = T i j by unfold flP; rw [if_neg (by omega)], show flP T i j j i = T j i by unfold flP; rw [if_neg (by omega)]]
        rw [pX7_put_iz (by omega) (by omega) (by omega) (by omega), bd1_some, pX7_put_iz (by omega) (by omega) (by omega) (by omega), bd1_some, iz_1, iz_add]
      have hX := (hf.set (v := T j i) (i := i) (j := j) (by omega) (by omega) (by omega) (by omega)).set (v := T i j) (i := j) (j := i) (by omega) (by omega) (by omega) (by omega)
      rw [flP_step (by omega) (by omega)] at hX
      obtain ⟨f', r1, r2⟩ := ih (k - 1) (j + 1) _ hX (by omega) (by omega) (by omega) (by omega)
      exact ⟨f', by rw [lpI_c hb]; exact r1, r2⟩
theorem flip_all {T : Tb} (hB : tB T) : ∀ (m k : Nat) (i : Int) (f : Nat → Int32), tX (flP T i 0) f → 0 ≤ i → i ≤ 6 → 6 - i ≤ k → k < m → ∃ f', lpI m (un2 (pX7_flip_L2)) (iz i, f) = some f' ∧ tX (flT T) f' := by
  intro m
  induction m with
  | zero => intro k i f _ _ _ _ hk; omega
  | succ m ih =>
    intro k i f hf hi hi2 hk hk2
    by_cases c : 6 ≤ i
    · have hb : un2 (pX7_flip_L2) (iz i, f) = some (.inr f) := by
        rw [un2_mk]
        unfold pX7_flip_L2
        rw [iz_6, ifz_le (by omega) (by omega) (by omega) (by omega), if_pos c]
      refine ⟨f, by rw [lpI_x hb], ?_⟩
      intro a b q1 q2 q3 q4
      rw [hf a b q1 q2 q3 q4]
      unfold flP flT
      rw [if_pos (by omega)]
    · obtain ⟨f1, r1, r2⟩ := flip_row hB hi (by omega) lpF 6 0 f hf (by omega) (by omega) (by omega) (by unfold lpF; omega)
      have hb : un2 (pX7_flip_L2) (iz i, f) = some (.inl (iz (i + 1), f1)) := by
        rw [un2_mk]
        unfold pX7_flip_L2
        simp only [iz_0, iz_6, iz_1, iz_add]
        rw [ifz_le (by omega) (by omega) (by omega) (by omega), if_neg c, r1, bd1_some]
      obtain ⟨f', s1, s2⟩ := ih (k - 1) (i + 1) f1 r2 (by omega) (by omega) (by omega) (by omega)
      exact ⟨f', by rw [lpI_c hb]; exact s1, s2⟩
theorem pX7_flip_iz {T : Tb} {f : Nat → Int32} (hB : tB T) (h : tX T f) : ∃ f', pX7_flip f = some f' ∧ tX (flT T) f' := by
  have h0 : tX (flP T 0 0) f := by
    intro a b q1 q2 q3 q4
    rw [h a b q1 q2 q3 q4]
    unfold flP
    rw [if_neg (by omega)]
  obtain ⟨f', r1, r2⟩ := flip_all hB lpF 6 0 f h0 (by omega) (by omega) (by omega) (by unfold lpF; omega)
  refine ⟨f', ?_, r2⟩
  unfold pX7_flip
  rw [iz_0, r1, bd1_some]
