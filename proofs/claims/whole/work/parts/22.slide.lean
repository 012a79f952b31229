-- slides
/-- sliding up: the table, row, column at the end, and the number of exchanges -/
def su (v : Int) : Nat → Tb → Int → Int → Tb × Int × Int × Int
  | 0, T, i, j => (T, i, j, 0)
  | n + 1, T, i, j =>
    if T (i - 1) j ≤ v ∧ T i (j - 1) ≤ v then (T, i, j, 0)
    else if T i (j - 1) ≤ T (i - 1) j then ((su v n (tset (tset T i j (T (i - 1) j)) (i - 1) j v) (i - 1) j).1, (su v n (tset (tset T i j (T (i - 1) j)) (i - 1) j v) (i - 1) j).2.1, (su v n (tset (tset T i j (T (i - 1) j)) (i - 1) j v) (i - 1) j).2.2.1, (su v n (tset (tset T i j (T (i - 1) j)) (i - 1) j v) (i - 1) j).2.2.2 + 1)
    else ((su v n (tset (tset T i j (T i (j - 1))) i (j - 1) v) i (j - 1)).1, (su v n (tset (tset T i j (T i (j - 1))) i (j - 1) v) i (j - 1)).2.1, (su v n (tset (tset T i j (T i (j - 1))) i (j - 1) v) i (j - 1)).2.2.1, (su v n (tset (tset T i j (T i (j - 1))) i (j - 1) v) i (j - 1)).2.2.2 + 1)
theorem tB.set {T : Tb} (h : tB T) {i j v : Int} (hi : 0 ≤ i) (hi2 : i < 6) (hj : 0 ≤ j) (hj2 : j < 6) (hv : 0 ≤ v) (hv2 : v ≤ 100) : tB (tset T i j v) := by
  intro a b hc
  unfold tset at hc ⊢
  by_cases c : a = i ∧ b = j
  · rw [if_pos c]
    omega
  · rw [if_neg c] at hc ⊢
    exact h a b hc
theorem su_X {v : Int} (hv : 0 ≤ v) (hv2 : v ≤ 100) : ∀ (n m : Nat) (st : Int) (T : Tb) (f : Nat → Int32) (i j : Int), tB T → tX T f → 0 ≤ i → i < 6 → 0 ≤ j → j < 6 → i + j < n → n ≤ m → 0 ≤ st → st + i + j < 12 →
    ∃ f', lpI m (un4 (pX7_slideUp_L17 (iz v))) (iz st, iz j, iz i, f) = some (iz (su v n T i j).2.2.1, iz (su v n T i j).2.1, f') ∧ tX (su v n T i j).1 f' ∧ tB (su v n T i j).1 ∧ 0 ≤ (su v n T i j).2.1 ∧ (su v n T i j).2.1 < 6 ∧ 0 ≤ (su v n T i j).2.2.1 ∧ (su v n T i j).2.2.1 < 6 := by
  intro n
  induction n with
  | zero => intro m st T f i j _ _ _ _ _ _ h; omega
  | succ n ih =>
    intro m st T f i j hB hX h1 h2 h3 h4 h5 h6 h7 h8
    obtain ⟨m, rfl⟩ : ∃ m', m = m' + 1 := ⟨m - 1, by omega⟩
    have ba := hB.lo (i - 1) j
    have bl := hB.lo i (j - 1)
    have oa : 0 ≤ T (i - 1) j → 0 ≤ i - 1 := fun h => (hB (i - 1) j (by omega)).1
    have ol : 0 ≤ T i (j - 1) → 0 ≤ j - 1 := fun h => (hB i (j - 1) (by omega)).2.2.1
    rw [lpI, un4_mk]
    unfold pX7_slideUp_L17
    simp only [iz_1, iz_12, iz_neg, iz_add, iz_sub]
    rw [ifz_le (by omega) (by omega) (by omega) (by omega), if_neg (by omega), pX7_at_iz hB hX (by omega) (by omega) (by omega) (by omega), bd1_some, pX7_at_iz hB hX (by omega) (by omega) (by omega) (by omega), bd1_some, ifz_lt (by omega) (by omega) (by omega) (by omega), ifz_lt (by omega) (by omega) (by omega) (by omega), ifz_lt (by omega) (by omega) (by omega) (by omega)]
    rw [su]
    by_cases c0 : T (i - 1) j ≤ v ∧ T i (j - 1) ≤ v
    · rw [if_pos c0, if_neg (by omega), if_neg (by omega)]
      exact ⟨f, rfl, hX, hB, h1, h2, h3, h4⟩
    · rw [if_neg c0]
      by_cases c1 : T i (j - 1) ≤ T (i - 1) j
      · rw [if_pos c1, if_pos (by omega), if_neg (by omega)]
        rw [pX7_put_iz (by omega) (by omega) (by omega) (by omega)]
        simp only [bd1_some, un3_mk]
        rw [show i + -1 = i - 1 by omega, pX7_put_iz (by omega) (by omega) (by omega) (by omega)]
        simp only [bd1_some]
        exact ih m (st + 1) _ _ (i - 1) j ((hB.set h1 h2 h3 h4 (by omega) (by omega)).set (by omega) (by omega) h3 h4 hv hv2) ((hX.set h1 h2 h3 h4).set (by omega) (by omega) h3 h4) (by omega) (by omega) h3 h4 (by omega) (by omega) (by omega) (by omega)
      · rw [if_neg c1]
        have e1 : ∀ x y : Option (((Int32 × Int32 × Int32 × (Nat → Int32)) ⊕ (Int32 × Int32 × (Nat → Int32)))), x = y → (if v < T (i - 1) j then x else if v < T i (j - 1) then y else some (.inr (iz j, iz i, f))) = x := by
          intro x y hxy
          by_cases c2 : v < T (i - 1) j
          · rw [if_pos c2]
          · rw [if_neg c2, if_pos (by omega), hxy]
        rw [e1 _ _ rfl, if_pos (by omega)]
        rw [pX7_put_iz (by omega) (by omega) (by omega) (by omega)]
        simp only [bd1_some, un3_mk]
        rw [show j + -1 = j - 1 by omega, pX7_put_iz (by omega) (by omega) (by omega) (by omega)]
        simp only [bd1_some]
        exact ih m (st + 1) _ _ i (j - 1) ((hB.set h1 h2 h3 h4 (by omega) (by omega)).set h1 h2 (by omega) (by omega) hv hv2) ((hX.set h1 h2 h3 h4).set h1 h2 (by omega) (by omega)) h1 h2 (by omega) (by omega) (by omega) (by omega) (by omega) (by omega)
