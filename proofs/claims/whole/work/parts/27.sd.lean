-- sliding down
def lo1 (x : Int) : Int := if x = -1 then 1000 else x
def sd (v : Int) : Nat → Tb → Int → Int → Tb × Int × Int
  | 0, T, i, j => (T, i, j)
  | n + 1, T, i, j =>
    if v ≤ lo1 (T (i + 1) j) ∧ v ≤ lo1 (T i (j + 1)) then (T, i, j)
    else if lo1 (T (i + 1) j) ≤ lo1 (T i (j + 1)) then sd v n (tset (tset T i j (T (i + 1) j)) (i + 1) j v) (i + 1) j
    else sd v n (tset (tset T i j (T i (j + 1))) i (j + 1) v) i (j + 1)
theorem pX7_orHole_iz {x : Int} (h1 : -1000 ≤ x) (h2 : x ≤ 1000) : pX7_orHole (iz x) = some (iz (if x = -1 then 100 else x)) := by
  unfold pX7_orHole
  simp only [iz_1, iz_neg, iz_100]
  rw [ifz_eq (by omega) (by omega) (by omega) (by omega)]
  by_cases c : x = -1
  · rw [if_pos c, if_pos c]
  · rw [if_neg c, if_neg c]
/-- all cells but one are at most 99 -/
def t99 (T : Tb) (i j : Int) : Prop := ∀ a b, (a ≠ i ∨ b ≠ j) → T a b ≤ 99
theorem t99.mv {T : Tb} {i j a b v : Int} (h : t99 T i j) (hn : a ≠ i ∨ b ≠ j) : t99 (tset (tset T i j (T a b)) a b v) a b := by
  intro x y hxy
  rw [tset_ne _ _ _ _ hxy]
  by_cases c : x = i ∧ y = j
  · obtain ⟨rfl, rfl⟩ := c
    rw [tset_at]
    exact h a b hn
  · rw [tset_ne _ _ _ _ (by omega)]
    exact h x y (by omega)
theorem sd_X {v : Int} (hv : 0 ≤ v) (hv2 : v ≤ 100) : ∀ (n m : Nat) (st : Int) (T : Tb) (f : Nat → Int32) (i j : Int), tB T → t99 T i j → tX T f → 0 ≤ i → i < 6 → 0 ≤ j → j < 6 → 11 - i - j ≤ n → n + 1 ≤ m → 0 ≤ st → st + 10 - i - j < 12 →
    ∃ f', lpI m (un4 (pX7_slideDown_L17 (iz v))) (iz st, iz j, iz i, f) = some (iz (sd v n T i j).2.2, iz (sd v n T i j).2.1, f') ∧ tX (sd v n T i j).1 f' ∧ tB (sd v n T i j).1 ∧ 0 ≤ (sd v n T i j).2.1 ∧ (sd v n T i j).2.1 < 6 ∧ 0 ≤ (sd v n T i j).2.2 ∧ (sd v n T i j).2.2 < 6 := by
  intro n
  induction n with
  | zero => intro m st T f i j _ _ _ _ _ _ _ h; omega
  | succ n ih =>
    intro m st T f i j hB h9 hX h1 h2 h3 h4 h5 h6 h7 h8
    obtain ⟨m, rfl⟩ : ∃ m', m = m' + 1 := ⟨m - 1, by omega⟩
    have ba := hB.lo (i + 1) j
    have bl := hB.lo i (j + 1)
    have ba9 := h9 (i + 1) j (by omega)
    have bl9 := h9 i (j + 1) (by omega)
    have oa : T (i + 1) j ≠ -1 → i + 1 < 6 ∧ 0 ≤ T (i + 1) j := fun h => by have := hB _ _ h; omega
    have ol : T i (j + 1) ≠ -1 → j + 1 < 6 ∧ 0 ≤ T i (j + 1) := fun h => by have := hB _ _ h; omega
    rw [lpI, un4_mk]
    unfold pX7_slideDown_L17
    simp only [iz_1, iz_12, iz_add]
    rw [ifz_le (by omega) (by omega) (by omega) (by omega), if_neg (by omega), pX7_at_iz hB hX (by omega) (by omega) (by omega) (by omega), bd1_some, pX7_orHole_iz (by omega) (by omega), bd1_some, pX7_at_iz hB hX (by omega) (by omega) (by omega) (by omega), bd1_some, pX7_orHole_iz (by omega) (by omega), bd1_some]
    obtain ⟨P, hP⟩ : ∃ P, P = (if T (i + 1) j = -1 then 100 else T (i + 1) j) := ⟨_, rfl⟩
    obtain ⟨L, hL⟩ : ∃ L, L = (if T i (j + 1) = -1 then 100 else T i (j + 1)) := ⟨_, rfl⟩
    rw [← hP, ← hL]
    have kP : (P = T (i + 1) j ∧ lo1 (T (i + 1) j) = T (i + 1) j ∧ T (i + 1) j ≠ -1) ∨ (P = 100 ∧ lo1 (T (i + 1) j) = 1000 ∧ T (i + 1) j = -1) := by
      unfold lo1
      by_cases c : T (i + 1) j = -1
      · rw [if_pos c] at hP ⊢
        exact Or.inr ⟨hP, rfl, c⟩
      · rw [if_neg c] at hP ⊢
        exact Or.inl ⟨hP, rfl, c⟩
    have kL : (L = T i (j + 1) ∧ lo1 (T i (j + 1)) = T i (j + 1) ∧ T i (j + 1) ≠ -1) ∨ (L = 100 ∧ lo1 (T i (j + 1)) = 1000 ∧ T i (j + 1) = -1) := by
      unfold lo1
      by_cases c : T i (j + 1) = -1
      · rw [if_pos c] at hL ⊢
        exact Or.inr ⟨hL, rfl, c⟩
      · rw [if_neg c] at hL ⊢
        exact Or.inl ⟨hL, rfl, c⟩
    clear hP hL
    rw [ifz_lt (by omega) (by omega) (by omega) (by omega), ifz_lt (by omega) (by omega) (by omega) (by omega), ifz_lt (by omega) (by omega) (by omega) (by omega), sd]
    by_cases c0 : v ≤ lo1 (T (i + 1) j) ∧ v ≤ lo1 (T i (j + 1))
    · rw [if_pos c0, if_neg (by omega), if_neg (by omega)]
      exact ⟨f, rfl, hX, hB, h1, h2, h3, h4⟩
    · rw [if_neg c0]
      have e1 : ∀ x y z : Option (((Int32 × Int32 × Int32 × (Nat → Int32)) ⊕ (Int32 × Int32 × (Nat → Int32)))), x = y → (if P < v then x else if L < v then y else z) = x := by
        intro x y z hxy
        by_cases c2 : P < v
        · rw [if_pos c2]
        · rw [if_neg c2, if_pos (by omega), hxy]
      rw [e1 _ _ _ rfl]
      by_cases c1 : lo1 (T (i + 1) j) ≤ lo1 (T i (j + 1))
      · rw [if_pos c1, if_neg (by omega)]
        obtain ⟨hP, hu⟩ : P = T (i + 1) j ∧ T (i + 1) j ≠ -1 := by omega
        have := oa hu
        rw [hP, pX7_put_iz (by omega) (by omega) (by omega) (by omega)]
        simp only [bd1_some, un3_mk]
        rw [pX7_put_iz (by omega) (by omega) (by omega) (by omega)]
        simp only [bd1_some]
        exact ih m (st + 1) _ _ (i + 1) j ((hB.set h1 h2 h3 h4 (by omega) (by omega)).set (by omega) (by omega) h3 h4 hv hv2) (h9.mv (by omega)) ((hX.set h1 h2 h3 h4).set (by omega) (by omega) h3 h4) (by omega) (by omega) h3 h4 (by omega) (by omega) (by omega) (by omega)
      · rw [if_neg c1, if_pos (by omega)]
        obtain ⟨hL, hu⟩ : L = T i (j + 1) ∧ T i (j + 1) ≠ -1 := by omega
        have := ol hu
        rw [hL, pX7_put_iz (by omega) (by omega) (by omega) (by omega)]
        simp only [bd1_some, un3_mk]
        rw [pX7_put_iz (by omega) (by omega) (by omega) (by omega)]
        simp only [bd1_some]
        exact ih m (st + 1) _ _ i (j + 1) ((hB.set h1 h2 h3 h4 (by omega) (by omega)).set h1 h2 (by omega) (by omega) hv hv2) (h9.mv (by omega)) ((hX.set h1 h2 h3 h4).set h1 h2 (by omega) (by omega)) h1 h2 (by omega) (by omega) (by omega) (by omega) (by omega) (by omega)
