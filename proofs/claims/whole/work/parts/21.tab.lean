-- a table as a function of row and column: -1 where there is no cell
abbrev Tb : Type := Int → Int → Int
def tB (T : Tb) : Prop := ∀ i j, T i j ≠ -1 → 0 ≤ i ∧ i < 6 ∧ 0 ≤ j ∧ j < 6 ∧ 0 ≤ T i j ∧ T i j ≤ 100
def tOK (T : Tb) : Prop :=
  (∀ i j, T i j ≠ -1 → 0 ≤ i ∧ i < 6 ∧ 0 ≤ j ∧ j < 6 ∧ 0 ≤ T i j ∧ T i j ≤ 99) ∧
  (∀ i j, T i j ≠ -1 → 0 < i → T (i - 1) j ≠ -1 ∧ T (i - 1) j ≤ T i j) ∧
  (∀ i j, T i j ≠ -1 → 0 < j → T i (j - 1) ≠ -1 ∧ T i (j - 1) ≤ T i j)
theorem tOK.b {T : Tb} (h : tOK T) : tB T := fun i j hc => by
  have := h.1 i j hc
  omega
/-- the form alone -/
def tS (T : Tb) : Prop := tB T ∧ ∀ a b, T a b ≠ -1 → (0 < a → T (a - 1) b ≠ -1) ∧ (0 < b → T a (b - 1) ≠ -1)
theorem tOK.s {T : Tb} (h : tOK T) : tS T := ⟨h.b, fun a b hc => ⟨fun ha => (h.2.1 a b hc ha).1, fun hb => (h.2.2 a b hc hb).1⟩⟩
theorem tB.lo {T : Tb} (h : tB T) (i j : Int) : -1 ≤ T i j ∧ T i j ≤ 100 := by
  by_cases hc : T i j = -1
  · omega
  · have := h i j hc
    omega
theorem tB.out {T : Tb} (h : tB T) {i j : Int} (ho : i < 0 ∨ 6 ≤ i ∨ j < 0 ∨ 6 ≤ j) : T i j = -1 := by
  by_cases hc : T i j = -1
  · exact hc
  · have := h i j hc
    omega
def tset (T : Tb) (i j v : Int) : Tb := fun a b => if a = i ∧ b = j then v else T a b
theorem tset_at (T : Tb) (i j v : Int) : tset T i j v i j = v := by simp [tset]
theorem tset_ne (T : Tb) (i j v : Int) {a b : Int} (h : a ≠ i ∨ b ≠ j) : tset T i j v a b = T a b := by
  unfold tset
  rw [if_neg]
  omega
/-- the class's row of 36 numbers -/
def tX (T : Tb) (f : Nat → Int32) : Prop := ∀ i j, 0 ≤ i → i < 6 → 0 ≤ j → j < 6 → f (i * 6 + j).toNat = iz (T i j)
theorem tX.set {T : Tb} {f : Nat → Int32} (h : tX T f) {i j v : Int} (hi : 0 ≤ i) (hi2 : i < 6) (hj : 0 ≤ j) (hj2 : j < 6) : tX (tset T i j v) (upd f (i * 6 + j).toNat (iz v)) := by
  intro a b h1 h2 h3 h4
  unfold upd tset
  by_cases hc : a = i ∧ b = j
  · rw [if_pos hc, if_pos (by omega)]
  · rw [if_neg hc, if_neg (by omega)]
    exact h a b h1 h2 h3 h4
theorem pX7_at_iz {T : Tb} {f : Nat → Int32} (hB : tB T) (h : tX T f) {i j : Int} (h1 : -1000 ≤ i) (h2 : i ≤ 1000) (h3 : -1000 ≤ j) (h4 : j ≤ 1000) : pX7_at f (iz i) (iz j) = some (iz (T i j)) := by
  unfold pX7_at
  simp only [iz_0, iz_6, iz_1, iz_neg, iz_mul, iz_add]
  rw [ifz_lt (by omega) (by omega) (by omega) (by omega)]
  by_cases c1 : i < 0
  · rw [if_pos c1, hB.out (by omega)]
  rw [if_neg c1, ifz_le (by omega) (by omega) (by omega) (by omega)]
  by_cases c2 : 6 ≤ i
  · rw [if_pos c2, hB.out (by omega)]
  rw [if_neg c2, ifz_lt (by omega) (by omega) (by omega) (by omega)]
  by_cases c3 : j < 0
  · rw [if_pos c3, hB.out (by omega)]
  rw [if_neg c3, ifz_lt (by omega) (by omega) (by omega) (by omega)]
  by_cases c4 : j < 6
  · rw [if_pos c4, gI_iz (by omega) (by omega) (by omega), bd1_some, h i j (by omega) (by omega) (by omega) (by omega)]
  · rw [if_neg c4, hB.out (by omega)]
theorem pX7_put_iz {f : Nat → Int32} {i j : Int} {x : Int32} (h1 : 0 ≤ i) (h2 : i < 6) (h3 : 0 ≤ j) (h4 : j < 6) : pX7_put f (iz i) (iz j) x = some (upd f (i * 6 + j).toNat x) := by
  unfold pX7_put
  simp only [iz_0, iz_6, iz_mul, iz_add]
  rw [ifz_lt (by omega) (by omega) (by omega) (by omega), if_neg (by omega), ifz_le (by omega) (by omega) (by omega) (by omega), if_neg (by omega), ifz_lt (by omega) (by omega) (by omega) (by omega), if_neg (by omega), ifz_le (by omega) (by omega) (by omega) (by omega), if_neg (by omega), sI_iz (by omega) (by omega) (by omega), bd1_some]
theorem pX7_has_iz {T : Tb} {f : Nat → Int32} (hB : tB T) (h : tX T f) {i j : Int} (h1 : -1000 ≤ i) (h2 : i ≤ 1000) (h3 : -1000 ≤ j) (h4 : j ≤ 1000) : pX7_has f (iz i) (iz j) = some (if T i j = -1 then iz 0 else iz 1) := by
  unfold pX7_has
  have := hB.lo i j
  rw [pX7_at_iz hB h h1 h2 h3 h4, bd1_some]
  simp only [iz_1, iz_neg, iz_0]
  rw [ifz_eq (by omega) (by omega) (by omega) (by omega)]
  by_cases c : T i j = -1 <;> simp [c]
-- lengths of rows and columns
def ex (T : Tb) (i j : Int) : Int := if T i j = -1 then 0 else 1
theorem ex_01 (T : Tb) (i j : Int) : 0 ≤ ex T i j ∧ ex T i j ≤ 1 ∧ (T i j = -1 ↔ ex T i j = 0) := by
  unfold ex
  by_cases c : T i j = -1 <;> simp [c]
def len (T : Tb) (i : Int) : Int := sumI (fun j => ex T i j) 6
def tall (T : Tb) (j : Int) : Int := sumI (fun i => ex T i j) 6
theorem len_6 (T : Tb) (i : Int) : len T i = ex T i 0 + ex T i 1 + ex T i 2 + ex T i 3 + ex T i 4 + ex T i 5 := sumI_6 _
theorem tall_6 (T : Tb) (j : Int) : tall T j = ex T 0 j + ex T 1 j + ex T 2 j + ex T 3 j + ex T 4 j + ex T 5 j := sumI_6 _
theorem len_spec {T : Tb} (h : tS T) (i j : Int) (h1 : 0 ≤ j) : T i j ≠ -1 ↔ j < len T i := by
  have e0 := ex_01 T i 0
  have e1 := ex_01 T i 1
  have e2 := ex_01 T i 2
  have e3 := ex_01 T i 3
  have e4 := ex_01 T i 4
  have e5 := ex_01 T i 5
  have m1 := fun hc => (h.2 i 1 hc).2
  have m2 := fun hc => (h.2 i 2 hc).2
  have m3 := fun hc => (h.2 i 3 hc).2
  have m4 := fun hc => (h.2 i 4 hc).2
  have m5 := fun hc => (h.2 i 5 hc).2
  simp only [show (1 : Int) - 1 = 0 by rfl, show (2 : Int) - 1 = 1 by rfl, show (3 : Int) - 1 = 2 by rfl, show (4 : Int) - 1 = 3 by rfl, show (5 : Int) - 1 = 4 by rfl] at m1 m2 m3 m4 m5
  rw [len_6]
  by_cases hj : 6 ≤ j
  · have := h.1.out (i := i) (j := j) (by omega)
    omega
  · rcases (show j = 0 ∨ j = 1 ∨ j = 2 ∨ j = 3 ∨ j = 4 ∨ j = 5 by omega) with rfl | rfl | rfl | rfl | rfl | rfl <;> omega
theorem tall_spec {T : Tb} (h : tS T) (i j : Int) (h1 : 0 ≤ i) : T i j ≠ -1 ↔ i < tall T j := by
  have e0 := ex_01 T 0 j
  have e1 := ex_01 T 1 j
  have e2 := ex_01 T 2 j
  have e3 := ex_01 T 3 j
  have e4 := ex_01 T 4 j
  have e5 := ex_01 T 5 j
  have m1 := fun hc => (h.2 1 j hc).1
  have m2 := fun hc => (h.2 2 j hc).1
  have m3 := fun hc => (h.2 3 j hc).1
  have m4 := fun hc => (h.2 4 j hc).1
  have m5 := fun hc => (h.2 5 j hc).1
  simp only [show (1 : Int) - 1 = 0 by rfl, show (2 : Int) - 1 = 1 by rfl, show (3 : Int) - 1 = 2 by rfl, show (4 : Int) - 1 = 3 by rfl, show (5 : Int) - 1 = 4 by rfl] at m1 m2 m3 m4 m5
  rw [tall_6]
  by_cases hi : 6 ≤ i
  · have := h.1.out (i := i) (j := j) (by omega)
    omega
  · rcases (show i = 0 ∨ i = 1 ∨ i = 2 ∨ i = 3 ∨ i = 4 ∨ i = 5 by omega) with rfl | rfl | rfl | rfl | rfl | rfl <;> omega
theorem len_b (T : Tb) (i : Int) : 0 ≤ len T i ∧ len T i ≤ 6 := by
  have e0 := ex_01 T i 0
  have e1 := ex_01 T i 1
  have e2 := ex_01 T i 2
  have e3 := ex_01 T i 3
  have e4 := ex_01 T i 4
  have e5 := ex_01 T i 5
  rw [len_6]
  omega
theorem tall_b (T : Tb) (j : Int) : 0 ≤ tall T j ∧ tall T j ≤ 6 := by
  have e0 := ex_01 T 0 j
  have e1 := ex_01 T 1 j
  have e2 := ex_01 T 2 j
  have e3 := ex_01 T 3 j
  have e4 := ex_01 T 4 j
  have e5 := ex_01 T 5 j
  rw [tall_6]
  omega
theorem len_out {T : Tb} (h : tB T) {i : Int} (ho : i < 0 ∨ 6 ≤ i) : len T i = 0 := by
  rw [len_6]
  unfold ex
  rw [h.out (by omega), h.out (by omega), h.out (by omega), h.out (by omega), h.out (by omega), h.out (by omega)]
  rfl
theorem len_dec {T : Tb} (h : tS T) (i : Int) (hi : 0 ≤ i) : len T (i + 1) ≤ len T i := by
  have h1 := len_b T i
  have h2 := len_b T (i + 1)
  by_cases c : len T (i + 1) = 0
  · omega
  · have h3 := (len_spec h (i + 1) (len T (i + 1) - 1) (by omega)).mpr (by omega)
    have h4 := (h.2 (i + 1) _ h3).1 (by omega)
    rw [show i + 1 - 1 = i by omega] at h4
    have := (len_spec h i (len T (i + 1) - 1) (by omega)).mp h4
    omega
/-- the reference's row of 84: places and lengths of the table t -/
def tM (T : Tb) (t : Int) (g : Nat → Int32) : Prop := (∀ i, 0 ≤ i → i < 6 → g (42 * t + 36 + i).toNat = iz (len T i)) ∧ ∀ i j, T i j ≠ -1 → g (42 * t + 6 * i + j).toNat = iz (T i j)
-- rowLength, columnLength
theorem pX7_rowLength_iz {T : Tb} {f : Nat → Int32} (hB : tB T) (h : tX T f) {i : Int} (h1 : -1000 ≤ i) (h2 : i ≤ 1000) : pX7_rowLength f (iz i) = some (iz (len T i)) := by
  unfold pX7_rowLength
  simp only [iz_0, iz_6]
  rw [ifz_lt (by omega) (by omega) (by omega) (by omega)]
  by_cases c1 : i < 0
  · rw [if_pos c1, len_out hB (by omega)]
  rw [if_neg c1, ifz_lt (by omega) (by omega) (by omega) (by omega)]
  by_cases c2 : i < 6
  · rw [if_pos c2]
    have hl : lpI lpF (un2 (pX7_rowLength_L16 f (iz i))) (iz 0, iz 0) = some (iz (len T i)) := by
      refine lp_cf (fun j => iz (sumI (fun j => ex T i j) j.toNat)) 0 6 _ (by omega) (by omega) (fun j hj hj2 => ?_) ?_
      · rw [un2_mk]
        unfold pX7_rowLength_L16
        have hb := hB.lo i j
        simp only [iz_6, iz_1, iz_neg, iz_mul, iz_add]
        rw [ifz_le (by omega) (by omega) (by omega) (by omega), if_neg (by omega), gI_iz (by omega) (by omega) (by omega), bd1_some, h i j (by omega) (by omega) (by omega) (by omega), ifz_eq (by omega) (by omega) (by omega) (by omega)]
        rw [show (j + 1).toNat = j.toNat + 1 by omega, sumI_s, show ((j.toNat : Nat) : Int) = j by omega]
        unfold ex
        by_cases c : T i j = -1 <;> simp [c]
      · rw [un2_mk]
        unfold pX7_rowLength_L16
        simp only [iz_6]
        rw [ifz_le (by omega) (by omega) (by omega) (by omega), if_pos (by omega)]
        rfl
    rw [hl, bd1_some]
  · rw [if_neg c2, len_out hB (by omega)]
theorem pX7_columnLength_iz {T : Tb} {f : Nat → Int32} (hB : tB T) (h : tX T f) {j : Int} (h1 : -1000 ≤ j) (h2 : j ≤ 1000) : pX7_columnLength f (iz j) = some (iz (tall T j)) := by
  unfold pX7_columnLength
  simp only [iz_0]
  have hl : lpI lpF (un2 (pX7_columnLength_L4 f (iz j))) (iz 0, iz 0) = some (iz (tall T j)) := by
    refine lp_cf (fun i => iz (sumI (fun i => ex T i j) i.toNat)) 0 6 _ (by omega) (by omega) (fun i hi hi2 => ?_) ?_
    · rw [un2_mk]
      unfold pX7_columnLength_L4
      have hb := hB.lo i j
      simp only [iz_6, iz_1, iz_neg, iz_add]
      rw [ifz_le (by omega) (by omega) (by omega) (by omega), if_neg (by omega), pX7_at_iz hB h (by omega) (by omega) h1 h2, bd1_some, ifz_eq (by omega) (by omega) (by omega) (by omega)]
      rw [show (i + 1).toNat = i.toNat + 1 by omega, sumI_s, show ((i.toNat : Nat) : Int) = i by omega]
      unfold ex
      by_cases c : T i j = -1 <;> simp [c]
    · rw [un2_mk]
      unfold pX7_columnLength_L4
      simp only [iz_6]
      rw [ifz_le (by omega) (by omega) (by omega) (by omega), if_pos (by omega)]
      rfl
  rw [hl, bd1_some]
