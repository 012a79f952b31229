-- the reference's small methods
def lz (a : Int) : Int64 := Int64.ofInt a
theorem lz_toInt {a : Int} (h1 : -9223372036854775808 ≤ a) (h2 : a < 9223372036854775808) : (lz a).toInt = a := Int64.toInt_ofInt_of_le h1 h2
theorem iz_lz {a : Int} (h1 : -2147483648 ≤ a) (h2 : a < 2147483648) : (iz a).toInt64 = lz a := iz_l h1 h2
theorem lz_0 : (0 : Int64) = lz 0 := by decide
theorem lz_1 : (1 : Int64) = lz 1 := by decide
theorem lz_3 : (3 : Int64) = lz 3 := by decide
theorem lz_5 : (5 : Int64) = lz 5 := by decide
theorem lz_6 : (6 : Int64) = lz 6 := by decide
theorem lz_2 : (2 : Int64) = lz 2 := by decide
theorem lz_7 : (7 : Int64) = lz 7 := by decide
theorem lz_9 : (9 : Int64) = lz 9 := by decide
theorem lz_60 : (60 : Int64) = lz 60 := by decide
theorem lz_99 : (99 : Int64) = lz 99 := by decide
theorem lz_198 : (198 : Int64) = lz 198 := by decide
theorem lz_255 : (255 : Int64) = lz 255 := by decide
theorem pX10_in_lz {a b c : Int} (ha : -9223372036854775808 ≤ a) (ha2 : a < 9223372036854775808) (hb : -9223372036854775808 ≤ b) (hb2 : b < 9223372036854775808) (hc : -9223372036854775808 ≤ c) (hc2 : c < 9223372036854775808) : pX10_in (lz a) (lz b) (lz c) = some (if b ≤ a ∧ a ≤ c then iz 1 else iz 0) := by
  unfold pX10_in
  have e1 : (lg_cmp (lz a) (lz b) < 0) = (a < b) := by
    rw [eq_iff_iff, lg_cmp_lt, Int64.lt_iff_toInt_lt, lz_toInt ha ha2, lz_toInt hb hb2]
  have e2 : (0 < lg_cmp (lz a) (lz c)) = (c < a) := by
    rw [eq_iff_iff, lg_cmp_gt, Int64.lt_iff_toInt_lt, lz_toInt ha ha2, lz_toInt hc hc2]
  simp only [e1, e2]
  by_cases c1 : a < b
  · rw [if_pos c1, if_neg (by omega)]; rfl
  · rw [if_neg c1]
    by_cases c2 : c < a
    · rw [if_pos c2, if_neg (by omega)]; rfl
    · rw [if_neg c2, if_pos (by omega)]; rfl
theorem zb_ite {c : Prop} [Decidable c] : zb (if c then iz 1 else iz 0) = some (if c then iz 1 else iz 0) := by
  by_cases h : c
  · rw [if_pos h]; exact zb_1
  · rw [if_neg h]; exact zb_0
theorem ite_iz0 {c : Prop} [Decidable c] : ((if c then iz 1 else iz 0) = iz 0) = ¬ c := by
  by_cases h : c
  · rw [if_pos h]
    simp only [h, not_true_eq_false, eq_iff_iff, iff_false]
    decide
  · simp [h]
theorem ifb {α : Type} {c : Prop} [Decidable c] {x y : α} : (if (if c then iz 1 else iz 0) = iz 0 then x else y) = if c then y else x := by
  have h := @ite_iz0 c _
  by_cases hc : c
  · rw [if_pos hc, if_neg (by rw [show (iz 1 = iz 0) = (1 = (0 : Int)) from iz_eq (by omega) (by omega) (by omega) (by omega)]; omega)]
    rw [if_pos hc]
  · rw [if_neg hc, if_pos rfl, if_neg hc]
theorem pX10_isTable_iz {t : Int} (h1 : -2147483648 ≤ t) (h2 : t < 2147483648) : pX10_isTable (iz t) = some (if 0 ≤ t ∧ t ≤ 1 then iz 1 else iz 0) := by
  unfold pX10_isTable
  rw [iz_lz h1 h2, lz_0, lz_1, pX10_in_lz (by omega) (by omega) (by omega) (by omega) (by omega) (by omega), bd1_some, zb_ite, bd1_some]
theorem pX10_isNumber_iz {t : Int} (h1 : -2147483648 ≤ t) (h2 : t < 2147483648) : pX10_isNumber (iz t) = some (if 0 ≤ t ∧ t ≤ 99 then iz 1 else iz 0) := by
  unfold pX10_isNumber
  rw [iz_lz h1 h2, lz_0, lz_99, pX10_in_lz (by omega) (by omega) (by omega) (by omega) (by omega) (by omega), bd1_some, zb_ite, bd1_some]
theorem pX10_length_iz {T : Tb} {g : Nat → Int32} {t : Int} (hB : tB T) (h : tM T t g) (ht : 0 ≤ t) (ht2 : t ≤ 1) {i : Int} (h1 : -2147483648 ≤ i) (h2 : i < 2147483648) : pX10_length g (iz t) (iz i) = some (iz (len T i)) := by
  unfold pX10_length
  rw [iz_lz h1 h2, lz_0, lz_5, pX10_in_lz (by omega) (by omega) (by omega) (by omega) (by omega) (by omega), bd1_some, iz_0, ifb]
  by_cases c : 0 ≤ i ∧ i ≤ 5
  · rw [if_pos c]
    simp only [iz_42, iz_36, iz_mul, iz_add]
    rw [gI_iz (by omega) (by omega) (by omega), bd1_some, h.1 i (by omega) (by omega)]
  · rw [if_neg c, len_out hB (by omega)]
theorem pX10_get_iz {T : Tb} {g : Nat → Int32} {t : Int} (h : tM T t g) (ht : 0 ≤ t) (ht2 : t ≤ 1) {i j : Int} (hc : T i j ≠ -1) (h1 : 0 ≤ i) (h2 : i < 6) (h3 : 0 ≤ j) (h4 : j < 6) : pX10_get g (iz t) (iz i) (iz j) = some (iz (T i j)) := by
  unfold pX10_get
  simp only [iz_42, iz_6, iz_mul, iz_add]
  rw [gI_iz (by omega) (by omega) (by omega), bd1_some, h.2 i j hc]
theorem pX10_isCell_iz {T : Tb} {g : Nat → Int32} {t : Int} (hK : tS T) (h : tM T t g) (ht : 0 ≤ t) (ht2 : t ≤ 1) {i j : Int} (h1 : -2147483648 ≤ i) (h2 : i < 2147483648) (h3 : -2147483648 ≤ j) (h4 : j < 2147483648) : pX10_isCell g (iz t) (iz i) (iz j) = some (if T i j = -1 then iz 0 else iz 1) := by
  unfold pX10_isCell
  have hl := len_b T i
  rw [pX10_length_iz hK.1 h ht ht2 h1 h2, bd1_some]
  simp only [iz_1, iz_sub]
  rw [iz_lz h3 h4, lz_0, iz_lz (by omega) (by omega), pX10_in_lz (by omega) (by omega) (by omega) (by omega) (by omega) (by omega), bd1_some, zb_ite, bd1_some]
  congr 1
  by_cases c : 0 ≤ j
  · have := len_spec hK i j c
    by_cases c2 : T i j = -1
    · rw [if_pos c2, if_neg (by omega)]
    · rw [if_neg c2, if_pos (by omega)]
  · rw [hK.1.out (by omega), if_pos rfl, if_neg (by omega)]
theorem pX10_set_iz {g : Nat → Int32} {t : Int} (ht : 0 ≤ t) (ht2 : t ≤ 1) {i j : Int} {x : Int32} (h1 : 0 ≤ i) (h2 : i < 6) (h3 : 0 ≤ j) (h4 : j < 6) : pX10_set g (iz t) (iz i) (iz j) x = some (upd g (42 * t + 6 * i + j).toNat x) := by
  unfold pX10_set
  simp only [iz_42, iz_6, iz_mul, iz_add]
  rw [sI_iz (by omega) (by omega) (by omega), bd1_some]
