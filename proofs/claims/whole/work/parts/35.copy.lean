/-- copied: n numbers of u from p, into w from q -/
def cpW (u w : Nat → Int32) (p q n : Int) : Nat → Int32 := fun k => if q ≤ (k : Int) ∧ (k : Int) < q + n then u ((k : Int) - q + p).toNat else w k
theorem cpW_0 (u w : Nat → Int32) (p q : Int) : cpW u w p q 0 = w := by
  funext k
  unfold cpW
  rw [if_neg (by omega)]
theorem cpW_s (u w : Nat → Int32) (p q n : Int) (hq : 0 ≤ q) (hn : 0 ≤ n) : upd (cpW u w p q n) (q + n).toNat (u (p + n).toNat) = cpW u w p q (n + 1) := by
  funext k
  unfold upd cpW
  by_cases c : k = (q + n).toNat
  · rw [if_pos c, if_pos (by omega), show ((k : Int) - q + p) = p + n by omega]
  · rw [if_neg c]
    by_cases c2 : q ≤ (k : Int) ∧ (k : Int) < q + n
    · rw [if_pos c2, if_pos (by omega)]
    · rw [if_neg c2, if_neg (by omega)]
theorem pX10_copy_iz {n0 n2 : Nat} {u w : Nat → Int32} {p q n : Int} (h1 : 0 ≤ p) (h2 : p + n ≤ n0) (h3 : 0 ≤ q) (h4 : q + n ≤ n2) (h5 : 0 ≤ n) (h6 : n < 4000) (h7 : n0 < 100000) (h8 : n2 < 100000) : pX10_copy n0 n2 u w (iz p) (iz q) (iz n) = some (cpW u w p q n) := by
  have hl : lpI lpF (un2 (pX10_copy_L3 n0 n2 u (iz p) (iz q) (iz n))) (iz 0, cpW u w p q 0) = some (cpW u w p q n) := by
    refine lp_cf (fun i => cpW u w p q i) 0 n _ (by omega) (by omega) (fun i hi hi2 => ?_) ?_
    · rw [un2_mk]
      unfold pX10_copy_L3
      simp only [iz_1, iz_add]
      rw [ifz_le (by omega) (by omega) (by omega) (by omega), if_neg (by omega), gI_iz (by omega) (by omega) (by omega), bd1_some, sI_iz (by omega) (by omega) (by omega), bd1_some, cpW_s _ _ _ _ _ h3 hi]
    · rw [un2_mk]
      unfold pX10_copy_L3
      rw [ifz_le (by omega) (by omega) (by omega) (by omega), if_pos (by omega)]
  rw [cpW_0] at hl
  unfold pX10_copy
  rw [iz_0, hl, bd1_some]
theorem pX10_copy_s_iz {n0 : Nat} {u : Nat → Int32} {p q n : Int} (h1 : 0 ≤ p) (h2 : p + n ≤ n0) (h3 : 0 ≤ q) (h4 : q ≤ p) (h5 : 0 ≤ n) (h6 : n < 4000) (h7 : n0 < 100000) : pX10_copy_s n0 u (iz p) (iz q) (iz n) = some (cpW u u p q n) := by
  have hl : lpI lpF (un2 (pX10_copy_s_L3 n0 (iz p) (iz q) (iz n))) (iz 0, cpW u u p q 0) = some (cpW u u p q n) := by
    refine lp_cf (fun i => cpW u u p q i) 0 n _ (by omega) (by omega) (fun i hi hi2 => ?_) ?_
    · have e : cpW u u p q i (p + i).toNat = u (p + i).toNat := by
        unfold cpW
        rw [if_neg (by omega)]
      rw [un2_mk]
      unfold pX10_copy_s_L3
      simp only [iz_1, iz_add]
      rw [ifz_le (by omega) (by omega) (by omega) (by omega), if_neg (by omega), gI_iz (by omega) (by omega) (by omega), bd1_some, sI_iz (by omega) (by omega) (by omega), bd1_some, e, cpW_s _ _ _ _ _ h3 hi]
    · rw [un2_mk]
      unfold pX10_copy_s_L3
      rw [ifz_le (by omega) (by omega) (by omega) (by omega), if_pos (by omega)]
  rw [cpW_0] at hl
  unfold pX10_copy_s
  rw [iz_0, hl, bd1_some]
