/-- a cell's number, none counts as 0 -/
def vl (T : Tb) (i j : Int) : Int := if T i j = -1 then 0 else T i j
def sm36 (T : Tb) : Int := sumI (fun k => vl T (k / 6) (k % 6)) 36
theorem tX.at36 {T : Tb} {f : Nat → Int32} (h : tX T f) {k : Int} (h1 : 0 ≤ k) (h2 : k < 36) : f k.toNat = iz (T (k / 6) (k % 6)) := by
  have := h (k / 6) (k % 6) (by omega) (by omega) (by omega) (by omega)
  rw [show k / 6 * 6 + k % 6 = k by omega] at this
  exact this
theorem pX7_sum_iz {T : Tb} {f : Nat → Int32} (hB : tB T) (h : tX T f) : pX7_sum f = some (iz (sm36 T)) := by
  unfold pX7_sum
  simp only [iz_0]
  have hl : lpI lpF (un2 (pX7_sum_L4 f)) (iz 0, iz 0) = some (iz (sm36 T)) := by
    refine lp_cf (fun i => iz (sumI (fun k => vl T (k / 6) (k % 6)) i.toNat)) 0 36 _ (by omega) (by omega) (fun i hi hi2 => ?_) ?_
    · rw [un2_mk]
      unfold pX7_sum_L4
      have hb := hB.lo (i / 6) (i % 6)
      simp only [iz_36, iz_1, iz_neg, iz_add]
      rw [ifz_le (by omega) (by omega) (by omega) (by omega), if_neg (by omega), gI_iz (by omega) (by omega) (by omega), bd1_some, bd1_some, h.at36 hi hi2, ifz_eq (by omega) (by omega) (by omega) (by omega)]
      rw [show (i + 1).toNat = i.toNat + 1 by omega, sumI_s, show ((i.toNat : Nat) : Int) = i by omega]
      unfold vl
      by_cases c : T (i / 6) (i % 6) = -1
      · rw [if_pos c, if_pos c, Int.add_zero]
      · rw [if_neg c, if_neg c, iz_add]
    · rw [un2_mk]
      unfold pX7_sum_L4
      simp only [iz_36]
      rw [ifz_le (by omega) (by omega) (by omega) (by omega), if_pos (by omega)]
      rfl
  rw [hl, bd1_some]
