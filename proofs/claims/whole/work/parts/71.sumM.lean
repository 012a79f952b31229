def smR (T : Tb) (i : Int) : Int := sumI (fun j => vl T i j) 6
theorem sm36_rows (T : Tb) : sm36 T = sumI (fun i => smR T i) 6 := by
  unfold sm36 smR
  simp [sumI]
  omega
theorem vl_0 {T : Tb} (hS : tS T) {i j : Int} (h : 0 ≤ j) (h2 : len T i ≤ j) : vl T i j = 0 := by
  have hs := len_spec hS i j h
  unfold vl
  rw [if_pos (by omega)]
theorem smR_len {T : Tb} (hS : tS T) (i : Int) : ∀ n : Nat, len T i ≤ n → sumI (fun j => vl T i j) n = sumI (fun j => vl T i j) (len T i).toNat := by
  intro n
  have hb := len_b T i
  induction n with
  | zero =>
    intro h
    rw [show (len T i).toNat = 0 by omega]
  | succ n ih =>
    intro h
    by_cases c : len T i ≤ n
    · rw [sumI_s, ih c, vl_0 hS (by omega) c, Int.add_zero]
    · rw [show (len T i).toNat = n + 1 by omega]
theorem pX10_sumRow_iz {T : Tb} {g : Nat → Int32} {t : Int} (hS : tS T) (h : tM T t g) (ht : 0 ≤ t) (ht2 : t ≤ 1) {i s : Int} (h1 : 0 ≤ i) (h2 : i < 6) : lpI lpF (un2 (pX10_sumOf_L13 g (iz t) (iz i))) (iz 0, iz s) = some (iz (s + smR T i)) := by
  have hb := len_b T i
  have e0 : iz s = iz (s + sumI (fun j => vl T i j) (0 : Int).toNat) := by
    rw [show (0 : Int).toNat = 0 from rfl, sumI_0, Int.add_zero]
  rw [e0]
  refine lp_cf (fun j => iz (s + sumI (fun j => vl T i j) j.toNat)) 0 (len T i) _ (by omega) (by omega) (fun j hj hj2 => ?_) ?_
  · have hs := len_spec hS i j hj
    have hc : T i j ≠ -1 := hs.2 hj2
    rw [un2_mk]
    unfold pX10_sumOf_L13
    simp only [iz_1, iz_add]
    rw [pX10_length_iz hS.1 h ht ht2 (by omega) (by omega), bd1_some, ifz_le (by omega) (by omega) (by omega) (by omega), if_neg (by omega), pX10_get_iz h ht ht2 hc h1 h2 hj (by omega), bd1_some, iz_add]
    rw [show (j + 1).toNat = j.toNat + 1 by omega, sumI_s, show ((j.toNat : Nat) : Int) = j by omega]
    rw [show vl T i j = T i j by unfold vl; rw [if_neg hc], Int.add_assoc]
  · rw [un2_mk]
    unfold pX10_sumOf_L13
    rw [pX10_length_iz hS.1 h ht ht2 (by omega) (by omega), bd1_some, ifz_le (by omega) (by omega) (by omega) (by omega), if_pos (by omega)]
    unfold smR
    rw [smR_len hS i 6 (by omega)]
theorem pX10_sumOf_iz {T : Tb} {g : Nat → Int32} {t : Int} (hS : tS T) (h : tM T t g) (ht : 0 ≤ t) (ht2 : t ≤ 1) : pX10_sumOf g (iz t) = some (iz (sm36 T)) := by
  rw [sm36_rows]
  unfold pX10_sumOf
  simp only [iz_0]
  have hl : lpI lpF (un2 (pX10_sumOf_L4 g (iz t))) (iz 0, iz 0) = some (iz (sumI (fun i => smR T i) 6)) := by
    refine lp_cf (fun i => iz (sumI (fun i => smR T i) i.toNat)) 0 6 _ (by omega) (by omega) (fun i hi hi2 => ?_) ?_
    · rw [un2_mk]
      unfold pX10_sumOf_L4
      simp only [iz_6, iz_1, iz_0, iz_add]
      rw [ifz_le (by omega) (by omega) (by omega) (by omega), if_neg (by omega), pX10_sumRow_iz hS h ht ht2 hi hi2, bd1_some]
      rw [show (i + 1).toNat = i.toNat + 1 by omega, sumI_s, show ((i.toNat : Nat) : Int) = i by omega]
    · rw [un2_mk]
      unfold pX10_sumOf_L4
      simp only [iz_6]
      rw [ifz_le (by omega) (by omega) (by omega) (by omega), if_pos (by omega)]
      rfl
  rw [hl, bd1_some]
