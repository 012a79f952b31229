theorem pX10_rows_iz {T : Tb} {g : Nat → Int32} {t : Int} (hS : tS T) (h : tM T t g) (ht : 0 ≤ t) (ht2 : t ≤ 1) : pX10_rows g (iz t) = some (iz (tall T 0)) := by
  unfold pX10_rows
  simp only [iz_0]
  have hl : lpI lpF (un2 (pX10_rows_L4 g (iz t))) (iz 0, iz 0) = some (iz (tall T 0)) := by
    refine lp_cf (fun i => iz (sumI (fun i => ex T i 0) i.toNat)) 0 6 _ (by omega) (by omega) (fun i hi hi2 => ?_) ?_
    · rw [un2_mk]
      unfold pX10_rows_L4
      have hb := len_b T i
      have hs := len_spec hS i 0 (by omega)
      have he := ex_01 T i 0
      simp only [iz_6, iz_1, iz_0, iz_add]
      rw [ifz_le (by omega) (by omega) (by omega) (by omega), if_neg (by omega), pX10_length_iz hS.1 h ht ht2 (by omega) (by omega), bd1_some, ifz_le (by omega) (by omega) (by omega) (by omega)]
      rw [show (i + 1).toNat = i.toNat + 1 by omega, sumI_s, show ((i.toNat : Nat) : Int) = i by omega]
      by_cases c : len T i ≤ 0
      · rw [if_pos c, show ex T i 0 = 0 by omega]
      · rw [if_neg c, show ex T i 0 = 1 by omega]
    · rw [un2_mk]
      unfold pX10_rows_L4
      simp only [iz_6]
      rw [ifz_le (by omega) (by omega) (by omega) (by omega), if_pos (by omega)]
      rfl
  rw [hl, bd1_some]
/-- both tables' 42 numbers change places -/
theorem tM_move {T : Tb} {t t' : Int} {g w : Nat → Int32} (hB : tB T) (ht : 0 ≤ t) (ht' : 0 ≤ t') (h : tM T t g) : tM T t' (cpW g w (42 * t) (42 * t') 42) := by
  refine ⟨fun i h1 h2 => ?_, fun i j hc => ?_⟩
  · unfold cpW
    rw [if_pos (by omega), show (((42 * t' + 36 + i).toNat : Nat) : Int) - 42 * t' + 42 * t = 42 * t + 36 + i by omega]
    exact h.1 i h1 h2
  · have := hB i j hc
    unfold cpW
    rw [if_pos (by omega), show (((42 * t' + 6 * i + j).toNat : Nat) : Int) - 42 * t' + 42 * t = 42 * t + 6 * i + j by omega]
    exact h.2 i j hc
