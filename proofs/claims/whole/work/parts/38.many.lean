/-- how many cells -/
def cnt (T : Tb) : Int := sumI (fun i => len T i) 6
theorem cnt_b (T : Tb) : 0 ≤ cnt T ∧ cnt T ≤ 36 := by
  have l0 := len_b T 0
  have l1 := len_b T 1
  have l2 := len_b T 2
  have l3 := len_b T 3
  have l4 := len_b T 4
  have l5 := len_b T 5
  have : cnt T = len T 0 + len T 1 + len T 2 + len T 3 + len T 4 + len T 5 := sumI_6 _
  omega
theorem pX7_cells_iz {T : Tb} {f : Nat → Int32} (hB : tB T) (h : tX T f) : pX7_cells f = some (iz (cnt T)) := by
  unfold pX7_cells
  simp only [iz_0]
  have hl : lpI lpF (un2 (pX7_cells_L4 f)) (iz 0, iz 0) = some (iz (cnt T)) := by
    refine lp_cf (fun i => iz (sumI (fun i => len T i) i.toNat)) 0 6 _ (by omega) (by omega) (fun i hi hi2 => ?_) ?_
    · rw [un2_mk]
      unfold pX7_cells_L4
      simp only [iz_6, iz_1, iz_add]
      rw [ifz_le (by omega) (by omega) (by omega) (by omega), if_neg (by omega), pX7_rowLength_iz hB h (by omega) (by omega), bd1_some, iz_add]
      rw [show (i + 1).toNat = i.toNat + 1 by omega, sumI_s, show ((i.toNat : Nat) : Int) = i by omega]
    · rw [un2_mk]
      unfold pX7_cells_L4
      simp only [iz_6]
      rw [ifz_le (by omega) (by omega) (by omega) (by omega), if_pos (by omega)]
      rfl
  rw [hl, bd1_some]
theorem pX10_many_iz {T : Tb} {g : Nat → Int32} {t : Int} (hB : tB T) (h : tM T t g) (ht : 0 ≤ t) (ht2 : t ≤ 1) : pX10_many g (iz t) = some (iz (cnt T)) := by
  unfold pX10_many
  simp only [iz_0]
  have hl : lpI lpF (un2 (pX10_many_L4 g (iz t))) (iz 0, iz 0) = some (iz (cnt T)) := by
    refine lp_cf (fun i => iz (sumI (fun i => len T i) i.toNat)) 0 6 _ (by omega) (by omega) (fun i hi hi2 => ?_) ?_
    · rw [un2_mk]
      unfold pX10_many_L4
      simp only [iz_6, iz_1, iz_add]
      rw [ifz_le (by omega) (by omega) (by omega) (by omega), if_neg (by omega), pX10_length_iz hB h ht ht2 (by omega) (by omega), bd1_some, iz_add]
      rw [show (i + 1).toNat = i.toNat + 1 by omega, sumI_s, show ((i.toNat : Nat) : Int) = i by omega]
    · rw [un2_mk]
      unfold pX10_many_L4
      simp only [iz_6]
      rw [ifz_le (by omega) (by omega) (by omega) (by omega), if_pos (by omega)]
      rfl
  rw [hl, bd1_some]
-- swapping
theorem pX7_swapWith_iz {T U : Tb} {f u : Nat → Int32} (h : tX T f) (h' : tX U u) : ∃ f' u', pX7_swapWith f u = some (f', u') ∧ tX U f' ∧ tX T u' := by
  have hl : lpI lpF (un3 (pX7_swapWith_L2)) (iz 0, cpW u f 0 0 0, cpW f u 0 0 0) = some (cpW u f 0 0 36, cpW f u 0 0 36) := by
    refine lp_cf (fun i => (cpW u f 0 0 i, cpW f u 0 0 i)) 0 36 _ (by omega) (by omega) (fun i hi hi2 => ?_) ?_
    · have e := cpW_s u f 0 0 i (by omega) hi
      have e' := cpW_s f u 0 0 i (by omega) hi
      rw [show (0 : Int) + i = i by omega] at e e'
      have a1 : cpW u f 0 0 i i.toNat = f i.toNat := by
        unfold cpW
        rw [if_neg (by omega)]
      have a2 : cpW f u 0 0 i i.toNat = u i.toNat := by
        unfold cpW
        rw [if_neg (by omega)]
      rw [un3_mk]
      unfold pX7_swapWith_L2
      simp only [iz_36, iz_1, iz_add]
      rw [ifz_le (by omega) (by omega) (by omega) (by omega), if_neg (by omega), gI_iz (by omega) (by omega) (by omega), bd1_some, gI_iz (by omega) (by omega) (by omega), bd1_some, sI_iz (by omega) (by omega) (by omega), bd1_some, sI_iz (by omega) (by omega) (by omega), bd1_some, a1, a2, e, e']
    · rw [un3_mk]
      unfold pX7_swapWith_L2
      simp only [iz_36]
      rw [ifz_le (by omega) (by omega) (by omega) (by omega), if_pos (by omega)]
  rw [cpW_0, cpW_0] at hl
  refine ⟨_, _, by unfold pX7_swapWith; rw [iz_0, hl, bd1_some, un2_mk], fun i j h1 h2 h3 h4 => ?_, fun i j h1 h2 h3 h4 => ?_⟩
  · unfold cpW
    rw [if_pos (by omega), show (((i * 6 + j).toNat : Nat) : Int) - 0 + 0 = i * 6 + j by omega]
    exact h' i j h1 h2 h3 h4
  · unfold cpW
    rw [if_pos (by omega), show (((i * 6 + j).toNat : Nat) : Int) - 0 + 0 = i * 6 + j by omega]
    exact h i j h1 h2 h3 h4
