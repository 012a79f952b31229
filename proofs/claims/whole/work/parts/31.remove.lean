-- taking a cell away, on both sides
/-- the reference's row while a hole moves: the hole's own number is not told -/
def tMh (T : Tb) (t : Int) (g : Nat → Int32) (i j : Int) : Prop := (∀ a, 0 ≤ a → a < 6 → g (42 * t + 36 + a).toNat = iz (len T a)) ∧ ∀ a b, T a b ≠ -1 → (a ≠ i ∨ b ≠ j) → g (42 * t + 6 * a + b).toNat = iz (T a b)
theorem pX10_length_l {T : Tb} {g : Nat → Int32} {t : Int} (hB : tB T) (h : ∀ a, 0 ≤ a → a < 6 → g (42 * t + 36 + a).toNat = iz (len T a)) (ht : 0 ≤ t) (ht2 : t ≤ 1) {i : Int} (h1 : -2147483648 ≤ i) (h2 : i < 2147483648) : pX10_length g (iz t) (iz i) = some (iz (len T i)) := by
  unfold pX10_length
  rw [iz_lz h1 h2, lz_0, lz_5, pX10_in_lz (by omega) (by omega) (by omega) (by omega) (by omega) (by omega), bd1_some, iz_0, ifb]
  by_cases c : 0 ≤ i ∧ i ≤ 5
  · rw [if_pos c]
    simp only [iz_42, iz_36, iz_mul, iz_add]
    rw [gI_iz (by omega) (by omega) (by omega), bd1_some, h i (by omega) (by omega)]
  · rw [if_neg c, len_out hB (by omega)]
theorem pX10_isCell_l {T : Tb} {g : Nat → Int32} {t : Int} (hK : tS T) (h : ∀ a, 0 ≤ a → a < 6 → g (42 * t + 36 + a).toNat = iz (len T a)) (ht : 0 ≤ t) (ht2 : t ≤ 1) {i j : Int} (h1 : -2147483648 ≤ i) (h2 : i < 2147483648) (h3 : -2147483648 ≤ j) (h4 : j < 2147483648) : pX10_isCell g (iz t) (iz i) (iz j) = some (if T i j = -1 then iz 0 else iz 1) := by
  unfold pX10_isCell
  have hl := len_b T i
  rw [pX10_length_l hK.1 h ht ht2 h1 h2, bd1_some]
  simp only [iz_1, iz_sub]
  rw [iz_lz h3 h4, lz_0, iz_lz (by omega) (by omega), pX10_in_lz (by omega) (by omega) (by omega) (by omega) (by omega) (by omega), bd1_some, zb_ite, bd1_some]
  congr 1
  by_cases c : 0 ≤ j
  · have := len_spec hK i j c
    by_cases c2 : T i j = -1
    · rw [if_pos c2, if_neg (by omega)]
    · rw [if_neg c2, if_pos (by omega)]
  · rw [hK.1.out (by omega), if_pos rfl, if_neg (by omega)]
theorem iz1_eq : (iz 1 = iz 0) = False := eq_false iz1_ne
theorem tMh.mv {T : Tb} {t : Int} {g : Nat → Int32} {i j a b v : Int} (h : tMh T t g i j) (hB : tB T) (ht : 0 ≤ t) (hc : T i j ≠ -1) (hd : T a b ≠ -1) (hn : a ≠ i ∨ b ≠ j) (hv : v ≠ -1) : tMh (tset (tset T i j (T a b)) a b v) t (upd g (42 * t + 6 * i + j).toNat (iz (T a b))) a b := by
  have hb := hB i j hc
  have hb2 := hB a b hd
  refine ⟨fun x h1 h2 => ?_, fun x y hxy n => ?_⟩
  · rw [len_set (by rw [tset_ne _ _ _ _ hn]; exact hd) hv, len_set hc hd]
    unfold upd
    rw [if_neg (by omega), h.1 x h1 h2]
  · rw [tset_ne _ _ _ _ n] at hxy ⊢
    unfold upd
    by_cases c : x = i ∧ y = j
    · obtain ⟨rfl, rfl⟩ := c
      rw [if_pos rfl, tset_at]
    · rw [tset_ne _ _ _ _ (by omega)] at hxy ⊢
      have hb3 := hB x y hxy
      rw [if_neg (by omega), h.2 x y hxy (by omega)]
theorem rm_M {t : Int} (ht : 0 ≤ t) (ht2 : t ≤ 1) : ∀ (n m : Nat) (T : Tb) (g g0 : Nat → Int32) (i j : Int), tS T → t99 T i j → tMh T t g i j → sameOut t g0 g → T i j = 100 → 11 - i - j ≤ n → n + 1 ≤ m →
    ∃ g', lpI m (un3 (pX10_removeOn_L6 (iz t))) (iz j, iz i, g) = some (iz (sd 100 n T i j).2.2, iz (sd 100 n T i j).2.1, g') ∧ tMh (sd 100 n T i j).1 t g' (sd 100 n T i j).2.1 (sd 100 n T i j).2.2 ∧ tS (sd 100 n T i j).1 ∧ sameOut t g0 g' := by
  intro n
  induction n with
  | zero =>
    intro m T g g0 i j hS h9 hM hO hT h
    have := hS.1 i j (by omega)
    omega
  | succ n ih =>
    intro m T g g0 i j hS h9 hM hO hT h5 h6
    obtain ⟨m, rfl⟩ : ∃ m', m = m' + 1 := ⟨m - 1, by omega⟩
    have hc : T i j ≠ -1 := by omega
    have hb := hS.1 i j hc
    have b1 := hS.1.lo (i + 1) j
    have b2 := hS.1.lo i (j + 1)
    have n1 := h9 (i + 1) j (by omega)
    have n2 := h9 i (j + 1) (by omega)
    have eB := pX10_isCell_l hS hM.1 ht ht2 (i := i + 1) (j := j) (by omega) (by omega) (by omega) (by omega)
    have eR := pX10_isCell_l hS hM.1 ht ht2 (i := i) (j := j + 1) (by omega) (by omega) (by omega) (by omega)
    have gB : T (i + 1) j ≠ -1 → pX10_get g (iz t) (iz (i + 1)) (iz j) = some (iz (T (i + 1) j)) := by
      intro hd
      have hb3 := hS.1 _ _ hd
      unfold pX10_get
      simp only [iz_42, iz_6, iz_mul, iz_add]
      rw [gI_iz (by omega) (by omega) (by omega), bd1_some, hM.2 _ _ hd (by omega)]
    have gR : T i (j + 1) ≠ -1 → pX10_get g (iz t) (iz i) (iz (j + 1)) = some (iz (T i (j + 1))) := by
      intro hd
      have hb3 := hS.1 _ _ hd
      unfold pX10_get
      simp only [iz_42, iz_6, iz_mul, iz_add]
      rw [gI_iz (by omega) (by omega) (by omega), bd1_some, hM.2 _ _ hd (by omega)]
    have st := pX10_set_iz (g := g) ht ht2 (i := i) (j := j) (x := iz (T (i + 1) j)) (by omega) (by omega) (by omega) (by omega)
    have sr := pX10_set_iz (g := g) ht ht2 (i := i) (j := j) (x := iz (T i (j + 1))) (by omega) (by omega) (by omega) (by omega)
    have z1 : (iz (1000 : Int) < iz (T (i + 1) j)) = False := by rw [iz_lt (by omega) (by omega) (by omega) (by omega)]; exact eq_false (by omega)
    have z2 : (iz (T i (j + 1)) < iz (1000 : Int)) = True := by rw [iz_lt (by omega) (by omega) (by omega) (by omega)]; exact eq_true (by omega)
    have z3 : (iz (T i (j + 1)) < iz (T (i + 1) j)) = (T i (j + 1) < T (i + 1) j) := iz_lt (by omega) (by omega) (by omega) (by omega)
    rw [sd]
    unfold lo1
    by_cases cB : T (i + 1) j = -1
    · rw [if_pos cB] at eB ⊢
      by_cases cR : T i (j + 1) = -1
      · rw [if_pos cR] at eR ⊢
        rw [if_pos (by omega)]
        have hb1 : un3 (pX10_removeOn_L6 (iz t)) (iz j, iz i, g) = some (.inr (iz j, iz i, g)) := by
          rw [un3_mk]
          unfold pX10_removeOn_L6
          simp only [iz_0, iz_1, iz_add, eB, eR, bd1_some, if_true]
        rw [lpI_x hb1]
        exact ⟨g, rfl, hM, hS, hO⟩
      · rw [if_neg cR] at eR ⊢
        rw [if_neg (by omega), if_neg (by omega)]
        have hb1 : un3 (pX10_removeOn_L6 (iz t)) (iz j, iz i, g) = some (.inl (iz (j + 1), iz i, upd g (42 * t + 6 * i + j).toNat (iz (T i (j + 1))))) := by
          rw [un3_mk]
          unfold pX10_removeOn_L6
          simp only [iz_0, iz_1, iz_1000, iz_add, eB, eR, gR cR, bd1_some, if_true, if_false, iz1_eq, z2, sr, Int.add_zero]
        rw [lpI_c hb1]
        exact ih m _ _ g0 i (j + 1) ((hS.set hc (by omega) (by omega)).set (by rw [tset_ne _ _ _ _ (by omega)]; exact cR) (by omega) (by omega)) (h9.mv (by omega)) (hM.mv hS.1 ht hc cR (by omega) (by omega)) (hO.put (by omega) (by omega) ht) (tset_at _ _ _ _) (by omega) (by omega)
    · rw [if_neg cB] at eB ⊢
      by_cases cR : T i (j + 1) = -1
      · rw [if_pos cR] at eR ⊢
        rw [if_neg (by omega), if_pos (by omega)]
        have hb1 : un3 (pX10_removeOn_L6 (iz t)) (iz j, iz i, g) = some (.inl (iz j, iz (i + 1), upd g (42 * t + 6 * i + j).toNat (iz (T (i + 1) j)))) := by
          rw [un3_mk]
          unfold pX10_removeOn_L6
          simp only [iz_0, iz_1, iz_1000, iz_add, eB, eR, gB cB, bd1_some, if_true, if_false, iz1_eq, z1, st, Int.add_zero]
        rw [lpI_c hb1]
        exact ih m _ _ g0 (i + 1) j ((hS.set hc (by omega) (by omega)).set (by rw [tset_ne _ _ _ _ (by omega)]; exact cB) (by omega) (by omega)) (h9.mv (by omega)) (hM.mv hS.1 ht hc cB (by omega) (by omega)) (hO.put (by omega) (by omega) ht) (tset_at _ _ _ _) (by omega) (by omega)
      · rw [if_neg cR] at eR ⊢
        rw [if_neg (by omega)]
        by_cases c1 : T (i + 1) j ≤ T i (j + 1)
        · rw [if_pos c1]
          have hb1 : un3 (pX10_removeOn_L6 (iz t)) (iz j, iz i, g) = some (.inl (iz j, iz (i + 1), upd g (42 * t + 6 * i + j).toNat (iz (T (i + 1) j)))) := by
            rw [un3_mk]
            unfold pX10_removeOn_L6
            have z4 : (T i (j + 1) < T (i + 1) j) = False := eq_false (by omega)
            simp only [iz_0, iz_1, iz_1000, iz_add, eB, eR, gB cB, gR cR, bd1_some, if_true, if_false, iz1_eq, z3, z4, st, Int.add_zero]
          rw [lpI_c hb1]
          exact ih m _ _ g0 (i + 1) j ((hS.set hc (by omega) (by omega)).set (by rw [tset_ne _ _ _ _ (by omega)]; exact cB) (by omega) (by omega)) (h9.mv (by omega)) (hM.mv hS.1 ht hc cB (by omega) (by omega)) (hO.put (by omega) (by omega) ht) (tset_at _ _ _ _) (by omega) (by omega)
        · rw [if_neg c1]
          have hb1 : un3 (pX10_removeOn_L6 (iz t)) (iz j, iz i, g) = some (.inl (iz (j + 1), iz i, upd g (42 * t + 6 * i + j).toNat (iz (T i (j + 1))))) := by
            rw [un3_mk]
            unfold pX10_removeOn_L6
            have z4 : (T i (j + 1) < T (i + 1) j) = True := eq_true (by omega)
            simp only [iz_0, iz_1, iz_1000, iz_add, eB, eR, gB cB, gR cR, bd1_some, if_true, if_false, iz1_eq, z3, z4, sr, Int.add_zero]
          rw [lpI_c hb1]
          exact ih m _ _ g0 i (j + 1) ((hS.set hc (by omega) (by omega)).set (by rw [tset_ne _ _ _ _ (by omega)]; exact cR) (by omega) (by omega)) (h9.mv (by omega)) (hM.mv hS.1 ht hc cR (by omega) (by omega)) (hO.put (by omega) (by omega) ht) (tset_at _ _ _ _) (by omega) (by omega)
