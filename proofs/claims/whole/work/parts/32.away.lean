theorem pX7_slideDown_iz {v : Int} (hv : 0 ≤ v) (hv2 : v ≤ 100) {T : Tb} {f : Nat → Int32} {i j : Int} (hB : tB T) (h9 : t99 T i j) (hX : tX T f) (hT : T i j = v) (h1 : 0 ≤ i) (h2 : i < 6) (h3 : 0 ≤ j) (h4 : j < 6) :
    ∃ f', pX7_slideDown f (iz i) (iz j) = some (iz (10 * (sd v 11 T i j).2.1 + (sd v 11 T i j).2.2), f') ∧ tX (sd v 11 T i j).1 f' ∧ tB (sd v 11 T i j).1 ∧ 0 ≤ (sd v 11 T i j).2.1 ∧ (sd v 11 T i j).2.1 < 6 ∧ 0 ≤ (sd v 11 T i j).2.2 ∧ (sd v 11 T i j).2.2 < 6 := by
  obtain ⟨f', r1, r2⟩ := sd_X hv hv2 11 lpF 0 T f i j hB h9 hX h1 h2 h3 h4 (by omega) (by unfold lpF; omega) (by omega) (by omega)
  refine ⟨f', ?_, r2⟩
  unfold pX7_slideDown
  rw [pX7_at_iz hB hX (by omega) (by omega) (by omega) (by omega), bd1_some, hT, iz_0, r1, bd1_some, un3_mk, pX9_placeOf_iz, bd1_some]
def remS (T : Tb) (i j : Int) : Tb × Int × Int := sd 100 11 (tset T i j 100) i j
def remT (T : Tb) (i j : Int) : Tb := tset (remS T i j).1 (remS T i j).2.1 (remS T i j).2.2 (-1)
theorem t99_set {T : Tb} (h : tOK T) (i j v : Int) : t99 (tset T i j v) i j := by
  intro a b hn
  rw [tset_ne _ _ _ _ hn]
  by_cases c : T a b = -1
  · omega
  · have := h.1 a b c; omega
theorem rem_inv {T : Tb} (h : tOK T) {i j : Int} (hc : T i j ≠ -1) : hH (remS T i j).1 (remS T i j).2.1 (remS T i j).2.2 ∧ (remS T i j).1 (remS T i j).2.1 (remS T i j).2.2 = 100 ∧ (∀ a b, (remS T i j).1 a b = -1 ↔ T a b = -1) ∧ (remS T i j).1 ((remS T i j).2.1 + 1) (remS T i j).2.2 = -1 ∧ (remS T i j).1 (remS T i j).2.1 ((remS T i j).2.2 + 1) = -1 := by
  have hb := h.1 i j hc
  have h1 := h.hole i j 100 hc (by omega)
  have hu : tset T i j 100 (i - 1) j ≤ 100 := by
    rw [tset_ne _ _ _ _ (by omega)]
    have := h.b.lo (i - 1) j; omega
  have hl : tset T i j 100 i (j - 1) ≤ 100 := by
    rw [tset_ne _ _ _ _ (by omega)]
    have := h.b.lo i (j - 1); omega
  obtain ⟨r1, r2, r3, r4, r5, r6, r7⟩ := sd_inv (v := 100) (by omega) (by omega) 11 _ i j h1 (tset_at _ _ _ _) hu hl (by omega)
  refine ⟨r1, r2, fun a b => (r5 a b).trans ?_, ?_, ?_⟩
  · by_cases c : a = i ∧ b = j
    · obtain ⟨rfl, rfl⟩ := c
      rw [tset_at]
      exact ⟨fun h => by omega, fun h => absurd h hc⟩
    · rw [tset_ne _ _ _ _ (by omega)]
  · show (sd 100 11 (tset T i j 100) i j).1 _ _ = -1
    by_cases c : (sd 100 11 (tset T i j 100) i j).1 ((sd 100 11 (tset T i j 100) i j).2.1 + 1) (sd 100 11 (tset T i j 100) i j).2.2 = -1
    · exact c
    · have := (r1.1 _ _ c).2.2.2.2 (by omega)
      unfold lo1 at r6
      rw [if_neg c] at r6
      omega
  · show (sd 100 11 (tset T i j 100) i j).1 _ _ = -1
    by_cases c : (sd 100 11 (tset T i j 100) i j).1 (sd 100 11 (tset T i j 100) i j).2.1 ((sd 100 11 (tset T i j 100) i j).2.2 + 1) = -1
    · exact c
    · have := (r1.1 _ _ c).2.2.2.2 (by omega)
      unfold lo1 at r7
      rw [if_neg c] at r7
      omega
theorem rem_ok {T : Tb} (h : tOK T) {i j : Int} (hc : T i j ≠ -1) : tOK (remT T i j) := by
  obtain ⟨r1, r2, r3, r4, r5⟩ := rem_inv h hc
  unfold remT
  generalize (remS T i j).1 = S at *
  generalize (remS T i j).2.1 = a at *
  generalize (remS T i j).2.2 = b at *
  have ne : ∀ x y, tset S a b (-1) x y ≠ -1 → (x ≠ a ∨ y ≠ b) := by
    intro x y hxy
    by_cases c : x = a ∧ y = b
    · obtain ⟨rfl, rfl⟩ := c
      rw [tset_at] at hxy
      exact absurd rfl hxy
    · omega
  refine ⟨fun x y hxy => ?_, fun x y hxy hx => ?_, fun x y hxy hy => ?_⟩
  · have n := ne x y hxy
    rw [tset_ne _ _ _ _ n] at hxy ⊢
    have := r1.1 x y hxy
    have := this.2.2.2.2 n
    omega
  · have n := ne x y hxy
    rw [tset_ne _ _ _ _ n] at hxy ⊢
    have n2 : x - 1 ≠ a ∨ y ≠ b := by
      by_cases c : x - 1 = a ∧ y = b
      · obtain ⟨e1, rfl⟩ := c
        have : x = a + 1 := by omega
        subst this
        exact absurd r4 hxy
      · omega
    rw [tset_ne _ _ _ _ n2]
    exact ⟨(r1.2.1 x y hxy).1 hx, r1.2.2.1 x y hxy hx n n2⟩
  · have n := ne x y hxy
    rw [tset_ne _ _ _ _ n] at hxy ⊢
    have n2 : x ≠ a ∨ y - 1 ≠ b := by
      by_cases c : x = a ∧ y - 1 = b
      · obtain ⟨rfl, e1⟩ := c
        have : y = b + 1 := by omega
        subst this
        exact absurd r5 hxy
      · omega
    rw [tset_ne _ _ _ _ n2]
    exact ⟨(r1.2.1 x y hxy).2 hy, r1.2.2.2.1 x y hxy hy n n2⟩
theorem len_cut {S : Tb} {a b : Int} (hS : tB S) (hc : S a b ≠ -1) (x : Int) : len (tset S a b (-1)) x = if x = a then len S a - 1 else len S x := by
  have hb := hS a b hc
  by_cases c : x = a
  · subst c
    rw [if_pos rfl]
    have key : ∀ j, ex (tset S x b (-1)) x j = ex S x j - (if j = b then 1 else 0) := by
      intro j
      unfold ex
      by_cases c : j = b
      · subst c
        rw [tset_at, if_pos rfl, if_neg hc, if_pos rfl]; rfl
      · rw [tset_ne _ _ _ _ (by omega), if_neg c]; omega
    rw [len_6, key, key, key, key, key, key, len_6 S x]
    rcases (show b = 0 ∨ b = 1 ∨ b = 2 ∨ b = 3 ∨ b = 4 ∨ b = 5 by omega) with rfl | rfl | rfl | rfl | rfl | rfl <;> simp <;> omega
  · rw [if_neg c]
    unfold len
    refine sumI_congr (fun k _ _ => ?_)
    unfold ex
    rw [tset_ne _ _ _ _ (by omega)]
theorem pX7_takeAway_iz {T : Tb} {f : Nat → Int32} (hK : tOK T) (h : tX T f) {i j : Int} (hc : T i j ≠ -1) :
    ∃ f', pX7_takeAway f (iz i) (iz j) = some (iz (10 * (remS T i j).2.1 + (remS T i j).2.2), f') ∧ tX (remT T i j) f' := by
  have hb := hK.1 i j hc
  have hX1 := h.set (v := 100) (i := i) (j := j) (by omega) (by omega) (by omega) (by omega)
  have hB1 := hK.b.set (i := i) (j := j) (v := 100) (by omega) (by omega) (by omega) (by omega) (by omega) (by omega)
  obtain ⟨f', r1, r2, r3, r4, r5, r6, r7⟩ := pX7_slideDown_iz (v := 100) (by omega) (by omega) hB1 (t99_set hK i j 100) hX1 (tset_at _ _ _ _) (by omega) (by omega) (by omega) (by omega)
  have hX2 := r2.set (v := -1) r4 r5 r6 r7
  refine ⟨_, ?_, hX2⟩
  unfold pX7_takeAway
  simp only [iz_100, iz_1, iz_neg]
  rw [pX7_put_iz (by omega) (by omega) (by omega) (by omega), bd1_some, r1, bd1_some, un2_mk, pX9_rowOf_iz r4 (by omega) r6 (by omega), bd1_some, pX9_columnOf_iz r4 (by omega) r6 (by omega), bd1_some, pX7_put_iz r4 r5 r6 r7, bd1_some]
  rfl
theorem pX10_removeOn_iz {T : Tb} {g : Nat → Int32} {t : Int} (hK : tOK T) (h : tM T t g) (ht : 0 ≤ t) (ht2 : t ≤ 1) {i j : Int} (hc : T i j ≠ -1) :
    ∃ g', pX10_removeOn g (iz t) (iz i) (iz j) = some (iz (10 * (remS T i j).2.1 + (remS T i j).2.2), g') ∧ tM (remT T i j) t g' ∧ sameOut t g g' := by
  have hb := hK.1 i j hc
  have hS1 := hK.s.set (i := i) (j := j) (v := 100) hc (by omega) (by omega)
  have hM1 : tMh (tset T i j 100) t g i j := by
    refine ⟨fun x h1 h2 => ?_, fun x y hxy n => ?_⟩
    · rw [len_set hc (by omega), h.1 x h1 h2]
    · rw [tset_ne _ _ _ _ n] at hxy ⊢
      exact h.2 x y hxy
  obtain ⟨g', r1, r2, r3, r4⟩ := rm_M ht ht2 11 lpF _ g g i j hS1 (t99_set hK i j 100) hM1 (sameOut.rf t g) (tset_at _ _ _ _) (by omega) (by unfold lpF; omega)
  obtain ⟨q1, q2, q3, q4, q5⟩ := rem_inv hK hc
  have hcell : (remS T i j).1 (remS T i j).2.1 (remS T i j).2.2 ≠ -1 := by omega
  have r2' : tMh (remS T i j).1 t g' (remS T i j).2.1 (remS T i j).2.2 := r2
  have r3' : tS (remS T i j).1 := r3
  have hb2 := r3'.1 _ _ hcell
  have r1' : lpI lpF (un3 (pX10_removeOn_L6 (iz t))) (iz j, iz i, g) = some (iz (remS T i j).2.2, iz (remS T i j).2.1, g') := r1
  unfold remT
  generalize (remS T i j).1 = S at *
  generalize (remS T i j).2.1 = a at *
  generalize (remS T i j).2.2 = b at *
  have lb := len_b S a
  have hl : b < len S a := (len_spec r3' a b (by omega)).mp hcell
  refine ⟨upd (upd g' (42 * t + 36 + a).toNat (iz (len S a - 1))) (42 * t + 6 * a + b).toNat (iz 0), ?_, ⟨fun x h1 h2 => ?_, fun x y hxy => ?_⟩, fun k hk => ?_⟩
  · unfold pX10_removeOn
    rw [r1', bd1_some, un3_mk]
    simp only [iz_42, iz_36, iz_1, iz_0, iz_10, iz_mul, iz_add]
    rw [gI_iz (by omega) (by omega) (by omega), bd1_some, r2'.1 a (by omega) (by omega), iz_sub, sI_iz (by omega) (by omega) (by omega), bd1_some, pX10_set_iz ht ht2 (by omega) (by omega) (by omega) (by omega), bd1_some]
  · rw [len_cut r3'.1 hcell]
    unfold upd
    rw [if_neg (by omega)]
    by_cases c : x = a
    · rw [if_pos (by omega), if_pos c]
    · rw [if_neg (by omega), if_neg c, r2'.1 x h1 h2]
  · have n : x ≠ a ∨ y ≠ b := by
      by_cases c : x = a ∧ y = b
      · obtain ⟨rfl, rfl⟩ := c
        rw [tset_at] at hxy
        exact absurd rfl hxy
      · omega
    rw [tset_ne _ _ _ _ n] at hxy ⊢
    have hb3 := r3'.1 x y hxy
    unfold upd
    rw [if_neg (by omega), if_neg (by omega)]
    exact r2'.2 x y hxy n
  · unfold upd
    rw [if_neg (by omega), if_neg (by omega)]
    exact r4 k hk
