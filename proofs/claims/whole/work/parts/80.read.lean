-- reading the text: the class
theorem un6_mk {α β δ ε ζ η γ : Type} (g : α → β → δ → ε → ζ → η → γ) (a1 : α) (a2 : β) (a3 : δ) (a4 : ε) (a5 : ζ) (a6 : η) : un6 g (a1, a2, a3, a4, a5, a6) = g a1 a2 a3 a4 a5 a6 := rfl
theorem un7_mk {α β δ ε ζ η θ γ : Type} (g : α → β → δ → ε → ζ → η → θ → γ) (a1 : α) (a2 : β) (a3 : δ) (a4 : ε) (a5 : ζ) (a6 : η) (a7 : θ) : un7 g (a1, a2, a3, a4, a5, a6, a7) = g a1 a2 a3 a4 a5 a6 a7 := rfl
theorem un8_mk {α β δ ε ζ η θ ι γ : Type} (g : α → β → δ → ε → ζ → η → θ → ι → γ) (a1 : α) (a2 : β) (a3 : δ) (a4 : ε) (a5 : ζ) (a6 : η) (a7 : θ) (a8 : ι) : un8 g (a1, a2, a3, a4, a5, a6, a7, a8) = g a1 a2 a3 a4 a5 a6 a7 a8 := rfl
theorem iz_47 : (47 : Int32) = iz 47 := by decide
theorem iz_48 : (48 : Int32) = iz 48 := by decide
theorem iz_57 : (57 : Int32) = iz 57 := by decide
theorem iz_59 : (59 : Int32) = iz 59 := by decide
theorem iz_160 : (160 : Int32) = iz 160 := by decide
abbrev Q7 : Type := Int32 × Int32 × Int32 × Int32 × Int32 × (Nat → Int32) × (Nat → Int32)
/-- a text of L characters -/
def tT (X : Int → Int) (L : Int) (c : Nat → Int32) : Prop := ∀ k, 0 ≤ k → k < L → c k.toNat = iz (X k) ∧ 0 ≤ X k ∧ X k ≤ 255
def fs (t : Int) (f0 f1 : Nat → Int32) : Nat → Int32 := if t = 0 then f0 else f1
def lim (T : Tb) (i : Int) : Int := if i = 0 then 6 else len T (i - 1)
theorem lim_b (T : Tb) (i : Int) : 0 ≤ lim T i ∧ lim T i ≤ 6 := by
  unfold lim
  by_cases c : i = 0
  · rw [if_pos c]; omega
  · rw [if_neg c]; exact len_b T (i - 1)
def lmX (T : Tb) (i j : Int) : Int := mxp (T (i - 1) j) (T i (j - 1))
theorem lmX_b {T : Tb} (hB : tB T) (i j : Int) : -1 ≤ lmX T i j ∧ lmX T i j ≤ 100 := by
  have a := hB.lo (i - 1) j
  have b := hB.lo i (j - 1)
  exact mxp_b a.1 b.1 a.2 b.2
theorem pX4_least_iz {T : Tb} {f : Nat → Int32} (hB : tB T) (h : tX T f) {i j : Int} (h1 : 0 ≤ i) (h2 : i ≤ 6) (h3 : 0 ≤ j) (h4 : j ≤ 6) : pX4_leastNumber (iz i) (iz j) f = some (iz (lmX T i j)) := by
  have a := hB.lo (i - 1) j
  have b := hB.lo i (j - 1)
  unfold pX4_leastNumber lmX mxp
  simp only [iz_1, iz_sub]
  rw [pX7_at_iz hB h (by omega) (by omega) (by omega) (by omega), bd1_some, pX7_at_iz hB h (by omega) (by omega) (by omega) (by omega), bd1_some, ifz_lt (by omega) (by omega) (by omega) (by omega)]
  by_cases c : T (i - 1) j < T i (j - 1)
  · rw [if_pos c, if_pos c]
  · rw [if_neg c, if_neg c]
theorem pX2_table_iz {t : Int} (h1 : 0 ≤ t) (h2 : t ≤ 1) : pX2_table (iz t) = some (if t = 0 then true else false) := by
  unfold pX2_table
  rw [iz_0, ifz_eq (by omega) (by omega) (by omega) (by omega)]
  by_cases c : t = 0
  · rw [if_pos c, if_pos c]
  · rw [if_neg c, if_neg c]
theorem lim_bd {T : Tb} {f : Nat → Int32} (hB : tB T) (h : tX T f) {i : Int} (h1 : 0 ≤ i) (h2 : i ≤ 6) (σ : Type) (k : Int32 → Option σ) : bd1 (if iz i = iz 0 then some (iz 6) else bd1 (pX7_rowLength f (iz i - iz 1)) (fun v => some v)) k = k (iz (lim T i)) := by
  unfold lim
  rw [iz_sub, pX7_rowLength_iz hB h (by omega) (by omega), bd1_some, ifz_eq (by omega) (by omega) (by omega) (by omega)]
  by_cases c : i = 0
  · rw [if_pos c, if_pos c, bd1_some]
  · rw [if_neg c, if_neg c, bd1_some]
theorem pX4_takesTens_iz {T : Tb} {f0 f1 : Nat → Int32} {t : Int} (ht : 0 ≤ t) (ht2 : t ≤ 1) (hB : tB T) (h : tX T (fs t f0 f1)) {i j p : Int} (h1 : 0 ≤ i) (h2 : i ≤ 5) (h3 : 0 ≤ j) (h4 : j ≤ 6) (hp : 0 ≤ p) (hp2 : p ≤ 9) (d : Int32) : pX4_takesTens (iz t) (iz i) (iz j) d f0 f1 (iz p) = some (if lim T i ≤ j then (iz 0, d) else if lmX T i j ≤ 10 * p + 9 then (iz 1, iz p) else (iz 0, d)) := by
  have hl := lim_b T i
  have hm := lmX_b hB i j
  unfold pX4_takesTens
  rw [pX2_table_iz ht ht2, bd1_some]
  simp only [iz_0, iz_6, iz_1, iz_9, iz_10, iz_mul, iz_add]
  by_cases c : t = 0
  · rw [if_pos c]
    unfold fs at h
    rw [if_pos c] at h
    show bd1 _ _ = _
    rw [lim_bd hB h h1 (by omega), ifz_le (by omega) (by omega) (by omega) (by omega), pX4_least_iz hB h h1 (by omega) h3 h4, bd1_some, ifz_le (by omega) (by omega) (by omega) (by omega)]
    by_cases c1 : lim T i ≤ j
    · rw [if_pos c1, if_pos c1]
    · rw [if_neg c1, if_neg c1]
      by_cases c2 : lmX T i j ≤ 10 * p + 9
      · rw [if_pos c2, if_pos c2]
      · rw [if_neg c2, if_neg c2]
  · rw [if_neg c]
    unfold fs at h
    rw [if_neg c] at h
    show bd1 _ _ = _
    rw [lim_bd hB h h1 (by omega), ifz_le (by omega) (by omega) (by omega) (by omega), pX4_least_iz hB h h1 (by omega) h3 h4, bd1_some, ifz_le (by omega) (by omega) (by omega) (by omega)]
    by_cases c1 : lim T i ≤ j
    · rw [if_pos c1, if_pos c1]
    · rw [if_neg c1, if_neg c1]
      by_cases c2 : lmX T i j ≤ 10 * p + 9
      · rw [if_pos c2, if_pos c2]
      · rw [if_neg c2, if_neg c2]
theorem pX4_takesUnits_no {T : Tb} {f0 f1 : Nat → Int32} {t : Int} (ht : 0 ≤ t) (ht2 : t ≤ 1) (hB : tB T) (h : tX T (fs t f0 f1)) {i j d p : Int} (h1 : 0 ≤ i) (h2 : i ≤ 5) (h3 : 0 ≤ j) (h4 : j ≤ 5) (hd : 0 ≤ d) (hd2 : d ≤ 9) (hp : 0 ≤ p) (hp2 : p ≤ 9) (hn : ¬ lmX T i j ≤ 10 * d + p) : ∃ q : Int32 × Int32 × (Nat → Int32) × (Nat → Int32), pX4_takesUnits (iz t) (iz i) (iz j) (iz d) f0 f1 (iz p) = some (iz 0, q) := by
  have hm := lmX_b hB i j
  refine ⟨(iz j, iz d, f0, f1), ?_⟩
  unfold pX4_takesUnits
  rw [pX2_table_iz ht ht2, bd1_some]
  simp only [iz_0, iz_1, iz_neg, iz_10, iz_mul, iz_add]
  by_cases c : t = 0
  · rw [if_pos c]
    unfold fs at h
    rw [if_pos c] at h
    show bd1 _ _ = _
    rw [pX4_least_iz hB h h1 (by omega) h3 (by omega), bd1_some, ifz_le (by omega) (by omega) (by omega) (by omega), if_neg hn]
  · rw [if_neg c]
    unfold fs at h
    rw [if_neg c] at h
    show bd1 _ _ = _
    rw [pX4_least_iz hB h h1 (by omega) h3 (by omega), bd1_some, ifz_le (by omega) (by omega) (by omega) (by omega), if_neg hn]
theorem pX4_takesUnits_yes {T : Tb} {f0 f1 : Nat → Int32} {t : Int} (ht : 0 ≤ t) (ht2 : t ≤ 1) (hB : tB T) (h : tX T (fs t f0 f1)) {i j d p : Int} (h1 : 0 ≤ i) (h2 : i ≤ 5) (h3 : 0 ≤ j) (h4 : j ≤ 5) (hd : 0 ≤ d) (hd2 : d ≤ 9) (hp : 0 ≤ p) (hp2 : p ≤ 9) (hy : lmX T i j ≤ 10 * d + p) : ∃ f0' f1', pX4_takesUnits (iz t) (iz i) (iz j) (iz d) f0 f1 (iz p) = some (iz 1, iz (j + 1), iz (-1), f0', f1') ∧ tX (tset T i j (10 * d + p)) (fs t f0' f1') ∧ (t = 0 → f1' = f1) ∧ (t ≠ 0 → f0' = f0) := by
  have hm := lmX_b hB i j
  by_cases c : t = 0
  · refine ⟨upd f0 (i * 6 + j).toNat (iz (10 * d + p)), f1, ?_, ?_, fun _ => rfl, fun q => absurd c q⟩
    · unfold pX4_takesUnits
      rw [pX2_table_iz ht ht2, bd1_some]
      simp only [iz_0, iz_1, iz_neg, iz_10, iz_mul, iz_add]
      rw [if_pos c]
      unfold fs at h
      rw [if_pos c] at h
      show bd1 _ _ = _
      rw [pX4_least_iz hB h h1 (by omega) h3 (by omega), bd1_some, ifz_le (by omega) (by omega) (by omega) (by omega), if_pos hy, pX7_put_iz h1 (by omega) h3 (by omega), bd1_some]
    · unfold fs at h ⊢
      rw [if_pos c] at h ⊢
      exact h.set h1 (by omega) h3 (by omega)
  · refine ⟨f0, upd f1 (i * 6 + j).toNat (iz (10 * d + p)), ?_, ?_, fun q => absurd q c, fun _ => rfl⟩
    · unfold pX4_takesUnits
      rw [pX2_table_iz ht ht2, bd1_some]
      simp only [iz_0, iz_1, iz_neg, iz_10, iz_mul, iz_add]
      rw [if_neg c]
      unfold fs at h
      rw [if_neg c] at h
      show bd1 _ _ = _
      rw [pX4_least_iz hB h h1 (by omega) h3 (by omega), bd1_some, ifz_le (by omega) (by omega) (by omega) (by omega), if_pos hy, pX7_put_iz h1 (by omega) h3 (by omega), bd1_some]
    · unfold fs at h ⊢
      rw [if_neg c] at h ⊢
      exact h.set h1 (by omega) h3 (by omega)
-- a character
theorem tk_other {x : Int} (hx : 0 ≤ x) (hx2 : x ≤ 255) (h1 : x ≠ 47) (h2 : x ≠ 59) (h3 : x < 48 ∨ 57 < x) (t r c d : Int32) (f0 f1 : Nat → Int32) : pX4_takes (iz 1) t r c d f0 f1 (iz x) = some (iz 0, iz 1, t, r, c, d, f0, f1) := by
  unfold pX4_takes
  simp only [iz_0, iz_48, iz_47, iz_59, iz_57]
  rw [if_neg iz1_ne, ifz_lt (by omega) (by omega) (by omega) (by omega), ifz_lt (by omega) (by omega) (by omega) (by omega), ifz_eq (by omega) (by omega) (by omega) (by omega), ifz_eq (a := x) (b := 59) (by omega) (by omega) (by omega) (by omega), if_neg h1, if_neg h2]
  by_cases c1 : x < 48
  · rw [if_pos c1]
  · rw [if_neg c1, if_pos (by omega)]
theorem tk_slash (t r c d : Int32) (f0 f1 : Nat → Int32) : pX4_takes (iz 1) t r c d f0 f1 (iz 47) = bd1 (pX4_takesSlash r c d) (un3 (fun v7 w8 w9 => bd1 (zb v7) (fun v11 => some (v11, iz 1, t, w8, w9, d, f0, f1)))) := by
  unfold pX4_takes
  simp only [iz_0, iz_48, iz_47]
  rw [if_neg iz1_ne, ifz_lt (by omega) (by omega) (by omega) (by omega), if_pos (by omega), if_pos trivial]
theorem tk_slash_no {t r c d : Int32} {f0 f1 : Nat → Int32} (h : d ≠ iz (-1) ∨ c = iz 0 ∨ r = iz 5) : pX4_takes (iz 1) t r c d f0 f1 (iz 47) = some (iz 0, iz 1, t, r, c, d, f0, f1) := by
  rw [tk_slash]
  unfold pX4_takesSlash
  simp only [iz_0, iz_1, iz_neg, iz_5]
  by_cases c1 : d = iz (-1)
  · rw [if_pos c1]
    by_cases c2 : c = iz 0
    · rw [if_pos c2, bd1_some, un3_mk, zb_0, bd1_some]
    · rw [if_neg c2]
      by_cases c3 : r = iz 5
      · rw [if_pos c3, bd1_some, un3_mk, zb_0, bd1_some]
      · exact absurd h (by simp [c1, c2, c3])
  · rw [if_neg c1, bd1_some, un3_mk, zb_0, bd1_some]
theorem tk_slash_yes {t : Int32} {i j : Int} {f0 f1 : Nat → Int32} (h1 : 0 < j) (h2 : j ≤ 6) (h3 : 0 ≤ i) (h4 : i < 5) : pX4_takes (iz 1) t (iz i) (iz j) (iz (-1)) f0 f1 (iz 47) = some (iz 1, iz 1, t, iz (i + 1), iz 0, iz (-1), f0, f1) := by
  rw [tk_slash]
  unfold pX4_takesSlash
  simp only [iz_0, iz_1, iz_neg, iz_5, iz_add]
  rw [if_pos trivial, ifz_eq (by omega) (by omega) (by omega) (by omega), if_neg (by omega), ifz_eq (by omega) (by omega) (by omega) (by omega), if_neg (by omega), bd1_some, un3_mk, zb_1, bd1_some]
theorem pX4_canEnd_no {r c d : Int32} (h : d ≠ iz (-1) ∨ ∃ i j : Int, r = iz i ∧ c = iz j ∧ j = 0 ∧ 0 < i ∧ i ≤ 6) : pX4_canEndTable r c d = some (iz 0) := by
  unfold pX4_canEndTable
  simp only [iz_0, iz_1, iz_neg]
  by_cases c1 : d = iz (-1)
  · rcases h with h | ⟨i, j, h1, h2, h3, h4, h5⟩
    · exact absurd c1 h
    · rw [if_pos c1, h1, h2, ifz_lt (by omega) (by omega) (by omega) (by omega), if_neg (by omega), ifz_eq (by omega) (by omega) (by omega) (by omega), if_neg (by omega)]
  · rw [if_neg c1]
theorem pX4_canEnd_yes {i j : Int} (h1 : 0 ≤ i) (h2 : i ≤ 6) (h3 : 0 ≤ j) (h4 : j ≤ 6) (h : 0 < j ∨ i = 0) : pX4_canEndTable (iz i) (iz j) (iz (-1)) = some (iz 1) := by
  unfold pX4_canEndTable
  simp only [iz_0, iz_1, iz_neg]
  rw [if_pos trivial, ifz_lt (by omega) (by omega) (by omega) (by omega), ifz_eq (by omega) (by omega) (by omega) (by omega)]
  by_cases c : 0 < j
  · rw [if_pos c]
  · rw [if_neg c, if_pos (by omega)]
theorem tk_semi (t r c d : Int32) (f0 f1 : Nat → Int32) : pX4_takes (iz 1) t r c d f0 f1 (iz 59) = bd1 (pX4_takesSemicolon t r c d) (un5 (fun v14 w15 w16 w17 w18 => if v14 = iz 0 then some (iz 0, iz 1, w15, w16, w17, w18, f0, f1) else some (iz 1, iz 1, w15, w16, w17, w18, f0, f1))) := by
  unfold pX4_takes
  simp only [iz_0, iz_48, iz_47, iz_57, iz_59, iz_1]
  rw [if_neg iz1_ne, ifz_lt (by omega) (by omega) (by omega) (by omega), if_neg (by omega), ifz_lt (by omega) (by omega) (by omega) (by omega), if_pos (by omega), ifz_eq (by omega) (by omega) (by omega) (by omega), if_neg (by omega), if_pos trivial]
theorem tk_semi_no {t r c d : Int32} {f0 f1 : Nat → Int32} (h : t ≠ iz 0 ∨ pX4_canEndTable r c d = some (iz 0)) : pX4_takes (iz 1) t r c d f0 f1 (iz 59) = some (iz 0, iz 1, t, r, c, d, f0, f1) := by
  rw [tk_semi]
  unfold pX4_takesSemicolon
  simp only [iz_0, iz_1]
  by_cases c1 : t = iz 0
  · rcases h with h | h
    · exact absurd c1 h
    · rw [if_pos c1, h, bd1_some, if_pos rfl, bd1_some, un5_mk, if_pos rfl]
  · rw [if_neg c1, bd1_some, un5_mk, if_pos rfl]
theorem tk_semi_yes {r c d : Int32} {f0 f1 : Nat → Int32} (h : pX4_canEndTable r c d = some (iz 1)) : pX4_takes (iz 1) (iz 0) r c d f0 f1 (iz 59) = some (iz 1, iz 1, iz 1, iz 0, iz 0, iz (-1), f0, f1) := by
  rw [tk_semi]
  unfold pX4_takesSemicolon pX4_begin
  simp only [iz_0, iz_1, iz_neg]
  rw [if_pos trivial, h, bd1_some, if_neg iz1_ne, bd1_some, un4_mk, bd1_some, un5_mk, if_neg iz1_ne]
theorem tk_digit {x : Int} (h1 : 48 ≤ x) (h2 : x ≤ 57) (t r c d : Int32) (f0 f1 : Nat → Int32) : pX4_takes (iz 1) t r c d f0 f1 (iz x) = if d = iz (-1) then bd1 (pX4_takesTens t r c d f0 f1 (iz (x - 48))) (un2 (fun v36 w37 => bd1 (zb v36) (fun v39 => some (v39, iz 1, t, r, c, w37, f0, f1)))) else bd1 (pX4_takesUnits t r c d f0 f1 (iz (x - 48))) (un5 (fun v27 w28 w29 w30 w31 => bd1 (zb v27) (fun v33 => some (v33, iz 1, t, r, w28, w29, w30, w31)))) := by
  unfold pX4_takes
  simp only [iz_0, iz_48, iz_47, iz_57, iz_59, iz_1, iz_neg, iz_sub]
  rw [if_neg iz1_ne, ifz_lt (by omega) (by omega) (by omega) (by omega), if_neg (by omega), ifz_lt (by omega) (by omega) (by omega) (by omega), if_neg (by omega)]
-- the rest of a reading
def RX (L : Int) (cc : Nat → Int32) (m : Nat) (s : Int32 × Q7) : Option (Int32 × Q7) :=
  bd1 (lpI m (un8 (pX4_read_L24 (iz L) cc (iz L))) s) (fun xx30 => el xx30 (un8 (fun y45 y46 y47 y48 y49 y50 y51 y52 => some (y45, y46, y47, y48, y49, y50, y51, y52))) (un7 (pX4_read_R49 (iz L))))
theorem pX8_codeAt_iz {X : Int → Int} {L : Int} {cc : Nat → Int32} (hT : tT X L cc) (hL : L ≤ 160) {k : Int} (h1 : 0 ≤ k) (h2 : k < L) : pX8_codeAt (iz L) cc (iz k) = some (iz (X k)) := by
  unfold pX8_codeAt
  simp only [iz_0, iz_160]
  rw [ifz_lt (by omega) (by omega) (by omega) (by omega), if_neg (by omega), ifz_le (by omega) (by omega) (by omega) (by omega), if_neg (by omega), ifz_le (by omega) (by omega) (by omega) (by omega), if_neg (by omega), gI_iz h1 (by omega) (by omega), bd1_some, (hT k h1 h2).1]
theorem RX_step {X : Int → Int} {L : Int} {cc : Nat → Int32} (hT : tT X L cc) (hL : L ≤ 160) {k : Int} (h1 : 0 ≤ k) (h2 : k < L) {m : Nat} {b t r c d b' t' r' c' d' : Int32} {f0 f1 f0' f1' : Nat → Int32} (e : pX4_takes b t r c d f0 f1 (iz (X k)) = some (iz 1, b', t', r', c', d', f0', f1')) : RX L cc (m + 1) (iz k, b, t, r, c, d, f0, f1) = RX L cc m (iz (k + 1), b', t', r', c', d', f0', f1') := by
  have hb : un8 (pX4_read_L24 (iz L) cc (iz L)) (iz k, b, t, r, c, d, f0, f1) = some (.inl (iz (k + 1), b', t', r', c', d', f0', f1')) := by
    rw [un8_mk]
    unfold pX4_read_L24
    simp only [iz_0, iz_1, iz_add]
    rw [ifz_le (by omega) (by omega) (by omega) (by omega), if_neg (by omega), pX8_codeAt_iz hT hL h1 h2, bd1_some, e, bd1_some, un8_mk, if_neg iz1_ne]
  unfold RX
  rw [lpI, hb]
theorem RX_fail {X : Int → Int} {L : Int} {cc : Nat → Int32} (hT : tT X L cc) (hL : L ≤ 160) {k : Int} (h1 : 0 ≤ k) (h2 : k < L) {m : Nat} {b t r c d : Int32} {f0 f1 : Nat → Int32} {q : Q7} (e : pX4_takes b t r c d f0 f1 (iz (X k)) = some (iz 0, q)) : RX L cc (m + 1) (iz k, b, t, r, c, d, f0, f1) = some (iz k, q) := by
  obtain ⟨b', t', r', c', d', f0', f1'⟩ := q
  have hb : un8 (pX4_read_L24 (iz L) cc (iz L)) (iz k, b, t, r, c, d, f0, f1) = some (.inr (.inl (iz k, b', t', r', c', d', f0', f1'))) := by
    rw [un8_mk]
    unfold pX4_read_L24
    simp only [iz_0, iz_1, iz_add]
    rw [ifz_le (by omega) (by omega) (by omega) (by omega), if_neg (by omega), pX8_codeAt_iz hT hL h1 h2, bd1_some, e, bd1_some, un8_mk, if_pos rfl]
  unfold RX
  rw [lpI, hb]
  rfl
theorem RX_end {L : Int} {cc : Nat → Int32} (hL0 : 0 ≤ L) (hL : L ≤ 160) {m : Nat} {b t r c d : Int32} {f0 f1 : Nat → Int32} : RX L cc (m + 1) (iz L, b, t, r, c, d, f0, f1) = pX4_read_R49 (iz L) b t r c d f0 f1 := by
  have hb : un8 (pX4_read_L24 (iz L) cc (iz L)) (iz L, b, t, r, c, d, f0, f1) = some (.inr (.inr (b, t, r, c, d, f0, f1))) := by
    rw [un8_mk]
    unfold pX4_read_L24
    rw [ifz_le (by omega) (by omega) (by omega) (by omega), if_pos (by omega)]
  unfold RX
  rw [lpI, hb]
  rfl
theorem R55_no {L : Int} {t r c d : Int32} {f0 f1 : Nat → Int32} (h : t ≠ iz 1 ∨ pX4_canEndTable r c d = some (iz 0)) : pX4_read_R49 (iz L) (iz 1) t r c d f0 f1 = some (iz L, iz 1, t, r, c, d, f0, f1) := by
  unfold pX4_read_R49
  simp only [iz_0, iz_1]
  rw [if_neg iz1_ne]
  by_cases c1 : t = iz 1
  · rcases h with h | h
    · exact absurd c1 h
    · rw [if_pos c1, h, bd1_some, if_pos rfl]
  · rw [if_neg c1]
theorem R55_yes {L : Int} {r c d : Int32} {f0 f1 : Nat → Int32} (h : pX4_canEndTable r c d = some (iz 1)) : pX4_read_R49 (iz L) (iz 1) (iz 1) r c d f0 f1 = some (iz (-9), iz 1, iz 1, r, c, d, f0, f1) := by
  unfold pX4_read_R49
  simp only [iz_0, iz_1, iz_9, iz_neg]
  rw [if_neg iz1_ne, if_pos trivial, h, bd1_some, if_neg iz1_ne]
-- the reference's signs and digits
theorem pX10_digit_iz {X : Int → Int} {L : Int} {ss : Nat → Int32} (hT : tT X L ss) (hL0 : 0 ≤ L) (hL : L ≤ 160) {k q : Int} (h1 : 0 ≤ k) (h2 : k ≤ L) (hq : 0 ≤ q) (hq2 : q ≤ 9) : pX10_digit (iz L) (iz k) ss (iz q) = some (if k < L ∧ q ≤ X k - 48 ∧ X k - 48 ≤ 9 then (iz (X k - 48), iz (k + 1)) else (iz (-9), iz k)) := by
  unfold pX10_digit
  simp only [iz_0, iz_9, iz_neg, iz_48, iz_1, iz_add]
  rw [ifz_le (by omega) (by omega) (by omega) (by omega)]
  by_cases c : L ≤ k
  · rw [if_pos c, bd1_some, iz_lz (by omega) (by omega), iz_lz (by omega) (by omega), lz_9, pX10_in_lz (by omega) (by omega) (by omega) (by omega) (by omega) (by omega), bd1_some, ifb, if_neg (by omega), if_neg (by omega)]
  · have hx := hT k h1 (by omega)
    rw [if_neg c, gI_iz h1 (by omega) (by omega), bd1_some, bd1_some, hx.1, iz_sub, iz_lz (by omega) (by omega), iz_lz (by omega) (by omega), lz_9, pX10_in_lz (by omega) (by omega) (by omega) (by omega) (by omega) (by omega), bd1_some, ifb]
    by_cases c2 : q ≤ X k - 48 ∧ X k - 48 ≤ 9
    · rw [if_pos c2, if_pos (by omega)]
    · rw [if_neg c2, if_neg (by omega)]
theorem pX10_sign_iz {X : Int → Int} {L : Int} {ss : Nat → Int32} (hT : tT X L ss) (hL0 : 0 ≤ L) (hL : L ≤ 160) {k x : Int} (h1 : 0 ≤ k) (h2 : k ≤ L) (hx : 0 ≤ x) (hx2 : x ≤ 255) : pX10_sign (iz L) (iz k) ss (iz x) = some (if k < L ∧ X k = x then (iz 1, iz (k + 1)) else (iz 0, iz k)) := by
  unfold pX10_sign
  simp only [iz_0, iz_1, iz_add]
  rw [ifz_le (by omega) (by omega) (by omega) (by omega)]
  by_cases c : L ≤ k
  · rw [if_pos c, bd1_some, if_pos rfl, zb_0, bd1_some, if_neg (by omega), Int.add_zero]
  · have hk := hT k h1 (by omega)
    rw [if_neg c, gI_iz h1 (by omega) (by omega), bd1_some, hk.1, ifz_eq (by omega) (by omega) (by omega) (by omega)]
    by_cases c2 : X k = x
    · rw [if_pos c2, bd1_some, if_neg iz1_ne, zb_1, bd1_some, if_pos (by omega)]
    · rw [if_neg c2, bd1_some, if_pos rfl, zb_0, bd1_some, if_neg (by omega), Int.add_zero]
