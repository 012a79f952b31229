-- greatest paths
def mxp (a b : Int) : Int := if a < b then b else a
theorem mxp_b {a b L M : Int} (h1 : L ≤ a) (h2 : L ≤ b) (h3 : a ≤ M) (h4 : b ≤ M) : L ≤ mxp a b ∧ mxp a b ≤ M := by
  unfold mxp
  by_cases c : a < b
  · rw [if_pos c]; omega
  · rw [if_neg c]; omega
def pRow (T : Tb) (i : Int) (U : Int → Int) : Nat → Int
  | 0 => vl T i 0 + mxp (U 0) 0
  | n + 1 => vl T i ((n : Int) + 1) + mxp (U ((n : Int) + 1)) (pRow T i U n)
def pS (T : Tb) : Nat → Int → Int
  | 0, _ => 0
  | i + 1, j => pRow T i (pS T i) j.toNat
theorem vl_b {T : Tb} (hB : tB T) (i j : Int) : 0 ≤ vl T i j ∧ vl T i j ≤ 100 := by
  unfold vl
  by_cases c : T i j = -1
  · rw [if_pos c]; omega
  · have := hB i j c
    rw [if_neg c]; omega
theorem pRow_b {T : Tb} (hB : tB T) (i : Int) {U : Int → Int} {M : Int} (hU : ∀ j, 0 ≤ U j ∧ U j ≤ M) : ∀ n : Nat, 0 ≤ pRow T i U n ∧ pRow T i U n ≤ M + 100 * (n + 1) := by
  intro n
  induction n with
  | zero =>
    have h1 := vl_b hB i 0
    have h2 := hU 0
    have h3 := mxp_b (a := U 0) (b := 0) (L := 0) (M := M) (by omega) (by omega) (by omega) (by omega)
    rw [pRow]
    omega
  | succ n ih =>
    have h1 := vl_b hB i ((n : Int) + 1)
    have h2 := hU ((n : Int) + 1)
    have h3 := mxp_b (a := U ((n : Int) + 1)) (b := pRow T i U n) (L := 0) (M := M + 100 * (n + 1)) (by omega) (by omega) (by omega) (by omega)
    rw [pRow]
    omega
/-- sums above, cut to the table's columns -/
def pC (U : Int → Int) : Int → Int := fun j => if 0 ≤ j ∧ j ≤ 5 then U j else 0
theorem pRow_C (T : Tb) (i : Int) (U : Int → Int) : ∀ n : Nat, n ≤ 5 → pRow T i U n = pRow T i (pC U) n := by
  intro n
  induction n with
  | zero =>
    intro _
    rw [pRow, pRow]
    unfold pC
    rw [if_pos (by omega)]
  | succ n ih =>
    intro h
    rw [pRow, pRow, ih (by omega)]
    unfold pC
    rw [if_pos (by omega)]
theorem pS_b {T : Tb} (hB : tB T) : ∀ (i : Nat) (j : Int), 0 ≤ j → j ≤ 5 → 0 ≤ pS T i j ∧ pS T i j ≤ 600 * i := by
  intro i
  induction i with
  | zero =>
    intro j _ _
    rw [pS]
    omega
  | succ i ih =>
    intro j h1 h2
    rw [pS, pRow_C T i _ j.toNat (by omega)]
    have := pRow_b hB i (U := pC (pS T i)) (M := 600 * i) (fun x => by
      unfold pC
      by_cases c : 0 ≤ x ∧ x ≤ 5
      · rw [if_pos c]
        exact ih x c.1 c.2
      · rw [if_neg c]
        omega) j.toNat
    omega
theorem pS_s {T : Tb} {i j : Int} (hi : 0 ≤ i) (hj : 0 ≤ j) (hc : T i j ≠ -1) : pS T (i + 1).toNat j = T i j + mxp (pS T i.toNat j) (if j = 0 then 0 else pS T (i + 1).toNat (j - 1)) := by
  have e : (i + 1).toNat = i.toNat + 1 := by omega
  have ev : vl T i j = T i j := by unfold vl; rw [if_neg hc]
  rw [e, pS, pS, show ((i.toNat : Nat) : Int) = i by omega]
  by_cases c : j = 0
  · rw [if_pos c, c, show (0 : Int).toNat = 0 from rfl, pRow, ← c, ev]
  · rw [if_neg c, show j.toNat = (j - 1).toNat + 1 by omega, pRow, show (((j - 1).toNat : Nat) : Int) + 1 = j by omega, ev]
/-- the best end after the rows before i -/
def bst (T : Tb) : Nat → Int × Int
  | 0 => (-9, -9)
  | i + 1 => if crF T i = 1 ∧ (bst T i).1 < pS T (i + 1) (len T i - 1) then (pS T (i + 1) (len T i - 1), 10 * i + (len T i - 1)) else bst T i
theorem bst_s (T : Tb) {i : Int} (hi : 0 ≤ i) : bst T (i + 1).toNat = if crF T i = 1 ∧ (bst T i.toNat).1 < pS T (i + 1).toNat (len T i - 1) then (pS T (i + 1).toNat (len T i - 1), 10 * i + (len T i - 1)) else bst T i.toNat := by
  rw [show (i + 1).toNat = i.toNat + 1 by omega, bst, show ((i.toNat : Nat) : Int) = i by omega]
theorem cr_len {T : Tb} {i : Int} (h : crF T i = 1) : 0 < len T i := by
  have h1 := len_b T i
  have h2 := len_b T (i + 1)
  unfold crF at h
  by_cases c : len T (i + 1) < len T i
  · omega
  · rw [if_neg c] at h
    omega
theorem bst_b {T : Tb} (hB : tB T) : ∀ i : Nat, i ≤ 6 → ((bst T i).1 = -9 ∧ (bst T i).2 = -9) ∨ (0 ≤ (bst T i).1 ∧ (bst T i).1 ≤ 4000 ∧ 0 ≤ (bst T i).2 ∧ (bst T i).2 ≤ 100) := by
  intro i
  induction i with
  | zero => intro _; exact Or.inl ⟨rfl, rfl⟩
  | succ i ih =>
    intro h
    have hl := len_b T i
    rw [bst]
    by_cases c : crF T i = 1 ∧ (bst T i).1 < pS T (i + 1) (len T i - 1)
    · rw [if_pos c]
      have h1 := cr_len c.1
      have h2 := pS_b hB (i + 1) (len T i - 1) (by omega) (by omega)
      refine Or.inr ⟨h2.1, ?_, ?_, ?_⟩
      · show pS T (i + 1) (len T i - 1) ≤ 4000
        omega
      · show 0 ≤ 10 * (i : Int) + (len T i - 1)
        omega
      · show 10 * (i : Int) + (len T i - 1) ≤ 100
        omega
    · rw [if_neg c]
      exact ih (by omega)
-- the class
theorem path_row {T : Tb} {f : Nat → Int32} (hS : tS T) (h : tX T f) {i : Int} (h1 : 0 ≤ i) (h2 : i < 6) {w : Nat → Int32} (hw : ∀ j, 0 ≤ j → j < len T i → w j.toNat = iz (pS T i.toNat j)) : pX1_goOverRow w f (iz i) = some (cpW (fun k => iz (pS T (i + 1).toNat k)) w 0 0 (len T i)) := by
  have hb := len_b T i
  have hl : lpI lpF (un3 (pX1_goOverRow_L5 f (iz i))) (iz 0, iz (if (if (0 : Int) ≤ len T i then 0 else len T i) = 0 then 0 else pS T (i + 1).toNat ((if (0 : Int) ≤ len T i then 0 else len T i) - 1)), cpW (fun k => iz (pS T (i + 1).toNat k)) w 0 0 (if (0 : Int) ≤ len T i then 0 else len T i)) = some (cpW (fun k => iz (pS T (i + 1).toNat k)) w 0 0 (len T i)) := by
    refine lp_cf (fun j => (iz (if (if j ≤ len T i then j else len T i) = 0 then 0 else pS T (i + 1).toNat ((if j ≤ len T i then j else len T i) - 1)), cpW (fun k => iz (pS T (i + 1).toNat k)) w 0 0 (if j ≤ len T i then j else len T i))) 0 6 _ (by omega) (by omega) (fun j hj hj2 => ?_) ?_
    · rw [un3_mk]
      unfold pX1_goOverRow_L5
      have hs := len_spec hS i j hj
      simp only [iz_6, iz_0, iz_1, iz_add]
      rw [ifz_le (by omega) (by omega) (by omega) (by omega), if_neg (by omega), pX7_has_iz hS.1 h (by omega) (by omega) (by omega) (by omega), bd1_some]
      by_cases c : T i j = -1
      · rw [if_pos c, if_pos rfl]
        by_cases c2 : j = len T i
        · rw [if_pos (show j ≤ len T i by omega), if_neg (show ¬ j + 1 ≤ len T i by omega), c2]
        · rw [if_neg (show ¬ j ≤ len T i by omega), if_neg (show ¬ j + 1 ≤ len T i by omega)]
      · have hlt := hs.1 c
        have hbb := hS.1 i j c
        have p1 := pS_b hS.1 i.toNat j hj (by omega)
        have e1 : cpW (fun k => iz (pS T (i + 1).toNat k)) w 0 0 j j.toNat = iz (pS T i.toNat j) := by
          unfold cpW
          rw [if_neg (by omega)]
          exact hw j hj hlt
        have e := cpW_s (fun k => iz (pS T (i + 1).toNat k)) w 0 0 j (by omega) hj
        rw [show (0 : Int) + j = j by omega, show ((j.toNat : Nat) : Int) = j by omega] at e
        rw [if_neg c, if_neg iz1_ne, pX7_at_iz hS.1 h (by omega) (by omega) (by omega) (by omega), bd1_some, if_pos (show j ≤ len T i by omega), if_pos (show j + 1 ≤ len T i by omega), gI_iz hj (by omega) (by omega), bd1_some, e1]
        have e2 : iz (T i j) + (if iz (pS T i.toNat j) < iz (if j = 0 then 0 else pS T (i + 1).toNat (j - 1)) then iz (if j = 0 then 0 else pS T (i + 1).toNat (j - 1)) else iz (pS T i.toNat j)) = iz (pS T (i + 1).toNat j) := by
          have p2 : 0 ≤ (if j = 0 then 0 else pS T (i + 1).toNat (j - 1)) ∧ (if j = 0 then 0 else pS T (i + 1).toNat (j - 1)) ≤ 5000 := by
            by_cases c3 : j = 0
            · rw [if_pos c3]; omega
            · rw [if_neg c3]
              have := pS_b hS.1 (i + 1).toNat (j - 1) (by omega) (by omega)
              omega
          rw [pS_s h1 hj c, ← iz_add, ifz_lt (by omega) (by omega) (by omega) (by omega)]
          unfold mxp
          by_cases c4 : pS T i.toNat j < (if j = 0 then 0 else pS T (i + 1).toNat (j - 1))
          · rw [if_pos c4, if_pos c4]
          · rw [if_neg c4, if_neg c4]
        rw [e2, sI_iz hj (by omega) (by omega), bd1_some, e, if_neg (show ¬ j + 1 = 0 by omega), show j + 1 - 1 = j by omega]
    · rw [un3_mk]
      unfold pX1_goOverRow_L5
      simp only [iz_6]
      rw [ifz_le (by omega) (by omega) (by omega) (by omega), if_pos (by omega)]
      by_cases c2 : 6 ≤ len T i
      · rw [if_pos c2, show len T i = 6 by omega]
      · rw [if_neg c2]
  rw [if_pos (show (0 : Int) ≤ len T i by omega), if_pos rfl, cpW_0] at hl
  unfold pX1_goOverRow
  rw [iz_0, hl, bd1_some]
theorem path_X {T : Tb} {f : Nat → Int32} (hS : tS T) (h : tX T f) : ∀ (n m : Nat) (i : Int) (w : Nat → Int32), 0 ≤ i → i + n = 6 → n < m → (∀ j, 0 ≤ j → j < len T i → w j.toNat = iz (pS T i.toNat j)) → ∃ w', lpI m (un4 (pX1_search_L35 f)) (iz i, iz (bst T i.toNat).1, iz (bst T i.toNat).2, w) = some (iz (bst T 6).1, iz (bst T 6).2, w') := by
  intro n
  induction n with
  | zero =>
    intro m i w h1 h2 h3 h4
    obtain ⟨m, rfl⟩ : ∃ m', m = m' + 1 := ⟨m - 1, by omega⟩
    refine ⟨w, ?_⟩
    rw [lpI, un4_mk]
    unfold pX1_search_L35
    simp only [iz_6]
    rw [ifz_le (by omega) (by omega) (by omega) (by omega), if_pos (by omega), show i.toNat = 6 by omega]
  | succ n ih =>
    intro m i w h1 h2 h3 h4
    obtain ⟨m, rfl⟩ : ∃ m', m = m' + 1 := ⟨m - 1, by omega⟩
    have hb := len_b T i
    have hb2 := len_dec hS i h1
    have hbs := bst_b hS.1 i.toNat (by omega)
    have hw' : ∀ j, 0 ≤ j → j < len T i → cpW (fun k => iz (pS T (i + 1).toNat k)) w 0 0 (len T i) j.toNat = iz (pS T (i + 1).toNat j) := fun j q1 q2 => by
      unfold cpW
      rw [if_pos (by omega)]
      show iz (pS T (i + 1).toNat ((((j.toNat : Nat) : Int) - 0 + 0).toNat : Int)) = _
      rw [show ((((j.toNat : Nat) : Int) - 0 + 0).toNat : Int) = j by omega]
    have hq := ih m (i + 1) (cpW (fun k => iz (pS T (i + 1).toNat k)) w 0 0 (len T i)) (by omega) (by omega) (by omega) (fun j q1 q2 => hw' j q1 (by omega))
    rw [lpI, un4_mk]
    unfold pX1_search_L35
    simp only [iz_6, iz_0, iz_1, iz_add]
    rw [ifz_le (by omega) (by omega) (by omega) (by omega), if_neg (by omega), path_row hS h h1 (by omega) h4, bd1_some, pX7_hasCorner_iz hS.1 h h1 (by omega), bd1_some]
    rw [bst_s T h1] at hq
    rcases crF_01 T i with c | c
    · rw [c, if_pos rfl]
      rw [if_neg (by omega)] at hq
      exact hq
    · have hl := cr_len c
      have p1 := pS_b hS.1 (i + 1).toNat (len T i - 1) (by omega) (by omega)
      rw [c, if_neg iz1_ne, pX7_rowLength_iz hS.1 h (by omega) (by omega), bd1_some]
      simp only [iz_sub]
      have e3 : pX1_endAt (iz (bst T i.toNat).1) (iz (bst T i.toNat).2) (cpW (fun k => iz (pS T (i + 1).toNat k)) w 0 0 (len T i)) (iz i) (iz (len T i - 1)) = some (iz (if crF T i = 1 ∧ (bst T i.toNat).1 < pS T (i + 1).toNat (len T i - 1) then (pS T (i + 1).toNat (len T i - 1), 10 * i + (len T i - 1)) else bst T i.toNat).1, iz (if crF T i = 1 ∧ (bst T i.toNat).1 < pS T (i + 1).toNat (len T i - 1) then (pS T (i + 1).toNat (len T i - 1), 10 * i + (len T i - 1)) else bst T i.toNat).2) := by
        unfold pX1_endAt
        simp only [iz_0, iz_6]
        rw [ifz_lt (by omega) (by omega) (by omega) (by omega), if_neg (by omega), ifz_le (by omega) (by omega) (by omega) (by omega), if_neg (by omega), gI_iz (by omega) (by omega) (by omega), bd1_some, bd1_some, hw' _ (by omega) (by omega), pX9_placeOf_iz, bd1_some, ifz_le (by omega) (by omega) (by omega) (by omega)]
        by_cases c5 : pS T (i + 1).toNat (len T i - 1) ≤ (bst T i.toNat).1
        · rw [if_pos c5, if_neg (by omega)]
        · rw [if_neg c5, if_pos (by omega)]
      rw [e3, bd1_some, un2_mk]
      exact hq
theorem pX1_search_iz {T : Tb} {f : Nat → Int32} (hS : tS T) (h : tX T f) (a b : Int32) (w : Nat → Int32) : ∃ w', pX1_search a b w f = some (iz (bst T 6).1, iz (bst T 6).2, w') := by
  have hl : lpI lpF (un2 (pX1_search_L14)) (iz 0, cpW (fun _ => iz 0) w 0 0 0) = some (cpW (fun _ => iz 0) w 0 0 6) := by
    refine lp_cf (fun i => cpW (fun _ => iz 0) w 0 0 i) 0 6 _ (by omega) (by omega) (fun i hi hi2 => ?_) ?_
    · have e := cpW_s (fun _ => iz 0) w 0 0 i (by omega) hi
      rw [show (0 : Int) + i = i by omega] at e
      rw [un2_mk, ← e]
      unfold pX1_search_L14
      simp only [iz_6, iz_1, iz_0, iz_add]
      rw [ifz_le (by omega) (by omega) (by omega) (by omega), if_neg (by omega), sI_iz (by omega) (by omega) (by omega), bd1_some]
    · rw [un2_mk]
      unfold pX1_search_L14
      simp only [iz_6]
      rw [ifz_le (by omega) (by omega) (by omega) (by omega), if_pos (by omega)]
  rw [cpW_0] at hl
  obtain ⟨w', hq⟩ := path_X hS h 6 lpF 0 (cpW (fun _ => iz 0) w 0 0 6) (by omega) (by omega) (by unfold lpF; omega) (fun j q1 q2 => by
    have := len_b T 0
    unfold cpW
    rw [if_pos (by omega)]
    rfl)
  refine ⟨w', ?_⟩
  unfold pX1_search
  simp only [iz_0, iz_9, iz_neg]
  rw [hl, bd1_some]
  have e1 : (bst T (0 : Int).toNat).1 = -9 := rfl
  have e2 : (bst T (0 : Int).toNat).2 = -9 := rfl
  rw [e1, e2] at hq
  rw [hq, bd1_some, un3_mk]
-- the reference
def bM (b : Int × Int) : Int := if b.2 = -9 then 0 else b.1
def qI (T : Tb) (i j : Int) (w : Nat → Int32) : Prop := ∀ a b, T a b ≠ -1 → (a < i ∨ a = i ∧ b < j) → w (6 * a + b).toNat = iz (pS T (a + 1).toNat b)
theorem path_Mrow {T : Tb} {g : Nat → Int32} {t : Int} (hS : tS T) (h : tM T t g) (ht : 0 ≤ t) (ht2 : t ≤ 1) {i : Int} (h1 : 0 ≤ i) (h2 : i < 6) : ∀ (n m : Nat) (j : Int) (w : Nat → Int32), 0 ≤ j → j + n = len T i → n < m → qI T i j w → ∃ w', lpI m (un4 (pX10_path_L54 g (iz t) (iz i))) (iz j, iz (bM (if j = len T i then bst T (i + 1).toNat else bst T i.toNat)), iz (if j = len T i then bst T (i + 1).toNat else bst T i.toNat).2, w) = some (iz (bM (bst T (i + 1).toNat)), iz (bst T (i + 1).toNat).2, w') ∧ qI T i (len T i) w' := by
  intro n
  induction n with
  | zero =>
    intro m j w h3 h4 h5 h6
    have hb := len_b T i
    obtain ⟨m, rfl⟩ : ∃ m', m = m' + 1 := ⟨m - 1, by omega⟩
    refine ⟨w, ?_, by rw [show len T i = j by omega]; exact h6⟩
    rw [lpI, un4_mk]
    unfold pX10_path_L54
    rw [pX10_length_iz hS.1 h ht ht2 (by omega) (by omega), bd1_some, ifz_le (by omega) (by omega) (by omega) (by omega), if_pos (by omega), if_pos (by omega)]
  | succ n ih =>
    intro m j w h3 h4 h5 h6
    have hb := len_b T i
    obtain ⟨m, rfl⟩ : ∃ m', m = m' + 1 := ⟨m - 1, by omega⟩
    have hc : T i j ≠ -1 := (len_spec hS i j h3).2 (by omega)
    have hbb := hS.1 i j hc
    have hbs := bst_b hS.1 i.toNat (by omega)
    have p1 := pS_b hS.1 i.toNat j h3 (by omega)
    have p3 := pS_b hS.1 (i + 1).toNat j h3 (by omega)
    have p2 : 0 ≤ (if j = 0 then 0 else pS T (i + 1).toNat (j - 1)) ∧ (if j = 0 then 0 else pS T (i + 1).toNat (j - 1)) ≤ 5000 := by
      by_cases c3 : j = 0
      · rw [if_pos c3]; omega
      · rw [if_neg c3]
        have := pS_b hS.1 (i + 1).toNat (j - 1) (by omega) (by omega)
        omega
    have hup : ∀ (σ : Type) (k : Int32 → Option σ), bd1 (if iz i ≤ iz 0 then some (iz 0) else bd1 (gI 36 w (iz (6 * (i - 1) + j))) (fun v => some v)) k = k (iz (pS T i.toNat j)) := fun σ k => by
      rw [ifz_le (by omega) (by omega) (by omega) (by omega)]
      by_cases c : i ≤ 0
      · rw [if_pos c, bd1_some, show i.toNat = 0 by omega]
        rfl
      · have := h6 (i - 1) j ((hS.2 i j hc).1 (by omega)) (by omega)
        rw [show i - 1 + 1 = i by omega] at this
        rw [if_neg c, gI_iz (by omega) (by omega) (by omega), bd1_some, bd1_some, this]
    have hleft : ∀ (σ : Type) (k : Int32 → Option σ), bd1 (if iz j ≤ iz 0 then some (iz 0) else bd1 (gI 36 w (iz (6 * i + j - 1))) (fun v => some v)) k = k (iz (if j = 0 then 0 else pS T (i + 1).toNat (j - 1))) := fun σ k => by
      rw [ifz_le (by omega) (by omega) (by omega) (by omega)]
      by_cases c : j ≤ 0
      · rw [if_pos c, bd1_some, if_pos (by omega)]
      · have := h6 i (j - 1) ((hS.2 i j hc).2 (by omega)) (by omega)
        rw [show 6 * i + (j - 1) = 6 * i + j - 1 by omega] at this
        rw [if_neg c, gI_iz (by omega) (by omega) (by omega), bd1_some, bd1_some, this, if_neg (by omega)]
    have hmx : ∀ (σ : Type) (k : Int32 → Option σ), bd1 (if iz (pS T i.toNat j) ≤ iz (if j = 0 then 0 else pS T (i + 1).toNat (j - 1)) then some (iz (if j = 0 then 0 else pS T (i + 1).toNat (j - 1))) else some (iz (pS T i.toNat j))) k = k (iz (mxp (pS T i.toNat j) (if j = 0 then 0 else pS T (i + 1).toNat (j - 1)))) := fun σ k => by
      rw [ifz_le (by omega) (by omega) (by omega) (by omega)]
      unfold mxp
      by_cases c : pS T i.toNat j ≤ (if j = 0 then 0 else pS T (i + 1).toNat (j - 1))
      · rw [if_pos c, bd1_some]
        by_cases c2 : pS T i.toNat j < (if j = 0 then 0 else pS T (i + 1).toNat (j - 1))
        · rw [if_pos c2]
        · rw [if_neg c2, show pS T i.toNat j = (if j = 0 then 0 else pS T (i + 1).toNat (j - 1)) by omega]
      · rw [if_neg c, bd1_some, if_neg (by omega)]
    have hq6 : qI T i (j + 1) (upd w (6 * i + j).toNat (iz (pS T (i + 1).toNat j))) := fun a b q1 q2 => by
      have qb := hS.1 a b q1
      unfold upd
      by_cases c : a = i ∧ b = j
      · rw [if_pos (by omega), c.1, c.2]
      · rw [if_neg (by omega)]
        exact h6 a b q1 (by omega)
    obtain ⟨w', r1, r2⟩ := ih m (j + 1) _ (by omega) (by omega) (by omega) hq6
    refine ⟨w', ?_, r2⟩
    rw [if_neg (show ¬ j = len T i by omega)]
    have hbm : 0 ≤ bM (bst T i.toNat) ∧ bM (bst T i.toNat) ≤ 4000 := by
      unfold bM
      by_cases c : (bst T i.toNat).2 = -9
      · rw [if_pos c]; omega
      · rw [if_neg c]; omega
    have hbody : pX10_path_L54 g (iz t) (iz i) (iz j) (iz (bM (bst T i.toNat))) (iz (bst T i.toNat).2) w = some (.inl (iz (j + 1), iz (bM (if j + 1 = len T i then bst T (i + 1).toNat else bst T i.toNat)), iz (if j + 1 = len T i then bst T (i + 1).toNat else bst T i.toNat).2, upd w (6 * i + j).toNat (iz (pS T (i + 1).toNat j)))) := by
      unfold pX10_path_L54
      simp only [iz_0, iz_1, iz_9, iz_neg, iz_6, iz_10, iz_mul, iz_add, iz_sub]
      rw [pX10_length_iz hS.1 h ht ht2 (by omega) (by omega), bd1_some, ifz_le (by omega) (by omega) (by omega) (by omega), if_neg (by omega), hup, hleft, pX10_get_iz h ht ht2 hc h1 h2 h3 (by omega), bd1_some, hmx]
      rw [iz_add, ← pS_s h1 h3 hc, sI_iz (by omega) (by omega) (by omega), bd1_some, pX10_isCorner_iz hS.1 h ht ht2 h1 h2, bd1_some, bd1_some]
      rcases crF_01 T i with c | c
      · have e1 : bst T (i + 1).toNat = bst T i.toNat := by rw [bst_s T h1, if_neg (by omega)]
        rw [c, if_pos rfl, bd1_some, if_pos rfl, e1]
        by_cases c2 : j + 1 = len T i
        · rw [if_pos c2]
        · rw [if_neg c2]
      · rw [c, if_neg iz1_ne, iz_sub, ifz_eq (by omega) (by omega) (by omega) (by omega)]
        by_cases c2 : j = len T i - 1
        · have e1 := bst_s T h1
          rw [show len T i - 1 = j by omega] at e1
          rw [if_pos c2, bd1_some, if_neg iz1_ne, if_pos (show j + 1 = len T i by omega), ifz_eq (by omega) (by omega) (by omega) (by omega), ifz_le (by omega) (by omega) (by omega) (by omega)]
          by_cases c3 : (bst T i.toNat).2 = -9
          · rw [if_pos c3]
            rw [if_pos (by omega)] at e1
            rw [e1]
            have e2 : bM (pS T (i + 1).toNat j, 10 * i + j) = pS T (i + 1).toNat j := by
              unfold bM
              rw [if_neg (by show ¬ 10 * i + j = -9; omega)]
            rw [e2]
          · have e3 : bM (bst T i.toNat) = (bst T i.toNat).1 := by
              unfold bM
              rw [if_neg c3]
            rw [if_neg c3, e3]
            by_cases c4 : pS T (i + 1).toNat j ≤ (bst T i.toNat).1
            · rw [if_neg (by omega)] at e1
              rw [if_pos c4, e1, e3]
            · rw [if_pos (by omega)] at e1
              rw [if_neg c4, e1]
              have e2 : bM (pS T (i + 1).toNat j, 10 * i + j) = pS T (i + 1).toNat j := by
                unfold bM
                rw [if_neg (by show ¬ 10 * i + j = -9; omega)]
              rw [e2]
        · rw [if_neg c2, bd1_some, if_pos rfl, if_neg (show ¬ j + 1 = len T i by omega)]
    rw [lpI, un4_mk, hbody]
    exact r1
theorem path_M {T : Tb} {g : Nat → Int32} {t : Int} (hS : tS T) (h : tM T t g) (ht : 0 ≤ t) (ht2 : t ≤ 1) : ∀ (n m : Nat) (i : Int) (w : Nat → Int32), 0 ≤ i → i + n = 6 → n < m → qI T i 0 w → ∃ w', lpI m (un4 (pX10_path_L44 g (iz t))) (iz i, iz (bM (bst T i.toNat)), iz (bst T i.toNat).2, w) = some (iz (bM (bst T 6)), iz (bst T 6).2, w') := by
  intro n
  induction n with
  | zero =>
    intro m i w h1 h2 h3 h4
    obtain ⟨m, rfl⟩ : ∃ m', m = m' + 1 := ⟨m - 1, by omega⟩
    refine ⟨w, ?_⟩
    rw [lpI, un4_mk]
    unfold pX10_path_L44
    simp only [iz_6]
    rw [ifz_le (by omega) (by omega) (by omega) (by omega), if_pos (by omega), show i.toNat = 6 by omega]
  | succ n ih =>
    intro m i w h1 h2 h3 h4
    obtain ⟨m, rfl⟩ : ∃ m', m = m' + 1 := ⟨m - 1, by omega⟩
    have hb := len_b T i
    obtain ⟨w1, r1, r2⟩ := path_Mrow hS h ht ht2 h1 (by omega) (len T i).toNat lpF 0 w (by omega) (by omega) (by unfold lpF; omega) h4
    have e0 : (if (0 : Int) = len T i then bst T (i + 1).toNat else bst T i.toNat) = bst T i.toNat := by
      by_cases c : (0 : Int) = len T i
      · rw [if_pos c, bst_s T h1, if_neg]
        intro q
        have := cr_len q.1
        omega
      · rw [if_neg c]
    rw [e0] at r1
    obtain ⟨w', q⟩ := ih m (i + 1) w1 (by omega) (by omega) (by omega) (fun a b q1 q2 => by
      refine r2 a b q1 ?_
      have qb := hS.1 a b q1
      have := (len_spec hS a b (by omega)).1 q1
      by_cases c : a = i
      · subst c
        exact Or.inr ⟨rfl, this⟩
      · exact Or.inl (by omega))
    refine ⟨w', ?_⟩
    rw [lpI, un4_mk]
    unfold pX10_path_L44
    simp only [iz_6, iz_0, iz_1, iz_add]
    rw [ifz_le (by omega) (by omega) (by omega) (by omega), if_neg (by omega), r1, bd1_some, un3_mk]
    exact q
