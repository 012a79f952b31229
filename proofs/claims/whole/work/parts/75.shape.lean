-- corners and gaps
def crF (T : Tb) (i : Int) : Int := if len T (i + 1) < len T i then 1 else 0
def gpF (T : Tb) (i : Int) : Int := if len T i < (if i = 0 then 6 else len T (i - 1)) then 1 else 0
def enF (T : Tb) (z : Int) : Int → Int := fun i => if z = 0 then crF T i else gpF T i
theorem crF_01 (T : Tb) (i : Int) : (crF T i = 0 ∨ crF T i = 1) := by
  unfold crF
  by_cases c : len T (i + 1) < len T i
  · rw [if_pos c]; exact Or.inr rfl
  · rw [if_neg c]; exact Or.inl rfl
theorem gpF_01 (T : Tb) (i : Int) : (gpF T i = 0 ∨ gpF T i = 1) := by
  unfold gpF
  by_cases c : len T i < (if i = 0 then 6 else len T (i - 1))
  · rw [if_pos c]; exact Or.inr rfl
  · rw [if_neg c]; exact Or.inl rfl
theorem enF_01 (T : Tb) (z i : Int) : (enF T z i = 0 ∨ enF T z i = 1) := by
  unfold enF
  by_cases c : z = 0
  · rw [if_pos c]; exact crF_01 T i
  · rw [if_neg c]; exact gpF_01 T i
theorem zb_01 {a : Int} (h : a = 0 ∨ a = 1) : zb (iz a) = some (iz a) := by
  rcases h with h | h
  · rw [h]; exact zb_0
  · rw [h]; exact zb_1
theorem pX7_hasCorner_iz {T : Tb} {f : Nat → Int32} (hB : tB T) (h : tX T f) {i : Int} (h1 : 0 ≤ i) (h2 : i < 6) : pX7_hasCorner f (iz i) = some (iz (crF T i)) := by
  have l1 := len_b T i
  have l2 := len_b T (i + 1)
  unfold pX7_hasCorner crF
  simp only [iz_1, iz_0, iz_add]
  rw [pX7_rowLength_iz hB h (by omega) (by omega), bd1_some, pX7_rowLength_iz hB h (by omega) (by omega), bd1_some, ifz_le (by omega) (by omega) (by omega) (by omega)]
  by_cases c : len T (i + 1) < len T i
  · rw [if_pos c, if_neg (by omega)]
  · rw [if_neg c, if_pos (by omega)]
theorem pX7_hasGap_iz {T : Tb} {f : Nat → Int32} (hB : tB T) (h : tX T f) {i : Int} (h1 : 0 ≤ i) (h2 : i < 6) : pX7_hasGap f (iz i) = some (iz (gpF T i)) := by
  have l1 := len_b T i
  have l2 := len_b T (i - 1)
  unfold pX7_hasGap gpF
  simp only [iz_1, iz_0, iz_6, iz_sub]
  rw [pX7_rowLength_iz hB h (by omega) (by omega), bd1_some, pX7_rowLength_iz hB h (by omega) (by omega), bd1_some, ifz_eq (by omega) (by omega) (by omega) (by omega)]
  by_cases c0 : i = 0
  · rw [if_pos c0, bd1_some, ifz_le (by omega) (by omega) (by omega) (by omega), if_pos c0]
    by_cases c : len T i < 6
    · rw [if_pos c, if_neg (by omega)]
    · rw [if_neg c, if_pos (by omega)]
  · rw [if_neg c0, bd1_some, ifz_le (by omega) (by omega) (by omega) (by omega), if_neg c0]
    by_cases c : len T i < len T (i - 1)
    · rw [if_pos c, if_neg (by omega)]
    · rw [if_neg c, if_pos (by omega)]
theorem pX7_endsAt_iz {T : Tb} {f : Nat → Int32} (hB : tB T) (h : tX T f) {i z : Int} (hz : sm32 z) (h1 : 0 ≤ i) (h2 : i < 6) : pX7_endsAt f (iz i) (iz z) = some (iz (enF T z i)) := by
  unfold pX7_endsAt enF
  rw [pX7_hasCorner_iz hB h h1 h2, pX7_hasGap_iz hB h h1 h2, bd1_some, bd1_some, zb_01 (crF_01 T i), zb_01 (gpF_01 T i), bd1_some, bd1_some, iz_0, ifz_eq hz.1 hz.2 (by omega) (by omega)]
  by_cases c : z = 0
  · rw [if_pos c, if_pos c]
  · rw [if_neg c, if_neg c]
theorem pX10_isCorner_iz {T : Tb} {g : Nat → Int32} {t : Int} (hB : tB T) (h : tM T t g) (ht : 0 ≤ t) (ht2 : t ≤ 1) {i : Int} (h1 : 0 ≤ i) (h2 : i < 6) : pX10_isCorner g (iz t) (iz i) = some (iz (crF T i)) := by
  have l1 := len_b T i
  have l2 := len_b T (i + 1)
  unfold pX10_isCorner crF
  simp only [iz_1, iz_0, iz_add]
  rw [pX10_length_iz hB h ht ht2 (by omega) (by omega), bd1_some, pX10_length_iz hB h ht ht2 (by omega) (by omega), bd1_some, bd1_some, ifz_le (by omega) (by omega) (by omega) (by omega), ifz_le (by omega) (by omega) (by omega) (by omega)]
  by_cases c : len T (i + 1) < len T i
  · rw [if_pos c, if_neg (by omega), if_neg (by omega)]
  · rw [if_neg c]
    by_cases c2 : len T i ≤ 0
    · rw [if_pos c2]
    · rw [if_neg c2, if_pos (by omega)]
theorem pX10_isGap_f {T : Tb} {g : Nat → Int32} {t : Int} (hB : tB T) (h : tM T t g) (ht : 0 ≤ t) (ht2 : t ≤ 1) {i : Int} (h1 : 0 ≤ i) (h2 : i < 6) : pX10_isGap g (iz t) (iz i) = some (iz (gpF T i)) := by
  rcases pX10_isGap_iz hB h ht ht2 h1 h2 with ⟨a, b⟩ | ⟨a, b⟩
  · rw [b]
    unfold gapAt at a
    unfold gpF
    rw [if_pos a]
  · rw [b]
    unfold gapAt at a
    unfold gpF
    rw [if_neg a]
theorem pX7_ends_iz {T : Tb} {f : Nat → Int32} (hB : tB T) (h : tX T f) {z : Int} (hz : sm32 z) : pX7_ends f (iz z) = some (iz (sumI (enF T z) 6)) := by
  unfold pX7_ends
  simp only [iz_0]
  have hl : lpI lpF (un2 (pX7_ends_L4 f (iz z))) (iz 0, iz 0) = some (iz (sumI (enF T z) 6)) := by
    refine lp_cf (fun i => iz (sumI (enF T z) i.toNat)) 0 6 _ (by omega) (by omega) (fun i hi hi2 => ?_) ?_
    · rw [un2_mk]
      unfold pX7_ends_L4
      have e := enF_01 T z i
      simp only [iz_6, iz_1, iz_0, iz_add]
      rw [ifz_le (by omega) (by omega) (by omega) (by omega), if_neg (by omega), pX7_endsAt_iz hB h hz hi hi2, bd1_some, ifz_eq (by omega) (by omega) (by omega) (by omega)]
      rw [show (i + 1).toNat = i.toNat + 1 by omega, sumI_s, show ((i.toNat : Nat) : Int) = i by omega]
      by_cases c : enF T z i = 0
      · rw [if_pos c, c, Int.add_zero]
      · rw [if_neg c, show enF T z i = 1 by omega]
    · rw [un2_mk]
      unfold pX7_ends_L4
      simp only [iz_6]
      rw [ifz_le (by omega) (by omega) (by omega) (by omega), if_pos (by omega)]
      rfl
  rw [hl, bd1_some]
theorem pX10_about_loop {T : Tb} {g : Nat → Int32} {t : Int} (hB : tB T) (h : tM T t g) (ht : 0 ≤ t) (ht2 : t ≤ 1) : lpI lpF (un3 (pX10_about_L45 g (iz t))) (iz 0, iz 0, iz 0) = some (iz (sumI (enF T 1) 6), iz (sumI (enF T 0) 6)) := by
  refine lp_cf (fun i => (iz (sumI (enF T 1) i.toNat), iz (sumI (enF T 0) i.toNat))) 0 6 _ (by omega) (by omega) (fun i hi hi2 => ?_) ?_
  · rw [un3_mk]
    unfold pX10_about_L45
    have e1 : enF T 0 i = crF T i := by unfold enF; rw [if_pos rfl]
    have e2 : enF T 1 i = gpF T i := by unfold enF; rw [if_neg (by omega)]
    simp only [iz_6, iz_1, iz_0, iz_add]
    rw [ifz_le (by omega) (by omega) (by omega) (by omega), if_neg (by omega), pX10_isCorner_iz hB h ht ht2 hi hi2, bd1_some, pX10_isGap_f hB h ht ht2 hi hi2]
    rw [show (i + 1).toNat = i.toNat + 1 by omega, sumI_s, sumI_s, show ((i.toNat : Nat) : Int) = i by omega, e1, e2]
    rcases crF_01 T i with c | c
    · rw [c, if_pos rfl, bd1_some, bd1_some]
      rcases gpF_01 T i with d | d
      · rw [d, if_pos rfl, iz_add]
      · rw [d, if_neg iz1_ne, iz_add]
    · rw [c, if_neg iz1_ne, bd1_some, bd1_some]
      rcases gpF_01 T i with d | d
      · rw [d, if_pos rfl, iz_add]
      · rw [d, if_neg iz1_ne, iz_add]
  · rw [un3_mk]
    unfold pX10_about_L45
    simp only [iz_6]
    rw [ifz_le (by omega) (by omega) (by omega) (by omega), if_pos (by omega)]
    rfl
theorem en_up (T : Tb) (z : Int) {m n : Nat} (h : m ≤ n) : sumI (enF T z) m ≤ sumI (enF T z) n := sumI_up (fun k => by have := enF_01 T z k; omega) h
theorem en_b (T : Tb) (z : Int) (n : Nat) : 0 ≤ sumI (enF T z) n ∧ sumI (enF T z) n ≤ n := by
  have h1 := sumI_nn (f := enF T z) (fun k => by have := enF_01 T z k; omega) n
  have h2 := sumI_b (f := enF T z) (c := 1) (fun k => by have := enF_01 T z k; omega) n
  omega
theorem pX7_kthEnd_yes {T : Tb} {f : Nat → Int32} (hB : tB T) (h : tX T f) {z k i : Int} (hz : sm32 z) (hk : 0 ≤ k) (hk2 : k < 2147483648) (h1 : 0 ≤ i) (h2 : i < 6) (h3 : enF T z i = 1) (h4 : sumI (enF T z) i.toNat = k) : pX7_kthEnd f (iz k) (iz z) = some (iz (10 * i + len T i - (if z = 0 then 1 else 0))) := by
  have hl : lpI lpF (un2 (pX7_kthEnd_L5 f (iz k) (iz z))) (iz 0, iz 0) = some (.inl (iz (10 * i + len T i - (if z = 0 then 1 else 0)))) := by
    refine lp_cf (fun a => iz (sumI (enF T z) a.toNat)) 0 i _ (by omega) (by omega) (fun a ha ha2 => ?_) ?_
    · rw [un2_mk]
      unfold pX7_kthEnd_L5
      have e := enF_01 T z a
      have b := en_b T z a.toNat
      have n2 := en_up T z (show a.toNat + 1 ≤ i.toNat by omega)
      rw [sumI_s, show ((a.toNat : Nat) : Int) = a by omega] at n2
      simp only [iz_6, iz_1, iz_0, iz_add]
      rw [ifz_le (by omega) (by omega) (by omega) (by omega), if_neg (by omega), pX7_endsAt_iz hB h hz ha (by omega), bd1_some, ifz_eq (by omega) (by omega) (by omega) (by omega), ifz_eq (by omega) (by omega) (by omega) (by omega)]
      rw [show (a + 1).toNat = a.toNat + 1 by omega, sumI_s, show ((a.toNat : Nat) : Int) = a by omega]
      by_cases c : enF T z a = 0
      · rw [if_pos c, c, Int.add_zero]
      · rw [if_neg c, if_neg (by omega), show enF T z a = 1 by omega]
    · rw [un2_mk]
      unfold pX7_kthEnd_L5
      simp only [iz_6, iz_1, iz_0]
      rw [ifz_le (by omega) (by omega) (by omega) (by omega), if_neg (by omega), pX7_endsAt_iz hB h hz h1 h2, bd1_some, h3, if_neg iz1_ne, h4, if_pos rfl, pX7_rowLength_iz hB h (by omega) (by omega), bd1_some, bd1_some, ifz_eq hz.1 hz.2 (by omega) (by omega)]
      by_cases c : z = 0
      · rw [if_pos c, if_pos c, bd1_some, iz_sub, pX9_placeOf_iz, bd1_some, show 10 * i + (len T i - 1) = 10 * i + len T i - 1 by omega]
      · rw [if_neg c, if_neg c, bd1_some, pX9_placeOf_iz, bd1_some, Int.sub_zero]
  unfold pX7_kthEnd
  rw [iz_0, hl, bd1_some, el_inl]
theorem pX7_kthEnd_no {T : Tb} {f : Nat → Int32} (hB : tB T) (h : tX T f) {z k : Int} (hz : sm32 z) (hk : 0 ≤ k) (hk2 : k < 2147483648) (h3 : ∀ i, 0 ≤ i → i < 6 → enF T z i = 1 → sumI (enF T z) i.toNat ≠ k) : pX7_kthEnd f (iz k) (iz z) = some (iz (-9)) := by
  have hl : lpI lpF (un2 (pX7_kthEnd_L5 f (iz k) (iz z))) (iz 0, iz 0) = some (.inr ()) := by
    refine lp_cf (fun a => iz (sumI (enF T z) a.toNat)) 0 6 _ (by omega) (by omega) (fun a ha ha2 => ?_) ?_
    · rw [un2_mk]
      unfold pX7_kthEnd_L5
      have e := enF_01 T z a
      have b := en_b T z a.toNat
      have n2 := h3 a ha ha2
      simp only [iz_6, iz_1, iz_0, iz_add]
      rw [ifz_le (by omega) (by omega) (by omega) (by omega), if_neg (by omega), pX7_endsAt_iz hB h hz ha (by omega), bd1_some, ifz_eq (by omega) (by omega) (by omega) (by omega), ifz_eq (by omega) (by omega) (by omega) (by omega)]
      rw [show (a + 1).toNat = a.toNat + 1 by omega, sumI_s, show ((a.toNat : Nat) : Int) = a by omega]
      by_cases c : enF T z a = 0
      · rw [if_pos c, c, Int.add_zero]
      · rw [if_neg c, if_neg (by omega), show enF T z a = 1 by omega]
    · rw [un2_mk]
      unfold pX7_kthEnd_L5
      simp only [iz_6]
      rw [ifz_le (by omega) (by omega) (by omega) (by omega), if_pos (by omega)]
  unfold pX7_kthEnd
  rw [iz_0, hl, bd1_some, el_inr]
  unfold pX7_kthEnd_R63
  simp only [iz_9, iz_neg]
theorem pX10_corner_body {T : Tb} {g : Nat → Int32} {t : Int} (hB : tB T) (h : tM T t g) (ht : 0 ≤ t) (ht2 : t ≤ 1) {z a e : Int} (hz : sm32 z) (he : sm32 e) (h1 : 0 ≤ a) (h2 : a < 6) (x : Int32) : pX10_corner_L35 g (iz t) (iz z) x (iz a) (iz e) = some (if enF T z a = 0 then .inl (iz (a + 1), iz e) else if e = 0 then .inr (.inl (iz (10 * a + len T a - (if z = 0 then 1 else 0)), x)) else .inl (iz (a + 1), iz (e + -1))) := by
  unfold pX10_corner_L35 enF
  simp only [iz_6, iz_1, iz_0, iz_neg, iz_10, iz_mul, iz_add]
  rw [ifz_le (by omega) (by omega) (by omega) (by omega), if_neg (by omega), pX10_isCorner_iz hB h ht ht2 h1 h2, bd1_some, pX10_isGap_f hB h ht ht2 h1 h2, bd1_some, pX10_length_iz hB h ht ht2 (by omega) (by omega), bd1_some]
  simp only [iz_add, iz_sub]
  have hc := crF_01 T a
  have hg := gpF_01 T a
  rw [ifz_eq hz.1 hz.2 (by omega) (by omega), ifz_eq (a := crF T a) (by omega) (by omega) (by omega) (by omega), ifz_eq (a := gpF T a) (by omega) (by omega) (by omega) (by omega), ifz_eq he.1 he.2 (by omega) (by omega), ifz_eq hz.1 hz.2 (by omega) (by omega)]
  by_cases c : z = 0
  · simp only [if_pos c]
    by_cases c2 : crF T a = 0
    · rw [if_pos c2, if_pos c2]
    · rw [if_neg c2, if_neg c2]
      by_cases c3 : e = 0
      · rw [if_pos c3, if_pos c3]
      · rw [if_neg c3, if_neg c3]
  · simp only [if_neg c]
    by_cases c2 : gpF T a = 0
    · rw [if_pos c2, if_pos c2]
    · rw [if_neg c2, if_neg c2]
      by_cases c3 : e = 0
      · rw [if_pos c3, if_pos c3]
      · rw [if_neg c3, if_neg c3]
theorem pX10_corner_yes {T : Tb} {g : Nat → Int32} {t : Int} (hB : tB T) (h : tM T t g) (ht : 0 ≤ t) (ht2 : t ≤ 1) {z k i : Int} (hz : sm32 z) (hk : 0 ≤ k) (hk2 : k < 2147483648) (h1 : 0 ≤ i) (h2 : i < 6) (h3 : enF T z i = 1) (h4 : sumI (enF T z) i.toNat = k) (x : Int32) : lpI lpF (un2 (pX10_corner_L35 g (iz t) (iz z) x)) (iz 0, iz k) = some (.inl (iz (10 * i + len T i - (if z = 0 then 1 else 0)), x)) := by
  have e0 : iz k = iz (k - sumI (enF T z) (0 : Int).toNat) := by rw [show (0 : Int).toNat = 0 from rfl, sumI_0, Int.sub_zero]
  rw [e0]
  refine lp_cf (fun a => iz (k - sumI (enF T z) a.toNat)) 0 i _ (by omega) (by omega) (fun a ha ha2 => ?_) ?_
  · have e := enF_01 T z a
    have b := en_b T z a.toNat
    have n2 := en_up T z (show a.toNat + 1 ≤ i.toNat by omega)
    rw [sumI_s, show ((a.toNat : Nat) : Int) = a by omega] at n2
    rw [un2_mk, pX10_corner_body hB h ht ht2 hz ⟨by omega, by omega⟩ ha (by omega)]
    rw [show (a + 1).toNat = a.toNat + 1 by omega, sumI_s, show ((a.toNat : Nat) : Int) = a by omega]
    by_cases c : enF T z a = 0
    · rw [if_pos c, c, Int.add_zero]
    · rw [if_neg c, if_neg (by omega), show k - sumI (enF T z) a.toNat + -1 = k - (sumI (enF T z) a.toNat + enF T z a) by omega]
  · rw [un2_mk, pX10_corner_body hB h ht ht2 hz ⟨by omega, by omega⟩ h1 h2, if_neg (by omega), if_pos (by omega)]
theorem pX10_corner_no {T : Tb} {g : Nat → Int32} {t : Int} (hB : tB T) (h : tM T t g) (ht : 0 ≤ t) (ht2 : t ≤ 1) {z k : Int} (hz : sm32 z) (hk : 0 ≤ k) (hk2 : k < 2147483648) (h3 : ∀ i, 0 ≤ i → i < 6 → enF T z i = 1 → sumI (enF T z) i.toNat ≠ k) (x : Int32) : lpI lpF (un2 (pX10_corner_L35 g (iz t) (iz z) x)) (iz 0, iz k) = some (.inr ()) := by
  have e0 : iz k = iz (k - sumI (enF T z) (0 : Int).toNat) := by rw [show (0 : Int).toNat = 0 from rfl, sumI_0, Int.sub_zero]
  rw [e0]
  refine lp_cf (fun a => iz (k - sumI (enF T z) a.toNat)) 0 6 _ (by omega) (by omega) (fun a ha ha2 => ?_) ?_
  · have e := enF_01 T z a
    have b := en_b T z a.toNat
    have n2 := h3 a ha ha2
    rw [un2_mk, pX10_corner_body hB h ht ht2 hz ⟨by omega, by omega⟩ ha (by omega)]
    rw [show (a + 1).toNat = a.toNat + 1 by omega, sumI_s, show ((a.toNat : Nat) : Int) = a by omega]
    by_cases c : enF T z a = 0
    · rw [if_pos c, c, Int.add_zero]
    · rw [if_neg c, if_neg (by omega), show k - sumI (enF T z) a.toNat + -1 = k - (sumI (enF T z) a.toNat + enF T z a) by omega]
  · rw [un2_mk]
    unfold pX10_corner_L35
    simp only [iz_6]
    rw [ifz_le (by omega) (by omega) (by omega) (by omega), if_pos (by omega)]
-- hooks
theorem pX7_hookOf_iz {T : Tb} {f : Nat → Int32} (hB : tB T) (h : tX T f) {i j : Int} (h1 : 0 ≤ i) (h2 : i < 6) (h3 : 0 ≤ j) (h4 : j < 6) : pX7_hookOf f (iz i) (iz j) = some (iz (len T i - j + tall T j - i - 1)) := by
  unfold pX7_hookOf
  rw [pX7_rowLength_iz hB h (by omega) (by omega), bd1_some, pX7_columnLength_iz hB h (by omega) (by omega), bd1_some]
  simp only [iz_1, iz_add, iz_sub]
theorem pX10_hookOf_iz {T : Tb} {g : Nat → Int32} {t : Int} (hS : tS T) (h : tM T t g) (ht : 0 ≤ t) (ht2 : t ≤ 1) {i j : Int} (h1 : 0 ≤ i) (h2 : i < 6) (h3 : 0 ≤ j) (h4 : j < 6) : pX10_hookOf g (iz t) (iz i) (iz j) = some (iz (len T i - j + tall T j - i - 1)) := by
  unfold pX10_hookOf
  rw [pX10_length_iz hS.1 h ht ht2 (by omega) (by omega), bd1_some, pX10_tall_iz hS h ht ht2 (by omega) (by omega), bd1_some]
  simp only [iz_1, iz_add, iz_sub]
-- extremes
def mx (T : Tb) : Nat → Int
  | 0 => -9
  | n + 1 => if T ((n : Int) / 6) ((n : Int) % 6) = -1 then mx T n else if mx T n < T ((n : Int) / 6) ((n : Int) % 6) then T ((n : Int) / 6) ((n : Int) % 6) else mx T n
theorem mx_b {T : Tb} (hB : tB T) (n : Nat) : -9 ≤ mx T n ∧ mx T n ≤ 100 ∧ (mx T n = -9 ∨ 0 ≤ mx T n) := by
  induction n with
  | zero => rw [mx]; omega
  | succ n ih =>
    rw [mx]
    by_cases c : T ((n : Int) / 6) ((n : Int) % 6) = -1
    · rw [if_pos c]; exact ih
    · rw [if_neg c]
      have := hB _ _ c
      by_cases c2 : mx T n < T ((n : Int) / 6) ((n : Int) % 6)
      · rw [if_pos c2]; omega
      · rw [if_neg c2]; omega
theorem mx_s {T : Tb} {k : Int} (hk : 0 ≤ k) : mx T (k + 1).toNat = if T (k / 6) (k % 6) = -1 then mx T k.toNat else if mx T k.toNat < T (k / 6) (k % 6) then T (k / 6) (k % 6) else mx T k.toNat := by
  rw [show (k + 1).toNat = k.toNat + 1 by omega, mx, show ((k.toNat : Nat) : Int) = k by omega]
theorem pX7_greatest_iz {T : Tb} {f : Nat → Int32} (hB : tB T) (h : tX T f) : pX7_greatest f = some (iz (mx T 36)) := by
  unfold pX7_greatest
  simp only [iz_0, iz_9, iz_neg]
  have hl : lpI lpF (un2 (pX7_greatest_L5 f)) (iz 0, iz (-9)) = some (iz (mx T 36)) := by
    refine lp_cf (fun i => iz (mx T i.toNat)) 0 36 _ (by omega) (by omega) (fun i hi hi2 => ?_) ?_
    · rw [un2_mk]
      unfold pX7_greatest_L5
      have hb := hB.lo (i / 6) (i % 6)
      have hm := mx_b hB i.toNat
      simp only [iz_36, iz_1, iz_neg, iz_add]
      rw [ifz_le (by omega) (by omega) (by omega) (by omega), if_neg (by omega), gI_iz (by omega) (by omega) (by omega), bd1_some, bd1_some, h.at36 hi hi2, ifz_eq (by omega) (by omega) (by omega) (by omega), ifz_lt (by omega) (by omega) (by omega) (by omega), mx_s hi]
      by_cases c : T (i / 6) (i % 6) = -1
      · rw [if_pos c, if_pos c]
      · rw [if_neg c, if_neg c]
        by_cases c2 : mx T i.toNat < T (i / 6) (i % 6)
        · rw [if_pos c2, if_pos c2]
        · rw [if_neg c2, if_neg c2]
    · rw [un2_mk]
      unfold pX7_greatest_L5
      simp only [iz_36]
      rw [ifz_le (by omega) (by omega) (by omega) (by omega), if_pos (by omega)]
      rfl
  rw [hl, bd1_some]
theorem mx_tail {T : Tb} {m : Nat} : ∀ {n : Nat}, m ≤ n → (∀ k : Int, m ≤ k → k < n → T (k / 6) (k % 6) = -1) → mx T n = mx T m := by
  intro n
  induction n with
  | zero =>
    intro h _
    rw [show m = 0 by omega]
  | succ n ih =>
    intro h hz
    by_cases c : m = n + 1
    · rw [c]
    · rw [mx, if_pos (hz n (by omega) (by omega)), ih (by omega) (fun k h1 h2 => hz k h1 (by omega))]
theorem pX10_greatest_row {T : Tb} {g : Nat → Int32} {t : Int} (hS : tS T) (h : tM T t g) (ht : 0 ≤ t) (ht2 : t ≤ 1) {a : Int} (h1 : 0 ≤ a) (h2 : a < 6) : lpI lpF (un2 (pX10_extreme_L16 g (iz t) (iz 1) (iz a))) (iz 0, iz (mx T (6 * a).toNat)) = some (iz (mx T (6 * a + 6).toNat)) := by
  have hb := len_b T a
  have e0 : iz (mx T (6 * a).toNat) = iz (mx T (6 * a + 0).toNat) := by rw [Int.add_zero]
  rw [e0]
  refine lp_cf (fun b => iz (mx T (6 * a + b).toNat)) 0 (len T a) _ (by omega) (by omega) (fun b hb1 hb2 => ?_) ?_
  · have hs := len_spec hS a b hb1
    have hc : T a b ≠ -1 := hs.2 hb2
    have hl := hS.1 a b hc
    have hm := mx_b hS.1 (6 * a + b).toNat
    rw [un2_mk]
    unfold pX10_extreme_L16
    simp only [iz_1, iz_0, iz_9, iz_neg, iz_add]
    rw [pX10_length_iz hS.1 h ht ht2 (by omega) (by omega), bd1_some, ifz_le (by omega) (by omega) (by omega) (by omega), if_neg (by omega), pX10_get_iz h ht ht2 hc h1 h2 hb1 (by omega), bd1_some, ifz_eq (by omega) (by omega) (by omega) (by omega), if_neg iz1_ne, ifz_le (by omega) (by omega) (by omega) (by omega)]
    rw [show 6 * a + (b + 1) = 6 * a + b + 1 by omega, mx_s (by omega), show (6 * a + b) / 6 = a by omega, show (6 * a + b) % 6 = b by omega, if_neg hc]
    by_cases c : mx T (6 * a + b).toNat = -9
    · rw [if_pos c, if_pos (by omega)]
    · rw [if_neg c]
      by_cases c2 : T a b ≤ mx T (6 * a + b).toNat
      · rw [if_pos c2, if_neg (by omega)]
      · rw [if_neg c2, if_pos (by omega)]
  · rw [un2_mk]
    unfold pX10_extreme_L16
    rw [pX10_length_iz hS.1 h ht ht2 (by omega) (by omega), bd1_some, ifz_le (by omega) (by omega) (by omega) (by omega), if_pos (by omega)]
    rw [mx_tail (T := T) (m := (6 * a + len T a).toNat) (n := (6 * a + 6).toNat) (by omega) (fun k q1 q2 => by
      have := len_spec hS (k / 6) (k % 6) (by omega)
      rw [show k / 6 = a by omega] at this ⊢
      omega)]
theorem pX10_extreme_1 {T : Tb} {g : Nat → Int32} {t : Int} (hS : tS T) (h : tM T t g) (ht : 0 ≤ t) (ht2 : t ≤ 1) : pX10_extreme g (iz t) (iz 1) = some (iz (mx T 36)) := by
  unfold pX10_extreme
  simp only [iz_0, iz_9, iz_neg]
  have hl : lpI lpF (un2 (pX10_extreme_L6 g (iz t) (iz 1))) (iz 0, iz (-9)) = some (iz (mx T 36)) := by
    refine lp_cf (fun a => iz (mx T (6 * a).toNat)) 0 6 _ (by omega) (by omega) (fun a ha ha2 => ?_) ?_
    · rw [un2_mk]
      unfold pX10_extreme_L6
      simp only [iz_6, iz_1, iz_0, iz_add]
      rw [ifz_le (by omega) (by omega) (by omega) (by omega), if_neg (by omega), pX10_greatest_row hS h ht ht2 ha ha2, bd1_some, show 6 * (a + 1) = 6 * a + 6 by omega]
    · rw [un2_mk]
      unfold pX10_extreme_L6
      simp only [iz_6]
      rw [ifz_le (by omega) (by omega) (by omega) (by omega), if_pos (by omega)]
      rfl
  rw [hl, bd1_some]
theorem tOK.first {T : Tb} (hK : tOK T) : ∀ (n : Nat) (i j : Int), i + j = n → T i j ≠ -1 → T 0 0 ≠ -1 ∧ T 0 0 ≤ T i j := by
  intro n
  induction n with
  | zero =>
    intro i j h hc
    have := hK.1 i j hc
    rw [show i = 0 by omega, show j = 0 by omega] at hc ⊢
    exact ⟨hc, Int.le_refl _⟩
  | succ n ih =>
    intro i j h hc
    have := hK.1 i j hc
    by_cases c : 0 < i
    · have q := hK.2.1 i j hc c
      have r := ih (i - 1) j (by omega) q.1
      omega
    · have q := hK.2.2 i j hc (by omega)
      have r := ih i (j - 1) (by omega) q.1
      omega
theorem tOK.first' {T : Tb} (hK : tOK T) {i j : Int} (hc : T i j ≠ -1) : T 0 0 ≠ -1 ∧ T 0 0 ≤ T i j := by
  have := hK.1 i j hc
  exact hK.first (i + j).toNat i j (by omega) hc
def mnv (T : Tb) (p : Int) : Int := if p = 0 ∨ T 0 0 = -1 then -9 else T 0 0
theorem pX10_least_row {T : Tb} {g : Nat → Int32} {t : Int} (hK : tOK T) (h : tM T t g) (ht : 0 ≤ t) (ht2 : t ≤ 1) {a : Int} (h1 : 0 ≤ a) (h2 : a < 6) : lpI lpF (un2 (pX10_extreme_L16 g (iz t) (iz 0) (iz a))) (iz 0, iz (mnv T (6 * a))) = some (iz (mnv T (6 * a + 6))) := by
  have hb := len_b T a
  have hS := hK.s
  have e0 : iz (mnv T (6 * a)) = iz (mnv T (6 * a + 0)) := by rw [Int.add_zero]
  rw [e0]
  refine lp_cf (fun b => iz (mnv T (6 * a + b))) 0 (len T a) _ (by omega) (by omega) (fun b hb1 hb2 => ?_) ?_
  · have hs := len_spec hS a b hb1
    have hc : T a b ≠ -1 := hs.2 hb2
    have hl := hS.1 a b hc
    have hf := hK.first' hc
    have h0 := hS.1.lo 0 0
    rw [un2_mk]
    unfold pX10_extreme_L16
    simp only [iz_1, iz_0, iz_9, iz_neg, iz_add]
    rw [pX10_length_iz hS.1 h ht ht2 (by omega) (by omega), bd1_some, ifz_le (by omega) (by omega) (by omega) (by omega), if_neg (by omega), pX10_get_iz h ht ht2 hc h1 h2 hb1 (by omega), bd1_some, if_pos trivial]
    have e1 : mnv T (6 * a + (b + 1)) = T 0 0 := by unfold mnv; rw [if_neg (by omega)]
    rw [e1]
    by_cases c : 6 * a + b = 0
    · rw [show mnv T (6 * a + b) = -9 by unfold mnv; rw [if_pos (by omega)], if_pos rfl, show a = 0 by omega, show b = 0 by omega]
    · rw [show mnv T (6 * a + b) = T 0 0 by unfold mnv; rw [if_neg (by omega)], ifz_eq (by omega) (by omega) (by omega) (by omega), if_neg (by omega), ifz_le (by omega) (by omega) (by omega) (by omega), if_pos (by omega)]
  · rw [un2_mk]
    unfold pX10_extreme_L16
    rw [pX10_length_iz hS.1 h ht ht2 (by omega) (by omega), bd1_some, ifz_le (by omega) (by omega) (by omega) (by omega), if_pos (by omega)]
    have e : mnv T (6 * a + len T a) = mnv T (6 * a + 6) := by
      unfold mnv
      by_cases c : T 0 0 = -1
      · rw [if_pos (Or.inr c), if_pos (Or.inr c)]
      · have q := (len_spec hS 0 0 (by omega)).1 c
        by_cases c2 : a = 0
        · subst c2
          rw [if_neg (by omega), if_neg (by omega)]
        · rw [if_neg (by omega), if_neg (by omega)]
    rw [e]
theorem pX10_extreme_0 {T : Tb} {g : Nat → Int32} {t : Int} (hK : tOK T) (h : tM T t g) (ht : 0 ≤ t) (ht2 : t ≤ 1) : pX10_extreme g (iz t) (iz 0) = some (iz (if T 0 0 = -1 then -9 else T 0 0)) := by
  have e9 : (if T 0 0 = -1 then -9 else T 0 0) = mnv T (6 * 6) := by
    unfold mnv
    by_cases c : T 0 0 = -1
    · rw [if_pos c, if_pos (Or.inr c)]
    · rw [if_neg c, if_neg (by omega)]
  rw [e9]
  unfold pX10_extreme
  simp only [iz_0, iz_9, iz_neg]
  have hl : lpI lpF (un2 (pX10_extreme_L6 g (iz t) (iz 0))) (iz 0, iz (mnv T (6 * 0))) = some (iz (mnv T (6 * 6))) := by
    refine lp_cf (fun a => iz (mnv T (6 * a))) 0 6 _ (by omega) (by omega) (fun a ha ha2 => ?_) ?_
    · rw [un2_mk]
      unfold pX10_extreme_L6
      simp only [iz_6, iz_1, iz_0, iz_add]
      rw [ifz_le (by omega) (by omega) (by omega) (by omega), if_neg (by omega), pX10_least_row hK h ht ht2 ha ha2, bd1_some, show 6 * (a + 1) = 6 * a + 6 by omega]
    · rw [un2_mk]
      unfold pX10_extreme_L6
      simp only [iz_6]
      rw [ifz_le (by omega) (by omega) (by omega) (by omega), if_pos (by omega)]
  rw [show mnv T (6 * 0) = -9 by unfold mnv; rw [if_pos (by omega)]] at hl
  rw [hl, bd1_some]
-- walks
theorem walk_both {T : Tb} {f g : Nat → Int32} {t v : Int} (hS : tS T) (hX : tX T f) (hM : tM T t g) (ht : 0 ≤ t) (ht2 : t ≤ 1) (hv : 0 ≤ v) (hv2 : v ≤ 100) : ∀ (n m : Nat) (la fo : Int32) (st j i : Int), 0 ≤ i → i ≤ 6 → -1 ≤ j → j < 6 → (0 ≤ j → T i j ≠ -1) → 0 ≤ st → st ≤ i + 5 - j → 6 - i + (j + 1) ≤ n → n < m → ∃ r, lpI m (un5 (pX7_tellWalk_L22 f (iz v))) (la, fo, iz st, iz j, iz i) = some r ∧ lpI m (un5 (pX10_walk_L71 g (iz t) (iz v))) (la, fo, iz st, iz j, iz i) = some r := by
  intro n
  induction n with
  | zero =>
    intro m la fo st j i h1 h2 h3 h4 h5 h6 h7 h8 h9
    obtain ⟨m, rfl⟩ : ∃ m', m = m' + 1 := ⟨m - 1, by omega⟩
    refine ⟨(la, fo, iz st), ?_, ?_⟩
    · rw [lpI, un5_mk]
      unfold pX7_tellWalk_L22
      simp only [iz_12, iz_0]
      have e : T i j = -1 := hS.1.out (by omega)
      rw [ifz_le (by omega) (by omega) (by omega) (by omega), pX7_has_iz hS.1 hX (by omega) (by omega) (by omega) (by omega), bd1_some, if_pos e, if_pos rfl]
      by_cases c : 12 ≤ st
      · rw [if_pos c]
      · rw [if_neg c]
    · rw [lpI, un5_mk]
      unfold pX10_walk_L71
      simp only [iz_0]
      rw [ifz_lt (by omega) (by omega) (by omega) (by omega), if_pos (by omega)]
  | succ n ih =>
    intro m la fo st j i h1 h2 h3 h4 h5 h6 h7 h8 h9
    obtain ⟨m, rfl⟩ : ∃ m', m = m' + 1 := ⟨m - 1, by omega⟩
    by_cases c0 : j < 0
    · refine ⟨(la, fo, iz st), ?_, ?_⟩
      · rw [lpI, un5_mk]
        unfold pX7_tellWalk_L22
        simp only [iz_12, iz_0]
        have e : T i j = -1 := hS.1.out (by omega)
        rw [ifz_le (by omega) (by omega) (by omega) (by omega), pX7_has_iz hS.1 hX (by omega) (by omega) (by omega) (by omega), bd1_some, if_pos e, if_pos rfl]
        by_cases c : 12 ≤ st
        · rw [if_pos c]
        · rw [if_neg c]
      · rw [lpI, un5_mk]
        unfold pX10_walk_L71
        simp only [iz_0]
        rw [ifz_lt (by omega) (by omega) (by omega) (by omega), if_pos (by omega)]
    · have hc := h5 (by omega)
      have hb := hS.1 i j hc
      have hl := len_b T (i + 1)
      have eX : ∃ fo', ∀ (σ : Type) (k : Int32 → Option σ), bd1 (if fo = iz (-9) then (if iz (T i j) = iz v then some (iz (10 * i + j)) else some fo) else some fo) k = k fo' := by
        by_cases c : fo = iz (-9)
        · by_cases c2 : iz (T i j) = iz v
          · exact ⟨iz (10 * i + j), fun σ k => by rw [if_pos c, if_pos c2, bd1_some]⟩
          · exact ⟨fo, fun σ k => by rw [if_pos c, if_neg c2, bd1_some]⟩
        · exact ⟨fo, fun σ k => by rw [if_neg c, bd1_some]⟩
      obtain ⟨fo', hfo⟩ := eX
      have h1' : ∀ i' j', 0 ≤ i' → i' ≤ 6 → -1 ≤ j' → j' < 6 → (0 ≤ j' → T i' j' ≠ -1) → st + 1 ≤ i' + 5 - j' → 6 - i' + (j' + 1) ≤ n → pX7_tellWalk_L22 f (iz v) la fo (iz st) (iz j) (iz i) = some (.inl (iz (10 * i + j), fo', iz (st + 1), iz j', iz i')) → pX10_walk_L71 g (iz t) (iz v) la fo (iz st) (iz j) (iz i) = some (.inl (iz (10 * i + j), fo', iz (st + 1), iz j', iz i')) → ∃ r, lpI (m + 1) (un5 (pX7_tellWalk_L22 f (iz v))) (la, fo, iz st, iz j, iz i) = some r ∧ lpI (m + 1) (un5 (pX10_walk_L71 g (iz t) (iz v))) (la, fo, iz st, iz j, iz i) = some r := by
        intro i' j' a1 a2 a3 a4 a5 a6 a7 e1 e2
        obtain ⟨r, q1, q2⟩ := ih m (iz (10 * i + j)) fo' (st + 1) j' i' a1 a2 a3 a4 a5 (by omega) a6 a7 (by omega)
        refine ⟨r, ?_, ?_⟩
        · rw [lpI, un5_mk, e1]
          exact q1
        · rw [lpI, un5_mk, e2]
          exact q2
      by_cases c1 : T i j ≤ v
      · have hs : ∀ a, 0 ≤ a → a < len T (i + 1) → T (i + 1) a ≠ -1 := fun a q1 q2 => (len_spec hS (i + 1) a q1).2 q2
        by_cases c2 : len T (i + 1) ≤ j
        · refine h1' (i + 1) (len T (i + 1) - 1) (by omega) (by omega) (by omega) (by omega) (fun q => hs _ q (by omega)) (by omega) (by omega) ?_ ?_
          · unfold pX7_tellWalk_L22
            simp only [iz_12, iz_0, iz_9, iz_neg, iz_1, iz_add]
            rw [ifz_le (by omega) (by omega) (by omega) (by omega), if_neg (by omega), pX7_has_iz hS.1 hX (by omega) (by omega) (by omega) (by omega), bd1_some, if_neg hc, if_neg iz1_ne, pX9_placeOf_iz, bd1_some, pX7_at_iz hS.1 hX (by omega) (by omega) (by omega) (by omega), bd1_some, hfo, bd1_some, ifz_le (by omega) (by omega) (by omega) (by omega), if_pos c1, pX7_rowLength_iz hS.1 hX (by omega) (by omega), bd1_some, iz_sub, ifz_lt (by omega) (by omega) (by omega) (by omega), if_pos (by omega)]
          · unfold pX10_walk_L71
            simp only [iz_0, iz_9, iz_neg, iz_1, iz_add, iz_10, iz_mul]
            rw [ifz_lt (by omega) (by omega) (by omega) (by omega), if_neg (by omega), pX10_get_iz hM ht ht2 hc (by omega) (by omega) (by omega) (by omega), bd1_some, hfo, ifz_le (by omega) (by omega) (by omega) (by omega), if_pos c1, pX10_length_iz hS.1 hM ht ht2 (by omega) (by omega), bd1_some, bd1_some, ifz_le (by omega) (by omega) (by omega) (by omega), if_pos c2, iz_sub]
        · refine h1' (i + 1) j (by omega) (by omega) (by omega) (by omega) (fun q => hs _ q (by omega)) (by omega) (by omega) ?_ ?_
          · unfold pX7_tellWalk_L22
            simp only [iz_12, iz_0, iz_9, iz_neg, iz_1, iz_add]
            rw [ifz_le (by omega) (by omega) (by omega) (by omega), if_neg (by omega), pX7_has_iz hS.1 hX (by omega) (by omega) (by omega) (by omega), bd1_some, if_neg hc, if_neg iz1_ne, pX9_placeOf_iz, bd1_some, pX7_at_iz hS.1 hX (by omega) (by omega) (by omega) (by omega), bd1_some, hfo, bd1_some, ifz_le (by omega) (by omega) (by omega) (by omega), if_pos c1, pX7_rowLength_iz hS.1 hX (by omega) (by omega), bd1_some, iz_sub, ifz_lt (by omega) (by omega) (by omega) (by omega)]
            by_cases c3 : len T (i + 1) - 1 < j
            · omega
            · rw [if_neg c3]
          · unfold pX10_walk_L71
            simp only [iz_0, iz_9, iz_neg, iz_1, iz_add, iz_10, iz_mul]
            rw [ifz_lt (by omega) (by omega) (by omega) (by omega), if_neg (by omega), pX10_get_iz hM ht ht2 hc (by omega) (by omega) (by omega) (by omega), bd1_some, hfo, ifz_le (by omega) (by omega) (by omega) (by omega), if_pos c1, pX10_length_iz hS.1 hM ht ht2 (by omega) (by omega), bd1_some, bd1_some, ifz_le (by omega) (by omega) (by omega) (by omega), if_neg c2]
      · refine h1' i (j - 1) (by omega) (by omega) (by omega) (by omega) (fun q => (hS.2 i j hc).2 (by omega)) (by omega) (by omega) ?_ ?_
        · unfold pX7_tellWalk_L22
          simp only [iz_12, iz_0, iz_9, iz_neg, iz_1, iz_add]
          rw [ifz_le (by omega) (by omega) (by omega) (by omega), if_neg (by omega), pX7_has_iz hS.1 hX (by omega) (by omega) (by omega) (by omega), bd1_some, if_neg hc, if_neg iz1_ne, pX9_placeOf_iz, bd1_some, pX7_at_iz hS.1 hX (by omega) (by omega) (by omega) (by omega), bd1_some, hfo, bd1_some, ifz_le (by omega) (by omega) (by omega) (by omega), if_neg c1]
          rfl
        · unfold pX10_walk_L71
          simp only [iz_0, iz_9, iz_neg, iz_1, iz_add, iz_10, iz_mul]
          rw [ifz_lt (by omega) (by omega) (by omega) (by omega), if_neg (by omega), pX10_get_iz hM ht ht2 hc (by omega) (by omega) (by omega) (by omega), bd1_some, hfo, ifz_le (by omega) (by omega) (by omega) (by omega), if_neg c1]
          rfl
