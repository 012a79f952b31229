-- sums of zeros and ones
theorem sumI_z {f : Int → Int} {n : Nat} (h : ∀ k : Int, 0 ≤ k → k < n → f k = 0) : sumI f n = 0 := by
  induction n with
  | zero => rfl
  | succ n ih =>
    rw [sumI_s, ih (fun k h1 h2 => h k h1 (by omega)), h n (by omega) (by omega)]
    rfl
theorem sumI_le {f g : Int → Int} {n : Nat} (h : ∀ k : Int, 0 ≤ k → k < n → f k ≤ g k) : sumI f n ≤ sumI g n := by
  induction n with
  | zero => exact Int.le_refl _
  | succ n ih =>
    have h1 := ih (fun k h1 h2 => h k h1 (by omega))
    have h2 := h n (by omega) (by omega)
    rw [sumI_s, sumI_s]
    omega
theorem sumI_tail {f : Int → Int} {m : Nat} : ∀ {n : Nat}, m ≤ n → (∀ k : Int, m ≤ k → k < n → f k = 0) → sumI f n = sumI f m := by
  intro n
  induction n with
  | zero =>
    intro h _
    rw [show m = 0 by omega]
  | succ n ih =>
    intro h hz
    by_cases c : m = n + 1
    · rw [c]
    · rw [sumI_s, ih (by omega) (fun k h1 h2 => hz k h1 (by omega)), hz n (by omega) (by omega), Int.add_zero]
theorem sumI_cut {f : Int → Int} {l : Int} (hl : 0 ≤ l) (h01 : ∀ k, 0 ≤ f k ∧ f k ≤ 1) (hz : ∀ k, k < l → f k = 0) (hd : ∀ k, l ≤ k → f (k + 1) = 1 → f k = 1) : ∀ n : Nat, 0 ≤ sumI f n ∧ (l ≤ n → sumI f n ≤ n - l) ∧ ((n : Int) ≤ l → sumI f n = 0) ∧ ∀ k : Int, l ≤ k → k < n → (f k = 1 ↔ k < l + sumI f n) := by
  intro n
  induction n with
  | zero =>
    rw [sumI_0]
    refine ⟨by omega, by omega, by omega, fun k h1 h2 => by omega⟩
  | succ n ih =>
    obtain ⟨i1, i2, i3, i4⟩ := ih
    have b := h01 n
    rw [sumI_s]
    by_cases c : (n : Int) < l
    · have z := hz n c
      have z2 := i3 (by omega)
      refine ⟨by omega, by omega, by omega, fun k h1 h2 => by omega⟩
    · have z2 := i2 (by omega)
      by_cases c1 : f n = 1
      · have e : sumI f n = n - l := by
          by_cases c2 : (n : Int) = l
          · have := i3 (by omega)
            omega
          · have q := hd ((n : Int) - 1) (by omega) (by rw [show (n : Int) - 1 + 1 = n by omega]; exact c1)
            have := (i4 ((n : Int) - 1) (by omega) (by omega)).1 q
            omega
        refine ⟨by omega, by omega, by omega, fun k h1 h2 => ?_⟩
        by_cases c3 : k = n
        · rw [c3]
          omega
        · have := i4 k h1 (by omega)
          omega
      · refine ⟨by omega, by omega, by omega, fun k h1 h2 => ?_⟩
        by_cases c3 : k = n
        · rw [c3]
          omega
        · have := i4 k h1 (by omega)
          omega
theorem sumI_ex {f : Int → Int} (h01 : ∀ k, 0 ≤ f k ∧ f k ≤ 1) : ∀ (n : Nat) (e : Int), 0 ≤ e → e < sumI f n → ∃ p : Int, 0 ≤ p ∧ p < n ∧ f p = 1 ∧ sumI f p.toNat = e := by
  intro n
  induction n with
  | zero =>
    intro e h1 h2
    rw [sumI_0] at h2
    omega
  | succ n ih =>
    intro e h1 h2
    rw [sumI_s] at h2
    have b := h01 n
    by_cases c : e < sumI f n
    · obtain ⟨p, q1, q2, q3⟩ := ih e h1 c
      exact ⟨p, q1, by omega, q3⟩
    · exact ⟨n, by omega, by omega, by omega, by rw [show ((n : Int)).toNat = n by omega]; omega⟩
theorem sumI_nn {f : Int → Int} (h01 : ∀ k, 0 ≤ f k) : ∀ n : Nat, 0 ≤ sumI f n := by
  intro n
  induction n with
  | zero => exact Int.le_refl _
  | succ n ih =>
    have := h01 n
    rw [sumI_s]
    omega
theorem sumI_up {f : Int → Int} (h01 : ∀ k, 0 ≤ f k) {m n : Nat} (h : m ≤ n) : sumI f m ≤ sumI f n := by
  induction n with
  | zero =>
    rw [show m = 0 by omega]
    exact Int.le_refl _
  | succ n ih =>
    by_cases c : m = n + 1
    · rw [c]
      exact Int.le_refl _
    · have := h01 n
      have := ih (by omega)
      rw [sumI_s]
      omega
theorem sumI_b {f : Int → Int} {c : Int} (h : ∀ k, f k ≤ c) : ∀ n : Nat, sumI f n ≤ n * c := by
  intro n
  induction n with
  | zero =>
    rw [sumI_0]
    simp
  | succ n ih =>
    have := h n
    rw [sumI_s, show ((n + 1 : Nat) : Int) * c = n * c + c by rw [Int.natCast_add, Int.add_mul]; simp]
    omega
theorem sumI_add {f g : Int → Int} : ∀ n : Nat, sumI (fun k => f k + g k) n = sumI f n + sumI g n := by
  intro n
  induction n with
  | zero => rfl
  | succ n ih =>
    rw [sumI_s, sumI_s, sumI_s, ih]
    omega
-- cells with numbers of at most v, in a window
def ce (T : Tb) (v i j : Int) : Int := if T i j ≠ -1 ∧ T i j ≤ v then 1 else 0
theorem ce_01 (T : Tb) (v i j : Int) : 0 ≤ ce T v i j ∧ ce T v i j ≤ 1 := by
  unfold ce
  by_cases c : T i j ≠ -1 ∧ T i j ≤ v
  · rw [if_pos c]; omega
  · rw [if_neg c]; omega
theorem ce_1 (T : Tb) (v i j : Int) : ce T v i j = 1 ↔ T i j ≠ -1 ∧ T i j ≤ v := by
  unfold ce
  by_cases c : T i j ≠ -1 ∧ T i j ≤ v
  · rw [if_pos c]; simp [c]
  · rw [if_neg c]; simp [c]
def cwF (T : Tb) (i l r v : Int) : Int → Int := fun j => if l ≤ j ∧ j ≤ r then ce T v i j else 0
def cw (T : Tb) (i l r v : Int) : Int := sumI (cwF T i l r v) 6
def wcF (T : Tb) (a l b r v : Int) : Int → Int := fun i => if a ≤ i ∧ i ≤ b then cw T i l r v else 0
def wc (T : Tb) (a l b r v : Int) : Int := sumI (wcF T a l b r v) 6
theorem cwF_01 (T : Tb) (i l r v k : Int) : 0 ≤ cwF T i l r v k ∧ cwF T i l r v k ≤ 1 := by
  have := ce_01 T v i k
  unfold cwF
  by_cases c : l ≤ k ∧ k ≤ r
  · rw [if_pos c]; exact this
  · rw [if_neg c]; omega
theorem cwF_1 (T : Tb) (i l r v k : Int) : cwF T i l r v k = 1 ↔ l ≤ k ∧ k ≤ r ∧ T i k ≠ -1 ∧ T i k ≤ v := by
  have := ce_1 T v i k
  unfold cwF
  by_cases c : l ≤ k ∧ k ≤ r
  · rw [if_pos c, this]
    omega
  · rw [if_neg c]
    omega
theorem cw_cut {T : Tb} (hK : tOK T) {l : Int} (hl : 0 ≤ l) (i r v : Int) : 0 ≤ cw T i l r v ∧ (l ≤ r + 1 → r < 6 → cw T i l r v ≤ r + 1 - l) ∧ ∀ j, l ≤ j → j ≤ r → r < 6 → ((T i j ≠ -1 ∧ T i j ≤ v) ↔ j < l + cw T i l r v) := by
  have hd : ∀ k, l ≤ k → cwF T i l r v (k + 1) = 1 → cwF T i l r v k = 1 := by
    intro k h1 h2
    rw [cwF_1] at h2 ⊢
    have := hK.2.2 i (k + 1) h2.2.2.1 (by omega)
    rw [show k + 1 - 1 = k by omega] at this
    omega
  have hz : ∀ k, k < l → cwF T i l r v k = 0 := by
    intro k h
    unfold cwF
    rw [if_neg (by omega)]
  have hc := sumI_cut hl (cwF_01 T i l r v) hz hd
  refine ⟨(hc 6).1, fun h1 h2 => ?_, fun j h1 h2 h3 => ?_⟩
  · have h4 := (hc (r + 1).toNat).2.1 (by omega)
    have h5 : sumI (cwF T i l r v) 6 = sumI (cwF T i l r v) (r + 1).toNat := by
      refine sumI_tail (by omega) (fun k h6 h7 => ?_)
      unfold cwF
      rw [if_neg (by omega)]
    unfold cw
    rw [h5]
    omega
  · have h4 := (hc 6).2.2.2 j h1 (by omega)
    rw [cwF_1] at h4
    unfold cw
    omega
theorem cw_dec {T : Tb} (hK : tOK T) {i : Int} (hi : 0 ≤ i) (l r v : Int) : cw T (i + 1) l r v ≤ cw T i l r v := by
  unfold cw
  refine sumI_le (fun k h1 h2 => ?_)
  have a := cwF_01 T i l r v k
  have b := cwF_01 T (i + 1) l r v k
  by_cases c : cwF T (i + 1) l r v k = 1
  · have d := (cwF_1 T (i + 1) l r v k).1 c
    have e := hK.2.1 (i + 1) k d.2.2.1 (by omega)
    rw [show i + 1 - 1 = i by omega] at e
    have := (cwF_1 T i l r v k).2 (by omega)
    omega
  · omega
theorem pX7_isNotUpTo_iz {a v : Int} (h1 : sm32 a) (h2 : sm32 v) : pX7_isNotUpTo (iz a) (iz v) = some (if a ≠ -1 ∧ a ≤ v then iz 0 else iz 1) := by
  unfold pX7_isNotUpTo
  simp (disch := omega) only [iz_0, iz_1, iz_neg, iz_eq, iz_le]
  by_cases c : a = -1
  · simp [c]
  · by_cases c2 : a ≤ v <;> simp [c, c2]
theorem pX7_cw_L16 {T : Tb} {f : Nat → Int32} (hK : tOK T) (h : tX T f) {i j l r v : Int} (hi : 0 ≤ i) (hi2 : i < 6) (hl : 0 ≤ l) (hr : r < 6) (hv : -1000 ≤ v) (hv2 : v ≤ 1000) (hj : l + cw T i l r v - 1 ≤ j) (hj2 : j ≤ r) : lpI lpF (pX7_countWithin_L16 f (iz l) (iz v) (iz i)) (iz j) = some (iz (l + cw T i l r v - 1)) := by
  obtain ⟨q1, q2, q3⟩ := cw_cut hK hl i r v
  have e0 : iz j = (fun k : Nat => iz (j - k)) 0 := by simp
  rw [e0]
  refine lp_tr (fun k : Nat => iz (j - k)) (j - (l + cw T i l r v - 1)).toNat _ (fun k hk => ?_) ?_ lpF (by unfold lpF; omega)
  · show pX7_countWithin_L16 f (iz l) (iz v) (iz i) (iz (j - k)) = _
    have q := q3 (j - k) (by omega) (by omega) hr
    have b := hK.b.lo i (j - k)
    unfold pX7_countWithin_L16
    have e : pX7_isNotUpTo (iz (T i (j - k))) (iz v) = some (iz 1) := by
      rw [pX7_isNotUpTo_iz ⟨by omega, by omega⟩ ⟨by omega, by omega⟩, if_neg (by omega)]
    rw [ifz_lt (by omega) (by omega) (by omega) (by omega), if_neg (by omega), pX7_at_iz hK.b h (by omega) (by omega) (by omega) (by omega), bd1_some, e, bd1_some]
    simp (disch := omega) only [iz_0, iz_1, iz_neg, iz_add]
    rw [ifz_eq (by omega) (by omega) (by omega) (by omega), if_neg (by omega), show j - (k : Int) + -1 = j - ((k + 1 : Nat) : Int) by omega]
  · show pX7_countWithin_L16 f (iz l) (iz v) (iz i) (iz (j - ((j - (l + cw T i l r v - 1)).toNat : Nat))) = _
    rw [show (j - ((j - (l + cw T i l r v - 1)).toNat : Nat) : Int) = l + cw T i l r v - 1 by omega]
    unfold pX7_countWithin_L16
    by_cases c : cw T i l r v = 0
    · rw [ifz_lt (by omega) (by omega) (by omega) (by omega), if_pos (by omega)]
    · have q := q3 (l + cw T i l r v - 1) (by omega) (by omega) hr
      have b := hK.b.lo i (l + cw T i l r v - 1)
      have e : pX7_isNotUpTo (iz (T i (l + cw T i l r v - 1))) (iz v) = some (iz 0) := by
        rw [pX7_isNotUpTo_iz ⟨by omega, by omega⟩ ⟨by omega, by omega⟩, if_pos (by omega)]
      rw [ifz_lt (by omega) (by omega) (by omega) (by omega), if_neg (by omega), pX7_at_iz hK.b h (by omega) (by omega) (by omega) (by omega), bd1_some, e, bd1_some, iz_0, if_pos rfl]
theorem pX7_countWithin_iz {T : Tb} {f : Nat → Int32} (hK : tOK T) (h : tX T f) {a l b r v : Int} (ha : 0 ≤ a) (hab : a ≤ b + 1) (hb : b < 6) (hl : 0 ≤ l) (hlr : l ≤ r + 1) (hr : r < 6) (hv : -1000 ≤ v) (hv2 : v ≤ 1000) : pX7_countWithin f (iz a) (iz l) (iz b) (iz r) (iz v) = some (iz (wc T a l b r v)) := by
  have hl' : lpI lpF (un3 (pX7_countWithin_L10 f (iz l) (iz b) (iz v))) (iz a, iz (if a = a then r else l + cw T (a - 1) l r v - 1), iz (sumI (wcF T a l b r v) a.toNat)) = some (iz (sumI (wcF T a l b r v) (b + 1).toNat)) := by
    refine lp_cf (fun i => (iz (if i = a then r else l + cw T (i - 1) l r v - 1), iz (sumI (wcF T a l b r v) i.toNat))) a (b + 1) _ (by omega) (by omega) (fun i hi hi2 => ?_) ?_
    · rw [un3_mk]
      unfold pX7_countWithin_L10
      have q1 := cw_cut hK hl i r v
      have q2 := cw_cut hK hl (i - 1) r v
      have hJ : l + cw T i l r v - 1 ≤ (if i = a then r else l + cw T (i - 1) l r v - 1) ∧ (if i = a then r else l + cw T (i - 1) l r v - 1) ≤ r := by
        by_cases c : i = a
        · rw [if_pos c]
          omega
        · rw [if_neg c]
          have := cw_dec hK (i := i - 1) (by omega) l r v
          rw [show i - 1 + 1 = i by omega] at this
          omega
      rw [ifz_lt (by omega) (by omega) (by omega) (by omega), if_neg (by omega), pX7_cw_L16 hK h (by omega) (by omega) hl hr hv hv2 hJ.1 hJ.2, bd1_some]
      simp only [iz_1, iz_add, iz_sub]
      rw [show (i + 1).toNat = i.toNat + 1 by omega, sumI_s, show ((i.toNat : Nat) : Int) = i by omega, if_neg (by omega), show i + 1 - 1 = i by omega]
      rw [show wcF T a l b r v i = cw T i l r v by unfold wcF; rw [if_pos (by omega)]]
      rw [show l + cw T i l r v - 1 - l + 1 = cw T i l r v by omega]
    · rw [un3_mk]
      unfold pX7_countWithin_L10
      rw [ifz_lt (by omega) (by omega) (by omega) (by omega), if_pos (by omega)]
  rw [if_pos rfl, sumI_z (f := wcF T a l b r v) (n := a.toNat) (fun k h1 h2 => by unfold wcF; rw [if_neg (by omega)])] at hl'
  unfold pX7_countWithin wc
  rw [iz_0, hl', bd1_some, sumI_tail (f := wcF T a l b r v) (m := (b + 1).toNat) (n := 6) (by omega) (fun k h1 h2 => by unfold wcF; rw [if_neg (by omega)])]
-- the reference's way of counting
theorem pX10_cw_L25 {T : Tb} {g : Nat → Int32} {t : Int} (hS : tS T) (h : tM T t g) (ht : 0 ≤ t) (ht2 : t ≤ 1) {i l w r v s : Int} (h1 : 0 ≤ i) (h2 : i < 6) (hl : 0 ≤ l) (hl2 : l < 6) (hw : 0 < w) (hw2 : w ≤ 6) (hr : r = l + w - 1 ∧ r ≤ 5 ∨ r = 5 ∧ 5 ≤ l + w - 1) (hv : -1000 ≤ v) (hv2 : v ≤ 1000) : lpI lpF (un2 (pX10_countIn_L25 g (iz t) (iz l) (iz w) (iz v) (iz i))) (iz l, iz s) = some (iz (s + cw T i l r v)) := by
  have hb := len_b T i
  have e0 : iz s = iz (s + sumI (cwF T i l r v) l.toNat) := by
    rw [sumI_z (fun k h1 h2 => by unfold cwF; rw [if_neg (by omega)]), Int.add_zero]
  rw [e0]
  obtain ⟨E, hE⟩ : ∃ E : Int, l ≤ E ∧ E ≤ 6 ∧ (len T i ≤ E ∨ l + w ≤ E) ∧ (E = l ∨ E ≤ len T i ∧ E ≤ l + w) := by
    by_cases c1 : len T i ≤ l
    · exact ⟨l, by omega⟩
    · by_cases c2 : len T i ≤ l + w
      · exact ⟨len T i, by omega⟩
      · exact ⟨l + w, by omega⟩
  refine lp_cf (fun j => iz (s + sumI (cwF T i l r v) j.toNat)) l E _ (by omega) (by omega) (fun j hj hj2 => ?_) ?_
  · have hs := len_spec hS i j (by omega)
    have hc : T i j ≠ -1 := hs.2 (by omega)
    have hb2 := hS.1.lo i j
    rw [un2_mk]
    unfold pX10_countIn_L25
    simp only [iz_1, iz_0, iz_add]
    rw [pX10_length_iz hS.1 h ht ht2 (by omega) (by omega), bd1_some, ifz_le (by omega) (by omega) (by omega) (by omega), if_neg (by omega), ifz_le (by omega) (by omega) (by omega) (by omega), if_neg (by omega), pX10_get_iz h ht ht2 hc h1 h2 (by omega) (by omega), bd1_some, ifz_lt (by omega) (by omega) (by omega) (by omega)]
    rw [show (j + 1).toNat = j.toNat + 1 by omega, sumI_s, show ((j.toNat : Nat) : Int) = j by omega]
    have q0 := cwF_01 T i l r v j
    have q1 := cwF_1 T i l r v j
    by_cases c : v < T i j
    · rw [if_pos c, show cwF T i l r v j = 0 by omega, Int.add_zero, Int.add_zero]
    · rw [if_neg c, show cwF T i l r v j = 1 by omega, Int.add_assoc]
  · rw [un2_mk]
    unfold pX10_countIn_L25
    simp only [iz_add]
    have e9 : cw T i l r v = sumI (cwF T i l r v) E.toNat := by
      unfold cw
      refine sumI_tail (by omega) (fun k h6 h7 => ?_)
      have q0 := cwF_01 T i l r v k
      have q1 := cwF_1 T i l r v k
      have hs := len_spec hS i k (by omega)
      omega
    rw [pX10_length_iz hS.1 h ht ht2 (by omega) (by omega), bd1_some, ifz_le (by omega) (by omega) (by omega) (by omega), ifz_le (by omega) (by omega) (by omega) (by omega), e9]
    by_cases c : len T i ≤ E
    · rw [if_pos c]
    · rw [if_neg c, if_pos (by omega)]
theorem pX10_countIn_iz {T : Tb} {g : Nat → Int32} {t : Int} (hS : tS T) (h : tM T t g) (ht : 0 ≤ t) (ht2 : t ≤ 1) {a l hh w b r v : Int} (ha : 0 ≤ a) (ha2 : a < 6) (hl : 0 ≤ l) (hl2 : l < 6) (hh1 : 0 < hh) (hh2 : hh ≤ 6) (hw : 0 < w) (hw2 : w ≤ 6) (hb : b = a + hh - 1 ∧ b ≤ 5 ∨ b = 5 ∧ 5 ≤ a + hh - 1) (hr : r = l + w - 1 ∧ r ≤ 5 ∨ r = 5 ∧ 5 ≤ l + w - 1) (hv : -1000 ≤ v) (hv2 : v ≤ 1000) : pX10_countIn g (iz t) (iz a) (iz l) (iz hh) (iz w) (iz v) = some (iz (wc T a l b r v)) := by
  have hl' : lpI lpF (un2 (pX10_countIn_L6 g (iz t) (iz a) (iz l) (iz hh) (iz w) (iz v))) (iz a, iz (sumI (wcF T a l b r v) a.toNat)) = some (iz (sumI (wcF T a l b r v) (b + 1).toNat)) := by
    refine lp_cf (fun i => iz (sumI (wcF T a l b r v) i.toNat)) a (b + 1) _ (by omega) (by omega) (fun i hi hi2 => ?_) ?_
    · rw [un2_mk]
      unfold pX10_countIn_L6
      simp only [iz_6, iz_1, iz_add]
      rw [ifz_le (by omega) (by omega) (by omega) (by omega), if_neg (by omega), ifz_le (by omega) (by omega) (by omega) (by omega), if_neg (by omega), pX10_cw_L25 hS h ht ht2 (by omega) (by omega) hl hl2 hw hw2 hr hv hv2, bd1_some]
      rw [show (i + 1).toNat = i.toNat + 1 by omega, sumI_s, show ((i.toNat : Nat) : Int) = i by omega]
      rw [show wcF T a l b r v i = cw T i l r v by unfold wcF; rw [if_pos (by omega)]]
    · rw [un2_mk]
      unfold pX10_countIn_L6
      simp only [iz_6, iz_add]
      rw [ifz_le (by omega) (by omega) (by omega) (by omega), ifz_le (by omega) (by omega) (by omega) (by omega)]
      by_cases c : 6 ≤ b + 1
      · rw [if_pos c]
      · rw [if_neg c, if_pos (by omega)]
  rw [sumI_z (f := wcF T a l b r v) (n := a.toNat) (fun k h1 h2 => by unfold wcF; rw [if_neg (by omega)])] at hl'
  unfold pX10_countIn wc
  rw [iz_0, hl', bd1_some, sumI_tail (f := wcF T a l b r v) (m := (b + 1).toNat) (n := 6) (by omega) (fun k h1 h2 => by unfold wcF; rw [if_neg (by omega)])]
-- all cells
def cU (T : Tb) (v : Int) : Int := wc T 0 0 5 5 v
theorem pX7_cellsUpTo_iz {T : Tb} {f : Nat → Int32} (hK : tOK T) (h : tX T f) {v : Int} (hv : -1000 ≤ v) (hv2 : v ≤ 1000) : pX7_cellsUpTo f (iz v) = some (iz (cU T v)) := by
  unfold pX7_cellsUpTo
  simp only [iz_0, iz_5]
  rw [pX7_countWithin_iz hK h (by omega) (by omega) (by omega) (by omega) (by omega) (by omega) hv hv2, bd1_some]
  rfl
theorem pX10_countAll_iz {T : Tb} {g : Nat → Int32} {t : Int} (hS : tS T) (h : tM T t g) (ht : 0 ≤ t) (ht2 : t ≤ 1) {v : Int} (hv : -1000 ≤ v) (hv2 : v ≤ 1000) : pX10_countIn g (iz t) 0 0 6 6 (iz v) = some (iz (cU T v)) := by
  simp only [iz_0, iz_6]
  rw [pX10_countIn_iz hS h ht ht2 (b := 5) (r := 5) (by omega) (by omega) (by omega) (by omega) (by omega) (by omega) (by omega) (by omega) (by omega) (by omega) hv hv2]
  rfl
theorem pX10_upTo_iz {T : Tb} {g : Nat → Int32} {t : Int} (hS : tS T) (h : tM T t g) (ht : 0 ≤ t) (ht2 : t ≤ 1) {v : Int} (hv : -1000 ≤ v) (hv2 : v ≤ 1000) : pX10_upTo g (iz t) (iz v) = some (iz (cU T v)) := by
  unfold pX10_upTo
  rw [pX10_countAll_iz hS h ht ht2 hv hv2, bd1_some]
theorem wc_b {T : Tb} (a l b r v : Int) : 0 ≤ wc T a l b r v ∧ wc T a l b r v ≤ 36 := by
  have h1 : ∀ i, 0 ≤ cw T i l r v ∧ cw T i l r v ≤ 6 := fun i => by
    have h2 := sumI_nn (fun k => (cwF_01 T i l r v k).1) 6
    have h3 := sumI_b (fun k => (cwF_01 T i l r v k).2) 6
    unfold cw
    omega
  have h4 : ∀ i, 0 ≤ wcF T a l b r v i ∧ wcF T a l b r v i ≤ 6 := fun i => by
    have := h1 i
    unfold wcF
    by_cases c : a ≤ i ∧ i ≤ b
    · rw [if_pos c]; omega
    · rw [if_neg c]; omega
  have h2 := sumI_nn (fun k => (h4 k).1) 6
  have h3 := sumI_b (fun k => (h4 k).2) 6
  unfold wc
  omega
theorem ce_mono (T : Tb) {v u : Int} (h : v ≤ u) (i j : Int) : ce T v i j ≤ ce T u i j := by
  unfold ce
  by_cases c : T i j ≠ -1 ∧ T i j ≤ v
  · rw [if_pos c, if_pos (by omega)]; omega
  · rw [if_neg c]
    by_cases c : T i j ≠ -1 ∧ T i j ≤ u
    · rw [if_pos c]; omega
    · rw [if_neg c]; omega
theorem wc_mono (T : Tb) {v u : Int} (h : v ≤ u) (a l b r : Int) : wc T a l b r v ≤ wc T a l b r u := by
  unfold wc
  refine sumI_le (fun k _ _ => ?_)
  unfold wcF
  by_cases c : a ≤ k ∧ k ≤ b
  · rw [if_pos c, if_pos c]
    unfold cw
    refine sumI_le (fun j _ _ => ?_)
    unfold cwF
    by_cases c2 : l ≤ j ∧ j ≤ r
    · rw [if_pos c2, if_pos c2]
      exact ce_mono T h k j
    · rw [if_neg c2, if_neg c2]
      exact Int.le_refl _
  · rw [if_neg c, if_neg c]
    exact Int.le_refl _
