-- the order of the cells
theorem lp_c1 {ρ : Type} {b : Int32 → Option (Int32 ⊕ ρ)} (i0 N : Int) (r : ρ) (hle : i0 ≤ N) (hN : N - i0 < 4000) (h : ∀ i, i0 ≤ i → i < N → b (iz i) = some (.inl (iz (i + 1)))) (he : b (iz N) = some (.inr r)) : lpI lpF b (iz i0) = some r := by
  have e0 : iz i0 = (fun k : Nat => iz (i0 + k)) 0 := by simp
  rw [e0]
  refine lp_tr (fun k : Nat => iz (i0 + k)) (N - i0).toNat r (fun k hk => ?_) ?_ lpF (by unfold lpF; omega)
  · have := h (i0 + k) (by omega) (by omega)
    rw [this]
    rw [show i0 + (k : Int) + 1 = i0 + ((k + 1 : Nat) : Int) by omega]
  · have e1 : i0 + ((N - i0).toNat : Int) = N := by omega
    show b (iz (i0 + ((N - i0).toNat : Int))) = _
    rw [e1]
    exact he
def eqF (T : Tb) (v : Int) : Int → Int := fun p => if T (p / 6) (p % 6) = v then 1 else 0
theorem eqF_01 (T : Tb) (v p : Int) : 0 ≤ eqF T v p ∧ eqF T v p ≤ 1 := by
  unfold eqF
  by_cases c : T (p / 6) (p % 6) = v
  · rw [if_pos c]; omega
  · rw [if_neg c]; omega
theorem eqF_1 (T : Tb) (v p : Int) : eqF T v p = 1 ↔ T (p / 6) (p % 6) = v := by
  unfold eqF
  by_cases c : T (p / 6) (p % 6) = v
  · rw [if_pos c]; simp [c]
  · rw [if_neg c]; simp [c]
theorem cU_36 (T : Tb) (v : Int) : cU T v = sumI (fun p => ce T v (p / 6) (p % 6)) 36 := by
  unfold cU wc
  simp [sumI, wcF, cw, cwF]
  omega
theorem cU_neg {T : Tb} (hB : tB T) {v : Int} (hv : v < 0) : cU T v = 0 := by
  rw [cU_36]
  refine sumI_z (fun k _ _ => ?_)
  unfold ce
  rw [if_neg]
  intro h
  have := hB _ _ h.1
  omega
theorem cU_split {T : Tb} {v : Int} (hv : 0 ≤ v) : cU T v = cU T (v - 1) + sumI (eqF T v) 36 := by
  rw [cU_36, cU_36, ← sumI_add]
  refine sumI_congr (fun p _ _ => ?_)
  have a := ce_01 T v (p / 6) (p % 6)
  have b := ce_01 T (v - 1) (p / 6) (p % 6)
  have c := ce_1 T v (p / 6) (p % 6)
  have d := ce_1 T (v - 1) (p / 6) (p % 6)
  have e := eqF_01 T v p
  have e1 := eqF_1 T v p
  omega
noncomputable def rk (T : Tb) (i j : Int) : Int := cU T (T i j - 1) + sumI (eqF T (T i j)) (6 * i + j).toNat
theorem rk_b {T : Tb} (hB : tB T) {i j : Int} (hc : T i j ≠ -1) : cU T (T i j - 1) ≤ rk T i j ∧ rk T i j < cU T (T i j) := by
  have hb := hB i j hc
  have n1 := sumI_nn (fun k => (eqF_01 T (T i j) k).1) (6 * i + j).toNat
  have n2 := sumI_up (fun k => (eqF_01 T (T i j) k).1) (m := (6 * i + j).toNat + 1) (n := 36) (by omega)
  rw [sumI_s, show (((6 * i + j).toNat : Nat) : Int) = 6 * i + j by omega] at n2
  have n3 := (eqF_1 T (T i j) (6 * i + j)).2 (by rw [show (6 * i + j) / 6 = i by omega, show (6 * i + j) % 6 = j by omega])
  have n4 := cU_split (T := T) (v := T i j) (by omega)
  unfold rk
  omega
theorem eqF_step {T : Tb} (hB : tB T) {v i j a b : Int} (h1 : T i j = v) (h2 : 0 ≤ v) (ha : 0 ≤ a) (hb : 0 ≤ b) (hlt : 6 * i + j < 6 * a + b) : sumI (eqF T v) (6 * i + j).toNat < sumI (eqF T v) (6 * a + b).toNat := by
  have hb := hB i j (by omega)
  have n2 := sumI_up (fun k => (eqF_01 T v k).1) (m := (6 * i + j).toNat + 1) (n := (6 * a + b).toNat) (by omega)
  rw [sumI_s, show (((6 * i + j).toNat : Nat) : Int) = 6 * i + j by omega] at n2
  have n3 := (eqF_1 T v (6 * i + j)).2 (by rw [show (6 * i + j) / 6 = i by omega, show (6 * i + j) % 6 = j by omega]; exact h1)
  omega
theorem rk_inj {T : Tb} (hB : tB T) {i j a b : Int} (h1 : T i j ≠ -1) (h2 : T a b ≠ -1) (h : rk T i j = rk T a b) : i = a ∧ j = b := by
  have p := rk_b hB h1
  have q := rk_b hB h2
  have b1 := hB i j h1
  have b2 := hB a b h2
  have e : T i j = T a b := by
    by_cases c : T i j < T a b
    · have := cU_mono T (show T i j ≤ T a b - 1 by omega)
      omega
    · by_cases c2 : T a b < T i j
      · have := cU_mono T (show T a b ≤ T i j - 1 by omega)
        omega
      · omega
  by_cases c : 6 * i + j < 6 * a + b
  · have := eqF_step hB e (by omega) (by omega) (by omega) c
    unfold rk at h
    rw [e] at h
    omega
  · by_cases c2 : 6 * a + b < 6 * i + j
    · have := eqF_step hB rfl (show 0 ≤ T a b by omega) (by omega) (by omega) c2
      unfold rk at h
      rw [e] at h
      omega
    · omega
theorem kmin_low {T : Tb} (hB : tB T) {k m : Int} (hk : 0 ≤ k) (h : isMin (fun v => wc T 0 0 5 5 v) k m) : cU T (m - 1) ≤ k ∧ k < cU T m := by
  refine ⟨?_, h.2.1⟩
  by_cases c : m = 0
  · rw [cU_neg hB (by omega)]
    exact hk
  · exact h.2.2 (m - 1) (by have := h.1; omega) (by omega)
theorem rk_min {T : Tb} (hB : tB T) {k m i j : Int} (hk : 0 ≤ k) (h : isMin (fun v => wc T 0 0 5 5 v) k m) (hc : T i j ≠ -1) (hr : rk T i j = k) : T i j = m ∧ sumI (eqF T m) (6 * i + j).toNat = k - cU T (m - 1) := by
  have p := kmin_low hB hk h
  have q := rk_b hB hc
  have e : T i j = m := by
    by_cases c : T i j < m
    · have := cU_mono T (show T i j ≤ m - 1 by omega)
      omega
    · by_cases c2 : m < T i j
      · have := cU_mono T (show m ≤ T i j - 1 by omega)
        omega
      · omega
  refine ⟨e, ?_⟩
  unfold rk at hr
  rw [e] at hr
  omega
theorem rk_ex {T : Tb} (hB : tB T) {k : Int} (hk : 0 ≤ k) {m : Int} (h : isMin (fun v => wc T 0 0 5 5 v) k m) : ∃ i j, T i j ≠ -1 ∧ rk T i j = k := by
  have p := kmin_low hB hk h
  have s := cU_split (T := T) h.1
  obtain ⟨P, q1, q2, q3, q4⟩ := sumI_ex (eqF_01 T m) 36 (k - cU T (m - 1)) (by omega) (by omega)
  have e := (eqF_1 T m P).1 q3
  have h0 := h.1
  refine ⟨P / 6, P % 6, by omega, ?_⟩
  unfold rk
  rw [e, show 6 * (P / 6) + P % 6 = P by omega, q4]
  omega
-- the class's rank
theorem pX7_cb_L49 {T : Tb} {f : Nat → Int32} (hK : tOK T) (h : tX T f) {v i e c : Int} (hv : 0 ≤ v) (hv2 : v ≤ 100) (h1 : 0 ≤ i) (h2 : i < 6) (he : 0 ≤ e) (he2 : e ≤ 6) : lpI lpF (un2 (pX7_cellsBefore_L49 f (iz v) (iz i) (iz e))) (iz 0, iz (c + sumI (eqF T v) (6 * i).toNat)) = some (iz (c + sumI (eqF T v) (6 * i + e).toNat)) := by
  have e0 : iz (c + sumI (eqF T v) (6 * i).toNat) = iz (c + sumI (eqF T v) (6 * i + 0).toNat) := by rw [Int.add_zero]
  rw [e0]
  refine lp_cf (fun j => iz (c + sumI (eqF T v) (6 * i + j).toNat)) 0 e _ (by omega) (by omega) (fun j hj hj2 => ?_) ?_
  · have hb := hK.b.lo i j
    rw [un2_mk]
    unfold pX7_cellsBefore_L49
    simp only [iz_1, iz_add]
    rw [ifz_le (by omega) (by omega) (by omega) (by omega), if_neg (by omega), pX7_at_iz hK.b h (by omega) (by omega) (by omega) (by omega), bd1_some, ifz_eq (by omega) (by omega) (by omega) (by omega)]
    rw [show (6 * i + (j + 1)).toNat = (6 * i + j).toNat + 1 by omega, sumI_s, show (((6 * i + j).toNat : Nat) : Int) = 6 * i + j by omega]
    have q1 := eqF_1 T v (6 * i + j)
    have q0 := eqF_01 T v (6 * i + j)
    rw [show (6 * i + j) / 6 = i by omega, show (6 * i + j) % 6 = j by omega] at q1
    by_cases c : T i j = v
    · rw [if_pos c, show eqF T v (6 * i + j) = 1 by omega, Int.add_assoc]
    · rw [if_neg c, show eqF T v (6 * i + j) = 0 by omega, Int.add_zero]
  · rw [un2_mk]
    unfold pX7_cellsBefore_L49
    rw [ifz_le (by omega) (by omega) (by omega) (by omega), if_pos (by omega)]
theorem pX7_cellsBefore_iz {T : Tb} {f : Nat → Int32} (hK : tOK T) (h : tX T f) {i j : Int} (hc : T i j ≠ -1) : pX7_cellsBefore f (iz i) (iz j) = some (iz (rk T i j)) := by
  have hb := hK.b i j hc
  unfold pX7_cellsBefore
  rw [pX7_at_iz hK.b h (by omega) (by omega) (by omega) (by omega), bd1_some]
  simp only [iz_1, iz_sub, iz_0]
  rw [pX7_cellsUpTo_iz hK h (by omega) (by omega), bd1_some]
  have hl : lpI lpF (un2 (pX7_cellsBefore_L19 f (iz i) (iz j) (iz (T i j)))) (iz 0, iz (cU T (T i j - 1) + sumI (eqF T (T i j)) (if (0 : Int) ≤ i then 6 * 0 else 6 * i + j).toNat)) = some (iz (rk T i j)) := by
    refine lp_cf (fun a => iz (cU T (T i j - 1) + sumI (eqF T (T i j)) (if a ≤ i then 6 * a else 6 * i + j).toNat)) 0 (i + 1) _ (by omega) (by omega) (fun a ha ha2 => ?_) ?_
    · rw [un2_mk]
      unfold pX7_cellsBefore_L19
      simp only [iz_6, iz_1, iz_0, iz_add]
      rw [ifz_lt (by omega) (by omega) (by omega) (by omega), if_neg (by omega), ifz_le (by omega) (by omega) (by omega) (by omega), if_neg (by omega), ifz_le (by omega) (by omega) (by omega) (by omega), if_pos (show a ≤ i by omega)]
      by_cases c : i ≤ a
      · rw [if_pos c, bd1_some, pX7_cb_L49 hK h (by omega) (by omega) (by omega) (by omega) (by omega) (by omega), bd1_some, if_neg (by omega), show a = i by omega]
      · rw [if_neg c, bd1_some, pX7_cb_L49 hK h (by omega) (by omega) (by omega) (by omega) (by omega) (by omega), bd1_some, if_pos (by omega), show 6 * (a + 1) = 6 * a + 6 by omega]
    · rw [un2_mk]
      unfold pX7_cellsBefore_L19
      rw [ifz_lt (by omega) (by omega) (by omega) (by omega), if_pos (by omega), if_neg (by omega)]
      rfl
  rw [if_pos (by omega)] at hl
  simp only [Int.mul_zero, show (0 : Int).toNat = 0 from rfl, sumI_0, Int.add_zero] at hl
  rw [hl, bd1_some]
-- the reference's rank
def rkF (T : Tb) (v N : Int) : Int → Int := fun p => if T (p / 6) (p % 6) ≠ -1 ∧ (T (p / 6) (p % 6) < v ∨ T (p / 6) (p % 6) = v ∧ p < N) then 1 else 0
theorem rkF_sum {T : Tb} (v N : Int) (hv : 0 ≤ v) (hN : 0 ≤ N) (hN2 : N ≤ 36) : sumI (rkF T v N) 36 = cU T (v - 1) + sumI (eqF T v) N.toNat := by
  have e1 : sumI (eqF T v) N.toNat = sumI (fun p => if p < N then eqF T v p else 0) 36 := by
    have a : sumI (fun p => if p < N then eqF T v p else 0) 36 = sumI (fun p => if p < N then eqF T v p else 0) N.toNat := by
      refine sumI_tail (by omega) (fun k q1 q2 => ?_)
      show (if k < N then eqF T v k else 0) = 0
      rw [if_neg (by omega)]
    rw [a]
    refine sumI_congr (fun k q1 q2 => ?_)
    show _ = (if k < N then eqF T v k else 0)
    rw [if_pos (by omega)]
  rw [e1, cU_36, ← sumI_add]
  refine sumI_congr (fun p _ _ => ?_)
  show rkF T v N p = ce T (v - 1) (p / 6) (p % 6) + (if p < N then eqF T v p else 0)
  unfold rkF ce eqF
  by_cases c1 : T (p / 6) (p % 6) ≠ -1 ∧ T (p / 6) (p % 6) ≤ v - 1
  · rw [if_pos c1, if_pos (by omega)]
    by_cases c2 : p < N
    · rw [if_pos c2, if_neg (by omega)]; rfl
    · rw [if_neg c2]; rfl
  · rw [if_neg c1]
    by_cases c2 : p < N
    · rw [if_pos c2]
      by_cases c3 : T (p / 6) (p % 6) = v
      · rw [if_pos c3, if_pos (by omega)]; rfl
      · rw [if_neg c3, if_neg (by omega)]; rfl
    · rw [if_neg c2, if_neg (by omega)]; rfl
theorem pX10_rk_L25 {T : Tb} {g : Nat → Int32} {t : Int} (hS : tS T) (h : tM T t g) (ht : 0 ≤ t) (ht2 : t ≤ 1) {v i j a : Int} (hv : 0 ≤ v) (hv2 : v ≤ 100) (hi : 0 ≤ i) (hi2 : i < 6) (hj : 0 ≤ j) (hj2 : j < 6) (h1 : 0 ≤ a) (h2 : a < 6) : lpI lpF (un2 (pX10_rankOf_L25 g (iz t) (iz i) (iz j) (iz v) (iz a))) (iz 0, iz (sumI (rkF T v (6 * i + j)) (6 * a).toNat)) = some (iz (sumI (rkF T v (6 * i + j)) (6 * a + 6).toNat)) := by
  have hb := len_b T a
  have e0 : iz (sumI (rkF T v (6 * i + j)) (6 * a).toNat) = iz (sumI (rkF T v (6 * i + j)) (6 * a + 0).toNat) := by rw [Int.add_zero]
  rw [e0]
  refine lp_cf (fun b => iz (sumI (rkF T v (6 * i + j)) (6 * a + b).toNat)) 0 (len T a) _ (by omega) (by omega) (fun b hb1 hb2 => ?_) ?_
  · have hs := len_spec hS a b hb1
    have hc : T a b ≠ -1 := hs.2 hb2
    have hl := hS.1.lo a b
    rw [un2_mk]
    unfold pX10_rankOf_L25
    simp only [iz_1, iz_0, iz_10, iz_add, iz_mul]
    rw [pX10_length_iz hS.1 h ht ht2 (by omega) (by omega), bd1_some, ifz_le (by omega) (by omega) (by omega) (by omega), if_neg (by omega), pX10_get_iz h ht ht2 hc h1 h2 hb1 (by omega), bd1_some, ifz_lt (by omega) (by omega) (by omega) (by omega), ifz_eq (by omega) (by omega) (by omega) (by omega), ifz_le (by omega) (by omega) (by omega) (by omega)]
    rw [show (6 * a + (b + 1)).toNat = (6 * a + b).toNat + 1 by omega, sumI_s, show (((6 * a + b).toNat : Nat) : Int) = 6 * a + b by omega]
    unfold rkF
    rw [show (6 * a + b) / 6 = a by omega, show (6 * a + b) % 6 = b by omega]
    by_cases c1 : T a b < v
    · rw [if_pos c1, if_pos (show T a b ≠ -1 ∧ (T a b < v ∨ T a b = v ∧ 6 * a + b < 6 * i + j) by omega)]
    · rw [if_neg c1]
      by_cases c2 : T a b = v
      · rw [if_pos c2]
        by_cases c3 : 10 * i + j ≤ 10 * a + b
        · rw [if_pos c3, if_neg (show ¬ (T a b ≠ -1 ∧ (T a b < v ∨ T a b = v ∧ 6 * a + b < 6 * i + j)) by omega)]
        · rw [if_neg c3, if_pos (show T a b ≠ -1 ∧ (T a b < v ∨ T a b = v ∧ 6 * a + b < 6 * i + j) by omega)]
      · rw [if_neg c2, if_neg (show ¬ (T a b ≠ -1 ∧ (T a b < v ∨ T a b = v ∧ 6 * a + b < 6 * i + j)) by omega)]
  · rw [un2_mk]
    unfold pX10_rankOf_L25
    rw [pX10_length_iz hS.1 h ht ht2 (by omega) (by omega), bd1_some, ifz_le (by omega) (by omega) (by omega) (by omega), if_pos (by omega)]
    rw [sumI_tail (f := rkF T v (6 * i + j)) (m := (6 * a + len T a).toNat) (n := (6 * a + 6).toNat) (by omega) (fun k q1 q2 => by
      have := len_spec hS (k / 6) (k % 6) (by omega)
      rw [show k / 6 = a by omega] at this
      unfold rkF
      rw [show k / 6 = a by omega, if_neg (by omega)])]
theorem pX10_rankOf_iz {T : Tb} {g : Nat → Int32} {t : Int} (hS : tS T) (h : tM T t g) (ht : 0 ≤ t) (ht2 : t ≤ 1) {i j : Int} (hc : T i j ≠ -1) : pX10_rankOf g (iz t) (iz i) (iz j) = some (iz (rk T i j)) := by
  have hb := hS.1 i j hc
  unfold pX10_rankOf
  rw [pX10_get_iz h ht ht2 hc (by omega) (by omega) (by omega) (by omega), bd1_some]
  simp only [iz_0]
  have hl : lpI lpF (un2 (pX10_rankOf_L15 g (iz t) (iz i) (iz j) (iz (T i j)))) (iz 0, iz (sumI (rkF T (T i j) (6 * i + j)) (6 * (0 : Int)).toNat)) = some (iz (sumI (rkF T (T i j) (6 * i + j)) 36)) := by
    refine lp_cf (fun a => iz (sumI (rkF T (T i j) (6 * i + j)) (6 * a).toNat)) 0 6 _ (by omega) (by omega) (fun a ha ha2 => ?_) ?_
    · rw [un2_mk]
      unfold pX10_rankOf_L15
      simp only [iz_6, iz_1, iz_0, iz_add]
      rw [ifz_le (by omega) (by omega) (by omega) (by omega), if_neg (by omega), pX10_rk_L25 hS h ht ht2 (by omega) (by omega) (by omega) (by omega) (by omega) (by omega) ha ha2, bd1_some, show 6 * (a + 1) = 6 * a + 6 by omega]
    · rw [un2_mk]
      unfold pX10_rankOf_L15
      simp only [iz_6]
      rw [ifz_le (by omega) (by omega) (by omega) (by omega), if_pos (by omega)]
      rfl
  simp only [Int.mul_zero, show (0 : Int).toNat = 0 from rfl, sumI_0] at hl
  rw [hl, bd1_some, rkF_sum _ _ (by omega) (by omega) (by omega)]
  rfl
-- the k-th cell in the reference
theorem pX10_kp_L11_no {T : Tb} {g : Nat → Int32} {t : Int} (hS : tS T) (h : tM T t g) (ht : 0 ≤ t) (ht2 : t ≤ 1) {i k : Int} (h1 : 0 ≤ i) (h2 : i < 6) (hk : sm32 k) (hn : ∀ j, T i j ≠ -1 → rk T i j ≠ k) : lpI lpF (pX10_kthPlace_L11 g (iz t) (iz k) (iz i)) (iz 0) = some (.inr ()) := by
  have hb := len_b T i
  refine lp_c1 0 (len T i) _ (by omega) (by omega) (fun j hj hj2 => ?_) ?_
  · have hs := len_spec hS i j hj
    have hc : T i j ≠ -1 := hs.2 hj2
    have r1 := rk_b hS.1 hc
    have r2 := cU_b T (T i j - 1)
    have r3 := cU_b T (T i j)
    unfold pX10_kthPlace_L11
    simp only [iz_1, iz_add]
    rw [pX10_length_iz hS.1 h ht ht2 (by omega) (by omega), bd1_some, ifz_le (by omega) (by omega) (by omega) (by omega), if_neg (by omega), pX10_rankOf_iz hS h ht ht2 hc, bd1_some, ifz_eq (by omega) (by omega) hk.1 hk.2, if_neg (hn j hc)]
  · unfold pX10_kthPlace_L11
    rw [pX10_length_iz hS.1 h ht ht2 (by omega) (by omega), bd1_some, ifz_le (by omega) (by omega) (by omega) (by omega), if_pos (by omega)]
theorem pX10_kp_L11_yes {T : Tb} {g : Nat → Int32} {t : Int} (hS : tS T) (h : tM T t g) (ht : 0 ≤ t) (ht2 : t ≤ 1) {i j k : Int} (hk : sm32 k) (hc : T i j ≠ -1) (hr : rk T i j = k) : lpI lpF (pX10_kthPlace_L11 g (iz t) (iz k) (iz i)) (iz 0) = some (.inl (iz (10 * i + j))) := by
  have hb := len_b T i
  have b := hS.1 i j hc
  have hs := len_spec hS i j (by omega)
  refine lp_c1 0 j _ (by omega) (by omega) (fun a hj hj2 => ?_) ?_
  · have hs' := len_spec hS i a hj
    have hc' : T i a ≠ -1 := hs'.2 (by omega)
    have r1 := rk_b hS.1 hc'
    have r2 := cU_b T (T i a - 1)
    have r3 := cU_b T (T i a)
    have hn : rk T i a ≠ k := fun q => by
      have := rk_inj hS.1 hc' hc (by omega)
      omega
    unfold pX10_kthPlace_L11
    simp only [iz_1, iz_add]
    rw [pX10_length_iz hS.1 h ht ht2 (by omega) (by omega), bd1_some, ifz_le (by omega) (by omega) (by omega) (by omega), if_neg (by omega), pX10_rankOf_iz hS h ht ht2 hc', bd1_some, ifz_eq (by omega) (by omega) hk.1 hk.2, if_neg hn]
  · have r1 := rk_b hS.1 hc
    have r2 := cU_b T (T i j - 1)
    have r3 := cU_b T (T i j)
    unfold pX10_kthPlace_L11
    simp only [iz_10, iz_mul, iz_add]
    rw [pX10_length_iz hS.1 h ht ht2 (by omega) (by omega), bd1_some, ifz_le (by omega) (by omega) (by omega) (by omega), if_neg (by omega), pX10_rankOf_iz hS h ht ht2 hc, bd1_some, ifz_eq (by omega) (by omega) hk.1 hk.2, if_pos hr]
theorem pX10_kthPlace_yes {T : Tb} {g : Nat → Int32} {t : Int} (hS : tS T) (h : tM T t g) (ht : 0 ≤ t) (ht2 : t ≤ 1) {i j k : Int} (hk : sm32 k) (hc : T i j ≠ -1) (hr : rk T i j = k) : pX10_kthPlace g (iz t) (iz k) = some (iz (10 * i + j)) := by
  have b := hS.1 i j hc
  have hl : lpI lpF (pX10_kthPlace_L2 g (iz t) (iz k)) (iz 0) = some (.inl (iz (10 * i + j))) := by
    refine lp_c1 0 i _ (by omega) (by omega) (fun a ha ha2 => ?_) ?_
    · unfold pX10_kthPlace_L2
      simp only [iz_6, iz_0]
      rw [ifz_le (by omega) (by omega) (by omega) (by omega), if_neg (by omega), pX10_kp_L11_no hS h ht ht2 ha (by omega) hk (fun c hc' q => by
        have := rk_inj hS.1 hc' hc (by omega)
        omega), bd1_some, el_inr]
      unfold pX10_kthPlace_R48
      simp only [iz_1, iz_add]
    · unfold pX10_kthPlace_L2
      simp only [iz_6, iz_0]
      rw [ifz_le (by omega) (by omega) (by omega) (by omega), if_neg (by omega), pX10_kp_L11_yes hS h ht ht2 hk hc hr, bd1_some, el_inl]
  unfold pX10_kthPlace
  rw [iz_0, hl, bd1_some, el_inl]
theorem pX10_kthPlace_no {T : Tb} {g : Nat → Int32} {t : Int} (hS : tS T) (h : tM T t g) (ht : 0 ≤ t) (ht2 : t ≤ 1) {k : Int} (hk : sm32 k) (hk2 : cU T 99 ≤ k) (hK : tOK T) : pX10_kthPlace g (iz t) (iz k) = some (iz (-9)) := by
  have hl : lpI lpF (pX10_kthPlace_L2 g (iz t) (iz k)) (iz 0) = some (.inr ()) := by
    refine lp_c1 0 6 _ (by omega) (by omega) (fun a ha ha2 => ?_) ?_
    · unfold pX10_kthPlace_L2
      simp only [iz_6, iz_0]
      rw [ifz_le (by omega) (by omega) (by omega) (by omega), if_neg (by omega), pX10_kp_L11_no hS h ht ht2 ha (by omega) hk (fun c hc' q => by
        have := rk_b hS.1 hc'
        have q2 := hK.1 a c hc'
        have := cU_mono T (show T a c ≤ 99 by omega)
        omega), bd1_some, el_inr]
      unfold pX10_kthPlace_R48
      simp only [iz_1, iz_add]
    · unfold pX10_kthPlace_L2
      simp only [iz_6]
      rw [ifz_le (by omega) (by omega) (by omega) (by omega), if_pos (by omega)]
  unfold pX10_kthPlace
  rw [iz_0, hl, bd1_some, el_inr]
  unfold pX10_kthPlace_R54
  simp only [iz_9, iz_neg]
-- the k-th cell in the class
theorem pX7_kp_L38_no {T : Tb} {f : Nat → Int32} (hK : tOK T) (h : tX T f) {m e i : Int} (hm : 0 ≤ m) (hm2 : m ≤ 200) (h1 : 0 ≤ i) (h2 : i < 6) (he : sumI (eqF T m) (6 * i + 6).toNat ≤ e) (he2 : e ≤ 100) : lpI lpF (un2 (pX7_kthPlace_L38 f (iz m) (iz i))) (iz 0, iz (e - sumI (eqF T m) (6 * i).toNat)) = some (.inr (iz (e - sumI (eqF T m) (6 * i + 6).toNat))) := by
  have e0 : iz (e - sumI (eqF T m) (6 * i).toNat) = iz (e - sumI (eqF T m) (6 * i + 0).toNat) := by rw [Int.add_zero]
  rw [e0]
  refine lp_cf (fun j => iz (e - sumI (eqF T m) (6 * i + j).toNat)) 0 6 _ (by omega) (by omega) (fun j hj hj2 => ?_) ?_
  · have hb := hK.b.lo i j
    have n1 := sumI_nn (fun k => (eqF_01 T m k).1) (6 * i + j).toNat
    have n2 := sumI_up (fun k => (eqF_01 T m k).1) (m := (6 * i + j).toNat + 1) (n := (6 * i + 6).toNat) (by omega)
    rw [sumI_s, show (((6 * i + j).toNat : Nat) : Int) = 6 * i + j by omega] at n2
    have q1 := eqF_1 T m (6 * i + j)
    have q0 := eqF_01 T m (6 * i + j)
    rw [show (6 * i + j) / 6 = i by omega, show (6 * i + j) % 6 = j by omega] at q1
    rw [un2_mk]
    unfold pX7_kthPlace_L38
    simp only [iz_6, iz_1, iz_0, iz_neg, iz_add]
    rw [ifz_le (by omega) (by omega) (by omega) (by omega), if_neg (by omega), pX7_at_iz hK.b h (by omega) (by omega) (by omega) (by omega), bd1_some, ifz_eq (by omega) (by omega) (by omega) (by omega)]
    rw [show (6 * i + (j + 1)).toNat = (6 * i + j).toNat + 1 by omega, sumI_s, show (((6 * i + j).toNat : Nat) : Int) = 6 * i + j by omega]
    by_cases c : T i j = m
    · rw [if_pos c, ifz_eq (by omega) (by omega) (by omega) (by omega), if_neg (by omega), show e - sumI (eqF T m) (6 * i + j).toNat + -1 = e - (sumI (eqF T m) (6 * i + j).toNat + eqF T m (6 * i + j)) by omega]
    · rw [if_neg c, show eqF T m (6 * i + j) = 0 by omega, Int.add_zero]
  · rw [un2_mk]
    unfold pX7_kthPlace_L38
    simp only [iz_6]
    rw [ifz_le (by omega) (by omega) (by omega) (by omega), if_pos (by omega)]
theorem pX7_kp_L38_yes {T : Tb} {f : Nat → Int32} (hK : tOK T) (h : tX T f) {m e i j : Int} (hm : 0 ≤ m) (hm2 : m ≤ 200) (hT : T i j = m) (he : sumI (eqF T m) (6 * i + j).toNat = e) (he2 : e ≤ 100) : lpI lpF (un2 (pX7_kthPlace_L38 f (iz m) (iz i))) (iz 0, iz (e - sumI (eqF T m) (6 * i).toNat)) = some (.inl (iz (10 * i + j))) := by
  have hij := hK.b i j (by omega)
  have e0 : iz (e - sumI (eqF T m) (6 * i).toNat) = iz (e - sumI (eqF T m) (6 * i + 0).toNat) := by rw [Int.add_zero]
  rw [e0]
  refine lp_cf (fun j => iz (e - sumI (eqF T m) (6 * i + j).toNat)) 0 j _ (by omega) (by omega) (fun a hj hj2 => ?_) ?_
  · have hb := hK.b.lo i a
    have n1 := sumI_nn (fun k => (eqF_01 T m k).1) (6 * i + a).toNat
    have n2 := sumI_up (fun k => (eqF_01 T m k).1) (m := (6 * i + a).toNat + 1) (n := (6 * i + j).toNat) (by omega)
    rw [sumI_s, show (((6 * i + a).toNat : Nat) : Int) = 6 * i + a by omega] at n2
    have q1 := eqF_1 T m (6 * i + a)
    have q0 := eqF_01 T m (6 * i + a)
    rw [show (6 * i + a) / 6 = i by omega, show (6 * i + a) % 6 = a by omega] at q1
    rw [un2_mk]
    unfold pX7_kthPlace_L38
    simp only [iz_6, iz_1, iz_0, iz_neg, iz_add]
    rw [ifz_le (by omega) (by omega) (by omega) (by omega), if_neg (by omega), pX7_at_iz hK.b h (by omega) (by omega) (by omega) (by omega), bd1_some, ifz_eq (by omega) (by omega) (by omega) (by omega)]
    rw [show (6 * i + (a + 1)).toNat = (6 * i + a).toNat + 1 by omega, sumI_s, show (((6 * i + a).toNat : Nat) : Int) = 6 * i + a by omega]
    by_cases c : T i a = m
    · rw [if_pos c, ifz_eq (by omega) (by omega) (by omega) (by omega), if_neg (by omega), show e - sumI (eqF T m) (6 * i + a).toNat + -1 = e - (sumI (eqF T m) (6 * i + a).toNat + eqF T m (6 * i + a)) by omega]
    · rw [if_neg c, show eqF T m (6 * i + a) = 0 by omega, Int.add_zero]
  · rw [un2_mk]
    unfold pX7_kthPlace_L38
    simp only [iz_6, iz_0]
    rw [ifz_le (by omega) (by omega) (by omega) (by omega), if_neg (by omega), pX7_at_iz hK.b h (by omega) (by omega) (by omega) (by omega), bd1_some, ifz_eq (by omega) (by omega) (by omega) (by omega), if_pos hT, he, show e - e = 0 by omega, if_pos rfl, pX9_placeOf_iz, bd1_some]
theorem pX7_kthNumber_iz {T : Tb} {f : Nat → Int32} (hK : tOK T) (h : tX T f) {k : Int} (hk : 0 ≤ k) (hk2 : k < 2147483648) : ∃ m, pX7_kthNumber f (iz k) = some (iz m) ∧ kMin (fun v => wc T 0 0 5 5 v) 99 k m := by
  obtain ⟨m, h1, h2⟩ := pX7_kthWithin_iz hK h (a := 0) (l := 0) (b := 5) (r := 5) (by omega) (by omega) (by omega) (by omega) (by omega) (by omega) hk hk2
  refine ⟨m, ?_, h2⟩
  unfold pX7_kthNumber
  simp only [iz_0, iz_5]
  rw [h1, bd1_some]
theorem pX7_kthPlace_no {T : Tb} {f : Nat → Int32} (hK : tOK T) (h : tX T f) {k : Int} (hk : 0 ≤ k) (hk2 : k < 2147483648) (hn : cU T 99 ≤ k) : pX7_kthPlace f (iz k) = some (iz (-9)) ∧ pX7_kthNumber f (iz k) = some (iz (-9)) := by
  obtain ⟨m, h1, h2⟩ := pX7_kthNumber_iz hK h hk hk2
  have e : m = -9 := by
    rcases h2 with ⟨q, -⟩ | ⟨-, q⟩
    · have q2 : k < cU T 99 := q
      omega
    · exact q
  rw [e] at h1
  refine ⟨?_, h1⟩
  unfold pX7_kthPlace
  rw [h1, bd1_some]
  simp only [iz_9, iz_neg]
  rw [if_pos trivial]
theorem pX7_kthPlace_yes {T : Tb} {f : Nat → Int32} (hK : tOK T) (h : tX T f) {k i j : Int} (hk : 0 ≤ k) (hk2 : k < 2147483648) (hc : T i j ≠ -1) (hr : rk T i j = k) : pX7_kthPlace f (iz k) = some (iz (10 * i + j)) ∧ pX7_kthNumber f (iz k) = some (iz (T i j)) := by
  obtain ⟨m, h1, h2⟩ := pX7_kthNumber_iz hK h hk hk2
  have r1 := rk_b hK.b hc
  have r2 := hK.1 i j hc
  have r3 := cU_mono T (show T i j ≤ 99 by omega)
  have hm : isMin (fun v => wc T 0 0 5 5 v) k m := by
    rcases h2 with ⟨-, q, -⟩ | ⟨q, -⟩
    · exact q
    · have q2 : cU T 99 ≤ k := q
      omega
  obtain ⟨e1, e2⟩ := rk_min hK.b hk hm hc hr
  have w := cU_b T (m - 1)
  have w2 := cU_b T (T i j)
  have hm0 := hm.1
  rw [e1]
  refine ⟨?_, h1⟩
  have hl : lpI lpF (un2 (pX7_kthPlace_L28 f (iz m))) (iz 0, iz (k - cU T (m - 1) - sumI (eqF T m) (6 * (0 : Int)).toNat)) = some (.inl (iz (10 * i + j))) := by
    refine lp_cf (fun a => iz (k - cU T (m - 1) - sumI (eqF T m) (6 * a).toNat)) 0 i _ (by omega) (by omega) (fun a ha ha2 => ?_) ?_
    · have n2 := sumI_up (fun k => (eqF_01 T m k).1) (m := (6 * a + 6).toNat) (n := (6 * i + j).toNat) (by omega)
      rw [un2_mk]
      unfold pX7_kthPlace_L28
      simp only [iz_6, iz_0]
      rw [ifz_le (by omega) (by omega) (by omega) (by omega), if_neg (by omega), pX7_kp_L38_no hK h (by omega) (by omega) ha (by omega) (by omega) (by omega), bd1_some, el_inr]
      unfold pX7_kthPlace_R78
      simp only [iz_1, iz_add]
      rw [show 6 * (a + 1) = 6 * a + 6 by omega]
    · rw [un2_mk]
      unfold pX7_kthPlace_L28
      simp only [iz_6, iz_0]
      rw [ifz_le (by omega) (by omega) (by omega) (by omega), if_neg (by omega), pX7_kp_L38_yes hK h (by omega) (by omega) e1 e2 (by omega), bd1_some, el_inl]
  simp only [Int.mul_zero, show (0 : Int).toNat = 0 from rfl, sumI_0, Int.sub_zero] at hl
  unfold pX7_kthPlace
  rw [h1, bd1_some]
  simp only [iz_9, iz_neg, iz_1, iz_0, iz_sub]
  rw [ifz_eq (by omega) (by omega) (by omega) (by omega), if_neg (by omega), pX7_cellsUpTo_iz hK h (by omega) (by omega), bd1_some]
  simp only [iz_sub]
  rw [hl, bd1_some, el_inl]
theorem cU_cnt {T : Tb} (hK : tOK T) : cU T 99 = cnt T := by
  have e : ∀ i j, ce T 99 i j = ex T i j := fun i j => by
    unfold ce ex
    by_cases c : T i j = -1
    · rw [if_neg (by omega), if_pos c]
    · have := hK.1 i j c
      rw [if_pos (by omega), if_neg c]
  rw [cU_36]
  simp only [e]
  unfold cnt len
  simp [sumI]
  omega
