theorem lpI_c {σ ρ : Type} {m : Nat} {b : σ → Option (σ ⊕ ρ)} {s s' : σ} (h : b s = some (.inl s')) : lpI (m + 1) b s = lpI m b s' := by rw [lpI, h]
theorem lpI_x {σ ρ : Type} {m : Nat} {b : σ → Option (σ ⊕ ρ)} {s : σ} {r : ρ} (h : b s = some (.inr r)) : lpI (m + 1) b s = some r := by rw [lpI, h]
theorem iz1_ne : ¬ iz 1 = iz 0 := by decide
theorem ex_set {T : Tb} {i j v : Int} (hc : T i j ≠ -1) (hv : v ≠ -1) (a b : Int) : ex (tset T i j v) a b = ex T a b := by
  unfold ex
  by_cases c : a = i ∧ b = j
  · obtain ⟨rfl, rfl⟩ := c
    rw [tset_at, if_neg hv, if_neg hc]
  · rw [tset_ne _ _ _ _ (by omega)]
theorem len_set {T : Tb} {i j v : Int} (hc : T i j ≠ -1) (hv : v ≠ -1) (a : Int) : len (tset T i j v) a = len T a := by
  unfold len
  exact sumI_congr (fun k _ _ => ex_set hc hv a k)
theorem tM.set {T : Tb} {t : Int} {g : Nat → Int32} (h : tM T t g) (hB : tB T) (ht : 0 ≤ t) {i j v : Int} (hc : T i j ≠ -1) (hv : v ≠ -1) : tM (tset T i j v) t (upd g (42 * t + 6 * i + j).toNat (iz v)) := by
  have hb := hB i j hc
  refine ⟨fun a h1 h2 => ?_, fun a b hab => ?_⟩
  · unfold upd
    rw [if_neg (by omega), h.1 a h1 h2, len_set hc hv]
  · unfold upd
    by_cases c : a = i ∧ b = j
    · obtain ⟨rfl, rfl⟩ := c
      rw [if_pos rfl, tset_at]
    · rw [tset_ne _ _ _ _ (by omega)] at hab ⊢
      have hb2 := hB a b hab
      rw [if_neg (by omega), h.2 a b hab]
theorem tM.other {T : Tb} {t : Int} {g : Nat → Int32} (h : tM T t g) (hB : tB T) (ht : 0 ≤ t) {k : Nat} {x : Int32} (hk : (k : Int) < 42 * t ∨ 42 * t + 42 ≤ k) : tM T t (upd g k x) := by
  refine ⟨fun a h1 h2 => ?_, fun a b hab => ?_⟩
  · unfold upd
    rw [if_neg (by omega), h.1 a h1 h2]
  · have hb := hB a b hab
    unfold upd
    rw [if_neg (by omega), h.2 a b hab]
theorem tS.set {T : Tb} (h : tS T) {i j v : Int} (hc : T i j ≠ -1) (hv : 0 ≤ v) (hv2 : v ≤ 100) : tS (tset T i j v) := by
  have hb := h.1 i j hc
  refine ⟨h.1.set (by omega) (by omega) (by omega) (by omega) hv hv2, fun a b hab => ?_⟩
  have e : ∀ a b, tset T i j v a b ≠ -1 ↔ T a b ≠ -1 := by
    intro a b
    by_cases c : a = i ∧ b = j
    · obtain ⟨rfl, rfl⟩ := c
      rw [tset_at]
      exact ⟨fun _ => hc, fun _ => by omega⟩
    · rw [tset_ne _ _ _ _ (by omega)]
  have := h.2 a b ((e a b).mp hab)
  exact ⟨fun ha => (e _ _).mpr (this.1 ha), fun hb => (e _ _).mpr (this.2 hb)⟩
/-- the other table's part of a row is left as it was -/
def sameOut (t : Int) (g g' : Nat → Int32) : Prop := ∀ k : Nat, ((k : Int) < 42 * t ∨ 42 * t + 42 ≤ k) → g' k = g k
theorem sameOut.rf (t : Int) (g : Nat → Int32) : sameOut t g g := fun _ _ => rfl
theorem sameOut.put {t : Int} {g g' : Nat → Int32} (h : sameOut t g g') {k : Int} {x : Int32} (h1 : 42 * t ≤ k) (h2 : k < 42 * t + 42) (ht : 0 ≤ t) : sameOut t g (upd g' k.toNat x) := by
  intro n hn
  unfold upd
  rw [if_neg (by omega), h n hn]
theorem tM.out {T : Tb} {t t' : Int} {g g' : Nat → Int32} (h : tM T t' g) (hB : tB T) (hs : sameOut t g g') (ht : 0 ≤ t) (ht2 : 0 ≤ t') (hn : t ≠ t') : tM T t' g' := by
  refine ⟨fun a h1 h2 => ?_, fun a b hab => ?_⟩
  · rw [hs _ (by omega), h.1 a h1 h2]
  · have hb := hB a b hab
    rw [hs _ (by omega), h.2 a b hab]
theorem su_M {v : Int} (hv : 0 ≤ v) (hv2 : v ≤ 100) {t : Int} (ht : 0 ≤ t) (ht2 : t ≤ 1) : ∀ (n m : Nat) (sl : Int) (T : Tb) (g g0 : Nat → Int32) (i j : Int), tS T → tM T t g → sameOut t g0 g → T i j ≠ -1 → i + j < n → n + 1 ≤ m →
    ∃ g', lpI m (un5 (pX10_slideUp_L26 (iz t) (iz v))) (iz 1, iz j, iz i, iz sl, g) = some (iz (su v n T i j).2.2.1, iz (su v n T i j).2.1, iz (sl + (su v n T i j).2.2.2), g') ∧ tM (su v n T i j).1 t g' ∧ tS (su v n T i j).1 ∧ sameOut t g0 g' := by
  intro n
  induction n with
  | zero =>
    intro m sl T g g0 i j hS hM hO hc h
    have := hS.1 i j hc
    omega
  | succ n ih =>
    intro m sl T g g0 i j hS hM hO hc h5 h6
    obtain ⟨m, rfl⟩ : ∃ m', m = m' + 1 := ⟨m - 1, by omega⟩
    have hb := hS.1 i j hc
    have ba := hS.1.lo (i - 1) j
    have bl := hS.1.lo i (j - 1)
    have fa : (if iz i ≤ iz 0 then some (iz (-9)) else bd1 (pX10_get g (iz t) (iz (i - 1)) (iz j)) (fun v21 => some v21)) = some (iz (if i = 0 then -9 else T (i - 1) j)) := by
      rw [ifz_le (by omega) (by omega) (by omega) (by omega)]
      by_cases c : i = 0
      · rw [if_pos (by omega), if_pos c]
      · rw [if_neg (by omega), if_neg c, pX10_get_iz hM ht ht2 ((hS.2 i j hc).1 (by omega)) (by omega) (by omega) (by omega) (by omega), bd1_some]
    have fl : (if iz j ≤ iz 0 then some (iz (-9)) else bd1 (pX10_get g (iz t) (iz i) (iz (j - 1))) (fun v26 => some v26)) = some (iz (if j = 0 then -9 else T i (j - 1))) := by
      rw [ifz_le (by omega) (by omega) (by omega) (by omega)]
      by_cases c : j = 0
      · rw [if_pos (by omega), if_pos c]
      · rw [if_neg (by omega), if_neg c, pX10_get_iz hM ht ht2 ((hS.2 i j hc).2 (by omega)) (by omega) (by omega) (by omega) (by omega), bd1_some]
    obtain ⟨P, hP⟩ : ∃ P, P = (if i = 0 then -9 else T (i - 1) j) := ⟨_, rfl⟩
    obtain ⟨L, hL⟩ : ∃ L, L = (if j = 0 then -9 else T i (j - 1)) := ⟨_, rfl⟩
    rw [← hP] at fa
    rw [← hL] at fl
    have kP : (P = T (i - 1) j ∧ 0 < i ∧ T (i - 1) j ≠ -1) ∨ (i = 0 ∧ P = -9 ∧ T (i - 1) j = -1) := by
      by_cases c : i = 0
      · rw [if_pos c] at hP
        exact Or.inr ⟨c, hP, hS.1.out (by omega)⟩
      · rw [if_neg c] at hP
        exact Or.inl ⟨hP, by omega, (hS.2 i j hc).1 (by omega)⟩
    have kL : (L = T i (j - 1) ∧ 0 < j ∧ T i (j - 1) ≠ -1) ∨ (j = 0 ∧ L = -9 ∧ T i (j - 1) = -1) := by
      by_cases c : j = 0
      · rw [if_pos c] at hL
        exact Or.inr ⟨c, hL, hS.1.out (by omega)⟩
      · rw [if_neg c] at hL
        exact Or.inl ⟨hL, by omega, (hS.2 i j hc).2 (by omega)⟩
    clear hP hL
    rw [su]
    by_cases c0 : T (i - 1) j ≤ v ∧ T i (j - 1) ≤ v
    · rw [if_pos c0]
      have hb1 : un5 (pX10_slideUp_L26 (iz t) (iz v)) (iz 1, iz j, iz i, iz sl, g) = some (.inl (iz 0, iz j, iz i, iz sl, g)) := by
        rw [un5_mk]
        unfold pX10_slideUp_L26
        simp only [iz_0, iz_1, iz_9, iz_neg, iz_sub, iz_add]
        rw [if_neg iz1_ne, fa, bd1_some, fl, bd1_some, ifz_lt (by omega) (by omega) (by omega) (by omega), if_neg (by omega), ifz_le (by omega) (by omega) (by omega) (by omega), if_pos (by omega), bd1_some, if_pos rfl]
      have hb2 : un5 (pX10_slideUp_L26 (iz t) (iz v)) (iz 0, iz j, iz i, iz sl, g) = some (.inr (iz j, iz i, iz sl, g)) := by
        rw [un5_mk]
        unfold pX10_slideUp_L26
        rw [iz_0, if_pos rfl]
      obtain ⟨m, rfl⟩ : ∃ m', m = m' + 1 := ⟨m - 1, by omega⟩
      rw [lpI_c hb1, lpI_x hb2]
      refine ⟨g, ?_, hM, hS, hO⟩
      simp
    · rw [if_neg c0]
      have e1 : (if v < P then some (iz 1) else if L ≤ v then some (iz 0) else some (iz 1)) = some (iz 1) := by
        by_cases c : v < P
        · rw [if_pos c]
        · rw [if_neg c, if_neg (by omega)]
      by_cases c1 : T i (j - 1) ≤ T (i - 1) j
      · rw [if_pos c1]
        obtain ⟨hP, -, hu⟩ : P = T (i - 1) j ∧ 0 < i ∧ T (i - 1) j ≠ -1 := by omega
        have hb1 : un5 (pX10_slideUp_L26 (iz t) (iz v)) (iz 1, iz j, iz i, iz sl, g) = some (.inl (iz 1, iz j, iz (i - 1), iz (sl + 1), upd (upd g (42 * t + 6 * i + j).toNat (iz (T (i - 1) j))) (42 * t + 6 * (i - 1) + j).toNat (iz v))) := by
          rw [un5_mk]
          unfold pX10_slideUp_L26
          simp only [iz_0, iz_1, iz_9, iz_neg, iz_sub, iz_add]
          rw [if_neg iz1_ne, fa, bd1_some, fl, bd1_some, ifz_lt (by omega) (by omega) (by omega) (by omega), ifz_le (by omega) (by omega) (by omega) (by omega), e1, bd1_some, if_neg iz1_ne, ifz_lt (by omega) (by omega) (by omega) (by omega), if_neg (by omega), bd1_some, if_neg iz1_ne, bd1_some, pX10_set_iz ht ht2 (by omega) (by omega) (by omega) (by omega), bd1_some, if_neg iz1_ne, bd1_some, if_neg iz1_ne, bd1_some, iz_sub, iz_sub, pX10_set_iz ht ht2 (by omega) (by omega) (by omega) (by omega), bd1_some, show j - 0 = j by omega, hP]
        rw [lpI_c hb1]
        have hS1 := hS.set (v := T (i - 1) j) hc (by omega) (by omega)
        have hM1 := hM.set (v := T (i - 1) j) hS.1 ht hc hu
        have hu1 : tset T i j (T (i - 1) j) (i - 1) j ≠ -1 := by rw [tset_ne _ _ _ _ (by omega)]; exact hu
        have hS2 := hS1.set (v := v) hu1 hv hv2
        have hM2 := hM1.set (v := v) hS1.1 ht hu1 (by omega)
        obtain ⟨g', r1, r2, r3, r4⟩ := ih m (sl + 1) _ _ g0 (i - 1) j hS2 hM2 ((hO.put (by omega) (by omega) ht).put (by omega) (by omega) ht) (by rw [tset_at]; omega) (by omega) (by omega)
        refine ⟨g', ?_, r2, r3, r4⟩
        rw [r1]
        congr 4
        show iz (sl + 1 + _) = iz (sl + (_ + 1))
        congr 1
        omega
      · rw [if_neg c1]
        obtain ⟨hL, -, hu⟩ : L = T i (j - 1) ∧ 0 < j ∧ T i (j - 1) ≠ -1 := by omega
        have hb1 : un5 (pX10_slideUp_L26 (iz t) (iz v)) (iz 1, iz j, iz i, iz sl, g) = some (.inl (iz 1, iz (j - 1), iz i, iz (sl + 1), upd (upd g (42 * t + 6 * i + j).toNat (iz (T i (j - 1)))) (42 * t + 6 * i + (j - 1)).toNat (iz v))) := by
          rw [un5_mk]
          unfold pX10_slideUp_L26
          simp only [iz_0, iz_1, iz_9, iz_neg, iz_sub, iz_add]
          rw [if_neg iz1_ne, fa, bd1_some, fl, bd1_some, ifz_lt (by omega) (by omega) (by omega) (by omega), ifz_le (by omega) (by omega) (by omega) (by omega), e1, bd1_some, if_neg iz1_ne, ifz_lt (by omega) (by omega) (by omega) (by omega), if_pos (by omega), bd1_some, if_pos rfl, bd1_some, pX10_set_iz ht ht2 (by omega) (by omega) (by omega) (by omega), bd1_some, if_pos rfl, bd1_some, if_pos rfl, bd1_some, iz_sub, iz_sub, pX10_set_iz ht ht2 (by omega) (by omega) (by omega) (by omega), bd1_some, show i - 0 = i by omega, hL]
        rw [lpI_c hb1]
        have hS1 := hS.set (v := T i (j - 1)) hc (by omega) (by omega)
        have hM1 := hM.set (v := T i (j - 1)) hS.1 ht hc hu
        have hu1 : tset T i j (T i (j - 1)) i (j - 1) ≠ -1 := by rw [tset_ne _ _ _ _ (by omega)]; exact hu
        have hS2 := hS1.set (v := v) hu1 hv hv2
        have hM2 := hM1.set (v := v) hS1.1 ht hu1 (by omega)
        obtain ⟨g', r1, r2, r3, r4⟩ := ih m (sl + 1) _ _ g0 i (j - 1) hS2 hM2 ((hO.put (by omega) (by omega) ht).put (by omega) (by omega) ht) (by rw [tset_at]; omega) (by omega) (by omega)
        refine ⟨g', ?_, r2, r3, r4⟩
        rw [r1]
        congr 4
        show iz (sl + 1 + _) = iz (sl + (_ + 1))
        congr 1
        omega
