-- reading a cell, on both sides
/-- what is read so far of table t: the row i has j cells, further rows have none -/
def rS (t i j : Int) (T : Tb) (ff w : Nat → Int32) : Prop :=
  tOK T ∧ tX T ff ∧ tM T t w ∧ len T i = j ∧ 0 ≤ i ∧ i ≤ 5 ∧ (∀ a, i < a → len T a = 0) ∧ (0 < i → 0 < len T (i - 1))
theorem rS.jb {t i j : Int} {T : Tb} {ff w : Nat → Int32} (h : rS t i j T ff w) : 0 ≤ j ∧ j ≤ lim T i ∧ (0 < i → 0 < lim T i) := by
  obtain ⟨h1, h2, h3, h4, h5, h6, h7, h8⟩ := h
  have hb := len_b T i
  unfold lim
  by_cases c : i = 0
  · rw [if_pos c]; omega
  · have hd := len_dec h1.s (i - 1) (by omega)
    rw [show i - 1 + 1 = i by omega] at hd
    have := h8 (by omega)
    rw [if_neg c]; omega
theorem rS.set {t i j v : Int} {T : Tb} {ff w : Nat → Int32} (h : rS t i j T ff w) (ht : 0 ≤ t) (ht2 : t ≤ 1) (hj : j < lim T i) (hv : 0 ≤ v) (hv2 : v ≤ 99) (hm : lmX T i j ≤ v) {ff' : Nat → Int32} (hf : tX (tset T i j v) ff') : rS t i (j + 1) (tset T i j v) ff' (upd (upd w (42 * t + 6 * i + j).toNat (iz v)) (42 * t + 36 + i).toNat (iz (j + 1))) := by
  have hjb := h.jb
  have hlb := lim_b T i
  obtain ⟨h1, h2, h3, h4, h5, h6, h7, h8⟩ := h
  have hS := h1.s
  have hz : T i j = -1 := by
    have := len_spec hS i j (by omega)
    omega
  have hr : ∀ a b, T a b ≠ -1 → a ≤ i ∧ (a = i → b < j) := fun a b hc => by
    have hb := h1.1 a b hc
    have hs := (len_spec hS a b (by omega)).1 hc
    refine ⟨?_, fun e => by rw [e] at hs; omega⟩
    by_cases c : i < a
    · have := h7 a c
      omega
    · omega
  have hup : 0 < i → T (i - 1) j ≠ -1 := fun q => (len_spec hS (i - 1) j (by omega)).2 (by unfold lim at hj; rw [if_neg (by omega)] at hj; omega)
  have hle : 0 < j → T i (j - 1) ≠ -1 := fun q => (len_spec hS i (j - 1) (by omega)).2 (by omega)
  have hm1 : T (i - 1) j ≤ v ∧ T i (j - 1) ≤ v := by
    unfold lmX mxp at hm
    by_cases c : T (i - 1) j < T i (j - 1)
    · rw [if_pos c] at hm; omega
    · rw [if_neg c] at hm; omega
  have hg : ∀ a, len (tset T i j v) a = if a = i then len T i + 1 else len T a := fun a => by
    have := len_grow (v := v) h1 (g := i) (by rw [h4]; exact hz) (by omega) (by omega) a
    rw [h4] at this
    rw [this, h4]
  refine ⟨⟨fun a b hc => ?_, fun a b hc ha => ?_, fun a b hc hb => ?_⟩, hf, ⟨fun a q1 q2 => ?_, fun a b hc => ?_⟩, ?_, h5, h6, fun a q => ?_, fun q => ?_⟩
  · by_cases c : a = i ∧ b = j
    · rw [c.1, c.2, tset_at]
      omega
    · rw [tset_ne T i j v (by omega)] at hc ⊢
      exact h1.1 a b hc
  · by_cases c : a = i ∧ b = j
    · rw [c.1, c.2, tset_at, tset_ne T i j v (by omega)]
      exact ⟨hup (by omega), hm1.1⟩
    · rw [tset_ne T i j v (a := a) (b := b) (by omega)] at hc ⊢
      have q := hr a b hc
      rw [tset_ne T i j v (by omega)]
      exact h1.2.1 a b hc ha
  · by_cases c : a = i ∧ b = j
    · rw [c.1, c.2, tset_at, tset_ne T i j v (by omega)]
      exact ⟨hle (by omega), hm1.2⟩
    · rw [tset_ne T i j v (a := a) (b := b) (by omega)] at hc ⊢
      have q := hr a b hc
      rw [tset_ne T i j v (by omega)]
      exact h1.2.2 a b hc hb
  · rw [hg a]
    unfold upd
    by_cases c : a = i
    · rw [if_pos (by omega), if_pos c, h4]
    · rw [if_neg (by omega), if_neg c, if_neg (by omega)]
      exact h3.1 a q1 q2
  · unfold upd
    by_cases c : a = i ∧ b = j
    · rw [c.1, c.2, if_neg (by omega), if_pos rfl, tset_at]
    · rw [tset_ne T i j v (by omega)] at hc ⊢
      have hb := h1.1 a b hc
      rw [if_neg (by omega), if_neg (by omega)]
      exact h3.2 a b hc
  · rw [hg i, if_pos rfl, h4]
  · rw [hg a, if_neg (by omega)]
    exact h7 a q
  · rw [hg (i - 1), if_neg (by omega)]
    exact h8 q
/-- the reference's least number -/
def lsM (T : Tb) (i j : Int) : Int := if (if i ≤ 0 then 0 else T (i - 1) j) ≤ (if j ≤ 0 then 0 else T i (j - 1)) then (if j ≤ 0 then 0 else T i (j - 1)) else (if i ≤ 0 then 0 else T (i - 1) j)
theorem lsM_X {t i j : Int} {T : Tb} {ff w : Nat → Int32} (h : rS t i j T ff w) (hj : j < lim T i) : 0 ≤ lsM T i j ∧ lsM T i j ≤ 99 ∧ ∀ x, 0 ≤ x → (lmX T i j ≤ x ↔ lsM T i j ≤ x) := by
  have hjb := h.jb
  obtain ⟨h1, h2, h3, h4, h5, h6, h7, h8⟩ := h
  have hS := h1.s
  have hup : 0 < i → 0 ≤ T (i - 1) j ∧ T (i - 1) j ≤ 99 := fun q => by
    have := (len_spec hS (i - 1) j (by omega)).2 (by unfold lim at hj; rw [if_neg (by omega)] at hj; omega)
    have := h1.1 _ _ this
    omega
  have hup0 : i ≤ 0 → T (i - 1) j = -1 := fun q => hS.1.out (by omega)
  have hle : 0 < j → 0 ≤ T i (j - 1) ∧ T i (j - 1) ≤ 99 := fun q => by
    have := (len_spec hS i (j - 1) (by omega)).2 (by omega)
    have := h1.1 _ _ this
    omega
  have hle0 : j ≤ 0 → T i (j - 1) = -1 := fun q => hS.1.out (by omega)
  unfold lsM lmX mxp
  by_cases c1 : i ≤ 0
  · by_cases c2 : j ≤ 0
    · have a := hup0 c1
      have b := hle0 c2
      rw [a, b, if_pos c1, if_pos c2]
      simp
      omega
    · have a := hup0 c1
      have b := hle (by omega)
      rw [a, if_pos c1, if_neg c2, if_pos (by omega), if_pos (by omega)]
      refine ⟨b.1, b.2, fun x _ => Iff.rfl⟩
  · by_cases c2 : j ≤ 0
    · have a := hup (by omega)
      have b := hle0 c2
      rw [b, if_neg c1, if_pos c2, if_neg (show ¬ T (i - 1) j < -1 by omega)]
      by_cases c3 : T (i - 1) j ≤ 0
      · rw [if_pos c3]
        refine ⟨by omega, by omega, fun x _ => by omega⟩
      · rw [if_neg c3]
        refine ⟨by omega, by omega, fun x _ => by omega⟩
    · have a := hup (by omega)
      have b := hle (by omega)
      rw [if_neg c1, if_neg c2]
      by_cases c3 : T (i - 1) j ≤ T i (j - 1)
      · rw [if_pos c3]
        by_cases c4 : T (i - 1) j < T i (j - 1)
        · rw [if_pos c4]
          refine ⟨by omega, by omega, fun x _ => by omega⟩
        · rw [if_neg c4]
          refine ⟨by omega, by omega, fun x _ => by omega⟩
      · rw [if_neg c3, if_neg (by omega)]
        refine ⟨by omega, by omega, fun x _ => by omega⟩
theorem pX10_readCell_full {t i j : Int} {T : Tb} {ff w ss : Nat → Int32} (h : rS t i j T ff w) (ht : 0 ≤ t) (ht2 : t ≤ 1) (hj : lim T i ≤ j) (L k : Int32) : pX10_readCell L k ss w (iz t) (iz i) = some (iz 0, k, w) := by
  have hjb := h.jb
  have hlb := lim_b T i
  obtain ⟨h1, h2, h3, h4, h5, h6, h7, h8⟩ := h
  have hl := len_b T (i - 1)
  unfold pX10_readCell
  simp only [iz_0, iz_6, iz_1, iz_sub]
  rw [pX10_length_iz h1.b h3 ht ht2 (by omega) (by omega), bd1_some, pX10_length_iz h1.b h3 ht ht2 (by omega) (by omega), bd1_some, ifz_eq (by omega) (by omega) (by omega) (by omega), h4]
  unfold lim at hj hjb hlb
  by_cases c : i = 0
  · rw [if_pos c] at hj hjb
    rw [if_pos c, bd1_some, show j = 6 by omega, if_pos rfl]
  · rw [if_neg c] at hj hjb
    rw [if_neg c, bd1_some, show j = len T (i - 1) by omega, if_pos rfl]
theorem pX10_readCell_iz {t i j : Int} {T : Tb} {ff w ss : Nat → Int32} (h : rS t i j T ff w) (ht : 0 ≤ t) (ht2 : t ≤ 1) (hj : j < lim T i) {X : Int → Int} {L : Int} (hT : tT X L ss) (hL0 : 0 ≤ L) (hL : L ≤ 160) {k : Int} (hk : 0 ≤ k) (hk2 : k ≤ L) : pX10_readCell (iz L) (iz k) ss w (iz t) (iz i) = some (
    if k < L ∧ 48 ≤ X k ∧ X k ≤ 57 ∧ lsM T i j ≤ 10 * (X k - 48) + 9 then
      if k + 1 < L ∧ 48 ≤ X (k + 1) ∧ X (k + 1) ≤ 57 ∧ lsM T i j ≤ 10 * (X k - 48) + (X (k + 1) - 48) then
        (iz 1, iz (k + 2), upd (upd w (42 * t + 6 * i + j).toNat (iz (10 * (X k - 48) + (X (k + 1) - 48)))) (42 * t + 36 + i).toNat (iz (j + 1)))
      else (iz 0, iz (k + 1), w)
    else (iz 0, iz k, w)) := by
  obtain ⟨hl1, hl2, hl3⟩ := lsM_X h hj
  have hjb := h.jb
  have hlb := lim_b T i
  obtain ⟨h1, h2, h3, h4, h5, h6, h7, h8⟩ := h
  have hS := h1.s
  have hlm := len_b T (i - 1)
  have hlim : ∀ (σ : Type) (kk : Int32 → Option σ), bd1 (if iz i = iz 0 then some (iz 6) else bd1 (pX10_length w (iz t) (iz (i - 1))) (fun v => some v)) kk = kk (iz (lim T i)) := fun σ kk => by
    unfold lim
    rw [pX10_length_iz h1.b h3 ht ht2 (by omega) (by omega), bd1_some, ifz_eq (by omega) (by omega) (by omega) (by omega)]
    by_cases c : i = 0
    · rw [if_pos c, if_pos c, bd1_some]
    · rw [if_neg c, if_neg c, bd1_some]
  have hcu : 0 < i → T (i - 1) j ≠ -1 := fun q => (len_spec hS (i - 1) j (by omega)).2 (by unfold lim at hj; rw [if_neg (by omega)] at hj; omega)
  have hcl : 0 < j → T i (j - 1) ≠ -1 := fun q => (len_spec hS i (j - 1) (by omega)).2 (by omega)
  have hup : ∀ (σ : Type) (kk : Int32 → Option σ), bd1 (if iz i ≤ iz 0 then some (iz 0) else bd1 (pX10_get w (iz t) (iz (i - 1)) (iz j)) (fun v => some v)) kk = kk (iz (if i ≤ 0 then 0 else T (i - 1) j)) := fun σ kk => by
    rw [ifz_le (by omega) (by omega) (by omega) (by omega)]
    by_cases c : i ≤ 0
    · rw [if_pos c, if_pos c, bd1_some]
    · have := h1.1 _ _ (hcu (by omega))
      rw [if_neg c, if_neg c, pX10_get_iz h3 ht ht2 (hcu (by omega)) (by omega) (by omega) (by omega) (by omega), bd1_some, bd1_some]
  have hle : ∀ (σ : Type) (kk : Int32 → Option σ), bd1 (if iz j ≤ iz 0 then some (iz 0) else bd1 (pX10_get w (iz t) (iz i) (iz (j - 1))) (fun v => some v)) kk = kk (iz (if j ≤ 0 then 0 else T i (j - 1))) := fun σ kk => by
    rw [ifz_le (by omega) (by omega) (by omega) (by omega)]
    by_cases c : j ≤ 0
    · rw [if_pos c, if_pos c, bd1_some]
    · have := h1.1 _ _ (hcl (by omega))
      rw [if_neg c, if_neg c, pX10_get_iz h3 ht ht2 (hcl (by omega)) (by omega) (by omega) (by omega) (by omega), bd1_some, bd1_some]
  have hmx : ∀ (σ : Type) (kk : Int32 → Option σ), bd1 (if iz (if i ≤ 0 then 0 else T (i - 1) j) ≤ iz (if j ≤ 0 then 0 else T i (j - 1)) then some (iz (if j ≤ 0 then 0 else T i (j - 1))) else some (iz (if i ≤ 0 then 0 else T (i - 1) j))) kk = kk (iz (lsM T i j)) := fun σ kk => by
    have b1 : 0 ≤ (if i ≤ 0 then 0 else T (i - 1) j) ∧ (if i ≤ 0 then 0 else T (i - 1) j) ≤ 99 := by
      by_cases c : i ≤ 0
      · rw [if_pos c]; omega
      · have := h1.1 _ _ (hcu (by omega))
        rw [if_neg c]; omega
    have b2 : 0 ≤ (if j ≤ 0 then 0 else T i (j - 1)) ∧ (if j ≤ 0 then 0 else T i (j - 1)) ≤ 99 := by
      by_cases c : j ≤ 0
      · rw [if_pos c]; omega
      · have := h1.1 _ _ (hcl (by omega))
        rw [if_neg c]; omega
    rw [ifz_le (by omega) (by omega) (by omega) (by omega)]
    unfold lsM
    by_cases c : (if i ≤ 0 then 0 else T (i - 1) j) ≤ (if j ≤ 0 then 0 else T i (j - 1))
    · rw [if_pos c, if_pos c, bd1_some]
    · rw [if_neg c, if_neg c, bd1_some]
  unfold pX10_readCell
  simp only [iz_0, iz_6, iz_1, iz_9, iz_neg, iz_10, iz_42, iz_36, iz_mul, iz_add, iz_sub]
  rw [pX10_length_iz h1.b h3 ht ht2 (by omega) (by omega), bd1_some, h4, iz_sub, hlim, ifz_eq (by omega) (by omega) (by omega) (by omega), if_neg (by omega), hup, hle, hmx, iz_divn (by omega) (by omega) (by omega) (by omega), iz_rem (by omega) (by omega) (by omega) (by omega)]
  rw [pX10_digit_iz hT hL0 hL hk hk2 (by omega) (by omega), bd1_some]
  by_cases c1 : k < L ∧ lsM T i j / 10 ≤ X k - 48 ∧ X k - 48 ≤ 9
  · rw [if_pos c1, un2_mk, ifz_eq (by omega) (by omega) (by omega) (by omega), if_neg (by omega), ifz_eq (by omega) (by omega) (by omega) (by omega), if_pos (show k < L ∧ 48 ≤ X k ∧ X k ≤ 57 ∧ lsM T i j ≤ 10 * (X k - 48) + 9 by omega)]
    have hun : ∀ (σ : Type) (kk : Int32 × Int32 → Option σ), bd1 (bd1 (if X k - 48 = lsM T i j / 10 then some (iz (lsM T i j % 10)) else some (iz 0)) (fun j28 => bd1 (pX10_digit (iz L) (iz (k + 1)) ss j28) (un2 (fun v31 w32 => some (v31, w32))))) kk = kk (if k + 1 < L ∧ 48 ≤ X (k + 1) ∧ X (k + 1) ≤ 57 ∧ lsM T i j ≤ 10 * (X k - 48) + (X (k + 1) - 48) then (iz (X (k + 1) - 48), iz (k + 2)) else (iz (-9), iz (k + 1))) := fun σ kk => by
      by_cases c2 : X k - 48 = lsM T i j / 10
      · rw [if_pos c2, bd1_some, pX10_digit_iz hT hL0 hL (by omega) (by omega) (by omega) (by omega), bd1_some]
        by_cases c3 : k + 1 < L ∧ lsM T i j % 10 ≤ X (k + 1) - 48 ∧ X (k + 1) - 48 ≤ 9
        · rw [if_pos c3, un2_mk, bd1_some, if_pos (by omega), show k + 1 + 1 = k + 2 by omega]
        · rw [if_neg c3, un2_mk, bd1_some, if_neg (by omega)]
      · rw [if_neg c2, bd1_some, pX10_digit_iz hT hL0 hL (by omega) (by omega) (by omega) (by omega), bd1_some]
        by_cases c3 : k + 1 < L ∧ 0 ≤ X (k + 1) - 48 ∧ X (k + 1) - 48 ≤ 9
        · rw [if_pos c3, un2_mk, bd1_some, if_pos (by omega), show k + 1 + 1 = k + 2 by omega]
        · rw [if_neg c3, un2_mk, bd1_some, if_neg (by omega)]
    rw [hun]
    by_cases c4 : k + 1 < L ∧ 48 ≤ X (k + 1) ∧ X (k + 1) ≤ 57 ∧ lsM T i j ≤ 10 * (X k - 48) + (X (k + 1) - 48)
    · have e9 : upd w (42 * t + 6 * i + j).toNat (iz (10 * (X k - 48) + (X (k + 1) - 48))) (42 * t + 36 + i).toNat = iz j := by
        unfold upd
        rw [if_neg (by omega), h3.1 i (by omega) (by omega), h4]
      rw [if_pos c4, if_pos c4, un2_mk, ifz_eq (by omega) (by omega) (by omega) (by omega), if_neg (by omega)]
      simp only [iz_mul, iz_add]
      rw [pX10_set_iz ht ht2 (by omega) (by omega) (by omega) (by omega), bd1_some, gI_iz (by omega) (by omega) (by omega), bd1_some, e9, iz_add, sI_iz (by omega) (by omega) (by omega), bd1_some]
    · rw [if_neg c4, if_neg c4, un2_mk, if_pos rfl]
  · rw [if_neg c1, un2_mk, if_pos rfl, bd1_some, un2_mk, if_pos rfl, if_neg (by omega)]
