theorem cpI_iz {n0 n1 : Nat} {u w : Nat → Int32} {p q n : Int} (h1 : 0 ≤ p) (h2 : p + n ≤ n0) (h3 : 0 ≤ q) (h4 : q + n ≤ n1) (h5 : 0 ≤ n) (h7 : n0 < 100000) (h8 : n1 < 100000) : cpI n0 n1 u w (iz p) (iz q) (iz n) = some (cpW u w p q n) := by
  unfold cpI
  rw [iz_nat (by omega) (by omega), iz_nat (by omega) (by omega), iz_nat (by omega) (by omega), if_neg]
  · congr 1
    funext k
    unfold va_cpy cpW
    by_cases c : q ≤ (k : Int) ∧ (k : Int) < q + n
    · rw [if_pos c, if_pos (by omega)]
      congr 1
      omega
    · rw [if_neg c, if_neg (by omega)]
  · rw [iz_0, iz_lt (by omega) (by omega) (by omega) (by omega), iz_lt (by omega) (by omega) (by omega) (by omega), iz_lt (by omega) (by omega) (by omega) (by omega)]
    omega
theorem pX7_copyFrom_iz {T : Tb} {f u : Nat → Int32} (h : tX T u) : ∃ f', pX7_copyFrom f u = some f' ∧ tX T f' := by
  refine ⟨cpW u f 0 0 36, ?_, fun i j h1 h2 h3 h4 => ?_⟩
  · unfold pX7_copyFrom
    simp only [iz_0, iz_36]
    rw [cpI_iz (by omega) (by omega) (by omega) (by omega) (by omega) (by omega) (by omega), bd1_some]
  · unfold cpW
    rw [if_pos (by omega), show (((i * 6 + j).toNat : Nat) : Int) - 0 + 0 = i * 6 + j by omega]
    exact h i j h1 h2 h3 h4
/-- a table of 36 numbers that begins at p -/
def tA (T : Tb) (p : Int) (w : Nat → Int32) : Prop := ∀ i j, 0 ≤ i → i < 6 → 0 ≤ j → j < 6 → w (p + i * 6 + j).toNat = iz (T i j)
theorem pX7_writeTo_iz {T : Tb} {f w : Nat → Int32} (h : tX T f) {p : Int} (hp : 0 ≤ p) (hp2 : p ≤ 972) : ∃ w', pX7_writeTo f w (iz p) = some w' ∧ tA T p w' ∧ ∀ k : Nat, ((k : Int) < p ∨ p + 36 ≤ k) → w' k = w k := by
  refine ⟨cpW f w 0 p 36, ?_, fun i j h1 h2 h3 h4 => ?_, fun k hk => ?_⟩
  · have e : (1008 - 36 : Int32) = iz 972 := by decide
    unfold pX7_writeTo
    rw [e]
    simp only [iz_0, iz_36]
    rw [ifz_lt (by omega) (by omega) (by omega) (by omega), if_neg (by omega), ifz_lt (by omega) (by omega) (by omega) (by omega), if_neg (by omega), cpI_iz (by omega) (by omega) (by omega) (by omega) (by omega) (by omega) (by omega), bd1_some]
  · unfold cpW
    rw [if_pos (by omega), show (((p + i * 6 + j).toNat : Nat) : Int) - p + 0 = i * 6 + j by omega]
    exact h i j h1 h2 h3 h4
  · unfold cpW
    rw [if_neg (by omega)]
theorem pX7_readFrom_iz {T : Tb} {f w : Nat → Int32} {p : Int} (h : tA T p w) (hp : 0 ≤ p) (hp2 : p ≤ 972) : ∃ f', pX7_readFrom f w (iz p) = some f' ∧ tX T f' := by
  refine ⟨cpW w f p 0 36, ?_, fun i j h1 h2 h3 h4 => ?_⟩
  · have e : (1008 - 36 : Int32) = iz 972 := by decide
    unfold pX7_readFrom
    rw [e]
    simp only [iz_0, iz_36]
    rw [ifz_lt (by omega) (by omega) (by omega) (by omega), if_neg (by omega), ifz_lt (by omega) (by omega) (by omega) (by omega), if_neg (by omega), cpI_iz (by omega) (by omega) (by omega) (by omega) (by omega) (by omega) (by omega), bd1_some]
  · unfold cpW
    rw [if_pos (by omega), show (((i * 6 + j).toNat : Nat) : Int) - 0 + p = p + i * 6 + j by omega]
    exact h i j h1 h2 h3 h4
/-- the empty table -/
def tE : Tb := fun _ _ => -1
theorem tE_ok : tOK tE := ⟨fun _ _ h => absurd rfl h, fun _ _ h => absurd rfl h, fun _ _ h => absurd rfl h⟩
theorem pX7_wipe_iz (f : Nat → Int32) : ∃ f', pX7_wipe f = some f' ∧ tX tE f' := by
  have hl : lpI lpF (un2 (pX7_wipe_L2)) (iz 0, cpW (fun _ => iz (-1)) f 0 0 0) = some (cpW (fun _ => iz (-1)) f 0 0 36) := by
    refine lp_cf (fun i => cpW (fun _ => iz (-1)) f 0 0 i) 0 36 _ (by omega) (by omega) (fun i hi hi2 => ?_) ?_
    · have e := cpW_s (fun _ => iz (-1)) f 0 0 i (by omega) hi
      rw [show (0 : Int) + i = i by omega] at e
      rw [un2_mk]
      unfold pX7_wipe_L2
      simp only [iz_36, iz_1, iz_neg, iz_add]
      rw [ifz_le (by omega) (by omega) (by omega) (by omega), if_neg (by omega), sI_iz (by omega) (by omega) (by omega), bd1_some, e]
    · rw [un2_mk]
      unfold pX7_wipe_L2
      simp only [iz_36]
      rw [ifz_le (by omega) (by omega) (by omega) (by omega), if_pos (by omega)]
  rw [cpW_0] at hl
  refine ⟨_, by unfold pX7_wipe; rw [iz_0, hl, bd1_some], fun i j h1 h2 h3 h4 => ?_⟩
  unfold cpW
  rw [if_pos (by omega)]
  rfl
theorem pX7_isFull_iz {T : Tb} {f : Nat → Int32} (hB : tB T) (h : tX T f) : pX7_isFull f = some (if T 5 5 = -1 then iz 0 else iz 1) := by
  unfold pX7_isFull
  rw [iz_5, pX7_has_iz hB h (by omega) (by omega) (by omega) (by omega), bd1_some]
  by_cases c : T 5 5 = -1
  · rw [if_pos c, zb_0, bd1_some]
  · rw [if_neg c, zb_1, bd1_some]
theorem gr_full {T : Tb} (h : tS T) : gr T 6 = -9 ↔ T 5 5 ≠ -1 := by
  have l0 := len_b T 0
  have l1 := len_b T 1
  have l2 := len_b T 2
  have l3 := len_b T 3
  have l4 := len_b T 4
  have l5 := len_b T 5
  have hs := len_spec h 5 5 (by omega)
  have d0 := len_dec h 0 (by omega)
  have d1 := len_dec h 1 (by omega)
  have d2 := len_dec h 2 (by omega)
  have d3 := len_dec h 3 (by omega)
  have d4 := len_dec h 4 (by omega)
  simp only [Int.reduceAdd] at d0 d1 d2 d3 d4
  rcases gr_spec T 6 with ⟨h1, h2⟩ | ⟨h1, h2, h3⟩
  · have g0 := h2 0 (by omega) (by omega)
    have g1 := h2 1 (by omega) (by omega)
    have g2 := h2 2 (by omega) (by omega)
    have g3 := h2 3 (by omega) (by omega)
    have g4 := h2 4 (by omega) (by omega)
    have g5 := h2 5 (by omega) (by omega)
    unfold gapAt at g0 g1 g2 g3 g4 g5
    simp at g0 g1 g2 g3 g4 g5
    refine ⟨fun _ => hs.2 (by omega), fun _ => h1⟩
  · refine ⟨fun q => by omega, fun q => ?_⟩
    have q5 := hs.1 q
    exfalso
    generalize gr T 6 = r at *
    unfold gapAt at h3
    have e : r = 0 ∨ r = 1 ∨ r = 2 ∨ r = 3 ∨ r = 4 ∨ r = 5 := by omega
    rcases e with e | e | e | e | e | e <;> subst e <;> simp at h3 <;> omega
