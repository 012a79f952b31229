-- calls: what both sides ask first
theorem arg_iz (p : Int32) : ∃ z : Int, sm32 z ∧ p = iz z := ⟨p.toInt, ⟨Int32.le_toInt p, Int32.toInt_lt p⟩, (toInt_iz p).symm⟩
def N2 (T U : Tb) (nf ns now : Nat → Int32) : Prop := tOK T ∧ tOK U ∧ tX T nf ∧ tX U ns ∧ tM T 0 now ∧ tM U 1 now
def iN (nf ns now : Nat → Int32) : Prop := ∃ T U, N2 T U nf ns now
theorem iN.pick {nf ns now : Nat → Int32} (h : iN nf ns now) {t : Int} (h1 : 0 ≤ t) (h2 : t ≤ 1) : ∃ V, tOK V ∧ tX V (fs t nf ns) ∧ tM V t now := by
  obtain ⟨T, U, a1, a2, a3, a4, a5, a6⟩ := h
  by_cases c : t = 0
  · subst c
    exact ⟨T, a1, a3, a5⟩
  · obtain rfl : t = 1 := by omega
    exact ⟨U, a2, a4, a6⟩
theorem pX7_at_gen {T : Tb} {f : Nat → Int32} (hB : tB T) (h : tX T f) {i j : Int} (h1 : sm32 i) (h2 : sm32 j) : pX7_at f (iz i) (iz j) = some (iz (T i j)) := by
  unfold pX7_at
  simp only [iz_0, iz_6, iz_1, iz_neg, iz_mul, iz_add]
  rw [ifz_lt (by omega) (by omega) (by omega) (by omega)]
  by_cases c1 : i < 0
  · rw [if_pos c1, hB.out (by omega)]
  rw [if_neg c1, ifz_le (by omega) (by omega) (by omega) (by omega)]
  by_cases c2 : 6 ≤ i
  · rw [if_pos c2, hB.out (by omega)]
  rw [if_neg c2, ifz_lt (by omega) (by omega) (by omega) (by omega)]
  by_cases c3 : j < 0
  · rw [if_pos c3, hB.out (by omega)]
  rw [if_neg c3, ifz_lt (by omega) (by omega) (by omega) (by omega)]
  by_cases c4 : j < 6
  · rw [if_pos c4, gI_iz (by omega) (by omega) (by omega), bd1_some, h i j (by omega) (by omega) (by omega) (by omega)]
  · rw [if_neg c4, hB.out (by omega)]
theorem pX7_has_gen {T : Tb} {f : Nat → Int32} (hB : tB T) (h : tX T f) {i j : Int} (h1 : sm32 i) (h2 : sm32 j) : pX7_has f (iz i) (iz j) = some (if T i j = -1 then iz 0 else iz 1) := by
  unfold pX7_has
  have := hB.lo i j
  rw [pX7_at_gen hB h h1 h2, bd1_some]
  simp only [iz_1, iz_neg, iz_0]
  rw [ifz_eq (by omega) (by omega) (by omega) (by omega)]
  by_cases c : T i j = -1 <;> simp [c]
theorem rr_no {a b c : Int} (ha : sm32 a) (hb : sm32 b) (hc : sm32 c) (h : a < b ∨ c < a) : pX9_requireRange (iz a) (iz b) (iz c) = some (.inl 1) := by
  unfold pX9_requireRange
  rw [ifz_lt ha.1 ha.2 hb.1 hb.2, ifz_le ha.1 ha.2 hc.1 hc.2]
  by_cases c1 : a < b
  · rw [if_pos c1]
  · rw [if_neg c1, if_neg (by omega)]
theorem rr_yes {a b c : Int} (ha : sm32 a) (hb : sm32 b) (hc : sm32 c) (h : b ≤ a ∧ a ≤ c) : pX9_requireRange (iz a) (iz b) (iz c) = some (.inr ()) := by
  unfold pX9_requireRange
  rw [ifz_lt ha.1 ha.2 hb.1 hb.2, ifz_le ha.1 ha.2 hc.1 hc.2, if_neg (by omega), if_pos (by omega)]
theorem rN_no {a : Int} (ha : sm32 a) (h : a < 0) : pX9_requireNotNegative (iz a) = some (.inl 1) := by
  unfold pX9_requireNotNegative
  rw [iz_0, ifz_le (by omega) (by omega) ha.1 ha.2, if_neg (by omega)]
theorem rN_yes {a : Int} (ha : sm32 a) (h : 0 ≤ a) : pX9_requireNotNegative (iz a) = some (.inr ()) := by
  unfold pX9_requireNotNegative
  rw [iz_0, ifz_le (by omega) (by omega) ha.1 ha.2, if_pos h]
theorem ex_no {t : Int} (ht : sm32 t) (h : ¬ (0 ≤ t ∧ t ≤ 1)) : pX9_existingTable (iz t) = some (.inl 3) := by
  unfold pX9_existingTable
  simp only [iz_0, iz_1]
  rw [ifz_lt (by omega) (by omega) (by omega) (by omega), ifz_le (by omega) (by omega) (by omega) (by omega)]
  by_cases c : t < 0
  · rw [if_pos c]
  · rw [if_neg c, if_neg (by omega)]
theorem ex_0 : pX9_existingTable (iz 0) = some (.inr true) := by decide
theorem ex_1 : pX9_existingTable (iz 1) = some (.inr false) := by decide
theorem t01 {t : Int} (h : 0 ≤ t ∧ t ≤ 1) : t = 0 ∨ t = 1 := by omega
theorem tw_no {T U : Tb} {nf ns now : Nat → Int32} (h : N2 T U nf ns now) {t i j : Int} (ht : sm32 t) (hi : sm32 i) (hj : sm32 j) (hc : ¬ ((t = 0 ∧ T i j ≠ -1) ∨ (t = 1 ∧ U i j ≠ -1))) : pX9_tableWithCell nf ns (iz t) (iz i) (iz j) = some (.inl 3) := by
  obtain ⟨a1, a2, a3, a4, a5, a6⟩ := h
  unfold pX9_tableWithCell
  by_cases c : 0 ≤ t ∧ t ≤ 1
  · rcases t01 c with rfl | rfl
    · rw [ex_0, bdE_r, cond_true, pX7_has_gen a1.b a3 hi hj, bd1_some, if_pos (show T i j = -1 by omega), iz_0, if_pos rfl]
    · rw [ex_1, bdE_r, cond_false, pX7_has_gen a2.b a4 hi hj, bd1_some, if_pos (show U i j = -1 by omega), iz_0, if_pos rfl]
  · rw [ex_no ht c, bdE_l]
theorem tw_0 {T U : Tb} {nf ns now : Nat → Int32} (h : N2 T U nf ns now) {i j : Int} (hi : sm32 i) (hj : sm32 j) (hc : T i j ≠ -1) : pX9_tableWithCell nf ns (iz 0) (iz i) (iz j) = some (.inr true) := by
  obtain ⟨a1, a2, a3, a4, a5, a6⟩ := h
  unfold pX9_tableWithCell
  rw [ex_0, bdE_r, cond_true, pX7_has_gen a1.b a3 hi hj, bd1_some, if_neg hc, iz_0, if_neg iz1_ne]
theorem tw_1 {T U : Tb} {nf ns now : Nat → Int32} (h : N2 T U nf ns now) {i j : Int} (hi : sm32 i) (hj : sm32 j) (hc : U i j ≠ -1) : pX9_tableWithCell nf ns (iz 1) (iz i) (iz j) = some (.inr false) := by
  obtain ⟨a1, a2, a3, a4, a5, a6⟩ := h
  unfold pX9_tableWithCell
  rw [ex_1, bdE_r, cond_false, pX7_has_gen a2.b a4 hi hj, bd1_some, if_neg hc, iz_0, if_neg iz1_ne]
-- the reference's refusals
theorem rf_0 {σ : Type} {rf : Int32} (A B : Int32 → Int32 → Option σ) : bd1 (pX10_refused rf 0) (un2 (fun v w => if v = 0 then A v w else B v w)) = A 0 0 := by
  unfold pX10_refused
  rw [if_pos (by decide), bd1_some, un2_mk, if_pos rfl]
theorem rf_1 {σ : Type} {rf : Int32} (A B : Int32 → Int32 → Option σ) : bd1 (pX10_refused rf 1) (un2 (fun v w => if v = 0 then A v w else B v w)) = B 1 1 := by
  unfold pX10_refused
  rw [if_neg (by decide), bd1_some, un2_mk, if_neg (by decide)]
theorem rf_2 {σ : Type} {rf : Int32} (A B : Int32 → Int32 → Option σ) : bd1 (pX10_refused rf 2) (un2 (fun v w => if v = 0 then A v w else B v w)) = B 1 2 := by
  unfold pX10_refused
  rw [if_neg (by decide), bd1_some, un2_mk, if_neg (by decide)]
theorem rf_3 {σ : Type} {rf : Int32} (A B : Int32 → Int32 → Option σ) : bd1 (pX10_refused rf 3) (un2 (fun v w => if v = 0 then A v w else B v w)) = B 1 3 := by
  unfold pX10_refused
  rw [if_neg (by decide), bd1_some, un2_mk, if_neg (by decide)]
theorem rt_no {σ : Type} {t : Int} (ht : sm32 t) (h : ¬ (0 ≤ t ∧ t ≤ 1)) (E : Option Int32) (K : Int32 → Option σ) : bd1 (pX10_isTable (iz t)) (fun v1 => bd1 (if v1 = 0 then some 1 else E) K) = K 1 := by
  rw [pX10_isTable_iz ht.1 ht.2, bd1_some, if_neg h, iz_0, if_pos rfl, bd1_some]
theorem rt_yes {σ : Type} {t : Int} (h : 0 ≤ t ∧ t ≤ 1) {E : Option Int32} {a : Int32} (hE : E = some a) (K : Int32 → Option σ) : bd1 (pX10_isTable (iz t)) (fun v1 => bd1 (if v1 = 0 then some 1 else E) K) = K a := by
  rw [pX10_isTable_iz (by omega) (by omega), bd1_some, if_pos h, iz_0, if_neg iz1_ne, hE, bd1_some]
theorem num_no {σ : Type} {v : Int} (hv : sm32 v) (h : ¬ (0 ≤ v ∧ v ≤ 99)) (a b : Option σ) : bd1 (pX10_isNumber (iz v)) (fun v6 => if v6 = 0 then a else b) = a := by
  rw [pX10_isNumber_iz hv.1 hv.2, bd1_some, if_neg h, iz_0, if_pos rfl]
theorem num_yes {σ : Type} {v : Int} (h : 0 ≤ v ∧ v ≤ 99) (a b : Option σ) : bd1 (pX10_isNumber (iz v)) (fun v6 => if v6 = 0 then a else b) = b := by
  rw [pX10_isNumber_iz (by omega) (by omega), bd1_some, if_pos h, iz_0, if_neg iz1_ne]
theorem in_no {σ : Type} {v x y : Int} {lo hi : Int64} (hv : sm32 v) (hx : sm32 x) (hy : sm32 y) (e1 : lo = lz x) (e2 : hi = lz y) (h : ¬ (x ≤ v ∧ v ≤ y)) (a b : Option σ) : bd1 (pX10_in (iz v).toInt64 lo hi) (fun v6 => if v6 = 0 then a else b) = a := by
  rw [e1, e2, iz_lz hv.1 hv.2, pX10_in_lz (by omega) (by omega) (by omega) (by omega) (by omega) (by omega), bd1_some, if_neg h, iz_0, if_pos rfl]
theorem in_yes {σ : Type} {v x y : Int} {lo hi : Int64} (hv : sm32 v) (hx : sm32 x) (hy : sm32 y) (e1 : lo = lz x) (e2 : hi = lz y) (h : x ≤ v ∧ v ≤ y) (a b : Option σ) : bd1 (pX10_in (iz v).toInt64 lo hi) (fun v6 => if v6 = 0 then a else b) = b := by
  rw [e1, e2, iz_lz hv.1 hv.2, pX10_in_lz (by omega) (by omega) (by omega) (by omega) (by omega) (by omega), bd1_some, if_pos h, iz_0, if_neg iz1_ne]
theorem nn_no {σ : Type} {v : Int} (hv : sm32 v) (h : v < 0) (a b : Option σ) : (if 0 ≤ iz v then a else b) = b := by
  rw [iz_0, ifz_le (by omega) (by omega) (by omega) (by omega), if_neg (by omega)]
theorem nn_yes {σ : Type} {v : Int} (hv : sm32 v) (h : 0 ≤ v) (a b : Option σ) : (if 0 ≤ iz v then a else b) = a := by
  rw [iz_0, ifz_le (by omega) (by omega) (by omega) (by omega), if_pos h]
theorem hv_no {σ : Type} {T U : Tb} {nf ns now : Nat → Int32} (h : N2 T U nf ns now) {t i j : Int} (ht : sm32 t) (hi : sm32 i) (hj : sm32 j) (hc : ¬ ((t = 0 ∧ T i j ≠ -1) ∨ (t = 1 ∧ U i j ≠ -1))) (a b : Option Int32) (K : Int32 → Option σ) : bd1 (pX10_have now (iz t) (iz i) (iz j)) (fun v1 => bd1 (if v1 = 0 then a else b) K) = bd1 a K := by
  obtain ⟨a1, a2, a3, a4, a5, a6⟩ := h
  unfold pX10_have
  by_cases c : 0 ≤ t ∧ t ≤ 1
  · rw [pX10_isTable_iz ht.1 ht.2, bd1_some, if_pos c, iz_0, if_neg iz1_ne]
    rcases t01 c with rfl | rfl
    · rw [pX10_isCell_iz a1.s a5 (by omega) (by omega) hi.1 hi.2 hj.1 hj.2, bd1_some, if_pos (show T i j = -1 by omega), if_pos rfl, bd1_some, if_pos rfl]
    · rw [pX10_isCell_iz a2.s a6 (by omega) (by omega) hi.1 hi.2 hj.1 hj.2, bd1_some, if_pos (show U i j = -1 by omega), if_pos rfl, bd1_some, if_pos rfl]
  · rw [pX10_isTable_iz ht.1 ht.2, bd1_some, if_neg c, iz_0, if_pos rfl, bd1_some, if_pos rfl]
theorem hv_yes {σ : Type} {V : Tb} {now : Nat → Int32} {t i j : Int} (h : tOK V) (hM : tM V t now) (ht : 0 ≤ t) (ht2 : t ≤ 1) (hc : V i j ≠ -1) (a b : Option Int32) (K : Int32 → Option σ) : bd1 (pX10_have now (iz t) (iz i) (iz j)) (fun v1 => bd1 (if v1 = 0 then a else b) K) = bd1 b K := by
  have hb := h.1 i j hc
  unfold pX10_have
  rw [pX10_isTable_iz (by omega) (by omega), bd1_some, if_pos (show 0 ≤ t ∧ t ≤ 1 from ⟨ht, ht2⟩), iz_0, if_neg iz1_ne, pX10_isCell_iz h.s hM ht ht2 (by omega) (by omega) (by omega) (by omega), bd1_some, if_neg hc, if_neg iz1_ne, bd1_some]
  have e : (1 : Int32) ≠ iz 0 := by decide
  rw [if_neg e]
/-- how both sides may answer a call: thrown (which, its number in the law), or returned -/
theorem sz0 : sm32 0 := ⟨by omega, by omega⟩
theorem cc_count {nf ns now : Nat → Int32} (h : iN nf ns now) (rf p0 p1 : Int32) :
    (∃ r, pX9_count nf ns p0 p1 = some (.inr r) ∧ pX10_count rf now p0 p1 = some (r, 0)) ∨ (pX9_count nf ns p0 p1 = some (.inl 3) ∧ pX10_count rf now p0 p1 = some (0, 1)) ∨ (pX9_count nf ns p0 p1 = some (.inl 1) ∧ pX10_count rf now p0 p1 = some (0, 2)) := by
  obtain ⟨t, ht, rfl⟩ := arg_iz p0
  obtain ⟨v, hv, rfl⟩ := arg_iz p1
  by_cases c : 0 ≤ t ∧ t ≤ 1
  · obtain ⟨V, hK, hX, hM⟩ := h.pick c.1 c.2
    have e : pX9_count nf ns (iz t) (iz v) = bdE (pX9_requireRange (iz v) 0 99) (fun k => some (.inl k)) (fun _ => bd1 (pX7_cellsUpTo (fs t nf ns) (iz v)) (fun r => some (.inr r))) := by
      unfold pX9_count
      rcases t01 c with rfl | rfl
      · rw [ex_0]; rfl
      · rw [ex_1]; rfl
    rw [e, iz_0, iz_99]
    by_cases c1 : 0 ≤ v ∧ v ≤ 99
    · refine Or.inl ⟨iz (cU V v), ?_, ?_⟩
      · rw [rr_yes hv ⟨by omega, by omega⟩ ⟨by omega, by omega⟩ c1, bdE_r, pX7_cellsUpTo_iz hK hX (by omega) (by omega), bd1_some]
      · unfold pX10_count
        rw [rt_yes c (num_yes c1 _ _), rf_0, pX10_countAll_iz hK.s hM c.1 c.2 (by omega) (by omega), bd1_some]
        rfl
    · refine Or.inr (Or.inr ⟨?_, ?_⟩)
      · rw [rr_no hv ⟨by omega, by omega⟩ ⟨by omega, by omega⟩ (by omega), bdE_l]
      · unfold pX10_count
        rw [rt_yes c (num_no hv c1 _ _), rf_2]
        rfl
  · refine Or.inr (Or.inl ⟨?_, ?_⟩)
    · unfold pX9_count
      rw [ex_no ht c, bdE_l]
    · unfold pX10_count
      rw [rt_no ht c, rf_1]
