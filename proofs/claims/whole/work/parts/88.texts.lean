-- text, load, slots
def iT (tl : Int32) (tc : Nat → Int32) (ss : Int32) (sc : Nat → Int32) : Prop := ∃ (X : Int → Int) (L : Int), tl = iz L ∧ ss = iz L ∧ 0 ≤ L ∧ L ≤ 160 ∧ tT X L tc ∧ tT X L sc
theorem in2_no {σ : Type} {v x y : Int} {lo hi : Int64} (hv : sm32 v) (hx : sm32 x) (hy : sm32 y) (e1 : lo = lz x) (e2 : hi = lz y) (h : ¬ (x ≤ v ∧ v ≤ y)) (E : Option Int32) (K : Int32 → Option σ) : bd1 (pX10_in (iz v).toInt64 lo hi) (fun v1 => bd1 (if v1 = 0 then some 1 else E) K) = K 1 := by
  rw [e1, e2, iz_lz hv.1 hv.2, pX10_in_lz (by omega) (by omega) (by omega) (by omega) (by omega) (by omega), bd1_some, if_neg h, iz_0, if_pos rfl, bd1_some]
theorem in2_yes {σ : Type} {v x y : Int} {lo hi : Int64} (hv : sm32 v) (hx : sm32 x) (hy : sm32 y) (e1 : lo = lz x) (e2 : hi = lz y) (h : x ≤ v ∧ v ≤ y) {E : Option Int32} {a : Int32} (hE : E = some a) (K : Int32 → Option σ) : bd1 (pX10_in (iz v).toInt64 lo hi) (fun v1 => bd1 (if v1 = 0 then some 1 else E) K) = K a := by
  rw [e1, e2, iz_lz hv.1 hv.2, pX10_in_lz (by omega) (by omega) (by omega) (by omega) (by omega) (by omega), bd1_some, if_pos h, iz_0, if_neg iz1_ne, hE, bd1_some]
theorem cc_append {tl : Int32} {tc : Nat → Int32} {ss : Int32} {sc : Nat → Int32} (h : iT tl tc ss sc) (rf p0 : Int32) :
    (∃ x tl' tc' ss' sc', pX9_append tl tc p0 = some (.inr (x, tl', tc')) ∧ pX10_append rf ss sc p0 = some (x, 0, ss', sc') ∧ iT tl' tc' ss' sc') ∨ (pX9_append tl tc p0 = some (.inl (1, tl, tc)) ∧ pX10_append rf ss sc p0 = some (0, 1, ss, sc)) ∨ (pX9_append tl tc p0 = some (.inl (2, tl, tc)) ∧ pX10_append rf ss sc p0 = some (0, 2, ss, sc)) := by
  obtain ⟨X, L, rfl, rfl, h1, h2, h3, h4⟩ := h
  obtain ⟨c, hc, rfl⟩ := arg_iz p0
  have e255 : (255 : Int32) = iz 255 := by decide
  by_cases c1 : 0 ≤ c ∧ c ≤ 255
  · by_cases c2 : L = 160
    · refine Or.inr (Or.inr ⟨?_, ?_⟩)
      · unfold pX9_append pX8_isFull
        rw [iz_0, e255, rr_yes hc ⟨by omega, by omega⟩ ⟨by omega, by omega⟩ c1, bdE_r, iz_160, ifz_lt (by omega) (by omega) (by omega) (by omega), if_neg (by omega), bd1_some, iz_1, if_neg iz1_ne]
      · unfold pX10_append
        rw [in2_yes (x := 0) (y := 255) hc ⟨by omega, by omega⟩ ⟨by omega, by omega⟩ (by decide) (by decide) c1 (by rw [iz_160, ifz_eq (by omega) (by omega) (by omega) (by omega), if_pos c2]), rf_2]
    · have e1 : pX8_isFull (iz L) = some (iz 0) := by
        unfold pX8_isFull
        rw [iz_160, ifz_lt (by omega) (by omega) (by omega) (by omega), if_pos (by omega), iz_0]
      refine Or.inl ⟨iz (L + 1), iz (L + 1), upd tc L.toNat (iz c), iz (L + 1), upd sc L.toNat (iz c), ?_, ?_, fun k => if k = L then c else X k, L + 1, rfl, rfl, by omega, by omega, fun k q1 q2 => ?_, fun k q1 q2 => ?_⟩
      · unfold pX9_append pX8_add pX8_length
        simp only [iz_0, e255]
        rw [rr_yes hc ⟨by omega, by omega⟩ ⟨by omega, by omega⟩ c1, bdE_r, e1, bd1_some, if_pos rfl, bd1_some, if_pos rfl, sI_iz h1 (by omega) (by omega), bd1_some, bd1_some, un2_mk, bd1_some, iz_1, iz_add]
      · unfold pX10_append
        rw [in2_yes (x := 0) (y := 255) hc ⟨by omega, by omega⟩ ⟨by omega, by omega⟩ (by decide) (by decide) c1 (by rw [iz_160, ifz_eq (by omega) (by omega) (by omega) (by omega), if_neg c2]), rf_0, sI_iz h1 (by omega) (by omega), bd1_some, iz_1, iz_add]
      · show upd tc L.toNat (iz c) k.toNat = iz (if k = L then c else X k) ∧ 0 ≤ (if k = L then c else X k) ∧ (if k = L then c else X k) ≤ 255
        unfold upd
        by_cases d : k = L
        · rw [if_pos (by omega), if_pos d]
          exact ⟨rfl, c1⟩
        · rw [if_neg (by omega), if_neg d]
          exact h3 k q1 (by omega)
      · show upd sc L.toNat (iz c) k.toNat = iz (if k = L then c else X k) ∧ 0 ≤ (if k = L then c else X k) ∧ (if k = L then c else X k) ≤ 255
        unfold upd
        by_cases d : k = L
        · rw [if_pos (by omega), if_pos d]
          exact ⟨rfl, c1⟩
        · rw [if_neg (by omega), if_neg d]
          exact h4 k q1 (by omega)
  · refine Or.inr (Or.inl ⟨?_, ?_⟩)
    · unfold pX9_append
      rw [iz_0, e255, rr_no hc ⟨by omega, by omega⟩ ⟨by omega, by omega⟩ (by omega), bdE_l]
    · unfold pX10_append
      rw [in2_no (x := 0) (y := 255) hc ⟨by omega, by omega⟩ ⟨by omega, by omega⟩ (by decide) (by decide) c1, rf_1]
theorem cc_clearText {tl : Int32} {tc : Nat → Int32} {ss : Int32} {sc : Nat → Int32} (h : iT tl tc ss sc) (rf : Int32) :
    ∃ x tl' ss', pX9_clearText tl = some (x, tl') ∧ pX10_clearText rf ss = some (x, 0, ss') ∧ iT tl' tc ss' sc := by
  obtain ⟨X, L, rfl, rfl, h1, h2, h3, h4⟩ := h
  exact ⟨iz L, 0, 0, rfl, rfl, X, 0, iz_0, iz_0, by omega, by omega, fun k q1 q2 => by omega, fun k q1 q2 => by omega⟩
theorem cc_errorPosition {tl : Int32} {tc : Nat → Int32} {ss : Int32} {sc : Nat → Int32} (h : iT tl tc ss sc) (rf sp b t r c d : Int32) (tf ts rw0 : Nat → Int32) :
    ∃ x b' t' r' c' d' tf' ts' sp' rw', pX9_errorPosition tl tc b t r c d tf ts = some (x, b', t', r', c', d', tf', ts') ∧ pX10_errorPosition rf ss sp sc rw0 = some (x, 0, sp', rw') := by
  obtain ⟨X, L, rfl, rfl, h1, h2, h3, h4⟩ := h
  obtain ⟨e, q, sp', w', k1, k2, -⟩ := read_both h3 h4 h1 h2 b t r c d sp tf ts rw0
  obtain ⟨q1, q2, q3, q4, q5, q6, q7⟩ := q
  refine ⟨iz e, q1, q2, q3, q4, q5, q6, q7, sp', w', ?_, ?_⟩
  · unfold pX9_errorPosition
    rw [k1, bd1_some, un8_mk]
  · unfold pX10_errorPosition
    rw [k2, bd1_some, un3_mk]
-- slots
def iS1 (a : Int32) (f s : Nat → Int32) (x : Int) (kp ik : Nat → Int32) : Prop :=
  (a = 0 ∧ ik x.toNat = 0) ∨ (a = 1 ∧ ik x.toNat = 1 ∧ ∃ T U, tOK T ∧ tOK U ∧ tX T f ∧ tX U s ∧ tN T (84 * x) kp ∧ tN U (84 * x + 42) kp)
def iS (a0 : Int32) (f0 s0 : Nat → Int32) (a1 : Int32) (f1 s1 kp ik : Nat → Int32) : Prop := iS1 a0 f0 s0 0 kp ik ∧ iS1 a1 f1 s1 1 kp ik
theorem nar0 : vp_nar .boolean 0 = (0 : Int32) := by decide
theorem nar1 : vp_nar .boolean 1 = (1 : Int32) := by decide
theorem sZ_iz {n : Nat} {f : Nat → Int32} {k : Int} {x : Int32} (h1 : 0 ≤ k) (h2 : k < n) (h3 : n < 2147483648) : sZ n f (iz k) x = some (upd f k.toNat (vp_nar .boolean x)) := by
  unfold sZ
  rw [iz_nat (by omega) (by omega), if_neg]
  rw [iz_0, iz_lt (by omega) (by omega) (by omega) (by omega)]
  omega
theorem pX2_copyFrom_iz {T U : Tb} {f u a b : Nat → Int32} (h : tX T a) (h' : tX U b) : ∃ f' u', pX2_copyFrom f u a b = some (f', u') ∧ tX T f' ∧ tX U u' := by
  obtain ⟨f', q1, q2⟩ := pX7_copyFrom_iz (f := f) h
  obtain ⟨u', q3, q4⟩ := pX7_copyFrom_iz (f := u) h'
  refine ⟨f', u', ?_, q2, q4⟩
  unfold pX2_copyFrom
  rw [q1, bd1_some, q3, bd1_some]
theorem pX2_cells_iz {T U : Tb} {f u : Nat → Int32} (hB : tB T) (h : tX T f) (hB' : tB U) (h' : tX U u) : pX2_cells f u = some (iz (cnt T + cnt U)) := by
  unfold pX2_cells
  rw [pX7_cells_iz hB h, bd1_some, pX7_cells_iz hB' h', bd1_some, iz_add]
theorem pX10_both_iz {T U : Tb} {g : Nat → Int32} (hB : tB T) (h : tM T 0 g) (hB' : tB U) (h' : tM U 1 g) : pX10_both g = some (iz (cnt T + cnt U)) := by
  unfold pX10_both
  rw [iz_0, iz_1, pX10_many_iz hB h (by omega) (by omega), bd1_some, pX10_many_iz hB' h' (by omega) (by omega), bd1_some, iz_add]
theorem cc_load {nf ns now : Nat → Int32} (hN : iN nf ns now) {o pr : Int32} {pn : Nat → Int32} {ac : Int32} {di : Nat → Int32} (hP : iP o pr pn ac di) {tl : Int32} {tc : Nat → Int32} {ss : Int32} {sc : Nat → Int32} (h : iT tl tc ss sc) (rf sp b t r c d a0 a1 : Int32) (tf ts rw0 ik : Nat → Int32) :
    (∃ x nf' ns' pr' b' t' r' c' d' tf' ts' a0' a1' sp' ac' rw' now' ik', pX9_load nf ns pr tl tc b t r c d tf ts a0 a1 = some (.inr (x, nf', ns', pr', b', t', r', c', d', tf', ts', a0', a1')) ∧ pX10_load rf ss sp ac sc rw0 now ik = some (x, 0, sp', ac', rw', now', ik') ∧ iN nf' ns' now' ∧ iP o pr' pn ac' di ∧ ∀ f0 s0 f1 s1 kp, iS a0' f0 s0 a1' f1 s1 kp ik')
    ∨ (∃ b' t' r' c' d' tf' ts' sp' rw', pX9_load nf ns pr tl tc b t r c d tf ts a0 a1 = some (.inl (2, nf, ns, pr, b', t', r', c', d', tf', ts', a0, a1)) ∧ pX10_load rf ss sp ac sc rw0 now ik = some (0, 1, sp', ac, rw', now, ik)) := by
  obtain ⟨X, L, rfl, rfl, h1, h2, h3, h4⟩ := h
  obtain ⟨e, q, sp', w', k1, k2, k3⟩ := read_both h3 h4 h1 h2 b t r c d sp tf ts rw0
  obtain ⟨q1, q2, q3, q4, q5, q6, q7⟩ := q
  rcases k3 with ⟨rfl, T, U, g1, g2, g3, g4, g5, g6⟩ | k3
  · refine Or.inl ?_
    obtain ⟨f', u', j1, j2, j3⟩ := pX2_copyFrom_iz (f := nf) (u := ns) g3 g4
    have m1 := g5.cp84 now g1.b (by omega) (by omega)
    have m2 := g6.cp84 now g2.b (by omega) (by omega)
    refine ⟨iz (cnt T + cnt U), f', u', 0, q1, q2, q3, q4, q5, q6, q7, 0, 0, sp', 0, w', cpW w' now 0 0 84, upd (upd ik 0 0) 1 0, ?_, ?_, ⟨T, U, g1, g2, j2, j3, m1, m2⟩, hP.clear, fun f0 s0 f1 s1 kp => ⟨Or.inl ⟨rfl, rfl⟩, Or.inl ⟨rfl, rfl⟩⟩⟩
    · unfold pX9_load pX4_tables pX3_forgetAll pX6_empty
      rw [k1, bd1_some, un8_mk, if_pos (show iz (-9) = -9 by decide), bd1_some, j1, bd1_some, un2_mk, bd1_some, bd1_some, bd1_some, pX2_cells_iz g1.b j2 g2.b j3, bd1_some]
    · unfold pX10_load
      have z0 : sZ 2 ik 0 0 = some (upd ik 0 0) := by
        rw [show (0 : Int32) = iz 0 from iz_0, sZ_iz (by omega) (by omega) (by omega), ← iz_0, nar0]
        rfl
      have z1 : sZ 2 (upd ik 0 0) 1 0 = some (upd (upd ik 0 0) 1 0) := by
        rw [show (1 : Int32) = iz 1 from iz_1, sZ_iz (by omega) (by omega) (by omega), nar0]
        rfl
      rw [k2, bd1_some, un3_mk, if_pos (show iz (-9) = -9 by decide), bd1_some, rf_0, cp84, bd1_some, z0, bd1_some, z1, bd1_some, pX10_both_iz g1.b m1 g2.b m2, bd1_some]
  · refine Or.inr ⟨q1, q2, q3, q4, q5, q6, q7, sp', w', ?_, ?_⟩
    · unfold pX9_load
      rw [k1, bd1_some, un8_mk, m9, ifz_eq (by omega) (by omega) (by omega) (by omega), if_neg (by omega)]
    · unfold pX10_load
      rw [k2, bd1_some, un3_mk, m9, ifz_eq (by omega) (by omega) (by omega) (by omega), if_neg (by omega), bd1_some, rf_1]
theorem es_no {t : Int} (ht : sm32 t) (h : ¬ (0 ≤ t ∧ t ≤ 1)) : pX9_existingSlot (iz t) = some (.inl 3) := by
  unfold pX9_existingSlot
  simp only [iz_0, iz_1]
  rw [ifz_lt (by omega) (by omega) (by omega) (by omega), ifz_le (by omega) (by omega) (by omega) (by omega)]
  by_cases c : t < 0
  · rw [if_pos c]
  · rw [if_neg c, if_neg (by omega)]
theorem es_0 : pX9_existingSlot (iz 0) = some (.inr true) := by decide
theorem es_1 : pX9_existingSlot (iz 1) = some (.inr false) := by decide
theorem cc_save {nf ns now : Nat → Int32} (hN : iN nf ns now) {a0 : Int32} {f0 s0 : Nat → Int32} {a1 : Int32} {f1 s1 kp ik : Nat → Int32} (hS : iS a0 f0 s0 a1 f1 s1 kp ik) (rf p0 : Int32) :
    (∃ x a0' f0' s0' a1' f1' s1' kp' ik', pX9_save nf ns a0 f0 s0 a1 f1 s1 p0 = some (.inr (x, a0', f0', s0', a1', f1', s1')) ∧ pX10_save rf now kp ik p0 = some (x, 0, kp', ik') ∧ iS a0' f0' s0' a1' f1' s1' kp' ik') ∨ (pX9_save nf ns a0 f0 s0 a1 f1 s1 p0 = some (.inl (3, a0, f0, s0, a1, f1, s1)) ∧ pX10_save rf now kp ik p0 = some (0, 1, kp, ik)) := by
  obtain ⟨t, ht, rfl⟩ := arg_iz p0
  obtain ⟨T, U, g1, g2, g3, g4, g5, g6⟩ := hN
  by_cases c : 0 ≤ t ∧ t ≤ 1
  · have hcp : pX10_copy 84 168 now kp 0 (84 * iz t) 84 = some (cpW now kp 0 (84 * t) 84) := by
      simp only [iz_0, iz_84, iz_mul]
      exact pX10_copy_iz (by omega) (by omega) (by omega) (by omega) (by omega) (by omega) (by omega) (by omega)
    have n1 : tN T (84 * t) (cpW now kp 0 (84 * t) 84) := by
      have q := tN.cp (q := 84 * t) (n := 84) (p0 := 0) kp g1.b (show tN T (42 * 0) now from g5) (by omega) (by omega) (by omega) (by omega)
      rw [show 84 * t + (42 * 0 - 0) = 84 * t by omega] at q
      exact q
    have n2 : tN U (84 * t + 42) (cpW now kp 0 (84 * t) 84) := by
      have q := tN.cp (q := 84 * t) (n := 84) (p0 := 0) kp g2.b (show tN U (42 * 1) now from g6) (by omega) (by omega) (by omega) (by omega)
      rw [show 84 * t + (42 * 1 - 0) = 84 * t + 42 by omega] at q
      exact q
    have hM : pX10_save rf now kp ik (iz t) = some (iz (cnt T + cnt U), 0, cpW now kp 0 (84 * t) 84, upd ik t.toNat 1) := by
      unfold pX10_save
      rw [in2_yes (x := 0) (y := 1) ht ⟨by omega, by omega⟩ ⟨by omega, by omega⟩ (by decide) (by decide) c rfl, rf_0, sZ_iz c.1 (by omega) (by omega), nar1, bd1_some, hcp, bd1_some, pX10_both_iz g1.b g5 g2.b g6, bd1_some]
    rcases t01 c with rfl | rfl
    · obtain ⟨f', u', j1, j2, j3⟩ := pX2_copyFrom_iz (f := f0) (u := s0) g3 g4
      refine Or.inl ⟨_, 1, f', u', a1, f1, s1, _, _, ?_, hM, Or.inr ⟨rfl, rfl, T, U, g1, g2, j2, j3, n1, n2⟩, ?_⟩
      · unfold pX9_save pX6_fill
        rw [es_0, bdE_r, cond_true, j1, bd1_some, un2_mk, bd1_some, un3_mk, pX2_cells_iz g1.b g3 g2.b g4, bd1_some]
      · rcases hS.2 with ⟨e1, e2⟩ | ⟨e1, e2, T', U', b1, b2, b3, b4, b5, b6⟩
        · exact Or.inl ⟨e1, e2⟩
        · exact Or.inr ⟨e1, e2, T', U', b1, b2, b3, b4, b5.keep b1.b (by omega) (by omega), b6.keep b2.b (by omega) (by omega)⟩
    · obtain ⟨f', u', j1, j2, j3⟩ := pX2_copyFrom_iz (f := f1) (u := s1) g3 g4
      refine Or.inl ⟨_, a0, f0, s0, 1, f', u', _, _, ?_, hM, ?_, Or.inr ⟨rfl, rfl, T, U, g1, g2, j2, j3, n1, n2⟩⟩
      · unfold pX9_save pX6_fill
        rw [es_1, bdE_r, cond_false, j1, bd1_some, un2_mk, bd1_some, un3_mk, pX2_cells_iz g1.b g3 g2.b g4, bd1_some]
      · rcases hS.1 with ⟨e1, e2⟩ | ⟨e1, e2, T', U', b1, b2, b3, b4, b5, b6⟩
        · exact Or.inl ⟨e1, e2⟩
        · exact Or.inr ⟨e1, e2, T', U', b1, b2, b3, b4, b5.keep b1.b (by omega) (by omega), b6.keep b2.b (by omega) (by omega)⟩
  · refine Or.inr ⟨?_, ?_⟩
    · unfold pX9_save
      rw [es_no ht c, bdE_l]
    · unfold pX10_save
      rw [in2_no (x := 0) (y := 1) ht ⟨by omega, by omega⟩ ⟨by omega, by omega⟩ (by decide) (by decide) c, rf_1]
theorem restore1 {a : Int32} {f s : Nat → Int32} {x : Int} {kp ik : Nat → Int32} (h : iS1 a f s x kp ik) (h1 : 0 ≤ x) (h2 : x ≤ 1) (nf ns now : Nat → Int32) (rf ac r : Int32) :
    (∃ z f' u' now', (bd1 (pX6_isFilled a) (fun v4 => if v4 = 0 then some (.inl (2, nf, ns, r)) else bd1 (pX6_tables) (fun _ => bd1 (pX2_copyFrom nf ns f s) (un2 (fun w7 w8 => bd1 (pX3_forgetAll r) (fun w10 => bd1 (pX2_cells w7 w8) (fun v12 => some (.inr (v12, w7, w8, w10)))))))) : Option ((Nat × (Nat → Int32) × (Nat → Int32) × Int32) ⊕ (Int32 × (Nat → Int32) × (Nat → Int32) × Int32))) = some (.inr (z, f', u', 0)) ∧ pX10_restore rf ac now kp ik (iz x) = some (z, 0, 0, now') ∧ iN f' u' now')
    ∨ ((bd1 (pX6_isFilled a) (fun v4 => if v4 = 0 then some (.inl (2, nf, ns, r)) else bd1 (pX6_tables) (fun _ => bd1 (pX2_copyFrom nf ns f s) (un2 (fun w7 w8 => bd1 (pX3_forgetAll r) (fun w10 => bd1 (pX2_cells w7 w8) (fun v12 => some (.inr (v12, w7, w8, w10)))))))) : Option ((Nat × (Nat → Int32) × (Nat → Int32) × Int32) ⊕ (Int32 × (Nat → Int32) × (Nat → Int32) × Int32))) = some (.inl (2, nf, ns, r)) ∧ pX10_restore rf ac now kp ik (iz x) = some (0, 2, ac, now)) := by
  have hx : sm32 x := ⟨by omega, by omega⟩
  rcases h with ⟨e1, e2⟩ | ⟨e1, e2, T, U, b1, b2, b3, b4, b5, b6⟩
  · refine Or.inr ⟨?_, ?_⟩
    · unfold pX6_isFilled
      rw [e1, show zb (0 : Int32) = some 0 by decide, bd1_some, bd1_some, if_pos rfl]
    · unfold pX10_restore
      rw [in2_yes (x := 0) (y := 1) hx ⟨by omega, by omega⟩ ⟨by omega, by omega⟩ (by decide) (by decide) ⟨h1, h2⟩ (by rw [gI_iz h1 (by omega) (by omega), bd1_some, e2, if_pos rfl]), rf_2]
  · obtain ⟨f', u', j1, j2, j3⟩ := pX2_copyFrom_iz (f := nf) (u := ns) b3 b4
    have m1 : tM T 0 (cpW kp now (84 * x) 0 84) := by
      have q := tN.cp (q := 0) (n := 84) (p0 := 84 * x) now b1.b b5 (by omega) (by omega) (by omega) (by omega)
      rw [show 0 + (84 * x - 84 * x) = 42 * (0 : Int) by omega] at q
      exact q
    have m2 : tM U 1 (cpW kp now (84 * x) 0 84) := by
      have q := tN.cp (q := 0) (n := 84) (p0 := 84 * x) now b2.b b6 (by omega) (by omega) (by omega) (by omega)
      rw [show 0 + (84 * x + 42 - 84 * x) = 42 * (1 : Int) by omega] at q
      exact q
    refine Or.inl ⟨iz (cnt T + cnt U), f', u', cpW kp now (84 * x) 0 84, ?_, ?_, T, U, b1, b2, j2, j3, m1, m2⟩
    · unfold pX6_isFilled pX6_tables pX3_forgetAll
      rw [e1, show zb (1 : Int32) = some 1 by decide, bd1_some, bd1_some, if_neg (by decide), bd1_some, j1, bd1_some, un2_mk, bd1_some, pX2_cells_iz b1.b j2 b2.b j3, bd1_some]
    · unfold pX10_restore
      rw [in2_yes (x := 0) (y := 1) hx ⟨by omega, by omega⟩ ⟨by omega, by omega⟩ (by decide) (by decide) ⟨h1, h2⟩ (by rw [gI_iz h1 (by omega) (by omega), bd1_some, e2, if_neg (by decide)]), rf_0]
      simp only [iz_0, iz_84, iz_mul]
      rw [pX10_copy_iz (by omega) (by omega) (by omega) (by omega) (by omega) (by omega) (by omega) (by omega), bd1_some, pX10_both_iz b1.b m1 b2.b m2, bd1_some]
theorem cc_restore {nf ns now : Nat → Int32} (hN : iN nf ns now) {o r : Int32} {pn : Nat → Int32} {ac : Int32} {di : Nat → Int32} (hP : iP o r pn ac di) {a0 : Int32} {f0 s0 : Nat → Int32} {a1 : Int32} {f1 s1 kp ik : Nat → Int32} (hS : iS a0 f0 s0 a1 f1 s1 kp ik) (rf p0 : Int32) :
    (∃ x nf' ns' r' ac' now', pX9_restore nf ns r a0 f0 s0 a1 f1 s1 p0 = some (.inr (x, nf', ns', r')) ∧ pX10_restore rf ac now kp ik p0 = some (x, 0, ac', now') ∧ iN nf' ns' now' ∧ iP o r' pn ac' di) ∨ (pX9_restore nf ns r a0 f0 s0 a1 f1 s1 p0 = some (.inl (3, nf, ns, r)) ∧ pX10_restore rf ac now kp ik p0 = some (0, 1, ac, now)) ∨ (pX9_restore nf ns r a0 f0 s0 a1 f1 s1 p0 = some (.inl (2, nf, ns, r)) ∧ pX10_restore rf ac now kp ik p0 = some (0, 2, ac, now)) := by
  obtain ⟨t, ht, rfl⟩ := arg_iz p0
  by_cases c : 0 ≤ t ∧ t ≤ 1
  · unfold pX9_restore
    rcases t01 c with rfl | rfl
    · rw [es_0, bdE_r, cond_true]
      rcases restore1 hS.1 (by omega) (by omega) nf ns now rf ac r with ⟨z, f', u', now', q1, q2, q3⟩ | ⟨q1, q2⟩
      · exact Or.inl ⟨z, f', u', 0, 0, now', q1, q2, q3, hP.clear⟩
      · exact Or.inr (Or.inr ⟨q1, q2⟩)
    · rw [es_1, bdE_r, cond_false]
      rcases restore1 hS.2 (by omega) (by omega) nf ns now rf ac r with ⟨z, f', u', now', q1, q2, q3⟩ | ⟨q1, q2⟩
      · exact Or.inl ⟨z, f', u', 0, 0, now', q1, q2, q3, hP.clear⟩
      · exact Or.inr (Or.inr ⟨q1, q2⟩)
  · refine Or.inr (Or.inl ⟨?_, ?_⟩)
    · unfold pX9_restore
      rw [es_no ht c, bdE_l]
    · unfold pX10_restore
      rw [in2_no (x := 0) (y := 1) ht ⟨by omega, by omega⟩ ⟨by omega, by omega⟩ (by decide) (by decide) c, rf_1]
