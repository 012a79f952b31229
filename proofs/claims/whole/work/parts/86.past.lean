-- remembered states: the ring and the diary
theorem pX2_writeTo_iz {T U : Tb} {f u w : Nat → Int32} (h : tX T f) (h' : tX U u) {p : Int} (hp : 0 ≤ p) (hp2 : p ≤ 936) : ∃ w', pX2_writeTo f u w (iz p) = some w' ∧ tA T p w' ∧ tA U (p + 36) w' ∧ ∀ k : Nat, ((k : Int) < p ∨ p + 72 ≤ k) → w' k = w k := by
  obtain ⟨w1, a1, a2, a3⟩ := pX7_writeTo_iz (w := w) h hp (by omega)
  obtain ⟨w2, b1, b2, b3⟩ := pX7_writeTo_iz (w := w1) h' (p := p + 36) (by omega) (by omega)
  refine ⟨w2, ?_, fun i j q1 q2 q3 q4 => ?_, b2, fun k hk => ?_⟩
  · unfold pX2_writeTo
    rw [a1, bd1_some, iz_36, iz_add, b1, bd1_some]
  · rw [b3 _ (by omega)]
    exact a2 i j q1 q2 q3 q4
  · rw [b3 k (by omega), a3 k (by omega)]
theorem tA.keep {T : Tb} {p : Int} {w w' : Nat → Int32} (h : tA T p w) (hp : 0 ≤ p) (hk : ∀ k : Nat, p ≤ (k : Int) → (k : Int) < p + 36 → w' k = w k) : tA T p w' := fun i j h1 h2 h3 h4 => by
  rw [hk _ (by omega) (by omega)]
  exact h i j h1 h2 h3 h4
def iP (o r : Int32) (pn : Nat → Int32) (ac : Int32) (di : Nat → Int32) : Prop :=
  ∃ (oz rz : Int) (P Q : Int → Tb), o = iz oz ∧ r = iz rz ∧ ac = iz rz ∧ 0 ≤ oz ∧ oz < 14 ∧ 0 ≤ rz ∧ rz ≤ 14 ∧ ∀ s, 0 ≤ s → s < rz → tOK (P s) ∧ tOK (Q s) ∧ tA (P s) (72 * ((oz + s) % 14)) pn ∧ tA (Q s) (72 * ((oz + s) % 14) + 36) pn ∧ tN (P s) (84 * s) di ∧ tN (Q s) (84 * s + 42) di
theorem iP_0 {o : Int32} {pn di : Nat → Int32} {oz : Int} (h : o = iz oz) (h1 : 0 ≤ oz) (h2 : oz < 14) : iP o 0 pn 0 di := ⟨oz, 0, fun _ => tE, fun _ => tE, h, iz_0, iz_0, h1, h2, by omega, by omega, fun s q1 q2 => by omega⟩
theorem iP.clear {o r : Int32} {pn : Nat → Int32} {ac : Int32} {di : Nat → Int32} (h : iP o r pn ac di) : iP o 0 pn 0 di := by
  obtain ⟨oz, rz, P, Q, h1, h2, h3, h4, h5, h6, h7, h8⟩ := h
  exact iP_0 h1 h4 h5
theorem remember_both {T U : Tb} {nf ns now : Nat → Int32} (hN : N2 T U nf ns now) {o r : Int32} {pn : Nat → Int32} {ac : Int32} {di : Nat → Int32} (hP : iP o r pn ac di) : ∃ o' r' pn' ac' di', pX3_remember o r pn nf ns = some (o', r', pn') ∧ pX10_note ac now di = some (ac', di') ∧ iP o' r' pn' ac' di' := by
  obtain ⟨a1, a2, a3, a4, a5, a6⟩ := hN
  obtain ⟨oz, rz, P, Q, rfl, rfl, rfl, h4, h5, h6, h7, h8⟩ := hP
  have e1092 : (1092 : Int32) = iz 1092 := by decide
  unfold pX3_remember pX10_note pX3_startBehindNewest
  simp only [iz_14, iz_1, iz_0, iz_84, iz_72, e1092, iz_add, iz_sub]
  rw [ifz_eq (by omega) (by omega) (by omega) (by omega), ifz_eq (by omega) (by omega) (by omega) (by omega)]
  by_cases c : rz = 14
  · rw [if_pos c, bd1_some, un2_mk, iz_rem (by omega) (by omega) (by omega) (by omega), iz_add, iz_rem (by omega) (by omega) (by omega) (by omega), iz_mul, bd1_some]
    obtain ⟨w', b1, b2, b3, b4⟩ := pX2_writeTo_iz (w := pn) a3 a4 (p := ((oz + 1) % 14 + (rz - 1)) % 14 * 72) (by omega) (by omega)
    rw [b1, bd1_some, if_pos c, pX10_copy_s_iz (by omega) (by omega) (by omega) (by omega) (by omega) (by omega) (by omega), bd1_some, bd1_some, un2_mk, iz_mul, pX10_copy_iz (by omega) (by omega) (by omega) (by omega) (by omega) (by omega) (by omega) (by omega), bd1_some, iz_add]
    refine ⟨_, _, _, _, _, rfl, rfl, (oz + 1) % 14, rz - 1 + 1, fun s => if s = 13 then T else P (s + 1), fun s => if s = 13 then U else Q (s + 1), rfl, rfl, rfl, by omega, by omega, by omega, by omega, fun s q1 q2 => ?_⟩
    by_cases d : s = 13
    · subst d
      refine ⟨a1, a2, ?_, ?_, ?_, ?_⟩
      · show tA T _ _
        rw [show 72 * (((oz + 1) % 14 + 13) % 14) = ((oz + 1) % 14 + (rz - 1)) % 14 * 72 by omega]
        exact b2
      · show tA U _ _
        rw [show 72 * (((oz + 1) % 14 + 13) % 14) = ((oz + 1) % 14 + (rz - 1)) % 14 * 72 by omega]
        exact b3
      · show tN T _ _
        have q := tN.cp (q := 84 * (rz - 1)) (n := 84) (p0 := 0) (cpW di di 84 0 1092) a1.b (show tN T (42 * 0) now from a5) (by omega) (by omega) (by omega) (by omega)
        rw [show 84 * (rz - 1) + (42 * 0 - 0) = 84 * 13 by omega] at q
        exact q
      · show tN U _ _
        have q := tN.cp (q := 84 * (rz - 1)) (n := 84) (p0 := 0) (cpW di di 84 0 1092) a2.b (show tN U (42 * 1) now from a6) (by omega) (by omega) (by omega) (by omega)
        rw [show 84 * (rz - 1) + (42 * 1 - 0) = 84 * 13 + 42 by omega] at q
        exact q
    · obtain ⟨g1, g2, g3, g4, g5, g6⟩ := h8 (s + 1) (by omega) (by omega)
      have e3 : (fun s => if s = 13 then T else P (s + 1)) s = P (s + 1) := by
        show (if s = 13 then T else P (s + 1)) = _
        rw [if_neg d]
      have e4 : (fun s => if s = 13 then U else Q (s + 1)) s = Q (s + 1) := by
        show (if s = 13 then U else Q (s + 1)) = _
        rw [if_neg d]
      rw [e3, e4]
      refine ⟨g1, g2, ?_, ?_, ?_, ?_⟩
      · rw [show 72 * (((oz + 1) % 14 + s) % 14) = 72 * ((oz + (s + 1)) % 14) by omega]
        exact g3.keep (by omega) (fun k q3 q4 => b4 k (by omega))
      · rw [show 72 * (((oz + 1) % 14 + s) % 14) = 72 * ((oz + (s + 1)) % 14) by omega]
        exact g4.keep (by omega) (fun k q3 q4 => b4 k (by omega))
      · have q := tN.cp (q := 0) (n := 1092) (p0 := 84) di g1.b g5 (by omega) (by omega) (by omega) (by omega)
        rw [show 0 + (84 * (s + 1) - 84) = 84 * s by omega] at q
        exact q.keep g1.b (by omega) (by omega)
      · have q := tN.cp (q := 0) (n := 1092) (p0 := 84) di g2.b g6 (by omega) (by omega) (by omega) (by omega)
        rw [show 0 + (84 * (s + 1) + 42 - 84) = 84 * s + 42 by omega] at q
        exact q.keep g2.b (by omega) (by omega)
  · rw [if_neg c, bd1_some, un2_mk, iz_add, iz_rem (by omega) (by omega) (by omega) (by omega), iz_mul, bd1_some]
    obtain ⟨w', b1, b2, b3, b4⟩ := pX2_writeTo_iz (w := pn) a3 a4 (p := (oz + rz) % 14 * 72) (by omega) (by omega)
    rw [b1, bd1_some, if_neg c, bd1_some, un2_mk, iz_mul, pX10_copy_iz (by omega) (by omega) (by omega) (by omega) (by omega) (by omega) (by omega) (by omega), bd1_some, iz_add]
    refine ⟨_, _, _, _, _, rfl, rfl, oz, rz + 1, fun s => if s = rz then T else P s, fun s => if s = rz then U else Q s, rfl, rfl, rfl, by omega, by omega, by omega, by omega, fun s q1 q2 => ?_⟩
    by_cases d : s = rz
    · subst d
      have e3 : (fun x => if x = s then T else P x) s = T := by
        show (if s = s then T else P s) = _
        rw [if_pos rfl]
      have e4 : (fun x => if x = s then U else Q x) s = U := by
        show (if s = s then U else Q s) = _
        rw [if_pos rfl]
      rw [e3, e4]
      refine ⟨a1, a2, ?_, ?_, ?_, ?_⟩
      · rw [show 72 * ((oz + s) % 14) = (oz + s) % 14 * 72 by omega]
        exact b2
      · rw [show 72 * ((oz + s) % 14) = (oz + s) % 14 * 72 by omega]
        exact b3
      · have q := tN.cp (q := 84 * s) (n := 84) (p0 := 0) di a1.b (show tN T (42 * 0) now from a5) (by omega) (by omega) (by omega) (by omega)
        rw [show 84 * s + (42 * 0 - 0) = 84 * s by omega] at q
        exact q
      · have q := tN.cp (q := 84 * s) (n := 84) (p0 := 0) di a2.b (show tN U (42 * 1) now from a6) (by omega) (by omega) (by omega) (by omega)
        rw [show 84 * s + (42 * 1 - 0) = 84 * s + 42 by omega] at q
        exact q
    · obtain ⟨g1, g2, g3, g4, g5, g6⟩ := h8 s (by omega) (by omega)
      have e3 : (fun x => if x = rz then T else P x) s = P s := by
        show (if s = rz then T else P s) = _
        rw [if_neg d]
      have e4 : (fun x => if x = rz then U else Q x) s = Q s := by
        show (if s = rz then U else Q s) = _
        rw [if_neg d]
      rw [e3, e4]
      exact ⟨g1, g2, g3.keep (by omega) (fun k q3 q4 => b4 k (by omega)), g4.keep (by omega) (fun k q3 q4 => b4 k (by omega)), g5.keep g1.b (by omega) (by omega), g6.keep g2.b (by omega) (by omega)⟩
theorem cc_undo {nf ns now : Nat → Int32} (hN : iN nf ns now) {o r : Int32} {pn : Nat → Int32} {ac : Int32} {di : Nat → Int32} (hP : iP o r pn ac di) (rf : Int32) :
    (∃ x nf' ns' r' ac' now', pX9_undo nf ns o r pn = some (.inr (x, nf', ns', r')) ∧ pX10_undo rf ac now di = some (x, 0, ac', now') ∧ iN nf' ns' now' ∧ iP o r' pn ac' di) ∨ (pX9_undo nf ns o r pn = some (.inl (2, nf, ns, r)) ∧ pX10_undo rf ac now di = some (0, 1, ac, now)) := by
  obtain ⟨oz, rz, P, Q, rfl, rfl, rfl, h4, h5, h6, h7, h8⟩ := hP
  by_cases c : rz = 0
  · subst c
    refine Or.inr ⟨?_, ?_⟩
    · unfold pX9_undo pX3_isEmpty
      rw [if_pos (show iz 0 = 0 by decide), bd1_some, if_neg (by decide)]
    · unfold pX10_undo
      rw [if_pos (show iz 0 = 0 by decide), bd1_some, rf_1]
  · refine Or.inl ?_
    have hne : ¬ iz rz = 0 := by
      rw [iz_0, iz_eq (by omega) (by omega) (by omega) (by omega)]
      exact c
    obtain ⟨g1, g2, g3, g4, g5, g6⟩ := h8 (rz - 1) (by omega) (by omega)
    obtain ⟨f1, b1, b2⟩ := pX7_readFrom_iz (f := nf) g3 (by omega) (by omega)
    obtain ⟨f2, b3, b4⟩ := pX7_readFrom_iz (f := ns) g4 (by omega) (by omega)
    refine ⟨iz (rz - 1), f1, f2, iz (rz - 1), iz (rz - 1), cpW di now (84 * (rz - 1)) 0 84, ?_, ?_, ⟨P (rz - 1), Q (rz - 1), g1, g2, b2, b4, ?_, ?_⟩, oz, rz - 1, P, Q, rfl, rfl, rfl, h4, h5, by omega, by omega, fun s q1 q2 => h8 s q1 (by omega)⟩
    · unfold pX9_undo pX3_isEmpty pX3_takeBack pX3_startBehindNewest pX2_readFrom pX3_remembered
      rw [if_neg hne, bd1_some, if_pos rfl]
      simp only [iz_0, iz_1, iz_14, iz_72, iz_36, iz_sub, iz_add]
      rw [ifz_le (by omega) (by omega) (by omega) (by omega), if_neg (by omega), iz_rem (by omega) (by omega) (by omega) (by omega), iz_mul, bd1_some, show (oz + (rz - 1)) % 14 * 72 = 72 * ((oz + (rz - 1)) % 14) by omega, b1, bd1_some, iz_add, b3, bd1_some, bd1_some, un2_mk, bd1_some, un3_mk, bd1_some]
    · unfold pX10_undo
      rw [if_neg hne, bd1_some, rf_0]
      simp only [iz_0, iz_1, iz_84, iz_sub, iz_mul]
      rw [pX10_copy_iz (by omega) (by omega) (by omega) (by omega) (by omega) (by omega) (by omega) (by omega), bd1_some]
    · have q := tN.cp (q := 0) (n := 84) (p0 := 84 * (rz - 1)) now g1.b g5 (by omega) (by omega) (by omega) (by omega)
      rw [show 0 + (84 * (rz - 1) - 84 * (rz - 1)) = 42 * 0 by omega] at q
      exact q
    · have q := tN.cp (q := 0) (n := 84) (p0 := 84 * (rz - 1)) now g2.b g6 (by omega) (by omega) (by omega) (by omega)
      rw [show 0 + (84 * (rz - 1) + 42 - 84 * (rz - 1)) = 42 * 1 by omega] at q
      exact q
