-- scripts: whole numbers as longs
theorem lz_add (a b : Int) : lz a + lz b = lz (a + b) := (Int64.ofInt_add a b).symm
theorem lz_sub (a b : Int) : lz a - lz b = lz (a - b) := (Int64.ofInt_sub a b).symm
theorem lz_mul (a b : Int) : lz a * lz b = lz (a * b) := (Int64.ofInt_mul a b).symm
theorem lz_i (a : Int) : (lz a).toInt32 = iz a := Int64.toInt32_ofInt
theorem lz_divn {a b : Int} (h1 : 0 ≤ a) (h2 : a < 9223372036854775808) (h3 : 0 < b) (h4 : b < 9223372036854775808) : lz a / lz b = lz (a / b) := by
  apply Int64.toInt_inj.mp
  have hb : lz b ≠ -1 := by
    intro h
    have := congrArg Int64.toInt h
    rw [lz_toInt (by omega) h4] at this
    have h9 : (-1 : Int64).toInt = -1 := by decide
    omega
  have hd : a / b ≤ a := Int.ediv_le_self b h1
  have hd0 : 0 ≤ a / b := Int.ediv_nonneg h1 (by omega)
  rw [Int64.toInt_div_of_ne_right _ _ hb, lz_toInt (by omega) h2, lz_toInt (by omega) h4, lz_toInt (by omega) (by omega), Int.tdiv_eq_ediv_of_nonneg h1]
theorem lz_rem {a b : Int} (h1 : 0 ≤ a) (h2 : a < 9223372036854775808) (h3 : 0 < b) (h4 : b < 9223372036854775808) : lrm (lz a) (lz b) = lz (a % b) := by
  show lz a - lz a / lz b * lz b = lz (a % b)
  rw [lz_divn h1 h2 h3 h4, lz_mul, lz_sub]
  congr 1
  have := Int.emod_def a b
  rw [this, Int.mul_comm]
theorem argL (p : Int64) : ∃ z : Int, -9223372036854775808 ≤ z ∧ z < 9223372036854775808 ∧ p = lz z := ⟨p.toInt, Int64.le_toInt p, Int64.toInt_lt p, (Int64.ofInt_toInt p).symm⟩
theorem lz_1e5 : (100000 : Int64) = lz 100000 := by decide
theorem lim_1 : pX5_limit (iz 1) = some (lz 100000) := by decide +kernel
theorem lim_2 : pX5_limit (iz 2) = some (lz 10000000000) := by decide +kernel
theorem lim_3 : pX5_limit (iz 3) = some (lz 1000000000000000) := by decide +kernel
theorem ten_0 : pX10_tenTo (iz 0) = some (lz 1) := by decide +kernel
theorem ten_5 : pX10_tenTo (iz 5) = some (lz 100000) := by decide +kernel
theorem ten_10 : pX10_tenTo (iz 10) = some (lz 10000000000) := by decide +kernel
theorem ten_15 : pX10_tenTo (iz 15) = some (lz 1000000000000000) := by decide +kernel
/-- ten to the 5 times n -/
def tpw (n : Int) : Int := if n = 0 then 1 else if n = 1 then 100000 else if n = 2 then 10000000000 else 1000000000000000
theorem tpw_lim {n : Int} (h1 : 1 ≤ n) (h2 : n ≤ 3) : pX5_limit (iz n) = some (lz (tpw n)) := by
  rcases (show n = 1 ∨ n = 2 ∨ n = 3 by omega) with rfl | rfl | rfl
  · exact lim_1
  · exact lim_2
  · exact lim_3
theorem tpw_ten {n : Int} (h1 : 0 ≤ n) (h2 : n ≤ 3) : pX10_tenTo (iz (5 * n)) = some (lz (tpw n)) := by
  rcases (show n = 0 ∨ n = 1 ∨ n = 2 ∨ n = 3 by omega) with rfl | rfl | rfl | rfl
  · exact ten_0
  · exact ten_5
  · exact ten_10
  · exact ten_15
theorem tpw_b {n : Int} (h1 : 0 ≤ n) (h2 : n ≤ 3) : 0 < tpw n ∧ tpw n ≤ 1000000000000000 := by
  rcases (show n = 0 ∨ n = 1 ∨ n = 2 ∨ n = 3 by omega) with rfl | rfl | rfl | rfl <;> decide
theorem grp_X {s : Int} (hs : 0 ≤ s) (hs2 : s < 9223372036854775808) {n : Int} (h1 : 0 ≤ n) (h2 : n ≤ 2) : pX5_group (lz s) (iz n) = some (iz (s / tpw n % 100000)) := by
  have hd : ∀ x : Int, 0 ≤ x → x < 9223372036854775808 → lz x / 100000 = lz (x / 100000) ∧ 0 ≤ x / 100000 ∧ x / 100000 < 9223372036854775808 := fun x q1 q2 => ⟨by rw [lz_1e5, lz_divn q1 q2 (by omega) (by omega)], by omega, by omega⟩
  obtain ⟨d1, d2, d3⟩ := hd s hs hs2
  obtain ⟨d4, d5, d6⟩ := hd (s / 100000) d2 d3
  have hl : lpI lpF (un2 (pX5_group_L5 (iz n))) (iz 0, (fun i : Int => if i = 0 then lz s else if i = 1 then lz (s / 100000) else lz (s / 100000 / 100000)) 0) = some ((fun i : Int => if i = 0 then lz s else if i = 1 then lz (s / 100000) else lz (s / 100000 / 100000)) n) := by
    refine lp_cf (fun i : Int => if i = 0 then lz s else if i = 1 then lz (s / 100000) else lz (s / 100000 / 100000)) 0 n _ (by omega) (by omega) (fun i hi hi2 => ?_) ?_
    · rw [un2_mk]
      unfold pX5_group_L5
      simp only [iz_1, iz_add]
      rw [ifz_le (by omega) (by omega) (by omega) (by omega), if_neg (by omega)]
      by_cases c : i = 0
      · subst c
        simp only [if_true, show (0 : Int) + 1 = 1 by omega, if_neg (show ¬ (1 : Int) = 0 by omega)]
        rw [d1]
      · obtain rfl : i = 1 := by omega
        simp only [if_true, show (1 : Int) + 1 = 2 by omega, if_neg (show ¬ (1 : Int) = 0 by omega), if_neg (show ¬ (2 : Int) = 0 by omega), if_neg (show ¬ (2 : Int) = 1 by omega)]
        rw [d4]
    · rw [un2_mk]
      unfold pX5_group_L5
      rw [ifz_le (by omega) (by omega) (by omega) (by omega), if_pos (by omega)]
  have hl' : lpI lpF (un2 (pX5_group_L5 (iz n))) (iz 0, lz s) = some (lz (s / tpw n)) := by
    rcases (show n = 0 ∨ n = 1 ∨ n = 2 by omega) with rfl | rfl | rfl
    · rw [show s / tpw 0 = s by show s / 1 = s; omega]
      exact hl
    · exact hl
    · rw [show s / tpw 2 = s / 100000 / 100000 by show s / 10000000000 = _; omega]
      exact hl
  have hb := tpw_b h1 (show n ≤ 3 by omega)
  have q1 : 0 ≤ s / tpw n := Int.ediv_nonneg hs (by omega)
  have q2 : s / tpw n ≤ s := Int.ediv_le_self _ hs
  unfold pX5_group
  rw [iz_0, hl', bd1_some, lz_1e5, lz_rem q1 (by omega) (by omega) (by omega), lz_i]
theorem grp_M {s : Int} (hs : 0 ≤ s) (hs2 : s < 9223372036854775808) {n : Int} (h1 : 0 ≤ n) (h2 : n ≤ 2) (σ : Type) (K : Int32 → Option σ) : bd1 (pX10_tenTo (iz (5 * n))) (fun v28 => bd1 (dvL (lz s) v28) (fun v30 => K ((lrm v30 100000) : Int64).toInt32)) = K (iz (s / tpw n % 100000)) := by
  have hb := tpw_b h1 (show n ≤ 3 by omega)
  have q1 : 0 ≤ s / tpw n := Int.ediv_nonneg hs (by omega)
  have q2 : s / tpw n ≤ s := Int.ediv_le_self _ hs
  have hne : ¬ lz (tpw n) = 0 := by
    intro h
    have := congrArg Int64.toInt h
    rw [lz_toInt (by omega) (by omega)] at this
    have h9 : (0 : Int64).toInt = 0 := by decide
    omega
  rw [tpw_ten h1 (by omega), bd1_some]
  unfold dvL
  rw [if_neg hne, bd1_some, lz_divn hs hs2 (by omega) (by omega), lz_1e5, lz_rem q1 (by omega) (by omega) (by omega), lz_i]
theorem mx_le {T : Tb} (hB : tB T) : mx T 36 = mx T 36 := rfl
theorem cnt_0 {T : Tb} (hK : tOK T) : (cnt T ≤ 0) ↔ T 0 0 = -1 := by
  have hl := len_b T 0
  have h1 := (len_spec hK.s 0 0 (by omega))
  have h2 : cnt T = len T 0 + len T 1 + len T 2 + len T 3 + len T 4 + len T 5 := sumI_6 _
  have b1 := len_b T 1
  have b2 := len_b T 2
  have b3 := len_b T 3
  have b4 := len_b T 4
  have b5 := len_b T 5
  have d0 := len_dec hK.s 0 (by omega)
  have d1 := len_dec hK.s 1 (by omega)
  have d2 := len_dec hK.s 2 (by omega)
  have d3 := len_dec hK.s 3 (by omega)
  have d4 := len_dec hK.s 4 (by omega)
  simp only [Int.reduceAdd] at d0 d1 d2 d3 d4
  omega

/-- a group of five digits: command, table, the rest -/
def gD (g cm t rs : Int) : Prop := g = 10000 * cm + 1000 * t + rs ∧ 0 ≤ cm ∧ cm ≤ 9 ∧ 0 ≤ t ∧ t ≤ 9 ∧ 0 ≤ rs ∧ rs ≤ 999
theorem gD_of {g : Int} (h1 : 0 ≤ g) (h2 : g < 100000) : gD g (g / 10000) (g / 1000 % 10) (g % 1000) := ⟨by omega, by omega, by omega, by omega, by omega, by omega, by omega⟩
theorem gD.c {g cm t rs : Int} (h : gD g cm t rs) : iz g / 10000 = iz cm := by
  obtain ⟨h0, h1, h2, h3, h4, h5, h6⟩ := h
  have e : (10000 : Int32) = iz 10000 := by decide
  rw [e, iz_divn (by omega) (by omega) (by omega) (by omega), show g / 10000 = cm by omega]
theorem gD.t {g cm t rs : Int} (h : gD g cm t rs) : irm (iz g / 1000) 10 = iz t := by
  obtain ⟨h0, h1, h2, h3, h4, h5, h6⟩ := h
  rw [iz_1000, iz_10, iz_divn (by omega) (by omega) (by omega) (by omega), iz_rem (by omega) (by omega) (by omega) (by omega), show g / 1000 % 10 = t by omega]
theorem gD.r {g cm t rs : Int} (h : gD g cm t rs) : irm (iz g) 1000 = iz rs := by
  obtain ⟨h0, h1, h2, h3, h4, h5, h6⟩ := h
  rw [iz_1000, iz_rem (by omega) (by omega) (by omega) (by omega), show g % 1000 = rs by omega]
theorem gD.b {g cm t rs : Int} (h : gD g cm t rs) : irm (iz g / 100) 10 = iz (rs / 100) := by
  obtain ⟨h0, h1, h2, h3, h4, h5, h6⟩ := h
  rw [iz_100, iz_10, iz_divn (by omega) (by omega) (by omega) (by omega), iz_rem (by omega) (by omega) (by omega) (by omega), show g / 100 % 10 = rs / 100 by omega]
theorem gD.cc {g cm t rs : Int} (h : gD g cm t rs) : irm (iz g / 10) 10 = iz (rs / 10 % 10) := by
  obtain ⟨h0, h1, h2, h3, h4, h5, h6⟩ := h
  rw [iz_10, iz_divn (by omega) (by omega) (by omega) (by omega), iz_rem (by omega) (by omega) (by omega) (by omega), show g / 10 % 10 = rs / 10 % 10 by omega]
theorem gD.d {g cm t rs : Int} (h : gD g cm t rs) : irm (iz g) 10 = iz (rs % 10) := by
  obtain ⟨h0, h1, h2, h3, h4, h5, h6⟩ := h
  rw [iz_10, iz_rem (by omega) (by omega) (by omega) (by omega), show g % 10 = rs % 10 by omega]
theorem gD.xy {g cm t rs : Int} (h : gD g cm t rs) : irm (iz g) 100 = iz (rs % 100) := by
  obtain ⟨h0, h1, h2, h3, h4, h5, h6⟩ := h
  rw [iz_100, iz_rem (by omega) (by omega) (by omega) (by omega), show g % 100 = rs % 100 by omega]
theorem gD.rd {g cm t rs : Int} (h : gD g cm t rs) : irm (iz rs) 10 = iz (rs % 10) := by
  obtain ⟨h0, h1, h2, h3, h4, h5, h6⟩ := h
  rw [iz_10, iz_rem (by omega) (by omega) (by omega) (by omega)]
theorem gD.rq {g cm t rs : Int} (h : gD g cm t rs) : iz rs / 10 = iz (10 * (rs / 100) + rs / 10 % 10) := by
  obtain ⟨h0, h1, h2, h3, h4, h5, h6⟩ := h
  rw [iz_10, iz_divn (by omega) (by omega) (by omega) (by omega)]
  congr 1
  omega
/-- how a command ends on both sides -/
def cE (f u tr : Nat → Int32) (sl : Int32) (tu : Nat → Int32) (g : Int) : Prop := ∃ z f' u' sl' tr' tu', pX5_succeeds f u (iz g) = some (iz z, f', u') ∧ pX10_command sl tr tu (iz g) = some (iz z, sl', tr', tu') ∧ (z = 0 ∨ z = 1) ∧ iN f' u' tr'

theorem ex1t (t : Int) (h0 : 0 ≤ t) (h9 : t ≤ 9) : pX10_isTable (iz t) = some (if 0 ≤ t ∧ t ≤ 1 then iz 1 else iz 0) := pX10_isTable_iz (by omega) (by omega)
theorem cmd_bad {T U : Tb} {f u tr : Nat → Int32} (hN : N2 T U f u tr) (sl : Int32) (tu : Nat → Int32) {g cm t rs : Int} (hg : gD g cm t rs) (ht : 1 < t) : cE f u tr sl tu g := by
  obtain ⟨h0, h1, h2, h3, h4, h5, h6⟩ := id hg
  refine ⟨0, f, u, sl, tr, tu, ?_, ?_, Or.inl rfl, T, U, hN⟩
  · unfold pX5_succeeds
    rw [hg.t, iz_1, ifz_le (by omega) (by omega) (by omega) (by omega), if_neg (by omega), iz_0]
  · unfold pX10_command
    have e8 : (8 : Int32) = iz 8 := iz_8
    rw [hg.c, hg.t, e8, ifz_eq (by omega) (by omega) (by omega) (by omega), iz_0, ifz_eq (by omega) (by omega) (by omega) (by omega), if_neg (show ¬ t = 0 by omega), ex1t t h3 h4, bd1_some, if_neg (show ¬ (0 ≤ t ∧ t ≤ 1) by omega), if_pos rfl]
    by_cases c : cm = 8
    · rw [if_pos c]
    · rw [if_neg c]

theorem sw_0 (f : Nat → Int32) (x : Int32) : pX5_succeedsWith f (iz 0) x = some (0, f) := by
  unfold pX5_succeedsWith
  rw [if_neg (by decide), if_neg (by decide), if_neg (by decide), if_neg (by decide), if_neg (by decide), if_neg (by decide), if_neg (by decide)]
theorem sw_9 (f : Nat → Int32) (x : Int32) : pX5_succeedsWith f (iz 9) x = some (0, f) := by
  unfold pX5_succeedsWith
  rw [if_neg (by decide), if_neg (by decide), if_neg (by decide), if_neg (by decide), if_neg (by decide), if_neg (by decide), if_neg (by decide)]
theorem sw_1 (f : Nat → Int32) (x : Int32) : pX5_succeedsWith f (iz 1) x = bd1 (pX7_takeIn f x) (un2 (fun v1 w2 => if v1 = (-9) then some (0, w2) else some (1, w2))) := by
  unfold pX5_succeedsWith
  rw [if_pos (by decide)]
theorem sw_5 (f : Nat → Int32) (x : Int32) : pX5_succeedsWith f (iz 5) x = bd1 (pX7_cells f) (fun v4 => if v4 = x then some (1, f) else some (0, f)) := by
  unfold pX5_succeedsWith
  rw [if_neg (by decide), if_neg (by decide), if_neg (by decide), if_neg (by decide), if_pos (by decide)]
theorem sw_6 (f : Nat → Int32) (x : Int32) : pX5_succeedsWith f (iz 6) x = bd1 (pX7_cellsUpTo f x) (fun v6 => bd1 (pX7_cellsUpTo f (x - 1)) (fun v8 => if v6 ≤ v8 then some (0, f) else some (1, f))) := by
  unfold pX5_succeedsWith
  rw [if_neg (by decide), if_neg (by decide), if_neg (by decide), if_neg (by decide), if_neg (by decide), if_pos (by decide)]
theorem sw_7 (f : Nat → Int32) (x : Int32) : pX5_succeedsWith f (iz 7) x = bd1 (pX7_has f 0 0) (fun v10 => if v10 = 0 then some (0, f) else bd1 (pX7_greatest f) (fun v12 => if x < v12 then some (0, f) else some (1, f))) := by
  unfold pX5_succeedsWith
  rw [if_neg (by decide), if_neg (by decide), if_neg (by decide), if_neg (by decide), if_neg (by decide), if_neg (by decide), if_pos (by decide)]
theorem un_0 {σ : Type} (f : Nat → Int32) (A B : (Nat → Int32) → Option σ) : bd1 (some ((0 : Int32), f)) (un2 (fun v w => if v = iz 0 then A w else B w)) = A f := by
  rw [bd1_some, un2_mk, if_pos (by decide)]
theorem un_1 {σ : Type} (f : Nat → Int32) (A B : (Nat → Int32) → Option σ) : bd1 (some ((1 : Int32), f)) (un2 (fun v w => if v = iz 0 then A w else B w)) = B f := by
  rw [bd1_some, un2_mk, if_neg (by decide)]

theorem un_0' {σ : Type} (f : Nat → Int32) (A B : (Nat → Int32) → Option σ) : bd1 (some ((0 : Int32), f)) (un2 (fun v w => if v = 0 then A w else B w)) = A f := by
  rw [bd1_some, un2_mk, if_pos rfl]
theorem un_1' {σ : Type} (f : Nat → Int32) (A B : (Nat → Int32) → Option σ) : bd1 (some ((1 : Int32), f)) (un2 (fun v w => if v = iz 0 then A w else B w)) = B f := un_1 f A B

theorem cmd_4_0 {T U : Tb} {f u tr : Nat → Int32} (hN : N2 T U f u tr) (sl : Int32) (tu : Nat → Int32) {g rs : Int} (hg : gD g 4 0 rs) : cE f u tr sl tu g := by
  obtain ⟨h0, h1, h2, h3, h4, h5, h6⟩ := id hg
  obtain ⟨a1, a2, a3, a4, a5, a6⟩ := id hN
  have ht : pX2_table (iz 0) = some true := by decide
  have hn : pX2_table (iz 1) = some false := by decide
  unfold cE pX5_succeeds pX10_command
  simp only [hg.c, hg.t, hg.r, hg.b, hg.cc, hg.d, hg.xy, hg.rd, hg.rq, iz_0, iz_1, iz_2, iz_3, iz_4, iz_5, iz_6, iz_7, iz_8, iz_9, iz_99, iz_neg, iz_sub]
  rw [ex1t 0 (by omega) (by omega), if_pos (show (0 : Int) ≤ 0 ∧ (1 : Int) ≥ 0 by omega)]
  simp (disch := omega) only [iz_eq, iz_le, iz_lt, bd1_some, reduceIte, ht, hn, cond_true, Int.reduceEq, Int.reduceLE, Int.reduceNeg, Int.reduceSub, Int.reduceAdd]
  by_cases c : rs = 0
  · obtain ⟨f', q1, q2⟩ := pX7_flip_iz a1.b a3
    obtain ⟨tu', g', q3, q4, q5⟩ := pX10_transposeOn_iz (w := tu) a1.s a5 (by omega) (by omega)
    unfold pX5_transposes
    rw [if_pos c, if_pos c, q1, q3]
    simp only [bd1_some, un2_mk]
    exact ⟨1, f', u, sl, g', tu', by rw [if_neg (by decide)], rfl, Or.inr rfl, ⟨flT T, U, fl_ok a1, a2, q2, a4, q4, a6.out a2.b q5 (by omega) (by omega) (by omega)⟩⟩
  · rw [if_neg c, if_neg c]
    exact ⟨0, f, u, sl, tr, tu, rfl, rfl, Or.inl rfl, T, U, hN⟩

theorem cmd_4_1 {T U : Tb} {f u tr : Nat → Int32} (hN : N2 T U f u tr) (sl : Int32) (tu : Nat → Int32) {g rs : Int} (hg : gD g 4 1 rs) : cE f u tr sl tu g := by
  obtain ⟨h0, h1, h2, h3, h4, h5, h6⟩ := id hg
  obtain ⟨a1, a2, a3, a4, a5, a6⟩ := id hN
  have ht : pX2_table (iz 1) = some false := by decide
  have hn : pX2_table (iz 0) = some true := by decide
  unfold cE pX5_succeeds pX10_command
  simp only [hg.c, hg.t, hg.r, hg.b, hg.cc, hg.d, hg.xy, hg.rd, hg.rq, iz_0, iz_1, iz_2, iz_3, iz_4, iz_5, iz_6, iz_7, iz_8, iz_9, iz_99, iz_neg, iz_sub]
  rw [ex1t 1 (by omega) (by omega), if_pos (show (0 : Int) ≤ 1 ∧ (1 : Int) ≥ 1 by omega)]
  simp (disch := omega) only [iz_eq, iz_le, iz_lt, bd1_some, reduceIte, ht, hn, cond_false, Int.reduceEq, Int.reduceLE, Int.reduceNeg, Int.reduceSub, Int.reduceAdd]
  by_cases c : rs = 0
  · obtain ⟨f', q1, q2⟩ := pX7_flip_iz a2.b a4
    obtain ⟨tu', g', q3, q4, q5⟩ := pX10_transposeOn_iz (w := tu) a2.s a6 (by omega) (by omega)
    unfold pX5_transposes
    rw [if_pos c, if_pos c, q1, q3]
    simp only [bd1_some, un2_mk]
    exact ⟨1, f, f', sl, g', tu', by rw [if_neg (by decide)], rfl, Or.inr rfl, ⟨T, flT U, a1, fl_ok a2, a3, q2, a5.out a1.b q5 (by omega) (by omega) (by omega), q4⟩⟩
  · rw [if_neg c, if_neg c]
    exact ⟨0, f, u, sl, tr, tu, rfl, rfl, Or.inl rfl, T, U, hN⟩

theorem cmd_0_0 {T U : Tb} {f u tr : Nat → Int32} (hN : N2 T U f u tr) (sl : Int32) (tu : Nat → Int32) {g rs : Int} (hg : gD g 0 0 rs) : cE f u tr sl tu g := by
  obtain ⟨h0, h1, h2, h3, h4, h5, h6⟩ := id hg
  obtain ⟨a1, a2, a3, a4, a5, a6⟩ := id hN
  have ht : pX2_table (iz 0) = some true := by decide
  have hn : pX2_table (iz 1) = some false := by decide
  unfold cE pX5_succeeds pX10_command
  simp only [hg.c, hg.t, hg.r, hg.b, hg.cc, hg.d, hg.xy, hg.rd, hg.rq, iz_0, iz_1, iz_2, iz_3, iz_4, iz_5, iz_6, iz_7, iz_8, iz_9, iz_99, iz_neg, iz_sub]
  rw [ex1t 0 (by omega) (by omega), if_pos (show (0 : Int) ≤ 0 ∧ (1 : Int) ≥ 0 by omega)]
  simp (disch := omega) only [iz_eq, iz_le, iz_lt, bd1_some, reduceIte, ht, hn, cond_true, Int.reduceEq, Int.reduceLE, Int.reduceNeg, Int.reduceSub, Int.reduceAdd]
  by_cases c : 99 < rs
  · rw [if_pos c]
    exact ⟨0, f, u, sl, tr, tu, rfl, rfl, Or.inl rfl, T, U, hN⟩
  · rw [if_neg c, sw_0, un_0]
    exact ⟨0, f, u, sl, tr, tu, rfl, rfl, Or.inl rfl, T, U, hN⟩

theorem cmd_0_1 {T U : Tb} {f u tr : Nat → Int32} (hN : N2 T U f u tr) (sl : Int32) (tu : Nat → Int32) {g rs : Int} (hg : gD g 0 1 rs) : cE f u tr sl tu g := by
  obtain ⟨h0, h1, h2, h3, h4, h5, h6⟩ := id hg
  obtain ⟨a1, a2, a3, a4, a5, a6⟩ := id hN
  have ht : pX2_table (iz 1) = some false := by decide
  have hn : pX2_table (iz 0) = some true := by decide
  unfold cE pX5_succeeds pX10_command
  simp only [hg.c, hg.t, hg.r, hg.b, hg.cc, hg.d, hg.xy, hg.rd, hg.rq, iz_0, iz_1, iz_2, iz_3, iz_4, iz_5, iz_6, iz_7, iz_8, iz_9, iz_99, iz_neg, iz_sub]
  rw [ex1t 1 (by omega) (by omega), if_pos (show (0 : Int) ≤ 1 ∧ (1 : Int) ≥ 1 by omega)]
  simp (disch := omega) only [iz_eq, iz_le, iz_lt, bd1_some, reduceIte, ht, hn, cond_false, Int.reduceEq, Int.reduceLE, Int.reduceNeg, Int.reduceSub, Int.reduceAdd]
  by_cases c : 99 < rs
  · rw [if_pos c]
    exact ⟨0, f, u, sl, tr, tu, rfl, rfl, Or.inl rfl, T, U, hN⟩
  · rw [if_neg c, sw_0, un_0]
    exact ⟨0, f, u, sl, tr, tu, rfl, rfl, Or.inl rfl, T, U, hN⟩

theorem cmd_9_0 {T U : Tb} {f u tr : Nat → Int32} (hN : N2 T U f u tr) (sl : Int32) (tu : Nat → Int32) {g rs : Int} (hg : gD g 9 0 rs) : cE f u tr sl tu g := by
  obtain ⟨h0, h1, h2, h3, h4, h5, h6⟩ := id hg
  obtain ⟨a1, a2, a3, a4, a5, a6⟩ := id hN
  have ht : pX2_table (iz 0) = some true := by decide
  have hn : pX2_table (iz 1) = some false := by decide
  unfold cE pX5_succeeds pX10_command
  simp only [hg.c, hg.t, hg.r, hg.b, hg.cc, hg.d, hg.xy, hg.rd, hg.rq, iz_0, iz_1, iz_2, iz_3, iz_4, iz_5, iz_6, iz_7, iz_8, iz_9, iz_99, iz_neg, iz_sub]
  rw [ex1t 0 (by omega) (by omega), if_pos (show (0 : Int) ≤ 0 ∧ (1 : Int) ≥ 0 by omega)]
  simp (disch := omega) only [iz_eq, iz_le, iz_lt, bd1_some, reduceIte, ht, hn, cond_true, Int.reduceEq, Int.reduceLE, Int.reduceNeg, Int.reduceSub, Int.reduceAdd]
  by_cases c : 99 < rs
  · rw [if_pos c]
    exact ⟨0, f, u, sl, tr, tu, rfl, rfl, Or.inl rfl, T, U, hN⟩
  · rw [if_neg c, sw_9, un_0]
    exact ⟨0, f, u, sl, tr, tu, rfl, rfl, Or.inl rfl, T, U, hN⟩

theorem cmd_9_1 {T U : Tb} {f u tr : Nat → Int32} (hN : N2 T U f u tr) (sl : Int32) (tu : Nat → Int32) {g rs : Int} (hg : gD g 9 1 rs) : cE f u tr sl tu g := by
  obtain ⟨h0, h1, h2, h3, h4, h5, h6⟩ := id hg
  obtain ⟨a1, a2, a3, a4, a5, a6⟩ := id hN
  have ht : pX2_table (iz 1) = some false := by decide
  have hn : pX2_table (iz 0) = some true := by decide
  unfold cE pX5_succeeds pX10_command
  simp only [hg.c, hg.t, hg.r, hg.b, hg.cc, hg.d, hg.xy, hg.rd, hg.rq, iz_0, iz_1, iz_2, iz_3, iz_4, iz_5, iz_6, iz_7, iz_8, iz_9, iz_99, iz_neg, iz_sub]
  rw [ex1t 1 (by omega) (by omega), if_pos (show (0 : Int) ≤ 1 ∧ (1 : Int) ≥ 1 by omega)]
  simp (disch := omega) only [iz_eq, iz_le, iz_lt, bd1_some, reduceIte, ht, hn, cond_false, Int.reduceEq, Int.reduceLE, Int.reduceNeg, Int.reduceSub, Int.reduceAdd]
  by_cases c : 99 < rs
  · rw [if_pos c]
    exact ⟨0, f, u, sl, tr, tu, rfl, rfl, Or.inl rfl, T, U, hN⟩
  · rw [if_neg c, sw_9, un_0]
    exact ⟨0, f, u, sl, tr, tu, rfl, rfl, Or.inl rfl, T, U, hN⟩

theorem cmd_1_0 {T U : Tb} {f u tr : Nat → Int32} (hN : N2 T U f u tr) (sl : Int32) (tu : Nat → Int32) {g rs : Int} (hg : gD g 1 0 rs) : cE f u tr sl tu g := by
  obtain ⟨h0, h1, h2, h3, h4, h5, h6⟩ := id hg
  obtain ⟨a1, a2, a3, a4, a5, a6⟩ := id hN
  have ht : pX2_table (iz 0) = some true := by decide
  have hn : pX2_table (iz 1) = some false := by decide
  unfold cE pX5_succeeds pX10_command
  simp only [hg.c, hg.t, hg.r, hg.b, hg.cc, hg.d, hg.xy, hg.rd, hg.rq, iz_0, iz_1, iz_2, iz_3, iz_4, iz_5, iz_6, iz_7, iz_8, iz_9, iz_99, iz_neg, iz_sub]
  rw [ex1t 0 (by omega) (by omega), if_pos (show (0 : Int) ≤ 0 ∧ (1 : Int) ≥ 0 by omega)]
  simp (disch := omega) only [iz_eq, iz_le, iz_lt, bd1_some, reduceIte, ht, hn, cond_true, Int.reduceEq, Int.reduceLE, Int.reduceNeg, Int.reduceSub, Int.reduceAdd]
  by_cases c : 99 < rs
  · rw [if_pos c, if_neg (show ¬ rs / 100 = 0 by omega)]
    exact ⟨0, f, u, sl, tr, tu, rfl, rfl, Or.inl rfl, T, U, hN⟩
  · rw [if_neg c, if_pos (show rs / 100 = 0 by omega), sw_1, show rs % 100 = rs by omega]
    by_cases c5 : T 5 5 = -1
    · obtain ⟨f', q1, q2, q6, q7, q8, q9⟩ := pX7_takeIn_iz a1 a3 (v := rs) (by omega) (by omega) (gr_ne a1 c5)
      obtain ⟨g', q3, q4, q5⟩ := pX10_insertOn_iz a1 a5 (by omega) (by omega) (v := rs) (by omega) (by omega) (gr_ne a1 c5) sl
      rw [q1, bd1_some, un2_mk, m9, ifz_eq (by omega) (by omega) (by omega) (by omega), if_neg (by omega), un_1, ← m9, gp_yes a1 a5 (by omega) (by omega) c5, q3, bd1_some, un3_mk]
      exact ⟨1, f', u, _, g', tu, rfl, rfl, Or.inr rfl, ⟨(insT T rs).1, U, (ins_ok a1 (by omega) (by omega) (gr_ne a1 c5)).1, a2, q2, a4, q4, a6.out a2.b q5 (by omega) (by omega) (by omega)⟩⟩
    · rw [pX7_takeIn_no a1.b a3 ((gr_full a1.s).2 c5), bd1_some, un2_mk, m9, if_pos rfl, un_0, ← m9, gp_no a1 a5 (by omega) (by omega) c5]
      exact ⟨0, f, u, sl, tr, tu, rfl, rfl, Or.inl rfl, T, U, hN⟩

theorem cmd_1_1 {T U : Tb} {f u tr : Nat → Int32} (hN : N2 T U f u tr) (sl : Int32) (tu : Nat → Int32) {g rs : Int} (hg : gD g 1 1 rs) : cE f u tr sl tu g := by
  obtain ⟨h0, h1, h2, h3, h4, h5, h6⟩ := id hg
  obtain ⟨a1, a2, a3, a4, a5, a6⟩ := id hN
  have ht : pX2_table (iz 1) = some false := by decide
  have hn : pX2_table (iz 0) = some true := by decide
  unfold cE pX5_succeeds pX10_command
  simp only [hg.c, hg.t, hg.r, hg.b, hg.cc, hg.d, hg.xy, hg.rd, hg.rq, iz_0, iz_1, iz_2, iz_3, iz_4, iz_5, iz_6, iz_7, iz_8, iz_9, iz_99, iz_neg, iz_sub]
  rw [ex1t 1 (by omega) (by omega), if_pos (show (0 : Int) ≤ 1 ∧ (1 : Int) ≥ 1 by omega)]
  simp (disch := omega) only [iz_eq, iz_le, iz_lt, bd1_some, reduceIte, ht, hn, cond_false, Int.reduceEq, Int.reduceLE, Int.reduceNeg, Int.reduceSub, Int.reduceAdd]
  by_cases c : 99 < rs
  · rw [if_pos c, if_neg (show ¬ rs / 100 = 0 by omega)]
    exact ⟨0, f, u, sl, tr, tu, rfl, rfl, Or.inl rfl, T, U, hN⟩
  · rw [if_neg c, if_pos (show rs / 100 = 0 by omega), sw_1, show rs % 100 = rs by omega]
    by_cases c5 : U 5 5 = -1
    · obtain ⟨f', q1, q2, q6, q7, q8, q9⟩ := pX7_takeIn_iz a2 a4 (v := rs) (by omega) (by omega) (gr_ne a2 c5)
      obtain ⟨g', q3, q4, q5⟩ := pX10_insertOn_iz a2 a6 (by omega) (by omega) (v := rs) (by omega) (by omega) (gr_ne a2 c5) sl
      rw [q1, bd1_some, un2_mk, m9, ifz_eq (by omega) (by omega) (by omega) (by omega), if_neg (by omega), un_1, ← m9, gp_yes a2 a6 (by omega) (by omega) c5, q3, bd1_some, un3_mk]
      exact ⟨1, f, f', _, g', tu, rfl, rfl, Or.inr rfl, ⟨T, (insT U rs).1, a1, (ins_ok a2 (by omega) (by omega) (gr_ne a2 c5)).1, a3, q2, a5.out a1.b q5 (by omega) (by omega) (by omega), q4⟩⟩
    · rw [pX7_takeIn_no a2.b a4 ((gr_full a2.s).2 c5), bd1_some, un2_mk, m9, if_pos rfl, un_0, ← m9, gp_no a2 a6 (by omega) (by omega) c5]
      exact ⟨0, f, u, sl, tr, tu, rfl, rfl, Or.inl rfl, T, U, hN⟩

theorem cmd_5_0 {T U : Tb} {f u tr : Nat → Int32} (hN : N2 T U f u tr) (sl : Int32) (tu : Nat → Int32) {g rs : Int} (hg : gD g 5 0 rs) : cE f u tr sl tu g := by
  obtain ⟨h0, h1, h2, h3, h4, h5, h6⟩ := id hg
  obtain ⟨a1, a2, a3, a4, a5, a6⟩ := id hN
  have ht : pX2_table (iz 0) = some true := by decide
  have hn : pX2_table (iz 1) = some false := by decide
  unfold cE pX5_succeeds pX10_command
  simp only [hg.c, hg.t, hg.r, hg.b, hg.cc, hg.d, hg.xy, hg.rd, hg.rq, iz_0, iz_1, iz_2, iz_3, iz_4, iz_5, iz_6, iz_7, iz_8, iz_9, iz_99, iz_neg, iz_sub]
  rw [ex1t 0 (by omega) (by omega), if_pos (show (0 : Int) ≤ 0 ∧ (1 : Int) ≥ 0 by omega)]
  simp (disch := omega) only [iz_eq, iz_le, iz_lt, bd1_some, reduceIte, ht, hn, cond_true, Int.reduceEq, Int.reduceLE, Int.reduceNeg, Int.reduceSub, Int.reduceAdd]
  have hcb := cnt_b T
  by_cases c : 99 < rs
  · rw [if_pos c, if_neg (show ¬ rs / 100 = 0 by omega)]
    exact ⟨0, f, u, sl, tr, tu, rfl, rfl, Or.inl rfl, T, U, hN⟩
  · rw [if_neg c, if_pos (show rs / 100 = 0 by omega), sw_5, show rs % 100 = rs by omega, pX7_cells_iz a1.b a3, bd1_some, pX10_many_iz a1.b a5 (by omega) (by omega), bd1_some, ifz_eq (by omega) (by omega) (by omega) (by omega), ifz_eq (by omega) (by omega) (by omega) (by omega)]
    by_cases d : cnt T = rs
    · rw [if_pos d, if_pos d, un_1]
      exact ⟨1, f, u, sl, tr, tu, rfl, rfl, Or.inr rfl, T, U, hN⟩
    · rw [if_neg d, if_neg d, un_0]
      exact ⟨0, f, u, sl, tr, tu, rfl, rfl, Or.inl rfl, T, U, hN⟩

theorem cmd_5_1 {T U : Tb} {f u tr : Nat → Int32} (hN : N2 T U f u tr) (sl : Int32) (tu : Nat → Int32) {g rs : Int} (hg : gD g 5 1 rs) : cE f u tr sl tu g := by
  obtain ⟨h0, h1, h2, h3, h4, h5, h6⟩ := id hg
  obtain ⟨a1, a2, a3, a4, a5, a6⟩ := id hN
  have ht : pX2_table (iz 1) = some false := by decide
  have hn : pX2_table (iz 0) = some true := by decide
  unfold cE pX5_succeeds pX10_command
  simp only [hg.c, hg.t, hg.r, hg.b, hg.cc, hg.d, hg.xy, hg.rd, hg.rq, iz_0, iz_1, iz_2, iz_3, iz_4, iz_5, iz_6, iz_7, iz_8, iz_9, iz_99, iz_neg, iz_sub]
  rw [ex1t 1 (by omega) (by omega), if_pos (show (0 : Int) ≤ 1 ∧ (1 : Int) ≥ 1 by omega)]
  simp (disch := omega) only [iz_eq, iz_le, iz_lt, bd1_some, reduceIte, ht, hn, cond_false, Int.reduceEq, Int.reduceLE, Int.reduceNeg, Int.reduceSub, Int.reduceAdd]
  have hcb := cnt_b U
  by_cases c : 99 < rs
  · rw [if_pos c, if_neg (show ¬ rs / 100 = 0 by omega)]
    exact ⟨0, f, u, sl, tr, tu, rfl, rfl, Or.inl rfl, T, U, hN⟩
  · rw [if_neg c, if_pos (show rs / 100 = 0 by omega), sw_5, show rs % 100 = rs by omega, pX7_cells_iz a2.b a4, bd1_some, pX10_many_iz a2.b a6 (by omega) (by omega), bd1_some, ifz_eq (by omega) (by omega) (by omega) (by omega), ifz_eq (by omega) (by omega) (by omega) (by omega)]
    by_cases d : cnt U = rs
    · rw [if_pos d, if_pos d, un_1]
      exact ⟨1, f, u, sl, tr, tu, rfl, rfl, Or.inr rfl, T, U, hN⟩
    · rw [if_neg d, if_neg d, un_0]
      exact ⟨0, f, u, sl, tr, tu, rfl, rfl, Or.inl rfl, T, U, hN⟩

theorem cmd_6_0 {T U : Tb} {f u tr : Nat → Int32} (hN : N2 T U f u tr) (sl : Int32) (tu : Nat → Int32) {g rs : Int} (hg : gD g 6 0 rs) : cE f u tr sl tu g := by
  obtain ⟨h0, h1, h2, h3, h4, h5, h6⟩ := id hg
  obtain ⟨a1, a2, a3, a4, a5, a6⟩ := id hN
  have ht : pX2_table (iz 0) = some true := by decide
  have hn : pX2_table (iz 1) = some false := by decide
  unfold cE pX5_succeeds pX10_command
  simp only [hg.c, hg.t, hg.r, hg.b, hg.cc, hg.d, hg.xy, hg.rd, hg.rq, iz_0, iz_1, iz_2, iz_3, iz_4, iz_5, iz_6, iz_7, iz_8, iz_9, iz_99, iz_neg, iz_sub]
  rw [ex1t 0 (by omega) (by omega), if_pos (show (0 : Int) ≤ 0 ∧ (1 : Int) ≥ 0 by omega)]
  simp (disch := omega) only [iz_eq, iz_le, iz_lt, bd1_some, reduceIte, ht, hn, cond_true, Int.reduceEq, Int.reduceLE, Int.reduceNeg, Int.reduceSub, Int.reduceAdd]
  by_cases c : 99 < rs
  · rw [if_pos c, if_neg (show ¬ rs / 100 = 0 by omega)]
    exact ⟨0, f, u, sl, tr, tu, rfl, rfl, Or.inl rfl, T, U, hN⟩
  · have w1 := cU_b T rs
    have w2 := cU_b T (rs - 1)
    unfold pX10_has
    rw [if_neg c, if_pos (show rs / 100 = 0 by omega), sw_6, show rs % 100 = rs by omega, iz_1, iz_sub, pX7_cellsUpTo_iz a1 a3 (by omega) (by omega), bd1_some, pX7_cellsUpTo_iz a1 a3 (by omega) (by omega), bd1_some, pX10_upTo_iz a1.s a5 (by omega) (by omega) (by omega) (by omega), bd1_some, pX10_upTo_iz a1.s a5 (by omega) (by omega) (by omega) (by omega), bd1_some, ifz_le (by omega) (by omega) (by omega) (by omega), ifz_le (by omega) (by omega) (by omega) (by omega)]
    by_cases d : cU T rs ≤ cU T (rs - 1)
    · rw [if_pos d, if_pos d, un_0, bd1_some, if_pos (show (0 : Int32) = iz 0 by decide)]
      exact ⟨0, f, u, sl, tr, tu, rfl, rfl, Or.inl rfl, T, U, hN⟩
    · rw [if_neg d, if_neg d, ← iz_1, un_1, bd1_some, if_neg (show ¬ (1 : Int32) = iz 0 by decide), iz_1]
      exact ⟨1, f, u, sl, tr, tu, rfl, rfl, Or.inr rfl, T, U, hN⟩

theorem cmd_6_1 {T U : Tb} {f u tr : Nat → Int32} (hN : N2 T U f u tr) (sl : Int32) (tu : Nat → Int32) {g rs : Int} (hg : gD g 6 1 rs) : cE f u tr sl tu g := by
  obtain ⟨h0, h1, h2, h3, h4, h5, h6⟩ := id hg
  obtain ⟨a1, a2, a3, a4, a5, a6⟩ := id hN
  have ht : pX2_table (iz 1) = some false := by decide
  have hn : pX2_table (iz 0) = some true := by decide
  unfold cE pX5_succeeds pX10_command
  simp only [hg.c, hg.t, hg.r, hg.b, hg.cc, hg.d, hg.xy, hg.rd, hg.rq, iz_0, iz_1, iz_2, iz_3, iz_4, iz_5, iz_6, iz_7, iz_8, iz_9, iz_99, iz_neg, iz_sub]
  rw [ex1t 1 (by omega) (by omega), if_pos (show (0 : Int) ≤ 1 ∧ (1 : Int) ≥ 1 by omega)]
  simp (disch := omega) only [iz_eq, iz_le, iz_lt, bd1_some, reduceIte, ht, hn, cond_false, Int.reduceEq, Int.reduceLE, Int.reduceNeg, Int.reduceSub, Int.reduceAdd]
  by_cases c : 99 < rs
  · rw [if_pos c, if_neg (show ¬ rs / 100 = 0 by omega)]
    exact ⟨0, f, u, sl, tr, tu, rfl, rfl, Or.inl rfl, T, U, hN⟩
  · have w1 := cU_b U rs
    have w2 := cU_b U (rs - 1)
    unfold pX10_has
    rw [if_neg c, if_pos (show rs / 100 = 0 by omega), sw_6, show rs % 100 = rs by omega, iz_1, iz_sub, pX7_cellsUpTo_iz a2 a4 (by omega) (by omega), bd1_some, pX7_cellsUpTo_iz a2 a4 (by omega) (by omega), bd1_some, pX10_upTo_iz a2.s a6 (by omega) (by omega) (by omega) (by omega), bd1_some, pX10_upTo_iz a2.s a6 (by omega) (by omega) (by omega) (by omega), bd1_some, ifz_le (by omega) (by omega) (by omega) (by omega), ifz_le (by omega) (by omega) (by omega) (by omega)]
    by_cases d : cU U rs ≤ cU U (rs - 1)
    · rw [if_pos d, if_pos d, un_0, bd1_some, if_pos (show (0 : Int32) = iz 0 by decide)]
      exact ⟨0, f, u, sl, tr, tu, rfl, rfl, Or.inl rfl, T, U, hN⟩
    · rw [if_neg d, if_neg d, ← iz_1, un_1, bd1_some, if_neg (show ¬ (1 : Int32) = iz 0 by decide), iz_1]
      exact ⟨1, f, u, sl, tr, tu, rfl, rfl, Or.inr rfl, T, U, hN⟩

theorem cmd_7_0 {T U : Tb} {f u tr : Nat → Int32} (hN : N2 T U f u tr) (sl : Int32) (tu : Nat → Int32) {g rs : Int} (hg : gD g 7 0 rs) : cE f u tr sl tu g := by
  obtain ⟨h0, h1, h2, h3, h4, h5, h6⟩ := id hg
  obtain ⟨a1, a2, a3, a4, a5, a6⟩ := id hN
  have ht : pX2_table (iz 0) = some true := by decide
  have hn : pX2_table (iz 1) = some false := by decide
  unfold cE pX5_succeeds pX10_command
  simp only [hg.c, hg.t, hg.r, hg.b, hg.cc, hg.d, hg.xy, hg.rd, hg.rq, iz_0, iz_1, iz_2, iz_3, iz_4, iz_5, iz_6, iz_7, iz_8, iz_9, iz_99, iz_neg, iz_sub]
  rw [ex1t 0 (by omega) (by omega), if_pos (show (0 : Int) ≤ 0 ∧ (1 : Int) ≥ 0 by omega)]
  simp (disch := omega) only [iz_eq, iz_le, iz_lt, bd1_some, reduceIte, ht, hn, cond_true, Int.reduceEq, Int.reduceLE, Int.reduceNeg, Int.reduceSub, Int.reduceAdd]
  by_cases c : 99 < rs
  · rw [if_pos c, if_neg (show ¬ rs / 100 = 0 by omega)]
    exact ⟨0, f, u, sl, tr, tu, rfl, rfl, Or.inl rfl, T, U, hN⟩
  · have hm := mx_b a1.b 36
    have hcb := cnt_b T
    have hc0 := cnt_0 a1
    rw [if_neg c, if_pos (show rs / 100 = 0 by omega), sw_7, show rs % 100 = rs by omega, show (0 : Int32) = iz 0 from iz_0, pX7_has_iz a1.b a3 (by omega) (by omega) (by omega) (by omega), bd1_some, pX7_greatest_iz a1.b a3, bd1_some, pX10_many_iz a1.b a5 (by omega) (by omega), bd1_some, ifz_le (by omega) (by omega) (by omega) (by omega), pX10_extreme_1 a1.s a5 (by omega) (by omega), bd1_some, ifz_lt (by omega) (by omega) (by omega) (by omega), ifz_lt (by omega) (by omega) (by omega) (by omega)]
    by_cases d : T 0 0 = -1
    · rw [if_pos d, if_pos rfl, if_pos (hc0.2 d), ← iz_0, un_0']
      exact ⟨0, f, u, sl, tr, tu, rfl, rfl, Or.inl rfl, T, U, hN⟩
    · rw [if_neg d, if_neg iz1_ne, if_neg (fun q => d (hc0.1 q))]
      by_cases d2 : rs < mx T 36
      · rw [if_pos d2, if_pos d2, ← iz_0, un_0']
        exact ⟨0, f, u, sl, tr, tu, rfl, rfl, Or.inl rfl, T, U, hN⟩
      · rw [if_neg d2, if_neg d2, un_1']
        exact ⟨1, f, u, sl, tr, tu, rfl, rfl, Or.inr rfl, T, U, hN⟩

theorem cmd_7_1 {T U : Tb} {f u tr : Nat → Int32} (hN : N2 T U f u tr) (sl : Int32) (tu : Nat → Int32) {g rs : Int} (hg : gD g 7 1 rs) : cE f u tr sl tu g := by
  obtain ⟨h0, h1, h2, h3, h4, h5, h6⟩ := id hg
  obtain ⟨a1, a2, a3, a4, a5, a6⟩ := id hN
  have ht : pX2_table (iz 1) = some false := by decide
  have hn : pX2_table (iz 0) = some true := by decide
  unfold cE pX5_succeeds pX10_command
  simp only [hg.c, hg.t, hg.r, hg.b, hg.cc, hg.d, hg.xy, hg.rd, hg.rq, iz_0, iz_1, iz_2, iz_3, iz_4, iz_5, iz_6, iz_7, iz_8, iz_9, iz_99, iz_neg, iz_sub]
  rw [ex1t 1 (by omega) (by omega), if_pos (show (0 : Int) ≤ 1 ∧ (1 : Int) ≥ 1 by omega)]
  simp (disch := omega) only [iz_eq, iz_le, iz_lt, bd1_some, reduceIte, ht, hn, cond_false, Int.reduceEq, Int.reduceLE, Int.reduceNeg, Int.reduceSub, Int.reduceAdd]
  by_cases c : 99 < rs
  · rw [if_pos c, if_neg (show ¬ rs / 100 = 0 by omega)]
    exact ⟨0, f, u, sl, tr, tu, rfl, rfl, Or.inl rfl, T, U, hN⟩
  · have hm := mx_b a2.b 36
    have hcb := cnt_b U
    have hc0 := cnt_0 a2
    rw [if_neg c, if_pos (show rs / 100 = 0 by omega), sw_7, show rs % 100 = rs by omega, show (0 : Int32) = iz 0 from iz_0, pX7_has_iz a2.b a4 (by omega) (by omega) (by omega) (by omega), bd1_some, pX7_greatest_iz a2.b a4, bd1_some, pX10_many_iz a2.b a6 (by omega) (by omega), bd1_some, ifz_le (by omega) (by omega) (by omega) (by omega), pX10_extreme_1 a2.s a6 (by omega) (by omega), bd1_some, ifz_lt (by omega) (by omega) (by omega) (by omega), ifz_lt (by omega) (by omega) (by omega) (by omega)]
    by_cases d : U 0 0 = -1
    · rw [if_pos d, if_pos rfl, if_pos (hc0.2 d), ← iz_0, un_0']
      exact ⟨0, f, u, sl, tr, tu, rfl, rfl, Or.inl rfl, T, U, hN⟩
    · rw [if_neg d, if_neg iz1_ne, if_neg (fun q => d (hc0.1 q))]
      by_cases d2 : rs < mx U 36
      · rw [if_pos d2, if_pos d2, ← iz_0, un_0']
        exact ⟨0, f, u, sl, tr, tu, rfl, rfl, Or.inl rfl, T, U, hN⟩
      · rw [if_neg d2, if_neg d2, un_1']
        exact ⟨1, f, u, sl, tr, tu, rfl, rfl, Or.inr rfl, T, U, hN⟩

theorem cmd_8_0 {T U : Tb} {f u tr : Nat → Int32} (hN : N2 T U f u tr) (sl : Int32) (tu : Nat → Int32) {g rs : Int} (hg : gD g 8 0 rs) : cE f u tr sl tu g := by
  obtain ⟨h0, h1, h2, h3, h4, h5, h6⟩ := id hg
  obtain ⟨a1, a2, a3, a4, a5, a6⟩ := id hN
  have ht : pX2_table (iz 0) = some true := by decide
  have hn : pX2_table (iz 1) = some false := by decide
  unfold cE pX5_succeeds pX10_command
  simp only [hg.c, hg.t, hg.r, hg.b, hg.cc, hg.d, hg.xy, hg.rd, hg.rq, iz_0, iz_1, iz_2, iz_3, iz_4, iz_5, iz_6, iz_7, iz_8, iz_9, iz_99, iz_neg, iz_sub]
  rw [ex1t 0 (by omega) (by omega), if_pos (show (0 : Int) ≤ 0 ∧ (1 : Int) ≥ 0 by omega)]
  simp (disch := omega) only [iz_eq, iz_le, iz_lt, bd1_some, reduceIte, ht, hn, cond_true, Int.reduceEq, Int.reduceLE, Int.reduceNeg, Int.reduceSub, Int.reduceAdd]
  have w := prs_b T U 99
  rw [pX2_pairsUpTo_iz a1 a3 a2 a4 (by omega) (by omega), bd1_some, pX10_pairsOf_iz a1.s a5 a2.s a6 (by omega) (by omega), bd1_some, ifz_eq (by omega) (by omega) (by omega) (by omega), ifz_eq (by omega) (by omega) (by omega) (by omega)]
  by_cases d : prs T U 99 = rs
  · rw [if_pos d, if_pos d]
    exact ⟨1, f, u, sl, tr, tu, rfl, rfl, Or.inr rfl, T, U, hN⟩
  · rw [if_neg d, if_neg d]
    exact ⟨0, f, u, sl, tr, tu, rfl, rfl, Or.inl rfl, T, U, hN⟩

theorem cmd_8_1 {T U : Tb} {f u tr : Nat → Int32} (hN : N2 T U f u tr) (sl : Int32) (tu : Nat → Int32) {g rs : Int} (hg : gD g 8 1 rs) : cE f u tr sl tu g := by
  obtain ⟨h0, h1, h2, h3, h4, h5, h6⟩ := id hg
  obtain ⟨a1, a2, a3, a4, a5, a6⟩ := id hN
  have ht : pX2_table (iz 1) = some false := by decide
  have hn : pX2_table (iz 0) = some true := by decide
  unfold cE pX5_succeeds pX10_command
  simp only [hg.c, hg.t, hg.r, hg.b, hg.cc, hg.d, hg.xy, hg.rd, hg.rq, iz_0, iz_1, iz_2, iz_3, iz_4, iz_5, iz_6, iz_7, iz_8, iz_9, iz_99, iz_neg, iz_sub]
  rw [ex1t 1 (by omega) (by omega), if_pos (show (0 : Int) ≤ 1 ∧ (1 : Int) ≥ 1 by omega)]
  simp (disch := omega) only [iz_eq, iz_le, iz_lt, bd1_some, reduceIte, ht, hn, cond_false, Int.reduceEq, Int.reduceLE, Int.reduceNeg, Int.reduceSub, Int.reduceAdd]
  exact ⟨0, f, u, sl, tr, tu, rfl, rfl, Or.inl rfl, T, U, hN⟩

theorem cmd_2_0 {T U : Tb} {f u tr : Nat → Int32} (hN : N2 T U f u tr) (sl : Int32) (tu : Nat → Int32) {g rs : Int} (hg : gD g 2 0 rs) : cE f u tr sl tu g := by
  obtain ⟨h0, h1, h2, h3, h4, h5, h6⟩ := id hg
  obtain ⟨a1, a2, a3, a4, a5, a6⟩ := id hN
  have ht : pX2_table (iz 0) = some true := by decide
  have hn : pX2_table (iz 1) = some false := by decide
  unfold cE pX5_succeeds pX10_command
  simp only [hg.c, hg.t, hg.r, hg.b, hg.cc, hg.d, hg.xy, hg.rd, hg.rq, iz_0, iz_1, iz_2, iz_3, iz_4, iz_5, iz_6, iz_7, iz_8, iz_9, iz_99, iz_neg, iz_sub]
  rw [ex1t 0 (by omega) (by omega), if_pos (show (0 : Int) ≤ 0 ∧ (1 : Int) ≥ 0 by omega)]
  simp (disch := omega) only [iz_eq, iz_le, iz_lt, bd1_some, reduceIte, ht, hn, cond_true, Int.reduceEq, Int.reduceLE, Int.reduceNeg, Int.reduceSub, Int.reduceAdd]
  by_cases c : rs % 10 = 0
  · obtain ⟨i, hi⟩ : ∃ i, i = rs / 100 := ⟨_, rfl⟩
    obtain ⟨j, hj⟩ : ∃ j, j = rs / 10 % 10 := ⟨_, rfl⟩
    have hsub : (1 - iz 0) = iz 1 := by decide
    rw [← hi, ← hj]
    unfold pX5_takesCell
    rw [if_pos c, if_pos c, pX9_rowOf_iz (by omega) (by omega) (by omega) (by omega), bd1_some, pX9_columnOf_iz (by omega) (by omega) (by omega) (by omega), bd1_some, ht, bd1_some, cond_true, pX7_has_iz a1.b a3 (by omega) (by omega) (by omega) (by omega), bd1_some, pX10_isCell_iz a1.s a5 (by omega) (by omega) (by omega) (by omega) (by omega) (by omega), bd1_some, bd1_some]
    by_cases d : T i j = -1
    · rw [if_pos d, if_pos rfl, if_pos (show iz 0 = 0 by decide), bd1_some, un3_mk, if_pos (by decide)]
      exact ⟨0, f, u, sl, tr, tu, rfl, rfl, Or.inl rfl, T, U, hN⟩
    · have hb := a1.1 i j d
      rw [if_neg d, if_neg iz1_ne, if_neg (show ¬ iz 1 = 0 by decide)]
      obtain ⟨f', q1, q2⟩ := pX7_takeAway_iz a1 a3 d
      obtain ⟨g', q3, q4, q5⟩ := pX10_removeOn_iz a1 a5 (by omega) (by omega) d
      rw [if_pos (show iz 2 = 2 by decide), cond_true, q1, bd1_some, un2_mk, bd1_some, un3_mk, if_neg (by decide), pX10_get_iz a5 (by omega) (by omega) d (by omega) (by omega) (by omega) (by omega), bd1_some, q3, bd1_some, un2_mk]
      exact ⟨1, f', u, sl, g', tu, rfl, rfl, Or.inr rfl, ⟨remT T i j, U, rem_ok a1 d, a2, q2, a4, q4, a6.out a2.b q5 (by omega) (by omega) (by omega)⟩⟩
  · rw [if_neg c, if_neg c]
    exact ⟨0, f, u, sl, tr, tu, rfl, rfl, Or.inl rfl, T, U, hN⟩

theorem cmd_2_1 {T U : Tb} {f u tr : Nat → Int32} (hN : N2 T U f u tr) (sl : Int32) (tu : Nat → Int32) {g rs : Int} (hg : gD g 2 1 rs) : cE f u tr sl tu g := by
  obtain ⟨h0, h1, h2, h3, h4, h5, h6⟩ := id hg
  obtain ⟨a1, a2, a3, a4, a5, a6⟩ := id hN
  have ht : pX2_table (iz 1) = some false := by decide
  have hn : pX2_table (iz 0) = some true := by decide
  unfold cE pX5_succeeds pX10_command
  simp only [hg.c, hg.t, hg.r, hg.b, hg.cc, hg.d, hg.xy, hg.rd, hg.rq, iz_0, iz_1, iz_2, iz_3, iz_4, iz_5, iz_6, iz_7, iz_8, iz_9, iz_99, iz_neg, iz_sub]
  rw [ex1t 1 (by omega) (by omega), if_pos (show (0 : Int) ≤ 1 ∧ (1 : Int) ≥ 1 by omega)]
  simp (disch := omega) only [iz_eq, iz_le, iz_lt, bd1_some, reduceIte, ht, hn, cond_false, Int.reduceEq, Int.reduceLE, Int.reduceNeg, Int.reduceSub, Int.reduceAdd]
  by_cases c : rs % 10 = 0
  · obtain ⟨i, hi⟩ : ∃ i, i = rs / 100 := ⟨_, rfl⟩
    obtain ⟨j, hj⟩ : ∃ j, j = rs / 10 % 10 := ⟨_, rfl⟩
    have hsub : (1 - iz 1) = iz 0 := by decide
    rw [← hi, ← hj]
    unfold pX5_takesCell
    rw [if_pos c, if_pos c, pX9_rowOf_iz (by omega) (by omega) (by omega) (by omega), bd1_some, pX9_columnOf_iz (by omega) (by omega) (by omega) (by omega), bd1_some, ht, bd1_some, cond_false, pX7_has_iz a2.b a4 (by omega) (by omega) (by omega) (by omega), bd1_some, pX10_isCell_iz a2.s a6 (by omega) (by omega) (by omega) (by omega) (by omega) (by omega), bd1_some, bd1_some]
    by_cases d : U i j = -1
    · rw [if_pos d, if_pos rfl, if_pos (show iz 0 = 0 by decide), bd1_some, un3_mk, if_pos (by decide)]
      exact ⟨0, f, u, sl, tr, tu, rfl, rfl, Or.inl rfl, T, U, hN⟩
    · have hb := a2.1 i j d
      rw [if_neg d, if_neg iz1_ne, if_neg (show ¬ iz 1 = 0 by decide)]
      obtain ⟨f', q1, q2⟩ := pX7_takeAway_iz a2 a4 d
      obtain ⟨g', q3, q4, q5⟩ := pX10_removeOn_iz a2 a6 (by omega) (by omega) d
      rw [if_pos (show iz 2 = 2 by decide), cond_false, q1, bd1_some, un2_mk, bd1_some, un3_mk, if_neg (by decide), pX10_get_iz a6 (by omega) (by omega) d (by omega) (by omega) (by omega) (by omega), bd1_some, q3, bd1_some, un2_mk]
      exact ⟨1, f, f', sl, g', tu, rfl, rfl, Or.inr rfl, ⟨T, remT U i j, a1, rem_ok a2 d, a3, q2, a5.out a1.b q5 (by omega) (by omega) (by omega), q4⟩⟩
  · rw [if_neg c, if_neg c]
    exact ⟨0, f, u, sl, tr, tu, rfl, rfl, Or.inl rfl, T, U, hN⟩

theorem cmd_3_0 {T U : Tb} {f u tr : Nat → Int32} (hN : N2 T U f u tr) (sl : Int32) (tu : Nat → Int32) {g rs : Int} (hg : gD g 3 0 rs) : cE f u tr sl tu g := by
  obtain ⟨h0, h1, h2, h3, h4, h5, h6⟩ := id hg
  obtain ⟨a1, a2, a3, a4, a5, a6⟩ := id hN
  have ht : pX2_table (iz 0) = some true := by decide
  have hn : pX2_table (iz 1) = some false := by decide
  unfold cE pX5_succeeds pX10_command
  simp only [hg.c, hg.t, hg.r, hg.b, hg.cc, hg.d, hg.xy, hg.rd, hg.rq, iz_0, iz_1, iz_2, iz_3, iz_4, iz_5, iz_6, iz_7, iz_8, iz_9, iz_99, iz_neg, iz_sub]
  rw [ex1t 0 (by omega) (by omega), if_pos (show (0 : Int) ≤ 0 ∧ (1 : Int) ≥ 0 by omega)]
  simp (disch := omega) only [iz_eq, iz_le, iz_lt, bd1_some, reduceIte, ht, hn, cond_true, Int.reduceEq, Int.reduceLE, Int.reduceNeg, Int.reduceSub, Int.reduceAdd]
  by_cases c : rs % 10 = 0
  · obtain ⟨i, hi⟩ : ∃ i, i = rs / 100 := ⟨_, rfl⟩
    obtain ⟨j, hj⟩ : ∃ j, j = rs / 10 % 10 := ⟨_, rfl⟩
    have hsub : (1 - iz 0) = iz 1 := by decide
    rw [← hi, ← hj]
    unfold pX5_takesCell
    rw [if_pos c, if_pos c, pX9_rowOf_iz (by omega) (by omega) (by omega) (by omega), bd1_some, pX9_columnOf_iz (by omega) (by omega) (by omega) (by omega), bd1_some, ht, bd1_some, cond_true, pX7_has_iz a1.b a3 (by omega) (by omega) (by omega) (by omega), bd1_some, pX10_isCell_iz a1.s a5 (by omega) (by omega) (by omega) (by omega) (by omega) (by omega), bd1_some, bd1_some]
    by_cases d : T i j = -1
    · rw [if_pos d, if_pos rfl, if_pos (show iz 0 = 0 by decide), bd1_some, un3_mk, if_pos (by decide)]
      exact ⟨0, f, u, sl, tr, tu, rfl, rfl, Or.inl rfl, T, U, hN⟩
    · have hb := a1.1 i j d
      rw [if_neg d, if_neg iz1_ne, if_neg (show ¬ iz 1 = 0 by decide)]
      rw [if_neg (show ¬ iz 3 = 2 by decide), hsub, hn, bd1_some, cond_false, pX7_isFull_iz a2.b a4, bd1_some]
      by_cases c5 : U 5 5 = -1
      · obtain ⟨x, f', u', now1, now', sl', y, q1, q2, q3, q4, q5⟩ := mover_0 hN d c5 sl
        rw [if_pos c5, if_pos (show iz 0 = 0 by decide), q1, bd1_some, un3_mk, bd1_some, un3_mk, if_neg (by decide), ← m9, gp_yes a2 a6 (by omega) (by omega) c5, q2, bd1_some, q3, bd1_some, un2_mk, q4, bd1_some, un3_mk]
        exact ⟨1, f', u', sl', now', tu, rfl, rfl, Or.inr rfl, ⟨_, _, q5⟩⟩
      · rw [if_neg c5, if_neg (show ¬ iz 1 = 0 by decide), bd1_some, un3_mk, if_pos (by decide), ← m9, gp_no a2 a6 (by omega) (by omega) c5]
        exact ⟨0, f, u, sl, tr, tu, rfl, rfl, Or.inl rfl, T, U, hN⟩
  · rw [if_neg c, if_neg c]
    exact ⟨0, f, u, sl, tr, tu, rfl, rfl, Or.inl rfl, T, U, hN⟩

theorem cmd_3_1 {T U : Tb} {f u tr : Nat → Int32} (hN : N2 T U f u tr) (sl : Int32) (tu : Nat → Int32) {g rs : Int} (hg : gD g 3 1 rs) : cE f u tr sl tu g := by
  obtain ⟨h0, h1, h2, h3, h4, h5, h6⟩ := id hg
  obtain ⟨a1, a2, a3, a4, a5, a6⟩ := id hN
  have ht : pX2_table (iz 1) = some false := by decide
  have hn : pX2_table (iz 0) = some true := by decide
  unfold cE pX5_succeeds pX10_command
  simp only [hg.c, hg.t, hg.r, hg.b, hg.cc, hg.d, hg.xy, hg.rd, hg.rq, iz_0, iz_1, iz_2, iz_3, iz_4, iz_5, iz_6, iz_7, iz_8, iz_9, iz_99, iz_neg, iz_sub]
  rw [ex1t 1 (by omega) (by omega), if_pos (show (0 : Int) ≤ 1 ∧ (1 : Int) ≥ 1 by omega)]
  simp (disch := omega) only [iz_eq, iz_le, iz_lt, bd1_some, reduceIte, ht, hn, cond_false, Int.reduceEq, Int.reduceLE, Int.reduceNeg, Int.reduceSub, Int.reduceAdd]
  by_cases c : rs % 10 = 0
  · obtain ⟨i, hi⟩ : ∃ i, i = rs / 100 := ⟨_, rfl⟩
    obtain ⟨j, hj⟩ : ∃ j, j = rs / 10 % 10 := ⟨_, rfl⟩
    have hsub : (1 - iz 1) = iz 0 := by decide
    rw [← hi, ← hj]
    unfold pX5_takesCell
    rw [if_pos c, if_pos c, pX9_rowOf_iz (by omega) (by omega) (by omega) (by omega), bd1_some, pX9_columnOf_iz (by omega) (by omega) (by omega) (by omega), bd1_some, ht, bd1_some, cond_false, pX7_has_iz a2.b a4 (by omega) (by omega) (by omega) (by omega), bd1_some, pX10_isCell_iz a2.s a6 (by omega) (by omega) (by omega) (by omega) (by omega) (by omega), bd1_some, bd1_some]
    by_cases d : U i j = -1
    · rw [if_pos d, if_pos rfl, if_pos (show iz 0 = 0 by decide), bd1_some, un3_mk, if_pos (by decide)]
      exact ⟨0, f, u, sl, tr, tu, rfl, rfl, Or.inl rfl, T, U, hN⟩
    · have hb := a2.1 i j d
      rw [if_neg d, if_neg iz1_ne, if_neg (show ¬ iz 1 = 0 by decide)]
      rw [if_neg (show ¬ iz 3 = 2 by decide), hsub, hn, bd1_some, cond_true, pX7_isFull_iz a1.b a3, bd1_some]
      by_cases c5 : T 5 5 = -1
      · obtain ⟨x, f', u', now1, now', sl', y, q1, q2, q3, q4, q5⟩ := mover_1 hN d c5 sl
        rw [if_pos c5, if_pos (show iz 0 = 0 by decide), q1, bd1_some, un3_mk, bd1_some, un3_mk, if_neg (by decide), ← m9, gp_yes a1 a5 (by omega) (by omega) c5, q2, bd1_some, q3, bd1_some, un2_mk, q4, bd1_some, un3_mk]
        exact ⟨1, u', f', sl', now', tu, rfl, rfl, Or.inr rfl, ⟨_, _, q5⟩⟩
      · rw [if_neg c5, if_neg (show ¬ iz 1 = 0 by decide), bd1_some, un3_mk, if_pos (by decide), ← m9, gp_no a1 a5 (by omega) (by omega) c5]
        exact ⟨0, f, u, sl, tr, tu, rfl, rfl, Or.inl rfl, T, U, hN⟩
  · rw [if_neg c, if_neg c]
    exact ⟨0, f, u, sl, tr, tu, rfl, rfl, Or.inl rfl, T, U, hN⟩
