-- simulations
theorem r31 (y : Int64) : ∃ rr : Int, 0 ≤ rr ∧ rr < 2147483648 ∧ ((y.toUInt64 >>> ((33 : Int32).toInt64.toUInt64 &&& Int64.toUInt64 63)).toInt64).toInt32 = iz rr := by
  have e : ((33 : Int32).toInt64.toUInt64 &&& Int64.toUInt64 63) = (33 : UInt64) := by decide
  rw [e]
  have hlt : (y.toUInt64 >>> (33 : UInt64)).toNat < 2147483648 := by
    rw [UInt64.toNat_shiftRight, show (33 : UInt64).toNat % 64 = 33 by decide, Nat.shiftRight_eq_div_pow]
    have := y.toUInt64.toNat_lt
    omega
  have h1 : ((y.toUInt64 >>> (33 : UInt64)).toInt64).toInt = ((y.toUInt64 >>> (33 : UInt64)).toNat : Int) := by
    show ((y.toUInt64 >>> (33 : UInt64)).toInt64.toBitVec).toInt = _
    rw [UInt64.toBitVec_toInt64, BitVec.toInt_eq_toNat_of_lt]
    · rfl
    · show 2 * (y.toUInt64 >>> (33 : UInt64)).toNat < 2 ^ 64
      omega
  refine ⟨(y.toUInt64 >>> (33 : UInt64)).toNat, by omega, by omega, ?_⟩
  apply Int32.toInt_inj.mp
  rw [Int64.toInt_toInt32, h1, iz_toInt (by omega) (by omega)]
  exact Int.bmod_eq_of_le_mul_two (by omega) (by omega)
theorem cU_lt {V : Tb} (hK : tOK V) {k : Int} (h1 : 0 ≤ k) (h2 : k < cnt V) : ∃ i j, V i j ≠ -1 ∧ rk V i j = k := by
  have h3 := cU_cnt hK
  have hf : ∀ n : Nat, k < cU V n → ∃ m, isMin (fun v => wc V 0 0 5 5 v) k m := by
    intro n
    induction n with
    | zero =>
      intro h
      exact ⟨0, by omega, h, fun v q1 q2 => by omega⟩
    | succ n ih =>
      intro h
      by_cases c : k < cU V n
      · exact ih c
      · refine ⟨((n + 1 : Nat) : Int), by omega, h, fun v q1 q2 => ?_⟩
        have := cU_mono V (show v ≤ (n : Int) by omega)
        have e : wc V 0 0 5 5 v = cU V v := rfl
        show wc V 0 0 5 5 v ≤ k
        omega
  obtain ⟨m, hm⟩ := hf 99 (by show k < cU V 99; omega)
  exact rk_ex hK.b h1 hm

theorem rnd_both {T U : Tb} {f u tr : Nat → Int32} (hN : N2 T U f u tr) {m i : Int} (hm : i < m) (hi : 0 ≤ i) (hm2 : m ≤ 60) (x : Int64) (sl : Int32) :
    ∃ f' u' sl' tr', pX9_simulate_L24 (iz m) (iz i) x f u = some (.inl (iz (i + 1), x * 6364136223846793005 + 1442695040888963407, f', u')) ∧ pX10_simulate_L47 (iz m) (iz i) x sl tr = some (.inl (iz (i + 1), x * 6364136223846793005 + 1442695040888963407, sl', tr')) ∧ iN f' u' tr' := by
  obtain ⟨a1, a2, a3, a4, a5, a6⟩ := hN
  obtain ⟨rr, r1, r2, r3⟩ := r31 (x * 6364136223846793005 + 1442695040888963407)
  have e2 : irm (iz rr) 2 = iz (rr % 2) := by rw [iz_2, iz_rem r1 r2 (by omega) (by omega)]
  have e4 : irm (iz rr / 2) 4 = iz (rr / 2 % 4) := by rw [iz_2, iz_4, iz_divn r1 r2 (by omega) (by omega), iz_rem (by omega) (by omega) (by omega) (by omega)]
  have e8 : iz rr / 8 = iz (rr / 8) := by rw [iz_8, iz_divn r1 r2 (by omega) (by omega)]
  have e100 : irm (iz (rr / 8)) 100 = iz (rr / 8 % 100) := by rw [iz_100, iz_rem (by omega) (by omega) (by omega) (by omega)]
  have hX : pX9_simulate_L24 (iz m) (iz i) x f u = bd1 (pX9_simulateRound f u (iz rr)) (un2 (fun w18 w19 => some (.inl (iz (i + 1), x * 6364136223846793005 + 1442695040888963407, w18, w19)))) := by
    unfold pX9_simulate_L24
    rw [ifz_le (by omega) (by omega) (by omega) (by omega), if_neg (by omega), r3, iz_1, iz_add]
  rw [hX]
  unfold pX9_simulateRound pX10_simulate_L47
  rw [ifz_le (by omega) (by omega) (by omega) (by omega), if_neg (by omega), r3]
  simp only [e2, e4, e8, e100, iz_1, iz_add]
  have hv : 0 ≤ rr / 8 % 100 ∧ rr / 8 % 100 ≤ 99 := by omega
  have h01 : rr % 2 = 0 ∨ rr % 2 = 1 := by omega
  rcases h01 with h | h
  · have ht : pX2_table (iz 0) = some true := by decide
    have hcb := cnt_b T
    rw [h, ht, bd1_some, cond_true, pX7_cells_iz a1.b a3, bd1_some, pX10_many_iz a1.b a5 (by omega) (by omega), bd1_some, bd1_some]
    by_cases c1 : rr / 2 % 4 = 0
    · rw [c1, if_pos (show iz 0 = 0 by decide), if_pos (show iz 0 = 0 by decide), iz_0, ifz_le (by omega) (by omega) (by omega) (by omega), ifz_le (by omega) (by omega) (by omega) (by omega)]
      by_cases c2 : cnt T ≤ 0
      · rw [if_pos c2, if_pos c2, ← iz_0]
        by_cases c5 : T 5 5 = -1
        · obtain ⟨f', q1, q2, -⟩ := pX7_takeIn_iz a1 a3 hv.1 hv.2 (gr_ne a1 c5)
          obtain ⟨g', q3, q4, q5⟩ := pX10_insertOn_iz a1 a5 (by omega) (by omega) hv.1 hv.2 (gr_ne a1 c5) sl
          rw [pX7_isFull_iz a1.b a3, bd1_some, if_pos c5, iz_0, if_pos rfl, q1, bd1_some, un2_mk, bd1_some, un2_mk, gp_yes a1 a5 (by omega) (by omega) c5, q3, bd1_some, un3_mk]
          exact ⟨f', u, _, g', rfl, rfl, ⟨(insT T (rr / 8 % 100)).1, U, (ins_ok a1 hv.1 hv.2 (gr_ne a1 c5)).1, a2, q2, a4, q4, a6.out a2.b q5 (by omega) (by omega) (by omega)⟩⟩
        · rw [pX7_isFull_iz a1.b a3, bd1_some, if_neg c5, iz_0, if_neg iz1_ne, bd1_some, un2_mk, gp_no a1 a5 (by omega) (by omega) c5]
          exact ⟨f, u, sl, tr, rfl, rfl, ⟨T, U, a1, a2, a3, a4, a5, a6⟩⟩
      · have hk : 0 ≤ rr / 8 % cnt T ∧ rr / 8 % cnt T < cnt T := ⟨Int.emod_nonneg _ (by omega), Int.emod_lt_of_pos _ (by omega)⟩
        obtain ⟨a, b, hc, hr⟩ := cU_lt a1 hk.1 hk.2
        have hb := a1.1 a b hc
        obtain ⟨f', q1, q2⟩ := pX7_takeAway_iz a1 a3 hc
        obtain ⟨g', q3, q4, q5⟩ := pX10_removeOn_iz a1 a5 (by omega) (by omega) hc
        rw [if_neg c2, if_neg c2, rmI_iz (by omega) (by omega) (by omega) (by omega), bd1_some, bd1_some, (pX7_kthPlace_yes a1 a3 hk.1 (by omega) hc hr).1, bd1_some, pX9_rowOf_iz (by omega) (by omega) (by omega) (by omega), bd1_some, pX9_columnOf_iz (by omega) (by omega) (by omega) (by omega), bd1_some, q1, bd1_some, un2_mk, bd1_some, un2_mk, pX10_kthPlace_yes a1.s a5 (by omega) (by omega) ⟨by omega, by omega⟩ hc hr, bd1_some, iz_10, iz_divn (by omega) (by omega) (by omega) (by omega), iz_rem (by omega) (by omega) (by omega) (by omega), show (10 * a + b) / 10 = a by omega, show (10 * a + b) % 10 = b by omega, q3, bd1_some, un2_mk]
        exact ⟨f', u, sl, g', rfl, rfl, ⟨remT T a b, U, rem_ok a1 hc, a2, q2, a4, q4, a6.out a2.b q5 (by omega) (by omega) (by omega)⟩⟩
    · have hne : ¬ iz (rr / 2 % 4) = 0 := by
        rw [iz_0, iz_eq (by omega) (by omega) (by omega) (by omega)]
        exact c1
      rw [if_neg hne, if_neg hne]
      by_cases c5 : T 5 5 = -1
      · obtain ⟨f', q1, q2, -⟩ := pX7_takeIn_iz a1 a3 hv.1 hv.2 (gr_ne a1 c5)
        obtain ⟨g', q3, q4, q5⟩ := pX10_insertOn_iz a1 a5 (by omega) (by omega) hv.1 hv.2 (gr_ne a1 c5) sl
        rw [pX7_isFull_iz a1.b a3, bd1_some, if_pos c5, iz_0, if_pos rfl, q1, bd1_some, un2_mk, bd1_some, un2_mk, gp_yes a1 a5 (by omega) (by omega) c5, q3, bd1_some, un3_mk]
        exact ⟨f', u, _, g', rfl, rfl, ⟨(insT T (rr / 8 % 100)).1, U, (ins_ok a1 hv.1 hv.2 (gr_ne a1 c5)).1, a2, q2, a4, q4, a6.out a2.b q5 (by omega) (by omega) (by omega)⟩⟩
      · rw [pX7_isFull_iz a1.b a3, bd1_some, if_neg c5, iz_0, if_neg iz1_ne, bd1_some, un2_mk, gp_no a1 a5 (by omega) (by omega) c5]
        exact ⟨f, u, sl, tr, rfl, rfl, ⟨T, U, a1, a2, a3, a4, a5, a6⟩⟩
  · have ht : pX2_table (iz 1) = some false := by decide
    have hcb := cnt_b U
    rw [h, ht, bd1_some, cond_false, pX7_cells_iz a2.b a4, bd1_some, pX10_many_iz a2.b a6 (by omega) (by omega), bd1_some, bd1_some]
    by_cases c1 : rr / 2 % 4 = 0
    · rw [c1, if_pos (show iz 0 = 0 by decide), if_pos (show iz 0 = 0 by decide), iz_0, ifz_le (by omega) (by omega) (by omega) (by omega), ifz_le (by omega) (by omega) (by omega) (by omega)]
      by_cases c2 : cnt U ≤ 0
      · rw [if_pos c2, if_pos c2, ← iz_0]
        by_cases c5 : U 5 5 = -1
        · obtain ⟨f', q1, q2, -⟩ := pX7_takeIn_iz a2 a4 hv.1 hv.2 (gr_ne a2 c5)
          obtain ⟨g', q3, q4, q5⟩ := pX10_insertOn_iz a2 a6 (by omega) (by omega) hv.1 hv.2 (gr_ne a2 c5) sl
          rw [pX7_isFull_iz a2.b a4, bd1_some, if_pos c5, iz_0, if_pos rfl, q1, bd1_some, un2_mk, bd1_some, un2_mk, gp_yes a2 a6 (by omega) (by omega) c5, q3, bd1_some, un3_mk]
          exact ⟨f, f', _, g', rfl, rfl, ⟨T, (insT U (rr / 8 % 100)).1, a1, (ins_ok a2 hv.1 hv.2 (gr_ne a2 c5)).1, a3, q2, a5.out a1.b q5 (by omega) (by omega) (by omega), q4⟩⟩
        · rw [pX7_isFull_iz a2.b a4, bd1_some, if_neg c5, iz_0, if_neg iz1_ne, bd1_some, un2_mk, gp_no a2 a6 (by omega) (by omega) c5]
          exact ⟨f, u, sl, tr, rfl, rfl, ⟨T, U, a1, a2, a3, a4, a5, a6⟩⟩
      · have hk : 0 ≤ rr / 8 % cnt U ∧ rr / 8 % cnt U < cnt U := ⟨Int.emod_nonneg _ (by omega), Int.emod_lt_of_pos _ (by omega)⟩
        obtain ⟨a, b, hc, hr⟩ := cU_lt a2 hk.1 hk.2
        have hb := a2.1 a b hc
        obtain ⟨f', q1, q2⟩ := pX7_takeAway_iz a2 a4 hc
        obtain ⟨g', q3, q4, q5⟩ := pX10_removeOn_iz a2 a6 (by omega) (by omega) hc
        rw [if_neg c2, if_neg c2, rmI_iz (by omega) (by omega) (by omega) (by omega), bd1_some, bd1_some, (pX7_kthPlace_yes a2 a4 hk.1 (by omega) hc hr).1, bd1_some, pX9_rowOf_iz (by omega) (by omega) (by omega) (by omega), bd1_some, pX9_columnOf_iz (by omega) (by omega) (by omega) (by omega), bd1_some, q1, bd1_some, un2_mk, bd1_some, un2_mk, pX10_kthPlace_yes a2.s a6 (by omega) (by omega) ⟨by omega, by omega⟩ hc hr, bd1_some, iz_10, iz_divn (by omega) (by omega) (by omega) (by omega), iz_rem (by omega) (by omega) (by omega) (by omega), show (10 * a + b) / 10 = a by omega, show (10 * a + b) % 10 = b by omega, q3, bd1_some, un2_mk]
        exact ⟨f, f', sl, g', rfl, rfl, ⟨T, remT U a b, a1, rem_ok a2 hc, a3, q2, a5.out a1.b q5 (by omega) (by omega) (by omega), q4⟩⟩
    · have hne : ¬ iz (rr / 2 % 4) = 0 := by
        rw [iz_0, iz_eq (by omega) (by omega) (by omega) (by omega)]
        exact c1
      rw [if_neg hne, if_neg hne]
      by_cases c5 : U 5 5 = -1
      · obtain ⟨f', q1, q2, -⟩ := pX7_takeIn_iz a2 a4 hv.1 hv.2 (gr_ne a2 c5)
        obtain ⟨g', q3, q4, q5⟩ := pX10_insertOn_iz a2 a6 (by omega) (by omega) hv.1 hv.2 (gr_ne a2 c5) sl
        rw [pX7_isFull_iz a2.b a4, bd1_some, if_pos c5, iz_0, if_pos rfl, q1, bd1_some, un2_mk, bd1_some, un2_mk, gp_yes a2 a6 (by omega) (by omega) c5, q3, bd1_some, un3_mk]
        exact ⟨f, f', _, g', rfl, rfl, ⟨T, (insT U (rr / 8 % 100)).1, a1, (ins_ok a2 hv.1 hv.2 (gr_ne a2 c5)).1, a3, q2, a5.out a1.b q5 (by omega) (by omega) (by omega), q4⟩⟩
      · rw [pX7_isFull_iz a2.b a4, bd1_some, if_neg c5, iz_0, if_neg iz1_ne, bd1_some, un2_mk, gp_no a2 a6 (by omega) (by omega) c5]
        exact ⟨f, u, sl, tr, rfl, rfl, ⟨T, U, a1, a2, a3, a4, a5, a6⟩⟩

theorem sim_both {m : Int} (hm0 : 0 ≤ m) (hm : m ≤ 60) : ∀ (n k : Nat) (i : Int) (x : Int64) (sl : Int32) (f u tr : Nat → Int32), iN f u tr → 0 ≤ i → i + n = m → n < k →
    ∃ f' u' sl' tr', lpI k (un4 (pX9_simulate_L24 (iz m))) (iz i, x, f, u) = some (f', u') ∧ lpI k (un4 (pX10_simulate_L47 (iz m))) (iz i, x, sl, tr) = some (sl', tr') ∧ iN f' u' tr' := by
  intro n
  induction n with
  | zero =>
    intro k i x sl f u tr hN h1 h2 h3
    obtain ⟨k, rfl⟩ : ∃ k', k = k' + 1 := ⟨k - 1, by omega⟩
    refine ⟨f, u, sl, tr, ?_, ?_, hN⟩
    · rw [lpI, un4_mk]
      unfold pX9_simulate_L24
      rw [ifz_le (by omega) (by omega) (by omega) (by omega), if_pos (by omega)]
    · rw [lpI, un4_mk]
      unfold pX10_simulate_L47
      rw [ifz_le (by omega) (by omega) (by omega) (by omega), if_pos (by omega)]
  | succ n ih =>
    intro k i x sl f u tr hN h1 h2 h3
    obtain ⟨k, rfl⟩ : ∃ k', k = k' + 1 := ⟨k - 1, by omega⟩
    obtain ⟨T, U, hN2⟩ := hN
    obtain ⟨f1, u1, sl1, tr1, q1, q2, q3⟩ := rnd_both hN2 (m := m) (i := i) (by omega) h1 hm x sl
    obtain ⟨f', u', sl', tr', q4, q5, q6⟩ := ih k (i + 1) (x * 6364136223846793005 + 1442695040888963407) sl1 f1 u1 tr1 q3 (by omega) (by omega) (by omega)
    refine ⟨f', u', sl', tr', ?_, ?_, q6⟩
    · rw [lpI, un4_mk, q1]
      exact q4
    · rw [lpI, un4_mk, q2]
      exact q5
theorem cc_simulate {nf ns now : Nat → Int32} (h : iN nf ns now) (rf sl : Int32) (p0 : Int64) (p1 : Int32) (tf ts tr : Nat → Int32) :
    (∃ x tf' ts' sl' tr', pX9_simulate nf ns tf ts p0 p1 = some (.inr (x, tf', ts')) ∧ pX10_simulate rf sl now tr p0 p1 = some (x, 0, sl', tr')) ∨ (pX9_simulate nf ns tf ts p0 p1 = some (.inl (1, tf, ts)) ∧ pX10_simulate rf sl now tr p0 p1 = some (0, 1, sl, tr)) := by
  obtain ⟨m, hm, rfl⟩ := arg_iz p1
  obtain ⟨T, U, a1, a2, a3, a4, a5, a6⟩ := h
  have e60 : (60 : Int32) = iz 60 := by decide
  by_cases c : 1 ≤ m ∧ m ≤ 60
  · obtain ⟨f1, u1, j1, j2, j3⟩ := pX2_copyFrom_iz (f := tf) (u := ts) a3 a4
    obtain ⟨f', u', sl', tr', q1, q2, T', U', b1, b2, b3, b4, b5, b6⟩ := sim_both (m := m) (by omega) c.2 m.toNat lpF 0 p0 sl f1 u1 (cpW now tr 0 0 84) ⟨T, U, a1, a2, j2, j3, a5.cp84 tr a1.b (by omega) (by omega), a6.cp84 tr a2.b (by omega) (by omega)⟩ (by omega) (by omega) (by unfold lpF; omega)
    have hT0 : pX2_table 0 = some true := by decide
    have hT1 : pX2_table 1 = some false := by decide
    refine Or.inl ⟨iz (sm36 T' + sm36 U'), f', u', sl', tr', ?_, ?_⟩
    · unfold pX9_simulate
      rw [iz_1, e60, rr_yes hm ⟨by omega, by omega⟩ ⟨by omega, by omega⟩ c, bdE_r, j1, bd1_some, un2_mk, show (0 : Int32) = iz 0 from iz_0, q1, bd1_some, un2_mk, ← iz_0, hT0, bd1_some, cond_true, pX7_sum_iz b1.b b3, bd1_some, ← iz_1, hT1, bd1_some, cond_false, pX7_sum_iz b2.b b4, bd1_some, iz_add]
    · unfold pX10_simulate
      rw [in2_yes (x := 1) (y := 60) hm ⟨by omega, by omega⟩ ⟨by omega, by omega⟩ (by decide) (by decide) c rfl, rf_0, cp84, bd1_some]
      simp only [iz_0, iz_1]
      rw [q2, bd1_some, un2_mk, pX10_sumOf_iz b1.s b5 (by omega) (by omega), bd1_some, pX10_sumOf_iz b2.s b6 (by omega) (by omega), bd1_some, iz_add]
  · refine Or.inr ⟨?_, ?_⟩
    · unfold pX9_simulate
      rw [iz_1, e60, rr_no hm ⟨by omega, by omega⟩ ⟨by omega, by omega⟩ (by omega), bdE_l]
    · unfold pX10_simulate
      rw [in2_no (x := 1) (y := 60) hm ⟨by omega, by omega⟩ ⟨by omega, by omega⟩ (by decide) (by decide) c, rf_1]
