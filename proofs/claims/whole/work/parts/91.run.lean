-- running scripts
theorem cmd_all {f u tr : Nat → Int32} (hN : iN f u tr) (sl : Int32) (tu : Nat → Int32) {g : Int} (h1 : 0 ≤ g) (h2 : g < 100000) : cE f u tr sl tu g := by
  obtain ⟨T, U, hN2⟩ := hN
  obtain ⟨cm, hcm⟩ : ∃ cm, cm = g / 10000 := ⟨_, rfl⟩
  obtain ⟨t, ht⟩ : ∃ t, t = g / 1000 % 10 := ⟨_, rfl⟩
  have hg := gD_of h1 h2
  rw [← hcm, ← ht] at hg
  by_cases c : 1 < t
  · exact cmd_bad hN2 sl tu hg c
  · have e : cm = 0 ∨ cm = 1 ∨ cm = 2 ∨ cm = 3 ∨ cm = 4 ∨ cm = 5 ∨ cm = 6 ∨ cm = 7 ∨ cm = 8 ∨ cm = 9 := by omega
    have e2 : t = 0 ∨ t = 1 := by omega
    clear hcm ht
    rcases e2 with rfl | rfl
    · rcases e with rfl | rfl | rfl | rfl | rfl | rfl | rfl | rfl | rfl | rfl
      · exact cmd_0_0 hN2 sl tu hg
      · exact cmd_1_0 hN2 sl tu hg
      · exact cmd_2_0 hN2 sl tu hg
      · exact cmd_3_0 hN2 sl tu hg
      · exact cmd_4_0 hN2 sl tu hg
      · exact cmd_5_0 hN2 sl tu hg
      · exact cmd_6_0 hN2 sl tu hg
      · exact cmd_7_0 hN2 sl tu hg
      · exact cmd_8_0 hN2 sl tu hg
      · exact cmd_9_0 hN2 sl tu hg
    · rcases e with rfl | rfl | rfl | rfl | rfl | rfl | rfl | rfl | rfl | rfl
      · exact cmd_0_1 hN2 sl tu hg
      · exact cmd_1_1 hN2 sl tu hg
      · exact cmd_2_1 hN2 sl tu hg
      · exact cmd_3_1 hN2 sl tu hg
      · exact cmd_4_1 hN2 sl tu hg
      · exact cmd_5_1 hN2 sl tu hg
      · exact cmd_6_1 hN2 sl tu hg
      · exact cmd_7_1 hN2 sl tu hg
      · exact cmd_8_1 hN2 sl tu hg
      · exact cmd_9_1 hN2 sl tu hg
theorem run_both {n s : Int} (hn : 1 ≤ n) (hn2 : n ≤ 3) (hs : 0 ≤ s) (hs2 : s < 9223372036854775808) (w11 : Int32) : ∀ (q k : Nat) (i : Int) (sl : Int32) (f u tr tu : Nat → Int32), iN f u tr → 0 ≤ i → i + q = n → q < k →
    (∃ y f' u' sl' tr' tu', lpI k (un3 (pX9_runScript_L46 (iz n) (lz s))) (iz i, f, u) = some (.inl (y, f', u')) ∧ lpI k (un4 (pX10_runScript_L60 (iz n) (lz s) w11)) (iz i, sl, tr, tu) = some (.inl (y, w11, sl', tr', tu')))
    ∨ (∃ f' u' sl' tr' tu', lpI k (un3 (pX9_runScript_L46 (iz n) (lz s))) (iz i, f, u) = some (.inr (f', u')) ∧ lpI k (un4 (pX10_runScript_L60 (iz n) (lz s) w11)) (iz i, sl, tr, tu) = some (.inr (sl', tr', tu'))) := by
  intro q
  induction q with
  | zero =>
    intro k i sl f u tr tu hN h1 h2 h3
    obtain ⟨k, rfl⟩ : ∃ k', k = k' + 1 := ⟨k - 1, by omega⟩
    refine Or.inr ⟨f, u, sl, tr, tu, ?_, ?_⟩
    · rw [lpI, un3_mk]
      unfold pX9_runScript_L46
      rw [ifz_le (by omega) (by omega) (by omega) (by omega), if_pos (by omega)]
    · rw [lpI, un4_mk]
      unfold pX10_runScript_L60
      rw [ifz_le (by omega) (by omega) (by omega) (by omega), if_pos (by omega)]
  | succ q ih =>
    intro k i sl f u tr tu hN h1 h2 h3
    obtain ⟨k, rfl⟩ : ∃ k', k = k' + 1 := ⟨k - 1, by omega⟩
    obtain ⟨z, f1, u1, sl1, tr1, tu1, c1, c2, c3, c4⟩ := cmd_all hN sl tu (g := s / tpw (n - 1 - i) % 100000) (by omega) (by omega)
    have hX : pX9_runScript_L46 (iz n) (lz s) (iz i) f u = if z = 0 then some (.inr (.inl (iz i, f1, u1))) else some (.inl (iz (i + 1), f1, u1)) := by
      unfold pX9_runScript_L46
      simp only [iz_1, iz_0, iz_sub, iz_add]
      rw [ifz_le (by omega) (by omega) (by omega) (by omega), if_neg (by omega), grp_X hs hs2 (by omega) (by omega), bd1_some, c1, bd1_some, un3_mk, ifz_eq (by omega) (by omega) (by omega) (by omega)]
    have hM : pX10_runScript_L60 (iz n) (lz s) w11 (iz i) sl tr tu = if z = 0 then some (.inr (.inl (iz i, w11, sl1, tr1, tu1))) else some (.inl (iz (i + 1), sl1, tr1, tu1)) := by
      unfold pX10_runScript_L60
      simp only [iz_1, iz_0, iz_5, iz_sub, iz_add, iz_mul]
      rw [ifz_le (by omega) (by omega) (by omega) (by omega), if_neg (by omega), grp_M hs hs2 (by omega) (by omega) ((Int32 × Int32 × (Nat → Int32) × (Nat → Int32)) ⊕ ((Int32 × Int32 × Int32 × (Nat → Int32) × (Nat → Int32)) ⊕ (Int32 × (Nat → Int32) × (Nat → Int32)))) (fun x => bd1 (pX10_command sl tr tu x) (un4 (fun v32 w33 w34 w35 => if v32 = iz 0 then some (.inr (.inl (iz i, w11, w33, w34, w35))) else some (.inl (iz (i + 1), w33, w34, w35))))), c2, bd1_some, un4_mk, ifz_eq (by omega) (by omega) (by omega) (by omega)]
    by_cases c : z = 0
    · rw [if_pos c] at hX hM
      refine Or.inl ⟨iz i, f1, u1, sl1, tr1, tu1, ?_, ?_⟩
      · rw [lpI, un3_mk, hX]
      · rw [lpI, un4_mk, hM]
    · rw [if_neg c] at hX hM
      rcases ih k (i + 1) sl1 f1 u1 tr1 tu1 c4 (by omega) (by omega) (by omega) with ⟨y, f', u', sl', tr', tu', d1, d2⟩ | ⟨f', u', sl', tr', tu', d1, d2⟩
      · refine Or.inl ⟨y, f', u', sl', tr', tu', ?_, ?_⟩
        · rw [lpI, un3_mk, hX]
          exact d1
        · rw [lpI, un4_mk, hM]
          exact d2
      · refine Or.inr ⟨f', u', sl', tr', tu', ?_, ?_⟩
        · rw [lpI, un3_mk, hX]
          exact d1
        · rw [lpI, un4_mk, hM]
          exact d2
theorem cc_runScript {nf ns now : Nat → Int32} (h : iN nf ns now) (rf sl p0 : Int32) (p1 : Int64) (tf ts tr tu : Nat → Int32) :
    (∃ x tf' ts' sl' tr' tu', pX9_runScript nf ns tf ts p0 p1 = some (.inr (x, tf', ts')) ∧ pX10_runScript rf sl now tr tu p0 p1 = some (x, 0, sl', tr', tu')) ∨ (pX9_runScript nf ns tf ts p0 p1 = some (.inl (1, tf, ts)) ∧ pX10_runScript rf sl now tr tu p0 p1 = some (0, 1, sl, tr, tu)) := by
  obtain ⟨n, hn, rfl⟩ := arg_iz p0
  obtain ⟨s, hs1, hs2, rfl⟩ := argL p1
  obtain ⟨T, U, a1, a2, a3, a4, a5, a6⟩ := h
  have hc : ∀ a b : Int, -9223372036854775808 ≤ a → a < 9223372036854775808 → -9223372036854775808 ≤ b → b < 9223372036854775808 → ((lg_cmp (lz a) (lz b) < 0) ↔ a < b) := fun a b q1 q2 q3 q4 => by
    rw [lg_cmp_lt, Int64.lt_iff_toInt_lt, lz_toInt q1 q2, lz_toInt q3 q4]
  by_cases c : 1 ≤ n ∧ n ≤ 3
  · have hb := tpw_b (n := n) (by omega) c.2
    have hin : bd1 (pX10_tenTo (5 * iz n)) (fun v6 => bd1 (pX10_in (lz s) 0 (v6 - 1)) (fun v8 => if v8 = 0 then some (1 : Int32) else some 0)) = some (if 0 ≤ s ∧ s < tpw n then 0 else 1) := by
      rw [iz_5, iz_mul, tpw_ten (by omega) c.2, bd1_some, lz_0, lz_1, lz_sub, pX10_in_lz hs1 hs2 (by omega) (by omega) (by omega) (by omega), bd1_some]
      by_cases d : 0 ≤ s ∧ s < tpw n
      · rw [if_pos (show 0 ≤ s ∧ s ≤ tpw n - 1 by omega), if_pos d, if_neg (by decide)]
      · rw [if_neg (show ¬ (0 ≤ s ∧ s ≤ tpw n - 1) by omega), if_neg d, if_pos (by decide)]
    by_cases d : 0 ≤ s ∧ s < tpw n
    · rw [if_pos d] at hin
      refine Or.inl ?_
      obtain ⟨f1, u1, j1, j2, j3⟩ := pX2_copyFrom_iz (f := tf) (u := ts) a3 a4
      have hR := run_both c.1 c.2 d.1 hs2 0 n.toNat lpF 0 sl f1 u1 (cpW now tr 0 0 84) tu ⟨T, U, a1, a2, j2, j3, a5.cp84 tr a1.b (by omega) (by omega), a6.cp84 tr a2.b (by omega) (by omega)⟩ (by omega) (by omega) (by unfold lpF; omega)
      have hX : ∀ X, lpI lpF (un3 (pX9_runScript_L46 (iz n) (lz s))) (iz 0, f1, u1) = some X → pX9_runScript nf ns tf ts (iz n) (lz s) = el X (un3 (fun y25 y26 y27 => some (.inr (y25, y26, y27)))) (un2 (pX9_runScript_R81)) := fun X q => by
        unfold pX9_runScript
        rw [iz_1, iz_3, rr_yes hn ⟨by omega, by omega⟩ ⟨by omega, by omega⟩ c, bdE_r, lz_0, if_neg (by rw [hc s 0 hs1 hs2 (by omega) (by omega)]; omega), tpw_lim c.1 c.2, bd1_some, if_pos (by rw [hc s (tpw n) hs1 hs2 (by omega) (by omega)]; omega), j1, bd1_some, un2_mk, show (0 : Int32) = iz 0 from iz_0, q, bd1_some]
      have hM : ∀ X, lpI lpF (un4 (pX10_runScript_L60 (iz n) (lz s) 0)) (iz 0, sl, cpW now tr 0 0 84, tu) = some X → pX10_runScript rf sl now tr tu (iz n) (lz s) = el X (un5 (fun y37 y38 y39 y40 y41 => some (y37, y38, y39, y40, y41))) (un3 (pX10_runScript_R100 0)) := fun X q => by
        unfold pX10_runScript
        rw [in2_yes (x := 1) (y := 3) hn ⟨by omega, by omega⟩ ⟨by omega, by omega⟩ (by decide) (by decide) c hin, rf_0, cp84, bd1_some]
        rw [show ((0 : Int32), sl, cpW now tr 0 0 84, tu) = (iz 0, sl, cpW now tr 0 0 84, tu) by rw [← iz_0], q, bd1_some]
      rcases hR with ⟨y, f', u', sl', tr', tu', d1, d2⟩ | ⟨f', u', sl', tr', tu', d1, d2⟩
      · exact ⟨y, f', u', sl', tr', tu', by rw [hX _ d1, el_inl, un3_mk], by rw [hM _ d2, el_inl, un5_mk]⟩
      · refine ⟨-9, f', u', sl', tr', tu', ?_, ?_⟩
        · rw [hX _ d1, el_inr, un2_mk]
          rfl
        · rw [hM _ d2, el_inr, un3_mk]
          rfl
    · rw [if_neg d] at hin
      refine Or.inr ⟨?_, ?_⟩
      · unfold pX9_runScript
        rw [iz_1, iz_3, rr_yes hn ⟨by omega, by omega⟩ ⟨by omega, by omega⟩ c, bdE_r, lz_0, tpw_lim c.1 c.2, bd1_some]
        by_cases d1 : s < 0
        · rw [if_pos (by rw [hc s 0 hs1 hs2 (by omega) (by omega)]; exact d1)]
        · rw [if_neg (by rw [hc s 0 hs1 hs2 (by omega) (by omega)]; exact d1), if_neg (by rw [hc s (tpw n) hs1 hs2 (by omega) (by omega)]; omega)]
      · unfold pX10_runScript
        rw [in2_yes (x := 1) (y := 3) hn ⟨by omega, by omega⟩ ⟨by omega, by omega⟩ (by decide) (by decide) c hin, rf_1]
  · refine Or.inr ⟨?_, ?_⟩
    · unfold pX9_runScript
      rw [iz_1, iz_3, rr_no hn ⟨by omega, by omega⟩ ⟨by omega, by omega⟩ (by omega), bdE_l]
    · unfold pX10_runScript
      rw [in2_no (x := 1) (y := 3) hn ⟨by omega, by omega⟩ ⟨by omega, by omega⟩ (by decide) (by decide) c, rf_1]
