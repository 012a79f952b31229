-- reading tables, on both sides
/-- the reference is about to read a cell -/
def rC (X : Int → Int) (L k i j : Int) : Prop := (j = 0 ∧ 0 < i) ∨ (k < L ∧ X k ≠ 59 ∧ (X k = 47 → j = 0 ∨ i = 5))
theorem iz_d {d : Int} (h1 : 0 ≤ d) (h2 : d ≤ 9) : iz d ≠ iz (-1) := by
  intro h
  rw [iz_eq (by omega) (by omega) (by omega) (by omega)] at h
  omega
theorem cell_both {t i j : Int} {T : Tb} {f0 f1 w : Nat → Int32} (h : rS t i j T (fs t f0 f1) w) (ht : 0 ≤ t) (ht2 : t ≤ 1) {X : Int → Int} {L : Int} {cc ss : Nat → Int32} (hT : tT X L cc) (hT' : tT X L ss) (hL0 : 0 ≤ L) (hL : L ≤ 160) {k : Int} (hk : 0 ≤ k) (hk2 : k ≤ L) (hC : rC X L k i j) {m : Nat} (hm : L - k < m) :
    (∃ v f0' f1' w', k + 2 ≤ L ∧ RX L cc m (iz k, iz 1, iz t, iz i, iz j, iz (-1), f0, f1) = RX L cc (m - 2) (iz (k + 2), iz 1, iz t, iz i, iz (j + 1), iz (-1), f0', f1') ∧ pX10_readCell (iz L) (iz k) ss w (iz t) (iz i) = some (iz 1, iz (k + 2), w') ∧ rS t i (j + 1) (tset T i j v) (fs t f0' f1') w' ∧ (t = 0 → f1' = f1) ∧ (t ≠ 0 → f0' = f0) ∧ sameOut t w w')
    ∨ (∃ e q, 0 ≤ e ∧ e ≤ L ∧ RX L cc m (iz k, iz 1, iz t, iz i, iz j, iz (-1), f0, f1) = some (iz e, q) ∧ pX10_readCell (iz L) (iz k) ss w (iz t) (iz i) = some (iz 0, iz e, w)) := by
  have hjb := h.jb
  have hlb := lim_b T i
  have hB := h.1.b
  have hX := h.2.1
  have hi0 := h.2.2.2.2.1
  have hi5 := h.2.2.2.2.2.1
  obtain ⟨m, rfl⟩ : ∃ m', m = m' + 1 := ⟨m - 1, by omega⟩
  have hnd : ∀ x, X k = x → k < L → (x < 48 ∨ 57 < x) → ∃ q, RX L cc (m + 1) (iz k, iz 1, iz t, iz i, iz j, iz (-1), f0, f1) = some (iz k, q) := fun x hx hkL hx2 => by
    have hxb := hT k hk hkL
    rw [hx] at hxb
    by_cases c1 : x = 47
    · have e := tk_slash_no (t := iz t) (r := iz i) (c := iz j) (d := iz (-1)) (f0 := f0) (f1 := f1) (by
        rcases hC with ⟨a, -⟩ | ⟨-, -, a⟩
        · rw [a]; exact Or.inr (Or.inl rfl)
        · rcases a (by omega) with a | a
          · rw [a]; exact Or.inr (Or.inl rfl)
          · rw [a]; exact Or.inr (Or.inr rfl))
      exact ⟨_, RX_fail hT hL hk hkL (by rw [hx, c1]; exact e)⟩
    · by_cases c2 : x = 59
      · have hC2 : j = 0 ∧ 0 < i := by
          rcases hC with a | ⟨-, a, -⟩
          · exact a
          · omega
        have e := tk_semi_no (t := iz t) (r := iz i) (c := iz j) (d := iz (-1)) (f0 := f0) (f1 := f1) (Or.inr (pX4_canEnd_no (Or.inr ⟨i, j, rfl, rfl, hC2.1, hC2.2, by omega⟩)))
        exact ⟨_, RX_fail hT hL hk hkL (by rw [hx, c2]; exact e)⟩
      · exact ⟨_, RX_fail hT hL hk hkL (by rw [hx]; exact tk_other hxb.2.1 hxb.2.2 c1 c2 hx2 _ _ _ _ _ _)⟩
  by_cases cf : lim T i ≤ j
  · refine Or.inr ?_
    have hC2 : k < L := by
      rcases hC with ⟨a, b⟩ | ⟨a, -⟩
      · have := hjb.2.2 b
        omega
      · exact a
    by_cases cd : X k < 48 ∨ 57 < X k
    · obtain ⟨q, hq⟩ := hnd (X k) rfl hC2 cd
      exact ⟨k, q, hk, hk2, hq, pX10_readCell_full h ht ht2 cf _ _⟩
    · have e : pX4_takes (iz 1) (iz t) (iz i) (iz j) (iz (-1)) f0 f1 (iz (X k)) = some (iz 0, iz 1, iz t, iz i, iz j, iz (-1), f0, f1) := by
        rw [tk_digit (by omega) (by omega), if_pos rfl, pX4_takesTens_iz ht ht2 hB hX hi0 hi5 (by omega) (by omega) (by omega) (by omega), bd1_some, if_pos cf, un2_mk, zb_0, bd1_some]
      exact ⟨k, _, hk, hk2, RX_fail hT hL hk hC2 e, pX10_readCell_full h ht ht2 cf _ _⟩
  · obtain ⟨l1, l2, l3⟩ := lsM_X h (by omega)
    have hrc := pX10_readCell_iz h ht ht2 (by omega) hT' hL0 hL hk hk2
    by_cases c1 : k < L ∧ 48 ≤ X k ∧ X k ≤ 57 ∧ lsM T i j ≤ 10 * (X k - 48) + 9
    · rw [if_pos c1] at hrc
      have e1 : pX4_takes (iz 1) (iz t) (iz i) (iz j) (iz (-1)) f0 f1 (iz (X k)) = some (iz 1, iz 1, iz t, iz i, iz j, iz (X k - 48), f0, f1) := by
        rw [tk_digit (by omega) (by omega), if_pos rfl, pX4_takesTens_iz ht ht2 hB hX hi0 hi5 (by omega) (by omega) (by omega) (by omega), bd1_some, if_neg cf, if_pos ((l3 _ (by omega)).2 c1.2.2.2), un2_mk, zb_1, bd1_some]
      have s1 := RX_step (m := m) hT hL hk c1.1 e1
      obtain ⟨m, rfl⟩ : ∃ m', m = m' + 1 := ⟨m - 1, by omega⟩
      have hdn := iz_d (d := X k - 48) (by omega) (by omega)
      by_cases c2 : k + 1 < L ∧ 48 ≤ X (k + 1) ∧ X (k + 1) ≤ 57 ∧ lsM T i j ≤ 10 * (X k - 48) + (X (k + 1) - 48)
      · rw [if_pos c2] at hrc
        obtain ⟨f0', f1', u1, u2, u3, u4⟩ := pX4_takesUnits_yes ht ht2 hB hX hi0 hi5 hjb.1 (by omega) (d := X k - 48) (p := X (k + 1) - 48) (by omega) (by omega) (by omega) (by omega) ((l3 _ (by omega)).2 c2.2.2.2)
        have e2 : pX4_takes (iz 1) (iz t) (iz i) (iz j) (iz (X k - 48)) f0 f1 (iz (X (k + 1))) = some (iz 1, iz 1, iz t, iz i, iz (j + 1), iz (-1), f0', f1') := by
          rw [tk_digit (by omega) (by omega), if_neg hdn, u1, bd1_some, un5_mk, zb_1, bd1_some]
        have s2 := RX_step (m := m) hT hL (by omega) c2.1 e2
        refine Or.inl ⟨10 * (X k - 48) + (X (k + 1) - 48), f0', f1', _, by omega, ?_, hrc, h.set ht ht2 (by omega) (by omega) (by omega) ((l3 _ (by omega)).2 c2.2.2.2) u2, u3, u4, ?_⟩
        · rw [s1, s2, show k + 1 + 1 = k + 2 by omega]
          rfl
        · refine (((sameOut.rf t w).put (by omega) (by omega) ht).put (by omega) (by omega) ht)
      · rw [if_neg c2] at hrc
        refine Or.inr ?_
        by_cases c3 : k + 1 < L
        · by_cases c4 : X (k + 1) < 48 ∨ 57 < X (k + 1)
          · have hxb := hT (k + 1) (by omega) c3
            by_cases c5 : X (k + 1) = 47
            · have e := tk_slash_no (t := iz t) (r := iz i) (c := iz j) (d := iz (X k - 48)) (f0 := f0) (f1 := f1) (Or.inl hdn)
              exact ⟨k + 1, _, by omega, by omega, by rw [s1]; exact RX_fail hT hL (by omega) c3 (by rw [c5]; exact e), hrc⟩
            · by_cases c6 : X (k + 1) = 59
              · have e := tk_semi_no (t := iz t) (r := iz i) (c := iz j) (d := iz (X k - 48)) (f0 := f0) (f1 := f1) (Or.inr (pX4_canEnd_no (Or.inl hdn)))
                exact ⟨k + 1, _, by omega, by omega, by rw [s1]; exact RX_fail hT hL (by omega) c3 (by rw [c6]; exact e), hrc⟩
              · exact ⟨k + 1, _, by omega, by omega, by rw [s1]; exact RX_fail hT hL (by omega) c3 (tk_other hxb.2.1 hxb.2.2 c5 c6 c4 _ _ _ _ _ _), hrc⟩
          · obtain ⟨q, hq⟩ := pX4_takesUnits_no ht ht2 hB hX hi0 hi5 hjb.1 (by omega) (d := X k - 48) (p := X (k + 1) - 48) (by omega) (by omega) (by omega) (by omega) (fun q => by
              have := (l3 _ (by omega)).1 q
              omega)
            obtain ⟨q1, q2, q3, q4⟩ := q
            have e2 : pX4_takes (iz 1) (iz t) (iz i) (iz j) (iz (X k - 48)) f0 f1 (iz (X (k + 1))) = some (iz 0, iz 1, iz t, iz i, q1, q2, q3, q4) := by
              rw [tk_digit (by omega) (by omega), if_neg hdn, hq, bd1_some, un5_mk, zb_0, bd1_some]
            exact ⟨k + 1, _, by omega, by omega, by rw [s1]; exact RX_fail hT hL (by omega) c3 e2, hrc⟩
        · refine ⟨k + 1, (iz 1, iz t, iz i, iz j, iz (X k - 48), f0, f1), by omega, by omega, ?_, hrc⟩
          · rw [s1, show k + 1 = L by omega, RX_end hL0 hL]
            exact R55_no (Or.inr (pX4_canEnd_no (Or.inl hdn)))
    · rw [if_neg c1] at hrc
      refine Or.inr ?_
      by_cases c2 : k < L
      · by_cases cd : X k < 48 ∨ 57 < X k
        · obtain ⟨q, hq⟩ := hnd (X k) rfl c2 cd
          exact ⟨k, q, hk, hk2, hq, hrc⟩
        · have e : pX4_takes (iz 1) (iz t) (iz i) (iz j) (iz (-1)) f0 f1 (iz (X k)) = some (iz 0, iz 1, iz t, iz i, iz j, iz (-1), f0, f1) := by
            rw [tk_digit (by omega) (by omega), if_pos rfl, pX4_takesTens_iz ht ht2 hB hX hi0 hi5 (by omega) (by omega) (by omega) (by omega), bd1_some, if_neg cf, if_neg (fun q => by
              have := (l3 _ (by omega)).1 q
              omega), un2_mk, zb_0, bd1_some]
          exact ⟨k, _, hk, hk2, RX_fail hT hL hk c2 e, hrc⟩
      · have hC2 : j = 0 ∧ 0 < i := by
          rcases hC with a | ⟨a, -⟩
          · exact a
          · omega
        refine ⟨k, (iz 1, iz t, iz i, iz j, iz (-1), f0, f1), hk, hk2, ?_, hrc⟩
        · rw [show k = L by omega, RX_end hL0 hL]
          exact R55_no (Or.inr (pX4_canEnd_no (Or.inr ⟨i, j, rfl, rfl, hC2.1, hC2.2, by omega⟩)))
theorem sameOut.tr {t : Int} {g g' g'' : Nat → Int32} (h : sameOut t g g') (h' : sameOut t g' g'') : sameOut t g g'' := fun k hk => by
  rw [h' k hk, h k hk]
theorem tab_both {t : Int} (ht : 0 ≤ t) (ht2 : t ≤ 1) {X : Int → Int} {L : Int} {cc ss : Nat → Int32} (hT : tT X L cc) (hT' : tT X L ss) (hL0 : 0 ≤ L) (hL : L ≤ 160) : ∀ (n : Nat) (k i j : Int) (T : Tb) (f0 f1 w : Nat → Int32) (m m2 : Nat), rS t i j T (fs t f0 f1) w → 0 ≤ k → k ≤ L → L - k ≤ n → rC X L k i j → L - k < m → n + 2 ≤ m2 →
    (∃ e q w', 0 ≤ e ∧ e ≤ L ∧ RX L cc m (iz k, iz 1, iz t, iz i, iz j, iz (-1), f0, f1) = some (iz e, q) ∧ lpI m2 (un4 (pX10_readTable_L33 (iz L) ss (iz t))) (iz 1, iz i, iz k, w) = some (.inl (iz 0, iz e, w')))
    ∨ (∃ k' i' j' T' f0' f1' w' m', 0 ≤ k' ∧ k' ≤ L ∧ L - k' < (m' : Nat) ∧ RX L cc m (iz k, iz 1, iz t, iz i, iz j, iz (-1), f0, f1) = RX L cc m' (iz k', iz 1, iz t, iz i', iz j', iz (-1), f0', f1') ∧ lpI m2 (un4 (pX10_readTable_L33 (iz L) ss (iz t))) (iz 1, iz i, iz k, w) = some (.inr (iz k', w')) ∧ rS t i' j' T' (fs t f0' f1') w' ∧ 0 < j' ∧ (k' = L ∨ X k' = 59) ∧ (t = 0 → f1' = f1) ∧ (t ≠ 0 → f0' = f0) ∧ sameOut t w w') := by
  intro n
  induction n with
  | zero =>
    intro k i j T f0 f1 w m m2 h hk hk2 hn hC hm hm2
    rcases cell_both h ht ht2 hT hT' hL0 hL hk hk2 hC hm with ⟨v, f0', f1', w', a, -⟩ | ⟨e, q, a1, a2, a3, a4⟩
    · omega
    · obtain ⟨m2, rfl⟩ : ∃ m', m2 = m' + 1 := ⟨m2 - 1, by omega⟩
      refine Or.inl ⟨e, q, w, a1, a2, a3, ?_⟩
      have hb : un4 (pX10_readTable_L33 (iz L) ss (iz t)) (iz 1, iz i, iz k, w) = some (.inr (.inl (iz 0, iz e, w))) := by
        rw [un4_mk]
        unfold pX10_readTable_L33
        simp only [iz_0]
        rw [if_neg iz1_ne, a4, bd1_some, un3_mk, if_pos rfl]
      rw [lpI, hb]
  | succ n ih =>
    intro k i j T f0 f1 w m m2 h hk hk2 hn hC hm hm2
    obtain ⟨m2, rfl⟩ : ∃ m', m2 = m' + 1 := ⟨m2 - 1, by omega⟩
    rcases cell_both h ht ht2 hT hT' hL0 hL hk hk2 hC hm with ⟨v, f0', f1', w', a1, a2, a3, a4, a5, a6, a7⟩ | ⟨e, q, a1, a2, a3, a4⟩
    · have hi0 := h.2.2.2.2.1
      have hi5 := h.2.2.2.2.2.1
      have hjb := a4.jb
      have hjo := h.jb
      have hlb := lim_b (tset T i j v) i
      -- what the loop's body does
      have hbody : un4 (pX10_readTable_L33 (iz L) ss (iz t)) (iz 1, iz i, iz k, w) = some (.inl (
          if i < 5 ∧ k + 2 < L ∧ X (k + 2) = 47 then (iz 1, iz (i + 1), iz (k + 3), w')
          else if k + 2 < L ∧ X (k + 2) ≠ 59 then (iz 1, iz i, iz (k + 2), w') else (iz 0, iz i, iz (k + 2), w'))) := by
        rw [un4_mk]
        unfold pX10_readTable_L33
        simp only [iz_0, iz_1, iz_6, iz_47, iz_59, iz_add]
        rw [if_neg iz1_ne, a3, bd1_some, un3_mk, if_neg iz1_ne, ifz_le (by omega) (by omega) (by omega) (by omega), pX10_sign_iz hT' hL0 hL (by omega) a1 (by omega) (by omega), bd1_some]
        have hrest : (if i < 5 ∧ k + 2 < L ∧ X (k + 2) = 47 then False else True) → (bd1 (if iz 0 = iz 0 then some (iz 0) else some (iz 1)) (fun (j29 : Int32) => if iz 0 = iz 0 then (if iz L ≤ iz (k + 2) then some (.inl (iz 0, iz i + j29, iz (k + 2), w')) else bd1 (gI 160 ss (iz (k + 2))) (fun v32 => if v32 = iz 59 then some (.inl (iz 0, iz i + j29, iz (k + 2), w')) else some (.inl (iz 1, iz i + j29, iz (k + 2), w')))) else some (.inl (iz 1, iz i + j29, iz (k + 2), w'))) : Option ((Int32 × Int32 × Int32 × (Nat → Int32)) ⊕ ((Int32 × Int32 × (Nat → Int32)) ⊕ (Int32 × (Nat → Int32))))) = some (.inl (if k + 2 < L ∧ X (k + 2) ≠ 59 then (iz 1, iz i, iz (k + 2), w') else (iz 0, iz i, iz (k + 2), w'))) := fun _ => by
          rw [if_pos rfl, bd1_some, if_pos rfl, ifz_le (by omega) (by omega) (by omega) (by omega), iz_add, Int.add_zero]
          by_cases c : L ≤ k + 2
          · rw [if_pos c, if_neg (by omega)]
          · have hx := hT' (k + 2) (by omega) (by omega)
            rw [if_neg c, gI_iz (by omega) (by omega) (by omega), bd1_some, hx.1, ifz_eq (by omega) (by omega) (by omega) (by omega)]
            by_cases c2 : X (k + 2) = 59
            · rw [if_pos c2, if_neg (by omega)]
            · rw [if_neg c2, if_pos (by omega)]
        by_cases c5 : 6 ≤ i + 1
        · rw [if_pos c5, bd1_some, un2_mk, if_neg (show ¬ (i < 5 ∧ k + 2 < L ∧ X (k + 2) = 47) by omega)]
          exact hrest (by rw [if_neg (by omega)]; trivial)
        · rw [if_neg c5]
          by_cases c6 : k + 2 < L ∧ X (k + 2) = 47
          · rw [if_pos c6, un2_mk, if_neg iz1_ne, bd1_some, un2_mk, if_neg iz1_ne, bd1_some, if_neg iz1_ne, if_pos (show i < 5 ∧ k + 2 < L ∧ X (k + 2) = 47 by omega), iz_add, show k + 2 + 1 = k + 3 by omega]
          · rw [if_neg c6, un2_mk, if_pos rfl, bd1_some, un2_mk, if_neg (show ¬ (i < 5 ∧ k + 2 < L ∧ X (k + 2) = 47) by omega)]
            exact hrest (by rw [if_neg (by omega)]; trivial)
      by_cases c1 : i < 5 ∧ k + 2 < L ∧ X (k + 2) = 47
      · rw [if_pos c1] at hbody
        have hS' : rS t (i + 1) 0 (tset T i j v) (fs t f0' f1') w' := by
          obtain ⟨h1, h2, h3, h4, h5, h6, h7, h8⟩ := a4
          refine ⟨h1, h2, h3, h7 (i + 1) (by omega), by omega, by omega, fun a q => h7 a (by omega), fun _ => ?_⟩
          rw [show i + 1 - 1 = i by omega]
          omega
        obtain ⟨m3, hm3⟩ : ∃ m', m - 2 = m' + 1 := ⟨m - 3, by omega⟩
        have s3 : RX L cc (m - 2) (iz (k + 2), iz 1, iz t, iz i, iz (j + 1), iz (-1), f0', f1') = RX L cc m3 (iz (k + 3), iz 1, iz t, iz (i + 1), iz 0, iz (-1), f0', f1') := by
          rw [hm3, RX_step hT hL (by omega) c1.2.1 (by rw [c1.2.2]; exact tk_slash_yes (by omega) (by omega) hi0 c1.1), show k + 2 + 1 = k + 3 by omega]
        rcases ih (k + 3) (i + 1) 0 _ f0' f1' w' m3 m2 hS' (by omega) (by omega) (by omega) (Or.inl ⟨rfl, by omega⟩) (by omega) (by omega) with ⟨e, q, w'', b1, b2, b3, b4⟩ | ⟨k', i', j', T', f0'', f1'', w'', m', b1, b2, b3, b4, b5, b6, b7, b8, b9, b10, b11⟩
        · refine Or.inl ⟨e, q, w'', b1, b2, by rw [a2, s3, b3], ?_⟩
          rw [lpI, hbody]
          exact b4
        · refine Or.inr ⟨k', i', j', T', f0'', f1'', w'', m', b1, b2, b3, by rw [a2, s3, b4], ?_, b6, b7, b8, fun q => by rw [b9 q, a5 q], fun q => by rw [b10 q, a6 q], a7.tr b11⟩
          rw [lpI, hbody]
          exact b5
      · rw [if_neg c1] at hbody
        by_cases c2 : k + 2 < L ∧ X (k + 2) ≠ 59
        · rw [if_pos c2] at hbody
          rcases ih (k + 2) i (j + 1) _ f0' f1' w' (m - 2) m2 a4 (by omega) (by omega) (by omega) (Or.inr ⟨c2.1, c2.2, fun q => by omega⟩) (by omega) (by omega) with ⟨e, q, w'', b1, b2, b3, b4⟩ | ⟨k', i', j', T', f0'', f1'', w'', m', b1, b2, b3, b4, b5, b6, b7, b8, b9, b10, b11⟩
          · refine Or.inl ⟨e, q, w'', b1, b2, by rw [a2, b3], ?_⟩
            rw [lpI, hbody]
            exact b4
          · refine Or.inr ⟨k', i', j', T', f0'', f1'', w'', m', b1, b2, b3, by rw [a2, b4], ?_, b6, b7, b8, fun q => by rw [b9 q, a5 q], fun q => by rw [b10 q, a6 q], a7.tr b11⟩
            rw [lpI, hbody]
            exact b5
        · rw [if_neg c2] at hbody
          obtain ⟨m2, rfl⟩ : ∃ m', m2 = m' + 1 := ⟨m2 - 1, by omega⟩
          refine Or.inr ⟨k + 2, i, j + 1, _, f0', f1', w', m - 2, by omega, a1, by omega, a2, ?_, a4, by omega, by omega, a5, a6, a7⟩
          have hb2 : un4 (pX10_readTable_L33 (iz L) ss (iz t)) (iz 0, iz i, iz (k + 2), w') = some (.inr (.inr (iz (k + 2), w'))) := by
            rw [un4_mk]
            unfold pX10_readTable_L33
            rw [iz_0, if_pos rfl]
          rw [lpI, hbody]
          show lpI (m2 + 1) _ _ = _
          rw [lpI, hb2]
    · refine Or.inl ⟨e, q, w, a1, a2, a3, ?_⟩
      have hb : un4 (pX10_readTable_L33 (iz L) ss (iz t)) (iz 1, iz i, iz k, w) = some (.inr (.inl (iz 0, iz e, w))) := by
        rw [un4_mk]
        unfold pX10_readTable_L33
        simp only [iz_0]
        rw [if_neg iz1_ne, a4, bd1_some, un3_mk, if_pos rfl]
      rw [lpI, hb]
/-- a whole table -/
theorem table_both {t : Int} (ht : 0 ≤ t) (ht2 : t ≤ 1) {X : Int → Int} {L : Int} {cc ss : Nat → Int32} (hT : tT X L cc) (hT' : tT X L ss) (hL0 : 0 ≤ L) (hL : L ≤ 160) {k : Int} {f0 f1 w : Nat → Int32} {m : Nat} (h : rS t 0 0 tE (fs t f0 f1) w) (hk : 0 ≤ k) (hk2 : k ≤ L) (hm : L - k < m) :
    (∃ e q w', 0 ≤ e ∧ e ≤ L ∧ RX L cc m (iz k, iz 1, iz t, iz 0, iz 0, iz (-1), f0, f1) = some (iz e, q) ∧ pX10_readTable (iz L) (iz k) ss w (iz t) = some (iz 0, iz e, w'))
    ∨ (∃ k' i' j' T' f0' f1' w' m', 0 ≤ k' ∧ k' ≤ L ∧ L - k' < (m' : Nat) ∧ RX L cc m (iz k, iz 1, iz t, iz 0, iz 0, iz (-1), f0, f1) = RX L cc m' (iz k', iz 1, iz t, iz i', iz j', iz (-1), f0', f1') ∧ pX10_readTable (iz L) (iz k) ss w (iz t) = some (iz 1, iz k', w') ∧ rS t i' j' T' (fs t f0' f1') w' ∧ pX4_canEndTable (iz i') (iz j') (iz (-1)) = some (iz 1) ∧ (k' = L ∨ X k' = 59) ∧ (t = 0 → f1' = f1) ∧ (t ≠ 0 → f0' = f0) ∧ sameOut t w w') := by
  have hstart : ∀ (σ : Type) (kk : Int32 → Option σ), bd1 (if iz L ≤ iz k then some (iz 0) else bd1 (gI 160 ss (iz k)) (fun v4 => if v4 = iz 59 then some (iz 0) else some (iz 1))) kk = kk (if k < L ∧ X k ≠ 59 then iz 1 else iz 0) := fun σ kk => by
    rw [ifz_le (by omega) (by omega) (by omega) (by omega)]
    by_cases c : L ≤ k
    · rw [if_pos c, bd1_some, if_neg (by omega)]
    · have hx := hT' k hk (by omega)
      rw [if_neg c, gI_iz hk (by omega) (by omega), bd1_some, hx.1, ifz_eq (by omega) (by omega) (by omega) (by omega)]
      by_cases c2 : X k = 59
      · rw [if_pos c2, bd1_some, if_neg (by omega)]
      · rw [if_neg c2, bd1_some, if_pos (by omega)]
  by_cases c : k < L ∧ X k ≠ 59
  · rcases tab_both ht ht2 hT hT' hL0 hL (L - k).toNat k 0 0 tE f0 f1 w m lpF h hk hk2 (by omega) (Or.inr ⟨c.1, c.2, fun _ => Or.inl rfl⟩) hm (by unfold lpF; omega) with ⟨e, q, w', b1, b2, b3, b4⟩ | ⟨k', i', j', T', f0', f1', w', m', b1, b2, b3, b4, b5, b6, b7, b8, b9, b10, b11⟩
    · refine Or.inl ⟨e, q, w', b1, b2, b3, ?_⟩
      unfold pX10_readTable
      simp only [iz_0, iz_1, iz_59]
      rw [hstart, if_pos c, b4, bd1_some, el_inl, un3_mk]
    · have hjb := b6.jb
      have hlb := lim_b T' i'
      refine Or.inr ⟨k', i', j', T', f0', f1', w', m', b1, b2, b3, b4, ?_, b6, pX4_canEnd_yes b6.2.2.2.2.1 (by have := b6.2.2.2.2.2.1; omega) (by omega) (by omega) (Or.inl b7), b8, b9, b10, b11⟩
      unfold pX10_readTable
      simp only [iz_0, iz_1, iz_59]
      rw [hstart, if_pos c, b5, bd1_some, el_inr, un2_mk]
      unfold pX10_readTable_R124
      rw [iz_1]
  · refine Or.inr ⟨k, 0, 0, tE, f0, f1, w, m, hk, hk2, hm, rfl, ?_, h, pX4_canEnd_yes (by omega) (by omega) (by omega) (by omega) (Or.inr rfl), by omega, fun _ => rfl, fun _ => rfl, sameOut.rf t w⟩
    have hb2 : un4 (pX10_readTable_L33 (iz L) ss (iz t)) (iz 0, iz 0, iz k, w) = some (.inr (.inr (iz k, w))) := by
      rw [un4_mk]
      unfold pX10_readTable_L33
      rw [iz_0, if_pos rfl]
    unfold pX10_readTable
    simp only [iz_0, iz_1, iz_59]
    rw [hstart, if_neg c, show lpF = 3999 + 1 from rfl, lpI, hb2, bd1_some, el_inr, un2_mk]
    unfold pX10_readTable_R124
    rw [iz_1]
theorem len_tE (i : Int) : len tE i = 0 := by
  rw [len_6]
  rfl
theorem tM_0 {t : Int} {w : Nat → Int32} (ht : 0 ≤ t) (ht2 : t ≤ 1) (h : ∀ k : Int, 0 ≤ k → k < 84 → w k.toNat = iz 0) : tM tE t w := by
  refine ⟨fun i h1 h2 => ?_, fun i j hc => absurd rfl hc⟩
  rw [len_tE, h _ (by omega) (by omega)]
theorem read_clear (w : Nat → Int32) : lpI lpF (un2 (pX10_readText_L2)) (iz 0, w) = some (cpW (fun _ => iz 0) w 0 0 84) := by
  have hl : lpI lpF (un2 (pX10_readText_L2)) (iz 0, cpW (fun _ => iz 0) w 0 0 0) = some (cpW (fun _ => iz 0) w 0 0 84) := by
    refine lp_cf (fun i => cpW (fun _ => iz 0) w 0 0 i) 0 84 _ (by omega) (by omega) (fun i hi hi2 => ?_) ?_
    · have e := cpW_s (fun _ => iz 0) w 0 0 i (by omega) hi
      rw [show (0 : Int) + i = i by omega] at e
      rw [un2_mk, ← e]
      unfold pX10_readText_L2
      simp only [iz_84, iz_1, iz_0, iz_add]
      rw [ifz_le (by omega) (by omega) (by omega) (by omega), if_neg (by omega), sI_iz (by omega) (by omega) (by omega), bd1_some]
    · rw [un2_mk]
      unfold pX10_readText_L2
      simp only [iz_84]
      rw [ifz_le (by omega) (by omega) (by omega) (by omega), if_pos (by omega)]
  rw [cpW_0] at hl
  exact hl
theorem tk_begin {x : Int} (hx : 0 ≤ x) (hx2 : x ≤ 255) (t r c d : Int32) (f0 f1 : Nat → Int32) : pX4_takes (iz 0) t r c d f0 f1 (iz x) = some (if x = 84 then (iz 1, iz 1, t, r, c, d, f0, f1) else (iz 0, iz 0, t, r, c, d, f0, f1)) := by
  unfold pX4_takes
  simp only [iz_0, iz_1, iz_84]
  rw [if_pos trivial, ifz_eq (by omega) (by omega) (by omega) (by omega)]
  by_cases c : x = 84
  · rw [if_pos c, if_pos c]
  · rw [if_neg c, if_neg c]
/-- reading the text, on both sides -/
theorem read_both {X : Int → Int} {L : Int} {cc ss : Nat → Int32} (hT : tT X L cc) (hT' : tT X L ss) (hL0 : 0 ≤ L) (hL : L ≤ 160) (b t r c d sp : Int32) (f0 f1 w : Nat → Int32) :
    ∃ e q sp' w', pX4_read b t r c d f0 f1 (iz L) cc = some (iz e, q) ∧ pX10_readText (iz L) sp ss w = some (iz e, sp', w') ∧ ((e = -9 ∧ ∃ T U, tOK T ∧ tOK U ∧ tX T q.2.2.2.2.2.1 ∧ tX U q.2.2.2.2.2.2 ∧ tM T 0 w' ∧ tM U 1 w') ∨ (0 ≤ e ∧ e ≤ 160)) := by
  obtain ⟨g0, z0, z1⟩ := pX7_wipe_iz f0
  obtain ⟨g1, z2, z3⟩ := pX7_wipe_iz f1
  have hR : pX4_read b t r c d f0 f1 (iz L) cc = RX L cc lpF (iz 0, iz 0, iz 0, iz 0, iz 0, iz (-1), g0, g1) := by
    unfold pX4_read pX2_wipe pX4_begin pX8_length
    rw [z0, bd1_some, z2, bd1_some, bd1_some, un2_mk, bd1_some, un4_mk, bd1_some]
    simp only [iz_0, iz_1, iz_neg]
    rfl
  have hw0 : ∀ k : Int, 0 ≤ k → k < 84 → cpW (fun _ => iz 0) w 0 0 84 k.toNat = iz 0 := fun k q1 q2 => by
    unfold cpW
    rw [if_pos (by omega)]
  generalize hW : cpW (fun _ => iz 0) w 0 0 84 = W at hw0
  rw [hR]
  have hM : ∀ e sp' w', (pX10_sign (iz L) (iz 0) ss (iz 84) = some (iz 0, iz e) → sp' = iz e → w' = W → pX10_readText (iz L) sp ss w = some (iz e, sp', w')) := fun e sp' w' q1 q2 q3 => by
    unfold pX10_readText
    simp only [iz_0, iz_84]
    rw [read_clear, hW, bd1_some, q1, bd1_some, un2_mk, if_pos rfl, q2, q3]
  have hsg := pX10_sign_iz hT' hL0 hL (k := 0) (x := 84) (by omega) hL0 (by omega) (by omega)
  by_cases c0 : L = 0
  · rw [if_neg (by omega)] at hsg
    refine ⟨0, (iz 0, iz 0, iz 0, iz 0, iz (-1), g0, g1), iz 0, W, ?_, hM 0 (iz 0) W hsg rfl rfl, Or.inr (by omega)⟩
    rw [show lpF = 3999 + 1 from rfl]
    have := RX_end (cc := cc) hL0 hL (m := 3999) (b := iz 0) (t := iz 0) (r := iz 0) (c := iz 0) (d := iz (-1)) (f0 := g0) (f1 := g1)
    rw [c0] at this ⊢
    rw [this]
    unfold pX4_read_R49
    rw [iz_0, if_pos rfl]
  · have hx := hT 0 (by omega) (by omega)
    have hb := tk_begin hx.2.1 hx.2.2 (iz 0) (iz 0) (iz 0) (iz (-1)) g0 g1
    by_cases c1 : X 0 = 84
    · rw [if_pos c1] at hb
      rw [if_pos (by omega)] at hsg
      have s1 := RX_step (m := 3999) hT hL (k := 0) (by omega) (by omega) hb
      rw [show (0 : Int) + 1 = 1 by omega] at s1 hsg
      rw [show lpF = 3999 + 1 from rfl, s1]
      have hM2 : ∀ r1 r2 r3, pX10_readTable (iz L) (iz 1) ss W (iz 0) = some (r1, r2, r3) → pX10_readText (iz L) sp ss w = (if r1 = iz 0 then some (r2, r2, r3) else bd1 (pX10_sign (iz L) r2 ss (iz 59)) (un2 (fun v19 w20 => if v19 = iz 0 then some (w20, w20, r3) else bd1 (pX10_readTable (iz L) w20 ss r3 (iz 1)) (un3 (fun v22 w23 w24 => if v22 = iz 0 then some (w23, w23, w24) else if w23 = iz L then some (iz (-9), w23, w24) else some (w23, w23, w24)))))) := fun r1 r2 r3 q => by
        unfold pX10_readText
        simp only [iz_0, iz_84, iz_59, iz_1, iz_9, iz_neg]
        rw [read_clear, hW, bd1_some, hsg, bd1_some, un2_mk, if_neg iz1_ne, q, bd1_some, un3_mk]
      have h0 : rS 0 0 0 tE (fs 0 g0 g1) W := ⟨tE_ok, z1, tM_0 (by omega) (by omega) hw0, len_tE 0, by omega, by omega, fun a _ => len_tE a, fun q => by omega⟩
      rcases table_both (t := 0) (by omega) (by omega) hT hT' hL0 hL (k := 1) (m := 3999) h0 (by omega) (by omega) (by omega) with ⟨e, q, w', b1, b2, b3, b4⟩ | ⟨k', i', j', T', f0', f1', w', m', b1, b2, b3, b4, b5, b6, b7, b8, b9, b10, b11⟩
      · refine ⟨e, q, iz e, w', b3, ?_, Or.inr (by omega)⟩
        rw [hM2 _ _ _ b4, if_pos rfl]
      · rw [b4, hM2 _ _ _ b5, if_neg iz1_ne]
        have hsg2 := pX10_sign_iz hT' hL0 hL (k := k') (x := 59) (by omega) b2 (by omega) (by omega)
        obtain ⟨m', rfl⟩ : ∃ m'', m' = m'' + 1 := ⟨m' - 1, by omega⟩
        by_cases c2 : k' = L
        · rw [if_neg (by omega)] at hsg2
          refine ⟨L, (iz 1, iz 0, iz i', iz j', iz (-1), f0', f1'), iz L, w', ?_, ?_, Or.inr (by omega)⟩
          · rw [c2, RX_end hL0 hL]
            exact R55_no (Or.inl (by decide))
          · rw [hsg2, bd1_some, un2_mk, if_pos rfl, c2]
        · have c3 : X k' = 59 := by omega
          rw [if_pos (by omega)] at hsg2
          have e2 := tk_semi_yes (r := iz i') (c := iz j') (d := iz (-1)) (f0 := f0') (f1 := f1') b7
          have s2 := RX_step (m := m') hT hL (k := k') (by omega) (by omega) (by rw [c3]; exact e2)
          rw [s2, hsg2, bd1_some, un2_mk, if_neg iz1_ne]
          have eX : fs 0 f0' f1' = f0' := rfl
          rw [eX] at b6
          have hf1 := b9 rfl
          have hw1 : tM tE 1 w' := by
            have q0 : tM tE 1 W := tM_0 (by omega) (by omega) hw0
            exact q0.out tE_ok.b b11 (by omega) (by omega) (by omega)
          have h1 : rS 1 0 0 tE (fs 1 f0' f1') w' := ⟨tE_ok, by show tX tE f1'; rw [hf1]; exact z3, hw1, len_tE 0, by omega, by omega, fun a _ => len_tE a, fun q => by omega⟩
          rcases table_both (t := 1) (by omega) (by omega) hT hT' hL0 hL (k := k' + 1) (m := m') h1 (by omega) (by omega) (by omega) with ⟨e, q, w'', d1, d2, d3, d4⟩ | ⟨k2, i2, j2, T2, f02, f12, w2, m2, d1, d2, d3, d4, d5, d6, d7, d8, d9, d10, d11⟩
          · refine ⟨e, q, iz e, w'', d3, ?_, Or.inr (by omega)⟩
            rw [d4, bd1_some, un3_mk, if_pos rfl]
          · obtain ⟨m2, rfl⟩ : ∃ m'', m2 = m'' + 1 := ⟨m2 - 1, by omega⟩
            rw [d4, d5, bd1_some, un3_mk, if_neg iz1_ne, ifz_eq (by omega) (by omega) (by omega) (by omega)]
            by_cases c4 : k2 = L
            · refine ⟨-9, (iz 1, iz 1, iz i2, iz j2, iz (-1), f02, f12), iz k2, w2, ?_, by rw [if_pos c4], Or.inl ⟨rfl, T', T2, b6.1, d6.1, ?_, d6.2.1, ?_, d6.2.2.1⟩⟩
              · rw [c4, RX_end hL0 hL]
                exact R55_yes d7
              · show tX T' f02
                rw [d10 (by omega)]
                exact b6.2.1
              · exact b6.2.2.1.out b6.1.b d11 (by omega) (by omega) (by omega)
            · refine ⟨k2, (iz 1, iz 1, iz i2, iz j2, iz (-1), f02, f12), iz k2, w2, ?_, by rw [if_neg c4], Or.inr (by omega)⟩
              have e3 := tk_semi_no (t := iz 1) (r := iz i2) (c := iz j2) (d := iz (-1)) (f0 := f02) (f1 := f12) (Or.inl iz1_ne)
              exact RX_fail hT hL d1 (by omega) (by rw [show X k2 = 59 by omega]; exact e3)
    · rw [if_neg c1] at hb
      rw [if_neg (by omega)] at hsg
      refine ⟨0, _, iz 0, W, RX_fail (m := 3999) hT hL (by omega) (by omega) hb, hM 0 (iz 0) W hsg rfl rfl, Or.inr (by omega)⟩
