-- the smallest number at which a count is greater than k
def isMin (F : Int → Int) (k m : Int) : Prop := 0 ≤ m ∧ k < F m ∧ ∀ v, 0 ≤ v → v < m → F v ≤ k
theorem isMin_uq {F : Int → Int} {k m n : Int} (h : isMin F k m) (h' : isMin F k n) : m = n := by
  have a := h.2.2 n h'.1
  have b := h'.2.2 m h.1
  have c := h.2.1
  have d := h'.2.1
  omega
def kMin (F : Int → Int) (N k m : Int) : Prop := k < F N ∧ isMin F k m ∧ m ≤ N ∨ F N ≤ k ∧ m = -9
theorem kMin_uq {F : Int → Int} {N k m n : Int} (h : kMin F N k m) (h' : kMin F N k n) : m = n := by
  rcases h with ⟨a, b, -⟩ | ⟨a, b⟩
  · rcases h' with ⟨a', b', -⟩ | ⟨a', b'⟩
    · exact isMin_uq b b'
    · omega
  · rcases h' with ⟨a', b', -⟩ | ⟨a', b'⟩
    · omega
    · omega
def pw2 : Nat → Int
  | 0 => 1
  | p + 1 => 2 * pw2 p
theorem pw2_pos (p : Nat) : 0 < pw2 p := by
  induction p with
  | zero => decide
  | succ p ih => rw [pw2]; omega
theorem lp_bs {b : Int32 × Int32 → Option ((Int32 × Int32) ⊕ Int32)} {F : Int → Int} {k : Int} (hF : ∀ u v, u ≤ v → F u ≤ F v) (hs : ∀ st x, 0 < st → st ≤ 128 → 0 ≤ x → x + st ≤ 256 → b (iz st, iz x) = some (.inl (iz (st / 2), iz (if k < F (x + st - 1) then x else x + st)))) (he : ∀ x, 0 ≤ x → x ≤ 256 → b (iz 0, iz x) = some (.inr (iz x))) : ∀ (p : Nat) (x : Int) (m : Nat), pw2 p ≤ 128 → 0 ≤ x → x + pw2 (p + 1) ≤ 256 → (∀ v, 0 ≤ v → v < x → F v ≤ k) → k < F (x + pw2 (p + 1) - 1) → p + 2 ≤ m → ∃ r, lpI m b (iz (pw2 p), iz x) = some (iz r) ∧ isMin F k r := by
  intro p
  induction p with
  | zero =>
    intro x m _ h2 h3 h4 h5 h6
    obtain ⟨m, rfl⟩ : ∃ m', m = m' + 2 := ⟨m - 2, by omega⟩
    have e1 : pw2 0 = 1 := rfl
    have e2 : pw2 (0 + 1) = 2 := rfl
    rw [e2] at h3 h5
    refine ⟨if k < F x then x else x + 1, ?_, ?_⟩
    · rw [e1, lpI, hs 1 x (by omega) (by omega) h2 (by omega), show x + 1 - 1 = x by omega]
      show lpI (m + 1) b _ = _
      rw [lpI, show (1 : Int) / 2 = 0 from rfl]
      by_cases c : k < F x
      · rw [if_pos c, he x h2 (by omega)]
      · rw [if_neg c, he (x + 1) (by omega) (by omega)]
    · by_cases c : k < F x
      · rw [if_pos c]
        exact ⟨h2, c, h4⟩
      · rw [if_neg c]
        refine ⟨by omega, by rw [show x + 2 - 1 = x + 1 by omega] at h5; exact h5, fun v h7 h8 => ?_⟩
        have := hF v x (by omega)
        omega
  | succ p ih =>
    intro x m h1 h2 h3 h4 h5 h6
    have hp := pw2_pos p
    have e1 : pw2 (p + 1) = 2 * pw2 p := rfl
    have e2 : pw2 (p + 1 + 1) = 2 * pw2 (p + 1) := rfl
    obtain ⟨m, rfl⟩ : ∃ m', m = m' + 1 := ⟨m - 1, by omega⟩
    rw [lpI, hs (pw2 (p + 1)) x (by omega) h1 h2 (by omega), show pw2 (p + 1) / 2 = pw2 p by omega]
    show ∃ r, lpI m b _ = _ ∧ _
    by_cases c : k < F (x + pw2 (p + 1) - 1)
    · rw [if_pos c]
      exact ih x m (by omega) h2 (by omega) h4 c (by omega)
    · rw [if_neg c]
      refine ih (x + pw2 (p + 1)) m (by omega) (by omega) (by omega) (fun v h7 h8 => ?_) ?_ (by omega)
      · have := hF v (x + pw2 (p + 1) - 1) (by omega)
        omega
      · rw [show x + pw2 (p + 1) + pw2 (p + 1) - 1 = x + pw2 (p + 1 + 1) - 1 by omega]
        exact h5
theorem isMin_le {F : Int → Int} {k m N : Int} (h : isMin F k m) (hN : 0 ≤ N) (h2 : k < F N) : m ≤ N := by
  by_cases c : m ≤ N
  · exact c
  · have := h.2.2 N hN (by omega)
    omega
theorem lp_lin {ρ : Type} {b : Int32 → Option (Int32 ⊕ (ρ ⊕ Unit))} {F : Int → Int} {k : Int} (out : Int → ρ) (N : Int) (hN : 0 ≤ N) (hN2 : N < 3000) (hs : ∀ v, 0 ≤ v → v < N → b (iz v) = some (if F v ≤ k then .inl (iz (v + 1)) else .inr (.inl (out v)))) (he : b (iz N) = some (.inr (.inr ()))) : (∀ m, isMin F k m → m < N → lpI lpF b (iz 0) = some (.inl (out m))) ∧ ((∀ v, 0 ≤ v → v < N → F v ≤ k) → lpI lpF b (iz 0) = some (.inr ())) := by
  refine ⟨fun m hm hm2 => ?_, fun h => ?_⟩
  · have h0 := hm.1
    have e0 : iz 0 = (fun k : Nat => iz (k : Int)) 0 := rfl
    rw [e0]
    refine lp_tr (fun k : Nat => iz (k : Int)) m.toNat _ (fun k hk => ?_) ?_ lpF (by unfold lpF; omega)
    · show b (iz (k : Int)) = _
      rw [hs k (by omega) (by omega), if_pos (hm.2.2 k (by omega) (by omega))]
      rfl
    · show b (iz (m.toNat : Int)) = _
      rw [show ((m.toNat : Nat) : Int) = m by omega, hs m h0 hm2, if_neg (by have := hm.2.1; omega)]
  · have e0 : iz 0 = (fun k : Nat => iz (k : Int)) 0 := rfl
    rw [e0]
    refine lp_tr (fun k : Nat => iz (k : Int)) N.toNat _ (fun k hk => ?_) ?_ lpF (by unfold lpF; omega)
    · show b (iz (k : Int)) = _
      rw [hs k (by omega) (by omega), if_pos (h k (by omega) (by omega))]
      rfl
    · show b (iz (N.toNat : Int)) = _
      rw [show ((N.toNat : Nat) : Int) = N by omega, he]
-- windows
theorem pX7_kthWithin_iz {T : Tb} {f : Nat → Int32} (hK : tOK T) (h : tX T f) {a l b r k : Int} (ha : 0 ≤ a) (hab : a ≤ b + 1) (hb : b < 6) (hl : 0 ≤ l) (hlr : l ≤ r + 1) (hr : r < 6) (hk : 0 ≤ k) (hk2 : k < 2147483648) : ∃ m, pX7_kthWithin f (iz a) (iz l) (iz b) (iz r) (iz k) = some (iz m) ∧ kMin (fun v => wc T a l b r v) 99 k m := by
  have w := wc_b (T := T) a l b r
  have w9 := w 99
  unfold pX7_kthWithin
  simp only [iz_99]
  rw [pX7_countWithin_iz hK h ha hab hb hl hlr hr (by omega) (by omega), bd1_some, ifz_lt (by omega) (by omega) (by omega) (by omega)]
  by_cases c : k < wc T a l b r 99
  · rw [if_pos c]
    obtain ⟨m, h1, h2⟩ := lp_bs (b := un2 (pX7_kthWithin_L26 f (iz a) (iz l) (iz b) (iz r) (iz k))) (F := fun v => wc T a l b r v) (k := k) (fun u v huv => wc_mono T huv a l b r) (fun st x q1 q2 q3 q4 => by
      have w' := w (x + st - 1)
      rw [un2_mk]
      unfold pX7_kthWithin_L26
      simp only [iz_0, iz_1, iz_2, iz_add, iz_sub]
      rw [ifz_le (by omega) (by omega) (by omega) (by omega), if_neg (by omega), pX7_countWithin_iz hK h ha hab hb hl hlr hr (by omega) (by omega), bd1_some, ifz_lt (by omega) (by omega) (by omega) (by omega), iz_divn (by omega) (by omega) (by omega) (by omega)]
      by_cases c2 : k < wc T a l b r (x + st - 1)
      · rw [if_pos c2, if_pos c2]
      · rw [if_neg c2, if_neg c2]) (fun x q1 q2 => by
      rw [un2_mk]
      unfold pX7_kthWithin_L26
      simp only [iz_0]
      rw [ifz_le (by omega) (by omega) (by omega) (by omega), if_pos (by omega)]) 6 0 lpF (by decide) (by omega) (by decide) (fun v q1 q2 => by omega) (by
      have := wc_mono T (show (99 : Int) ≤ 0 + pw2 (6 + 1) - 1 by decide) a l b r
      omega) (by unfold lpF; omega)
    simp only [iz_64, iz_0]
    have e : (64 : Int) = pw2 6 := rfl
    rw [e, h1, bd1_some]
    exact ⟨m, rfl, Or.inl ⟨c, h2, isMin_le h2 (by omega) c⟩⟩
  · rw [if_neg c]
    exact ⟨-9, by simp only [iz_9, iz_neg], Or.inr ⟨Int.not_lt.1 c, rfl⟩⟩
theorem pX10_windowKth_loop {T : Tb} {g : Nat → Int32} {t : Int} (hS : tS T) (h : tM T t g) (ht : 0 ≤ t) (ht2 : t ≤ 1) {a l hh w b r k m : Int} (ha : 0 ≤ a) (ha2 : a < 6) (hl : 0 ≤ l) (hl2 : l < 6) (hh1 : 0 < hh) (hh2 : hh ≤ 6) (hw : 0 < w) (hw2 : w ≤ 6) (hb : b = a + hh - 1 ∧ b ≤ 5 ∨ b = 5 ∧ 5 ≤ a + hh - 1) (hr : r = l + w - 1 ∧ r ≤ 5 ∨ r = 5 ∧ 5 ≤ l + w - 1) (hk : 0 ≤ k) (hk2 : k < 2147483648) (x : Int32) (hm : kMin (fun v => wc T a l b r v) 99 k m) : bd1 (lpI lpF (pX10_windowKth_L45 g (iz t) (iz a) (iz l) (iz hh) (iz w) (iz k) x) (iz 0)) (fun xx16 => el xx16 (un2 (fun y20 y21 => some (y20, y21))) (fun _ => pX10_windowKth_R82 x)) = some (iz m, x) := by
  have hq := lp_lin (b := pX10_windowKth_L45 g (iz t) (iz a) (iz l) (iz hh) (iz w) (iz k) x) (F := fun v => wc T a l b r v) (k := k) (fun v => (iz v, x)) 100 (by omega) (by omega) (fun v q1 q2 => by
    have w' := wc_b (T := T) a l b r v
    unfold pX10_windowKth_L45
    simp only [iz_100, iz_1, iz_add]
    rw [ifz_le (by omega) (by omega) (by omega) (by omega), if_neg (by omega), pX10_countIn_iz hS h ht ht2 ha ha2 hl hl2 hh1 hh2 hw hw2 hb hr (by omega) (by omega), bd1_some, ifz_le (by omega) (by omega) (by omega) (by omega)]
    by_cases c : wc T a l b r v ≤ k
    · rw [if_pos c, if_pos c]
    · rw [if_neg c, if_neg c]) (by
    unfold pX10_windowKth_L45
    simp only [iz_100]
    rw [ifz_le (by omega) (by omega) (by omega) (by omega), if_pos (by omega)])
  rcases hm with ⟨q1, q2, q3⟩ | ⟨q1, q2⟩
  · rw [hq.1 m q2 (by omega), bd1_some, el_inl, un2_mk]
  · rw [hq.2 (fun v q3 q4 => Int.le_trans (wc_mono T (show v ≤ 99 by omega) a l b r) q1), bd1_some, el_inr, q2]
    unfold pX10_windowKth_R82
    simp only [iz_9, iz_neg]
-- both tables
theorem pX2_cellsUpTo_iz {T U : Tb} {f u : Nat → Int32} (hK : tOK T) (h : tX T f) (hK' : tOK U) (h' : tX U u) {v : Int} (hv : -1000 ≤ v) (hv2 : v ≤ 1000) : pX2_cellsUpTo f u (iz v) = some (iz (cU T v + cU U v)) := by
  unfold pX2_cellsUpTo
  rw [pX7_cellsUpTo_iz hK h hv hv2, bd1_some, pX7_cellsUpTo_iz hK' h' hv hv2, bd1_some, iz_add]
theorem cU_mono (T : Tb) {v u : Int} (h : v ≤ u) : cU T v ≤ cU T u := wc_mono T h 0 0 5 5
theorem cU_b (T : Tb) (v : Int) : 0 ≤ cU T v ∧ cU T v ≤ 36 := wc_b 0 0 5 5 v
theorem pX2_kthNumberOfBoth_iz {T U : Tb} {f u : Nat → Int32} (hK : tOK T) (h : tX T f) (hK' : tOK U) (h' : tX U u) {k : Int} (hk : 0 ≤ k) (hk2 : k < 2147483648) : ∃ m, pX2_kthNumberOfBoth f u (iz k) = some (iz m) ∧ kMin (fun v => cU T v + cU U v) 99 k m := by
  have w := cU_b T
  have w' := cU_b U
  have w9 := w 99
  have w9' := w' 99
  unfold pX2_kthNumberOfBoth
  simp only [iz_99]
  rw [pX2_cellsUpTo_iz hK h hK' h' (by omega) (by omega), bd1_some, ifz_lt (by omega) (by omega) (by omega) (by omega)]
  by_cases c : k < cU T 99 + cU U 99
  · rw [if_pos c]
    obtain ⟨m, h1, h2⟩ := lp_bs (b := un2 (pX2_kthNumberOfBoth_L18 f u (iz k))) (F := fun v => cU T v + cU U v) (k := k) (fun x y huv => by
      have := cU_mono T huv
      have := cU_mono U huv
      show cU T x + cU U x ≤ cU T y + cU U y
      omega) (fun st x q1 q2 q3 q4 => by
      have w1 := w (x + st - 1)
      have w1' := w' (x + st - 1)
      rw [un2_mk]
      unfold pX2_kthNumberOfBoth_L18
      simp only [iz_0, iz_1, iz_2, iz_add, iz_sub]
      rw [ifz_le (by omega) (by omega) (by omega) (by omega), if_neg (by omega), pX2_cellsUpTo_iz hK h hK' h' (by omega) (by omega), bd1_some, ifz_lt (by omega) (by omega) (by omega) (by omega), iz_divn (by omega) (by omega) (by omega) (by omega)]
      by_cases c2 : k < cU T (x + st - 1) + cU U (x + st - 1)
      · rw [if_pos c2, if_pos c2]
      · rw [if_neg c2, if_neg c2]) (fun x q1 q2 => by
      rw [un2_mk]
      unfold pX2_kthNumberOfBoth_L18
      simp only [iz_0]
      rw [ifz_le (by omega) (by omega) (by omega) (by omega), if_pos (by omega)]) 6 0 lpF (by decide) (by omega) (by decide) (fun v q1 q2 => by omega) (by
      have := cU_mono T (show (99 : Int) ≤ 0 + pw2 (6 + 1) - 1 by decide)
      have := cU_mono U (show (99 : Int) ≤ 0 + pw2 (6 + 1) - 1 by decide)
      show k < cU T (0 + pw2 (6 + 1) - 1) + cU U (0 + pw2 (6 + 1) - 1)
      omega) (by unfold lpF; omega)
    simp only [iz_64, iz_0]
    have e : (64 : Int) = pw2 6 := rfl
    rw [e, h1, bd1_some]
    exact ⟨m, rfl, Or.inl ⟨c, h2, isMin_le h2 (by omega) c⟩⟩
  · rw [if_neg c]
    refine ⟨-9, by simp only [iz_9, iz_neg], Or.inr ⟨?_, rfl⟩⟩
    show cU T 99 + cU U 99 ≤ k
    omega
theorem pX2_tableOfKth_iz {T U : Tb} {f u : Nat → Int32} (hK : tOK T) (h : tX T f) (hK' : tOK U) (h' : tX U u) {k m : Int} (hk : 0 ≤ k) (hk2 : k < 2147483648) (hm : 0 ≤ m) (hm2 : m ≤ 200) : pX2_tableOfKth f u (iz k) (iz m) = some (if cU T m + cU U (m - 1) ≤ k then iz 1 else iz 0) := by
  have w := cU_b T m
  have w' := cU_b U (m - 1)
  unfold pX2_tableOfKth
  rw [pX7_cellsUpTo_iz hK h (by omega) (by omega), bd1_some]
  simp only [iz_1, iz_sub, iz_0]
  rw [pX7_cellsUpTo_iz hK' h' (by omega) (by omega), bd1_some]
  simp only [iz_add]
  rw [ifz_le (by omega) (by omega) (by omega) (by omega)]
  by_cases c : cU T m + cU U (m - 1) ≤ k
  · rw [if_pos c, if_pos c]
  · rw [if_neg c, if_neg c]
theorem pX10_kthOfBoth_loop {T U : Tb} {g : Nat → Int32} (hS : tS T) (h : tM T 0 g) (hS' : tS U) (h' : tM U 1 g) {k m z : Int} (hk : 0 ≤ k) (hk2 : k < 2147483648) (hz : sm32 z) (x : Int32) (hm : kMin (fun v => cU T v + cU U v) 99 k m) : bd1 (lpI lpF (pX10_kthOfBoth_L20 g (iz k) (iz z) x) (iz 0)) (fun xx12 => el xx12 (un2 (fun y22 y23 => some (y22, y23))) (fun _ => pX10_kthOfBoth_R94 x)) = some (if m = -9 then iz (-9) else if z = 0 then iz m else if cU T m + cU U (m - 1) ≤ k then iz 1 else iz 0, x) := by
  have hq := lp_lin (b := pX10_kthOfBoth_L20 g (iz k) (iz z) x) (F := fun v => cU T v + cU U v) (k := k) (fun v => (if z = 0 then iz v else if cU T v + cU U (v - 1) ≤ k then iz 1 else iz 0, x)) 100 (by omega) (by omega) (fun v q1 q2 => by
    have w := cU_b T v
    have w' := cU_b U v
    have w2' := cU_b U (v - 1)
    unfold pX10_kthOfBoth_L20
    simp only [iz_100, iz_1, iz_0, iz_sub]
    rw [ifz_le (by omega) (by omega) (by omega) (by omega), if_neg (by omega), pX10_upTo_iz hS h (by omega) (by omega) (by omega) (by omega), bd1_some, pX10_upTo_iz hS' h' (by omega) (by omega) (by omega) (by omega), bd1_some]
    rw [bd1_some, pX10_upTo_iz hS' h' (by omega) (by omega) (by omega) (by omega), bd1_some]
    simp only [iz_add]
    rw [ifz_le (by omega) (by omega) (by omega) (by omega), ifz_eq hz.1 hz.2 (by omega) (by omega), ifz_le (by omega) (by omega) (by omega) (by omega)]
    by_cases c : cU T v + cU U v ≤ k
    · rw [if_pos c, if_pos c]
    · rw [if_neg c, if_neg c]
      by_cases c2 : z = 0
      · rw [if_pos c2, if_pos c2]
      · rw [if_neg c2, if_neg c2]
        by_cases c3 : cU T v + cU U (v - 1) ≤ k
        · rw [if_pos c3, if_pos c3]
        · rw [if_neg c3, if_neg c3]) (by
    unfold pX10_kthOfBoth_L20
    simp only [iz_100]
    rw [ifz_le (by omega) (by omega) (by omega) (by omega), if_pos (by omega)])
  rcases hm with ⟨q1, q2, q3⟩ | ⟨q1, q2⟩
  · have q4 := q2.1
    rw [hq.1 m q2 (by omega), bd1_some, el_inl, un2_mk, if_neg (show ¬ m = -9 by omega)]
  · rw [hq.2 (fun v q3 q4 => by
      have := cU_mono T (show v ≤ 99 by omega)
      have := cU_mono U (show v ≤ 99 by omega)
      have q5 : cU T 99 + cU U 99 ≤ k := q1
      show cU T v + cU U v ≤ k
      omega), bd1_some, el_inr, if_pos q2]
    unfold pX10_kthOfBoth_R94
    simp only [iz_9, iz_neg]
-- pairs
def prF (T U : Tb) (s i : Int) : Int → Int := fun j => if T i j = -1 then 0 else cU U (s - T i j)
def prR (T U : Tb) (s : Int) : Int → Int := fun i => sumI (prF T U s i) 6
def prs (T U : Tb) (s : Int) : Int := sumI (prR T U s) 6
theorem prs_b (T U : Tb) (s : Int) : 0 ≤ prs T U s ∧ prs T U s ≤ 1296 := by
  have h1 : ∀ i j, 0 ≤ prF T U s i j ∧ prF T U s i j ≤ 36 := fun i j => by
    unfold prF
    by_cases c : T i j = -1
    · rw [if_pos c]; omega
    · rw [if_neg c]; exact cU_b U _
  have h4 : ∀ i, 0 ≤ prR T U s i ∧ prR T U s i ≤ 216 := fun i => by
    have h2 := sumI_nn (fun k => (h1 i k).1) 6
    have h3 := sumI_b (fun k => (h1 i k).2) 6
    unfold prR
    omega
  have h2 := sumI_nn (fun k => (h4 k).1) 6
  have h3 := sumI_b (fun k => (h4 k).2) 6
  unfold prs
  omega
theorem prs_mono (T U : Tb) {v u : Int} (h : v ≤ u) : prs T U v ≤ prs T U u := by
  unfold prs
  refine sumI_le (fun i _ _ => ?_)
  unfold prR
  refine sumI_le (fun j _ _ => ?_)
  unfold prF
  by_cases c : T i j = -1
  · rw [if_pos c, if_pos c]
    exact Int.le_refl _
  · rw [if_neg c, if_neg c]
    exact cU_mono U (by omega)
theorem pX2_pairsRow_iz {T U : Tb} {f u : Nat → Int32} (hK : tOK T) (h : tX T f) (hK' : tOK U) (h' : tX U u) {s i n : Int} (hs : -500 ≤ s) (hs2 : s ≤ 500) (h1 : 0 ≤ i) (h2 : i < 6) : lpI lpF (un2 (pX2_pairsUpTo_L13 f u (iz s) (iz i))) (iz 0, iz n) = some (iz (n + prR T U s i)) := by
  have e0 : iz n = iz (n + sumI (prF T U s i) (0 : Int).toNat) := by
    rw [show (0 : Int).toNat = 0 from rfl, sumI_0, Int.add_zero]
  rw [e0]
  refine lp_cf (fun j => iz (n + sumI (prF T U s i) j.toNat)) 0 6 _ (by omega) (by omega) (fun j hj hj2 => ?_) ?_
  · have hb := hK.b.lo i j
    rw [un2_mk]
    unfold pX2_pairsUpTo_L13
    simp only [iz_6, iz_1, iz_0, iz_add]
    rw [ifz_le (by omega) (by omega) (by omega) (by omega), if_neg (by omega), pX7_has_iz hK.b h (by omega) (by omega) (by omega) (by omega), bd1_some, pX7_at_iz hK.b h (by omega) (by omega) (by omega) (by omega), bd1_some]
    simp only [iz_sub]
    rw [pX7_cellsUpTo_iz hK' h' (by omega) (by omega), bd1_some]
    rw [show (j + 1).toNat = j.toNat + 1 by omega, sumI_s, show ((j.toNat : Nat) : Int) = j by omega]
    simp only [iz_add]
    by_cases c : T i j = -1
    · rw [if_pos c, if_pos rfl, show prF T U s i j = 0 by unfold prF; rw [if_pos c], Int.add_zero]
    · rw [if_neg c, if_neg (by decide), show prF T U s i j = cU U (s - T i j) by unfold prF; rw [if_neg c], Int.add_assoc]
  · rw [un2_mk]
    unfold pX2_pairsUpTo_L13
    simp only [iz_6]
    rw [ifz_le (by omega) (by omega) (by omega) (by omega), if_pos (by omega)]
    rfl
theorem pX2_pairsUpTo_iz {T U : Tb} {f u : Nat → Int32} (hK : tOK T) (h : tX T f) (hK' : tOK U) (h' : tX U u) {s : Int} (hs : -500 ≤ s) (hs2 : s ≤ 500) : pX2_pairsUpTo f u (iz s) = some (iz (prs T U s)) := by
  unfold pX2_pairsUpTo
  simp only [iz_0]
  have hl : lpI lpF (un2 (pX2_pairsUpTo_L4 f u (iz s))) (iz 0, iz 0) = some (iz (prs T U s)) := by
    refine lp_cf (fun i => iz (sumI (prR T U s) i.toNat)) 0 6 _ (by omega) (by omega) (fun i hi hi2 => ?_) ?_
    · rw [un2_mk]
      unfold pX2_pairsUpTo_L4
      simp only [iz_6, iz_1, iz_0, iz_add]
      rw [ifz_le (by omega) (by omega) (by omega) (by omega), if_neg (by omega), pX2_pairsRow_iz hK h hK' h' hs hs2 hi hi2, bd1_some]
      rw [show (i + 1).toNat = i.toNat + 1 by omega, sumI_s, show ((i.toNat : Nat) : Int) = i by omega]
    · rw [un2_mk]
      unfold pX2_pairsUpTo_L4
      simp only [iz_6]
      rw [ifz_le (by omega) (by omega) (by omega) (by omega), if_pos (by omega)]
      rfl
  rw [hl, bd1_some]
theorem pX10_pairsRow_iz {T U : Tb} {g : Nat → Int32} (hS : tS T) (h : tM T 0 g) (hS' : tS U) (h' : tM U 1 g) {s i n : Int} (hs : -500 ≤ s) (hs2 : s ≤ 500) (h1 : 0 ≤ i) (h2 : i < 6) : lpI lpF (un2 (pX10_pairsOf_L13 g (iz s) (iz i))) (iz 0, iz n) = some (iz (n + prR T U s i)) := by
  have hb := len_b T i
  have e0 : iz n = iz (n + sumI (prF T U s i) (0 : Int).toNat) := by
    rw [show (0 : Int).toNat = 0 from rfl, sumI_0, Int.add_zero]
  rw [e0]
  refine lp_cf (fun j => iz (n + sumI (prF T U s i) j.toNat)) 0 (len T i) _ (by omega) (by omega) (fun j hj hj2 => ?_) ?_
  · have hs' := len_spec hS i j hj
    have hc : T i j ≠ -1 := hs'.2 hj2
    have hb := hS.1.lo i j
    rw [un2_mk]
    unfold pX10_pairsOf_L13
    simp only [iz_1, iz_0, iz_add]
    rw [pX10_length_iz hS.1 h (by omega) (by omega) (by omega) (by omega), bd1_some, ifz_le (by omega) (by omega) (by omega) (by omega), if_neg (by omega), pX10_get_iz h (by omega) (by omega) hc h1 h2 hj (by omega), bd1_some, iz_sub, pX10_upTo_iz hS' h' (by omega) (by omega) (by omega) (by omega), bd1_some, iz_add]
    rw [show (j + 1).toNat = j.toNat + 1 by omega, sumI_s, show ((j.toNat : Nat) : Int) = j by omega]
    rw [show prF T U s i j = cU U (s - T i j) by unfold prF; rw [if_neg hc], Int.add_assoc]
  · rw [un2_mk]
    unfold pX10_pairsOf_L13
    simp only [iz_0]
    rw [pX10_length_iz hS.1 h (by omega) (by omega) (by omega) (by omega), bd1_some, ifz_le (by omega) (by omega) (by omega) (by omega), if_pos (by omega)]
    unfold prR
    rw [sumI_tail (f := prF T U s i) (m := (len T i).toNat) (n := 6) (by omega) (fun k q1 q2 => by
      have := len_spec hS i k (by omega)
      unfold prF
      rw [if_pos (by omega)])]
theorem pX10_pairsOf_iz {T U : Tb} {g : Nat → Int32} (hS : tS T) (h : tM T 0 g) (hS' : tS U) (h' : tM U 1 g) {s : Int} (hs : -500 ≤ s) (hs2 : s ≤ 500) : pX10_pairsOf g (iz s) = some (iz (prs T U s)) := by
  unfold pX10_pairsOf
  simp only [iz_0]
  have hl : lpI lpF (un2 (pX10_pairsOf_L4 g (iz s))) (iz 0, iz 0) = some (iz (prs T U s)) := by
    refine lp_cf (fun i => iz (sumI (prR T U s) i.toNat)) 0 6 _ (by omega) (by omega) (fun i hi hi2 => ?_) ?_
    · rw [un2_mk]
      unfold pX10_pairsOf_L4
      simp only [iz_6, iz_1, iz_0, iz_add]
      rw [ifz_le (by omega) (by omega) (by omega) (by omega), if_neg (by omega), pX10_pairsRow_iz hS h hS' h' hs hs2 hi hi2, bd1_some]
      rw [show (i + 1).toNat = i.toNat + 1 by omega, sumI_s, show ((i.toNat : Nat) : Int) = i by omega]
    · rw [un2_mk]
      unfold pX10_pairsOf_L4
      simp only [iz_6]
      rw [ifz_le (by omega) (by omega) (by omega) (by omega), if_pos (by omega)]
      rfl
  rw [hl, bd1_some]
theorem pX2_kthSumOfPair_iz {T U : Tb} {f u : Nat → Int32} (hK : tOK T) (h : tX T f) (hK' : tOK U) (h' : tX U u) {k : Int} (hk : 0 ≤ k) (hk2 : k < 2147483648) : ∃ m, pX2_kthSumOfPair f u (iz k) = some (iz m) ∧ kMin (fun v => prs T U v) 198 k m := by
  have w := prs_b T U
  have w9 := w 198
  unfold pX2_kthSumOfPair
  simp only [iz_198]
  rw [pX2_pairsUpTo_iz hK h hK' h' (by omega) (by omega), bd1_some, ifz_lt (by omega) (by omega) (by omega) (by omega)]
  by_cases c : k < prs T U 198
  · rw [if_pos c]
    obtain ⟨m, h1, h2⟩ := lp_bs (b := un2 (pX2_kthSumOfPair_L20 f u (iz k))) (F := fun v => prs T U v) (k := k) (fun x y huv => prs_mono T U huv) (fun st x q1 q2 q3 q4 => by
      have w1 := w (x + st - 1)
      rw [un2_mk]
      unfold pX2_kthSumOfPair_L20
      simp only [iz_0, iz_1, iz_2, iz_add, iz_sub]
      rw [ifz_le (by omega) (by omega) (by omega) (by omega), if_neg (by omega), pX2_pairsUpTo_iz hK h hK' h' (by omega) (by omega), bd1_some, ifz_lt (by omega) (by omega) (by omega) (by omega), iz_divn (by omega) (by omega) (by omega) (by omega)]
      by_cases c2 : k < prs T U (x + st - 1)
      · rw [if_pos c2, if_pos c2]
      · rw [if_neg c2, if_neg c2]) (fun x q1 q2 => by
      rw [un2_mk]
      unfold pX2_kthSumOfPair_L20
      simp only [iz_0]
      rw [ifz_le (by omega) (by omega) (by omega) (by omega), if_pos (by omega)]) 7 0 lpF (by decide) (by omega) (by decide) (fun v q1 q2 => by omega) (by
      have := prs_mono T U (show (198 : Int) ≤ 0 + pw2 (7 + 1) - 1 by decide)
      omega) (by unfold lpF; omega)
    simp only [iz_128, iz_0]
    have e : (128 : Int) = pw2 7 := rfl
    rw [e, h1, bd1_some]
    exact ⟨m, rfl, Or.inl ⟨c, h2, isMin_le h2 (by omega) c⟩⟩
  · rw [if_neg c]
    exact ⟨-9, by simp only [iz_9, iz_neg], Or.inr ⟨Int.not_lt.1 c, rfl⟩⟩
theorem pX10_kthSum_loop {T U : Tb} {g : Nat → Int32} (hS : tS T) (h : tM T 0 g) (hS' : tS U) (h' : tM U 1 g) {k m : Int} (hk : 0 ≤ k) (hk2 : k < 2147483648) (x : Int32) (hm : kMin (fun v => prs T U v) 198 k m) : bd1 (lpI lpF (pX10_kthSum_L20 g (iz k) x) (iz 0)) (fun xx12 => el xx12 (un2 (fun y16 y17 => some (y16, y17))) (fun _ => pX10_kthSum_R47 x)) = some (iz m, x) := by
  have hq := lp_lin (b := pX10_kthSum_L20 g (iz k) x) (F := fun v => prs T U v) (k := k) (fun v => (iz v, x)) 199 (by omega) (by omega) (fun v q1 q2 => by
    have w := prs_b T U v
    unfold pX10_kthSum_L20
    simp only [iz_198, iz_1, iz_add]
    rw [ifz_lt (by omega) (by omega) (by omega) (by omega), if_neg (by omega), pX10_pairsOf_iz hS h hS' h' (by omega) (by omega), bd1_some, ifz_le (by omega) (by omega) (by omega) (by omega)]
    by_cases c : prs T U v ≤ k
    · rw [if_pos c, if_pos c]
    · rw [if_neg c, if_neg c]) (by
    unfold pX10_kthSum_L20
    simp only [iz_198]
    rw [ifz_lt (by omega) (by omega) (by omega) (by omega), if_pos (by omega)])
  rcases hm with ⟨q1, q2, q3⟩ | ⟨q1, q2⟩
  · rw [hq.1 m q2 (by omega), bd1_some, el_inl, un2_mk]
  · rw [hq.2 (fun v q3 q4 => Int.le_trans (prs_mono T U (show v ≤ 198 by omega)) q1), bd1_some, el_inr, q2]
    unfold pX10_kthSum_R47
    simp only [iz_9, iz_neg]
