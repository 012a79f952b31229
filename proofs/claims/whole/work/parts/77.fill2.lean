-- hooks in a row of 37 numbers
def hkP (T : Tb) (p : Int) : Int := len T (p / 6) - p % 6 + tall T (p % 6) - p / 6 - 1
theorem hk_b {T : Tb} (hS : tS T) {p : Int} (h1 : 0 ≤ p) (h2 : p < 36) (hc : T (p / 6) (p % 6) ≠ -1) : 1 ≤ hkP T p ∧ hkP T p ≤ 11 := by
  have a := (len_spec hS (p / 6) (p % 6) (by omega)).1 hc
  have b := (tall_spec hS (p / 6) (p % 6) (by omega)).1 hc
  have c := len_b T (p / 6)
  have d := tall_b T (p % 6)
  unfold hkP
  omega
/-- the class's factors, the hooks of the first p places taken away -/
def wX (T : Tb) : Nat → Int → Int
  | 0, f => if 1 ≤ f ∧ f ≤ cnt T then 1 else 0
  | p + 1, f => if T ((p : Int) / 6) ((p : Int) % 6) ≠ -1 ∧ f = hkP T p then wX T p f - 1 else wX T p f
/-- the primes of the hooks of the first p places -/
def hkF (T : Tb) (k : Int) : Int → Int := fun p => if T (p / 6) (p % 6) = -1 then 0 else vc (hkP T p) k
def wM (T : Tb) (p k : Int) : Int := sumI (fun n => vc n k) (cnt T + 1).toNat - sumI (hkF T k) p.toNat
theorem sumI_upd {W c : Int → Int} {h : Int} (h0 : 0 ≤ h) : ∀ n : Nat, sumI (fun f => (if f = h then W f - 1 else W f) * c f) n = sumI (fun f => W f * c f) n - (if h < n then c h else 0) := by
  intro n
  induction n with
  | zero =>
    rw [sumI_0, sumI_0, if_neg (by omega)]
    rfl
  | succ n ih =>
    rw [sumI_s, sumI_s, ih]
    by_cases c1 : (n : Int) = h
    · rw [if_pos c1, if_neg (by omega), if_pos (by omega), ← c1, Int.sub_mul]
      omega
    · rw [if_neg c1]
      by_cases c2 : h < n
      · rw [if_pos c2, if_pos (by omega)]
        omega
      · rw [if_neg c2, if_neg (by omega)]
        omega
theorem wX_sum {T : Tb} (hS : tS T) {k : Int} : ∀ p : Nat, p ≤ 36 → sumI (fun f => wX T p f * vc f k) 37 = wM T p k := by
  intro p
  induction p with
  | zero =>
    intro _
    have hc := cnt_b T
    have e1 : sumI (fun f => wX T 0 f * vc f k) 37 = sumI (fun f => wX T 0 f * vc f k) (cnt T + 1).toNat := by
      refine sumI_tail (by omega) (fun f h1 h2 => ?_)
      show (if 1 ≤ f ∧ f ≤ cnt T then (1 : Int) else 0) * vc f k = 0
      rw [if_neg (by omega), Int.zero_mul]
    unfold wM
    rw [e1, show (((0 : Nat) : Int)).toNat = 0 from rfl, sumI_0, Int.sub_zero]
    refine sumI_congr (fun f h1 h2 => ?_)
    show (if 1 ≤ f ∧ f ≤ cnt T then (1 : Int) else 0) * vc f k = vc f k
    by_cases c : f = 0
    · rw [c, vc_0, Int.mul_zero]
    · rw [if_pos (by omega), Int.one_mul]
  | succ p ih =>
    intro hp
    have q := ih (by omega)
    have e2 : wM T ((p + 1 : Nat) : Int) k = wM T p k - hkF T k p := by
      unfold wM
      rw [show (((p + 1 : Nat) : Int)).toNat = p + 1 by omega, show (((p : Nat) : Int)).toNat = p by omega, sumI_s]
      omega
    rw [e2, ← q]
    by_cases c : T ((p : Int) / 6) ((p : Int) % 6) = -1
    · have e3 : ∀ f, wX T (p + 1) f = wX T p f := fun f => by
        rw [wX, if_neg (by omega)]
      rw [show hkF T k p = 0 by unfold hkF; rw [if_pos c], Int.sub_zero]
      exact sumI_congr (fun f _ _ => by rw [e3])
    · have hb := hk_b hS (p := (p : Int)) (by omega) (by omega) c
      have e3 : ∀ f, wX T (p + 1) f = if f = hkP T p then wX T p f - 1 else wX T p f := fun f => by
        rw [wX]
        by_cases c2 : f = hkP T p
        · rw [if_pos ⟨c, c2⟩, if_pos c2]
        · rw [if_neg (by omega), if_neg c2]
      have e4 := sumI_upd (W := wX T p) (c := fun f => vc f k) (h := hkP T p) (by omega) 37
      rw [if_pos (by omega)] at e4
      rw [show hkF T k p = vc (hkP T p) k by unfold hkF; rw [if_neg c], ← e4]
      exact sumI_congr (fun f _ _ => by rw [e3])
theorem fill_L7 {c : Int} (hc : 0 ≤ c) (hc2 : c ≤ 36) (w : Nat → Int32) : lpI lpF (un2 (pX0_countFor_L7 (iz c))) (iz 0, w) = some (aW (fun f => if 1 ≤ f ∧ f ≤ c then 1 else 0) w) := by
  have hl : lpI lpF (un2 (pX0_countFor_L7 (iz c))) (iz 0, cpW (fun k => iz (if 1 ≤ (k : Int) ∧ (k : Int) ≤ c then 1 else 0)) w 0 0 0) = some (cpW (fun k => iz (if 1 ≤ (k : Int) ∧ (k : Int) ≤ c then 1 else 0)) w 0 0 37) := by
    refine lp_cf (fun i => cpW (fun k => iz (if 1 ≤ (k : Int) ∧ (k : Int) ≤ c then 1 else 0)) w 0 0 i) 0 37 _ (by omega) (by omega) (fun i hi hi2 => ?_) ?_
    · have e := cpW_s (fun k => iz (if 1 ≤ (k : Int) ∧ (k : Int) ≤ c then 1 else 0)) w 0 0 i (by omega) hi
      rw [show (0 : Int) + i = i by omega, show ((i.toNat : Nat) : Int) = i by omega] at e
      rw [un2_mk, ← e]
      unfold pX0_countFor_L7
      simp only [iz_36, iz_1, iz_0, iz_add]
      rw [ifz_lt (by omega) (by omega) (by omega) (by omega), if_neg (by omega), ifz_lt (by omega) (by omega) (by omega) (by omega), ifz_lt (by omega) (by omega) (by omega) (by omega)]
      by_cases c1 : i < 1
      · rw [if_pos c1, sI_iz (by omega) (by omega) (by omega), bd1_some, if_neg (by omega)]
      · rw [if_neg c1]
        by_cases c2 : c < i
        · rw [if_pos c2, sI_iz (by omega) (by omega) (by omega), bd1_some, if_neg (by omega)]
        · rw [if_neg c2, sI_iz (by omega) (by omega) (by omega), bd1_some, if_pos (by omega)]
    · rw [un2_mk]
      unfold pX0_countFor_L7
      simp only [iz_36]
      rw [ifz_lt (by omega) (by omega) (by omega) (by omega), if_pos (by omega)]
  rw [cpW_0] at hl
  exact hl
theorem fill_L10 {T : Tb} {f : Nat → Int32} (hS : tS T) (h : tX T f) {i : Int} (h1 : 0 ≤ i) (h2 : i < 6) (w : Nat → Int32) : lpI lpF (un2 (pX0_divideByHooks_L10 f (iz i))) (iz 0, aW (wX T (6 * i).toNat) w) = some (aW (wX T (6 * i + 6).toNat) w) := by
  have e0 : aW (wX T (6 * i).toNat) w = aW (wX T (6 * i + 0).toNat) w := by rw [Int.add_zero]
  rw [e0]
  refine lp_cf (fun j => aW (wX T (6 * i + j).toNat) w) 0 6 _ (by omega) (by omega) (fun j hj hj2 => ?_) ?_
  · rw [un2_mk]
    unfold pX0_divideByHooks_L10
    simp only [iz_6, iz_0, iz_1, iz_36, iz_add]
    rw [ifz_le (by omega) (by omega) (by omega) (by omega), if_neg (by omega), pX7_has_iz hS.1 h (by omega) (by omega) (by omega) (by omega), bd1_some, pX7_hookOf_iz hS.1 h h1 h2 hj hj2, bd1_some]
    rw [show (6 * i + (j + 1)).toNat = (6 * i + j).toNat + 1 by omega]
    have e3 : ∀ x, wX T ((6 * i + j).toNat + 1) x = if T i j ≠ -1 ∧ x = len T i - j + tall T j - i - 1 then wX T (6 * i + j).toNat x - 1 else wX T (6 * i + j).toNat x := fun x => by
      rw [wX]
      unfold hkP
      rw [show (((6 * i + j).toNat : Nat) : Int) / 6 = i by omega, show (((6 * i + j).toNat : Nat) : Int) % 6 = j by omega]
    by_cases c : T i j = -1
    · rw [if_pos c, if_pos rfl, bd1_some, ifz_lt (by omega) (by omega) (by omega) (by omega), if_pos (by omega)]
      rw [aW_congr (W := wX T ((6 * i + j).toNat + 1)) (W' := wX T (6 * i + j).toNat) w (fun x _ _ => by rw [e3, if_neg (by omega)])]
    · have hb := hk_b hS (p := 6 * i + j) (by omega) (by omega) (by rw [show (6 * i + j) / 6 = i by omega, show (6 * i + j) % 6 = j by omega]; exact c)
      unfold hkP at hb
      rw [show (6 * i + j) / 6 = i by omega, show (6 * i + j) % 6 = j by omega] at hb
      rw [if_neg c, if_neg iz1_ne, bd1_some, ifz_lt (by omega) (by omega) (by omega) (by omega), if_neg (by omega), ifz_lt (by omega) (by omega) (by omega) (by omega), if_neg (by omega), aW_get _ w (by omega) (by omega), bd1_some, iz_sub, aW_set _ w (by omega) (by omega), bd1_some]
      rw [aW_congr (W := wX T ((6 * i + j).toNat + 1)) (W' := fun x => if x = len T i - j + tall T j - i - 1 then wX T (6 * i + j).toNat (len T i - j + tall T j - i - 1) - 1 else wX T (6 * i + j).toNat x) w (fun x _ _ => by
        rw [e3]
        show _ = (if x = len T i - j + tall T j - i - 1 then wX T (6 * i + j).toNat (len T i - j + tall T j - i - 1) - 1 else wX T (6 * i + j).toNat x)
        by_cases c2 : x = len T i - j + tall T j - i - 1
        · rw [if_pos ⟨c, c2⟩, if_pos c2, c2]
        · rw [if_neg (by omega), if_neg c2])]
  · rw [un2_mk]
    unfold pX0_divideByHooks_L10
    simp only [iz_6]
    rw [ifz_le (by omega) (by omega) (by omega) (by omega), if_pos (by omega)]
theorem pX0_divideByHooks_iz {T : Tb} {f : Nat → Int32} (hS : tS T) (h : tX T f) (w : Nat → Int32) : pX0_divideByHooks (aW (wX T 0) w) f = some (aW (wX T 36) w) := by
  have hl : lpI lpF (un2 (pX0_divideByHooks_L2 f)) (iz 0, aW (wX T (6 * (0 : Int)).toNat) w) = some (aW (wX T 36) w) := by
    refine lp_cf (fun i => aW (wX T (6 * i).toNat) w) 0 6 _ (by omega) (by omega) (fun i hi hi2 => ?_) ?_
    · rw [un2_mk]
      unfold pX0_divideByHooks_L2
      simp only [iz_6, iz_0, iz_1, iz_add]
      rw [ifz_le (by omega) (by omega) (by omega) (by omega), if_neg (by omega), fill_L10 hS h hi hi2, bd1_some, show 6 * (i + 1) = 6 * i + 6 by omega]
    · rw [un2_mk]
      unfold pX0_divideByHooks_L2
      simp only [iz_6]
      rw [ifz_le (by omega) (by omega) (by omega) (by omega), if_pos (by omega)]
      rfl
  unfold pX0_divideByHooks
  rw [iz_0, show (0 : Nat) = (6 * (0 : Int)).toNat from rfl, hl, bd1_some]
theorem pX0_powerOf_iz {T : Tb} (hS : tS T) (w : Nat → Int32) {k : Int} (h3 : 0 ≤ k) (h4 : k ≤ 36) (h5 : isP k.toNat = true) : pX0_powerOf (aW (wX T 36) w) (iz k) = some (iz (wM T 36 k)) := by
  have hl : lpI lpF (un2 (pX0_powerOf_L4 (aW (wX T 36) w) (iz k))) (iz 1, iz (sumI (fun f => wX T 36 f * vc f k) (1 : Int).toNat)) = some (iz (sumI (fun f => wX T 36 f * vc f k) 37)) := by
    refine lp_cf (fun f => iz (sumI (fun f => wX T 36 f * vc f k) f.toNat)) 1 37 _ (by omega) (by omega) (fun f hf hf2 => ?_) ?_
    · rw [un2_mk]
      unfold pX0_powerOf_L4
      simp only [iz_36, iz_1, iz_add]
      rw [ifz_lt (by omega) (by omega) (by omega) (by omega), if_neg (by omega), aW_get _ w (by omega) (by omega), bd1_some, pX0_powerIn_iz hf (by omega) h3 h4 h5, bd1_some, iz_mul, iz_add]
      rw [show (f + 1).toNat = f.toNat + 1 by omega, sumI_s, show ((f.toNat : Nat) : Int) = f by omega]
    · rw [un2_mk]
      unfold pX0_powerOf_L4
      simp only [iz_36]
      rw [ifz_lt (by omega) (by omega) (by omega) (by omega), if_pos (by omega)]
      rfl
  have e1 : sumI (fun f => wX T 36 f * vc f k) (1 : Int).toNat = 0 := by
    rw [show (1 : Int).toNat = 0 + 1 from rfl, sumI_s, sumI_0]
    show 0 + wX T 36 0 * vc 0 k = 0
    rw [vc_0, Int.mul_zero]
    rfl
  rw [e1] at hl
  unfold pX0_powerOf
  rw [iz_1, iz_0, hl, bd1_some, wX_sum hS 36 (by omega)]
  rfl
theorem hkF_b {T : Tb} (hS : tS T) {k : Int} (h3 : 0 ≤ k) (h4 : k ≤ 36) : ∀ p : Nat, p ≤ 36 → 0 ≤ sumI (hkF T k) p ∧ sumI (hkF T k) p ≤ 6 * p := by
  intro p
  induction p with
  | zero => intro _; rw [sumI_0]; omega
  | succ p ih =>
    intro hp
    have q := ih (by omega)
    rw [sumI_s]
    have : 0 ≤ hkF T k p ∧ hkF T k p ≤ 6 := by
      unfold hkF
      by_cases c : T ((p : Int) / 6) ((p : Int) % 6) = -1
      · rw [if_pos c]; omega
      · have hb := hk_b hS (p := (p : Int)) (by omega) (by omega) c
        rw [if_neg c]
        exact vc_b (by omega) (by omega) h3 h4
    omega
theorem vcs_b {k : Int} (h3 : 0 ≤ k) (h4 : k ≤ 36) : ∀ n : Nat, n ≤ 37 → 0 ≤ sumI (fun n => vc n k) n ∧ sumI (fun n => vc n k) n ≤ 6 * n := by
  intro n
  induction n with
  | zero => intro _; rw [sumI_0]; omega
  | succ n ih =>
    intro hn
    have q := ih (by omega)
    have := vc_b (n := (n : Int)) (k := k) (by omega) (by omega) h3 h4
    rw [sumI_s]
    omega
theorem wM_b {T : Tb} (hS : tS T) {k : Int} (h3 : 0 ≤ k) (h4 : k ≤ 36) : -1000 ≤ wM T 36 k ∧ wM T 36 k ≤ 1000 := by
  have hc := cnt_b T
  have a := hkF_b hS h3 h4 36 (by omega)
  have b := vcs_b h3 h4 (cnt T + 1).toNat (by omega)
  unfold wM
  rw [show (36 : Int).toNat = 36 from rfl]
  omega
theorem wM_c {T : Tb} (hS : tS T) {k : Int} (h3 : 0 ≤ k) (h4 : k ≤ 36) (h5 : isP k.toNat = false) : wM T 36 k = 0 := by
  have hc := cnt_b T
  unfold wM
  rw [sumI_z (fun n h1 h2 => vc_c (by omega) (by omega) h3 h4 h5), sumI_z (fun p h1 h2 => by
    unfold hkF
    by_cases c : T (p / 6) (p % 6) = -1
    · rw [if_pos c]
    · have hb := hk_b hS (p := p) (by omega) (by omega) c
      rw [if_neg c]
      exact vc_c (by omega) (by omega) h3 h4 h5)]
  rfl
-- products
def mulP (c : Int64) (p : Int32) : Nat → Int64
  | 0 => c
  | n + 1 => mulP c p n * p.toInt64
theorem fill_L85 {p e : Int} (he : -1000 ≤ e) (he2 : e ≤ 1000) (c : Int64) : lpI lpF (un2 (pX0_countFor_L85 (iz p) (iz e))) (iz 0, c) = some (mulP c (iz p) e.toNat) := by
  by_cases h : 0 ≤ e
  · have hl : lpI lpF (un2 (pX0_countFor_L85 (iz p) (iz e))) (iz 0, mulP c (iz p) (0 : Int).toNat) = some (mulP c (iz p) e.toNat) := by
      refine lp_cf (fun i => mulP c (iz p) i.toNat) 0 e _ (by omega) (by omega) (fun i hi hi2 => ?_) ?_
      · rw [un2_mk]
        unfold pX0_countFor_L85
        simp only [iz_1, iz_add]
        rw [ifz_le (by omega) (by omega) (by omega) (by omega), if_neg (by omega), show (i + 1).toNat = i.toNat + 1 by omega, mulP]
      · rw [un2_mk]
        unfold pX0_countFor_L85
        rw [ifz_le (by omega) (by omega) (by omega) (by omega), if_pos (by omega)]
    exact hl
  · rw [show lpF = 3999 + 1 from rfl, lpI, un2_mk]
    unfold pX0_countFor_L85
    rw [ifz_le (by omega) (by omega) (by omega) (by omega), if_pos (by omega), show e.toNat = 0 by omega]
    rfl
theorem fill_L133 {W : Int → Int} {w : Nat → Int32} {p : Int} (h1 : 0 ≤ p) (h2 : p ≤ 36) (he : -1000 ≤ W p) (he2 : W p ≤ 1000) (c : Int64) : lpI lpF (un2 (pX10_fillings_L133 (aW W w) (iz p))) (iz 0, c) = some (mulP c (iz p) (W p).toNat) := by
  by_cases h : 0 ≤ W p
  · have hl : lpI lpF (un2 (pX10_fillings_L133 (aW W w) (iz p))) (iz 0, mulP c (iz p) (0 : Int).toNat) = some (mulP c (iz p) (W p).toNat) := by
      refine lp_cf (fun i => mulP c (iz p) i.toNat) 0 (W p) _ (by omega) (by omega) (fun i hi hi2 => ?_) ?_
      · rw [un2_mk]
        unfold pX10_fillings_L133
        simp only [iz_1, iz_add]
        rw [aW_get W w h1 h2, bd1_some, ifz_le (by omega) (by omega) (by omega) (by omega), if_neg (by omega), show (i + 1).toNat = i.toNat + 1 by omega, mulP]
      · rw [un2_mk]
        unfold pX10_fillings_L133
        rw [aW_get W w h1 h2, bd1_some, ifz_le (by omega) (by omega) (by omega) (by omega), if_pos (by omega)]
    exact hl
  · rw [show lpF = 3999 + 1 from rfl, lpI, un2_mk]
    unfold pX10_fillings_L133
    rw [aW_get W w h1 h2, bd1_some, ifz_le (by omega) (by omega) (by omega) (by omega), if_pos (by omega), show (W p).toNat = 0 by omega]
    rfl
def pcE (E : Int → Int) : Nat → Int64
  | 0 => 1
  | n + 1 => if isP n then mulP (pcE E n) (iz n) (E n).toNat else pcE E n
theorem fill_M {T : Tb} (hS : tS T) (w : Nat → Int32) : lpI lpF (un2 (pX10_fillings_L123 (aW (wM T 36) w))) (iz 2, 1) = some (pcE (wM T 36) 37) := by
  have hl : lpI lpF (un2 (pX10_fillings_L123 (aW (wM T 36) w))) (iz 2, pcE (wM T 36) (2 : Int).toNat) = some (pcE (wM T 36) 37) := by
    refine lp_cf (fun i => pcE (wM T 36) i.toNat) 2 37 _ (by omega) (by omega) (fun i hi hi2 => ?_) ?_
    · have hb := wM_b hS (k := i) (by omega) (by omega)
      rw [un2_mk]
      unfold pX10_fillings_L123
      simp only [iz_36, iz_0, iz_1, iz_add]
      rw [ifz_lt (by omega) (by omega) (by omega) (by omega), if_neg (by omega), fill_L133 (by omega) (by omega) hb.1 hb.2, bd1_some, show (i + 1).toNat = i.toNat + 1 by omega, pcE, show ((i.toNat : Nat) : Int) = i by omega]
      cases hp : isP i.toNat with
      | true => rw [if_pos rfl]
      | false =>
        rw [wM_c hS (by omega) (by omega) hp]
        rfl
    · rw [un2_mk]
      unfold pX10_fillings_L123
      simp only [iz_36]
      rw [ifz_lt (by omega) (by omega) (by omega) (by omega), if_pos (by omega)]
      rfl
  exact hl
def prm : Nat → Nat
  | 0 => 2
  | 1 => 3
  | 2 => 5
  | 3 => 7
  | 4 => 11
  | 5 => 13
  | 6 => 17
  | 7 => 19
  | 8 => 23
  | 9 => 29
  | 10 => 31
  | _ => 37
theorem prm_tab : ∀ i : Fin 11, isP (prm i.val) = true ∧ prm i.val ≤ 36 ∧ kPrimes i.val = iz (prm i.val) := by decide +kernel
theorem pcE_skip {E : Int → Int} {m : Nat} : ∀ d : Nat, (∀ x, x < d → isP (m + x) = false) → pcE E (m + d) = pcE E m := by
  intro d
  induction d with
  | zero => intro _; rfl
  | succ d ih =>
    intro h
    rw [show m + (d + 1) = m + d + 1 by omega, pcE, h d (by omega)]
    exact ih (fun x hx => h x (by omega))
theorem prm_gap : ∀ i : Fin 11, prm i.val < prm (i.val + 1) ∧ ∀ x : Fin 6, x.val < prm (i.val + 1) - (prm i.val + 1) → isP (prm i.val + 1 + x.val) = false := by decide +kernel
theorem prm_gap5 : ∀ i : Fin 11, prm (i.val + 1) - (prm i.val + 1) ≤ 6 := by decide +kernel
theorem fill_X {T : Tb} (hS : tS T) (w : Nat → Int32) : lpI lpF (un2 (pX0_countFor_L60 (aW (wX T 36) w))) (iz 0, 1) = some (pcE (wM T 36) 37) := by
  have hl : lpI lpF (un2 (pX0_countFor_L60 (aW (wX T 36) w))) (iz 0, pcE (wM T 36) (prm (0 : Int).toNat)) = some (pcE (wM T 36) 37) := by
    refine lp_cf (fun i => pcE (wM T 36) (prm i.toNat)) 0 11 _ (by omega) (by omega) (fun i hi hi2 => ?_) ?_
    · obtain ⟨q1, q2, q3⟩ := prm_tab ⟨i.toNat, by omega⟩
      obtain ⟨q4, q5⟩ := prm_gap ⟨i.toNat, by omega⟩
      have q6 := prm_gap5 ⟨i.toNat, by omega⟩
      have q1' : isP (prm i.toNat) = true := q1
      have q2' : prm i.toNat ≤ 36 := q2
      have q3' : kPrimes i.toNat = iz (prm i.toNat) := q3
      have q4' : prm i.toNat < prm (i.toNat + 1) := q4
      have q6' : prm (i.toNat + 1) - (prm i.toNat + 1) ≤ 6 := q6
      have hb := wM_b hS (k := (prm i.toNat : Int)) (by omega) (by omega)
      have e11 : (11 : Int32) = iz 11 := by decide
      rw [un2_mk]
      unfold pX0_countFor_L60
      simp only [e11, iz_0, iz_1, iz_add]
      rw [ifz_le (by omega) (by omega) (by omega) (by omega), if_neg (by omega), gI_iz hi (by omega) (by omega), bd1_some, q3', pX0_powerOf_iz hS w (by omega) (by omega) (by rw [show ((prm i.toNat : Int)).toNat = prm i.toNat by omega]; exact q1'), bd1_some, fill_L85 hb.1 hb.2, bd1_some]
      have s1 : pcE (wM T 36) (prm i.toNat + 1) = mulP (pcE (wM T 36) (prm i.toNat)) (iz (prm i.toNat)) (wM T 36 (prm i.toNat)).toNat := by
        rw [pcE, if_pos q1']
      have s2 := pcE_skip (E := wM T 36) (m := prm i.toNat + 1) (prm (i.toNat + 1) - (prm i.toNat + 1)) (fun x hx => q5 ⟨x, by omega⟩ hx)
      rw [show prm i.toNat + 1 + (prm (i.toNat + 1) - (prm i.toNat + 1)) = prm (i.toNat + 1) by omega] at s2
      rw [← s1, ← s2, show (i + 1).toNat = i.toNat + 1 by omega]
    · have e11 : (11 : Int32) = iz 11 := by decide
      rw [un2_mk]
      unfold pX0_countFor_L60
      rw [e11, ifz_le (by omega) (by omega) (by omega) (by omega), if_pos (by omega)]
      rfl
  exact hl
theorem pX0_countFor_iz {T : Tb} {f : Nat → Int32} (hS : tS T) (h : tX T f) (w : Nat → Int32) : ∃ w', pX0_countFor w f = some (pcE (wM T 36) 37, w') := by
  have hc := cnt_b T
  refine ⟨aW (wX T 36) w, ?_⟩
  unfold pX0_countFor
  simp only [iz_0]
  rw [pX7_cells_iz hS.1 h, bd1_some, fill_L7 hc.1 hc.2, bd1_some]
  have e : aW (fun f => if 1 ≤ f ∧ f ≤ cnt T then 1 else 0) w = aW (wX T 0) w := rfl
  rw [e, pX0_divideByHooks_iz hS h, bd1_some, fill_X hS, bd1_some]
-- the reference
theorem fillM_L23 (w : Nat → Int32) : lpI lpF (un2 (pX10_fillings_L23)) (iz 0, w) = some (aW (fun _ => 0) w) := by
  have hl : lpI lpF (un2 (pX10_fillings_L23)) (iz 0, cpW (fun _ => iz 0) w 0 0 0) = some (cpW (fun _ => iz 0) w 0 0 37) := by
    refine lp_cf (fun i => cpW (fun _ => iz 0) w 0 0 i) 0 37 _ (by omega) (by omega) (fun i hi hi2 => ?_) ?_
    · have e := cpW_s (fun _ => iz 0) w 0 0 i (by omega) hi
      rw [show (0 : Int) + i = i by omega] at e
      rw [un2_mk, ← e]
      unfold pX10_fillings_L23
      simp only [iz_36, iz_1, iz_0, iz_add]
      rw [ifz_lt (by omega) (by omega) (by omega) (by omega), if_neg (by omega), sI_iz (by omega) (by omega) (by omega), bd1_some]
    · rw [un2_mk]
      unfold pX10_fillings_L23
      simp only [iz_36]
      rw [ifz_lt (by omega) (by omega) (by omega) (by omega), if_pos (by omega)]
  rw [cpW_0] at hl
  exact hl
theorem fillM_L44 {T : Tb} {g : Nat → Int32} {t : Int} (hS : tS T) (h : tM T t g) (ht : 0 ≤ t) (ht2 : t ≤ 1) (w : Nat → Int32) : lpI lpF (un2 (pX10_fillings_L44 g (iz t))) (iz 2, aW (fun _ => 0) w) = some (aW (wM T 0) w) := by
  have hc := cnt_b T
  have e9 : ∀ k, wM T 0 k = sumI (fun n => vc n k) (cnt T + 1).toNat := fun k => by
    unfold wM
    rw [show (0 : Int).toNat = 0 from rfl, sumI_0, Int.sub_zero]
  by_cases c : cnt T < 2
  · rw [show lpF = 3999 + 1 from rfl, lpI, un2_mk]
    unfold pX10_fillings_L44
    rw [pX10_many_iz hS.1 h ht ht2, bd1_some, ifz_lt (by omega) (by omega) (by omega) (by omega), if_pos (by omega)]
    show some (aW (fun _ => 0) w) = some (aW (wM T 0) w)
    rw [aW_congr (W := fun _ => 0) (W' := wM T 0) w (fun k _ _ => by
      rw [e9]
      by_cases c2 : cnt T = 0
      · rw [c2]
        rfl
      · rw [show cnt T = 1 by omega]
        rfl)]
  · have hl : lpI lpF (un2 (pX10_fillings_L44 g (iz t))) (iz 2, aW (fun k => sumI (fun n => vc n k) (2 : Int).toNat) w) = some (aW (wM T 0) w) := by
      refine lp_cf (fun i => aW (fun k => sumI (fun n => vc n k) i.toNat) w) 2 (cnt T + 1) _ (by omega) (by omega) (fun i hi hi2 => ?_) ?_
      · rw [un2_mk]
        unfold pX10_fillings_L44
        simp only [iz_1, iz_add]
        rw [pX10_many_iz hS.1 h ht ht2, bd1_some, ifz_lt (by omega) (by omega) (by omega) (by omega), if_neg (by omega), pX10_countPrimes_iz (by omega) (by omega), bd1_some]
        rw [aW_congr w (fun k _ _ => by
          show sumI (fun n => vc n k) i.toNat + 1 * vc i k = sumI (fun n => vc n k) (i + 1).toNat
          rw [show (i + 1).toNat = i.toNat + 1 by omega, sumI_s, show ((i.toNat : Nat) : Int) = i by omega, Int.one_mul])]
      · rw [un2_mk]
        unfold pX10_fillings_L44
        rw [pX10_many_iz hS.1 h ht ht2, bd1_some, ifz_lt (by omega) (by omega) (by omega) (by omega), if_pos (by omega)]
        rw [aW_congr w (fun k _ _ => e9 k)]
    rw [aW_congr (W := fun _ => 0) (W' := fun k => sumI (fun n => vc n k) (2 : Int).toNat) w (fun k _ _ => rfl)]
    exact hl
theorem fillM_L78 {T : Tb} {g : Nat → Int32} {t : Int} (hS : tS T) (h : tM T t g) (ht : 0 ≤ t) (ht2 : t ≤ 1) {i : Int} (h1 : 0 ≤ i) (h2 : i < 6) (w : Nat → Int32) : lpI lpF (un2 (pX10_fillings_L78 g (iz t) (iz i))) (iz 0, aW (wM T (6 * i)) w) = some (aW (wM T (6 * i + 6)) w) := by
  have hb := len_b T i
  have e0 : aW (wM T (6 * i)) w = aW (wM T (6 * i + 0)) w := by rw [Int.add_zero]
  rw [e0]
  refine lp_cf (fun j => aW (wM T (6 * i + j)) w) 0 (len T i) _ (by omega) (by omega) (fun j hj hj2 => ?_) ?_
  · have hc : T i j ≠ -1 := (len_spec hS i j hj).2 hj2
    have hb2 := hk_b hS (p := 6 * i + j) (by omega) (by omega) (by rw [show (6 * i + j) / 6 = i by omega, show (6 * i + j) % 6 = j by omega]; exact hc)
    have eh : hkP T (6 * i + j) = len T i - j + tall T j - i - 1 := by
      unfold hkP
      rw [show (6 * i + j) / 6 = i by omega, show (6 * i + j) % 6 = j by omega]
    rw [un2_mk]
    unfold pX10_fillings_L78
    simp only [iz_1, iz_neg, iz_add]
    rw [pX10_length_iz hS.1 h ht ht2 (by omega) (by omega), bd1_some, ifz_le (by omega) (by omega) (by omega) (by omega), if_neg (by omega), pX10_hookOf_iz hS h ht ht2 h1 h2 hj (by omega), bd1_some, ← eh, pX10_countPrimes_iz (by omega) (by omega), bd1_some]
    rw [aW_congr w (fun k _ _ => by
      show wM T (6 * i + j) k + -1 * vc (hkP T (6 * i + j)) k = wM T (6 * i + (j + 1)) k
      unfold wM
      rw [show (6 * i + (j + 1)).toNat = (6 * i + j).toNat + 1 by omega, sumI_s, show (((6 * i + j).toNat : Nat) : Int) = 6 * i + j by omega]
      rw [show hkF T k (6 * i + j) = vc (hkP T (6 * i + j)) k by unfold hkF; rw [show (6 * i + j) / 6 = i by omega, show (6 * i + j) % 6 = j by omega, if_neg hc]]
      omega)]
  · rw [un2_mk]
    unfold pX10_fillings_L78
    rw [pX10_length_iz hS.1 h ht ht2 (by omega) (by omega), bd1_some, ifz_le (by omega) (by omega) (by omega) (by omega), if_pos (by omega)]
    rw [aW_congr (W := wM T (6 * i + len T i)) (W' := wM T (6 * i + 6)) w (fun k _ _ => by
      unfold wM
      rw [sumI_tail (f := hkF T k) (m := (6 * i + len T i).toNat) (n := (6 * i + 6).toNat) (by omega) (fun x q1 q2 => by
        have := len_spec hS (x / 6) (x % 6) (by omega)
        rw [show x / 6 = i by omega] at this
        unfold hkF
        rw [show x / 6 = i by omega, if_pos (by omega)])])]
theorem fillM_L70 {T : Tb} {g : Nat → Int32} {t : Int} (hS : tS T) (h : tM T t g) (ht : 0 ≤ t) (ht2 : t ≤ 1) (w : Nat → Int32) : lpI lpF (un2 (pX10_fillings_L70 g (iz t))) (iz 0, aW (wM T 0) w) = some (aW (wM T 36) w) := by
  have hl : lpI lpF (un2 (pX10_fillings_L70 g (iz t))) (iz 0, aW (wM T (6 * 0)) w) = some (aW (wM T 36) w) := by
    refine lp_cf (fun i => aW (wM T (6 * i)) w) 0 6 _ (by omega) (by omega) (fun i hi hi2 => ?_) ?_
    · rw [un2_mk]
      unfold pX10_fillings_L70
      simp only [iz_6, iz_0, iz_1, iz_add]
      rw [ifz_le (by omega) (by omega) (by omega) (by omega), if_neg (by omega), fillM_L78 hS h ht ht2 hi hi2, bd1_some, show 6 * (i + 1) = 6 * i + 6 by omega]
    · rw [un2_mk]
      unfold pX10_fillings_L70
      simp only [iz_6]
      rw [ifz_le (by omega) (by omega) (by omega) (by omega), if_pos (by omega)]
      rfl
  exact hl
