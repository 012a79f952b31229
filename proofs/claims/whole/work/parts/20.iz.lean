-- whole numbers as ints of the machine
def iz (n : Int) : Int32 := Int32.ofInt n
abbrev sm32 (a : Int) : Prop := -2147483648 ≤ a ∧ a < 2147483648
theorem iz_toInt {a : Int} (h1 : -2147483648 ≤ a) (h2 : a < 2147483648) : (iz a).toInt = a := Int32.toInt_ofInt_of_le h1 h2
theorem toInt_iz (x : Int32) : iz x.toInt = x := Int32.ofInt_toInt x
theorem iz_add (a b : Int) : iz a + iz b = iz (a + b) := (Int32.ofInt_add a b).symm
theorem iz_sub (a b : Int) : iz a - iz b = iz (a - b) := (Int32.ofInt_sub a b).symm
theorem iz_mul (a b : Int) : iz a * iz b = iz (a * b) := (Int32.ofInt_mul a b).symm
theorem iz_neg (a : Int) : -iz a = iz (-a) := (Int32.ofInt_neg a).symm
theorem iz_lit (n : Nat) : (OfNat.ofNat n : Int32) = iz (OfNat.ofNat n : Int) := by
  show Int32.ofNat n = Int32.ofInt (n : Int)
  rw [Int32.ofInt_eq_ofNat]
theorem iz_0 : (0 : Int32) = iz 0 := by decide
theorem iz_1 : (1 : Int32) = iz 1 := by decide
theorem iz_2 : (2 : Int32) = iz 2 := by decide
theorem iz_3 : (3 : Int32) = iz 3 := by decide
theorem iz_4 : (4 : Int32) = iz 4 := by decide
theorem iz_5 : (5 : Int32) = iz 5 := by decide
theorem iz_6 : (6 : Int32) = iz 6 := by decide
theorem iz_7 : (7 : Int32) = iz 7 := by decide
theorem iz_8 : (8 : Int32) = iz 8 := by decide
theorem iz_9 : (9 : Int32) = iz 9 := by decide
theorem iz_10 : (10 : Int32) = iz 10 := by decide
theorem iz_12 : (12 : Int32) = iz 12 := by decide
theorem iz_13 : (13 : Int32) = iz 13 := by decide
theorem iz_14 : (14 : Int32) = iz 14 := by decide
theorem iz_36 : (36 : Int32) = iz 36 := by decide
theorem iz_42 : (42 : Int32) = iz 42 := by decide
theorem iz_64 : (64 : Int32) = iz 64 := by decide
theorem iz_72 : (72 : Int32) = iz 72 := by decide
theorem iz_84 : (84 : Int32) = iz 84 := by decide
theorem iz_99 : (99 : Int32) = iz 99 := by decide
theorem iz_100 : (100 : Int32) = iz 100 := by decide
theorem iz_128 : (128 : Int32) = iz 128 := by decide
theorem iz_198 : (198 : Int32) = iz 198 := by decide
theorem iz_1000 : (1000 : Int32) = iz 1000 := by decide
theorem iz_lt {a b : Int} (ha : -2147483648 ≤ a) (ha2 : a < 2147483648) (hb : -2147483648 ≤ b) (hb2 : b < 2147483648) : (iz a < iz b) = (a < b) := by
  rw [Int32.lt_iff_toInt_lt, iz_toInt ha ha2, iz_toInt hb hb2]
theorem iz_le {a b : Int} (ha : -2147483648 ≤ a) (ha2 : a < 2147483648) (hb : -2147483648 ≤ b) (hb2 : b < 2147483648) : (iz a ≤ iz b) = (a ≤ b) := by
  rw [Int32.le_iff_toInt_le, iz_toInt ha ha2, iz_toInt hb hb2]
theorem iz_eq {a b : Int} (ha : -2147483648 ≤ a) (ha2 : a < 2147483648) (hb : -2147483648 ≤ b) (hb2 : b < 2147483648) : (iz a = iz b) = (a = b) := by
  rw [← Int32.toInt_inj, iz_toInt ha ha2, iz_toInt hb hb2]
theorem ifz_lt {α : Type} {a b : Int} {x y : α} (ha : -2147483648 ≤ a) (ha2 : a < 2147483648) (hb : -2147483648 ≤ b) (hb2 : b < 2147483648) : (if iz a < iz b then x else y) = if a < b then x else y := by
  have h := iz_lt ha ha2 hb hb2
  by_cases c : a < b
  · rw [if_pos c, if_pos (by rw [h]; exact c)]
  · rw [if_neg c, if_neg (by rw [h]; exact c)]
theorem ifz_le {α : Type} {a b : Int} {x y : α} (ha : -2147483648 ≤ a) (ha2 : a < 2147483648) (hb : -2147483648 ≤ b) (hb2 : b < 2147483648) : (if iz a ≤ iz b then x else y) = if a ≤ b then x else y := by
  have h := iz_le ha ha2 hb hb2
  by_cases c : a ≤ b
  · rw [if_pos c, if_pos (by rw [h]; exact c)]
  · rw [if_neg c, if_neg (by rw [h]; exact c)]
theorem ifz_eq {α : Type} {a b : Int} {x y : α} (ha : -2147483648 ≤ a) (ha2 : a < 2147483648) (hb : -2147483648 ≤ b) (hb2 : b < 2147483648) : (if iz a = iz b then x else y) = if a = b then x else y := by
  have h := iz_eq ha ha2 hb hb2
  by_cases c : a = b
  · rw [if_pos c, if_pos (by rw [h]; exact c)]
  · rw [if_neg c, if_neg (by rw [h]; exact c)]
theorem iz_nat {a : Int} (h1 : -2147483648 ≤ a) (h2 : a < 2147483648) : (iz a).toNatClampNeg = a.toNat := by
  rw [← Int32.toNat_toInt, iz_toInt h1 h2]
theorem iz_l {a : Int} (h1 : -2147483648 ≤ a) (h2 : a < 2147483648) : (iz a).toInt64 = Int64.ofInt a := by
  apply Int64.toInt_inj.mp
  rw [Int32.toInt_toInt64, iz_toInt h1 h2, Int64.toInt_ofInt_of_le (by omega) (by omega)]
theorem iz_div {a b : Int} (h1 : -2147483648 ≤ a) (h2 : a < 2147483648) (h3 : 0 < b) (h4 : b < 2147483648) : iz a / iz b = iz (a.tdiv b) := by
  apply Int32.toInt_inj.mp
  have hb : iz b ≠ -1 := by
    intro h
    have := congrArg Int32.toInt h
    rw [iz_toInt (by omega) h4] at this
    have h9 : (-1 : Int32).toInt = -1 := by decide
    omega
  rw [Int32.toInt_div_of_ne_right _ _ hb, iz_toInt h1 h2, iz_toInt (by omega) h4]
  have hA := Int.natAbs_tdiv_le_natAbs a b
  rw [iz_toInt (by omega) ?_]
  rcases Int.le_total 0 a with h | h
  · have := Int.tdiv_le_self b h
    omega
  · have h5 : a.tdiv b ≤ 0 := by
      have := Int.tdiv_nonneg (a := -a) (b := b) (by omega) (by omega)
      rw [Int.neg_tdiv] at this
      omega
    omega
theorem iz_divn {a b : Int} (h1 : 0 ≤ a) (h2 : a < 2147483648) (h3 : 0 < b) (h4 : b < 2147483648) : iz a / iz b = iz (a / b) := by
  rw [iz_div (by omega) h2 h3 h4, Int.tdiv_eq_ediv_of_nonneg h1]
theorem iz_rem {a b : Int} (h1 : 0 ≤ a) (h2 : a < 2147483648) (h3 : 0 < b) (h4 : b < 2147483648) : irm (iz a) (iz b) = iz (a % b) := by
  show iz a - iz a / iz b * iz b = iz (a % b)
  rw [iz_divn h1 h2 h3 h4, iz_mul, iz_sub]
  congr 1
  have := Int.emod_def a b
  rw [this, Int.mul_comm]
theorem gI_iz {n : Nat} {f : Nat → Int32} {k : Int} (h1 : 0 ≤ k) (h2 : k < n) (h3 : n < 2147483648) : gI n f (iz k) = some (f k.toNat) := by
  unfold gI
  rw [iz_nat (by omega) (by omega), if_neg]
  rw [iz_0, iz_lt (by omega) (by omega) (by omega) (by omega)]
  omega
theorem sI_iz {n : Nat} {f : Nat → Int32} {k : Int} {x : Int32} (h1 : 0 ≤ k) (h2 : k < n) (h3 : n < 2147483648) : sI n f (iz k) x = some (upd f k.toNat x) := by
  unfold sI
  rw [iz_nat (by omega) (by omega), if_neg]
  rw [iz_0, iz_lt (by omega) (by omega) (by omega) (by omega)]
  omega
theorem bd1_some {α γ : Type} (a : α) (g : α → Option γ) : bd1 (some a) g = g a := rfl
theorem un2_mk {α β γ : Type} (g : α → β → γ) (a : α) (b : β) : un2 g (a, b) = g a b := rfl
theorem un3_mk {α β δ γ : Type} (g : α → β → δ → γ) (a : α) (b : β) (c : δ) : un3 g (a, b, c) = g a b c := rfl
theorem un4_mk {α β δ ε γ : Type} (g : α → β → δ → ε → γ) (a : α) (b : β) (c : δ) (d : ε) : un4 g (a, b, c, d) = g a b c d := rfl
theorem un5_mk {α β δ ε ζ γ : Type} (g : α → β → δ → ε → ζ → γ) (a : α) (b : β) (c : δ) (d : ε) (e : ζ) : un5 g (a, b, c, d, e) = g a b c d e := rfl
theorem bdE_l {ρ τ γ : Type} (a : ρ) (f : ρ → Option γ) (g : τ → Option γ) : bdE (some (.inl a)) f g = f a := rfl
theorem bdE_r {ρ τ γ : Type} (b : τ) (f : ρ → Option γ) (g : τ → Option γ) : bdE (some (.inr b)) f g = g b := rfl
theorem el_inl {ρ τ γ : Type} (a : ρ) (f : ρ → γ) (g : τ → γ) : el (.inl a) f g = f a := rfl
theorem el_inr {ρ τ γ : Type} (b : τ) (f : ρ → γ) (g : τ → γ) : el (.inr b) f g = g b := rfl
theorem zb_0 : zb (iz 0) = some (iz 0) := by decide
theorem zb_1 : zb (iz 1) = some (iz 1) := by decide
/-- loops by their trace -/
theorem lp_tr {σ ρ : Type} {b : σ → Option (σ ⊕ ρ)} (st : Nat → σ) (n : Nat) (r : ρ) (h : ∀ k, k < n → b (st k) = some (.inl (st (k + 1)))) (he : b (st n) = some (.inr r)) (m : Nat) (hm : n < m) : lpI m b (st 0) = some r := by
  induction n generalizing st m with
  | zero =>
    cases m with
    | zero => omega
    | succ m => rw [lpI, he]
  | succ n ih =>
    cases m with
    | zero => omega
    | succ m =>
      rw [lpI, h 0 (by omega)]
      exact ih (fun k => st (k + 1)) (fun k hk => h (k + 1) (by omega)) he m (by omega)
/-- a loop over a counter, by closed forms -/
theorem lp_cf {α ρ : Type} {b : Int32 × α → Option ((Int32 × α) ⊕ ρ)} (acc : Int → α) (i0 N : Int) (r : ρ) (hle : i0 ≤ N) (hN : N - i0 < 4000) (h : ∀ i, i0 ≤ i → i < N → b (iz i, acc i) = some (.inl (iz (i + 1), acc (i + 1)))) (he : b (iz N, acc N) = some (.inr r)) : lpI lpF b (iz i0, acc i0) = some r := by
  have e0 : (iz i0, acc i0) = (fun k : Nat => (iz (i0 + k), acc (i0 + k))) 0 := by simp
  rw [e0]
  refine lp_tr (fun k : Nat => (iz (i0 + k), acc (i0 + k))) (N - i0).toNat r (fun k hk => ?_) ?_ lpF (by unfold lpF; omega)
  · have := h (i0 + k) (by omega) (by omega)
    rw [this]
    rw [show i0 + (k : Int) + 1 = i0 + ((k + 1 : Nat) : Int) by omega]
  · have e1 : i0 + ((N - i0).toNat : Int) = N := by omega
    show b (iz (i0 + ((N - i0).toNat : Int)), acc (i0 + ((N - i0).toNat : Int))) = _
    rw [e1]
    exact he
/-- loops by an invariant and a measure -/
theorem lp_run {σ ρ : Type} {b : σ → Option (σ ⊕ ρ)} (I : Nat → σ → Prop) (E : ρ → Prop) (h : ∀ k s, I k s → (∃ s', b s = some (.inl s') ∧ ∃ k', k' < k ∧ I k' s') ∨ ∃ r, b s = some (.inr r) ∧ E r) : ∀ (m k : Nat) (s : σ), I k s → k < m → ∃ r, lpI m b s = some r ∧ E r := by
  intro m
  induction m with
  | zero => intro k s _ hk; omega
  | succ m ih =>
    intro k s hI hk
    rcases h k s hI with ⟨s', h1, k', h2, h3⟩ | ⟨r, h1, h2⟩
    · obtain ⟨r, h4, h5⟩ := ih k' s' h3 (by omega)
      exact ⟨r, by rw [lpI, h1]; exact h4, h5⟩
    · exact ⟨r, by rw [lpI, h1], h2⟩
/-- sums over 0, 1, .. -/
def sumI (g : Int → Int) : Nat → Int
  | 0 => 0
  | n + 1 => sumI g n + g n
theorem sumI_0 (g : Int → Int) : sumI g 0 = 0 := rfl
theorem sumI_s (g : Int → Int) (n : Nat) : sumI g (n + 1) = sumI g n + g n := rfl
theorem sumI_6 (g : Int → Int) : sumI g 6 = g 0 + g 1 + g 2 + g 3 + g 4 + g 5 := by
  simp only [sumI]
  simp
theorem sumI_congr {f g : Int → Int} {n : Nat} (h : ∀ k : Int, 0 ≤ k → k < n → f k = g k) : sumI f n = sumI g n := by
  induction n with
  | zero => rfl
  | succ n ih => rw [sumI, sumI, ih (fun k h1 h2 => h k h1 (by omega)), h n (by omega) (by omega)]
