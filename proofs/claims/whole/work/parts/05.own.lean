-- pure words: computations that may be stuck (none), loops by fuel, arrays as functions
def bd1 {α γ : Type} (x : Option α) (g : α → Option γ) : Option γ := match x with
  | none => none
  | some a => g a
theorem bd1_s {α γ : Type} {x : Option α} {g : α → Option γ} {o : γ} (h : bd1 x g = some o) : ∃ a, x = some a ∧ g a = some o := by
  cases x with
  | none => cases h
  | some a => exact ⟨a, rfl, h⟩
def un2 {α β γ : Type} (g : α → β → γ) : α × β → γ
  | (a1, a2) => g a1 a2
theorem un2_s {α β γ : Type} {g : α → β → Option γ} {a1 : α} {a2 : β} {o : γ} (h : un2 g (a1, a2) = some o) : g a1 a2 = some o := h
def un3 {α β δ γ : Type} (g : α → β → δ → γ) : α × β × δ → γ
  | (a1, a2, a3) => g a1 a2 a3
theorem un3_s {α β δ γ : Type} {g : α → β → δ → Option γ} {a1 : α} {a2 : β} {a3 : δ} {o : γ} (h : un3 g (a1, a2, a3) = some o) : g a1 a2 a3 = some o := h
def un4 {α β δ ε γ : Type} (g : α → β → δ → ε → γ) : α × β × δ × ε → γ
  | (a1, a2, a3, a4) => g a1 a2 a3 a4
theorem un4_s {α β δ ε γ : Type} {g : α → β → δ → ε → Option γ} {a1 : α} {a2 : β} {a3 : δ} {a4 : ε} {o : γ} (h : un4 g (a1, a2, a3, a4) = some o) : g a1 a2 a3 a4 = some o := h
def un5 {α β δ ε ζ γ : Type} (g : α → β → δ → ε → ζ → γ) : α × β × δ × ε × ζ → γ
  | (a1, a2, a3, a4, a5) => g a1 a2 a3 a4 a5
theorem un5_s {α β δ ε ζ γ : Type} {g : α → β → δ → ε → ζ → Option γ} {a1 : α} {a2 : β} {a3 : δ} {a4 : ε} {a5 : ζ} {o : γ} (h : un5 g (a1, a2, a3, a4, a5) = some o) : g a1 a2 a3 a4 a5 = some o := h
def un6 {α β δ ε ζ η γ : Type} (g : α → β → δ → ε → ζ → η → γ) : α × β × δ × ε × ζ × η → γ
  | (a1, a2, a3, a4, a5, a6) => g a1 a2 a3 a4 a5 a6
theorem un6_s {α β δ ε ζ η γ : Type} {g : α → β → δ → ε → ζ → η → Option γ} {a1 : α} {a2 : β} {a3 : δ} {a4 : ε} {a5 : ζ} {a6 : η} {o : γ} (h : un6 g (a1, a2, a3, a4, a5, a6) = some o) : g a1 a2 a3 a4 a5 a6 = some o := h
def un7 {α β δ ε ζ η θ γ : Type} (g : α → β → δ → ε → ζ → η → θ → γ) : α × β × δ × ε × ζ × η × θ → γ
  | (a1, a2, a3, a4, a5, a6, a7) => g a1 a2 a3 a4 a5 a6 a7
theorem un7_s {α β δ ε ζ η θ γ : Type} {g : α → β → δ → ε → ζ → η → θ → Option γ} {a1 : α} {a2 : β} {a3 : δ} {a4 : ε} {a5 : ζ} {a6 : η} {a7 : θ} {o : γ} (h : un7 g (a1, a2, a3, a4, a5, a6, a7) = some o) : g a1 a2 a3 a4 a5 a6 a7 = some o := h
def un8 {α β δ ε ζ η θ ι γ : Type} (g : α → β → δ → ε → ζ → η → θ → ι → γ) : α × β × δ × ε × ζ × η × θ × ι → γ
  | (a1, a2, a3, a4, a5, a6, a7, a8) => g a1 a2 a3 a4 a5 a6 a7 a8
theorem un8_s {α β δ ε ζ η θ ι γ : Type} {g : α → β → δ → ε → ζ → η → θ → ι → Option γ} {a1 : α} {a2 : β} {a3 : δ} {a4 : ε} {a5 : ζ} {a6 : η} {a7 : θ} {a8 : ι} {o : γ} (h : un8 g (a1, a2, a3, a4, a5, a6, a7, a8) = some o) : g a1 a2 a3 a4 a5 a6 a7 a8 = some o := h
def un9 {α β δ ε ζ η θ ι κ γ : Type} (g : α → β → δ → ε → ζ → η → θ → ι → κ → γ) : α × β × δ × ε × ζ × η × θ × ι × κ → γ
  | (a1, a2, a3, a4, a5, a6, a7, a8, a9) => g a1 a2 a3 a4 a5 a6 a7 a8 a9
theorem un9_s {α β δ ε ζ η θ ι κ γ : Type} {g : α → β → δ → ε → ζ → η → θ → ι → κ → Option γ} {a1 : α} {a2 : β} {a3 : δ} {a4 : ε} {a5 : ζ} {a6 : η} {a7 : θ} {a8 : ι} {a9 : κ} {o : γ} (h : un9 g (a1, a2, a3, a4, a5, a6, a7, a8, a9) = some o) : g a1 a2 a3 a4 a5 a6 a7 a8 a9 = some o := h
def un10 {α β δ ε ζ η θ ι κ μ γ : Type} (g : α → β → δ → ε → ζ → η → θ → ι → κ → μ → γ) : α × β × δ × ε × ζ × η × θ × ι × κ × μ → γ
  | (a1, a2, a3, a4, a5, a6, a7, a8, a9, a10) => g a1 a2 a3 a4 a5 a6 a7 a8 a9 a10
theorem un10_s {α β δ ε ζ η θ ι κ μ γ : Type} {g : α → β → δ → ε → ζ → η → θ → ι → κ → μ → Option γ} {a1 : α} {a2 : β} {a3 : δ} {a4 : ε} {a5 : ζ} {a6 : η} {a7 : θ} {a8 : ι} {a9 : κ} {a10 : μ} {o : γ} (h : un10 g (a1, a2, a3, a4, a5, a6, a7, a8, a9, a10) = some o) : g a1 a2 a3 a4 a5 a6 a7 a8 a9 a10 = some o := h
/-- either of two ends, each with its own going on -/
def bdE {ρ τ γ : Type} (x : Option (ρ ⊕ τ)) (f : ρ → Option γ) (g : τ → Option γ) : Option γ := match x with
  | none => none
  | some (.inl a) => f a
  | some (.inr b) => g b
theorem bdE_s {ρ τ γ : Type} {x : Option (ρ ⊕ τ)} {f : ρ → Option γ} {g : τ → Option γ} {o : γ} (h : bdE x f g = some o) : (∃ a, x = some (.inl a) ∧ f a = some o) ∨ ∃ b, x = some (.inr b) ∧ g b = some o := by
  cases x with
  | none => cases h
  | some z => cases z with
    | inl a => exact Or.inl ⟨a, rfl, h⟩
    | inr b => exact Or.inr ⟨b, rfl, h⟩
/-- a loop: the body goes on (inl) or leaves (inr) -/
def lpI {σ ρ : Type} : Nat → (σ → Option (σ ⊕ ρ)) → σ → Option ρ
  | 0, _, _ => none
  | n + 1, b, s => match b s with
    | none => none
    | some (.inl s') => lpI n b s'
    | some (.inr r) => some r
def lpK {σ ρ : Type} (n : Nat) (b : σ → Option (σ ⊕ ρ)) (x : ρ) (o : σ ⊕ ρ) : Prop := match o with
  | .inl s' => lpI n b s' = some x
  | .inr r => r = x
theorem lpI_0 {σ ρ : Type} {b : σ → Option (σ ⊕ ρ)} {s : σ} {x : ρ} (h : lpI 0 b s = some x) : False := by cases h
theorem lpI_s {σ ρ : Type} {n : Nat} {b : σ → Option (σ ⊕ ρ)} {s : σ} {x : ρ} (h : lpI (n + 1) b s = some x) : ∃ o, b s = some o ∧ lpK n b x o := by
  rw [lpI] at h
  cases hb : b s with
  | none => rw [hb] at h; cases h
  | some o =>
    rw [hb] at h
    cases o with
    | inl s' => exact ⟨_, rfl, h⟩
    | inr r => exact ⟨_, rfl, Option.some.inj h⟩
theorem lpK_r {σ ρ : Type} {n : Nat} {b : σ → Option (σ ⊕ ρ)} {x r : ρ} (h : lpK n b x (.inr r)) : r = x := h
def el {ρ τ γ : Type} (x : ρ ⊕ τ) (f : ρ → γ) (g : τ → γ) : γ := match x with
  | .inl a => f a
  | .inr b => g b
theorem el_l {ρ τ γ : Type} {a : ρ} {f : ρ → Option γ} {g : τ → Option γ} {o : γ} (h : el (.inl a) f g = some o) : f a = some o := h
theorem el_r {ρ τ γ : Type} {b : τ} {f : ρ → Option γ} {g : τ → Option γ} {o : γ} (h : el (.inr b) f g = some o) : g b = some o := h
theorem cd_t {γ : Type} {a b : Option γ} {o : γ} (h : cond true a b = some o) : a = some o := h
theorem cd_f {γ : Type} {a b : Option γ} {o : γ} (h : cond false a b = some o) : b = some o := h
def lpF : Nat := 4000
theorem if_t {c : Prop} [Decidable c] {α : Type} {a b : Option α} {o : α} (h : c) (hf : (if c then a else b) = some o) : a = some o := by rw [if_pos h] at hf; exact hf
theorem if_f {c : Prop} [Decidable c] {α : Type} {a b : Option α} {o : α} (h : ¬ c) (hf : (if c then a else b) = some o) : b = some o := by rw [if_neg h] at hf; exact hf
theorem if_n {c : Prop} [Decidable c] {α : Type} {b : Option α} {o : α} (hf : (if c then none else b) = some o) : ¬ c ∧ b = some o := by
  by_cases h : c
  · rw [if_pos h] at hf; cases hf
  · rw [if_neg h] at hf; exact ⟨h, hf⟩
def gI (n : Nat) (f : Nat → Int32) (i : Int32) : Option Int32 := if i < 0 ∨ n ≤ i.toNatClampNeg then none else some (f i.toNatClampNeg)
def sI (n : Nat) (f : Nat → Int32) (i x : Int32) : Option (Nat → Int32) := if i < 0 ∨ n ≤ i.toNatClampNeg then none else some (upd f i.toNatClampNeg x)
def sZ (n : Nat) (f : Nat → Int32) (i x : Int32) : Option (Nat → Int32) := if i < 0 ∨ n ≤ i.toNatClampNeg then none else some (upd f i.toNatClampNeg (vp_nar .boolean x))
def gJ (n : Nat) (f : Nat → Int64) (i : Int32) : Option Int64 := if i < 0 ∨ n ≤ i.toNatClampNeg then none else some (f i.toNatClampNeg)
def sJ (n : Nat) (f : Nat → Int64) (i : Int32) (x : Int64) : Option (Nat → Int64) := if i < 0 ∨ n ≤ i.toNatClampNeg then none else some (vp_updL f i.toNatClampNeg x)
def dvI (x y : Int32) : Option Int32 := if y = 0 then none else some (x / y)
/-- the machine's remainder -/
abbrev irm (x y : Int32) : Int32 := x - x / y * y
abbrev lrm (x y : Int64) : Int64 := x - x / y * y
def rmI (x y : Int32) : Option Int32 := if y = 0 then none else some (irm x y)
def dvL (x y : Int64) : Option Int64 := if y = 0 then none else some (x / y)
def rmL (x y : Int64) : Option Int64 := if y = 0 then none else some (lrm x y)
/-- System.arraycopy between two int rows -/
def cpI (n0 n1 : Nat) (f g : Nat → Int32) (sp dp n : Int32) : Option (Nat → Int32) :=
  if (sp < 0 ∨ dp < 0 ∨ n < 0) ∨ (n0 < sp.toNatClampNeg + n.toNatClampNeg ∨ n1 < dp.toNatClampNeg + n.toNatClampNeg) then none else some (va_cpy f g sp.toNatClampNeg dp.toNatClampNeg n.toNatClampNeg)
theorem gI_s {n : Nat} {f : Nat → Int32} {i v : Int32} (h : gI n f i = some v) : vp_in i n ∧ f i.toNatClampNeg = v := by
  obtain ⟨h1, h2⟩ := if_n h
  exact ⟨h1, Option.some.inj h2⟩
theorem sI_s {n : Nat} {f g : Nat → Int32} {i x : Int32} (h : sI n f i x = some g) : vp_in i n ∧ upd f i.toNatClampNeg x = g := by
  obtain ⟨h1, h2⟩ := if_n h
  exact ⟨h1, Option.some.inj h2⟩
theorem sZ_s {n : Nat} {f g : Nat → Int32} {i x : Int32} (h : sZ n f i x = some g) : vp_in i n ∧ upd f i.toNatClampNeg (vp_nar .boolean x) = g := by
  obtain ⟨h1, h2⟩ := if_n h
  exact ⟨h1, Option.some.inj h2⟩
theorem gJ_s {n : Nat} {f : Nat → Int64} {i : Int32} {v : Int64} (h : gJ n f i = some v) : vp_in i n ∧ f i.toNatClampNeg = v := by
  obtain ⟨h1, h2⟩ := if_n h
  exact ⟨h1, Option.some.inj h2⟩
theorem sJ_s {n : Nat} {f g : Nat → Int64} {i : Int32} {x : Int64} (h : sJ n f i x = some g) : vp_in i n ∧ vp_updL f i.toNatClampNeg x = g := by
  obtain ⟨h1, h2⟩ := if_n h
  exact ⟨h1, Option.some.inj h2⟩
theorem dvI_s {x y v : Int32} (h : dvI x y = some v) : (¬ y = 0) ∧ x / y = v := by
  obtain ⟨h1, h2⟩ := if_n h
  exact ⟨h1, Option.some.inj h2⟩
theorem rmI_s {x y v : Int32} (h : rmI x y = some v) : (¬ y = 0) ∧ irm x y = v := by
  obtain ⟨h1, h2⟩ := if_n h
  exact ⟨h1, Option.some.inj h2⟩
theorem dvL_s {x y v : Int64} (h : dvL x y = some v) : (¬ y = 0) ∧ x / y = v := by
  obtain ⟨h1, h2⟩ := if_n h
  exact ⟨h1, Option.some.inj h2⟩
theorem rmL_s {x y v : Int64} (h : rmL x y = some v) : (¬ y = 0) ∧ lrm x y = v := by
  obtain ⟨h1, h2⟩ := if_n h
  exact ⟨h1, Option.some.inj h2⟩
theorem cpI_s {n0 n1 : Nat} {f g r : Nat → Int32} {sp dp n : Int32} (h : cpI n0 n1 f g sp dp n = some r) : (¬ sp < 0) ∧ (¬ dp < 0) ∧ (¬ n < 0) ∧ sp.toNatClampNeg + n.toNatClampNeg ≤ n0 ∧ dp.toNatClampNeg + n.toNatClampNeg ≤ n1 ∧ va_cpy f g sp.toNatClampNeg dp.toNatClampNeg n.toNatClampNeg = r := by
  obtain ⟨h1, h2⟩ := if_n h
  simp only [not_or, Nat.not_lt] at h1
  exact ⟨h1.1.1, h1.1.2.1, h1.1.2.2, h1.2.1, h1.2.2, Option.some.inj h2⟩
/-- a truth value -/
def zb (v : Int32) : Option Int32 := if v = 0 ∨ v = 1 then some v else none
theorem zb_s {v r : Int32} (h : zb v = some r) : narrow .boolean (.int v) = .int v ∧ v = r := by
  unfold zb at h
  by_cases hc : v = 0 ∨ v = 1
  · rw [if_pos hc] at h
    refine ⟨?_, Option.some.inj h⟩
    rcases hc with rfl | rfl <;> decide
  · rw [if_neg hc] at h
    cases h
theorem kt_out7_0 {x : Int32} (h0 : ¬ x = 0) (h1 : ¬ x = 1) (h2 : ¬ x = 2) (h3 : ¬ x = 3) (h4 : ¬ x = 4) (h5 : ¬ x = 5) (h6 : ¬ x = 6) : x.toInt < 0 ∨ 6 < x.toInt := by
  have n0 := lv_neT h0 (show (0 : Int32).toInt = 0 by decide)
  have n1 := lv_neT h1 (show (1 : Int32).toInt = 1 by decide)
  have n2 := lv_neT h2 (show (2 : Int32).toInt = 2 by decide)
  have n3 := lv_neT h3 (show (3 : Int32).toInt = 3 by decide)
  have n4 := lv_neT h4 (show (4 : Int32).toInt = 4 by decide)
  have n5 := lv_neT h5 (show (5 : Int32).toInt = 5 by decide)
  have n6 := lv_neT h6 (show (6 : Int32).toInt = 6 by decide)
  omega
theorem kt_out7_1 {x : Int32} (h1 : ¬ x = 1) (h2 : ¬ x = 2) (h3 : ¬ x = 3) (h4 : ¬ x = 4) (h5 : ¬ x = 5) (h6 : ¬ x = 6) (h7 : ¬ x = 7) : x.toInt < 1 ∨ 7 < x.toInt := by
  have n1 := lv_neT h1 (show (1 : Int32).toInt = 1 by decide)
  have n2 := lv_neT h2 (show (2 : Int32).toInt = 2 by decide)
  have n3 := lv_neT h3 (show (3 : Int32).toInt = 3 by decide)
  have n4 := lv_neT h4 (show (4 : Int32).toInt = 4 by decide)
  have n5 := lv_neT h5 (show (5 : Int32).toInt = 5 by decide)
  have n6 := lv_neT h6 (show (6 : Int32).toInt = 6 by decide)
  have n7 := lv_neT h7 (show (7 : Int32).toInt = 7 by decide)
  omega
theorem kt_out7_2 {x : Int32} (h2 : ¬ x = 2) (h3 : ¬ x = 3) (h4 : ¬ x = 4) (h5 : ¬ x = 5) (h6 : ¬ x = 6) (h7 : ¬ x = 7) (h8 : ¬ x = 8) : x.toInt < 2 ∨ 8 < x.toInt := by
  have n2 := lv_neT h2 (show (2 : Int32).toInt = 2 by decide)
  have n3 := lv_neT h3 (show (3 : Int32).toInt = 3 by decide)
  have n4 := lv_neT h4 (show (4 : Int32).toInt = 4 by decide)
  have n5 := lv_neT h5 (show (5 : Int32).toInt = 5 by decide)
  have n6 := lv_neT h6 (show (6 : Int32).toInt = 6 by decide)
  have n7 := lv_neT h7 (show (7 : Int32).toInt = 7 by decide)
  have n8 := lv_neT h8 (show (8 : Int32).toInt = 8 by decide)
  omega
