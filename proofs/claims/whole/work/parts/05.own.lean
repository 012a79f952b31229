-- pure words: computations that may be stuck (none), loops by fuel, arrays as functions
def bd1 {α γ : Type} (x : Option α) (g : α → Option γ) : Option γ := match x with
  | none => none
  | some a => g a
theorem bd1_s {α γ : Type} {x : Option α} {g : α → Option γ} {o : γ} (h : bd1 x g = some o) : ∃ a, x = some a ∧ g a = some o := by
  cases x with
  | none => cases h
  | some a => exact ⟨a, rfl, h⟩
def un2 {α β γ : Type} (g : α → β → γ) (p : α × β) : γ := g p.1 p.2
def un3 {α β δ γ : Type} (g : α → β → δ → γ) (p : α × β × δ) : γ := g p.1 p.2.1 p.2.2
def un4 {α β δ ε γ : Type} (g : α → β → δ → ε → γ) (p : α × β × δ × ε) : γ := g p.1 p.2.1 p.2.2.1 p.2.2.2
def un5 {α β δ ε ζ γ : Type} (g : α → β → δ → ε → ζ → γ) (p : α × β × δ × ε × ζ) : γ := g p.1 p.2.1 p.2.2.1 p.2.2.2.1 p.2.2.2.2
def un6 {α β δ ε ζ η γ : Type} (g : α → β → δ → ε → ζ → η → γ) (p : α × β × δ × ε × ζ × η) : γ := g p.1 p.2.1 p.2.2.1 p.2.2.2.1 p.2.2.2.2.1 p.2.2.2.2.2
def un7 {α β δ ε ζ η θ γ : Type} (g : α → β → δ → ε → ζ → η → θ → γ) (p : α × β × δ × ε × ζ × η × θ) : γ := g p.1 p.2.1 p.2.2.1 p.2.2.2.1 p.2.2.2.2.1 p.2.2.2.2.2.1 p.2.2.2.2.2.2
def un8 {α β δ ε ζ η θ ι γ : Type} (g : α → β → δ → ε → ζ → η → θ → ι → γ) (p : α × β × δ × ε × ζ × η × θ × ι) : γ := g p.1 p.2.1 p.2.2.1 p.2.2.2.1 p.2.2.2.2.1 p.2.2.2.2.2.1 p.2.2.2.2.2.2.1 p.2.2.2.2.2.2.2
def un9 {α β δ ε ζ η θ ι κ γ : Type} (g : α → β → δ → ε → ζ → η → θ → ι → κ → γ) (p : α × β × δ × ε × ζ × η × θ × ι × κ) : γ := g p.1 p.2.1 p.2.2.1 p.2.2.2.1 p.2.2.2.2.1 p.2.2.2.2.2.1 p.2.2.2.2.2.2.1 p.2.2.2.2.2.2.2.1 p.2.2.2.2.2.2.2.2
/-- either of two ends, each with its own going on -/
def bdE {ρ τ γ : Type} (x : Option (ρ ⊕ τ)) (f : ρ → Option γ) (g : τ → Option γ) : Option γ := match x with
  | none => none
  | some (.inl a) => f a
  | some (.inr b) => g b
theorem bdE_s {ρ τ γ : Type} {x : Option (ρ ⊕ τ)} {f : ρ → Option γ} {g : τ → Option γ} {o : γ} (h : bdE x f g = some o) : (∃ a, x = some (.inl a) ∧ f a = some o) ∨ ∃ b, x = some (.inr b) ∧ g b = some o := by
  cases x with
  | none => cases h
  | some z => cases z with
    | inl a => exact Or.inl ⟨a, rfl, h⟩
    | inr b => exact Or.inr ⟨b, rfl, h⟩
/-- a loop: the body goes on (inl) or leaves (inr) -/
def lpI {σ ρ : Type} : Nat → (σ → Option (σ ⊕ ρ)) → σ → Option ρ
  | 0, _, _ => none
  | n + 1, b, s => match b s with
    | none => none
    | some (.inl s') => lpI n b s'
    | some (.inr r) => some r
def lpK {σ ρ : Type} (n : Nat) (b : σ → Option (σ ⊕ ρ)) (x : ρ) (o : σ ⊕ ρ) : Prop := match o with
  | .inl s' => lpI n b s' = some x
  | .inr r => r = x
theorem lpI_0 {σ ρ : Type} {b : σ → Option (σ ⊕ ρ)} {s : σ} {x : ρ} (h : lpI 0 b s = some x) : False := by cases h
theorem lpI_s {σ ρ : Type} {n : Nat} {b : σ → Option (σ ⊕ ρ)} {s : σ} {x : ρ} (h : lpI (n + 1) b s = some x) : ∃ o, b s = some o ∧ lpK n b x o := by
  rw [lpI] at h
  cases hb : b s with
  | none => rw [hb] at h; cases h
  | some o =>
    rw [hb] at h
    cases o with
    | inl s' => exact ⟨_, rfl, h⟩
    | inr r => exact ⟨_, rfl, Option.some.inj h⟩
def lpF : Nat := 4000
theorem if_t {c : Prop} [Decidable c] {α : Type} {a b : Option α} {o : α} (h : c) (hf : (if c then a else b) = some o) : a = some o := by rw [if_pos h] at hf; exact hf
theorem if_f {c : Prop} [Decidable c] {α : Type} {a b : Option α} {o : α} (h : ¬ c) (hf : (if c then a else b) = some o) : b = some o := by rw [if_neg h] at hf; exact hf
theorem if_n {c : Prop} [Decidable c] {α : Type} {b : Option α} {o : α} (hf : (if c then none else b) = some o) : ¬ c ∧ b = some o := by
  by_cases h : c
  · rw [if_pos h] at hf; cases hf
  · rw [if_neg h] at hf; exact ⟨h, hf⟩
def gI (n : Nat) (f : Nat → Int32) (i : Int32) : Option Int32 := if i < 0 ∨ n ≤ i.toNatClampNeg then none else some (f i.toNatClampNeg)
def sI (n : Nat) (f : Nat → Int32) (i x : Int32) : Option (Nat → Int32) := if i < 0 ∨ n ≤ i.toNatClampNeg then none else some (upd f i.toNatClampNeg x)
def sZ (n : Nat) (f : Nat → Int32) (i x : Int32) : Option (Nat → Int32) := if i < 0 ∨ n ≤ i.toNatClampNeg then none else some (upd f i.toNatClampNeg (vp_nar .boolean x))
def gJ (n : Nat) (f : Nat → Int64) (i : Int32) : Option Int64 := if i < 0 ∨ n ≤ i.toNatClampNeg then none else some (f i.toNatClampNeg)
def sJ (n : Nat) (f : Nat → Int64) (i : Int32) (x : Int64) : Option (Nat → Int64) := if i < 0 ∨ n ≤ i.toNatClampNeg then none else some (vp_updL f i.toNatClampNeg x)
def dvI (x y : Int32) : Option Int32 := if y = 0 then none else some (x / y)
def rmI (x y : Int32) : Option Int32 := if y = 0 then none else some (x % y)
def dvL (x y : Int64) : Option Int64 := if y = 0 then none else some (x / y)
def rmL (x y : Int64) : Option Int64 := if y = 0 then none else some (x % y)
/-- System.arraycopy between two int rows -/
def cpI (n0 n1 : Nat) (f g : Nat → Int32) (sp dp n : Int32) : Option (Nat → Int32) :=
  if (sp < 0 ∨ dp < 0 ∨ n < 0) ∨ (n0 < sp.toNatClampNeg + n.toNatClampNeg ∨ n1 < dp.toNatClampNeg + n.toNatClampNeg) then none else some (va_cpy f g sp.toNatClampNeg dp.toNatClampNeg n.toNatClampNeg)
theorem gI_s {n : Nat} {f : Nat → Int32} {i v : Int32} (h : gI n f i = some v) : vp_in i n ∧ f i.toNatClampNeg = v := by
  obtain ⟨h1, h2⟩ := if_n h
  exact ⟨h1, Option.some.inj h2⟩
theorem sI_s {n : Nat} {f g : Nat → Int32} {i x : Int32} (h : sI n f i x = some g) : vp_in i n ∧ upd f i.toNatClampNeg x = g := by
  obtain ⟨h1, h2⟩ := if_n h
  exact ⟨h1, Option.some.inj h2⟩
theorem sZ_s {n : Nat} {f g : Nat → Int32} {i x : Int32} (h : sZ n f i x = some g) : vp_in i n ∧ upd f i.toNatClampNeg (vp_nar .boolean x) = g := by
  obtain ⟨h1, h2⟩ := if_n h
  exact ⟨h1, Option.some.inj h2⟩
theorem gJ_s {n : Nat} {f : Nat → Int64} {i : Int32} {v : Int64} (h : gJ n f i = some v) : vp_in i n ∧ f i.toNatClampNeg = v := by
  obtain ⟨h1, h2⟩ := if_n h
  exact ⟨h1, Option.some.inj h2⟩
theorem sJ_s {n : Nat} {f g : Nat → Int64} {i : Int32} {x : Int64} (h : sJ n f i x = some g) : vp_in i n ∧ vp_updL f i.toNatClampNeg x = g := by
  obtain ⟨h1, h2⟩ := if_n h
  exact ⟨h1, Option.some.inj h2⟩
theorem dvI_s {x y v : Int32} (h : dvI x y = some v) : (¬ y = 0) ∧ x / y = v := by
  obtain ⟨h1, h2⟩ := if_n h
  exact ⟨h1, Option.some.inj h2⟩
theorem rmI_s {x y v : Int32} (h : rmI x y = some v) : (¬ y = 0) ∧ x % y = v := by
  obtain ⟨h1, h2⟩ := if_n h
  exact ⟨h1, Option.some.inj h2⟩
theorem dvL_s {x y v : Int64} (h : dvL x y = some v) : (¬ y = 0) ∧ x / y = v := by
  obtain ⟨h1, h2⟩ := if_n h
  exact ⟨h1, Option.some.inj h2⟩
theorem rmL_s {x y v : Int64} (h : rmL x y = some v) : (¬ y = 0) ∧ x % y = v := by
  obtain ⟨h1, h2⟩ := if_n h
  exact ⟨h1, Option.some.inj h2⟩
theorem cpI_s {n0 n1 : Nat} {f g r : Nat → Int32} {sp dp n : Int32} (h : cpI n0 n1 f g sp dp n = some r) : (¬ sp < 0) ∧ (¬ dp < 0) ∧ (¬ n < 0) ∧ sp.toNatClampNeg + n.toNatClampNeg ≤ n0 ∧ dp.toNatClampNeg + n.toNatClampNeg ≤ n1 ∧ va_cpy f g sp.toNatClampNeg dp.toNatClampNeg n.toNatClampNeg = r := by
  obtain ⟨h1, h2⟩ := if_n h
  simp only [not_or, Nat.not_lt] at h1
  exact ⟨h1.1.1, h1.1.2.1, h1.1.2.2, h1.2.1, h1.2.2, Option.some.inj h2⟩
