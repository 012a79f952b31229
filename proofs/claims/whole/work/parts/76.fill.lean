-- rows of 37 numbers
def aW (W : Int → Int) (w : Nat → Int32) : Nat → Int32 := cpW (fun k => iz (W (k : Int))) w 0 0 37
theorem aW_at (W : Int → Int) (w : Nat → Int32) {k : Int} (h1 : 0 ≤ k) (h2 : k ≤ 36) : aW W w k.toNat = iz (W k) := by
  unfold aW cpW
  rw [if_pos (by omega)]
  show iz (W ((((k.toNat : Nat) : Int) - 0 + 0).toNat : Int)) = iz (W k)
  rw [show ((((k.toNat : Nat) : Int) - 0 + 0).toNat : Int) = k by omega]
theorem aW_get (W : Int → Int) (w : Nat → Int32) {k : Int} (h1 : 0 ≤ k) (h2 : k ≤ 36) : gI 37 (aW W w) (iz k) = some (iz (W k)) := by
  rw [gI_iz h1 (by omega) (by omega), aW_at W w h1 h2]
theorem aW_set (W : Int → Int) (w : Nat → Int32) {k v : Int} (h1 : 0 ≤ k) (h2 : k ≤ 36) : sI 37 (aW W w) (iz k) (iz v) = some (aW (fun f => if f = k then v else W f) w) := by
  rw [sI_iz h1 (by omega) (by omega)]
  congr 1
  funext n
  unfold upd aW cpW
  by_cases c : n = k.toNat
  · rw [if_pos c, if_pos (by omega)]
    show iz v = iz (if _ = k then v else _)
    rw [if_pos (by omega)]
  · rw [if_neg c]
    by_cases c2 : (0 : Int) ≤ n ∧ (n : Int) < 0 + 37
    · rw [if_pos c2, if_pos c2]
      show _ = iz (if _ = k then v else _)
      rw [if_neg (by omega)]
    · rw [if_neg c2, if_neg c2]
theorem aW_congr {W W' : Int → Int} (w : Nat → Int32) (h : ∀ k, 0 ≤ k → k ≤ 36 → W k = W' k) : aW W w = aW W' w := by
  funext n
  unfold aW cpW
  by_cases c2 : (0 : Int) ≤ n ∧ (n : Int) < 0 + 37
  · rw [if_pos c2, if_pos c2]
    show iz (W _) = iz (W' _)
    rw [h _ (by omega) (by omega)]
  · rw [if_neg c2, if_neg c2]
-- the reference's way to the primes of a number
def cpi (p : Nat) : Nat → Nat → List Nat × Nat
  | 0, l => ([], l)
  | f + 1, l => if l % p = 0 then (p :: (cpi p f (l / p)).1, (cpi p f (l / p)).2) else ([], l)
def cpo (n : Nat) : Nat → Nat → Nat → List Nat
  | 0, _, _ => []
  | f + 1, p, l => if n < p then [] else (cpi p 40 l).1 ++ cpo n f (p + 1) (cpi p 40 l).2
def cpl (n : Nat) : List Nat := cpo n 40 2 n
def cnL (k : Nat) : List Nat → Int
  | [] => 0
  | p :: ps => cnL k ps + (if k = p then 1 else 0)
def upW (b : Int) (W : Int → Int) : List Nat → Int → Int
  | [] => W
  | p :: ps => upW b (fun f => if f = (p : Int) then W f + b else W f) ps
theorem upW_app (b : Int) (l l' : List Nat) : ∀ W, upW b W (l ++ l') = upW b (upW b W l) l' := by
  induction l with
  | nil => intro W; rfl
  | cons p ps ih => intro W; exact ih _
theorem upW_cn (b : Int) (l : List Nat) : ∀ (W : Int → Int) (k : Int), 0 ≤ k → upW b W l k = W k + b * cnL k.toNat l := by
  induction l with
  | nil =>
    intro W k _
    rw [upW, cnL]
    omega
  | cons p ps ih =>
    intro W k hk
    rw [upW, ih _ k hk, cnL]
    by_cases c : k = (p : Int)
    · rw [if_pos c, if_pos (by omega), Int.mul_add]
      omega
    · rw [if_neg c, if_neg (by omega), Int.add_zero]
theorem rmI_iz {a b : Int} (h1 : 0 ≤ a) (h2 : a < 2147483648) (h3 : 0 < b) (h4 : b < 2147483648) : rmI (iz a) (iz b) = some (iz (a % b)) := by
  unfold rmI
  rw [iz_0, ifz_eq (by omega) (by omega) (by omega) (by omega), if_neg (by omega), iz_rem h1 h2 h3 h4]
theorem dvI_iz {a b : Int} (h1 : 0 ≤ a) (h2 : a < 2147483648) (h3 : 0 < b) (h4 : b < 2147483648) : dvI (iz a) (iz b) = some (iz (a / b)) := by
  unfold dvI
  rw [iz_0, ifz_eq (by omega) (by omega) (by omega) (by omega), if_neg (by omega), iz_divn h1 h2 h3 h4]
theorem cp_inner {b : Int} {p : Nat} (hp : 2 ≤ p) (hp2 : p ≤ 36) (w : Nat → Int32) : ∀ (f m l : Nat) (W : Int → Int), 1 ≤ l → l ≤ 36 → l ≤ f → f ≤ m → lpI m (un2 (pX10_countPrimes_L11 (iz b) (iz p))) (iz l, aW W w) = some (iz (cpi p f l).2, aW (upW b W (cpi p f l).1) w) ∧ 1 ≤ (cpi p f l).2 ∧ (cpi p f l).2 ≤ 36 := by
  intro f
  induction f with
  | zero => intro m l W h1 _ h3; omega
  | succ f ih =>
    intro m l W h1 h2 h3 h4
    obtain ⟨m, rfl⟩ : ∃ m', m = m' + 1 := ⟨m - 1, by omega⟩
    have e1 : ((l : Int) % (p : Int)) = ((l % p : Nat) : Int) := by omega
    have hlt : l % p < p := Nat.mod_lt _ (by omega)
    have hdl : l / p < l := Nat.div_lt_self (by omega) (by omega)
    have hdm := Nat.div_add_mod l p
    rw [lpI, un2_mk]
    unfold pX10_countPrimes_L11
    simp only [iz_0]
    rw [rmI_iz (by omega) (by omega) (by omega) (by omega), bd1_some, e1, ifz_eq (by omega) (by omega) (by omega) (by omega)]
    rw [cpi]
    by_cases c : l % p = 0
    · have hd1 : 1 ≤ l / p := Nat.div_pos (Nat.le_of_dvd (by omega) (Nat.dvd_of_mod_eq_zero c)) (by omega)
      rw [if_pos (by omega), if_pos c, dvI_iz (by omega) (by omega) (by omega) (by omega), bd1_some, aW_get W w (by omega) (by omega), bd1_some, iz_add, aW_set W w (by omega) (by omega), bd1_some]
      have q := ih m (l / p) (fun f => if f = (p : Int) then W p + b else W f) hd1 (by omega) (by omega) (by omega)
      have e2 : (fun f => if f = (p : Int) then W p + b else W f) = (fun f => if f = (p : Int) then W f + b else W f) := by
        funext x
        by_cases c9 : x = (p : Int)
        · rw [if_pos c9, if_pos c9, c9]
        · rw [if_neg c9, if_neg c9]
      rw [e2] at q ⊢
      rw [show ((l : Int) / (p : Int)) = ((l / p : Nat) : Int) by omega]
      exact q
    · rw [if_neg (by omega), if_neg c]
      exact ⟨rfl, h1, h2⟩
theorem cp_outer {b : Int} {n : Nat} (hn : n ≤ 36) (w : Nat → Int32) : ∀ (f m p l : Nat) (W : Int → Int), 2 ≤ p → 37 ≤ p + f → 1 ≤ l → l ≤ 36 → f < m → p ≤ 100 → lpI m (un3 (pX10_countPrimes_L5 (iz n) (iz b))) (iz p, iz l, aW W w) = some (aW (upW b W (cpo n f p l)) w) := by
  intro f
  induction f with
  | zero =>
    intro m p l W h1 h2 h3 h4 h5 h6
    obtain ⟨m, rfl⟩ : ∃ m', m = m' + 1 := ⟨m - 1, by omega⟩
    rw [lpI, un3_mk]
    unfold pX10_countPrimes_L5
    rw [ifz_lt (by omega) (by omega) (by omega) (by omega), if_pos (by omega)]
    rfl
  | succ f ih =>
    intro m p l W h1 h2 h3 h4 h5 h6
    obtain ⟨m, rfl⟩ : ∃ m', m = m' + 1 := ⟨m - 1, by omega⟩
    rw [lpI, un3_mk]
    unfold pX10_countPrimes_L5
    rw [ifz_lt (by omega) (by omega) (by omega) (by omega), cpo]
    by_cases c : n < p
    · rw [if_pos (by omega), if_pos c]
      rfl
    · obtain ⟨q1, q2, q3⟩ := cp_inner (b := b) (p := p) h1 (by omega) w 40 lpF l W h3 h4 (by omega) (by unfold lpF; omega)
      rw [if_neg (by omega), if_neg c, q1, bd1_some, un2_mk, upW_app]
      simp only [iz_1, iz_add]
      exact ih m (p + 1) _ _ (by omega) (by omega) q2 q3 (by omega) (by omega)
def vc (n k : Int) : Int := cnL k.toNat (cpl n.toNat)
theorem pX10_countPrimes_iz {W : Int → Int} {w : Nat → Int32} {n b : Int} (h1 : 1 ≤ n) (h2 : n ≤ 36) : pX10_countPrimes (aW W w) (iz n) (iz b) = some (aW (fun k => W k + b * vc n k) w) := by
  unfold pX10_countPrimes
  have q := cp_outer (b := b) (n := n.toNat) (by omega) w 40 lpF 2 n.toNat W (by omega) (by omega) (by omega) (by omega) (by unfold lpF; omega) (by omega)
  rw [show ((n.toNat : Nat) : Int) = n by omega] at q
  rw [iz_2]
  have e : ((2 : Nat) : Int) = 2 := rfl
  rw [e] at q
  rw [q, bd1_some]
  congr 1
  refine aW_congr w (fun k q1 q2 => ?_)
  rw [upW_cn b _ W k q1]
  rfl
def isP (k : Nat) : Bool := k == 2 || k == 3 || k == 5 || k == 7 || k == 11 || k == 13 || k == 17 || k == 19 || k == 23 || k == 29 || k == 31
theorem vc_tab : ∀ n k : Fin 37, (0 ≤ cnL k.val (cpl n.val) ∧ cnL k.val (cpl n.val) ≤ 6) ∧ (isP k.val = false → cnL k.val (cpl n.val) = 0) := by decide +kernel
theorem vc_b {n k : Int} (h1 : 0 ≤ n) (h2 : n ≤ 36) (h3 : 0 ≤ k) (h4 : k ≤ 36) : 0 ≤ vc n k ∧ vc n k ≤ 6 := (vc_tab ⟨n.toNat, by omega⟩ ⟨k.toNat, by omega⟩).1
theorem vc_c {n k : Int} (h1 : 0 ≤ n) (h2 : n ≤ 36) (h3 : 0 ≤ k) (h4 : k ≤ 36) (h5 : isP k.toNat = false) : vc n k = 0 := (vc_tab ⟨n.toNat, by omega⟩ ⟨k.toNat, by omega⟩).2 h5
theorem vc_0 (k : Int) : vc 0 k = 0 := rfl
theorem vc_1 (k : Int) : vc 1 k = 0 := rfl
theorem pin_tab : ∀ n k : Fin 37, isP k.val = true → 1 ≤ n.val → pX0_powerIn (iz (n.val : Int)) (iz (k.val : Int)) = some (iz (cnL k.val (cpl n.val))) := by decide +kernel
theorem pX0_powerIn_iz {n k : Int} (h1 : 1 ≤ n) (h2 : n ≤ 36) (h3 : 0 ≤ k) (h4 : k ≤ 36) (h5 : isP k.toNat = true) : pX0_powerIn (iz n) (iz k) = some (iz (vc n k)) := by
  have := pin_tab ⟨n.toNat, by omega⟩ ⟨k.toNat, by omega⟩ h5 (show 1 ≤ n.toNat by omega)
  rw [show (((⟨n.toNat, by omega⟩ : Fin 37).val : Nat) : Int) = n by show ((n.toNat : Nat) : Int) = n; omega, show (((⟨k.toNat, by omega⟩ : Fin 37).val : Nat) : Int) = k by show ((k.toNat : Nat) : Int) = k; omega] at this
  exact this
