def smR (T : Tb) (i : Int) : Int := sumI (fun j => vl T i j) 6
theorem sm36_rows (T : Tb) : sm36 T = sumI (fun i => smR T i) 6 := by
  unfold sm36 smR
  simp [sumI]
  omega
theorem vl_0 {T : Tb} (hS : tS T) {i j : Int} (h : 0 ≤ j) (h2 : len T i ≤ j) : vl T i j = 0 := by
  have hs := len_spec hS i j h
  unfold vl
  rw [if_pos (by omega)]
theorem smR_len {T : Tb} (hS : tS T) (i : Int) : ∀ n : Nat, len T i ≤ n → sumI (fun j => vl T i j) n = sumI (fun j => vl T i j) (len T i).toNat := by
  intro n
  have hb := len_b T i
  induction n with
  | zero =>
    intro h
    rw [show (len T i).toNat = 0 by omega]
  | succ n ih =>
    intro h
    by_cases c : len T i ≤ n
    · rw [sumI_s, ih c, vl_0 hS (by omega) c, Int.add_zero]
    · rw [show (len T i).toNat = n + 1 by omega]
