-- the law's entry: what the tables and the start give
theorem arr_of {args : Array Value} {s : State} {ty : FieldType} (h : (Cond.arrayClass ty).before args s = true) : ∃ cA : ClassId, ArrOfT s cA ty ∧ s.vm.findClass ("[" ++ ty.toString) = some cA := by
  obtain ⟨cA, kA, comp, h1, h2, h3⟩ := Cond.arrayClass_spec h
  exact ⟨cA, fun n z => ⟨fun k h => (by cases h), kA, h2, comp, h3⟩, h1⟩
set_option maxRecDepth 100000 in
theorem st_nest : ∀ q ∈ kNestM, Cond.methodLinkNest q.1 q.2.1 q.2.2 RX9 ∈ lw_tbl := by decide +kernel
set_option maxRecDepth 100000 in
theorem st_fld : Cond.fieldLinkNest RX0 25 RX9 "PRIMES" "[I" RX9 ∈ lw_tbl := by decide +kernel
set_option maxRecDepth 100000 in
theorem st_txt : ∀ q ∈ kTexts, Cond.stringRef RX9 q.1 q.2 ∈ lw_tbl := by decide +kernel
set_option maxRecDepth 100000 in
theorem st_txt2 : ∀ q ∈ kTexts, Cond.exactly (.string RX9 q.1) "java/lang/String" ∈ flatC (Jvm.Cond.and given_1 narrow_1) := by decide +kernel
set_option maxRecDepth 100000 in
theorem st_sup : ∀ y ∈ kSup, Cond.declares (Bundle.initS y) ∈ lw_tbl := by decide +kernel
set_option maxRecDepth 100000 in
theorem st_cast : ∀ k ∈ [1, 2, 3], Cond.castable (kEx k) (kEx k) ∈ lw_tbl := by decide +kernel
set_option maxRecDepth 100000 in
theorem st_nc : ∀ a ∈ [1, 2, 3], ∀ b ∈ [1, 2, 3], a ≠ b → Cond.not (.castable (kEx a) (kEx b)) ∈ flatC (Jvm.Cond.and given_1 narrow_1) := by decide +kernel
set_option maxRecDepth 100000 in
theorem st_ins : ∀ q ∈ vwCl, Cond.instantiable q.1 q.2.2 ∈ lw_tbl := by decide +kernel
set_option maxRecDepth 100000 in
theorem st_arr : Cond.arrayClass .int ∈ lw_tbl ∧ Cond.arrayClass .boolean ∈ lw_tbl ∧ Cond.arrayClass .long ∈ lw_tbl := by decide +kernel
set_option maxRecDepth 100000 in
theorem st_stat : Cond.laysStatic Bundle.tN "UNASSIGNED_STACK" Bundle.steD ∈ lw_tbl ∧ Cond.laysStatic Bundle.tN "SUPPRESSED_SENTINEL" Bundle.listD ∈ lw_tbl ∧ Cond.laysStatic RX9 "PRIMES" "[I" ∈ lw_tbl ∧ Cond.initialized Bundle.tN ∈ lw_tbl ∧ Cond.initialized RX9 ∈ lw_tbl := by decide +kernel
set_option maxRecDepth 100000 in
theorem st_ref : Cond.isRef (.static Bundle.tN "UNASSIGNED_STACK" Bundle.steD) ∈ flatC (Jvm.Cond.and given_1 narrow_1) ∧ Cond.isRef (.static Bundle.tN "SUPPRESSED_SENTINEL" Bundle.listD) ∈ flatC (Jvm.Cond.and given_1 narrow_1) ∧ Cond.arrayOf (.static RX9 "PRIMES" "[I") .int ∈ flatC (Jvm.Cond.and given_1 narrow_1) ∧ Cond.eq (.length (.static RX9 "PRIMES" "[I")) (.int 11) ∈ flatC (Jvm.Cond.and given_1 narrow_1) := by decide +kernel
set_option maxRecDepth 100000 in
theorem st_prm : ∀ j : Fin 11, Cond.eq (.elem (.static RX9 "PRIMES" "[I") (.int (Int32.ofNat j.val))) (.int (kPrimes j.val)) ∈ flatC (Jvm.Cond.and given_1 narrow_1) := by decide +kernel
theorem u_all {s : State} {args : Array Value} (hts : ∀ w ∈ lw_tbl, w.before args s = true) : ∃ (dC : Nat → ClassId) (dI : Nat → Nat → Nat), ∀ (k : Nat) (q : vw_C), vwCl[k]? = some q → u_Kn s q.1 q.2.1 q.2.2 (dC k) (dI k) := by
  have h : ∀ k : Nat, ∃ (cC : ClassId) (iS : Nat → Nat), ∀ q : vw_C, vwCl[k]? = some q → u_Kn s q.1 q.2.1 q.2.2 cC iS := by
    intro k
    have hk : ∀ (C : String) (T : u_T) (N : Nat), (∀ w ∈ u_ws C T N, w ∈ lw_tbl) → Cond.instantiable C N ∈ lw_tbl → vwCl[k]? = some (C, T, N) → ∃ (cC : ClassId) (iS : Nat → Nat), ∀ q : vw_C, vwCl[k]? = some q → u_Kn s q.1 q.2.1 q.2.2 cC iS := by
      intro C T N h1 h2 h3
      obtain ⟨cC, iS, h4⟩ := u_known (C := C) (T := T) (N := N) (n := N) hts h1 (hts _ h2)
      refine ⟨cC, iS, fun q hq => ?_⟩
      rw [h3] at hq
      cases hq
      exact h4
    match k, hk with
    | 0, hk => exact hk RX0 TX0 1 wsX00_tb (st_ins (RX0, TX0, 1) (by simp [vwCl])) rfl
    | 1, hk => exact hk RX1 TX1 3 wsX10_tb (st_ins (RX1, TX1, 3) (by simp [vwCl])) rfl
    | 2, hk => exact hk RX2 TX2 2 wsX20_tb (st_ins (RX2, TX2, 2) (by simp [vwCl])) rfl
    | 3, hk => exact hk RX3 TX3 3 wsX30_tb (st_ins (RX3, TX3, 3) (by simp [vwCl])) rfl
    | 4, hk => exact hk RX4 TX4 6 wsX40_tb (st_ins (RX4, TX4, 6) (by simp [vwCl])) rfl
    | 5, hk => exact hk RX6 TX6 2 wsX60_tb (st_ins (RX6, TX6, 2) (by simp [vwCl])) rfl
    | 6, hk => exact hk RX7 TX7 1 wsX70_tb (st_ins (RX7, TX7, 1) (by simp [vwCl])) rfl
    | 7, hk => exact hk RX8 TX8 2 wsX80_tb (st_ins (RX8, TX8, 2) (by simp [vwCl])) rfl
    | 8, hk => exact hk RX9 TX9 9 wsX90_tb (st_ins (RX9, TX9, 9) (by simp [vwCl])) rfl
    | 9, hk => exact hk RX10 TX10 15 wsX100_tb (st_ins (RX10, TX10, 15) (by simp [vwCl])) rfl
    | k + 10, _ => exact ⟨0, fun _ => 0, fun q hq => by simp [vwCl] at hq⟩
  exact ⟨fun k => (h k).choose, fun k => (h k).choose_spec.choose, fun k q hq => (h k).choose_spec.choose_spec q hq⟩
theorem st_kV {s : State} {args : Array Value} (hts : ∀ w ∈ lw_tbl, w.before args s = true) (hgv : (Jvm.Cond.and given_1 narrow_1).before args s = true) : ∃ (D : va_G) (cI cZ cJ : ClassId), kV D cI cZ cJ s := by
  have hs := flat_of_before _ hgv
  obtain ⟨dC, dI, hK⟩ := u_all hts
  obtain ⟨cI, i1, i2⟩ := arr_of (hts _ st_arr.1)
  obtain ⟨cZ, z1, z2⟩ := arr_of (hts _ st_arr.2.1)
  obtain ⟨cJ, j1, j2⟩ := arr_of (hts _ st_arr.2.2)
  refine ⟨(dC, dI), cI, cZ, cJ, ⟨hK, fun k q hq => ?_⟩, fun q hq => va_Nw.of rfl (hts _ (st_nest q hq)), va_Nw.of rfl (hts _ st_fld), fun q hq => ?_, fun y hy => va_Nw.of rfl (hts _ (st_sup y hy)), fun k hk => va_Nw.of rfl (hts _ (st_cast k hk)), fun x hx y hy hn => va_Nc.of (hs _ (st_nc x hx y hy hn))⟩
  · match k, hq with
    | 0, hq => cases hq; exact ⟨i1, i2⟩
    | 1, hq => cases hq; exact ⟨z1, z2⟩
    | 2, hq => cases hq; exact ⟨j1, j2⟩
    | k + 3, hq => simp [kTy] at hq
  · obtain ⟨sa, c0, c1, c2, q1, -⟩ := Cond.exactly_spec (hs _ (st_txt2 q hq))
    have h1 := hts _ (st_txt q hq)
    exact ⟨sa, vk_R.of (A := #[]) (by first | exact h1 | simpa [Cond.before, Cond.holds, Cond.value] using h1) (by first | exact q1 | simpa [Term.eval] using q1)⟩
theorem st_kZ {s : State} {args : Array Value} (hts : ∀ w ∈ lw_tbl, w.before args s = true) (hgv : (Jvm.Cond.and given_1 narrow_1).before args s = true) : kZ (fun q : Nat => s.heap.size ≤ q) s s.heap := by
  have hs := flat_of_before _ hgv
  have hA : ∀ a : Nat, a < s.heap.size → ¬ (fun q : Nat => s.heap.size ≤ q) a := fun a h => Nat.not_le.mpr h
  obtain ⟨t, h1, h2⟩ := va_Tof (N := 11) (f := fun k => .int (kPrimes k)) (A := fun q : Nat => s.heap.size ≤ q) (tm := .static RX9 "PRIMES" "[I") (by decide) (hs _ st_ref.2.2.1) (va_eqt (hs _ st_ref.2.2.2)) (fun j hj => va_eqt (hs _ (st_prm ⟨j, hj⟩))) hA
  exact ⟨vx_Zqof (hts _ st_stat.1) (hts _ st_stat.2.2.2.1) (hs _ st_ref.1) hA, vx_Zqof (hts _ st_stat.2.1) (hts _ st_stat.2.2.2.1) (hs _ st_ref.2.1) hA, t, va_Zref (hts _ st_stat.2.2.1) (hts _ st_stat.2.2.2.2) h1 hA, h2⟩
