-- contracts in one form: a method at a world ws, an answer v, the world ws' behind it
abbrev kTy (cI cZ cJ : ClassId) : List (ClassId × FieldType) := [(cI, .int), (cZ, .boolean), (cJ, .long)]
/-- private members of nest mates that are called or read -/
def kNestM : List (String × Nat × MethodName) := [(RX1, 53, yX9_placeOf), (RX4, 11, yX2_init), (RX5, 35, yX9_rowOf), (RX5, 38, yX9_columnOf), (RX6, 9, yX2_init), (RX7, 51, yX9_placeOf), (RX7, 61, yX9_rowOf), (RX7, 64, yX9_columnOf), (RX9, 11, yX2_init), (RX9, 21, yX3_init), (RX9, 28, yX8_init), (RX9, 35, yX4_init), (RX9, 42, yX6_init), (RX9, 52, yX1_init), (RX9, 59, yX0_init)]
def kTexts : List (Nat × String) := [(74, "the text is full"), (94, "the text is not a text of the tables"), (179, "no state is remembered"), (266, "the script is negative or too long"), (300, "nothing is saved in the slot"), (305, "there is no such table"), (308, "there is no such cell"), (310, "there is no such slot"), (312, "an argument is out of its range"), (314, "an argument is negative"), (316, "the table has no gap")]
def kEx (k : Nat) : String := match k with
  | 1 => "java/lang/IllegalArgumentException"
  | 2 => "java/lang/IllegalStateException"
  | _ => "java/lang/IndexOutOfBoundsException"
def kSup : List String := ["java/lang/RuntimeException", "java/lang/Exception", "java/lang/Throwable"]
/-- what holds of the tables, at every state -/
def kV (D : va_G) (cI cZ cJ : ClassId) (U : State) : Prop :=
  va_K D vwCl (kTy cI cZ cJ) U ∧ (∀ q ∈ kNestM, va_Nw (.methodLinkNest q.1 q.2.1 q.2.2 RX9) U) ∧ va_Nw (.fieldLinkNest RX0 25 RX9 "PRIMES" "[I" RX9) U ∧ (∀ q ∈ kTexts, ∃ sa : Nat, vk_R RX9 q.1 q.2 sa U) ∧
  (∀ y ∈ kSup, va_Nw (.declares (Bundle.initS y)) U) ∧ (∀ k ∈ [1, 2, 3], va_Nw (.castable (kEx k) (kEx k)) U) ∧ ∀ a ∈ [1, 2, 3], ∀ b ∈ [1, 2, 3], a ≠ b → va_Nc (kEx a) (kEx b) U
def kPrimes : Nat → Int32 := fun k => match k with
  | 0 => 2
  | 1 => 3
  | 2 => 5
  | 3 => 7
  | 4 => 11
  | 5 => 13
  | 6 => 17
  | 7 => 19
  | 8 => 23
  | 9 => 29
  | _ => 31
/-- the statics that are read: nobody writes them -/
def kZ (A : Nat → Prop) (U : State) (H : Heap) : Prop :=
  vx_Zq Bundle.tN "UNASSIGNED_STACK" Bundle.steD A U H ∧ vx_Zq Bundle.tN "SUPPRESSED_SENTINEL" Bundle.listD A U H ∧ ∃ t : Nat, va_Z RX9 "PRIMES" "[I" (.ref t) A U H ∧ va_T .int t 11 (fun k => .int (kPrimes k)) A U H
theorem kV.warm {D : va_G} {cI cZ cJ : ClassId} {s U : State} (hW : s.WarmedH U.vm) (h : kV D cI cZ cJ s) : kV D cI cZ cJ U :=
  ⟨va_K.moved hW.alike h.1, fun q hq => va_Nw.warmM hW (h.2.1 q hq), va_Nw.warmF hW h.2.2.1, fun q hq => by obtain ⟨sa, h1⟩ := h.2.2.2.1 q hq; exact ⟨sa, vk_R.warm hW h1⟩, fun y hy => va_Nw.warmD hW (h.2.2.2.2.1 y hy), fun k hk => va_Nw.warmC hW (h.2.2.2.2.2.1 k hk), fun a ha b hb hn => (h.2.2.2.2.2.2 a ha b hb hn).moved hW.alike⟩
theorem kV.call {D : va_G} {cI cZ cJ : ClassId} {U : State} {g : JFrame} {mk : MethodId} {a : Array Value} (h : kV D cI cZ cJ U) : kV D cI cZ cJ (U.calling g mk a) :=
  ⟨va_K.moved (u := U) (U := U.calling g mk a) (Vm.Alike.refl U.vm) h.1, fun q hq => va_Nw.same rfl (u := U) (U := U.calling g mk a) rfl (h.2.1 q hq), va_Nw.same rfl (u := U) (U := U.calling g mk a) rfl h.2.2.1, fun q hq => by obtain ⟨sa, h1⟩ := h.2.2.2.1 q hq; exact ⟨sa, vk_R.same (u := U) (U := U.calling g mk a) rfl h1⟩, fun y hy => va_Nw.same rfl (u := U) (U := U.calling g mk a) rfl (h.2.2.2.2.1 y hy), fun k hk => va_Nw.same rfl (u := U) (U := U.calling g mk a) rfl (h.2.2.2.2.2.1 k hk), fun x hx y hy hn => (h.2.2.2.2.2.2 x hx y hy hn).moved (u := U) (U := U.calling g mk a) (Vm.Alike.refl U.vm)⟩
theorem kZ.narrow {A B : Nat → Prop} {U : State} {H : Heap} (h : kZ A U H) (hAB : ∀ q, B q → A q) : kZ B U H := by
  obtain ⟨h1, h2, t, h3, h4⟩ := h
  exact ⟨h1.narrow hAB, h2.narrow hAB, t, h3.narrow hAB, h4.narrow hAB⟩
theorem kZ.kept {A : Nat → Prop} {U : State} {H H1 : Heap} (h : kZ A U H) (hq : ∀ a : Nat, a < H.size → ¬ A a → H1[a]? = H[a]?) : kZ A U H1 := by
  obtain ⟨h1, h2, t, h3, h4⟩ := h
  exact ⟨h1.kept hq, h2.kept hq, t, h3.kept hq, h4.kept hq⟩
theorem kZ.moved {A : Nat → Prop} {u U : State} {H : Heap} (hvm : u.vm.Alike U.vm) (h : kZ A u H) : kZ A U H := by
  obtain ⟨h1, h2, t, h3, h4⟩ := h
  exact ⟨h1.moved hvm, h2.moved hvm, t, h3.moved hvm, h4.moved hvm⟩
/-- a method's start -/
def kPre (D : va_G) (cI cZ cJ : ClassId) (ws : va_W) (sz : Nat) (U : State) : Prop :=
  U.heap.size = sz ∧ va_P D vwCl ws U.heap ∧ kV D cI cZ cJ U ∧ kZ (va_A ws sz) U U.heap ∧ va_D (fun _ => True) ws
/-- the world behind a method -/
def kB (D : va_G) (ws : va_W) (A : Nat → Prop) (t : State) : Prop := va_P D vwCl ws t.heap ∧ va_D A ws
/-- a method's end: the answer v -/
def kQ (v : Option Value) (B : State → Prop) (A : Nat → Prop) : Array Value → State → Outcome → State → Prop := fun _ st oc t => (oc = .returned v ∧ B t) ∧ va_F A st t
abbrev kRm (fr lo mc ms : Nat) : Room := { frames := fr, cells := mc, slots := ms, locals := lo }
/-- the contract of a method that returns -/
def kMet (l : Launch) (D : va_G) (cI cZ cJ : ClassId) (y : MethodName) (wds : List Cond) (fr lo : Nat) (av : List Value) (ws : va_W) (sz : Nat) (v : Option Value) (ws' : va_W) : Prop :=
  Met l y wds (kRm fr lo 0 0) (va_Pc av (kPre D cI cZ cJ ws sz)) (kQ v (kB D ws' (va_A ws sz)) (va_A ws sz)) 0 0 (va_A ws sz)
/-- the contract of a constructor: mc cells of ms slots come; what is behind it, by B -/
def kMetN (l : Launch) (D : va_G) (cI cZ cJ : ClassId) (y : MethodName) (wds : List Cond) (fr lo mc ms : Nat) (av : List Value) (ws : va_W) (sz : Nat) (B : (Nat → Prop) → State → Prop) : Prop :=
  Met l y wds (kRm fr lo mc ms) (va_Pc av (kPre D cI cZ cJ ws sz)) (kQ none (B (va_A ws sz)) (va_A ws sz)) mc ms (va_A ws sz)
/-- the ends of a method that may throw: thrown (which, the world) or returned (what, the world) -/
abbrev kO : Type := (Nat × va_W) ⊕ (Option Value × va_W)
def kc (o : kO) : Nat := match o with
  | .inl _ => 1
  | .inr _ => 0
def ks (o : kO) : Nat := match o with
  | .inl _ => 6
  | .inr _ => 0
def kXQ (D : va_G) (A : Nat → Prop) (o : kO) : Array Value → State → Outcome → State → Prop := fun a st oc t => match o with
  | .inl _ => False
  | .inr (v, w) => kQ v (kB D w A) A a st oc t
def kXC (D : va_G) (A : Nat → Prop) (o : kO) : String → State → State → Prop := fun E st t => match o with
  | .inl (k, w) => E = kEx k ∧ kB D w A t ∧ va_F A st t
  | .inr _ => False
def kMetX (l : Launch) (D : va_G) (cI cZ cJ : ClassId) (y : MethodName) (wds : List Cond) (fr lo : Nat) (av : List Value) (ws : va_W) (sz : Nat) (o : kO) : Prop :=
  vx_Met l y wds (kRm fr lo (kc o) (ks o)) (va_Pc av (kPre D cI cZ cJ ws sz)) (kXQ D (va_A ws sz) o) (kXC D (va_A ws sz) o) (kc o) (ks o) (va_A ws sz)
/-- it returned: an ordinary contract -/
theorem kMetX.ret {l : Launch} {D : va_G} {cI cZ cJ : ClassId} {y : MethodName} {wds : List Cond} {fr lo : Nat} {av : List Value} {ws : va_W} {sz : Nat} {v : Option Value} {w : va_W} (h : kMetX l D cI cZ cJ y wds fr lo av ws sz (.inr (v, w))) : kMet l D cI cZ cJ y wds fr lo av ws sz v w := by
  intro p e h1 h2 h3 s m args below h4 h5 h6 h7
  obtain ⟨t, o, a1, a2, a3, a4⟩ := h p e h1 h2 h3 s m args below h4 h5 h6 h7
  refine ⟨t, o, a1, a2, a3, ?_⟩
  rcases a4 with ⟨b1, b2⟩ | ⟨q, rfl, E, ce, L, b, -⟩
  · exact ⟨b1, b2⟩
  · exact b.elim
theorem kPre.blind {D : va_G} {cI cZ cJ : ClassId} {ws : va_W} {sz : Nat} {av : List Value} : FrameBlind (va_Pc av (kPre D cI cZ cJ ws sz)) := fun a U g mk q => by
  obtain ⟨q0, q1, q2, q3, q4, q5⟩ := q
  exact ⟨q0, q1, q2, q3.call, q4.moved (u := U) (U := U.calling g mk a) (Vm.Alike.refl U.vm), q5⟩
/-- the cells that are held, what may be written, what was written -/
def kH (D : va_G) (A : Nat → Prop) (s : State) (H : Heap) (locs : List Loc) (ws : va_W) : Prop := va_P D vwCl ws H ∧ va_D A ws ∧ va_S A s.heap H locs
/-- what stands through a method's body -/
def kEn (D : va_G) (cI cZ cJ : ClassId) (A : Nat → Prop) (s : State) : Prop := kV D cI cZ cJ s ∧ kZ A s s.heap ∧ ∀ q, s.heap.size ≤ q → A q
section KW
variable {p : Program} {l : Launch} {e : Env} {R : Room} {s : State} {m : MethodId} {args : Array Value} {below : List Frame} {meth : Method} {c : Code} {H : Heap} {locs : List Loc} {cells slots : Nat} {Q : State → Prop}
variable {cc : ByteArray} {pc : Nat} {ls : Array Slot} {rest : List Value} {D : va_G} {cI cZ cJ : ClassId} {A : Nat → Prop} {a : Nat} {ws ws' : va_W} {nL : Nat} {Ts : List Cond} {own : String}
/-- the callee's start, out of the caller's -/
theorem kPre.start {wc : va_W} {av : List Value} (hE : kEn D cI cZ cJ A s) (hW : kH D A s H locs ws) (isC : List Nat) (hC : isC.map (fun i => ws[i]?) = wc.map some) (hn : va_nd isC = true) : ∀ U : State, U.heap = H → s.WarmedH U.vm → va_Pc av (kPre D cI cZ cJ wc H.size) av.toArray U := by
  intro U hU hWm
  have hF := va_free hW.2.1 hW.2.2 hE.2.2 isC hC
  have hPs : va_P D vwCl wc H := by
    intro k q hk
    have h1 : (wc.map some)[k]? = some (some q) := by rw [List.getElem?_map, hk]; rfl
    rw [← hC, List.getElem?_map] at h1
    obtain ⟨i, hi, h2⟩ := Option.map_eq_some_iff.mp h1
    exact hW.1 i q h2
  refine ⟨rfl, by rw [hU], by rw [hU]; exact hPs, hE.1.warm hWm, ?_, (hW.2.1.sub isC hn hC).weaken (fun _ _ _ _ => trivial)⟩
  rw [hU]
  exact ((hE.2.1.kept (fun a h1 h2 => hW.2.2.2.1 a h1 h2)).narrow hF).moved hWm.alike
/-- behind a call that returned: the world is put together again, in the order that is asked -/
theorem k_after {v : Option Value} {wc wr w1 : va_W} {st0 : List Value} {mc ms : Nat} {aa : Array Value} (hE : kEn D cI cZ cJ A s) (hW : kH D A s H locs ws) (isC isR : List Nat) (is2 : List Nat)
    (hC : isC.map (fun i => ws[i]?) = wc.map some) (hR : isR.map (fun i => ws[i]?) = wr.map some) (hn : va_nd isR = true) (hdis : ∀ i ∈ isR, i ∉ isC) (hn2 : va_nd is2 = true) (h2 : is2.map (fun i => (wr ++ w1)[i]?) = ws'.map some)
    (hr : va_Run p l e R s m args below meth c H locs cells slots mc ms (F0 m pc ls st0) rest (kQ v (kB D w1 (va_A wc H.size)) (va_A wc H.size) aa) (va_A wc H.size))
    (kk : ∀ (H1 : Heap) (locs1 : List Loc), kH D A s H1 locs1 ws' → W p l e R s m args below meth c H1 locs1 (cells + mc) (slots + ms) Q (F0 m (pc + 3) ls (v.toList ++ rest))) : W p l e R s m args below meth c H locs cells slots Q (F0 m pc ls st0) := by
  intro T hT X
  obtain ⟨v0, st₀, t, T', L, h0, X', hL, e1, e2, ⟨⟨hv, hb⟩, hF⟩, st⟩ := hr T hT X
  cases hv
  have hFr := va_free hW.2.1 hW.2.2 hE.2.2 isC hC
  obtain ⟨k1, k2, k3⟩ := vx_keep h0 e1 hW.2.2 (fun q _ h => hFr q h) hFr hL hF
  have hP1 : va_P D vwCl w1 T'.heap := by rw [e1]; exact hb.1
  obtain ⟨hP, hD⟩ := va_join hW.1 hW.2.1 isC isR hC hR hn hdis k2 hFr hP1 hb.2
  have hP2 : va_P D vwCl ws' T'.heap := by
    intro k q hk
    have h3 : (ws'.map some)[k]? = some (some q) := by rw [List.getElem?_map, hk]; rfl
    rw [← h2, List.getElem?_map] at h3
    obtain ⟨i, hi, h4⟩ := Option.map_eq_some_iff.mp h3
    exact hP i q h4
  obtain ⟨t2, a1, b1⟩ := kk T'.heap (locs ++ L) ⟨hP2, hD.sub is2 hn2 h2, k3⟩ T' rfl X'
  exact ⟨t2, st t2 a1, b1⟩
/-- behind a call that changed nothing -/
theorem k_afterR {v : Option Value} {wc : va_W} {st0 : List Value} {mc ms : Nat} {aa : Array Value} (hE : kEn D cI cZ cJ A s) (hW : kH D A s H locs ws) (isC : List Nat) (hC : isC.map (fun i => ws[i]?) = wc.map some)
    (hr : va_Run p l e R s m args below meth c H locs cells slots mc ms (F0 m pc ls st0) rest (kQ v (kB D wc (va_A wc H.size)) (va_A wc H.size) aa) (va_A wc H.size))
    (kk : ∀ (H1 : Heap) (locs1 : List Loc), kH D A s H1 locs1 ws → W p l e R s m args below meth c H1 locs1 (cells + mc) (slots + ms) Q (F0 m (pc + 3) ls (v.toList ++ rest))) : W p l e R s m args below meth c H locs cells slots Q (F0 m pc ls st0) := by
  intro T hT X
  obtain ⟨v0, st₀, t, T', L, h0, X', hL, e1, e2, ⟨⟨hv, hb⟩, hF⟩, st⟩ := hr T hT X
  cases hv
  have hFr := va_free hW.2.1 hW.2.2 hE.2.2 isC hC
  obtain ⟨k1, k2, k3⟩ := vx_keep h0 e1 hW.2.2 (fun q _ h => hFr q h) hFr hL hF
  have hP1 : va_P D vwCl wc T'.heap := by rw [e1]; exact hb.1
  have hP : va_P D vwCl ws T'.heap := by
    intro k q hk
    by_cases hin : va_A wc H.size q.1
    · rcases hin with ⟨j, ee, hj⟩ | hge
      · have h1 : (wc.map some)[j]? = some (some (q.1, ee)) := by rw [List.getElem?_map, hj]; rfl
        rw [← hC, List.getElem?_map] at h1
        obtain ⟨i, hi, h2⟩ := Option.map_eq_some_iff.mp h1
        have h2 : ws[i]? = some (q.1, ee) := h2
        have hik : i = k := hW.2.1.1 i k _ _ h2 hk rfl
        subst hik
        rw [h2] at hk
        have h9 := hP1 j _ hj
        rw [show ((q.1, ee) : Nat × va_E) = q from Option.some.inj hk] at h9
        exact h9
      · exact absurd hge (Nat.not_le.mpr (hW.1 k q hk).lt)
    · exact (hW.1 k q hk).kept (k2 q.1 (hW.1 k q hk).lt hin)
  obtain ⟨t2, a1, b1⟩ := kk T'.heap (locs ++ L) ⟨hP, hW.2.1, k3⟩ T' rfl X'
  exact ⟨t2, st t2 a1, b1⟩
/-- invokevirtual -/
theorem k_callV {y : MethodName} {bytes : ByteArray} {maxL : Nat} {ret : Option FieldType} {wds wdr : List Cond} {fr lo : Nat} {b : Nat} {As : List Value} {v : Option Value} {wc wr w1 : va_W} {Cn : String} {T : u_T} {N ci qb index n : Nat} {fs : List Value}
    (C : CallFix p m c cc nL s args Ts own) (hE : kEn D cI cZ cJ A s) (hW : kH D A s H locs ws) (hls : ls.size = nL) (hM : kMet l D cI cZ cJ y wds fr lo (.ref b :: As) wc H.size v w1)
    (hg : GoodIn Ts (wsV own index Cn y wds)) (hw : wds = Cond.code y bytes maxL ret :: wdr) (hd : y.cls = Cn ∧ y.cls ≠ "java/lang/invoke/MethodHandle" ∧ y.cls ≠ "java/lang/invoke/VarHandle" ∧ (parseMethodDescriptor y.desc).map (fun d => d.parameters.length) = some n) (hn1 : As.length = n)
    (hR : fr + 1 ≤ R.frames ∧ 8 + (maxL + 11) + lo ≤ R.locals) (hcs : cells ≤ R.cells ∧ slots ≤ R.slots) (hci : vwCl[ci]? = some (Cn, T, N)) (hqb : wc[qb]? = some (b, .inr (ci, fs)))
    (isC isR is2 : List Nat) (hC : isC.map (fun i => ws[i]?) = wc.map some) (hnC : va_nd isC = true) (hRr : isR.map (fun i => ws[i]?) = wr.map some) (hn : va_nd isR = true) (hdis : ∀ i ∈ isR, i ∉ isC) (hn2 : va_nd is2 = true) (h2 : is2.map (fun i => (wr ++ w1)[i]?) = ws'.map some)
    (hst : (rest.map fun v => v.category).sum ≤ 8) {st0 st1 : List Value} (hs0 : st0 = As.reverse ++ .ref b :: rest) (hs1 : v.toList ++ rest = st1) (hdg : decode cc pc = .ok (.invokevirtual index, 3))
    (kk : ∀ (H1 : Heap) (locs1 : List Loc), kH D A s H1 locs1 ws' → W p l e R s m args below meth c H1 locs1 cells slots Q (F0 m (pc + 3) ls st1)) : W p l e R s m args below meth c H locs cells slots Q (F0 m pc ls st0) := by
  subst hs0
  subst hs1
  have hPs : va_P D vwCl wc H := by
    intro k q hk
    have h1 : (wc.map some)[k]? = some (some q) := by rw [List.getElem?_map, hk]; rfl
    rw [← hC, List.getElem?_map] at h1
    obtain ⟨i, hi, h2⟩ := Option.map_eq_some_iff.mp h1
    exact hW.1 i q h2
  exact k_after hE hW isC isR is2 hC hRr hn hdis hn2 h2 (va_runV (As := As) (rest := rest) C hM (cwV n C.2.2.2.2 hg hw rfl rfl hd hR) ⟨kPre.blind, va_recv hE.1.1 hPs hci hqb, kPre.start hE hW isC hC hnC⟩ rfl hn1 hls rfl (lv_room hst) hdg hcs) kk
/-- invokestatic -/
theorem k_callS {y : MethodName} {bytes : ByteArray} {maxL : Nat} {ret : Option FieldType} {wds wdr : List Cond} {fr lo : Nat} {As : List Value} {v : Option Value} {wc wr w1 : va_W} {index n : Nat}
    (C : CallFix p m c cc nL s args Ts own) (hE : kEn D cI cZ cJ A s) (hW : kH D A s H locs ws) (hls : ls.size = nL) (hM : kMet l D cI cZ cJ y wds fr lo As wc H.size v w1)
    (hg : GoodIn Ts (va_wsS own index y wds)) (hw : wds = Cond.code y bytes maxL ret :: wdr) (hd : y.cls ≠ "java/lang/invoke/MethodHandle" ∧ y.cls ≠ "java/lang/invoke/VarHandle" ∧ (parseMethodDescriptor y.desc).map (fun d => d.parameters.length) = some n) (hn1 : As.length = n)
    (hR : fr + 1 ≤ R.frames ∧ 8 + (maxL + 11) + lo ≤ R.locals) (hcs : cells ≤ R.cells ∧ slots ≤ R.slots)
    (isC isR is2 : List Nat) (hC : isC.map (fun i => ws[i]?) = wc.map some) (hnC : va_nd isC = true) (hRr : isR.map (fun i => ws[i]?) = wr.map some) (hn : va_nd isR = true) (hdis : ∀ i ∈ isR, i ∉ isC) (hn2 : va_nd is2 = true) (h2 : is2.map (fun i => (wr ++ w1)[i]?) = ws'.map some)
    (hst : (rest.map fun v => v.category).sum ≤ 8) {st0 st1 : List Value} (hs0 : st0 = As.reverse ++ rest) (hs1 : v.toList ++ rest = st1) (hdg : decode cc pc = .ok (.invokestatic index, 3))
    (kk : ∀ (H1 : Heap) (locs1 : List Loc), kH D A s H1 locs1 ws' → W p l e R s m args below meth c H1 locs1 cells slots Q (F0 m (pc + 3) ls st1)) : W p l e R s m args below meth c H locs cells slots Q (F0 m pc ls st0) := by
  subst hs0
  subst hs1
  exact k_after hE hW isC isR is2 hC hRr hn hdis hn2 h2 (va_runS (As := As) (rest := rest) C hM (va_cwS n C.2.2.2.2 hg hw rfl rfl hd hR) ⟨kPre.blind, kPre.start hE hW isC hC hnC⟩ rfl hn1 hls rfl (lv_room hst) hdg hcs) kk
/-- invokevirtual -/
theorem k_callVR {y : MethodName} {bytes : ByteArray} {maxL : Nat} {ret : Option FieldType} {wds wdr : List Cond} {fr lo : Nat} {b : Nat} {As : List Value} {v : Option Value} {wc : va_W} {Cn : String} {T : u_T} {N ci qb index n : Nat} {fs : List Value}
    (C : CallFix p m c cc nL s args Ts own) (hE : kEn D cI cZ cJ A s) (hW : kH D A s H locs ws) (hls : ls.size = nL) (hM : kMet l D cI cZ cJ y wds fr lo (.ref b :: As) wc H.size v wc)
    (hg : GoodIn Ts (wsV own index Cn y wds)) (hw : wds = Cond.code y bytes maxL ret :: wdr) (hd : y.cls = Cn ∧ y.cls ≠ "java/lang/invoke/MethodHandle" ∧ y.cls ≠ "java/lang/invoke/VarHandle" ∧ (parseMethodDescriptor y.desc).map (fun d => d.parameters.length) = some n) (hn1 : As.length = n)
    (hR : fr + 1 ≤ R.frames ∧ 8 + (maxL + 11) + lo ≤ R.locals) (hcs : cells ≤ R.cells ∧ slots ≤ R.slots) (hci : vwCl[ci]? = some (Cn, T, N)) (hqb : wc[qb]? = some (b, .inr (ci, fs)))
    (isC : List Nat) (hC : isC.map (fun i => ws[i]?) = wc.map some) (hnC : va_nd isC = true)
    (hst : (rest.map fun v => v.category).sum ≤ 8) {st0 st1 : List Value} (hs0 : st0 = As.reverse ++ .ref b :: rest) (hs1 : v.toList ++ rest = st1) (hdg : decode cc pc = .ok (.invokevirtual index, 3))
    (kk : ∀ (H1 : Heap) (locs1 : List Loc), kH D A s H1 locs1 ws → W p l e R s m args below meth c H1 locs1 cells slots Q (F0 m (pc + 3) ls st1)) : W p l e R s m args below meth c H locs cells slots Q (F0 m pc ls st0) := by
  subst hs0
  subst hs1
  have hPs : va_P D vwCl wc H := by
    intro k q hk
    have h1 : (wc.map some)[k]? = some (some q) := by rw [List.getElem?_map, hk]; rfl
    rw [← hC, List.getElem?_map] at h1
    obtain ⟨i, hi, h2⟩ := Option.map_eq_some_iff.mp h1
    exact hW.1 i q h2
  exact k_afterR hE hW isC hC (va_runV (As := As) (rest := rest) C hM (cwV n C.2.2.2.2 hg hw rfl rfl hd hR) ⟨kPre.blind, va_recv hE.1.1 hPs hci hqb, kPre.start hE hW isC hC hnC⟩ rfl hn1 hls rfl (lv_room hst) hdg hcs) kk
/-- invokestatic -/
theorem k_callSR {y : MethodName} {bytes : ByteArray} {maxL : Nat} {ret : Option FieldType} {wds wdr : List Cond} {fr lo : Nat} {As : List Value} {v : Option Value} {wc : va_W} {index n : Nat}
    (C : CallFix p m c cc nL s args Ts own) (hE : kEn D cI cZ cJ A s) (hW : kH D A s H locs ws) (hls : ls.size = nL) (hM : kMet l D cI cZ cJ y wds fr lo As wc H.size v wc)
    (hg : GoodIn Ts (va_wsS own index y wds)) (hw : wds = Cond.code y bytes maxL ret :: wdr) (hd : y.cls ≠ "java/lang/invoke/MethodHandle" ∧ y.cls ≠ "java/lang/invoke/VarHandle" ∧ (parseMethodDescriptor y.desc).map (fun d => d.parameters.length) = some n) (hn1 : As.length = n)
    (hR : fr + 1 ≤ R.frames ∧ 8 + (maxL + 11) + lo ≤ R.locals) (hcs : cells ≤ R.cells ∧ slots ≤ R.slots)
    (isC : List Nat) (hC : isC.map (fun i => ws[i]?) = wc.map some) (hnC : va_nd isC = true)
    (hst : (rest.map fun v => v.category).sum ≤ 8) {st0 st1 : List Value} (hs0 : st0 = As.reverse ++ rest) (hs1 : v.toList ++ rest = st1) (hdg : decode cc pc = .ok (.invokestatic index, 3))
    (kk : ∀ (H1 : Heap) (locs1 : List Loc), kH D A s H1 locs1 ws → W p l e R s m args below meth c H1 locs1 cells slots Q (F0 m (pc + 3) ls st1)) : W p l e R s m args below meth c H locs cells slots Q (F0 m pc ls st0) := by
  subst hs0
  subst hs1
  exact k_afterR hE hW isC hC (va_runS (As := As) (rest := rest) C hM (va_cwS n C.2.2.2.2 hg hw rfl rfl hd hR) ⟨kPre.blind, kPre.start hE hW isC hC hnC⟩ rfl hn1 hls rfl (lv_room hst) hdg hcs) kk
/-- invokestatic of a nest mate's private method, that has no world -/
theorem k_callSN {y : MethodName} {bytes : ByteArray} {maxL : Nat} {ret : Option FieldType} {wds wdr : List Cond} {fr lo : Nat} {As : List Value} {v : Option Value} {index n : Nat}
    (C : CallFix p m c cc nL s args Ts own) (hE : kEn D cI cZ cJ A s) (hW : kH D A s H locs ws) (hls : ls.size = nL) (hM : kMet l D cI cZ cJ y wds fr lo As [] H.size v [])
    (hg : GoodIn Ts wds) (hw : wds = Cond.code y bytes maxL ret :: wdr) (hq : (own, index, y) ∈ kNestM) (hini : Cond.initialized y.cls ∈ Ts) (hstt : Cond.static y ∈ Ts) (hd : y.cls ≠ "java/lang/invoke/MethodHandle" ∧ y.cls ≠ "java/lang/invoke/VarHandle" ∧ (parseMethodDescriptor y.desc).map (fun d => d.parameters.length) = some n) (hn1 : As.length = n)
    (hR : fr + 1 ≤ R.frames ∧ 8 + (maxL + 11) + lo ≤ R.locals) (hcs : cells ≤ R.cells ∧ slots ≤ R.slots)
    (hst : (rest.map fun v => v.category).sum ≤ 8) {st0 st1 : List Value} (hs0 : st0 = As.reverse ++ rest) (hs1 : v.toList ++ rest = st1) (hdg : decode cc pc = .ok (.invokestatic index, 3))
    (kk : ∀ (H1 : Heap) (locs1 : List Loc), kH D A s H1 locs1 ws → W p l e R s m args below meth c H1 locs1 cells slots Q (F0 m (pc + 3) ls st1)) : W p l e R s m args below meth c H locs cells slots Q (F0 m pc ls st0) := by
  subst hs0
  subst hs1
  intro T hT X
  have hr : va_Run p l e R s m args below meth c H locs cells slots 0 0 (F0 m pc ls (As.reverse ++ rest)) rest (kQ v (kB D [] (va_A [] H.size)) (va_A [] H.size) As.toArray) (va_A [] H.size) := va_runSN (As := As) (rest := rest) C hM ⟨va_cnB n C.2.2.2.2 hg hw rfl rfl (hE.1.2.1 _ hq) (C.2.2.2.2 _ hini) hd hR, C.2.2.2.2 _ hstt, trivial⟩ ⟨kPre.blind, kPre.start hE hW [] rfl rfl⟩ rfl hn1 hls rfl (lv_room hst) hdg hcs
  obtain ⟨v0, st₀, t, T', L, h0, X', hL, e1, e2, ⟨⟨hv, hb⟩, hF⟩, st⟩ := hr T hT X
  cases hv
  have hFr : ∀ q, va_A [] H.size q → A q := va_free hW.2.1 hW.2.2 hE.2.2 [] rfl
  obtain ⟨k1, k2, k3⟩ := vx_keep h0 e1 hW.2.2 (fun q _ h => hFr q h) hFr hL hF
  have hP : va_P D vwCl ws T'.heap := hW.1.kept (fun k q hk => k2 q.1 (hW.1 k q hk).lt (fun z => by
    rcases z with ⟨k9, e9, z⟩ | z
    · cases z
    · exact absurd z (Nat.not_le.mpr (hW.1 k q hk).lt)))
  obtain ⟨t2, a1, b1⟩ := kk T'.heap (locs ++ L) ⟨hP, hW.2.1, k3⟩ T' rfl X'
  exact ⟨t2, st t2 a1, b1⟩
/-- getfield -/
theorem k_get {Cn ref : String} {T : u_T} {N ci index : Nat} {fs : List Value} {v : Value} (C : CallFix p m c cc nL s args Ts own) (hE : kEn D cI cZ cJ A s) (hW : kH D A s H locs ws) (hin : ∀ w ∈ u_ws Cn T N, w ∈ Ts) (q0 : Nat) (he : ws[q0]? = some (a, .inr (ci, fs))) (hci : vwCl[ci]? = some (Cn, T, N)) (k : Nat) (hk : k < N)
    (hlink : (Cond.fieldLink own index ref (T k).2.1 (T k).2.2.1).before args s = true) (hsame : ∀ x, s.fieldFound? (T k).1 (T k).2.1 (T k).2.2.1 = some x → s.fieldFound? ref (T k).2.1 (T k).2.2.1 = some x) (hv : fs[k]? = some v) (hdg : decode cc pc = .ok (.getfield index, 3))
    (kk : W p l e R s m args below meth c H locs cells slots Q (F0 m (pc + 3) ls (v :: rest))) : W p l e R s m args below meth c H locs cells slots Q (F0 m pc ls (.ref a :: rest)) :=
  va_get C.1 C.2.1 C.2.2.2.2 hin C.2.2.2.1 hE.1.1 hW.1 q0 he hci k hk hlink hsame hv hdg kk
/-- putfield, of a field that isn't final -/
theorem k_put {Cn ref : String} {T : u_T} {N ci index : Nat} {fs : List Value} {v : Value} {ty0 : Nat → FieldType} {ty : FieldType} (C : CallFix p m c cc nL s args Ts own) (hE : kEn D cI cZ cJ A s) (hW : kH D A s H locs ws) (hin : ∀ w ∈ u_ws Cn T N, w ∈ Ts) (hty : ∀ k, k < N → parseFieldDescriptor (T k).2.2.1 = some (ty0 k)) (hnm : ∀ a, a < N → ∀ b, b < N → a ≠ b → (T a).2.1 ≠ (T b).2.1) (q0 : Nat) (he : ws[q0]? = some (a, .inr (ci, fs))) (hci : vwCl[ci]? = some (Cn, T, N)) (k : Nat) (hk : k < N)
    (hlink : (Cond.fieldLink own index ref (T k).2.1 (T k).2.2.1).before args s = true) (hsame : ∀ x, s.fieldFound? (T k).1 (T k).2.1 (T k).2.2.1 = some x → s.fieldFound? ref (T k).2.1 (T k).2.2.1 = some x) (hfin : (T k).2.2.2 = false) (hd : parseFieldDescriptor (T k).2.2.1 = some ty) (hn : narrow ty v = v) (hfit : fits ty v = true) (hl : k < fs.length) (hset : ws.set q0 (a, .inr (ci, fs.set k v)) = ws') (hdg : decode cc pc = .ok (.putfield index, 3))
    (kk : ∀ (H1 : Heap) (locs1 : List Loc), kH D A s H1 locs1 ws' → W p l e R s m args below meth c H1 locs1 cells slots Q (F0 m (pc + 3) ls rest)) : W p l e R s m args below meth c H locs cells slots Q (F0 m pc ls (v :: .ref a :: rest)) := by
  subst hset
  exact va_put C.1 C.2.1 C.2.2.2.2 hin ty0 hty hnm C.2.2.2.1 hE.1.1 hW.1 hW.2.1 hW.2.2 q0 he hci k hk hlink hsame hfin hd hn hfit hl hdg (fun H1 locs1 h1 h2 h3 => kk H1 locs1 ⟨h1, h2, h3⟩)
/-- putfield of a final field, in its constructor -/
theorem k_putF {Cn ref : String} {T : u_T} {N ci index : Nat} {fs : List Value} {v : Value} {ty0 : Nat → FieldType} {ty : FieldType} (C : CallFix p m c cc nL s args Ts own) (hE : kEn D cI cZ cJ A s) (hW : kH D A s H locs ws) (hin : ∀ w ∈ u_ws Cn T N, w ∈ Ts) (hty : ∀ k, k < N → parseFieldDescriptor (T k).2.2.1 = some (ty0 k)) (hnm : ∀ a, a < N → ∀ b, b < N → a ≠ b → (T a).2.1 ≠ (T b).2.1) (q0 : Nat) (he : ws[q0]? = some (a, .inr (ci, fs))) (hci : vwCl[ci]? = some (Cn, T, N)) (k : Nat) (hk : k < N)
    (hlink : (Cond.fieldLink own index ref (T k).2.1 (T k).2.2.1).before args s = true) (hsame : ∀ x, s.fieldFound? (T k).1 (T k).2.1 (T k).2.2.1 = some x → s.fieldFound? ref (T k).2.1 (T k).2.2.1 = some x) (hfin : (T k).2.2.2 = true) (hi : meth.name = "<init>") (hdecl : (T k).1 = own) (hd : parseFieldDescriptor (T k).2.2.1 = some ty) (hn : narrow ty v = v) (hfit : fits ty v = true) (hl : k < fs.length) (hset : ws.set q0 (a, .inr (ci, fs.set k v)) = ws') (hdg : decode cc pc = .ok (.putfield index, 3))
    (kk : ∀ (H1 : Heap) (locs1 : List Loc), kH D A s H1 locs1 ws' → W p l e R s m args below meth c H1 locs1 cells slots Q (F0 m (pc + 3) ls rest)) : W p l e R s m args below meth c H locs cells slots Q (F0 m pc ls (v :: .ref a :: rest)) := by
  subst hset
  exact va_putF C.1 C.2.1 C.2.2.2.2 hin ty0 hty hnm C.2.2.2.1 hE.1.1 hW.1 hW.2.1 hW.2.2 q0 he hci k hk hlink hsame hfin hi hdecl hd hn hfit hl hdg (fun H1 locs1 h1 h2 h3 => kk H1 locs1 ⟨h1, h2, h3⟩)
/-- arrays -/
theorem k_iald {n : Nat} {f : Nat → Int32} {i v : Int32} (C : CallFix p m c cc nL s args Ts own) (hE : kEn D cI cZ cJ A s) (hW : kH D A s H locs ws) (q0 : Nat) (ha : ws[q0]? = some (a, .inl (cI, n, .inl f))) (hv : gI n f i = some v) (hdg : decode cc pc = .ok (.iaload, 1))
    (kk : W p l e R s m args below meth c H locs cells slots Q (F0 m (pc + 1) ls (.int v :: rest))) : W p l e R s m args below meth c H locs cells slots Q (F0 m pc ls (.int i :: .ref a :: rest)) := by
  obtain ⟨h1, h2⟩ := gI_s hv
  subst h2
  exact va_iald C.1 C.2.1 hE.1.1 hW.1 q0 0 ha rfl h1 hdg kk
theorem k_zald {n : Nat} {f : Nat → Int32} {i v : Int32} (C : CallFix p m c cc nL s args Ts own) (hE : kEn D cI cZ cJ A s) (hW : kH D A s H locs ws) (q0 : Nat) (ha : ws[q0]? = some (a, .inl (cZ, n, .inl f))) (hv : gI n f i = some v) (hdg : decode cc pc = .ok (.baload, 1))
    (kk : W p l e R s m args below meth c H locs cells slots Q (F0 m (pc + 1) ls (.int v :: rest))) : W p l e R s m args below meth c H locs cells slots Q (F0 m pc ls (.int i :: .ref a :: rest)) := by
  obtain ⟨h1, h2⟩ := gI_s hv
  subst h2
  exact va_zald C.1 C.2.1 hE.1.1 hW.1 q0 1 ha rfl h1 hdg kk
theorem k_lald {n : Nat} {f : Nat → Int64} {i : Int32} {v : Int64} (C : CallFix p m c cc nL s args Ts own) (hE : kEn D cI cZ cJ A s) (hW : kH D A s H locs ws) (q0 : Nat) (ha : ws[q0]? = some (a, .inl (cJ, n, .inr (.inl f)))) (hv : gJ n f i = some v) (hdg : decode cc pc = .ok (.laload, 1))
    (kk : W p l e R s m args below meth c H locs cells slots Q (F0 m (pc + 1) ls (.long v :: rest))) : W p l e R s m args below meth c H locs cells slots Q (F0 m pc ls (.int i :: .ref a :: rest)) := by
  obtain ⟨h1, h2⟩ := gJ_s hv
  subst h2
  exact va_lald C.1 C.2.1 hE.1.1 hW.1 q0 2 ha rfl h1 hdg kk
theorem k_iast {n : Nat} {f g : Nat → Int32} {i x : Int32} (C : CallFix p m c cc nL s args Ts own) (hE : kEn D cI cZ cJ A s) (hW : kH D A s H locs ws) (q0 : Nat) (ha : ws[q0]? = some (a, .inl (cI, n, .inl f))) (hv : sI n f i x = some g) (hset : ws.set q0 (a, .inl (cI, n, .inl g)) = ws') (hdg : decode cc pc = .ok (.iastore, 1))
    (kk : ∀ (H1 : Heap) (locs1 : List Loc), kH D A s H1 locs1 ws' → W p l e R s m args below meth c H1 locs1 cells slots Q (F0 m (pc + 1) ls rest)) : W p l e R s m args below meth c H locs cells slots Q (F0 m pc ls (.int x :: .int i :: .ref a :: rest)) := by
  obtain ⟨h1, h2⟩ := sI_s hv
  subst h2
  subst hset
  exact va_iast C.1 C.2.1 hE.1.1 hW.1 hW.2.1 hW.2.2 q0 0 ha rfl h1 hdg (fun H1 locs1 h1 h2 h3 => kk H1 locs1 ⟨h1, h2, h3⟩)
theorem k_zast {n : Nat} {f g : Nat → Int32} {i x : Int32} (C : CallFix p m c cc nL s args Ts own) (hE : kEn D cI cZ cJ A s) (hW : kH D A s H locs ws) (q0 : Nat) (ha : ws[q0]? = some (a, .inl (cZ, n, .inl f))) (hv : sZ n f i x = some g) (hset : ws.set q0 (a, .inl (cZ, n, .inl g)) = ws') (hdg : decode cc pc = .ok (.bastore, 1))
    (kk : ∀ (H1 : Heap) (locs1 : List Loc), kH D A s H1 locs1 ws' → W p l e R s m args below meth c H1 locs1 cells slots Q (F0 m (pc + 1) ls rest)) : W p l e R s m args below meth c H locs cells slots Q (F0 m pc ls (.int x :: .int i :: .ref a :: rest)) := by
  obtain ⟨h1, h2⟩ := sZ_s hv
  subst h2
  subst hset
  exact va_zast C.1 C.2.1 hE.1.1 hW.1 hW.2.1 hW.2.2 q0 1 ha rfl h1 hdg (fun H1 locs1 h1 h2 h3 => kk H1 locs1 ⟨h1, h2, h3⟩)
theorem k_last {n : Nat} {f g : Nat → Int64} {i : Int32} {x : Int64} (C : CallFix p m c cc nL s args Ts own) (hE : kEn D cI cZ cJ A s) (hW : kH D A s H locs ws) (q0 : Nat) (ha : ws[q0]? = some (a, .inl (cJ, n, .inr (.inl f)))) (hv : sJ n f i x = some g) (hset : ws.set q0 (a, .inl (cJ, n, .inr (.inl g))) = ws') (hdg : decode cc pc = .ok (.lastore, 1))
    (kk : ∀ (H1 : Heap) (locs1 : List Loc), kH D A s H1 locs1 ws' → W p l e R s m args below meth c H1 locs1 cells slots Q (F0 m (pc + 1) ls rest)) : W p l e R s m args below meth c H locs cells slots Q (F0 m pc ls (.long x :: .int i :: .ref a :: rest)) := by
  obtain ⟨h1, h2⟩ := sJ_s hv
  subst h2
  subst hset
  exact va_last C.1 C.2.1 hE.1.1 hW.1 hW.2.1 hW.2.2 q0 2 ha rfl h1 hdg (fun H1 locs1 h1 h2 h3 => kk H1 locs1 ⟨h1, h2, h3⟩)
theorem k_alen {x : vp_A} {v : Int32} (C : CallFix p m c cc nL s args Ts own) (hE : kEn D cI cZ cJ A s) (hW : kH D A s H locs ws) (q0 : Nat) (ha : ws[q0]? = some (a, .inl (cI, x))) (hv : Int32.ofNat x.1 = v) (hdg : decode cc pc = .ok (.arraylength, 1))
    (kk : W p l e R s m args below meth c H locs cells slots Q (F0 m (pc + 1) ls (.int v :: rest))) : W p l e R s m args below meth c H locs cells slots Q (F0 m pc ls (.ref a :: rest)) :=
  va_alen C.1 C.2.1 hE.1.1 hW.1 q0 0 ha rfl hv hdg kk
/-- division -/
theorem k_idiv {x y v : Int32} (C : CallFix p m c cc nL s args Ts own) (hv : dvI x y = some v) (hdg : decode cc pc = .ok (.idiv, 1)) (kk : W p l e R s m args below meth c H locs cells slots Q (F0 m (pc + 1) ls (.int v :: rest))) : W p l e R s m args below meth c H locs cells slots Q (F0 m pc ls (.int y :: .int x :: rest)) := by
  obtain ⟨h1, h2⟩ := dvI_s hv
  subst h2
  exact lv_idiv C.1 C.2.1 hdg h1 kk
theorem k_irem {x y v : Int32} (C : CallFix p m c cc nL s args Ts own) (hv : rmI x y = some v) (hdg : decode cc pc = .ok (.irem, 1)) (kk : W p l e R s m args below meth c H locs cells slots Q (F0 m (pc + 1) ls (.int v :: rest))) : W p l e R s m args below meth c H locs cells slots Q (F0 m pc ls (.int y :: .int x :: rest)) := by
  obtain ⟨h1, h2⟩ := rmI_s hv
  subst h2
  exact lv_irem C.1 C.2.1 hdg h1 kk
theorem k_ldiv {x y v : Int64} (C : CallFix p m c cc nL s args Ts own) (hv : dvL x y = some v) (hdg : decode cc pc = .ok (.ldiv, 1)) (kk : W p l e R s m args below meth c H locs cells slots Q (F0 m (pc + 1) ls (.long v :: rest))) : W p l e R s m args below meth c H locs cells slots Q (F0 m pc ls (.long y :: .long x :: rest)) := by
  obtain ⟨h1, h2⟩ := dvL_s hv
  subst h2
  exact lv_ldiv C.1 C.2.1 hdg h1 kk
theorem k_lrem {x y v : Int64} (C : CallFix p m c cc nL s args Ts own) (hv : rmL x y = some v) (hdg : decode cc pc = .ok (.lrem, 1)) (kk : W p l e R s m args below meth c H locs cells slots Q (F0 m (pc + 1) ls (.long v :: rest))) : W p l e R s m args below meth c H locs cells slots Q (F0 m pc ls (.long y :: .long x :: rest)) := by
  obtain ⟨h1, h2⟩ := rmL_s hv
  subst h2
  exact lv_lrem C.1 C.2.1 hdg h1 kk
/-- System.arraycopy -/
theorem k_copy {a0 : Nat} {n0 n1 : Nat} {f g r : Nat → Int32} {sp dp n : Int32} {index : Nat} (C : CallFix p m c cc nL s args Ts own) (hE : kEn D cI cZ cJ A s) (hW : kH D A s H locs ws) (hls : ls.size = nL) (hlink : (Cond.methodLink own index arraycopyName).before args s = true) (hnat : (Cond.native arraycopyName).before args s = true) (hstat : (Cond.static arraycopyName).before args s = true) (hini : (Cond.initialized "java/lang/System").before args s = true)
    (q0 q1 : Nat) (ha0 : ws[q0]? = some (a0, .inl (cI, n0, .inl f))) (ha1 : ws[q1]? = some (a, .inl (cI, n1, .inl g))) (hv : cpI n0 n1 f g sp dp n = some r) (hset : ws.set q1 (a, .inl (cI, n1, .inl r)) = ws')
    (hframes : 1 ≤ R.frames) (hlocals : (rest.map fun v => v.category).sum + (nativeFrameWords "java/lang/System" "arraycopy" 5 + 11) ≤ R.locals) (hdg : decode cc pc = .ok (.invokestatic index, 3))
    (kk : ∀ (H1 : Heap) (locs1 : List Loc), kH D A s H1 locs1 ws' → W p l e R s m args below meth c H1 locs1 cells slots Q (F0 m (pc + 3) ls rest)) : W p l e R s m args below meth c H locs cells slots Q (F0 m pc ls (.int n :: .int dp :: .ref a :: .int sp :: .ref a0 :: rest)) := by
  obtain ⟨h1, h2, h3, h4, h5, h6⟩ := cpI_s hv
  subst h6
  subst hset
  exact va_copyi C.1 C.2.1 (C.2.2.1.trans hls.symm) C.2.2.2.1 hlink hnat hstat hini hE.1.1 hW.1 hW.2.1 hW.2.2 q0 q1 0 0 ha0 ha1 rfl rfl rfl h1 h2 h3 h4 h5 (fun _ _ => rfl) hframes hlocals hdg (fun H1 locs1 h1 h2 h3 => kk H1 locs1 ⟨h1, h2, h3⟩)
/-- Math.max, Math.min -/
theorem k_mmax {x y : Int32} {index : Nat} (C : CallFix p m c cc nL s args Ts own) (hls : ls.size = nL) (hlink : Cond.methodLink own index Lib.Math.max.name ∈ Ts) (hstat : Cond.static Lib.Math.max.name ∈ Ts) (hini : Cond.initialized "java/lang/Math" ∈ Ts) (hcode : Cond.code Lib.Math.max.name Lib.Math.max.code 2 (some .int) ∈ Ts)
    (hframes : 1 ≤ R.frames) (hlocals : (rest.map fun v => v.category).sum + 13 ≤ R.locals) (hc : cells ≤ R.cells) (hs : slots ≤ R.slots) (hdg : decode cc pc = .ok (.invokestatic index, 3))
    (kk : W p l e R s m args below meth c H locs cells slots Q (F0 m (pc + 3) ls (.int (if x < y then y else x) :: rest))) : W p l e R s m args below meth c H locs cells slots Q (F0 m pc ls (.int y :: .int x :: rest)) :=
  va_mmax C.1 C.2.1 (C.2.2.1.trans hls.symm) C.2.2.2.1 (C.2.2.2.2 _ hlink) (C.2.2.2.2 _ hstat) (C.2.2.2.2 _ hini) (C.2.2.2.2 _ hcode) hframes hlocals hc hs hdg kk
theorem k_mmin {x y : Int32} {index : Nat} (C : CallFix p m c cc nL s args Ts own) (hls : ls.size = nL) (hlink : Cond.methodLink own index Lib.Math.min.name ∈ Ts) (hstat : Cond.static Lib.Math.min.name ∈ Ts) (hini : Cond.initialized "java/lang/Math" ∈ Ts) (hcode : Cond.code Lib.Math.min.name Lib.Math.min.code 2 (some .int) ∈ Ts)
    (hframes : 1 ≤ R.frames) (hlocals : (rest.map fun v => v.category).sum + 13 ≤ R.locals) (hc : cells ≤ R.cells) (hs : slots ≤ R.slots) (hdg : decode cc pc = .ok (.invokestatic index, 3))
    (kk : W p l e R s m args below meth c H locs cells slots Q (F0 m (pc + 3) ls (.int (if y < x then y else x) :: rest))) : W p l e R s m args below meth c H locs cells slots Q (F0 m pc ls (.int y :: .int x :: rest)) :=
  va_mmin C.1 C.2.1 (C.2.2.1.trans hls.symm) C.2.2.2.1 (C.2.2.2.2 _ hlink) (C.2.2.2.2 _ hstat) (C.2.2.2.2 _ hini) (C.2.2.2.2 _ hcode) hframes hlocals hc hs hdg kk
/-- returns of a method that can't throw -/
theorem k_ret {v : Option Value} (hW : kH D A s H locs ws) : ∀ t : State, t.heap = H → s.WarmedH t.vm → kQ v (kB D ws A) A args s (.returned v) t := fun t ht _ => ⟨⟨rfl, by show va_P D vwCl ws t.heap; rw [ht]; exact hW.1, hW.2.1⟩, hW.2.2.F ht⟩
theorem k_iret {v : Int32} (C : CallFix p m c cc nL s args Ts own) (hlocks : meth.locks = false) (hr : meth.sig.returnType = some .int) (hW : kH D A s H locs ws) (hQ : Q = MQ below (kQ (some (.int v)) (kB D ws A) A) args s cells slots A) (hdg : decode cc pc = .ok (.ireturn, 1)) : W p l e R s m args below meth c H locs cells slots Q (F0 m pc ls [.int v]) := by
  subst hQ
  exact W.iret C.1 C.2.1 hr (k_ret hW) hW.2.2.2.2 hdg hlocks
theorem k_zret {v : Int32} (C : CallFix p m c cc nL s args Ts own) (hlocks : meth.locks = false) (hr : meth.sig.returnType = some .boolean) (hW : kH D A s H locs ws) (hv : narrow .boolean (.int v) = .int v) (hQ : Q = MQ below (kQ (some (.int v)) (kB D ws A) A) args s cells slots A) (hdg : decode cc pc = .ok (.ireturn, 1)) : W p l e R s m args below meth c H locs cells slots Q (F0 m pc ls [.int v]) := by
  subst hQ
  exact W.zret C.1 C.2.1 hr hv (k_ret hW) hW.2.2.2.2 hdg hlocks
theorem k_lret {v : Int64} (C : CallFix p m c cc nL s args Ts own) (hlocks : meth.locks = false) (hr : meth.sig.returnType = some .long) (hW : kH D A s H locs ws) (hQ : Q = MQ below (kQ (some (.long v)) (kB D ws A) A) args s cells slots A) (hdg : decode cc pc = .ok (.lreturn, 1)) : W p l e R s m args below meth c H locs cells slots Q (F0 m pc ls [.long v]) := by
  subst hQ
  exact W.lret C.1 C.2.1 hr (k_ret hW) hW.2.2.2.2 hdg hlocks
theorem k_vret (C : CallFix p m c cc nL s args Ts own) (hlocks : meth.locks = false) (hr : meth.sig.returnType = none) (hW : kH D A s H locs ws) (hQ : Q = MQ below (kQ none (kB D ws A) A) args s cells slots A) (hdg : decode cc pc = .ok (.return_, 1)) : W p l e R s m args below meth c H locs cells slots Q (F0 m pc ls []) := by
  subst hQ
  exact W.vret C.1 C.2.1 hr (k_ret hW) hW.2.2.2.2 hdg hlocks
theorem k_aret {n : String} (C : CallFix p m c cc nL s args Ts own) (hlocks : meth.locks = false) (hr : meth.sig.returnType = some (.object n)) (hW : kH D A s H locs ws) (hQ : Q = MQ below (kQ (some (.ref a)) (kB D ws A) A) args s cells slots A) (hdg : decode cc pc = .ok (.areturn, 1)) : W p l e R s m args below meth c H locs cells slots Q (F0 m pc ls [.ref a]) := by
  subst hQ
  exact W.aret C.1 C.2.1 hr (Or.inl ⟨n, rfl⟩) (Or.inr ⟨a, rfl⟩) (k_ret hW) hW.2.2.2.2 hdg hlocks
end KW
/-- a body's beginning -/
theorem kM_of {l : Launch} {D : va_G} {cI cZ cJ : ClassId} {y : MethodName} {wds wdr : List Cond} {fr lo : Nat} {av : List Value} {ws : va_W} {sz : Nat} {v : Option Value} {ws' : va_W} {cc : ByteArray} {maxL : Nat} {ret : Option FieldType} (hy : plainName y.cls = true) (hw : wds = Cond.code y cc maxL ret :: wdr) (hlen : (lg_sl av).length ≤ maxL)
    (body : ∀ (p : Program) (e : Env) (s : State) (m : MethodId) (args : Array Value) (below : List Frame) (meth : Method) (c : Code) (A : Nat → Prop) (Q : State → Prop) (ls : Array Slot), Q = MQ below (kQ v (kB D ws' A) A) args s 0 0 A → CallFix p m c cc maxL s args wds y.cls → meth.locks = false → meth.sig.returnType = ret → kEn D cI cZ cJ A s → kH D A s s.heap [] ws → lv_has ls maxL (lv_args 0 av) → W p l e (kRm fr lo 0 0) s m args below meth c s.heap [] 0 0 Q (F0 m 0 ls [])) :
    kMet l D cI cZ cJ y wds fr lo av ws sz v ws' := by
  refine Met.ofW (cc := cc) (maxL := maxL) (ret := ret) hy hw ?_
  intro p e s m args below meth c s₁ B hml hv
  obtain ⟨rfl, hsz, hP, hV, hZ, hD0⟩ := hv
  subst hsz
  have hl := lv_entry av (n := maxL) hlen
  rw [lg_entry_eq]
  exact body p e s m av.toArray below meth c _ _ _ rfl ⟨B.exec, B.bytes, hml, findClass_of_methodNamed B.named, atoms_spec (ws := wds) B.pre⟩ B.notSynchronized B.returns ⟨hV, hZ, fun q h => Or.inr h⟩ ⟨hP, hD0.self, va_S.rf⟩ hl
