-- contracts in one form: a method at a world ws, an answer v, the world ws' behind it
abbrev kTy (cI cZ cJ : ClassId) : List (ClassId × FieldType) := [(cI, .int), (cZ, .boolean), (cJ, .long)]
/-- private members of nest mates that are called or read -/
def kNestM : List (String × Nat × MethodName) := [(RX9, 11, yX2_init), (RX9, 21, yX3_init), (RX9, 28, yX8_init), (RX9, 44, yX6_init), (RX6, 9, yX2_init), (RX9, 54, yX1_init), (RX9, 61, yX0_init), (RX7, 51, yX9_placeOf), (RX7, 61, yX9_rowOf), (RX7, 64, yX9_columnOf), (RX1, 53, yX9_placeOf), (RX5, 35, yX9_rowOf), (RX5, 38, yX9_columnOf)]
def kTexts : List (Nat × String) := [(312, "an argument is out of its range"), (76, "the text is full"), (95, "the text is not a text of the tables"), (305, "there is no such table"), (308, "there is no such cell"), (317, "the table has no gap"), (176, "no state is remembered"), (263, "the script is negative or too long"), (310, "there is no such slot"), (297, "nothing is saved in the slot")]
/-- what holds of the tables, at every state -/
def kV (D : va_G) (cI cZ cJ : ClassId) (U : State) : Prop :=
  va_K D vwCl (kTy cI cZ cJ) U ∧ (∀ q ∈ kNestM, va_Nw (.methodLinkNest q.1 q.2.1 q.2.2 RX9) U) ∧ va_Nw (.fieldLinkNest RX0 25 RX9 "PRIMES" "[I" RX9) U ∧ ∀ q ∈ kTexts, ∃ sa : Nat, vk_R RX9 q.1 q.2 sa U
def kPrimes : Nat → Int32 := fun k => match k with
  | 0 => 2
  | 1 => 3
  | 2 => 5
  | 3 => 7
  | 4 => 11
  | 5 => 13
  | 6 => 17
  | 7 => 19
  | 8 => 23
  | 9 => 29
  | _ => 31
/-- the statics that are read: nobody writes them -/
def kZ (A : Nat → Prop) (U : State) (H : Heap) : Prop :=
  vx_Zq Bundle.tN "UNASSIGNED_STACK" Bundle.steD A U H ∧ vx_Zq Bundle.tN "SUPPRESSED_SENTINEL" Bundle.listD A U H ∧ ∃ t : Nat, va_Z RX9 "PRIMES" "[I" (.ref t) A U H ∧ va_T .int t 11 (fun k => .int (kPrimes k)) A U H
theorem kV.warm {D : va_G} {cI cZ cJ : ClassId} {s U : State} (hW : s.WarmedH U.vm) (h : kV D cI cZ cJ s) : kV D cI cZ cJ U :=
  ⟨va_K.moved hW.alike h.1, fun q hq => va_Nw.warmM hW (h.2.1 q hq), va_Nw.warmF hW h.2.2.1, fun q hq => by obtain ⟨sa, h1⟩ := h.2.2.2 q hq; exact ⟨sa, vk_R.warm hW h1⟩⟩
theorem kV.call {D : va_G} {cI cZ cJ : ClassId} {U : State} {g : JFrame} {mk : MethodId} {a : Array Value} (h : kV D cI cZ cJ U) : kV D cI cZ cJ (U.calling g mk a) :=
  ⟨va_K.moved (u := U) (U := U.calling g mk a) (Vm.Alike.refl U.vm) h.1, fun q hq => va_Nw.same rfl (u := U) (U := U.calling g mk a) rfl (h.2.1 q hq), va_Nw.same rfl (u := U) (U := U.calling g mk a) rfl h.2.2.1, fun q hq => by obtain ⟨sa, h1⟩ := h.2.2.2 q hq; exact ⟨sa, vk_R.same (u := U) (U := U.calling g mk a) rfl h1⟩⟩
theorem kZ.narrow {A B : Nat → Prop} {U : State} {H : Heap} (h : kZ A U H) (hAB : ∀ q, B q → A q) : kZ B U H := by
  obtain ⟨h1, h2, t, h3, h4⟩ := h
  exact ⟨h1.narrow hAB, h2.narrow hAB, t, h3.narrow hAB, h4.narrow hAB⟩
theorem kZ.kept {A : Nat → Prop} {U : State} {H H1 : Heap} (h : kZ A U H) (hq : ∀ a : Nat, a < H.size → ¬ A a → H1[a]? = H[a]?) : kZ A U H1 := by
  obtain ⟨h1, h2, t, h3, h4⟩ := h
  exact ⟨h1.kept hq, h2.kept hq, t, h3.kept hq, h4.kept hq⟩
theorem kZ.moved {A : Nat → Prop} {u U : State} {H : Heap} (hvm : u.vm.Alike U.vm) (h : kZ A u H) : kZ A U H := by
  obtain ⟨h1, h2, t, h3, h4⟩ := h
  exact ⟨h1.moved hvm, h2.moved hvm, t, h3.moved hvm, h4.moved hvm⟩
/-- a method's start -/
def kPre (D : va_G) (cI cZ cJ : ClassId) (ws : va_W) (sz : Nat) (U : State) : Prop :=
  U.heap.size = sz ∧ va_P D vwCl ws U.heap ∧ kV D cI cZ cJ U ∧ kZ (va_A ws sz) U U.heap ∧ va_D (fun _ => True) ws
/-- the world behind a method -/
def kB (D : va_G) (ws : va_W) (A : Nat → Prop) (t : State) : Prop := va_P D vwCl ws t.heap ∧ va_D A ws
/-- a method's end: the answer v -/
def kQ (v : Option Value) (B : State → Prop) (A : Nat → Prop) : Array Value → State → Outcome → State → Prop := fun _ st oc t => (oc = .returned v ∧ B t) ∧ va_F A st t
abbrev kRm (fr lo mc ms : Nat) : Room := { frames := fr, cells := mc, slots := ms, locals := lo }
/-- the contract of a method that returns -/
def kMet (l : Launch) (D : va_G) (cI cZ cJ : ClassId) (y : MethodName) (wds : List Cond) (fr lo : Nat) (av : List Value) (ws : va_W) (sz : Nat) (v : Option Value) (ws' : va_W) : Prop :=
  Met l y wds (kRm fr lo 0 0) (va_Pc av (kPre D cI cZ cJ ws sz)) (kQ v (kB D ws' (va_A ws sz)) (va_A ws sz)) 0 0 (va_A ws sz)
/-- the contract of a constructor: mc cells of ms slots come; what is behind it, by B -/
def kMetN (l : Launch) (D : va_G) (cI cZ cJ : ClassId) (y : MethodName) (wds : List Cond) (fr lo mc ms : Nat) (av : List Value) (ws : va_W) (sz : Nat) (B : (Nat → Prop) → State → Prop) : Prop :=
  Met l y wds (kRm fr lo mc ms) (va_Pc av (kPre D cI cZ cJ ws sz)) (kQ none (B (va_A ws sz)) (va_A ws sz)) mc ms (va_A ws sz)
/-- the ends of a method that may throw: thrown (which, the world) or returned (what, the world) -/
abbrev kO : Type := (Nat × va_W) ⊕ (Option Value × va_W)
def kEx (k : Nat) : String := match k with
  | 1 => "java/lang/IllegalArgumentException"
  | 2 => "java/lang/IllegalStateException"
  | _ => "java/lang/IndexOutOfBoundsException"
def kc (o : kO) : Nat := match o with
  | .inl _ => 1
  | .inr _ => 0
def ks (o : kO) : Nat := match o with
  | .inl _ => 6
  | .inr _ => 0
def kXQ (D : va_G) (A : Nat → Prop) (o : kO) : Array Value → State → Outcome → State → Prop := fun a st oc t => match o with
  | .inl _ => False
  | .inr (v, w) => kQ v (kB D w A) A a st oc t
def kXC (D : va_G) (A : Nat → Prop) (o : kO) : String → State → State → Prop := fun E st t => match o with
  | .inl (k, w) => E = kEx k ∧ kB D w A t ∧ va_F A st t
  | .inr _ => False
def kMetX (l : Launch) (D : va_G) (cI cZ cJ : ClassId) (y : MethodName) (wds : List Cond) (fr lo : Nat) (av : List Value) (ws : va_W) (sz : Nat) (o : kO) : Prop :=
  vx_Met l y wds (kRm fr lo (kc o) (ks o)) (va_Pc av (kPre D cI cZ cJ ws sz)) (kXQ D (va_A ws sz) o) (kXC D (va_A ws sz) o) (kc o) (ks o) (va_A ws sz)
/-- it returned: an ordinary contract -/
theorem kMetX.ret {l : Launch} {D : va_G} {cI cZ cJ : ClassId} {y : MethodName} {wds : List Cond} {fr lo : Nat} {av : List Value} {ws : va_W} {sz : Nat} {v : Option Value} {w : va_W} (h : kMetX l D cI cZ cJ y wds fr lo av ws sz (.inr (v, w))) : kMet l D cI cZ cJ y wds fr lo av ws sz v w := by
  intro p e h1 h2 h3 s m args below h4 h5 h6 h7
  obtain ⟨t, o, a1, a2, a3, a4⟩ := h p e h1 h2 h3 s m args below h4 h5 h6 h7
  refine ⟨t, o, a1, a2, a3, ?_⟩
  rcases a4 with ⟨b1, b2⟩ | ⟨q, rfl, E, ce, L, b, -⟩
  · exact ⟨b1, b2⟩
  · exact b.elim
theorem kPre.blind {D : va_G} {cI cZ cJ : ClassId} {ws : va_W} {sz : Nat} {av : List Value} : FrameBlind (va_Pc av (kPre D cI cZ cJ ws sz)) := fun a U g mk q => by
  obtain ⟨q0, q1, q2, q3, q4, q5⟩ := q
  exact ⟨q0, q1, q2, q3.call, q4.moved (u := U) (U := U.calling g mk a) (Vm.Alike.refl U.vm), q5⟩
/-- the cells that are held, what may be written, what was written -/
def kH (D : va_G) (A : Nat → Prop) (s : State) (H : Heap) (locs : List Loc) (ws : va_W) : Prop := va_P D vwCl ws H ∧ va_D A ws ∧ va_S A s.heap H locs
/-- what stands through a method's body -/
def kEn (D : va_G) (cI cZ cJ : ClassId) (A : Nat → Prop) (s : State) : Prop := kV D cI cZ cJ s ∧ kZ A s s.heap ∧ ∀ q, s.heap.size ≤ q → A q
section KW
variable {p : Program} {l : Launch} {e : Env} {R : Room} {s : State} {m : MethodId} {args : Array Value} {below : List Frame} {meth : Method} {c : Code} {H : Heap} {locs : List Loc} {cells slots : Nat} {Q : State → Prop}
variable {cc : ByteArray} {pc : Nat} {ls : Array Slot} {rest : List Value} {D : va_G} {cI cZ cJ : ClassId} {A : Nat → Prop} {a : Nat} {ws ws' : va_W} {nL : Nat} {Ts : List Cond} {own : String}
/-- the callee's start, out of the caller's -/
theorem kPre.start {wc : va_W} {av : List Value} (hE : kEn D cI cZ cJ A s) (hW : kH D A s H locs ws) (isC : List Nat) (hC : isC.map (fun i => ws[i]?) = wc.map some) (hn : va_nd isC = true) : ∀ U : State, U.heap = H → s.WarmedH U.vm → va_Pc av (kPre D cI cZ cJ wc H.size) av.toArray U := by
  intro U hU hWm
  have hF := va_free hW.2.1 hW.2.2 hE.2.2 isC hC
  have hPs : va_P D vwCl wc H := by
    intro k q hk
    have h1 : (wc.map some)[k]? = some (some q) := by rw [List.getElem?_map, hk]; rfl
    rw [← hC, List.getElem?_map] at h1
    obtain ⟨i, hi, h2⟩ := Option.map_eq_some_iff.mp h1
    exact hW.1 i q h2
  refine ⟨rfl, by rw [hU], by rw [hU]; exact hPs, hE.1.warm hWm, ?_, (hW.2.1.sub isC hn hC).weaken (fun _ _ _ _ => trivial)⟩
  rw [hU]
  exact ((hE.2.1.kept (fun a h1 h2 => hW.2.2.2.1 a h1 h2)).narrow hF).moved hWm.alike
/-- behind a call that returned: the world is put together again, in the order that is asked -/
theorem k_after {v : Option Value} {wc wr w1 : va_W} {st0 : List Value} {mc ms : Nat} {aa : Array Value} (hE : kEn D cI cZ cJ A s) (hW : kH D A s H locs ws) (isC isR : List Nat) (is2 : List Nat)
    (hC : isC.map (fun i => ws[i]?) = wc.map some) (hR : isR.map (fun i => ws[i]?) = wr.map some) (hn : va_nd isR = true) (hdis : ∀ i ∈ isR, i ∉ isC) (hn2 : va_nd is2 = true) (h2 : is2.map (fun i => (wr ++ w1)[i]?) = ws'.map some)
    (hr : va_Run p l e R s m args below meth c H locs cells slots mc ms (F0 m pc ls st0) rest (kQ v (kB D w1 (va_A wc H.size)) (va_A wc H.size) aa) (va_A wc H.size))
    (kk : ∀ (H1 : Heap) (locs1 : List Loc), kH D A s H1 locs1 ws' → W p l e R s m args below meth c H1 locs1 (cells + mc) (slots + ms) Q (F0 m (pc + 3) ls (v.toList ++ rest))) : W p l e R s m args below meth c H locs cells slots Q (F0 m pc ls st0) := by
  intro T hT X
  obtain ⟨v0, st₀, t, T', L, h0, X', hL, e1, e2, ⟨⟨hv, hb⟩, hF⟩, st⟩ := hr T hT X
  cases hv
  have hFr := va_free hW.2.1 hW.2.2 hE.2.2 isC hC
  obtain ⟨k1, k2, k3⟩ := vx_keep h0 e1 hW.2.2 (fun q _ h => hFr q h) hFr hL hF
  have hP1 : va_P D vwCl w1 T'.heap := by rw [e1]; exact hb.1
  obtain ⟨hP, hD⟩ := va_join hW.1 hW.2.1 isC isR hC hR hn hdis k2 hFr hP1 hb.2
  have hP2 : va_P D vwCl ws' T'.heap := by
    intro k q hk
    have h3 : (ws'.map some)[k]? = some (some q) := by rw [List.getElem?_map, hk]; rfl
    rw [← h2, List.getElem?_map] at h3
    obtain ⟨i, hi, h4⟩ := Option.map_eq_some_iff.mp h3
    exact hP i q h4
  obtain ⟨t2, a1, b1⟩ := kk T'.heap (locs ++ L) ⟨hP2, hD.sub is2 hn2 h2, k3⟩ T' rfl X'
  exact ⟨t2, st t2 a1, b1⟩
/-- invokevirtual -/
theorem k_callV {y : MethodName} {bytes : ByteArray} {maxL : Nat} {ret : Option FieldType} {wds wdr : List Cond} {fr lo : Nat} {b : Nat} {As : List Value} {v : Option Value} {wc wr w1 : va_W} {Cn : String} {T : u_T} {N ci qb index n : Nat} {fs : List Value}
    (C : CallFix p m c cc nL s args Ts own) (hE : kEn D cI cZ cJ A s) (hW : kH D A s H locs ws) (hls : ls.size = nL) (hM : kMet l D cI cZ cJ y wds fr lo (.ref b :: As) wc H.size v w1)
    (hg : GoodIn Ts (wsV own index Cn y wds)) (hw : wds = Cond.code y bytes maxL ret :: wdr) (hd : y.cls = Cn ∧ y.cls ≠ "java/lang/invoke/MethodHandle" ∧ y.cls ≠ "java/lang/invoke/VarHandle" ∧ (parseMethodDescriptor y.desc).map (fun d => d.parameters.length) = some n) (hn1 : As.length = n)
    (hR : fr + 1 ≤ R.frames ∧ 8 + (maxL + 11) + lo ≤ R.locals) (hcs : cells ≤ R.cells ∧ slots ≤ R.slots) (hci : vwCl[ci]? = some (Cn, T, N)) (hqb : wc[qb]? = some (b, .inr (ci, fs)))
    (isC isR is2 : List Nat) (hC : isC.map (fun i => ws[i]?) = wc.map some) (hnC : va_nd isC = true) (hRr : isR.map (fun i => ws[i]?) = wr.map some) (hn : va_nd isR = true) (hdis : ∀ i ∈ isR, i ∉ isC) (hn2 : va_nd is2 = true) (h2 : is2.map (fun i => (wr ++ w1)[i]?) = ws'.map some)
    (hst : (rest.map fun v => v.category).sum ≤ 8) (hdg : decode cc pc = .ok (.invokevirtual index, 3))
    (kk : ∀ (H1 : Heap) (locs1 : List Loc), kH D A s H1 locs1 ws' → W p l e R s m args below meth c H1 locs1 cells slots Q (F0 m (pc + 3) ls (v.toList ++ rest))) : W p l e R s m args below meth c H locs cells slots Q (F0 m pc ls (As.reverse ++ .ref b :: rest)) := by
  have hPs : va_P D vwCl wc H := by
    intro k q hk
    have h1 : (wc.map some)[k]? = some (some q) := by rw [List.getElem?_map, hk]; rfl
    rw [← hC, List.getElem?_map] at h1
    obtain ⟨i, hi, h2⟩ := Option.map_eq_some_iff.mp h1
    exact hW.1 i q h2
  exact k_after hE hW isC isR is2 hC hRr hn hdis hn2 h2 (va_runV (As := As) (rest := rest) C hM (cwV n C.2.2.2.2 hg hw rfl rfl hd hR) ⟨kPre.blind, va_recv hE.1.1 hPs hci hqb, kPre.start hE hW isC hC hnC⟩ rfl hn1 hls rfl (lv_room hst) hdg hcs) kk
/-- invokestatic -/
theorem k_callS {y : MethodName} {bytes : ByteArray} {maxL : Nat} {ret : Option FieldType} {wds wdr : List Cond} {fr lo : Nat} {As : List Value} {v : Option Value} {wc wr w1 : va_W} {index n : Nat}
    (C : CallFix p m c cc nL s args Ts own) (hE : kEn D cI cZ cJ A s) (hW : kH D A s H locs ws) (hls : ls.size = nL) (hM : kMet l D cI cZ cJ y wds fr lo As wc H.size v w1)
    (hg : GoodIn Ts (va_wsS own index y wds)) (hw : wds = Cond.code y bytes maxL ret :: wdr) (hd : y.cls ≠ "java/lang/invoke/MethodHandle" ∧ y.cls ≠ "java/lang/invoke/VarHandle" ∧ (parseMethodDescriptor y.desc).map (fun d => d.parameters.length) = some n) (hn1 : As.length = n)
    (hR : fr + 1 ≤ R.frames ∧ 8 + (maxL + 11) + lo ≤ R.locals) (hcs : cells ≤ R.cells ∧ slots ≤ R.slots)
    (isC isR is2 : List Nat) (hC : isC.map (fun i => ws[i]?) = wc.map some) (hnC : va_nd isC = true) (hRr : isR.map (fun i => ws[i]?) = wr.map some) (hn : va_nd isR = true) (hdis : ∀ i ∈ isR, i ∉ isC) (hn2 : va_nd is2 = true) (h2 : is2.map (fun i => (wr ++ w1)[i]?) = ws'.map some)
    (hst : (rest.map fun v => v.category).sum ≤ 8) (hdg : decode cc pc = .ok (.invokestatic index, 3))
    (kk : ∀ (H1 : Heap) (locs1 : List Loc), kH D A s H1 locs1 ws' → W p l e R s m args below meth c H1 locs1 cells slots Q (F0 m (pc + 3) ls (v.toList ++ rest))) : W p l e R s m args below meth c H locs cells slots Q (F0 m pc ls (As.reverse ++ rest)) :=
  k_after hE hW isC isR is2 hC hRr hn hdis hn2 h2 (va_runS (As := As) (rest := rest) C hM (va_cwS n C.2.2.2.2 hg hw rfl rfl hd hR) ⟨kPre.blind, kPre.start hE hW isC hC hnC⟩ rfl hn1 hls rfl (lv_room hst) hdg hcs) kk
/-- invokestatic of a nest mate's private method, that has no world -/
theorem k_callSN {y : MethodName} {bytes : ByteArray} {maxL : Nat} {ret : Option FieldType} {wds wdr : List Cond} {fr lo : Nat} {As : List Value} {v : Option Value} {index n : Nat}
    (C : CallFix p m c cc nL s args Ts own) (hE : kEn D cI cZ cJ A s) (hW : kH D A s H locs ws) (hls : ls.size = nL) (hM : kMet l D cI cZ cJ y wds fr lo As [] H.size v [])
    (hg : GoodIn Ts wds) (hw : wds = Cond.code y bytes maxL ret :: wdr) (hq : (own, index, y) ∈ kNestM) (hini : Cond.initialized y.cls ∈ Ts) (hstt : Cond.static y ∈ Ts) (hd : y.cls ≠ "java/lang/invoke/MethodHandle" ∧ y.cls ≠ "java/lang/invoke/VarHandle" ∧ (parseMethodDescriptor y.desc).map (fun d => d.parameters.length) = some n) (hn1 : As.length = n)
    (hR : fr + 1 ≤ R.frames ∧ 8 + (maxL + 11) + lo ≤ R.locals) (hcs : cells ≤ R.cells ∧ slots ≤ R.slots)
    (hst : (rest.map fun v => v.category).sum ≤ 8) (hdg : decode cc pc = .ok (.invokestatic index, 3))
    (kk : ∀ (H1 : Heap) (locs1 : List Loc), kH D A s H1 locs1 ws → W p l e R s m args below meth c H1 locs1 cells slots Q (F0 m (pc + 3) ls (v.toList ++ rest))) : W p l e R s m args below meth c H locs cells slots Q (F0 m pc ls (As.reverse ++ rest)) := by
  have hsub : (List.range ws.length).map (fun i => ws[i]?) = ws.map some := by
    apply List.ext_getElem?
    intro i
    simp only [List.getElem?_map]
    by_cases h : i < ws.length
    · rw [List.getElem?_range h]; simp [h]
    · rw [List.getElem?_eq_none (by simpa using Nat.not_lt.mp h), List.getElem?_eq_none (Nat.not_lt.mp h)]; rfl
  intro T hT X
  have hr := va_runSN (As := As) (rest := rest) C hM ⟨va_cnB n C.2.2.2.2 hg hw rfl rfl (hE.1.2.1 _ hq) (C.2.2.2.2 _ hini) hd hR, C.2.2.2.2 _ hstt, trivial⟩ ⟨kPre.blind, kPre.start hE hW [] rfl rfl⟩ (g := F0 m pc ls (As.reverse ++ rest)) rfl hn1 hls rfl (lv_room (m := m) (pc := pc) (ls := ls) (rest := rest) hst) hdg hcs
  obtain ⟨v0, st₀, t, T', L, h0, X', hL, e1, e2, ⟨⟨hv, hb⟩, hF⟩, st⟩ := hr T hT X
  cases hv
  have hFr : ∀ q, va_A [] H.size q → A q := va_free hW.2.1 hW.2.2 hE.2.2 [] rfl
  obtain ⟨k1, k2, k3⟩ := vx_keep h0 e1 hW.2.2 (fun q _ h => hFr q h) hFr hL hF
  have hP : va_P D vwCl ws T'.heap := hW.1.kept (fun k q hk => k2 q.1 (hW.1 k q hk).lt (fun z => by
    rcases z with ⟨k9, e9, z⟩ | z
    · cases z
    · exact absurd z (Nat.not_le.mpr (hW.1 k q hk).lt)))
  obtain ⟨t2, a1, b1⟩ := kk T'.heap (locs ++ L) ⟨hP, hW.2.1, k3⟩ T' rfl X'
  exact ⟨t2, st t2 a1, b1⟩
end KW
