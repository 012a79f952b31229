-- methods with a table of handlers: the law's wrappers
def kMetC (l : Launch) (D : va_G) (cI cZ cJ : ClassId) (y : MethodName) (wds : List Cond) (fr lo mc ms : Nat) (av : List Value) (ws : va_W) (sz : Nat) (v : Option Value) (ws' : va_W) : Prop :=
  Met l y wds (kRm fr lo mc ms) (va_Pc av (kPre D cI cZ cJ ws sz)) (kQ v (kB D ws' (va_A ws sz)) (va_A ws sz)) mc ms (va_A ws sz)
theorem kW_of {l : Launch} {D : va_G} {cI cZ cJ : ClassId} {y : MethodName} {wds wdr : List Cond} {fr lo mc ms : Nat} {av : List Value} {ws : va_W} {sz : Nat} {v : Option Value} {ws' : va_W} {cc : ByteArray} {maxL : Nat} {ret : Option FieldType} {hh : List (Nat × Nat × Nat × Nat)} (hy : plainName y.cls = true) (hw : wds = Cond.codeWith y cc maxL ret hh :: wdr) (hlen : (lg_sl av).length ≤ maxL)
    (body : ∀ (p : Program) (e : Env) (s : State) (m : MethodId) (args : Array Value) (below : List Frame) (meth : Method) (c : Code) (A : Nat → Prop) (Q : State → Prop) (ls : Array Slot), Q = MQ below (kQ v (kB D ws' A) A) args s mc ms A → CallFix p m c cc maxL s args wds y.cls → c.exceptionTable.toList = tableOf hh → meth.locks = false → meth.sig.returnType = ret → kEn D cI cZ cJ A s → kH D A s s.heap [] ws → lv_has ls maxL (lv_args 0 av) → W p l e (kRm fr lo mc ms) s m args below meth c s.heap [] 0 0 Q (F0 m 0 ls [])) :
    kMetC l D cI cZ cJ y wds fr lo mc ms av ws sz v ws' := by
  unfold kMetC Met
  refine MetFree.of_bodyS (code := cc) (maxLocals := maxL) (ret := ret) hy ?_ ?_
  · intro args s m h hn
    obtain ⟨m9, meth, c, hn9, h1, h2, h3, h4, -, h5, h6, -⟩ := Cond.codeWith_spec (atoms_spec (ws := wds) h _ (by rw [hw]; exact List.mem_cons_self))
    cases hn.symm.trans hn9
    exact ⟨meth, c, h1, h2, h3, h4, h5, h6⟩
  · intro p e s m args below meth c s₁ B hml hv _
    have hh0 : s₁.heap = s.heap := by rw [B.state]; rfl
    have htb : c.exceptionTable.toList = tableOf hh := vx_table (x := y) B (atoms_spec (ws := wds) B.pre _ (by rw [hw]; exact List.mem_cons_self))
    obtain ⟨rfl, hsz, hP, hV, hZ, hD0⟩ := hv
    subst hsz
    have hl := lv_entry av (n := maxL) hlen
    have K := body p e s m av.toArray below meth c _ _ _ rfl ⟨B.exec, B.bytes, hml, findClass_of_methodNamed B.named, atoms_spec (ws := wds) B.pre⟩ htb B.notSynchronized B.returns ⟨hV, hZ, fun q h => Or.inr h⟩ ⟨hP, hD0.self, va_S.rf⟩ hl
    rw [← lg_entry_eq m av maxL] at K
    obtain ⟨t, a1, o, b1, b2, b3⟩ := K s₁ hh0 (Stand.of_body B)
    exact ⟨t, o, a1, b1, b2, ⟨b3.1, b3.2⟩⟩
section KXC
variable {p : Program} {l : Launch} {e : Env} {R : Room} {s : State} {m : MethodId} {args : Array Value} {below : List Frame} {meth : Method} {c : Code} {H : Heap} {locs : List Loc} {cells slots : Nat} {Q : State → Prop}
variable {cc : ByteArray} {pc : Nat} {ls : Array Slot} {rest : List Value} {D : va_G} {cI cZ cJ : ClassId} {A : Nat → Prop} {a : Nat} {ws ws' : va_W} {nL : Nat} {Ts : List Cond} {own : String}
/-- a callee that throws, caught here -/
theorem kx_catchV {y : MethodName} {bytes : ByteArray} {maxL : Nat} {ret : Option FieldType} {wds wdr : List Cond} {fr lo : Nat} {b : Nat} {As : List Value} {k : Nat} {wc wr w1 : va_W} {Cn : String} {T : u_T} {N ci qb index n : Nat} {fs : List Value} (pre : List ExceptionTableEntry) (xe : ExceptionTableEntry) (suf : List ExceptionTableEntry)
    (C : CallFix p m c cc nL s args Ts own) (htb : c.exceptionTable.toList = pre ++ xe :: suf) (hE : kEn D cI cZ cJ A s) (hW : kH D A s H locs ws) (hls : ls.size = nL) (hM : kMetX l D cI cZ cJ y wds fr lo (.ref b :: As) wc H.size (.inl (k, w1)))
    (hg : GoodIn Ts (wsV own index Cn y wds)) (hw : wds = Cond.code y bytes maxL ret :: wdr) (hd : y.cls = Cn ∧ y.cls ≠ "java/lang/invoke/MethodHandle" ∧ y.cls ≠ "java/lang/invoke/VarHandle" ∧ (parseMethodDescriptor y.desc).map (fun d => d.parameters.length) = some n) (hn1 : As.length = n)
    (hR : fr + 1 ≤ R.frames ∧ 8 + (maxL + 11) + lo ≤ R.locals) (hcs : cells + 1 ≤ R.cells ∧ slots + 6 ≤ R.slots) (hci : vwCl[ci]? = some (Cn, T, N)) (hqb : wc[qb]? = some (b, .inr (ci, fs)))
    (isC isR is2 : List Nat) (hC : isC.map (fun i => ws[i]?) = wc.map some) (hnC : va_nd isC = true) (hRr : isR.map (fun i => ws[i]?) = wr.map some) (hn : va_nd isR = true) (hdis : ∀ i ∈ isR, i ∉ isC) (hn2 : va_nd is2 = true) (h2 : is2.map (fun i => (wr ++ w1)[i]?) = ws'.map some)
    (hst : (rest.map fun v => v.category).sum ≤ 8) {st0 : List Value} (hs0 : st0 = As.reverse ++ .ref b :: rest) (hdg : decode cc pc = .ok (.invokevirtual index, 3))
    (hk : k ∈ [1, 2, 3]) (hpass : ∀ z ∈ pre, z.catchType ≠ 0 ∧ ∃ k', k' ∈ [1, 2, 3] ∧ k ≠ k' ∧ Cond.classLink own z.catchType (kEx k') ∈ Ts) (hx : covers xe pc = true) (h0 : xe.catchType ≠ 0) (hlk : Cond.classLink own xe.catchType (kEx k) ∈ Ts)
    (kk : ∀ (q : Nat) (H1 : Heap) (locs1 : List Loc), kH D A s H1 locs1 ws' → W p l e R s m args below meth c H1 locs1 (cells + 1) (slots + 6) Q (F0 m xe.handlerPc ls [.ref q])) : W p l e R s m args below meth c H locs cells slots Q (F0 m pc ls st0) := by
  subst hs0
  have hPs : va_P D vwCl wc H := by
    intro k q hk
    have h1 : (wc.map some)[k]? = some (some q) := by rw [List.getElem?_map, hk]; rfl
    rw [← hC, List.getElem?_map] at h1
    obtain ⟨i, hi, h2⟩ := Option.map_eq_some_iff.mp h1
    exact hW.1 i q h2
  have hr : vx_Run p l e R s m args below meth c H locs cells slots 1 6 (F0 m pc ls (As.reverse ++ .ref b :: rest)) rest (kXQ D (va_A wc H.size) (.inl (k, w1)) (Value.ref b :: As).toArray) (kXC D (va_A wc H.size) (.inl (k, w1))) (va_A wc H.size) := vx_runV (As := As) (rest := rest) C hM (cwV n C.2.2.2.2 hg hw rfl rfl hd hR) ⟨kPre.blind, va_recv hE.1.1 hPs hci hqb, kPre.start hE hW isC hC hnC⟩ rfl hn1 hls rfl (lv_room hst) hdg hcs
  intro T0 hT X
  rcases hr T0 hT X with ⟨v, st₀, t, T', L, h0', X', hL, e1, e2, hq, st⟩ | ⟨q, st₀, t, T', L, E, ce, h0', X', hL, e1, e2, ⟨hEx, hB, hF⟩, hce, hcv, hcl, st⟩
  · exact hq.elim
  · have hFr := va_free hW.2.1 hW.2.2 hE.2.2 isC hC
    obtain ⟨k1, k2, k3⟩ := vx_keep h0' e1 hW.2.2 (fun q _ h => hFr q h) hFr hL hF
    have hP1 : va_P D vwCl w1 T'.heap := by rw [e1]; exact hB.1
    obtain ⟨hP, hD⟩ := va_join hW.1 hW.2.1 isC isR hC hRr hn hdis k2 hFr hP1 hB.2
    have hP2 : va_P D vwCl ws' T'.heap := by
      intro k q hk
      have h3 : (ws'.map some)[k]? = some (some q) := by rw [List.getElem?_map, hk]; rfl
      rw [← h2, List.getElem?_map] at h3
      obtain ⟨i, hi, h4⟩ := Option.map_eq_some_iff.mp h3
      exact hP i q h4
    subst hEx
    have K := vx_catch (p := p) (l := l) (e := e) (R := R) (s := s) (m := m) (args := args) (below := below) (meth := meth) (c := c) (H := T'.heap) (locs := locs ++ L) (cells := cells + 1) (slots := slots + 6) (Q := Q) (ls := ls) (rest := rest) (pc := pc) (q := q) (ce := ce) C.2.2.2.1 pre xe suf htb (fun z hz => by
      obtain ⟨g1, k', g2, g3, g4⟩ := hpass z hz
      exact Or.inr ⟨g1, kEx k', C.2.2.2.2 _ g4, hE.1.2.2.2.2.2.2 k hk k' g2 g3⟩) hx h0 (C.2.2.2.2 _ hlk) (va_Nw.use rfl (hE.1.2.2.2.2.2.1 k hk)) (by rw [e1]; exact hce) hcv hcl (kk q T'.heap (locs ++ L) ⟨hP2, hD.sub is2 hn2 h2, k3⟩)
    obtain ⟨t2, a1, b1⟩ := K T' rfl X'
    exact ⟨t2, st.trans a1, b1⟩
end KXC
