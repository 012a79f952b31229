-- constructors
def kMetI {ι : Type} (l : Launch) (D : va_G) (cI cZ cJ : ClassId) (y : MethodName) (wds : List Cond) (fr lo mc ms : Nat) (av : List Value) (ws : va_W) (sz : Nat) (w1 : ι → va_W) : Prop :=
  Met l y wds (kRm fr lo mc ms) (va_Pc av (kPre D cI cZ cJ ws sz)) (kQ none (fun t => ∃ x, kB D (w1 x) (va_A ws sz) t) (va_A ws sz)) mc ms (va_A ws sz)
section KI
variable {p : Program} {l : Launch} {e : Env} {R : Room} {s : State} {m : MethodId} {args : Array Value} {below : List Frame} {meth : Method} {c : Code} {H : Heap} {locs : List Loc} {cells slots : Nat} {Q : State → Prop}
variable {cc : ByteArray} {pc : Nat} {ls : Array Slot} {rest : List Value} {D : va_G} {cI cZ cJ : ClassId} {A : Nat → Prop} {a : Nat} {ws ws' : va_W} {nL : Nat} {Ts : List Cond} {own : String}
theorem kI_vret {ι : Type} {w1 : ι → va_W} (x : ι) (C : CallFix p m c cc nL s args Ts own) (hlocks : meth.locks = false) (hr : meth.sig.returnType = none) (hW : kH D A s H locs (w1 x)) (hQ : Q = MQ below (kQ none (fun t => ∃ x, kB D (w1 x) A t) A) args s cells slots A) (hdg : decode cc pc = .ok (.return_, 1)) : W p l e R s m args below meth c H locs cells slots Q (F0 m pc ls []) := by
  subst hQ
  exact W.vret C.1 C.2.1 hr (fun t ht _ => ⟨⟨rfl, x, by show va_P D vwCl (w1 x) t.heap; rw [ht]; exact hW.1, hW.2.1⟩, hW.2.2.F ht⟩) hW.2.2.2.2 hdg hlocks
theorem k_obj {index : Nat} (C : CallFix p m c cc nL s args Ts own) (hls : ls.size = nL) (h1 : Cond.methodLink own index Lib.objectInit ∈ Ts) (h2 : Cond.instanceMethod Lib.objectInit ∈ Ts) (h3 : Cond.code Lib.objectInit ⟨#[0xb1]⟩ 1 none ∈ Ts) (hdg : decode cc pc = .ok (.invokespecial index, 3)) (hf : 1 ≤ R.frames) (hlo : (rest.map fun v => v.category).sum + 12 ≤ R.locals)
    (kk : W p l e R s m args below meth c H locs cells slots Q (F0 m (pc + 3) ls rest)) : W p l e R s m args below meth c H locs cells slots Q (F0 m pc ls (.ref a :: rest)) :=
  W.objInit C.1 C.2.1 C.2.2.2.1 (C.2.2.2.2 _ h1) (C.2.2.2.2 _ h2) (C.2.2.2.2 _ h3) (g := F0 m pc ls (.ref a :: rest)) rfl (hls.trans C.2.2.1.symm) rfl hdg hf (by show 2 * 0 + _ + 12 ≤ _; omega) kk
theorem k_newI {n : Int32} {N : Nat} (C : CallFix p m c cc nL s args Ts own) (hE : kEn D cI cZ cJ A s) (hW : kH D A s H locs ws) (harr : Cond.arrayClass .int ∈ Ts) (hn : ¬ n < 0) (hN : n.toNatClampNeg = N) (hby : N * 4 ≤ 536870912) (hc : cells + 1 ≤ R.cells) (hs : slots + N ≤ R.slots) (hdg : decode cc pc = .ok (.newarray .int, 2))
    (kk : ∀ (q : Nat) (H1 : Heap), kH D A s H1 locs (ws ++ [(q, .inl (cI, N, .inl (fun _ => 0)))]) → W p l e R s m args below meth c H1 locs (cells + 1) (slots + N) Q (F0 m (pc + 2) ls (.ref q :: rest))) : W p l e R s m args below meth c H locs cells slots Q (F0 m pc ls (.int n :: rest)) := by
  refine va_newaK (atype := .int) C.1 C.2.1 (C.2.2.2.2 _ harr) rfl hdg rfl hn hN hby hc hs rfl fun H1 cA e1 z1 o1 hAr hNm => ?_
  have h9 : s.vm.findClass ("[" ++ (FieldType.int).toString) = some cI := (hE.1.1.2 0 (cI, .int) rfl).2
  have hcA : cA = cI := Option.some.inj (hNm.symm.trans h9)
  subst hcA
  have hk : ∀ (k : Nat) (x : Nat × va_E), ws[k]? = some x → H1[x.1]? = H[x.1]? := fun k x hx => o1 x.1 ((hW.1 k x hx).lt)
  refine kk H.size H1 ⟨(hW.1.kept hk).app (fun k x hx => ?_), hW.2.1.push hW.1 rfl (hE.2.2 _ hW.2.2.1), ⟨Nat.le_trans hW.2.2.1 (by omega), fun x h1 h2 => (o1 x (Nat.lt_of_lt_of_le h1 hW.2.2.1)).trans (hW.2.2.2.1 x h1 h2), hW.2.2.2.2⟩⟩
  have hz : k < 1 := (List.getElem?_eq_some_iff.mp hx).1
  rw [show k = 0 by omega] at hx
  cases hx
  exact e1
theorem k_newZ {n : Int32} {N : Nat} (C : CallFix p m c cc nL s args Ts own) (hE : kEn D cI cZ cJ A s) (hW : kH D A s H locs ws) (harr : Cond.arrayClass .boolean ∈ Ts) (hn : ¬ n < 0) (hN : n.toNatClampNeg = N) (hby : N * 1 ≤ 536870912) (hc : cells + 1 ≤ R.cells) (hs : slots + N ≤ R.slots) (hdg : decode cc pc = .ok (.newarray .boolean, 2))
    (kk : ∀ (q : Nat) (H1 : Heap), kH D A s H1 locs (ws ++ [(q, .inl (cZ, N, .inl (fun _ => 0)))]) → W p l e R s m args below meth c H1 locs (cells + 1) (slots + N) Q (F0 m (pc + 2) ls (.ref q :: rest))) : W p l e R s m args below meth c H locs cells slots Q (F0 m pc ls (.int n :: rest)) := by
  refine va_newaK (atype := .boolean) C.1 C.2.1 (C.2.2.2.2 _ harr) rfl hdg rfl hn hN hby hc hs rfl fun H1 cA e1 z1 o1 hAr hNm => ?_
  have h9 : s.vm.findClass ("[" ++ (FieldType.boolean).toString) = some cZ := (hE.1.1.2 1 (cZ, .boolean) rfl).2
  have hcA : cA = cZ := Option.some.inj (hNm.symm.trans h9)
  subst hcA
  have hk : ∀ (k : Nat) (x : Nat × va_E), ws[k]? = some x → H1[x.1]? = H[x.1]? := fun k x hx => o1 x.1 ((hW.1 k x hx).lt)
  refine kk H.size H1 ⟨(hW.1.kept hk).app (fun k x hx => ?_), hW.2.1.push hW.1 rfl (hE.2.2 _ hW.2.2.1), ⟨Nat.le_trans hW.2.2.1 (by omega), fun x h1 h2 => (o1 x (Nat.lt_of_lt_of_le h1 hW.2.2.1)).trans (hW.2.2.2.1 x h1 h2), hW.2.2.2.2⟩⟩
  have hz : k < 1 := (List.getElem?_eq_some_iff.mp hx).1
  rw [show k = 0 by omega] at hx
  cases hx
  exact e1
theorem k_newJ {n : Int32} {N : Nat} (C : CallFix p m c cc nL s args Ts own) (hE : kEn D cI cZ cJ A s) (hW : kH D A s H locs ws) (harr : Cond.arrayClass .long ∈ Ts) (hn : ¬ n < 0) (hN : n.toNatClampNeg = N) (hby : N * 8 ≤ 536870912) (hc : cells + 1 ≤ R.cells) (hs : slots + N ≤ R.slots) (hdg : decode cc pc = .ok (.newarray .long, 2))
    (kk : ∀ (q : Nat) (H1 : Heap), kH D A s H1 locs (ws ++ [(q, .inl (cJ, N, .inr (.inl (fun _ => 0))))]) → W p l e R s m args below meth c H1 locs (cells + 1) (slots + N) Q (F0 m (pc + 2) ls (.ref q :: rest))) : W p l e R s m args below meth c H locs cells slots Q (F0 m pc ls (.int n :: rest)) := by
  refine va_newaK (atype := .long) C.1 C.2.1 (C.2.2.2.2 _ harr) rfl hdg rfl hn hN hby hc hs rfl fun H1 cA e1 z1 o1 hAr hNm => ?_
  have h9 : s.vm.findClass ("[" ++ (FieldType.long).toString) = some cJ := (hE.1.1.2 2 (cJ, .long) rfl).2
  have hcA : cA = cJ := Option.some.inj (hNm.symm.trans h9)
  subst hcA
  have hk : ∀ (k : Nat) (x : Nat × va_E), ws[k]? = some x → H1[x.1]? = H[x.1]? := fun k x hx => o1 x.1 ((hW.1 k x hx).lt)
  refine kk H.size H1 ⟨(hW.1.kept hk).app (fun k x hx => ?_), hW.2.1.push hW.1 rfl (hE.2.2 _ hW.2.2.1), ⟨Nat.le_trans hW.2.2.1 (by omega), fun x h1 h2 => (o1 x (Nat.lt_of_lt_of_le h1 hW.2.2.1)).trans (hW.2.2.2.1 x h1 h2), hW.2.2.2.2⟩⟩
  have hz : k < 1 := (List.getElem?_eq_some_iff.mp hx).1
  rw [show k = 0 by omega] at hx
  cases hx
  exact e1
theorem k_newO {Cn : String} {T : u_T} {N ci index : Nat} {fs : List Value} {ty : Nat → FieldType} (C : CallFix p m c cc nL s args Ts own) (hE : kEn D cI cZ cJ A s) (hW : kH D A s H locs ws) (hin : ∀ w ∈ u_ws Cn T N, w ∈ Ts) (hty : ∀ k, k < N → parseFieldDescriptor (T k).2.2.1 = some (ty k)) (hcl : Cond.classLink own index Cn ∈ Ts) (hinst : Cond.instantiable Cn N ∈ Ts) (hini : Cond.initialized Cn ∈ Ts)
    (hci : vwCl[ci]? = some (Cn, T, N)) (hfs : ∀ j, j < N → defaultValue (ty j) = vp_V fs j) (hc : cells + 1 ≤ R.cells) (hs : slots + N ≤ R.slots) (hdg : decode cc pc = .ok (.new index, 3))
    (kk : ∀ (q : Nat) (H1 : Heap), kH D A s H1 locs (ws ++ [(q, .inr (ci, fs))]) → W p l e R s m args below meth c H1 locs (cells + 1) (slots + N) Q (F0 m (pc + 3) ls (.ref q :: rest))) : W p l e R s m args below meth c H locs cells slots Q (F0 m pc ls rest) :=
  va_new C.1 C.2.1 C.2.2.2.2 hin ty hty C.2.2.2.1 (C.2.2.2.2 _ hcl) (C.2.2.2.2 _ hinst) (C.2.2.2.2 _ hini) hE.1.1 hW.1 hW.2.1 hW.2.2 hE.2.2 hci hfs hc hs hdg (fun q H1 h1 h2 h3 => kk q H1 ⟨h1, h2, h3⟩)
theorem kI_after {ι : Type} {w1 : ι → va_W} {wc wr : va_W} {st0 : List Value} {mc ms : Nat} {aa : Array Value} (hE : kEn D cI cZ cJ A s) (hW : kH D A s H locs ws) (isC isR : List Nat)
    (hC : isC.map (fun i => ws[i]?) = wc.map some) (hR : isR.map (fun i => ws[i]?) = wr.map some) (hn : va_nd isR = true) (hdis : ∀ i ∈ isR, i ∉ isC)
    (hr : va_Run p l e R s m args below meth c H locs cells slots mc ms (F0 m pc ls st0) rest (kQ none (fun t => ∃ x, kB D (w1 x) (va_A wc H.size) t) (va_A wc H.size) aa) (va_A wc H.size))
    (kk : ∀ (x : ι) (H1 : Heap) (locs1 : List Loc), kH D A s H1 locs1 (wr ++ w1 x) → W p l e R s m args below meth c H1 locs1 (cells + mc) (slots + ms) Q (F0 m (pc + 3) ls rest)) : W p l e R s m args below meth c H locs cells slots Q (F0 m pc ls st0) := by
  intro T hT X
  obtain ⟨v0, st₀, t, T', L, h0, X', hL, e1, e2, ⟨⟨hv, x, hb⟩, hF⟩, st⟩ := hr T hT X
  cases hv
  have hFr := va_free hW.2.1 hW.2.2 hE.2.2 isC hC
  obtain ⟨k1, k2, k3⟩ := vx_keep h0 e1 hW.2.2 (fun q _ h => hFr q h) hFr hL hF
  have hP1 : va_P D vwCl (w1 x) T'.heap := by rw [e1]; exact hb.1
  obtain ⟨hP, hD⟩ := va_join hW.1 hW.2.1 isC isR hC hR hn hdis k2 hFr hP1 hb.2
  obtain ⟨t2, a1, b1⟩ := kk x T'.heap (locs ++ L) ⟨hP, hD, k3⟩ T' rfl X'
  exact ⟨t2, st t2 a1, b1⟩
theorem k_callI {ι : Type} {w1 : ι → va_W} {y : MethodName} {bytes : ByteArray} {maxL : Nat} {wds wdr : List Cond} {fr lo mc ms : Nat} {b : Nat} {As : List Value} {wc wr : va_W} {index n : Nat}
    (C : CallFix p m c cc nL s args Ts own) (hE : kEn D cI cZ cJ A s) (hW : kH D A s H locs ws) (hls : ls.size = nL) (hM : kMetI l D cI cZ cJ y wds fr lo mc ms (.ref b :: As) wc H.size w1)
    (hg : GoodIn Ts wds) (hw : wds = Cond.code y bytes maxL none :: wdr) (hlink : Cond.methodLink own index y ∈ Ts) (hin : Cond.instanceMethod y ∈ Ts) (hini : Cond.initialized y.cls ∈ Ts) (hy1 : y.name = "<init>") (hd : y.cls ≠ "java/lang/invoke/MethodHandle" ∧ y.cls ≠ "java/lang/invoke/VarHandle" ∧ (parseMethodDescriptor y.desc).map (fun d => d.parameters.length) = some n) (hn1 : As.length = n)
    (hR : fr + 1 ≤ R.frames ∧ 8 + (maxL + 11) + lo ≤ R.locals) (hcs : cells + mc ≤ R.cells ∧ slots + ms ≤ R.slots)
    (isC isR : List Nat) (hC : isC.map (fun i => ws[i]?) = wc.map some) (hnC : va_nd isC = true) (hRr : isR.map (fun i => ws[i]?) = wr.map some) (hn : va_nd isR = true) (hdis : ∀ i ∈ isR, i ∉ isC)
    (hst : (rest.map fun v => v.category).sum ≤ 8) {st0 : List Value} (hs0 : st0 = As.reverse ++ .ref b :: rest) (hdg : decode cc pc = .ok (.invokespecial index, 3))
    (kk : ∀ (x : ι) (H1 : Heap) (locs1 : List Loc), kH D A s H1 locs1 (wr ++ w1 x) → W p l e R s m args below meth c H1 locs1 (cells + mc) (slots + ms) Q (F0 m (pc + 3) ls rest)) : W p l e R s m args below meth c H locs cells slots Q (F0 m pc ls st0) := by
  subst hs0
  exact kI_after hE hW isC isR hC hRr hn hdis (va_runI (As := As) (rest := rest) C hM (cwI n C.2.2.2.2 hg hw rfl rfl (C.2.2.2.2 _ hini) (C.2.2.2.2 _ hlink) (C.2.2.2.2 _ hin) hy1 hd hR) ⟨kPre.blind, kPre.start hE hW isC hC hnC⟩ rfl hn1 hls rfl (lv_room hst) hdg hcs) kk
theorem k_callIN {ι : Type} {w1 : ι → va_W} {y : MethodName} {bytes : ByteArray} {maxL : Nat} {wds wdr : List Cond} {fr lo mc ms : Nat} {b : Nat} {As : List Value} {wc wr : va_W} {index n : Nat}
    (C : CallFix p m c cc nL s args Ts own) (hE : kEn D cI cZ cJ A s) (hW : kH D A s H locs ws) (hls : ls.size = nL) (hM : kMetI l D cI cZ cJ y wds fr lo mc ms (.ref b :: As) wc H.size w1)
    (hg : GoodIn Ts wds) (hw : wds = Cond.code y bytes maxL none :: wdr) (hq : (own, index, y) ∈ kNestM) (hin : Cond.instanceMethod y ∈ Ts) (hini : Cond.initialized y.cls ∈ Ts) (hy1 : y.name = "<init>") (hd : y.cls ≠ "java/lang/invoke/MethodHandle" ∧ y.cls ≠ "java/lang/invoke/VarHandle" ∧ (parseMethodDescriptor y.desc).map (fun d => d.parameters.length) = some n) (hn1 : As.length = n)
    (hR : fr + 1 ≤ R.frames ∧ 8 + (maxL + 11) + lo ≤ R.locals) (hcs : cells + mc ≤ R.cells ∧ slots + ms ≤ R.slots)
    (isC isR : List Nat) (hC : isC.map (fun i => ws[i]?) = wc.map some) (hnC : va_nd isC = true) (hRr : isR.map (fun i => ws[i]?) = wr.map some) (hn : va_nd isR = true) (hdis : ∀ i ∈ isR, i ∉ isC)
    (hst : (rest.map fun v => v.category).sum ≤ 8) {st0 : List Value} (hs0 : st0 = As.reverse ++ .ref b :: rest) (hdg : decode cc pc = .ok (.invokespecial index, 3))
    (kk : ∀ (x : ι) (H1 : Heap) (locs1 : List Loc), kH D A s H1 locs1 (wr ++ w1 x) → W p l e R s m args below meth c H1 locs1 (cells + mc) (slots + ms) Q (F0 m (pc + 3) ls rest)) : W p l e R s m args below meth c H locs cells slots Q (F0 m pc ls st0) := by
  subst hs0
  exact kI_after hE hW isC isR hC hRr hn hdis (va_runIN (As := As) (rest := rest) C hM ⟨va_cnB n C.2.2.2.2 hg hw rfl rfl (hE.1.2.1 _ hq) (C.2.2.2.2 _ hini) hd hR, hy1, C.2.2.2.2 _ hin⟩ ⟨kPre.blind, kPre.start hE hW isC hC hnC⟩ rfl hn1 hls rfl (lv_room hst) hdg hcs) kk
end KI
theorem kI_of {ι : Type} {w1 : ι → va_W} {l : Launch} {D : va_G} {cI cZ cJ : ClassId} {y : MethodName} {wds wdr : List Cond} {fr lo mc ms : Nat} {av : List Value} {ws : va_W} {sz : Nat} {cc : ByteArray} {maxL : Nat} (hy : plainName y.cls = true) (hw : wds = Cond.code y cc maxL none :: wdr) (hy1 : y.name = "<init>") (hlen : (lg_sl av).length ≤ maxL)
    (body : ∀ (p : Program) (e : Env) (s : State) (m : MethodId) (args : Array Value) (below : List Frame) (meth : Method) (c : Code) (A : Nat → Prop) (Q : State → Prop) (ls : Array Slot), Q = MQ below (kQ none (fun t => ∃ x, kB D (w1 x) A t) A) args s mc ms A → CallFix p m c cc maxL s args wds y.cls → meth.locks = false → meth.sig.returnType = none → meth.name = "<init>" → kEn D cI cZ cJ A s → kH D A s s.heap [] ws → lv_has ls maxL (lv_args 0 av) → W p l e (kRm fr lo mc ms) s m args below meth c s.heap [] 0 0 Q (F0 m 0 ls [])) :
    kMetI l D cI cZ cJ y wds fr lo mc ms av ws sz w1 := by
  refine Met.ofW (cc := cc) (maxL := maxL) (ret := none) hy hw ?_
  intro p e s m args below meth c s₁ B hml hv
  obtain ⟨rfl, hsz, hP, hV, hZ, hD0⟩ := hv
  subst hsz
  have hl := lv_entry av (n := maxL) hlen
  rw [lg_entry_eq]
  exact body p e s m av.toArray below meth c _ _ _ rfl ⟨B.exec, B.bytes, hml, findClass_of_methodNamed B.named, atoms_spec (ws := wds) B.pre⟩ B.notSynchronized B.returns (by rw [(name_of_methodNamed B.named B.method).1]; exact hy1) ⟨hV, hZ, fun q h => Or.inr h⟩ ⟨hP, hD0.self, va_S.rf⟩ hl
