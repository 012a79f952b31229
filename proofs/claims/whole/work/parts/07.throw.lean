-- methods that may throw
section KX
variable {p : Program} {l : Launch} {e : Env} {R : Room} {s : State} {m : MethodId} {args : Array Value} {below : List Frame} {meth : Method} {c : Code} {H : Heap} {locs : List Loc} {cells slots : Nat} {Q : State → Prop}
variable {cc : ByteArray} {pc : Nat} {ls : Array Slot} {rest : List Value} {D : va_G} {cI cZ cJ : ClassId} {A : Nat → Prop} {a : Nat} {ws ws' : va_W} {nL : Nat} {Ts : List Cond} {own : String}
theorem kx_iret {v : Int32} (C : CallFix p m c cc nL s args Ts own) (hlocks : meth.locks = false) (hr : meth.sig.returnType = some .int) (hW : kH D A s H locs ws) (hQ : Q = vx_MQ below (kXQ D A (.inr (some (.int v), ws))) (kXC D A (.inr (some (.int v), ws))) args s cells slots A) (hdg : decode cc pc = .ok (.ireturn, 1)) : W p l e R s m args below meth c H locs cells slots Q (F0 m pc ls [.int v]) := by
  subst hQ
  exact vx_ret (W.iret C.1 C.2.1 hr (k_ret hW) hW.2.2.2.2 hdg hlocks)
theorem kx_lret {v : Int64} (C : CallFix p m c cc nL s args Ts own) (hlocks : meth.locks = false) (hr : meth.sig.returnType = some .long) (hW : kH D A s H locs ws) (hQ : Q = vx_MQ below (kXQ D A (.inr (some (.long v), ws))) (kXC D A (.inr (some (.long v), ws))) args s cells slots A) (hdg : decode cc pc = .ok (.lreturn, 1)) : W p l e R s m args below meth c H locs cells slots Q (F0 m pc ls [.long v]) := by
  subst hQ
  exact vx_ret (W.lret C.1 C.2.1 hr (k_ret hW) hW.2.2.2.2 hdg hlocks)
theorem kx_vret (C : CallFix p m c cc nL s args Ts own) (hlocks : meth.locks = false) (hr : meth.sig.returnType = none) (hW : kH D A s H locs ws) (hQ : Q = vx_MQ below (kXQ D A (.inr (none, ws))) (kXC D A (.inr (none, ws))) args s cells slots A) (hdg : decode cc pc = .ok (.return_, 1)) : W p l e R s m args below meth c H locs cells slots Q (F0 m pc ls []) := by
  subst hQ
  exact vx_ret (W.vret C.1 C.2.1 hr (k_ret hW) hW.2.2.2.2 hdg hlocks)
theorem kx_aret {n : String} (C : CallFix p m c cc nL s args Ts own) (hlocks : meth.locks = false) (hr : meth.sig.returnType = some (.object n)) (hW : kH D A s H locs ws) (hQ : Q = vx_MQ below (kXQ D A (.inr (some (.ref a), ws))) (kXC D A (.inr (some (.ref a), ws))) args s cells slots A) (hdg : decode cc pc = .ok (.areturn, 1)) : W p l e R s m args below meth c H locs cells slots Q (F0 m pc ls [.ref a]) := by
  subst hQ
  exact vx_ret (W.aret C.1 C.2.1 hr (Or.inl ⟨n, rfl⟩) (Or.inr ⟨a, rfl⟩) (k_ret hW) hW.2.2.2.2 hdg hlocks)
theorem kx_xc {k : Nat} {cls : String} (hc : cls = kEx k) (hW : kH D A s H locs ws) : ∀ t : State, s.vm.Alike t.vm → H.size ≤ t.heap.size → (∀ q : Nat, q < H.size → t.heap[q]? = H[q]?) → kXC D A (.inl (k, ws)) cls s t := fun t _ h1 h2 =>
  ⟨hc, ⟨hW.1.kept (fun j q hq => h2 q.1 (hW.1 j q hq).lt), hW.2.1⟩, Nat.le_trans hW.2.2.1 h1, fun q h3 h4 => by rw [h2 q (Nat.lt_of_lt_of_le h3 hW.2.2.1)]; exact hW.2.2.2.1 q h3 h4⟩
abbrev kNm : List String := ["java/lang/RuntimeException", "java/lang/Exception"]
def kBad (k : Nat) : List Cond := [.declares (Bundle.initS "java/lang/RuntimeException"), .declares (Bundle.initS "java/lang/Exception"), .declares (Bundle.initS "java/lang/Throwable"), .castable (kEx k) (kEx k)]
theorem kx_hat {k ic : Nat} (hk : k ∈ [1, 2, 3]) (C : CallFix p m c cc nL s args Ts own) (hE : kEn D cI cZ cJ A s) (h1 : ∀ w ∈ (vx_atS RX9 ic (kEx k) kNm).filter goodWord, w ∈ Ts) (h2 : ∀ w ∈ (vx_atS RX9 ic (kEx k) kNm).filter (fun w => !goodWord w), w ∈ kBad k) : ∀ w ∈ vx_atS RX9 ic (kEx k) kNm, w.before args s = true :=
  vx_hat (B := kBad k) (fun w h => C.2.2.2.2 w (h1 w h)) h2 (vx_c (va_Nw.use rfl (hE.1.2.2.2.2.1 _ (by decide))) (vx_c (va_Nw.use rfl (hE.1.2.2.2.2.1 _ (by decide))) (vx_c (va_Nw.use rfl (hE.1.2.2.2.2.1 _ (by decide))) (vx_c (va_Nw.use rfl (hE.1.2.2.2.2.2.1 _ hk)) vx_n))))
/-- new X(text), thrown -/
theorem kx_throw {k ik is ic : Nat} {text : String} (C : CallFix p m c cc nL s args Ts RX9) (hlt : l.stackTraces = false) (hout : ∀ x ∈ c.exceptionTable.toList, False) (hlocks : meth.locks = false) (hE : kEn D cI cZ cJ A s) (hW : kH D A s H locs ws) (hls : ls.size = nL) (htx : (is, text) ∈ kTexts) (hcls : Bundle.fit (kEx k) = true)
    (hk : (Cond.classLink RX9 ik (kEx k)).before args s = true) (hini : (Cond.initialized (kEx k)).before args s = true) (hat : ∀ w ∈ vx_atS RX9 ic (kEx k) kNm, w.before args s = true) (hgood : ∀ w ∈ Cond.classLink RX9 ik (kEx k) :: Cond.initialized (kEx k) :: vx_atS RX9 ic (kEx k) kNm, vx_ot w = true)
    (d0 : decode cc pc = .ok (.new ik, 3)) (d3 : decode cc (pc + 3) = .ok (.dup, 1)) (d4 : decode cc (pc + 4) = .ok (.ldc is, 2)) (d6 : decode cc (pc + 6) = .ok (.invokespecial ic, 3)) (d9 : decode cc (pc + 9) = .ok (.athrow, 1))
    (hRf : 5 < R.frames) (hRl : (rest.map fun v => v.category).sum + 82 ≤ R.locals) (hRc : cells + 1 ≤ R.cells) (hRs : slots + 6 ≤ R.slots) (hQ : Q = vx_MQ below (kXQ D A (.inl (k, ws))) (kXC D A (.inl (k, ws))) args s (cells + 1) (slots + 6) A) : W p l e R s m args below meth c H locs cells slots Q (F0 m pc ls rest) := by
  subst hQ
  obtain ⟨sa, hstr⟩ := hE.1.2.2.2.1 _ htx
  exact vx_throwS C.1 C.2.1 hlt C.2.2.2.1 hcls (by decide +kernel) hk hini hstr hat hgood hE.2.1.1 hE.2.1.2.1 hW.2.2 (hls.trans C.2.2.1.symm) d0 d3 d4 d6 d9 (fun x hx => (hout x hx).elim) hRf hRl hRc hRs hlocks (kx_xc rfl hW) hW.2.2.2.2 (Nat.le_refl _) (Nat.le_refl _)
theorem kx_throwW {k ik is ic : Nat} {text : String} (C : CallFix p m c cc nL s args Ts RX9) (hlt : l.stackTraces = false) (hout : ∀ x ∈ c.exceptionTable.toList, False) (hlocks : meth.locks = false) (hE : kEn D cI cZ cJ A s) (hW : kH D A s H locs ws) (hls : ls.size = nL) (htx : (is, text) ∈ kTexts) (hcls : Bundle.fit (kEx k) = true)
    (hk : (Cond.classLink RX9 ik (kEx k)).before args s = true) (hini : (Cond.initialized (kEx k)).before args s = true) (hat : ∀ w ∈ vx_atS RX9 ic (kEx k) kNm, w.before args s = true) (hgood : ∀ w ∈ Cond.classLink RX9 ik (kEx k) :: Cond.initialized (kEx k) :: vx_atS RX9 ic (kEx k) kNm, vx_ot w = true)
    (d0 : decode cc pc = .ok (.new ik, 3)) (d3 : decode cc (pc + 3) = .ok (.dup, 1)) (d4 : decode cc (pc + 4) = .ok (.ldc_w is, 3)) (d7 : decode cc (pc + 7) = .ok (.invokespecial ic, 3)) (d10 : decode cc (pc + 10) = .ok (.athrow, 1))
    (hRf : 5 < R.frames) (hRl : (rest.map fun v => v.category).sum + 82 ≤ R.locals) (hRc : cells + 1 ≤ R.cells) (hRs : slots + 6 ≤ R.slots) (hQ : Q = vx_MQ below (kXQ D A (.inl (k, ws))) (kXC D A (.inl (k, ws))) args s (cells + 1) (slots + 6) A) : W p l e R s m args below meth c H locs cells slots Q (F0 m pc ls rest) := by
  subst hQ
  obtain ⟨sa, hstr⟩ := hE.1.2.2.2.1 _ htx
  exact vx_throwSW C.1 C.2.1 hlt C.2.2.2.1 hcls (by decide +kernel) hk hini hstr hat hgood hE.2.1.1 hE.2.1.2.1 hW.2.2 (hls.trans C.2.2.1.symm) d0 d3 d4 d7 d10 (fun x hx => (hout x hx).elim) hRf hRl hRc hRs hlocks (kx_xc rfl hW) hW.2.2.2.2 (Nat.le_refl _) (Nat.le_refl _)
/-- a callee that throws, not caught here -/
theorem kx_after {k : Nat} {wc wr w1 : va_W} {st0 : List Value} {aa : Array Value} (hout : ∀ x ∈ c.exceptionTable.toList, False) (hlocks : meth.locks = false) (hE : kEn D cI cZ cJ A s) (hW : kH D A s H locs ws) (isC isR : List Nat) (is2 : List Nat)
    (hC : isC.map (fun i => ws[i]?) = wc.map some) (hR : isR.map (fun i => ws[i]?) = wr.map some) (hn : va_nd isR = true) (hdis : ∀ i ∈ isR, i ∉ isC) (hn2 : va_nd is2 = true) (h2 : is2.map (fun i => (wr ++ w1)[i]?) = ws'.map some)
    (hr : vx_Run p l e R s m args below meth c H locs cells slots 1 6 (F0 m pc ls st0) rest (kXQ D (va_A wc H.size) (.inl (k, w1)) aa) (kXC D (va_A wc H.size) (.inl (k, w1))) (va_A wc H.size))
    (hQ : Q = vx_MQ below (kXQ D A (.inl (k, ws'))) (kXC D A (.inl (k, ws'))) args s (cells + 1) (slots + 6) A) : W p l e R s m args below meth c H locs cells slots Q (F0 m pc ls st0) := by
  subst hQ
  intro T hT X
  rcases hr T hT X with ⟨v, st₀, t, T', L, h0, X', hL, e1, e2, hq, st⟩ | ⟨q, st₀, t, T', L, E, ce, h0, X', hL, e1, e2, ⟨hEx, hB, hF⟩, hce, hcv, hcl, st⟩
  · exact hq.elim
  · have hFr := va_free hW.2.1 hW.2.2 hE.2.2 isC hC
    obtain ⟨k1, k2, k3⟩ := vx_keep h0 e1 hW.2.2 (fun q _ h => hFr q h) hFr hL hF
    have hP1 : va_P D vwCl w1 T'.heap := by rw [e1]; exact hB.1
    obtain ⟨hP, hD⟩ := va_join hW.1 hW.2.1 isC isR hC hR hn hdis k2 hFr hP1 hB.2
    have hP2 : va_P D vwCl ws' T'.heap := by
      intro k q hk
      have h3 : (ws'.map some)[k]? = some (some q) := by rw [List.getElem?_map, hk]; rfl
      rw [← h2, List.getElem?_map] at h3
      obtain ⟨i, hi, h4⟩ := Option.map_eq_some_iff.mp h3
      exact hP i q h4
    have hx : ∀ t9 : State, t9.heap = T'.heap → s.vm.Alike t9.vm → kXC D A (.inl (k, ws')) E s t9 := fun t9 h9 _ => ⟨hEx, ⟨by rw [h9]; exact hP2, hD.sub is2 hn2 h2⟩, k3.F h9⟩
    obtain ⟨t2, a1, b1⟩ := (vx_out (Qc := kXQ D A (.inl (k, ws'))) (XC := kXC D A (.inl (k, ws'))) (l := l) (R := R) (free := A) (p := p) (e := e) (args := args) (below := below) (ls := ls) (rest := rest) (pc := pc) (fun x hx => (hout x hx).elim) hlocks (by rw [e1]; exact hce) hcv hcl hx k3.2.2 (Nat.le_refl (cells + 1)) (Nat.le_refl (slots + 6)) : vx_W p l e R s m args below meth c T'.heap (locs ++ L) (cells + 1) (slots + 6) _ (F0 m pc ls rest) q) T' rfl X'
    exact ⟨t2, st.trans a1, b1⟩
theorem kx_thrV {y : MethodName} {bytes : ByteArray} {maxL : Nat} {ret : Option FieldType} {wds wdr : List Cond} {fr lo : Nat} {b : Nat} {As : List Value} {k : Nat} {wc wr w1 : va_W} {Cn : String} {T : u_T} {N ci qb index n : Nat} {fs : List Value}
    (C : CallFix p m c cc nL s args Ts own) (hout : ∀ x ∈ c.exceptionTable.toList, False) (hlocks : meth.locks = false) (hE : kEn D cI cZ cJ A s) (hW : kH D A s H locs ws) (hls : ls.size = nL) (hM : kMetX l D cI cZ cJ y wds fr lo (.ref b :: As) wc H.size (.inl (k, w1)))
    (hg : GoodIn Ts (wsV own index Cn y wds)) (hw : wds = Cond.code y bytes maxL ret :: wdr) (hd : y.cls = Cn ∧ y.cls ≠ "java/lang/invoke/MethodHandle" ∧ y.cls ≠ "java/lang/invoke/VarHandle" ∧ (parseMethodDescriptor y.desc).map (fun d => d.parameters.length) = some n) (hn1 : As.length = n)
    (hR : fr + 1 ≤ R.frames ∧ 8 + (maxL + 11) + lo ≤ R.locals) (hcs : cells + 1 ≤ R.cells ∧ slots + 6 ≤ R.slots) (hci : vwCl[ci]? = some (Cn, T, N)) (hqb : wc[qb]? = some (b, .inr (ci, fs)))
    (isC isR is2 : List Nat) (hC : isC.map (fun i => ws[i]?) = wc.map some) (hnC : va_nd isC = true) (hRr : isR.map (fun i => ws[i]?) = wr.map some) (hn : va_nd isR = true) (hdis : ∀ i ∈ isR, i ∉ isC) (hn2 : va_nd is2 = true) (h2 : is2.map (fun i => (wr ++ w1)[i]?) = ws'.map some)
    (hst : (rest.map fun v => v.category).sum ≤ 8) {st0 : List Value} (hs0 : st0 = As.reverse ++ .ref b :: rest) (hdg : decode cc pc = .ok (.invokevirtual index, 3))
    (hQ : Q = vx_MQ below (kXQ D A (.inl (k, ws'))) (kXC D A (.inl (k, ws'))) args s (cells + 1) (slots + 6) A) : W p l e R s m args below meth c H locs cells slots Q (F0 m pc ls st0) := by
  subst hs0
  have hPs : va_P D vwCl wc H := by
    intro k q hk
    have h1 : (wc.map some)[k]? = some (some q) := by rw [List.getElem?_map, hk]; rfl
    rw [← hC, List.getElem?_map] at h1
    obtain ⟨i, hi, h2⟩ := Option.map_eq_some_iff.mp h1
    exact hW.1 i q h2
  exact kx_after hout hlocks hE hW isC isR is2 hC hRr hn hdis hn2 h2 (vx_runV (As := As) (rest := rest) C hM (cwV n C.2.2.2.2 hg hw rfl rfl hd hR) ⟨kPre.blind, va_recv hE.1.1 hPs hci hqb, kPre.start hE hW isC hC hnC⟩ rfl hn1 hls rfl (lv_room hst) hdg hcs) hQ
theorem kx_thrS {y : MethodName} {bytes : ByteArray} {maxL : Nat} {ret : Option FieldType} {wds wdr : List Cond} {fr lo : Nat} {As : List Value} {k : Nat} {wc wr w1 : va_W} {index n : Nat}
    (C : CallFix p m c cc nL s args Ts own) (hout : ∀ x ∈ c.exceptionTable.toList, False) (hlocks : meth.locks = false) (hE : kEn D cI cZ cJ A s) (hW : kH D A s H locs ws) (hls : ls.size = nL) (hM : kMetX l D cI cZ cJ y wds fr lo As wc H.size (.inl (k, w1)))
    (hg : GoodIn Ts (va_wsS own index y wds)) (hw : wds = Cond.code y bytes maxL ret :: wdr) (hd : y.cls ≠ "java/lang/invoke/MethodHandle" ∧ y.cls ≠ "java/lang/invoke/VarHandle" ∧ (parseMethodDescriptor y.desc).map (fun d => d.parameters.length) = some n) (hn1 : As.length = n)
    (hR : fr + 1 ≤ R.frames ∧ 8 + (maxL + 11) + lo ≤ R.locals) (hcs : cells + 1 ≤ R.cells ∧ slots + 6 ≤ R.slots)
    (isC isR is2 : List Nat) (hC : isC.map (fun i => ws[i]?) = wc.map some) (hnC : va_nd isC = true) (hRr : isR.map (fun i => ws[i]?) = wr.map some) (hn : va_nd isR = true) (hdis : ∀ i ∈ isR, i ∉ isC) (hn2 : va_nd is2 = true) (h2 : is2.map (fun i => (wr ++ w1)[i]?) = ws'.map some)
    (hst : (rest.map fun v => v.category).sum ≤ 8) {st0 : List Value} (hs0 : st0 = As.reverse ++ rest) (hdg : decode cc pc = .ok (.invokestatic index, 3))
    (hQ : Q = vx_MQ below (kXQ D A (.inl (k, ws'))) (kXC D A (.inl (k, ws'))) args s (cells + 1) (slots + 6) A) : W p l e R s m args below meth c H locs cells slots Q (F0 m pc ls st0) := by
  subst hs0
  exact kx_after hout hlocks hE hW isC isR is2 hC hRr hn hdis hn2 h2 (vx_runS (As := As) (rest := rest) C hM (va_cwS n C.2.2.2.2 hg hw rfl rfl hd hR) ⟨kPre.blind, kPre.start hE hW isC hC hnC⟩ rfl hn1 hls rfl (lv_room hst) hdg hcs) hQ
end KX
theorem kX_of {l : Launch} {D : va_G} {cI cZ cJ : ClassId} {y : MethodName} {wds wdr : List Cond} {fr lo : Nat} {av : List Value} {ws : va_W} {sz : Nat} {o : kO} {cc : ByteArray} {maxL : Nat} {ret : Option FieldType} (hy : plainName y.cls = true) (hw : wds = Cond.code y cc maxL ret :: wdr) (hlen : (lg_sl av).length ≤ maxL)
    (body : ∀ (p : Program) (e : Env) (s : State) (m : MethodId) (args : Array Value) (below : List Frame) (meth : Method) (c : Code) (A : Nat → Prop) (Q : State → Prop) (ls : Array Slot), Q = vx_MQ below (kXQ D A o) (kXC D A o) args s (kc o) (ks o) A → CallFix p m c cc maxL s args wds y.cls → (∀ x ∈ c.exceptionTable.toList, False) → meth.locks = false → meth.sig.returnType = ret → kEn D cI cZ cJ A s → kH D A s s.heap [] ws → lv_has ls maxL (lv_args 0 av) → W p l e (kRm fr lo (kc o) (ks o)) s m args below meth c s.heap [] 0 0 Q (F0 m 0 ls [])) :
    kMetX l D cI cZ cJ y wds fr lo av ws sz o := by
  refine vx_ofW (cc := cc) (maxL := maxL) (ret := ret) hy hw ?_
  intro p e s m args below meth c s₁ B hml hout hv
  obtain ⟨rfl, hsz, hP, hV, hZ, hD0⟩ := hv
  subst hsz
  have hl := lv_entry av (n := maxL) hlen
  rw [lg_entry_eq]
  exact body p e s m av.toArray below meth c _ _ _ rfl ⟨B.exec, B.bytes, hml, findClass_of_methodNamed B.named, atoms_spec (ws := wds) B.pre⟩ hout B.notSynchronized B.returns ⟨hV, hZ, fun q h => Or.inr h⟩ ⟨hP, hD0.self, va_S.rf⟩ hl
theorem kx_h268 : (∀ w ∈ (vx_atS RX9 268 (kEx 1) kNm).filter (fun w => !goodWord w), w ∈ kBad 1) ∧ ∀ w ∈ Cond.classLink RX9 264 (kEx 1) :: Cond.initialized (kEx 1) :: vx_atS RX9 268 (kEx 1) kNm, vx_ot w = true := ⟨by decide +kernel, by decide +kernel⟩
theorem kx_h76 : (∀ w ∈ (vx_atS RX9 76 (kEx 2) kNm).filter (fun w => !goodWord w), w ∈ kBad 2) ∧ ∀ w ∈ Cond.classLink RX9 72 (kEx 2) :: Cond.initialized (kEx 2) :: vx_atS RX9 76 (kEx 2) kNm, vx_ot w = true := ⟨by decide +kernel, by decide +kernel⟩
theorem kx_h307 : (∀ w ∈ (vx_atS RX9 307 (kEx 3) kNm).filter (fun w => !goodWord w), w ∈ kBad 3) ∧ ∀ w ∈ Cond.classLink RX9 303 (kEx 3) :: Cond.initialized (kEx 3) :: vx_atS RX9 307 (kEx 3) kNm, vx_ot w = true := ⟨by decide +kernel, by decide +kernel⟩
def kSel {ρ τ : Type} (x : ρ ⊕ τ) (f : ρ → kO) (g : τ → kO) : kO := match x with
  | .inl a => f a
  | .inr b => g b
