-- the law's calls
section LKT
variable {p : Program} {l : Launch} {e : Env} {R : Room} {s : State} {m : MethodId} {args : Array Value} {below : List Frame} {meth : Method} {c : Code} {H : Heap} {locs : List Loc} {cells slots : Nat} {Q : State → Prop}
variable {cc : ByteArray} {pc : Nat} {ls : Array Slot} {rest : List Value} {D : va_G} {cI cZ cJ : ClassId} {A : Nat → Prop} {a : Nat} {ws ws' : va_W} {nL : Nat} {Ts : List Cond} {own : String}
theorem k_callSW {y : MethodName} {bytes : ByteArray} {maxL : Nat} {ret : Option FieldType} {hh : List (Nat × Nat × Nat × Nat)} {wds wdr : List Cond} {fr lo mc ms : Nat} {As : List Value} {v : Option Value} {wc wr w1 : va_W} {index n : Nat}
    (C : CallFix p m c cc nL s args Ts own) (hE : kEn D cI cZ cJ A s) (hW : kH D A s H locs ws) (hls : ls.size = nL) (hM : kMetC l D cI cZ cJ y wds fr lo mc ms As wc H.size v w1)
    (hg : GoodIn Ts (va_wsS own index y wds)) (hw : wds = Cond.codeWith y bytes maxL ret hh :: wdr) (hd : y.cls ≠ "java/lang/invoke/MethodHandle" ∧ y.cls ≠ "java/lang/invoke/VarHandle" ∧ (parseMethodDescriptor y.desc).map (fun d => d.parameters.length) = some n) (hn1 : As.length = n)
    (hR : fr + 1 ≤ R.frames ∧ 8 + (maxL + 11) + lo ≤ R.locals) (hcs : cells + mc ≤ R.cells ∧ slots + ms ≤ R.slots)
    (isC isR is2 : List Nat) (hC : isC.map (fun i => ws[i]?) = wc.map some) (hnC : va_nd isC = true) (hRr : isR.map (fun i => ws[i]?) = wr.map some) (hn : va_nd isR = true) (hdis : ∀ i ∈ isR, i ∉ isC) (hn2 : va_nd is2 = true) (h2 : is2.map (fun i => (wr ++ w1)[i]?) = ws'.map some)
    (hst : (rest.map fun v => v.category).sum ≤ 8) {st0 st1 : List Value} (hs0 : st0 = As.reverse ++ rest) (hs1 : v.toList ++ rest = st1) (hdg : decode cc pc = .ok (.invokestatic index, 3))
    (kk : ∀ (H1 : Heap) (locs1 : List Loc), kH D A s H1 locs1 ws' → W p l e R s m args below meth c H1 locs1 (cells + mc) (slots + ms) Q (F0 m (pc + 3) ls st1)) : W p l e R s m args below meth c H locs cells slots Q (F0 m pc ls st0) := by
  subst hs0
  subst hs1
  exact k_after hE hW isC isR is2 hC hRr hn hdis hn2 h2 (vx_runSW (As := As) (rest := rest) C hM (vx_cwSW n C.2.2.2.2 hg hw rfl rfl hd hR) ⟨kPre.blind, kPre.start hE hW isC hC hnC⟩ rfl hn1 hls rfl (lv_room hst) hdg hcs) kk
def pmW (ws : va_W) (is : List Nat) : va_W := is.filterMap (fun i => ws[i]?)
theorem kH.pm (h : kH D A s H locs ws) (is : List Nat) (hn : va_nd is = true) (h2 : is.map (fun i => ws[i]?) = (pmW ws is).map some) : kH D A s H locs (pmW ws is) := ⟨h.1.sub is rfl, h.2.1.sub is hn h2, h.2.2⟩
end LKT
theorem sJ_0 (fo : Nat → Int64) (v : Int64) : sJ 1 fo 0 v = some (vp_updL fo 0 v) := by
  unfold sJ
  rw [if_neg (by decide)]
  rfl
theorem gJ_0 (fo : Nat → Int64) (v : Int64) : gJ 1 (vp_updL fo 0 v) 0 = some v := by
  unfold gJ
  rw [if_neg (by decide)]
  rfl
theorem cmp_self (v : Int64) : lg_cmp v v = 0 := by
  unfold lg_cmp
  rw [if_neg, if_pos rfl]
  intro h
  have h2 : v < v := h
  rw [Int64.lt_iff_toInt_lt] at h2
  omega
