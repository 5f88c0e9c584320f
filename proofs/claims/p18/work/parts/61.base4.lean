/-! Methods with handlers: the law's helpers. -/
abbrev MIn {S : Type} (l : Launch) (y : MethodName) (wsy : List Cond) (rm : Room) (E : EnvT) (sz : Nat) (args : List Value) (wc : va_W) (post : Int32 → S → Prop) (w1 : S → va_W) (mc ms : Nat) : Prop :=
  Met l y wsy rm (va_Pc args (Pre E wc sz)) (va_Qi post (Wd E wc sz w1) (va_A wc sz)) mc ms (va_A wc sz)
section KH
variable {p : Program} {l : Launch} {e : Env} {R : Room} {s : State} {m : MethodId} {args : Array Value} {below : List Frame} {meth : Method} {c : Code} {H : Heap} {locs : List Loc} {Q : State → Prop}
variable {pc : Nat} {ls : Array Slot} {rest st0 : List Value} {cc : ByteArray} {E : EnvT} {A : Nat → Prop} {a9 : Array Value} {mc ms : Nat}
theorem enIw {S : Type} {y : MethodName} {wsy ws' : List Cond} {rm : Room} {ret : FieldType} {hh : List (Nat × Nat × Nat × Nat)} {sz maxL : Nat} {As : List Value} {wc : va_W} {post : Int32 → S → Prop} {w1 : S → va_W} (hy : plainName y.cls = true) (hw : wsy = .codeWith y cc maxL (some ret) hh :: ws') (hlen : (lg_sl As).length ≤ maxL)
    (k : ∀ (p : Program) (e : Env) (s : State) (m : MethodId) (below : List Frame) (meth : Method) (c : Code) (A : Nat → Prop) (ls : Array Slot), p.tables.exec = Jvm.exec → c.code = cc → meth.sig.returnType = some ret → c.maxLocals = maxL → (∀ w ∈ wsy, w.before As.toArray s = true) → s.vm.findClass y.cls = some m.cls → meth.locks = false → c.exceptionTable.toList = tableOf hh → va_A wc s.heap.size = A → Cx E A s → va_P E.1 vwCl wc s.heap → va_D A wc → va_S A s.heap s.heap [] → lv_has ls maxL (lv_args 0 As) →
      W p l e rm s m As.toArray below meth c s.heap [] 0 0 (MQ below (va_Qi post (Wd E wc s.heap.size w1) A) As.toArray s mc ms A) (F0 m 0 ls [])) : MIn l y wsy rm E sz As wc post w1 mc ms := by
  refine MetFree.of_bodyS (code := cc) (maxLocals := maxL) (ret := some ret) hy ?_ ?_
  · intro args s m h hn
    obtain ⟨m9, meth, c, hn9, h1, h2, h3, h4, -, h5, h6, -⟩ := Cond.codeWith_spec (atoms_spec (ws := wsy) h _ (by rw [hw]; exact List.mem_cons_self))
    cases hn.symm.trans hn9
    exact ⟨meth, c, h1, h2, h3, h4, h5, h6⟩
  · intro p e s m args below meth c s₁ B hml hv _
    have hh0 : s₁.heap = s.heap := by rw [B.state]; rfl
    have hts := atoms_spec (ws := wsy) B.pre
    have htab := vx_table (x := y) B (hts _ (by rw [hw]; exact List.mem_cons_self))
    obtain ⟨rfl, hsz, hP, hK, hD, hs, hE⟩ := hv
    subst hsz
    have K : W p l e rm s m As.toArray below meth c s.heap [] 0 0 (MQ below (va_Qi post (Wd E wc s.heap.size w1) (va_A wc s.heap.size)) As.toArray s mc ms (va_A wc s.heap.size)) (entryFrame m As.toArray maxL) := by
      rw [lg_entry_eq]
      refine k p e s m below meth c _ _ B.exec B.bytes B.returns hml hts (findClass_of_methodNamed B.named) B.notSynchronized htab rfl ⟨hK, fun q h => ?_, fun q h => Or.inr h, hE, hs⟩ hP hD.self va_S.rf (lv_entry As hlen)
      rcases h with ⟨k, e9, h⟩ | h
      · exact hD.2 k (q, e9) h
      · exact Nat.le_trans hs h
    obtain ⟨t, a1, o, b1, b2, b3⟩ := K s₁ hh0 (Stand.of_body B)
    exact ⟨t, o, a1, b1, b2, b3⟩
theorem exIn {S : Type} {wc : va_W} {post : Int32 → S → Prop} {w1 : S → va_W} {v : Int32} (hx : p.tables.exec = Jvm.exec) (hb : c.code = cc) (hr : meth.sig.returnType = some .int) (hlocks : meth.locks = false) (hAe : va_A wc s.heap.size = A) (hS : va_S A s.heap H locs) (u : S) (hp : post v u) (hP : va_P E.1 vwCl (w1 u) H) (hD : va_D A (w1 u)) (hdg : decode cc pc = .ok (.ireturn, 1)) : W p l e R s m args below meth c H locs mc ms (MQ below (va_Qi post (Wd E wc s.heap.size w1) A) args s mc ms A) (F0 m pc ls [.int v]) := by
  subst hAe
  exact W.iret hx hb hr (fun t ht hW => ⟨⟨v, u, rfl, hp, by rw [ht]; exact hP, hD⟩, hS.F ht⟩) hS.2.2 hdg hlocks
/-- a call that throws, caught here -/
theorem kcC {wo wc wr : va_W} {xo xn nm own : String} (hxn : xo = xn) (hr9 : vx_Run p l e R s m args below meth c H locs 0 0 1 6 (F0 m pc ls st0) rest (qF a9) (xX E wc H.size xo (va_A wc H.size)) (va_A wc H.size)) (hown : s.vm.findClass own = some m.cls)
    (pre : List ExceptionTableEntry) (x : ExceptionTableEntry) (suf : List ExceptionTableEntry) (hsplit : c.exceptionTable.toList = pre ++ x :: suf) (hpass : ∀ z ∈ pre, covers z pc = false ∨ (z.catchType ≠ 0 ∧ ∃ nm : String, (Cond.classLink own z.catchType nm).before args s = true ∧ va_Nc xn nm s)) (hcov : covers x pc = true) (h0 : x.catchType ≠ 0)
    (hlink : (Cond.classLink own x.catchType nm).before args s = true) (hcast : (Cond.castable xn nm).before args s = true)
    (C0 : Cx E A s) (hP : va_P E.1 vwCl wo H) (hD : va_D A wo) (hS : va_S A s.heap H locs) (isC isR isP : List Nat) (hC : isC.map (fun i => wo[i]?) = wc.map some) (hR : isR.map (fun i => wo[i]?) = wr.map some) (hn : va_nd isR = true) (hdis : ∀ i ∈ isR, i ∉ isC) (hPm : isP.map (fun i => (wr ++ wc)[i]?) = wo.map some) (hPn : va_nd isP = true)
    (kk : ∀ (q : Nat) (H1 : Heap) (locs1 : List Loc), va_P E.1 vwCl wo H1 → va_D A wo → va_S A s.heap H1 locs1 → W p l e R s m args below meth c H1 locs1 1 6 Q (F0 m x.handlerPc ls [.ref q])) : W p l e R s m args below meth c H locs 0 0 Q (F0 m pc ls st0) := by
  subst hxn
  intro T hT X
  rcases hr9 T hT X with ⟨v, st₀, t, T', L, h9, X', hL, e1, e2, h8, st⟩ | ⟨q, st₀, t, T', L, En, ce, h9, X', hL, e1, e2, ⟨u, hp, ⟨hEn, hB⟩, hF⟩, hce, hcv, hcl, st⟩
  · exact h8.elim
  · subst hEn
    have hF1 := va_free hD hS C0.2.2.1 isC hC
    obtain ⟨k1, k2, k3⟩ := vx_keep h9 e1 hS (fun q _ h => hF1 q h) hF1 hL hF
    obtain ⟨h1, h2⟩ := jn (u := u) (w1 := fun _ : Unit => wc) (w2 := fun _ : Unit => wo) C0 hP hD hS isC isR isP hC hR hn hdis hPm hPn e1.symm k2 hB
    obtain ⟨t2, a1, b1⟩ := vx_catch (rest := rest) (H := T'.heap) (locs := locs ++ L) (cells := 0 + 1) (slots := 0 + 6) (Q := Q) (ls := ls) (q := q) hown pre x suf hsplit hpass hcov h0 hlink hcast (by rw [e1]; exact hce) hcv hcl (kk q T'.heap _ h1 h2 k3) T' rfl X'
    exact ⟨t2, st.trans a1, b1⟩
end KH
