/-! Methods that throw, where they do. -/
abbrev xX (E : EnvT) (wc : va_W) (sz : Nat) (xn : String) (A : Nat → Prop) : String → State → State → Prop :=
  vx_X (fun _ : Unit => True) (fun En u t => En = xn ∧ Wd E wc sz (fun _ : Unit => wc) u t) A
abbrev qF : Array Value → State → Outcome → State → Prop := fun _ _ _ _ => False
abbrev MX (l : Launch) (y : MethodName) (wsy : List Cond) (rm : Room) (E : EnvT) (sz : Nat) (args : List Value) (wc : va_W) (xn : String) : Prop :=
  vx_Met l y wsy rm (va_Pc args (Pre E wc sz)) qF (xX E wc sz xn (va_A wc sz)) 1 6 (va_A wc sz)
def xN (c : Nat) : String := if c = 1 then xI else if c = 2 then xA else xS
abbrev xnm : List String := ["java/lang/RuntimeException", "java/lang/Exception"]
theorem dcl_of {args : Array Value} {s : State} {y : MethodName} {b : ByteArray} {n : Nat} {r : Option FieldType} (h1 : (Cond.instanceMethod y).before args s = true) (h2 : (Cond.code y b n r).before args s = true) : (Cond.declares y).before args s = true := by
  obtain ⟨obj, methO, hnO, hmO, hstO, habO⟩ := Cond.instanceMethod_spec h1
  obtain ⟨methO', cO, hmO', hcO, hbO, hlO, -, hlockO, -, hsigO⟩ := Cond.code_spec hnO h2
  cases hmO.symm.trans hmO'
  show (Cond.declares y).holds args s none s [] = true
  simp [Cond.holds, Cond.value, hnO, hmO, hstO, hsigO]
section KX
variable {p : Program} {l : Launch} {e : Env} {R : Room} {s : State} {m : MethodId} {args : Array Value} {below : List Frame} {meth : Method} {c : Code} {H : Heap} {locs : List Loc}
variable {pc : Nat} {ls : Array Slot} {rest st0 : List Value} {cc : ByteArray} {E : EnvT} {A : Nat → Prop} {a9 : Array Value}
theorem enX {y : MethodName} {wsy ws' : List Cond} {rm : Room} {ret : Option FieldType} {sz maxL : Nat} {As : List Value} {wc : va_W} {xn : String} (hy : plainName y.cls = true) (hw : wsy = .code y cc maxL ret :: ws') (hlen : (lg_sl As).length ≤ maxL)
    (k : ∀ (p : Program) (e : Env) (s : State) (m : MethodId) (below : List Frame) (meth : Method) (c : Code) (A : Nat → Prop) (ls : Array Slot), p.tables.exec = Jvm.exec → c.code = cc → (∀ x ∈ c.exceptionTable.toList, False) → c.maxLocals = maxL → (∀ w ∈ wsy, w.before As.toArray s = true) → s.vm.findClass y.cls = some m.cls → meth.locks = false → va_A wc s.heap.size = A → Cx E A s → va_P E.1 vwCl wc s.heap → va_D A wc → va_S A s.heap s.heap [] → lv_has ls maxL (lv_args 0 As) →
      W p l e rm s m As.toArray below meth c s.heap [] 0 0 (vx_MQ below qF (xX E wc s.heap.size xn A) As.toArray s 1 6 A) (F0 m 0 ls [])) : MX l y wsy rm E sz As wc xn := by
  refine vx_ofW (cc := cc) (maxL := maxL) (ret := ret) hy hw ?_
  intro p e s m args below meth c s₁ B hml ht hv
  obtain ⟨rfl, hsz, hP, hK, hD, hs, hE⟩ := hv
  subst hsz
  rw [lg_entry_eq]
  refine k p e s m below meth c _ _ B.exec B.bytes ht hml (atoms_spec (ws := wsy) B.pre) (findClass_of_methodNamed B.named) B.notSynchronized rfl ⟨hK, fun q h => ?_, fun q h => Or.inr h, hE, hs⟩ hP hD.self va_S.rf (lv_entry As hlen)
  rcases h with ⟨k, e9, h⟩ | h
  · exact hD.2 k (q, e9) h
  · exact Nat.le_trans hs h
/-- a call that throws: on to the caller -/
theorem kcX {wo wc wr : va_W} {xo xn : String} (hxn : xo = xn) (hr9 : vx_Run p l e R s m args below meth c H locs 0 0 1 6 (F0 m pc ls st0) rest (qF a9) (xX E wc H.size xn (va_A wc H.size)) (va_A wc H.size)) (hr : ∀ x ∈ c.exceptionTable.toList, False) (hlocks : meth.locks = false) (hAe : va_A wo s.heap.size = A) (C0 : Cx E A s) (hP : va_P E.1 vwCl wo H) (hD : va_D A wo) (hS : va_S A s.heap H locs) (isC isR isP : List Nat) (hC : isC.map (fun i => wo[i]?) = wc.map some) (hR : isR.map (fun i => wo[i]?) = wr.map some) (hn : va_nd isR = true) (hdis : ∀ i ∈ isR, i ∉ isC) (hPm : isP.map (fun i => (wr ++ wc)[i]?) = wo.map some) (hPn : va_nd isP = true) : W p l e R s m args below meth c H locs 0 0 (vx_MQ below qF (xX E wo s.heap.size xo A) args s 1 6 A) (F0 m pc ls st0) := by
  subst hxn
  intro T hT X
  rcases hr9 T hT X with ⟨v, st₀, t, T', L, h0, X', hL, e1, e2, h9, st⟩ | ⟨q, st₀, t, T', L, En, ce, h0, X', hL, e1, e2, ⟨u, hp, ⟨hEn, hB⟩, hF⟩, hce, hcv, hcl, st⟩
  · exact h9.elim
  · have hF1 := va_free hD hS C0.2.2.1 isC hC
    obtain ⟨k1, k2, k3⟩ := vx_keep h0 e1 hS (fun q _ h => hF1 q h) hF1 hL hF
    obtain ⟨h1, h2⟩ := jn (u := u) (w1 := fun _ : Unit => wc) (w2 := fun _ : Unit => wo) C0 hP hD hS isC isR isP hC hR hn hdis hPm hPn e1.symm k2 hB
    subst hAe
    obtain ⟨t2, a1, b1⟩ := vx_out (Qc := qF) (XC := xX E wo s.heap.size xo (va_A wo s.heap.size)) (E := En) (ce := ce) (H := T'.heap) (q := q) (rest := rest) (pc := pc) (ls := ls) (mc := 1) (ms := 6) (free := va_A wo s.heap.size) (fun x hx => (hr x hx).elim) hlocks (by rw [e1]; exact hce) hcv hcl (fun t9 ht9 _ => ⟨(), trivial, ⟨hEn, by rw [ht9]; exact h1, h2⟩, k3.F ht9⟩) k3.2.2 (Nat.le_refl _) (Nat.le_refl _) T' rfl X'
    exact ⟨t2, st.trans a1, b1⟩
/-- throw new X(text) -/
theorem thX {wo : va_W} {xo xn text : String} {ik is ic : Nat} (hxn : xo = xn) (hx : p.tables.exec = Jvm.exec) (hb : c.code = cc) (hst : l.stackTraces = false) (hown : s.vm.findClass RX3 = some m.cls) (hk : (Cond.classLink RX3 ik xn).before args s = true) (hini : (Cond.initialized xn).before args s = true)
    (hg : ∀ w ∈ (vx_atS RX3 ic xn xnm).filter goodWord, w.before args s = true) (hgood : ∀ w ∈ Cond.classLink RX3 ik xn :: Cond.initialized xn :: vx_atS RX3 ic xn xnm, vx_ot w = true) (hbad : ∀ w ∈ (vx_atS RX3 ic xn xnm).filter (fun w => !goodWord w), w ∈ [Cond.castable xn xn, Cond.declares (Bundle.initS "java/lang/RuntimeException"), Cond.declares (Bundle.initS "java/lang/Exception"), Cond.declares (Bundle.initS Bundle.tN)])
    (hd1 : ∀ w ∈ [Cond.instanceMethod (Bundle.initS "java/lang/RuntimeException"), Cond.code (Bundle.initS "java/lang/RuntimeException") Bundle.six 2 none, Cond.instanceMethod (Bundle.initS "java/lang/Exception"), Cond.code (Bundle.initS "java/lang/Exception") Bundle.six 2 none, Cond.instanceMethod (Bundle.initS Bundle.tN), Cond.code (Bundle.initS Bundle.tN) LibCode.Throwable.InitS.code 2 none], w ∈ (vx_atS RX3 ic xn xnm).filter goodWord) (hfit : Bundle.fit xn = true) (hxs : xn ∈ [xA, xS, xI])
    (htx : ∃ sa, vk_R RX3 is text sa s) (hr : ∀ x ∈ c.exceptionTable.toList, False) (hlocks : meth.locks = false) (hAe : va_A wo s.heap.size = A) (C0 : Cx E A s) (hP : va_P E.1 vwCl wo H) (hD : va_D A wo) (hS : va_S A s.heap H locs) (hsize : ls.size = c.maxLocals)
    (d0 : decode cc pc = .ok (.new ik, 3)) (d3 : decode cc (pc + 3) = .ok (.dup, 1)) (d4 : decode cc (pc + 4) = .ok (.ldc is, 2)) (d6 : decode cc (pc + 6) = .ok (.invokespecial ic, 3)) (d9 : decode cc (pc + 9) = .ok (.athrow, 1))
    (hRf : 5 < R.frames) (hRl : 82 ≤ R.locals) (hRc : 1 ≤ R.cells) (hRs : 6 ≤ R.slots) : W p l e R s m args below meth c H locs 0 0 (vx_MQ below qF (xX E wo s.heap.size xo A) args s 1 6 A) (F0 m pc ls []) := by
  subst hxn
  obtain ⟨sa, htx⟩ := htx
  have hE := C0.2.2.2.1
  have hca : (Cond.castable xo xo).before args s = true := va_Nw.use rfl (hE.2.2.2.2.1 xo hxs)
  have hm : ∀ w ∈ [Cond.instanceMethod (Bundle.initS "java/lang/RuntimeException"), Cond.code (Bundle.initS "java/lang/RuntimeException") Bundle.six 2 none, Cond.instanceMethod (Bundle.initS "java/lang/Exception"), Cond.code (Bundle.initS "java/lang/Exception") Bundle.six 2 none, Cond.instanceMethod (Bundle.initS Bundle.tN), Cond.code (Bundle.initS Bundle.tN) LibCode.Throwable.InitS.code 2 none], w.before args s = true := fun w h => hg w (hd1 w h)
  have hq1 := dcl_of (hm _ (by decide +kernel)) (hm (Cond.code (Bundle.initS "java/lang/RuntimeException") Bundle.six 2 none) (by decide +kernel))
  have hq2 := dcl_of (hm _ (by decide +kernel)) (hm (Cond.code (Bundle.initS "java/lang/Exception") Bundle.six 2 none) (by decide +kernel))
  have hq3 := dcl_of (hm _ (by decide +kernel)) (hm (Cond.code (Bundle.initS Bundle.tN) LibCode.Throwable.InitS.code 2 none) (by decide +kernel))
  have hS9 : va_S (fun q => eB E ≤ q) s.heap H locs := ⟨hS.1, fun q h1 h2 => hS.2.1 q h1 (fun z => h2 (C0.2.1 q z)), fun z hz => C0.2.1 _ (hS.2.2 z hz)⟩
  subst hAe
  refine vx_throwS (A := fun q => eB E ≤ q) (names := xnm) (sa := sa) (text := text) (rest := []) hx hb hst hown hfit (by decide +kernel) hk hini htx (vx_hat hg hbad (vx_c hca (vx_c hq1 (vx_c hq2 (vx_c hq3 vx_n))))) hgood hE.2.2.1.1 hE.2.2.1.2 hS9 hsize d0 d3 d4 d6 d9 (fun x hx => (hr x hx).elim) hRf hRl (by omega) (by omega) hlocks ?_ hS.2.2 (Nat.le_refl _) (Nat.le_refl _)
  intro t _ hz hk9
  have hkk : ∀ (k : Nat) (x : Nat × va_E), wo[k]? = some x → t.heap[x.1]? = H[x.1]? := fun k x hx => hk9 x.1 ((hP k x hx).lt)
  exact ⟨(), trivial, ⟨rfl, hP.kept hkk, hD⟩, ⟨Nat.le_trans hS.1 hz, fun q h1 h2 => (hk9 q (Nat.lt_of_lt_of_le h1 hS.1)).trans (hS.2.1 q h1 h2)⟩⟩
end KX
theorem pI_iff {x : Int32} {n : Nat} (hn : n < 2 ^ 31) : (nI 0 ≤ x ∧ x ≤ cL n) ↔ (¬ x < 0 ∧ x < nI n) := by
  rw [Int32.le_iff_toInt_le, Int32.le_iff_toInt_le, Int32.lt_iff_toInt_lt, Int32.lt_iff_toInt_lt, nI_toInt (n := n) hn, show (nI 0 : Int32).toInt = 0 from rfl, show (0 : Int32).toInt = 0 from rfl]
  have h : (cL n).toInt = (n : Int) - 1 := by
    cases n with
    | zero => decide
    | succ n => rw [cL_s, nI_toInt (by omega)]; omega
  rw [h]
  omega
