/-! The ground that all contracts of this claim stand on: the environment that never changes, worlds, calls in one row, numbers as Nat. -/
abbrev EnvT : Type := va_G × ClassId × ClassId × Nat × (Nat → Nat)
abbrev TY (E : EnvT) : List (ClassId × FieldType) := [(E.2.1, .int), (E.2.2.1, .long)]
abbrev eB (E : EnvT) : Nat := E.2.2.2.1
abbrev eT (E : EnvT) : Nat → Nat := E.2.2.2.2
abbrev ia (E : EnvT) (g : Nat → Int32) (n : Nat) (F : Nat → Nat) : va_E := .inl (E.2.1, n, .inl (fun k => g (F k)))
abbrev ja (E : EnvT) (n : Nat) (F : Nat → Int64) : va_E := .inl (E.2.2.1, n, .inr (.inl F))
def cL (n : Nat) : Int32 := nI n - 1
def cD (n : Nat) : Int32 := if n = 0 then 0 else if n = 1 then 1 else -1
def cO (n : Nat) : Int32 := nI n - nI 8
def stN : Nat → String
  | 0 => "INPUTS"
  | 1 => "OUTPUTS"
  | 2 => "LEAST_FIRST"
  | 3 => "MOST_FIRST"
  | _ => "MOST_SECOND"
def stV : Nat → Nat → Nat
  | 0, j => ([0, 1, 2, 2, 1, 1] : List Nat).getD j 0
  | 1, j => ([1, 1, 2, 2, 1, 0] : List Nat).getD j 0
  | 2, j => ([0, 1, 0, 0, 0, 0] : List Nat).getD j 0
  | 3, j => ([7, 8, 0, 7, 0, 0] : List Nat).getD j 0
  | _, j => ([999, 100, 100, 99, 255, 0] : List Nat).getD j 0
def xA : String := "java/lang/IllegalArgumentException"
def xS : String := "java/lang/IllegalStateException"
def xI : String := "java/lang/IndexOutOfBoundsException"
def nwW : Cond := .methodLinkNest RX1 123 yX3_portOf RX3
/-- what never changes while the law runs: the statics' rows, the links between nest mates, the texts, which exceptions are which, the script -/
def Ev (B : Nat) (t : Nat → Nat) (U : State) (H : Heap) : Prop :=
  (∀ k, k < 5 → va_Z RX3 (stN k) "[I" (.ref (t k)) (fun q => B ≤ q) U H ∧ va_T .int (t k) 6 (fun j => .int (nI (stV k j))) (fun q => B ≤ q) U H) ∧
  va_Nw nwW U ∧
  (vx_Zq Bundle.tN "UNASSIGNED_STACK" Bundle.steD (fun q => B ≤ q) U H ∧ vx_Zq Bundle.tN "SUPPRESSED_SENTINEL" Bundle.listD (fun q => B ≤ q) U H) ∧
  (∀ q ∈ ([(192, "an argument out of its range"), (64, "no room for another part"), (177, "no such part"), (183, "no such output"), (188, "no such input"), (98, "another output leads to that input"), (190, "a part of another kind"), (115, "more ticks than may go by"), (135, "a need below 0")] : List (Nat × String)), ∃ sa, vk_R RX3 q.1 q.2 sa U) ∧
  (∀ X ∈ [xA, xS, xI], va_Nw (.castable X X) U) ∧
  (va_T .int (t 5) (t 6) (fun j => .int (nI (t (7 + j)))) (fun q => B ≤ q) U H ∧ (∀ j, t (7 + j) < 2 ^ 32) ∧ t 6 ≤ 260)
theorem Ev.go {B : Nat} {t : Nat → Nat} {s U : State} {H : Heap} (h : Ev B t s s.heap) (hW : s.WarmedH U.vm) (hq : ∀ a : Nat, a < s.heap.size → ¬ B ≤ a → H[a]? = s.heap[a]?) : Ev B t U H := by
  obtain ⟨h1, h2, ⟨h3, h4⟩, h5, h6, h7⟩ := h
  refine ⟨fun k hk => ⟨va_Z.moved hW.alike ((h1 k hk).1.kept hq), va_T.moved hW.alike ((h1 k hk).2.kept hq)⟩, va_Nw.warmM hW h2, ⟨vx_Zq.moved hW.alike (h3.kept hq), vx_Zq.moved hW.alike (h4.kept hq)⟩, fun q hq => ?_, fun X hX => va_Nw.warmC hW (h6 X hX), ⟨va_T.moved hW.alike (h7.1.kept hq), h7.2⟩⟩
  obtain ⟨sa, h⟩ := h5 q hq
  exact ⟨sa, vk_R.warm hW h⟩
/-- what a method may build on while it runs -/
def Cx (E : EnvT) (A : Nat → Prop) (s : State) : Prop :=
  va_K E.1 vwCl (TY E) s ∧ (∀ q, A q → eB E ≤ q) ∧ (∀ q, s.heap.size ≤ q → A q) ∧ Ev (eB E) (eT E) s s.heap ∧ eB E ≤ s.heap.size
/-- a method's start: the cells that it works on, and the environment -/
def Pre (E : EnvT) (wc : va_W) (sz : Nat) : State → Prop := fun U =>
  U.heap.size = sz ∧ va_P E.1 vwCl wc U.heap ∧ va_K E.1 vwCl (TY E) U ∧ va_D (fun q => eB E ≤ q) wc ∧ eB E ≤ sz ∧ Ev (eB E) (eT E) U U.heap
theorem Pre.blind {E : EnvT} {wc : va_W} {sz : Nat} {As : List Value} : FrameBlind (va_Pc As (Pre E wc sz)) := by
  intro a U g mk h
  obtain ⟨h0, h1, h2, h3, h4, h5, h6⟩ := h
  exact ⟨h0, h1, h2, va_K.moved (u := U) (U := U.calling g mk a) (Vm.Alike.refl U.vm) h3, h4, h5, h6.go (State.WarmedH.refl U) (fun _ _ _ => rfl)⟩
theorem Pre.at {E : EnvT} {A : Nat → Prop} {s : State} {wc : va_W} {H : Heap} {locs : List Loc} {As : List Value} (C0 : Cx E A s) (hP : va_P E.1 vwCl wc H) (hD : va_D A wc) (hS : va_S A s.heap H locs) : ∀ U : State, U.heap = H → s.WarmedH U.vm → va_Pc As (Pre E wc H.size) As.toArray U := by
  intro U hU hW
  obtain ⟨hK, hB, hA, hE, hs⟩ := C0
  refine ⟨rfl, by rw [hU], by rw [hU]; exact hP, va_K.moved hW.alike hK, hD.weaken (fun _ _ _ h => hB _ h), Nat.le_trans hs hS.1, ?_⟩
  rw [hU]
  exact hE.go hW (fun a h1 h2 => hS.2.1 a h1 (fun z => h2 (hB _ z)))
theorem preS {E : EnvT} {A : Nat → Prop} {s : State} {wc : va_W} {H : Heap} {locs : List Loc} {As : List Value} (C0 : Cx E A s) (hP : va_P E.1 vwCl wc H) (hD : va_D A wc) (hS : va_S A s.heap H locs) : PreS s H (va_Pc As (Pre E wc H.size)) As := ⟨Pre.blind, Pre.at C0 hP hD hS⟩
theorem preV {E : EnvT} {A : Nat → Prop} {s : State} {wc : va_W} {H : Heap} {locs : List Loc} {As : List Value} {b : Nat} (C0 : Cx E A s) (hP : va_P E.1 vwCl wc H) (hD : va_D A wc) (hS : va_S A s.heap H locs) (q0 : Nat) {ci : Nat} {q : vw_C} {fs : List Value} (hc : vwCl[ci]? = some q) (he : wc[q0]? = some (b, .inr (ci, fs))) : PreV s H q.1 b (va_Pc (.ref b :: As) (Pre E wc H.size)) As := ⟨Pre.blind, va_recv C0.1 hP hc he, Pre.at C0 hP hD hS⟩
/-- the world behind a method: its cells as they are now -/
abbrev Wd {S : Type} (E : EnvT) (wc : va_W) (sz : Nat) (w1 : S → va_W) : S → State → Prop := fun u t => va_P E.1 vwCl (w1 u) t.heap ∧ va_D (va_A wc sz) (w1 u)
abbrev MV {S : Type} (l : Launch) (y : MethodName) (wsy : List Cond) (rm : Room) (E : EnvT) (sz : Nat) (args : List Value) (wc : va_W) (post : S → Prop) (w1 : S → va_W) : Prop :=
  Met l y wsy rm (va_Pc args (Pre E wc sz)) (va_Qv post (Wd E wc sz w1) (va_A wc sz)) 0 0 (va_A wc sz)
abbrev MI {S : Type} (l : Launch) (y : MethodName) (wsy : List Cond) (rm : Room) (E : EnvT) (sz : Nat) (args : List Value) (wc : va_W) (post : Int32 → S → Prop) (w1 : S → va_W) : Prop :=
  Met l y wsy rm (va_Pc args (Pre E wc sz)) (va_Qi post (Wd E wc sz w1) (va_A wc sz)) 0 0 (va_A wc sz)
abbrev ML {S : Type} (l : Launch) (y : MethodName) (wsy : List Cond) (rm : Room) (E : EnvT) (sz : Nat) (args : List Value) (wc : va_W) (post : Int64 → S → Prop) (w1 : S → va_W) : Prop :=
  Met l y wsy rm (va_Pc args (Pre E wc sz)) (va_Ql post (Wd E wc sz w1) (va_A wc sz)) 0 0 (va_A wc sz)
theorem mapSub {α : Type} : ∀ (is : List Nat) (ws ws' : List α), is.map (fun i => ws[i]?) = ws'.map some → is.filterMap (fun i => ws[i]?) = ws'
  | [], _, [], _ => rfl
  | [], _, _ :: _, h => by simp at h
  | _ :: _, _, [], h => by simp at h
  | i :: is, ws, a :: l, h => by
    simp only [List.map_cons, List.cons.injEq] at h
    rw [List.filterMap_cons, h.1]
    exact congrArg (List.cons a) (mapSub is ws l h.2)
theorem va_P.pick {D : va_G} {cl : List vw_C} {ws ws' : va_W} {H : Heap} (h : va_P D cl ws H) (is : List Nat) (hs : is.map (fun i => ws[i]?) = ws'.map some) : va_P D cl ws' H := h.sub is (mapSub is ws ws' hs)
/-- Met.ofW for methods of any class that no native row overrides -/
theorem ofWF {l : Launch} {y : MethodName} {ws ws' : List Cond} {rm : Room} {Pc : Array Value → State → Prop} {Qc : Array Value → State → Outcome → State → Prop} {mc ms : Nat} {free : Addr → Prop} {cc : ByteArray} {maxL : Nat} {ret : Option FieldType}
    (hy : plainFor y = true) (hw : ws = Cond.code y cc maxL ret :: ws')
    (body : ∀ p e s m args below meth c s₁, BodyLoose p l y (headSpec ws rm) cc maxL ret e s m args below meth c s₁ → c.maxLocals = maxL → Pc args s →
      W p l e (headSpec ws rm).room s m args below meth c s.heap [] 0 0 (MQ below Qc args s mc ms free) (entryFrame m args maxL)) : Met l y ws rm Pc Qc mc ms free := by
  refine MetFree.of_bodySF (code := cc) (maxLocals := maxL) (ret := ret) hy ?_ ?_
  · intro args s m h hn
    obtain ⟨meth, c, h1, h2, h3, h4, h5, h6, -, -⟩ := Cond.code_spec hn (atoms_spec (ws := ws) h _ (by rw [hw]; exact List.mem_cons_self))
    exact ⟨meth, c, h1, h2, h3, h4, h5, h6⟩
  · intro p e s m args below meth c s₁ B hml hP _
    have hh0 : s₁.heap = s.heap := by rw [B.state]; rfl
    obtain ⟨t, a1, o, b1, b2, b3⟩ := body p e s m args below meth c s₁ B hml hP s₁ hh0 (Stand.of_body B)
    exact ⟨t, o, a1, b1, b2, ⟨b3.1, b3.2⟩⟩
section KW
variable {p : Program} {l : Launch} {e : Env} {R : Room} {s : State} {m : MethodId} {args : Array Value} {below : List Frame} {meth : Method} {c : Code} {H : Heap} {locs : List Loc} {cells slots : Nat} {Q : State → Prop}
variable {pc : Nat} {ls : Array Slot} {rest st0 : List Value} {cc : ByteArray} {E : EnvT} {A : Nat → Prop} {a9 : Array Value}
/-- a method's entry -/
theorem enV {S : Type} {y : MethodName} {wsy ws' : List Cond} {rm : Room} {sz maxL : Nat} {As : List Value} {wc : va_W} {post : S → Prop} {w1 : S → va_W} (hy : plainFor y = true) (hw : wsy = .code y cc maxL none :: ws') (hlen : (lg_sl As).length ≤ maxL)
    (k : ∀ (p : Program) (e : Env) (s : State) (m : MethodId) (below : List Frame) (meth : Method) (c : Code) (A : Nat → Prop) (ls : Array Slot), p.tables.exec = Jvm.exec → c.code = cc → meth.sig.returnType = none → c.maxLocals = maxL → (∀ w ∈ wsy, w.before As.toArray s = true) → s.vm.findClass y.cls = some m.cls → meth.locks = false → va_A wc s.heap.size = A → Cx E A s → va_P E.1 vwCl wc s.heap → va_D A wc → va_S A s.heap s.heap [] → lv_has ls maxL (lv_args 0 As) →
      W p l e rm s m As.toArray below meth c s.heap [] 0 0 (MQ below (va_Qv post (Wd E wc s.heap.size w1) A) As.toArray s 0 0 A) (F0 m 0 ls [])) : MV l y wsy rm E sz As wc post w1 := by
  refine ofWF (cc := cc) (maxL := maxL) (ret := none) hy hw ?_
  intro p e s m args below meth c s₁ B hml hv
  obtain ⟨rfl, hsz, hP, hK, hD, hs, hE⟩ := hv
  subst hsz
  rw [lg_entry_eq]
  refine k p e s m below meth c _ _ B.exec B.bytes B.returns hml (atoms_spec (ws := wsy) B.pre) (findClass_of_methodNamed B.named) B.notSynchronized rfl ⟨hK, fun q h => ?_, fun q h => Or.inr h, hE, hs⟩ hP hD.self va_S.rf (lv_entry As hlen)
  rcases h with ⟨k, e9, h⟩ | h
  · exact hD.2 k (q, e9) h
  · exact Nat.le_trans hs h
theorem enI {S : Type} {y : MethodName} {wsy ws' : List Cond} {rm : Room} {ret : FieldType} {sz maxL : Nat} {As : List Value} {wc : va_W} {post : Int32 → S → Prop} {w1 : S → va_W} (hy : plainFor y = true) (hw : wsy = .code y cc maxL (some ret) :: ws') (hlen : (lg_sl As).length ≤ maxL)
    (k : ∀ (p : Program) (e : Env) (s : State) (m : MethodId) (below : List Frame) (meth : Method) (c : Code) (A : Nat → Prop) (ls : Array Slot), p.tables.exec = Jvm.exec → c.code = cc → meth.sig.returnType = some ret → c.maxLocals = maxL → (∀ w ∈ wsy, w.before As.toArray s = true) → s.vm.findClass y.cls = some m.cls → meth.locks = false → va_A wc s.heap.size = A → Cx E A s → va_P E.1 vwCl wc s.heap → va_D A wc → va_S A s.heap s.heap [] → lv_has ls maxL (lv_args 0 As) →
      W p l e rm s m As.toArray below meth c s.heap [] 0 0 (MQ below (va_Qi post (Wd E wc s.heap.size w1) A) As.toArray s 0 0 A) (F0 m 0 ls [])) : MI l y wsy rm E sz As wc post w1 := by
  refine ofWF (cc := cc) (maxL := maxL) (ret := some ret) hy hw ?_
  intro p e s m args below meth c s₁ B hml hv
  obtain ⟨rfl, hsz, hP, hK, hD, hs, hE⟩ := hv
  subst hsz
  rw [lg_entry_eq]
  refine k p e s m below meth c _ _ B.exec B.bytes B.returns hml (atoms_spec (ws := wsy) B.pre) (findClass_of_methodNamed B.named) B.notSynchronized rfl ⟨hK, fun q h => ?_, fun q h => Or.inr h, hE, hs⟩ hP hD.self va_S.rf (lv_entry As hlen)
  rcases h with ⟨k, e9, h⟩ | h
  · exact hD.2 k (q, e9) h
  · exact Nat.le_trans hs h
theorem enL {S : Type} {y : MethodName} {wsy ws' : List Cond} {rm : Room} {sz maxL : Nat} {As : List Value} {wc : va_W} {post : Int64 → S → Prop} {w1 : S → va_W} (hy : plainFor y = true) (hw : wsy = .code y cc maxL (some .long) :: ws') (hlen : (lg_sl As).length ≤ maxL)
    (k : ∀ (p : Program) (e : Env) (s : State) (m : MethodId) (below : List Frame) (meth : Method) (c : Code) (A : Nat → Prop) (ls : Array Slot), p.tables.exec = Jvm.exec → c.code = cc → meth.sig.returnType = some .long → c.maxLocals = maxL → (∀ w ∈ wsy, w.before As.toArray s = true) → s.vm.findClass y.cls = some m.cls → meth.locks = false → va_A wc s.heap.size = A → Cx E A s → va_P E.1 vwCl wc s.heap → va_D A wc → va_S A s.heap s.heap [] → lv_has ls maxL (lv_args 0 As) →
      W p l e rm s m As.toArray below meth c s.heap [] 0 0 (MQ below (va_Ql post (Wd E wc s.heap.size w1) A) As.toArray s 0 0 A) (F0 m 0 ls [])) : ML l y wsy rm E sz As wc post w1 := by
  refine ofWF (cc := cc) (maxL := maxL) (ret := some .long) hy hw ?_
  intro p e s m args below meth c s₁ B hml hv
  obtain ⟨rfl, hsz, hP, hK, hD, hs, hE⟩ := hv
  subst hsz
  rw [lg_entry_eq]
  refine k p e s m below meth c _ _ B.exec B.bytes B.returns hml (atoms_spec (ws := wsy) B.pre) (findClass_of_methodNamed B.named) B.notSynchronized rfl ⟨hK, fun q h => ?_, fun q h => Or.inr h, hE, hs⟩ hP hD.self va_S.rf (lv_entry As hlen)
  rcases h with ⟨k, e9, h⟩ | h
  · exact hD.2 k (q, e9) h
  · exact Nat.le_trans hs h
/-- a method's end -/
theorem exV {S : Type} {wc : va_W} {post : S → Prop} {w1 : S → va_W} (hx : p.tables.exec = Jvm.exec) (hb : c.code = cc) (hr : meth.sig.returnType = none) (hlocks : meth.locks = false) (hAe : va_A wc s.heap.size = A) (hS : va_S A s.heap H locs) (u : S) (hp : post u) (hP : va_P E.1 vwCl (w1 u) H) (hD : va_D A (w1 u)) (hdg : decode cc pc = .ok (.return_, 1)) : W p l e R s m args below meth c H locs 0 0 (MQ below (va_Qv post (Wd E wc s.heap.size w1) A) args s 0 0 A) (F0 m pc ls []) := by
  subst hAe
  exact W.vret hx hb hr (fun t ht hW => ⟨⟨u, rfl, hp, by rw [ht]; exact hP, hD⟩, hS.F ht⟩) hS.2.2 hdg hlocks
theorem exI {S : Type} {wc : va_W} {post : Int32 → S → Prop} {w1 : S → va_W} {v : Int32} (hx : p.tables.exec = Jvm.exec) (hb : c.code = cc) (hr : meth.sig.returnType = some .int) (hlocks : meth.locks = false) (hAe : va_A wc s.heap.size = A) (hS : va_S A s.heap H locs) (u : S) (hp : post v u) (hP : va_P E.1 vwCl (w1 u) H) (hD : va_D A (w1 u)) (hdg : decode cc pc = .ok (.ireturn, 1)) : W p l e R s m args below meth c H locs 0 0 (MQ below (va_Qi post (Wd E wc s.heap.size w1) A) args s 0 0 A) (F0 m pc ls [.int v]) := by
  subst hAe
  exact W.iret hx hb hr (fun t ht hW => ⟨⟨v, u, rfl, hp, by rw [ht]; exact hP, hD⟩, hS.F ht⟩) hS.2.2 hdg hlocks
theorem exZ {S : Type} {wc : va_W} {post : Int32 → S → Prop} {w1 : S → va_W} {v : Int32} (hx : p.tables.exec = Jvm.exec) (hb : c.code = cc) (hr : meth.sig.returnType = some .boolean) (hlocks : meth.locks = false) (hAe : va_A wc s.heap.size = A) (hS : va_S A s.heap H locs) (u : S) (hn : narrow .boolean (.int v) = .int v) (hp : post v u) (hP : va_P E.1 vwCl (w1 u) H) (hD : va_D A (w1 u)) (hdg : decode cc pc = .ok (.ireturn, 1)) : W p l e R s m args below meth c H locs 0 0 (MQ below (va_Qi post (Wd E wc s.heap.size w1) A) args s 0 0 A) (F0 m pc ls [.int v]) := by
  subst hAe
  exact W.zret hx hb hr hn (fun t ht hW => ⟨⟨v, u, rfl, hp, by rw [ht]; exact hP, hD⟩, hS.F ht⟩) hS.2.2 hdg hlocks
theorem exL {S : Type} {wc : va_W} {post : Int64 → S → Prop} {w1 : S → va_W} {v : Int64} (hx : p.tables.exec = Jvm.exec) (hb : c.code = cc) (hr : meth.sig.returnType = some .long) (hlocks : meth.locks = false) (hAe : va_A wc s.heap.size = A) (hS : va_S A s.heap H locs) (u : S) (hp : post v u) (hP : va_P E.1 vwCl (w1 u) H) (hD : va_D A (w1 u)) (hdg : decode cc pc = .ok (.lreturn, 1)) : W p l e R s m args below meth c H locs 0 0 (MQ below (va_Ql post (Wd E wc s.heap.size w1) A) args s 0 0 A) (F0 m pc ls [.long v]) := by
  subst hAe
  exact W.lret hx hb hr (fun t ht hW => ⟨⟨v, u, rfl, hp, by rw [ht]; exact hP, hD⟩, hS.F ht⟩) hS.2.2 hdg hlocks
/-- the world behind a call, in an order of one's own -/
theorem jn {S : Type} {ws wc wr : va_W} {w1 w2 : S → va_W} {u : S} {t : State} {H1 : Heap} (C0 : Cx E A s) (hP : va_P E.1 vwCl ws H) (hD : va_D A ws) (hS : va_S A s.heap H locs) (isC isR isP : List Nat) (hC : isC.map (fun i => ws[i]?) = wc.map some) (hR : isR.map (fun i => ws[i]?) = wr.map some) (hn : va_nd isR = true) (hdis : ∀ i ∈ isR, i ∉ isC) (hPm : isP.map (fun i => (wr ++ w1 u)[i]?) = (w2 u).map some) (hPn : va_nd isP = true)
    (ht : t.heap = H1) (hk : ∀ q : Nat, q < H.size → ¬ va_A wc H.size q → H1[q]? = H[q]?) (hB : Wd E wc H.size w1 u t) : va_P E.1 vwCl (w2 u) H1 ∧ va_D A (w2 u) := by
  obtain ⟨hP1, hD1⟩ := hB
  rw [ht] at hP1
  obtain ⟨hP9, hD9⟩ := va_join hP hD isC isR hC hR hn hdis hk (va_free hD hS C0.2.2.1 isC hC) hP1 hD1
  exact ⟨hP9.pick isP hPm, hD9.sub isP hPn hPm⟩
theorem kcV {S : Type} {ws wc wr : va_W} {post : S → Prop} {w1 w2 : S → va_W} (hr : va_Run p l e R s m args below meth c H locs cells slots 0 0 (F0 m pc ls st0) rest (va_Qv post (Wd E wc H.size w1) (va_A wc H.size) a9) (va_A wc H.size)) (C0 : Cx E A s) (hP : va_P E.1 vwCl ws H) (hD : va_D A ws) (hS : va_S A s.heap H locs) (isC isR isP : List Nat) (hC : isC.map (fun i => ws[i]?) = wc.map some) (hR : isR.map (fun i => ws[i]?) = wr.map some) (hn : va_nd isR = true) (hdis : ∀ i ∈ isR, i ∉ isC) (hPm : ∀ u, isP.map (fun i => (wr ++ w1 u)[i]?) = (w2 u).map some) (hPn : va_nd isP = true)
    (kk : ∀ (u : S) (H1 : Heap) (locs1 : List Loc), post u → va_P E.1 vwCl (w2 u) H1 → va_D A (w2 u) → va_S A s.heap H1 locs1 → W p l e R s m args below meth c H1 locs1 cells slots Q (F0 m (pc + 3) ls rest)) : W p l e R s m args below meth c H locs cells slots Q (F0 m pc ls st0) := by
  have hF := va_free hD hS C0.2.2.1 isC hC
  refine va_callv hr hS (fun q _ h => hF q h) hF (fun u t H1 locs1 ht _ hw hB _ hk hS1 => ?_)
  obtain ⟨h1, h2⟩ := jn (w2 := w2) C0 hP hD hS isC isR isP hC hR hn hdis (hPm u) hPn ht hk hB
  exact kk u H1 locs1 hw h1 h2 hS1
theorem kcI {S : Type} {ws wc wr : va_W} {post : Int32 → S → Prop} {w1 w2 : S → va_W} (hr : va_Run p l e R s m args below meth c H locs cells slots 0 0 (F0 m pc ls st0) rest (va_Qi post (Wd E wc H.size w1) (va_A wc H.size) a9) (va_A wc H.size)) (C0 : Cx E A s) (hP : va_P E.1 vwCl ws H) (hD : va_D A ws) (hS : va_S A s.heap H locs) (isC isR isP : List Nat) (hC : isC.map (fun i => ws[i]?) = wc.map some) (hR : isR.map (fun i => ws[i]?) = wr.map some) (hn : va_nd isR = true) (hdis : ∀ i ∈ isR, i ∉ isC) (hPm : ∀ u, isP.map (fun i => (wr ++ w1 u)[i]?) = (w2 u).map some) (hPn : va_nd isP = true)
    (kk : ∀ (r : Int32) (u : S) (H1 : Heap) (locs1 : List Loc), post r u → va_P E.1 vwCl (w2 u) H1 → va_D A (w2 u) → va_S A s.heap H1 locs1 → W p l e R s m args below meth c H1 locs1 cells slots Q (F0 m (pc + 3) ls (.int r :: rest))) : W p l e R s m args below meth c H locs cells slots Q (F0 m pc ls st0) := by
  have hF := va_free hD hS C0.2.2.1 isC hC
  refine va_calli hr hS (fun q _ h => hF q h) hF (fun r u t H1 locs1 ht _ hw hB _ hk hS1 => ?_)
  obtain ⟨h1, h2⟩ := jn (w2 := w2) C0 hP hD hS isC isR isP hC hR hn hdis (hPm u) hPn ht hk hB
  exact kk r u H1 locs1 hw h1 h2 hS1
theorem kcL {S : Type} {ws wc wr : va_W} {post : Int64 → S → Prop} {w1 w2 : S → va_W} (hr : va_Run p l e R s m args below meth c H locs cells slots 0 0 (F0 m pc ls st0) rest (va_Ql post (Wd E wc H.size w1) (va_A wc H.size) a9) (va_A wc H.size)) (C0 : Cx E A s) (hP : va_P E.1 vwCl ws H) (hD : va_D A ws) (hS : va_S A s.heap H locs) (isC isR isP : List Nat) (hC : isC.map (fun i => ws[i]?) = wc.map some) (hR : isR.map (fun i => ws[i]?) = wr.map some) (hn : va_nd isR = true) (hdis : ∀ i ∈ isR, i ∉ isC) (hPm : ∀ u, isP.map (fun i => (wr ++ w1 u)[i]?) = (w2 u).map some) (hPn : va_nd isP = true)
    (kk : ∀ (r : Int64) (u : S) (H1 : Heap) (locs1 : List Loc), post r u → va_P E.1 vwCl (w2 u) H1 → va_D A (w2 u) → va_S A s.heap H1 locs1 → W p l e R s m args below meth c H1 locs1 cells slots Q (F0 m (pc + 3) ls (.long r :: rest))) : W p l e R s m args below meth c H locs cells slots Q (F0 m pc ls st0) := by
  have hF := va_free hD hS C0.2.2.1 isC hC
  refine va_calll hr hS (fun q _ h => hF q h) hF (fun r u t H1 locs1 ht _ hw hB _ hk hS1 => ?_)
  obtain ⟨h1, h2⟩ := jn (w2 := w2) C0 hP hD hS isC isR isP hC hR hn hdis (hPm u) hPn ht hk hB
  exact kk r u H1 locs1 hw h1 h2 hS1
end KW
