/-! Methods that make cells; new arrays. -/
abbrev MVn {S : Type} (l : Launch) (y : MethodName) (wsy : List Cond) (rm : Room) (E : EnvT) (sz : Nat) (args : List Value) (wc : va_W) (post : S → Prop) (w1 : S → va_W) (mc ms : Nat) : Prop :=
  Met l y wsy rm (va_Pc args (Pre E wc sz)) (va_Qv post (Wd E wc sz w1) (va_A wc sz)) mc ms (va_A wc sz)
section KW2
variable {p : Program} {l : Launch} {e : Env} {R : Room} {s : State} {m : MethodId} {args : Array Value} {below : List Frame} {meth : Method} {c : Code} {H : Heap} {locs : List Loc} {cells slots : Nat} {Q : State → Prop}
variable {pc : Nat} {ls : Array Slot} {rest st0 : List Value} {cc : ByteArray} {E : EnvT} {A : Nat → Prop} {a9 : Array Value} {mc ms : Nat}
theorem enVn {S : Type} {y : MethodName} {wsy ws' : List Cond} {rm : Room} {sz maxL : Nat} {As : List Value} {wc : va_W} {post : S → Prop} {w1 : S → va_W} (hy : plainFor y = true) (hw : wsy = .code y cc maxL none :: ws') (hlen : (lg_sl As).length ≤ maxL)
    (k : ∀ (p : Program) (e : Env) (s : State) (m : MethodId) (below : List Frame) (meth : Method) (c : Code) (A : Nat → Prop) (ls : Array Slot), p.tables.exec = Jvm.exec → c.code = cc → meth.sig.returnType = none → c.maxLocals = maxL → (∀ w ∈ wsy, w.before As.toArray s = true) → s.vm.findClass y.cls = some m.cls → meth.locks = false → meth.name = y.name → va_A wc s.heap.size = A → Cx E A s → va_P E.1 vwCl wc s.heap → va_D A wc → va_S A s.heap s.heap [] → lv_has ls maxL (lv_args 0 As) →
      W p l e rm s m As.toArray below meth c s.heap [] 0 0 (MQ below (va_Qv post (Wd E wc s.heap.size w1) A) As.toArray s mc ms A) (F0 m 0 ls [])) : MVn l y wsy rm E sz As wc post w1 mc ms := by
  refine ofWF (cc := cc) (maxL := maxL) (ret := none) hy hw ?_
  intro p e s m args below meth c s₁ B hml hv
  obtain ⟨rfl, hsz, hP, hK, hD, hs, hE⟩ := hv
  subst hsz
  rw [lg_entry_eq]
  refine k p e s m below meth c _ _ B.exec B.bytes B.returns hml (atoms_spec (ws := wsy) B.pre) (findClass_of_methodNamed B.named) B.notSynchronized (name_of_methodNamed B.named B.method).1 rfl ⟨hK, fun q h => ?_, fun q h => Or.inr h, hE, hs⟩ hP hD.self va_S.rf (lv_entry As hlen)
  rcases h with ⟨k, e9, h⟩ | h
  · exact hD.2 k (q, e9) h
  · exact Nat.le_trans hs h
theorem exVn {S : Type} {wc : va_W} {post : S → Prop} {w1 : S → va_W} (hx : p.tables.exec = Jvm.exec) (hb : c.code = cc) (hr : meth.sig.returnType = none) (hlocks : meth.locks = false) (hAe : va_A wc s.heap.size = A) (hS : va_S A s.heap H locs) (u : S) (hp : post u) (hP : va_P E.1 vwCl (w1 u) H) (hD : va_D A (w1 u)) (hdg : decode cc pc = .ok (.return_, 1)) : W p l e R s m args below meth c H locs mc ms (MQ below (va_Qv post (Wd E wc s.heap.size w1) A) args s mc ms A) (F0 m pc ls []) := by
  subst hAe
  exact W.vret hx hb hr (fun t ht hW => ⟨⟨u, rfl, hp, by rw [ht]; exact hP, hD⟩, hS.F ht⟩) hS.2.2 hdg hlocks
theorem kcVn {S : Type} {ws wc wr : va_W} {post : S → Prop} {w1 w2 : S → va_W} (hr : va_Run p l e R s m args below meth c H locs cells slots mc ms (F0 m pc ls st0) rest (va_Qv post (Wd E wc H.size w1) (va_A wc H.size) a9) (va_A wc H.size)) (C0 : Cx E A s) (hP : va_P E.1 vwCl ws H) (hD : va_D A ws) (hS : va_S A s.heap H locs) (isC isR isP : List Nat) (hC : isC.map (fun i => ws[i]?) = wc.map some) (hR : isR.map (fun i => ws[i]?) = wr.map some) (hn : va_nd isR = true) (hdis : ∀ i ∈ isR, i ∉ isC) (hPm : ∀ u, isP.map (fun i => (wr ++ w1 u)[i]?) = (w2 u).map some) (hPn : va_nd isP = true)
    (kk : ∀ (u : S) (H1 : Heap) (locs1 : List Loc), post u → va_P E.1 vwCl (w2 u) H1 → va_D A (w2 u) → va_S A s.heap H1 locs1 → W p l e R s m args below meth c H1 locs1 (cells + mc) (slots + ms) Q (F0 m (pc + 3) ls rest)) : W p l e R s m args below meth c H locs cells slots Q (F0 m pc ls st0) := by
  have hF := va_free hD hS C0.2.2.1 isC hC
  refine va_callv hr hS (fun q _ h => hF q h) hF (fun u t H1 locs1 ht _ hw hB _ hk hS1 => ?_)
  obtain ⟨h1, h2⟩ := jn (w2 := w2) C0 hP hD hS isC isR isP hC hR hn hdis (hPm u) hPn ht hk hB
  exact kk u H1 locs1 hw h1 h2 hS1
theorem k_newi {ws : va_W} {g : Nat → Int32} {z n : Nat} (hz : g z = 0) (hx : p.tables.exec = Jvm.exec) (hb : c.code = cc) (harr : (Cond.arrayClass .int).before args s = true) (C0 : Cx E A s) (hP : va_P E.1 vwCl ws H) (hD : va_D A ws) (hS : va_S A s.heap H locs) (hn : n ≤ 4096) (hcells : cells + 1 ≤ R.cells) (hslots : slots + n ≤ R.slots) (hdg : decode cc pc = .ok (.newarray .int, 2))
    (kk : ∀ (q : Nat) (H1 : Heap), va_P E.1 vwCl (ws ++ [(q, ia E g n (fun _ => z))]) H1 → va_D A (ws ++ [(q, ia E g n (fun _ => z))]) → va_S A s.heap H1 locs → W p l e R s m args below meth c H1 locs (cells + 1) (slots + n) Q (F0 m (pc + 2) ls (.ref q :: rest))) : W p l e R s m args below meth c H locs cells slots Q (F0 m pc ls (.int (nI n) :: rest)) := by
  refine va_newa (atype := .int) (ty := .int) (N' := n) (a0 := (n, .inl (fun k => g ((fun _ => z) k)))) hx hb harr rfl C0.1 hP hD hS C0.2.2.1 (fun cA => ?_) (nI_pos (by omega)) (nI_clamp (by omega)) ?_ hcells hslots hdg (fun q cA H1 hK1 h1 h2 h3 => ?_)
  · rw [vp_cell_i]
    refine congrArg _ (funext fun j => ?_)
    show Value.int (g z) = _
    rw [hz]; rfl
  · show n * 4 ≤ _
    omega
  · have e1 := (hK1.2 2 (cA, .int) rfl).2
    have e2 := (C0.1.2 0 (E.2.1, .int) rfl).2
    obtain rfl : cA = E.2.1 := Option.some.inj (e1.symm.trans e2)
    exact kk q H1 h1 h2 h3
theorem k_newj {ws : va_W} {n : Nat} (hx : p.tables.exec = Jvm.exec) (hb : c.code = cc) (harr : (Cond.arrayClass .long).before args s = true) (C0 : Cx E A s) (hP : va_P E.1 vwCl ws H) (hD : va_D A ws) (hS : va_S A s.heap H locs) (hn : n ≤ 4096) (hcells : cells + 1 ≤ R.cells) (hslots : slots + n ≤ R.slots) (hdg : decode cc pc = .ok (.newarray .long, 2))
    (kk : ∀ (q : Nat) (H1 : Heap), va_P E.1 vwCl (ws ++ [(q, ja E n (fun _ => 0))]) H1 → va_D A (ws ++ [(q, ja E n (fun _ => 0))]) → va_S A s.heap H1 locs → W p l e R s m args below meth c H1 locs (cells + 1) (slots + n) Q (F0 m (pc + 2) ls (.ref q :: rest))) : W p l e R s m args below meth c H locs cells slots Q (F0 m pc ls (.int (nI n) :: rest)) := by
  refine va_newa (atype := .long) (ty := .long) (N' := n) (a0 := (n, .inr (.inl (fun _ => 0)))) hx hb harr rfl C0.1 hP hD hS C0.2.2.1 (fun cA => ?_) (nI_pos (by omega)) (nI_clamp (by omega)) ?_ hcells hslots hdg (fun q cA H1 hK1 h1 h2 h3 => ?_)
  · rw [vp_cell_l]
    rfl
  · show n * 8 ≤ _
    omega
  · have e1 := (hK1.2 2 (cA, .long) rfl).2
    have e2 := (C0.1.2 1 (E.2.2.1, .long) rfl).2
    obtain rfl : cA = E.2.2.1 := Option.some.inj (e1.symm.trans e2)
    exact kk q H1 h1 h2 h3
end KW2
