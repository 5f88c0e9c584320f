/-! Rows of numbers as Nat; arrays of coded Nats. -/
def bI (P : Prop) [Decidable P] : Int32 := if P then 1 else 0
def iL (n : Nat) : Int64 := (nI n).toInt64
theorem bI_eq0 {P : Prop} [Decidable P] : bI P = 0 ↔ ¬ P := by
  by_cases h : P <;> simp [bI, h]
theorem bI_ne0 {P : Prop} [Decidable P] : ¬ bI P = 0 ↔ P := by
  by_cases h : P <;> simp [bI, h]
theorem bI_nar {P : Prop} [Decidable P] : narrow .boolean (.int (bI P)) = .int (bI P) := by
  by_cases h : P <;> simp only [bI, h, if_true, if_false] <;> decide
theorem nI_inj' {a b : Nat} (ha : a < 2 ^ 31) (hb : b < 2 ^ 31) : nI a = nI b ↔ a = b := nI_eq ha hb
theorem ci_eq {a b : Nat} (ha : a < 2 ^ 31) (hb : b < 2 ^ 31) : nI a = nI b ↔ a = b := nI_eq ha hb
theorem ci_ne {a b : Nat} (ha : a < 2 ^ 31) (hb : b < 2 ^ 31) : ¬ nI a = nI b ↔ ¬ a = b := not_congr (nI_eq ha hb)
theorem ci_lt {a b : Nat} (ha : a < 2 ^ 31) (hb : b < 2 ^ 31) : nI a < nI b ↔ a < b := nI_ltI ha hb
theorem ci_ge {a b : Nat} (ha : a < 2 ^ 31) (hb : b < 2 ^ 31) : nI b ≤ nI a ↔ b ≤ a := nI_leI hb ha
theorem ci_gt {a b : Nat} (ha : a < 2 ^ 31) (hb : b < 2 ^ 31) : nI b < nI a ↔ b < a := nI_ltI hb ha
theorem ci_le {a b : Nat} (ha : a < 2 ^ 31) (hb : b < 2 ^ 31) : nI a ≤ nI b ↔ a ≤ b := nI_leI ha hb
theorem ci0_eq {a : Nat} (ha : a < 2 ^ 31) : nI a = 0 ↔ a = 0 := nI_eq (b := 0) ha (by omega)
theorem ci0_ne {a : Nat} (ha : a < 2 ^ 31) : ¬ nI a = 0 ↔ ¬ a = 0 := not_congr (ci0_eq ha)
theorem ci0_lt {a : Nat} (ha : a < 2 ^ 31) : nI a < 0 ↔ a < 0 := nI_ltI (b := 0) ha (by omega)
theorem ci0_ge {a : Nat} (ha : a < 2 ^ 31) : 0 ≤ nI a ↔ 0 ≤ a := nI_leI (a := 0) (by omega) ha
theorem ci0_gt {a : Nat} (ha : a < 2 ^ 31) : 0 < nI a ↔ 0 < a := nI_ltI (a := 0) (by omega) ha
theorem ci0_le {a : Nat} (ha : a < 2 ^ 31) : nI a ≤ 0 ↔ a ≤ 0 := nI_leI (b := 0) ha (by omega)
theorem lgc_eq {x y : Int64} : lg_cmp x y = 0 ↔ x = y := by
  unfold lg_cmp
  by_cases h : x > y
  · rw [if_pos h]
    exact ⟨fun q => absurd q (by decide), fun q => by subst q; exact absurd h (by simp [Int64.lt_irrefl])⟩
  · rw [if_neg h]
    by_cases h2 : x = y
    · simp [h2]
    · rw [if_neg h2]
      exact ⟨fun q => absurd q (by decide), fun q => absurd q h2⟩
theorem lgc_ne {x y : Int64} : ¬ lg_cmp x y = 0 ↔ ¬ x = y := not_congr lgc_eq
theorem i64_nlt {x y : Int64} (h : x > y) : ¬ x < y := fun q => by
  have h1 : y.toInt < x.toInt := Int64.lt_iff_toInt_lt.mp h
  have h2 : x.toInt < y.toInt := Int64.lt_iff_toInt_lt.mp q
  omega
theorem i64_tri {x y : Int64} (h : ¬ x > y) (h2 : ¬ x = y) : x < y := by
  have h1 : ¬ y.toInt < x.toInt := fun q => h (Int64.lt_iff_toInt_lt.mpr q)
  have h3 : ¬ x.toInt = y.toInt := fun q => h2 (Int64.toInt_inj.mp q)
  exact Int64.lt_iff_toInt_lt.mpr (by omega)
theorem lgc_lt {x y : Int64} : lg_cmp x y < 0 ↔ x < y := by
  unfold lg_cmp
  by_cases h : x > y
  · rw [if_pos h]
    exact ⟨fun q => absurd q (by decide), fun q => absurd q (i64_nlt h)⟩
  · rw [if_neg h]
    by_cases h2 : x = y
    · rw [if_pos h2]
      exact ⟨fun q => absurd q (by decide), fun q => by subst h2; exact absurd q h⟩
    · rw [if_neg h2]
      exact ⟨fun _ => i64_tri h h2, fun _ => by decide⟩
theorem lgc_ge {x y : Int64} : 0 ≤ lg_cmp x y ↔ ¬ x < y := by
  rw [← lgc_lt]
  unfold lg_cmp
  split
  · decide
  · split <;> decide
theorem va_up_same {α : Type} (f : Nat → α) (k : Nat) (v : α) : va_up f k v k = v := by simp [va_up]
theorem va_up_other {α : Type} {f : Nat → α} {k j : Nat} {v : α} (h : j ≠ k) : va_up f k v j = f j := by simp [va_up, h]
section KN
variable {p : Program} {l : Launch} {e0 : Env} {R : Room} {s : State} {m : MethodId} {args : Array Value} {below : List Frame} {meth : Method} {c : Code} {H : Heap} {locs : List Loc} {cells slots : Nat} {Q : State → Prop}
variable {pc : Nat} {ls : Array Slot} {rest : List Value} {cc : ByteArray} {E : EnvT} {A : Nat → Prop} {ws : va_W} {a : Nat}
theorem lv_ri {x y : Int32} (h : x = y) (k : W p l e0 R s m args below meth c H locs cells slots Q (F0 m pc ls (.int y :: rest))) : W p l e0 R s m args below meth c H locs cells slots Q (F0 m pc ls (.int x :: rest)) := h ▸ k
theorem lv_rl {x y : Int64} (h : x = y) (k : W p l e0 R s m args below meth c H locs cells slots Q (F0 m pc ls (.long y :: rest))) : W p l e0 R s m args below meth c H locs cells slots Q (F0 m pc ls (.long x :: rest)) := h ▸ k
theorem k_iald {g : Nat → Int32} {n e : Nat} {F : Nat → Nat} (hx : p.tables.exec = Jvm.exec) (hb : c.code = cc) (C0 : Cx E A s) (hP : va_P E.1 vwCl ws H) (q0 : Nat) (ha : ws[q0]? = some (a, ia E g n F)) (hin : e < n) (hn : n < 2 ^ 31) (hdg : decode cc pc = .ok (.iaload, 1))
    (kk : W p l e0 R s m args below meth c H locs cells slots Q (F0 m (pc + 1) ls (.int (g (F e)) :: rest))) : W p l e0 R s m args below meth c H locs cells slots Q (F0 m pc ls (.int (nI e) :: .ref a :: rest)) := by
  refine va_iald hx hb C0.1 hP q0 0 ha rfl (vp_in_nI hin hn) hdg ?_
  rw [nI_clamp (by omega)]
  exact kk
theorem k_lald {n e : Nat} {F : Nat → Int64} (hx : p.tables.exec = Jvm.exec) (hb : c.code = cc) (C0 : Cx E A s) (hP : va_P E.1 vwCl ws H) (q0 : Nat) (ha : ws[q0]? = some (a, ja E n F)) (hin : e < n) (hn : n < 2 ^ 31) (hdg : decode cc pc = .ok (.laload, 1))
    (kk : W p l e0 R s m args below meth c H locs cells slots Q (F0 m (pc + 1) ls (.long (F e) :: rest))) : W p l e0 R s m args below meth c H locs cells slots Q (F0 m pc ls (.int (nI e) :: .ref a :: rest)) := by
  refine va_lald hx hb C0.1 hP q0 1 ha rfl (vp_in_nI hin hn) hdg ?_
  rw [nI_clamp (by omega)]
  exact kk
theorem k_iast {g : Nat → Int32} {n e v : Nat} {F : Nat → Nat} {x : Int32} (hx : p.tables.exec = Jvm.exec) (hb : c.code = cc) (C0 : Cx E A s) (hP : va_P E.1 vwCl ws H) (hD : va_D A ws) (hS : va_S A s.heap H locs) (q0 : Nat) (ha : ws[q0]? = some (a, ia E g n F)) (hv : x = g v) (hin : e < n) (hn : n < 2 ^ 31) (hdg : decode cc pc = .ok (.iastore, 1))
    (kk : ∀ (H1 : Heap) (locs1 : List Loc), va_P E.1 vwCl (ws.set q0 (a, ia E g n (va_up F e v))) H1 → va_D A (ws.set q0 (a, ia E g n (va_up F e v))) → va_S A s.heap H1 locs1 → W p l e0 R s m args below meth c H1 locs1 cells slots Q (F0 m (pc + 1) ls rest)) : W p l e0 R s m args below meth c H locs cells slots Q (F0 m pc ls (.int x :: .int (nI e) :: .ref a :: rest)) := by
  subst hv
  have hu : upd (fun k => g (F k)) (nI e).toNatClampNeg (g v) = fun k => g (va_up F e v k) := by
    rw [nI_clamp (by omega)]
    funext j
    by_cases h : j = e <;> simp [upd, va_up, h]
  refine va_iast hx hb C0.1 hP hD hS q0 0 ha rfl (vp_in_nI hin hn) hdg (fun H1 locs1 h1 h2 h3 => ?_)
  rw [hu] at h1 h2
  exact kk H1 locs1 h1 h2 h3
theorem k_last {n e : Nat} {F : Nat → Int64} {x : Int64} (hx : p.tables.exec = Jvm.exec) (hb : c.code = cc) (C0 : Cx E A s) (hP : va_P E.1 vwCl ws H) (hD : va_D A ws) (hS : va_S A s.heap H locs) (q0 : Nat) (ha : ws[q0]? = some (a, ja E n F)) (hin : e < n) (hn : n < 2 ^ 31) (hdg : decode cc pc = .ok (.lastore, 1))
    (kk : ∀ (H1 : Heap) (locs1 : List Loc), va_P E.1 vwCl (ws.set q0 (a, ja E n (va_up F e x))) H1 → va_D A (ws.set q0 (a, ja E n (va_up F e x))) → va_S A s.heap H1 locs1 → W p l e0 R s m args below meth c H1 locs1 cells slots Q (F0 m (pc + 1) ls rest)) : W p l e0 R s m args below meth c H locs cells slots Q (F0 m pc ls (.long x :: .int (nI e) :: .ref a :: rest)) := by
  have hu : vp_updL F (nI e).toNatClampNeg x = va_up F e x := by
    rw [nI_clamp (by omega)]
    rfl
  refine va_last hx hb C0.1 hP hD hS q0 1 ha rfl (vp_in_nI hin hn) hdg (fun H1 locs1 h1 h2 h3 => ?_)
  rw [hu] at h1 h2
  exact kk H1 locs1 h1 h2 h3
end KN
-- the objects' cells: Layout, Light, Locks, Ringresonance, RingresonanceModel
abbrev o0 (n : Int32) (k x y f s l : Nat) : va_E := .inr (0, [.int n, .ref k, .ref x, .ref y, .ref f, .ref s, .ref l])
abbrev o1 (la co gi un cr sn wa : Nat) (off tk : Int32) (em lo lk de : Int64) : va_E := .inr (1, [.ref la, .ref co, .ref gi, .ref un, .ref cr, .ref sn, .ref wa, .int off, .int tk, .long em, .long lo, .long lk, .long de])
abbrev o2 (la li ch lo di dk be : Nat) : va_E := .inr (2, [.ref la, .ref li, .ref ch, .ref lo, .ref di, .ref dk, .ref be])
abbrev o3 (la li dk lo : Nat) (least : Int32) : va_E := .inr (3, [.ref la, .ref li, .ref dk, .ref lo, .int least])
abbrev o4 (th np : Int32) (ki x y ba se le lc wy ah dk lo ov co tn is sn wa tk off : Nat) (em gn lk : Int64) (least : Int32) : va_E := .inr (4, [.int th, .int np, .ref ki, .ref x, .ref y, .ref ba, .ref se, .ref le, .ref lc, .ref wy, .ref ah, .ref dk, .ref lo, .ref ov, .ref co, .ref tn, .ref is, .ref sn, .ref wa, .ref tk, .ref off, .long em, .long gn, .long lk, .int least])
theorem cL_0 : cL 0 = -1 := by decide
theorem cL_s (n : Nat) : cL (n + 1) = nI n := nI_pred n
theorem cL_neg {n : Nat} (h : n < 2 ^ 31) : cL n < 0 ↔ n = 0 := by
  cases n with
  | zero => decide
  | succ n => rw [cL_s]; exact ⟨fun q => absurd q (nI_pos (by omega)), fun q => absurd q (by omega)⟩
theorem cL_m1 {n : Nat} (h : n < 2 ^ 31) : cL n = -1 ↔ n = 0 := by
  cases n with
  | zero => decide
  | succ n =>
    rw [cL_s]
    refine ⟨fun q => ?_, fun q => absurd q (by omega)⟩
    have h1 := nI_toInt (n := n) (by omega)
    rw [q] at h1
    have h2 : (-1 : Int32).toInt = -1 := by decide
    omega
theorem cL_pos {n : Nat} (h : ¬ n = 0) : cL n = nI (n - 1) := by
  cases n with
  | zero => exact absurd rfl h
  | succ n => rw [cL_s]; rfl
