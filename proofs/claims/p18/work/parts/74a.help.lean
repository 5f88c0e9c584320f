/-! The law's helpers. -/
section KSC
variable {p : Program} {l : Launch} {e : Env} {R : Room} {s : State} {m : MethodId} {args : Array Value} {below : List Frame} {meth : Method} {c : Code} {H : Heap} {locs : List Loc} {cells slots : Nat} {Q : State → Prop}
variable {pc : Nat} {ls : Array Slot} {rest : List Value} {cc : ByteArray} {E : EnvT} {A : Nat → Prop}
theorem k_scl (hx : p.tables.exec = Jvm.exec) (hb : c.code = cc) (C0 : Cx E A s) (hS : va_S A s.heap H locs) (hdg : decode cc pc = .ok (.arraylength, 1))
    (kk : W p l e R s m args below meth c H locs cells slots Q (F0 m (pc + 1) ls (.int (nI (eT E 6)) :: rest))) : W p l e R s m args below meth c H locs cells slots Q (F0 m pc ls (.ref (eT E 5) :: rest)) :=
  va_tlen (v := nI (eT E 6)) hx hb C0.2.2.2.1.2.2.2.2.2.1 (va_S9 C0 hS) rfl hdg kk
theorem k_sci {j : Nat} (hx : p.tables.exec = Jvm.exec) (hb : c.code = cc) (C0 : Cx E A s) (hS : va_S A s.heap H locs) (hj : j < eT E 6) (hdg : decode cc pc = .ok (.iaload, 1))
    (kk : W p l e R s m args below meth c H locs cells slots Q (F0 m (pc + 1) ls (.int (nI (eT E (7 + j))) :: rest))) : W p l e R s m args below meth c H locs cells slots Q (F0 m pc ls (.int (nI j) :: .ref (eT E 5) :: rest)) := by
  have hL : eT E 6 ≤ 260 := C0.2.2.2.1.2.2.2.2.2.2.2
  have hc : (nI j).toNatClampNeg = j := nI_clamp (by omega)
  have hn : ¬ nI j < 0 := nI_pos (by omega)
  refine va_ti (v := .int (nI (eT E (7 + j)))) hx hb C0.2.2.2.1.2.2.2.2.2.1 (va_S9 C0 hS) (fun h => ?_) (by rw [hc]) hdg kk
  rcases h with h | h
  · exact hn h
  · rw [hc] at h; omega
end KSC
/-- what the script holds at a place, or what stands for it behind the script's end -/
def dw (E : EnvT) (p : Nat) : Nat := if p < eT E 6 then eT E (7 + p) else 34759 * p + 18181
def dr (E : EnvT) (p k : Nat) : Nat := dw E p / 2 % k
theorem dr_lt (E : EnvT) (p : Nat) {k : Nat} (h : 0 < k) : dr E p k < k := Nat.mod_lt _ h
theorem di_ge {a b : Nat} (ha : a < 2 ^ 30) (hb : b < 2 ^ 30) : 0 ≤ nI a - nI b ↔ b ≤ a := by
  rw [Int32.le_iff_toInt_le, pk_sub_toInt (by omega) (by omega), show (0 : Int32).toInt = 0 from rfl]; omega
theorem di_neg {a b : Nat} (h : a ≤ b) : -(nI a - nI b) = nI (b - a) := by
  rw [← pk_sub h]; grind
theorem st0_of {k : Nat} (h : k ≤ 5) : (k = 0 → stV 0 k = 0) ∧ (k = 2 ∨ k = 3 → stV 0 k = 2) ∧ (¬ k = 0 → ¬ k = 2 → ¬ k = 3 → stV 0 k = 1) := by
  rcases (show k = 0 ∨ k = 1 ∨ k = 2 ∨ k = 3 ∨ k = 4 ∨ k = 5 by omega) with rfl | rfl | rfl | rfl | rfl | rfl <;> decide
theorem st1_of {k : Nat} (h : k ≤ 5) : (k = 5 → stV 1 k = 0) ∧ (k = 2 ∨ k = 3 → stV 1 k = 2) ∧ (¬ k = 5 → ¬ k = 2 → ¬ k = 3 → stV 1 k = 1) := by
  rcases (show k = 0 ∨ k = 1 ∨ k = 2 ∨ k = 3 ∨ k = 4 ∨ k = 5 by omega) with rfl | rfl | rfl | rfl | rfl | rfl <;> decide
/-- what comes to a part's inputs: input by input, channel by channel -/
def cmI (cn : Nat → Nat) (pt i acc k : Nat) : Nat := rp (fun ch x => x + cn ((pt * 2 + i) * 8 + ch)) k acc
def cmN (cn : Nat → Nat) (pt k : Nat) : Nat := rp (fun i x => cmI cn pt i x 8) k 0

set_option maxHeartbeats 4000000 in
set_option maxRecDepth 100000 in
theorem h_drawn (l : Launch) (E : EnvT) (sz : Nat) (pl ch : Nat) (hpl : pl ≤ 200) (hch : 0 < ch ∧ ch ≤ 10000) : MI l yL_drawn wsL_drawn ({ frames := 0, cells := 0, slots := 0, locals := 0 }) E sz [.ref (eT E 5), .int (nI pl), .int (nI ch)] [] (fun (r : Int32) (_ : Unit) => r = nI (dr E pl ch)) (fun _ => []) := by
  refine enI (cc := cL_drawn) (maxL := 4) (ret := .int) (by decide +kernel) rfl (Nat.le_of_ble_eq_true rfl) ?_
  intro p e s m below meth c A ls hx hb hr hml hts hown hlocks hAe C0 hP hD hS hl
  have hown : s.vm.findClass RL = some m.cls := hown
  have hl : lv_has ls 4 [(0, .ref (eT E 5)), (1, .int (nI pl)), (2, .int (nI ch))] := hl
  obtain ⟨H, hHe⟩ : ∃ z, z = s.heap := ⟨_, rfl⟩
  obtain ⟨locs, hLe⟩ : ∃ z : List Loc, z = [] := ⟨_, rfl⟩
  have hP : va_P E.1 vwCl [] H := by rw [hHe]; exact hP
  have hD : va_D A [] := hD
  have hS : va_S A s.heap H locs := by rw [hHe, hLe]; exact hS
  suffices hgo : W p l e _ s m _ below meth c H locs 0 0 _ (F0 m 0 ls []) by rw [hHe, hLe] at hgo; exact hgo
  clear hHe hLe
  have hL9 : eT E 6 ≤ 260 := C0.2.2.2.1.2.2.2.2.2.2.2
  have hE9 : ∀ j, eT E (7 + j) < 2 ^ 32 := C0.2.2.2.1.2.2.2.2.2.2.1
  have hEp := hE9 pl
  refine lv_iload_n hx hb dL_drawn_0 rfl (lv_at hl 1 rfl) ?_
  refine lv_aload_n hx hb dL_drawn_1 rfl (lv_at hl 0 rfl) ?_
  refine k_scl hx hb C0 hS dL_drawn_2 ?_
  have JN_1 : ∀ (zz : Nat), zz = dw E pl → zz < 2 ^ 32 → ∀ (H : Heap) (locs : List Loc), va_P E.1 vwCl [] H → va_D A [] → va_S A s.heap H locs → ∀ (ls : Array Slot), lv_has ls 4 [(0, .ref (eT E 5)), (1, .int (nI pl)), (2, .int (nI ch))] → W p l e ({ frames := 0, cells := 0, slots := 0, locals := 0 }) s m (([.ref (eT E 5), .int (nI pl), .int (nI ch)] : List Value).toArray) below meth c H locs 0 0 (MQ below (va_Qi (fun (r : Int32) (_ : Unit) => r = nI (dr E pl ch)) (Wd E [] s.heap.size (fun _ => [])) A) (([.ref (eT E 5), .int (nI pl), .int (nI ch)] : List Value).toArray) s 0 0 A) (F0 m 20 ls [.int (nI zz)]) := by
    intro zz  hz hz2 H locs hP hD hS ls hl
    refine lv_istore_n (lv' := [(3, .int (nI zz)), (0, .ref (eT E 5)), (1, .int (nI pl)), (2, .int (nI ch))]) hx hb dL_drawn_20 rfl hl (by decide) rfl (fun ls hl => ?_)
    refine lv_iload_n hx hb dL_drawn_21 rfl (lv_at hl 0 rfl) ?_
    refine lv_iconst (v := nI 1) hx hb dL_drawn_22 (by decide) ?_
    refine lv_iushr (v := nI (zz / 2)) hx hb dL_drawn_23 (pk_ushrN (n := zz) (by omega) _ 1 (by decide)) ?_
    refine lv_iload_n hx hb dL_drawn_24 rfl (lv_at hl 3 rfl) ?_
    refine lv_irem hx hb dL_drawn_25 (nI_ne0 (by omega) (by omega)) ?_
    refine lv_ri (y := (nI ((zz / 2) % ch))) (pk_rem (by omega) (by omega) (by omega)) ?_
    have q_2 : (nI ((zz / 2) % ch)) = (nI (dr E pl ch)) := by symm; rw [hz]; rfl
    exact exI hx hb hr hlocks hAe hS () q_2 hP hD dL_drawn_26
  refine lv_icmp_ge (tgt := 12) hx hb dL_drawn_3 (by decide) (fun c_3 => ?_) (fun c_3 => ?_)
  · skip
    have c_3 : (eT E 6) ≤ pl := (ci_ge (by omega) (by omega)).mp c_3
    refine lv_ldc (own := RL) (index := 7) (v := nI 34759) hx hb hown (hts (.constant RL 7 (34759)) (by decide +kernel)) dL_drawn_12 ?_
    refine lv_iload_n hx hb dL_drawn_14 rfl (lv_at hl 1 rfl) ?_
    refine lv_imul hx hb dL_drawn_15 ?_
    refine lv_ri (y := (nI (34759 * pl))) (pk_mul 34759 pl) ?_
    refine lv_sipush (v := nI 18181) hx hb dL_drawn_16 (by decide) ?_
    refine lv_iadd hx hb dL_drawn_19 ?_
    refine lv_ri (y := (nI ((34759 * pl) + 18181))) (nI_add (34759 * pl) 18181) ?_
    have hl : lv_has ls 4 [(0, .ref (eT E 5)), (1, .int (nI pl)), (2, .int (nI ch))] := lv_sub hl [0, 1, 2] rfl
    exact JN_1 ((34759 * pl) + 18181) (by unfold dw; first | exact (if_pos (by omega)).symm | exact (if_neg (by omega)).symm) (by omega) _ _ hP hD hS _ hl
  · skip
    have c_3 : ¬ ((eT E 6) ≤ pl) := fun h => c_3 ((ci_ge (by omega) (by omega)).mpr h)
    refine lv_aload_n hx hb dL_drawn_6 rfl (lv_at hl 0 rfl) ?_
    refine lv_iload_n hx hb dL_drawn_7 rfl (lv_at hl 1 rfl) ?_
    refine k_sci (j := pl) hx hb C0 hS (by omega) dL_drawn_8 ?_
    refine lv_goto (tgt := 20) hx hb dL_drawn_9 (by decide) ?_
    have hl : lv_has ls 4 [(0, .ref (eT E 5)), (1, .int (nI pl)), (2, .int (nI ch))] := lv_sub hl [0, 1, 2] rfl
    exact JN_1 (eT E (7 + pl)) (by unfold dw; first | exact (if_pos (by omega)).symm | exact (if_neg (by omega)).symm) (by omega) _ _ hP hD hS _ hl

set_option maxHeartbeats 4000000 in
set_option maxRecDepth 100000 in
theorem h_inputs (l : Launch) (E : EnvT) (sz : Nat) (kk : Nat) (hk : kk ≤ 5) : MI l yL_inputs wsL_inputs ({ frames := 0, cells := 0, slots := 0, locals := 0 }) E sz [.int (nI kk)] [] (fun (r : Int32) (_ : Unit) => r = nI (stV 0 kk)) (fun _ => []) := by
  refine enI (cc := cL_inputs) (maxL := 1) (ret := .int) (by decide +kernel) rfl (Nat.le_of_ble_eq_true rfl) ?_
  intro p e s m below meth c A ls hx hb hr hml hts hown hlocks hAe C0 hP hD hS hl
  have hown : s.vm.findClass RL = some m.cls := hown
  have hl : lv_has ls 1 [(0, .int (nI kk))] := hl
  obtain ⟨H, hHe⟩ : ∃ z, z = s.heap := ⟨_, rfl⟩
  obtain ⟨locs, hLe⟩ : ∃ z : List Loc, z = [] := ⟨_, rfl⟩
  have hP : va_P E.1 vwCl [] H := by rw [hHe]; exact hP
  have hD : va_D A [] := hD
  have hS : va_S A s.heap H locs := by rw [hHe, hLe]; exact hS
  suffices hgo : W p l e _ s m _ below meth c H locs 0 0 _ (F0 m 0 ls []) by rw [hHe, hLe] at hgo; exact hgo
  clear hHe hLe
  obtain ⟨s1, s2, s3⟩ := st0_of hk
  refine lv_iload_n hx hb dL_inputs_0 rfl (lv_at hl 0 rfl) ?_
  refine lv_if_ne (tgt := 8) hx hb dL_inputs_1 (by decide) (fun c_1 => ?_) (fun c_1 => ?_)
  · skip
    have c_1 : ¬ (kk = 0) := fun h => c_1 ((ci0_eq (by omega)).mpr h)
    refine lv_iload_n hx hb dL_inputs_8 rfl (lv_at hl 0 rfl) ?_
    refine lv_iconst (v := nI 2) hx hb dL_inputs_9 (by decide) ?_
    refine lv_icmp_eq (tgt := 18) hx hb dL_inputs_10 (by decide) (fun c_2 => ?_) (fun c_2 => ?_)
    · skip
      have c_2 : kk = 2 := (ci_eq (by omega) (by omega)).mp c_2
      refine lv_iconst (v := nI 2) hx hb dL_inputs_18 (by decide) ?_
      refine lv_goto (tgt := 23) hx hb dL_inputs_19 (by decide) ?_
      have q_3 : (nI 2) = (nI (stV 0 kk)) := by symm; first | (rw [s1 (by omega)]; done) | (rw [s2 (by omega)]; done) | (rw [s3 (by omega) (by omega) (by omega)]; done)
      exact exI hx hb hr hlocks hAe hS () q_3 hP hD dL_inputs_23
    · skip
      have c_2 : ¬ (kk = 2) := fun h => c_2 ((ci_eq (by omega) (by omega)).mpr h)
      refine lv_iload_n hx hb dL_inputs_13 rfl (lv_at hl 0 rfl) ?_
      refine lv_iconst (v := nI 3) hx hb dL_inputs_14 (by decide) ?_
      refine lv_icmp_ne (tgt := 22) hx hb dL_inputs_15 (by decide) (fun c_4 => ?_) (fun c_4 => ?_)
      · skip
        have c_4 : ¬ (kk = 3) := fun h => c_4 ((ci_eq (by omega) (by omega)).mpr h)
        refine lv_iconst (v := nI 1) hx hb dL_inputs_22 (by decide) ?_
        have q_5 : (nI 1) = (nI (stV 0 kk)) := by symm; first | (rw [s1 (by omega)]; done) | (rw [s2 (by omega)]; done) | (rw [s3 (by omega) (by omega) (by omega)]; done)
        exact exI hx hb hr hlocks hAe hS () q_5 hP hD dL_inputs_23
      · skip
        have c_4 : kk = 3 := (ci_eq (by omega) (by omega)).mp c_4
        refine lv_iconst (v := nI 2) hx hb dL_inputs_18 (by decide) ?_
        refine lv_goto (tgt := 23) hx hb dL_inputs_19 (by decide) ?_
        have q_6 : (nI 2) = (nI (stV 0 kk)) := by symm; first | (rw [s1 (by omega)]; done) | (rw [s2 (by omega)]; done) | (rw [s3 (by omega) (by omega) (by omega)]; done)
        exact exI hx hb hr hlocks hAe hS () q_6 hP hD dL_inputs_23
  · skip
    have c_1 : kk = 0 := (ci0_eq (by omega)).mp c_1
    refine lv_iconst (v := nI 0) hx hb dL_inputs_4 (by decide) ?_
    refine lv_goto (tgt := 23) hx hb dL_inputs_5 (by decide) ?_
    have q_7 : (nI 0) = (nI (stV 0 kk)) := by symm; first | (rw [s1 (by omega)]; done) | (rw [s2 (by omega)]; done) | (rw [s3 (by omega) (by omega) (by omega)]; done)
    exact exI hx hb hr hlocks hAe hS () q_7 hP hD dL_inputs_23

set_option maxHeartbeats 4000000 in
set_option maxRecDepth 100000 in
theorem h_outputs (l : Launch) (E : EnvT) (sz : Nat) (kk : Nat) (hk : kk ≤ 5) : MI l yL_outputs wsL_outputs ({ frames := 0, cells := 0, slots := 0, locals := 0 }) E sz [.int (nI kk)] [] (fun (r : Int32) (_ : Unit) => r = nI (stV 1 kk)) (fun _ => []) := by
  refine enI (cc := cL_outputs) (maxL := 1) (ret := .int) (by decide +kernel) rfl (Nat.le_of_ble_eq_true rfl) ?_
  intro p e s m below meth c A ls hx hb hr hml hts hown hlocks hAe C0 hP hD hS hl
  have hown : s.vm.findClass RL = some m.cls := hown
  have hl : lv_has ls 1 [(0, .int (nI kk))] := hl
  obtain ⟨H, hHe⟩ : ∃ z, z = s.heap := ⟨_, rfl⟩
  obtain ⟨locs, hLe⟩ : ∃ z : List Loc, z = [] := ⟨_, rfl⟩
  have hP : va_P E.1 vwCl [] H := by rw [hHe]; exact hP
  have hD : va_D A [] := hD
  have hS : va_S A s.heap H locs := by rw [hHe, hLe]; exact hS
  suffices hgo : W p l e _ s m _ below meth c H locs 0 0 _ (F0 m 0 ls []) by rw [hHe, hLe] at hgo; exact hgo
  clear hHe hLe
  obtain ⟨s1, s2, s3⟩ := st1_of hk
  refine lv_iload_n hx hb dL_outputs_0 rfl (lv_at hl 0 rfl) ?_
  refine lv_iconst (v := nI 5) hx hb dL_outputs_1 (by decide) ?_
  refine lv_icmp_ne (tgt := 9) hx hb dL_outputs_2 (by decide) (fun c_1 => ?_) (fun c_1 => ?_)
  · skip
    have c_1 : ¬ (kk = 5) := fun h => c_1 ((ci_eq (by omega) (by omega)).mpr h)
    refine lv_iload_n hx hb dL_outputs_9 rfl (lv_at hl 0 rfl) ?_
    refine lv_iconst (v := nI 2) hx hb dL_outputs_10 (by decide) ?_
    refine lv_icmp_eq (tgt := 19) hx hb dL_outputs_11 (by decide) (fun c_2 => ?_) (fun c_2 => ?_)
    · skip
      have c_2 : kk = 2 := (ci_eq (by omega) (by omega)).mp c_2
      refine lv_iconst (v := nI 2) hx hb dL_outputs_19 (by decide) ?_
      refine lv_goto (tgt := 24) hx hb dL_outputs_20 (by decide) ?_
      have q_3 : (nI 2) = (nI (stV 1 kk)) := by symm; first | (rw [s1 (by omega)]; done) | (rw [s2 (by omega)]; done) | (rw [s3 (by omega) (by omega) (by omega)]; done)
      exact exI hx hb hr hlocks hAe hS () q_3 hP hD dL_outputs_24
    · skip
      have c_2 : ¬ (kk = 2) := fun h => c_2 ((ci_eq (by omega) (by omega)).mpr h)
      refine lv_iload_n hx hb dL_outputs_14 rfl (lv_at hl 0 rfl) ?_
      refine lv_iconst (v := nI 3) hx hb dL_outputs_15 (by decide) ?_
      refine lv_icmp_ne (tgt := 23) hx hb dL_outputs_16 (by decide) (fun c_4 => ?_) (fun c_4 => ?_)
      · skip
        have c_4 : ¬ (kk = 3) := fun h => c_4 ((ci_eq (by omega) (by omega)).mpr h)
        refine lv_iconst (v := nI 1) hx hb dL_outputs_23 (by decide) ?_
        have q_5 : (nI 1) = (nI (stV 1 kk)) := by symm; first | (rw [s1 (by omega)]; done) | (rw [s2 (by omega)]; done) | (rw [s3 (by omega) (by omega) (by omega)]; done)
        exact exI hx hb hr hlocks hAe hS () q_5 hP hD dL_outputs_24
      · skip
        have c_4 : kk = 3 := (ci_eq (by omega) (by omega)).mp c_4
        refine lv_iconst (v := nI 2) hx hb dL_outputs_19 (by decide) ?_
        refine lv_goto (tgt := 24) hx hb dL_outputs_20 (by decide) ?_
        have q_6 : (nI 2) = (nI (stV 1 kk)) := by symm; first | (rw [s1 (by omega)]; done) | (rw [s2 (by omega)]; done) | (rw [s3 (by omega) (by omega) (by omega)]; done)
        exact exI hx hb hr hlocks hAe hS () q_6 hP hD dL_outputs_24
  · skip
    have c_1 : kk = 5 := (ci_eq (by omega) (by omega)).mp c_1
    refine lv_iconst (v := nI 0) hx hb dL_outputs_5 (by decide) ?_
    refine lv_goto (tgt := 24) hx hb dL_outputs_6 (by decide) ?_
    have q_7 : (nI 0) = (nI (stV 1 kk)) := by symm; first | (rw [s1 (by omega)]; done) | (rw [s2 (by omega)]; done) | (rw [s3 (by omega) (by omega) (by omega)]; done)
    exact exI hx hb hr hlocks hAe hS () q_7 hP hD dL_outputs_24

set_option maxHeartbeats 4000000 in
set_option maxRecDepth 100000 in
theorem h_far (l : Launch) (E : EnvT) (sz : Nat) (pp qq aPl : Nat) (pl xs ys : Nat → Nat) (hp : pp < 10) (hq : qq < 10) (hpl : ∀ j, j < 10 → pl (2 * j) = xs j ∧ pl (2 * j + 1) = ys j) (hx9 : ∀ j, j < 16 → xs j ≤ 15 ∧ ys j ≤ 15) : MI l yL_far wsL_far ({ frames := 0, cells := 0, slots := 0, locals := 0 }) E sz [.ref aPl, .int (nI pp), .int (nI qq)] [(aPl, ia E nI 20 pl)] (fun (r : Int32) (_ : Unit) => r = nI (dst xs ys pp qq)) (fun _ => [(aPl, ia E nI 20 pl)]) := by
  refine enI (cc := cL_far) (maxL := 5) (ret := .int) (by decide +kernel) rfl (Nat.le_of_ble_eq_true rfl) ?_
  intro p e s m below meth c A ls hx hb hr hml hts hown hlocks hAe C0 hP hD hS hl
  have hown : s.vm.findClass RL = some m.cls := hown
  have hl : lv_has ls 5 [(0, .ref aPl), (1, .int (nI pp)), (2, .int (nI qq))] := hl
  obtain ⟨H, hHe⟩ : ∃ z, z = s.heap := ⟨_, rfl⟩
  obtain ⟨locs, hLe⟩ : ∃ z : List Loc, z = [] := ⟨_, rfl⟩
  have hP : va_P E.1 vwCl [(aPl, ia E nI 20 pl)] H := by rw [hHe]; exact hP
  have hD : va_D A [(aPl, ia E nI 20 pl)] := hD
  have hS : va_S A s.heap H locs := by rw [hHe, hLe]; exact hS
  suffices hgo : W p l e _ s m _ below meth c H locs 0 0 _ (F0 m 0 ls []) by rw [hHe, hLe] at hgo; exact hgo
  clear hHe hLe
  obtain ⟨hp1, hp2⟩ := hpl pp hp
  obtain ⟨hq1, hq2⟩ := hpl qq hq
  have hb1 := hx9 pp (by omega)
  have hb2 := hx9 qq (by omega)
  refine lv_aload_n hx hb dL_far_0 rfl (lv_at hl 0 rfl) ?_
  refine lv_iconst (v := nI 2) hx hb dL_far_1 (by decide) ?_
  refine lv_iload_n hx hb dL_far_2 rfl (lv_at hl 1 rfl) ?_
  refine lv_imul hx hb dL_far_3 ?_
  refine lv_ri (y := (nI (2 * pp))) (pk_mul 2 pp) ?_
  refine k_iald (e := (2 * pp)) (g := nI) (n := 20) hx hb C0 hP 0 rfl (by omega) (by omega) dL_far_4 ?_
  refine lv_aload_n hx hb dL_far_5 rfl (lv_at hl 0 rfl) ?_
  refine lv_iconst (v := nI 2) hx hb dL_far_6 (by decide) ?_
  refine lv_iload_n hx hb dL_far_7 rfl (lv_at hl 2 rfl) ?_
  refine lv_imul hx hb dL_far_8 ?_
  refine lv_ri (y := (nI (2 * qq))) (pk_mul 2 qq) ?_
  refine k_iald (e := (2 * qq)) (g := nI) (n := 20) hx hb C0 hP 0 rfl (by omega) (by omega) dL_far_9 ?_
  refine lv_isub hx hb dL_far_10 ?_
  refine lv_istore_n (lv' := [(3, .int ((nI (pl (2 * pp))) - (nI (pl (2 * qq))))), (0, .ref aPl), (1, .int (nI pp)), (2, .int (nI qq))]) hx hb dL_far_11 rfl hl (by decide) rfl (fun ls hl => ?_)
  refine lv_aload_n hx hb dL_far_12 rfl (lv_at hl 1 rfl) ?_
  refine lv_iconst (v := nI 2) hx hb dL_far_13 (by decide) ?_
  refine lv_iload_n hx hb dL_far_14 rfl (lv_at hl 2 rfl) ?_
  refine lv_imul hx hb dL_far_15 ?_
  refine lv_ri (y := (nI (2 * pp))) (pk_mul 2 pp) ?_
  refine lv_iconst (v := nI 1) hx hb dL_far_16 (by decide) ?_
  refine lv_iadd hx hb dL_far_17 ?_
  refine lv_ri (y := (nI ((2 * pp) + 1))) (nI_add (2 * pp) 1) ?_
  refine k_iald (e := ((2 * pp) + 1)) (g := nI) (n := 20) hx hb C0 hP 0 rfl (by omega) (by omega) dL_far_18 ?_
  refine lv_aload_n hx hb dL_far_19 rfl (lv_at hl 1 rfl) ?_
  refine lv_iconst (v := nI 2) hx hb dL_far_20 (by decide) ?_
  refine lv_iload_n hx hb dL_far_21 rfl (lv_at hl 3 rfl) ?_
  refine lv_imul hx hb dL_far_22 ?_
  refine lv_ri (y := (nI (2 * qq))) (pk_mul 2 qq) ?_
  refine lv_iconst (v := nI 1) hx hb dL_far_23 (by decide) ?_
  refine lv_iadd hx hb dL_far_24 ?_
  refine lv_ri (y := (nI ((2 * qq) + 1))) (nI_add (2 * qq) 1) ?_
  refine k_iald (e := ((2 * qq) + 1)) (g := nI) (n := 20) hx hb C0 hP 0 rfl (by omega) (by omega) dL_far_25 ?_
  refine lv_isub hx hb dL_far_26 ?_
  refine lv_istore (lv' := [(4, .int ((nI (pl ((2 * pp) + 1))) - (nI (pl ((2 * qq) + 1))))), (3, .int ((nI (pl (2 * pp))) - (nI (pl (2 * qq))))), (0, .ref aPl), (1, .int (nI pp)), (2, .int (nI qq))]) hx hb dL_far_27 hl (by decide) rfl (fun ls hl => ?_)
  refine lv_iload_n hx hb dL_far_29 rfl (lv_at hl 1 rfl) ?_
  refine lv_if_ge (tgt := 38) hx hb dL_far_30 (by decide) (fun c_1 => ?_) (fun c_1 => ?_)
  · skip
    have c_1 : pl (2 * qq) ≤ pl (2 * pp) := ((di_ge (by omega) (by omega))).mp c_1
    refine lv_iload_n hx hb dL_far_38 rfl (lv_at hl 1 rfl) ?_
    refine lv_ri (y := (nI (pl (2 * pp) - pl (2 * qq)))) (pk_sub (by omega)) ?_
    refine lv_iload hx hb dL_far_39 (lv_at hl 0 rfl) ?_
    refine lv_if_ge (tgt := 50) hx hb dL_far_41 (by decide) (fun c_2 => ?_) (fun c_2 => ?_)
    · skip
      have c_2 : pl (2 * qq + 1) ≤ pl (2 * pp + 1) := ((di_ge (by omega) (by omega))).mp c_2
      refine lv_iload hx hb dL_far_50 (lv_at hl 0 rfl) ?_
      refine lv_ri (y := (nI (pl (2 * pp + 1) - pl (2 * qq + 1)))) (pk_sub (by omega)) ?_
      refine lv_iadd hx hb dL_far_52 ?_
      refine lv_ri (y := (nI ((pl (2 * pp) - pl (2 * qq)) + (pl (2 * pp + 1) - pl (2 * qq + 1))))) (nI_add (pl (2 * pp) - pl (2 * qq)) (pl (2 * pp + 1) - pl (2 * qq + 1))) ?_
      have q_3 : (nI ((pl (2 * pp) - pl (2 * qq)) + (pl (2 * pp + 1) - pl (2 * qq + 1)))) = (nI (dst xs ys pp qq)) := by symm; congr 1; unfold dst adf; rw [← hp1, ← hp2, ← hq1, ← hq2]; (repeat' split) <;> omega
      exact exI hx hb hr hlocks hAe hS () q_3 hP hD dL_far_53
    · skip
      have c_2 : ¬ (pl (2 * qq + 1) ≤ pl (2 * pp + 1)) := fun h => c_2 (((di_ge (by omega) (by omega))).mpr h)
      refine lv_iload hx hb dL_far_44 (lv_at hl 0 rfl) ?_
      refine lv_ineg hx hb dL_far_46 ?_
      refine lv_ri (y := (nI (pl (2 * qq + 1) - pl (2 * pp + 1)))) (di_neg (by omega)) ?_
      refine lv_goto (tgt := 52) hx hb dL_far_47 (by decide) ?_
      refine lv_iadd hx hb dL_far_52 ?_
      refine lv_ri (y := (nI ((pl (2 * pp) - pl (2 * qq)) + (pl (2 * qq + 1) - pl (2 * pp + 1))))) (nI_add (pl (2 * pp) - pl (2 * qq)) (pl (2 * qq + 1) - pl (2 * pp + 1))) ?_
      have q_4 : (nI ((pl (2 * pp) - pl (2 * qq)) + (pl (2 * qq + 1) - pl (2 * pp + 1)))) = (nI (dst xs ys pp qq)) := by symm; congr 1; unfold dst adf; rw [← hp1, ← hp2, ← hq1, ← hq2]; (repeat' split) <;> omega
      exact exI hx hb hr hlocks hAe hS () q_4 hP hD dL_far_53
  · skip
    have c_1 : ¬ (pl (2 * qq) ≤ pl (2 * pp)) := fun h => c_1 (((di_ge (by omega) (by omega))).mpr h)
    refine lv_iload_n hx hb dL_far_33 rfl (lv_at hl 1 rfl) ?_
    refine lv_ineg hx hb dL_far_34 ?_
    refine lv_ri (y := (nI (pl (2 * qq) - pl (2 * pp)))) (di_neg (by omega)) ?_
    refine lv_goto (tgt := 39) hx hb dL_far_35 (by decide) ?_
    refine lv_iload hx hb dL_far_39 (lv_at hl 0 rfl) ?_
    refine lv_if_ge (tgt := 50) hx hb dL_far_41 (by decide) (fun c_5 => ?_) (fun c_5 => ?_)
    · skip
      have c_5 : pl (2 * qq + 1) ≤ pl (2 * pp + 1) := ((di_ge (by omega) (by omega))).mp c_5
      refine lv_iload hx hb dL_far_50 (lv_at hl 0 rfl) ?_
      refine lv_ri (y := (nI (pl (2 * pp + 1) - pl (2 * qq + 1)))) (pk_sub (by omega)) ?_
      refine lv_iadd hx hb dL_far_52 ?_
      refine lv_ri (y := (nI ((pl (2 * qq) - pl (2 * pp)) + (pl (2 * pp + 1) - pl (2 * qq + 1))))) (nI_add (pl (2 * qq) - pl (2 * pp)) (pl (2 * pp + 1) - pl (2 * qq + 1))) ?_
      have q_6 : (nI ((pl (2 * qq) - pl (2 * pp)) + (pl (2 * pp + 1) - pl (2 * qq + 1)))) = (nI (dst xs ys pp qq)) := by symm; congr 1; unfold dst adf; rw [← hp1, ← hp2, ← hq1, ← hq2]; (repeat' split) <;> omega
      exact exI hx hb hr hlocks hAe hS () q_6 hP hD dL_far_53
    · skip
      have c_5 : ¬ (pl (2 * qq + 1) ≤ pl (2 * pp + 1)) := fun h => c_5 (((di_ge (by omega) (by omega))).mpr h)
      refine lv_iload hx hb dL_far_44 (lv_at hl 0 rfl) ?_
      refine lv_ineg hx hb dL_far_46 ?_
      refine lv_ri (y := (nI (pl (2 * qq + 1) - pl (2 * pp + 1)))) (di_neg (by omega)) ?_
      refine lv_goto (tgt := 52) hx hb dL_far_47 (by decide) ?_
      refine lv_iadd hx hb dL_far_52 ?_
      refine lv_ri (y := (nI ((pl (2 * qq) - pl (2 * pp)) + (pl (2 * qq + 1) - pl (2 * pp + 1))))) (nI_add (pl (2 * qq) - pl (2 * pp)) (pl (2 * qq + 1) - pl (2 * pp + 1))) ?_
      have q_7 : (nI ((pl (2 * qq) - pl (2 * pp)) + (pl (2 * qq + 1) - pl (2 * pp + 1)))) = (nI (dst xs ys pp qq)) := by symm; congr 1; unfold dst adf; rw [← hp1, ← hp2, ← hq1, ← hq2]; (repeat' split) <;> omega
      exact exI hx hb hr hlocks hAe hS () q_7 hP hD dL_far_53

set_option maxHeartbeats 4000000 in
set_option maxRecDepth 100000 in
theorem h_isNear (l : Launch) (E : EnvT) (sz : Nat) (aa ww tt : Nat) (hn : (ww ≤ tt → ww ≤ aa ∧ aa ≤ tt ∧ (tt = ww ∨ ww < aa)) ∧ (tt < ww → aa ≤ ww ∧ tt ≤ aa ∧ aa < ww)) (hb9 : aa ≤ 100000 ∧ ww ≤ 100000 ∧ tt ≤ 100000) : MI l yL_isNear wsL_isNear ({ frames := 0, cells := 0, slots := 0, locals := 0 }) E sz [.int (nI aa), .int (nI ww), .int (nI tt)] [] (fun (r : Int32) (_ : Unit) => r = nI 1) (fun _ => []) := by
  refine enI (cc := cL_isNear) (maxL := 3) (ret := .boolean) (by decide +kernel) rfl (Nat.le_of_ble_eq_true rfl) ?_
  intro p e s m below meth c A ls hx hb hr hml hts hown hlocks hAe C0 hP hD hS hl
  have hown : s.vm.findClass RL = some m.cls := hown
  have hl : lv_has ls 3 [(0, .int (nI aa)), (1, .int (nI ww)), (2, .int (nI tt))] := hl
  obtain ⟨H, hHe⟩ : ∃ z, z = s.heap := ⟨_, rfl⟩
  obtain ⟨locs, hLe⟩ : ∃ z : List Loc, z = [] := ⟨_, rfl⟩
  have hP : va_P E.1 vwCl [] H := by rw [hHe]; exact hP
  have hD : va_D A [] := hD
  have hS : va_S A s.heap H locs := by rw [hHe, hLe]; exact hS
  suffices hgo : W p l e _ s m _ below meth c H locs 0 0 _ (F0 m 0 ls []) by rw [hHe, hLe] at hgo; exact hgo
  clear hHe hLe
  refine lv_iload_n hx hb dL_isNear_0 rfl (lv_at hl 2 rfl) ?_
  refine lv_iload_n hx hb dL_isNear_1 rfl (lv_at hl 1 rfl) ?_
  refine lv_icmp_lt (tgt := 33) hx hb dL_isNear_2 (by decide) (fun c_1 => ?_) (fun c_1 => ?_)
  · skip
    have c_1 : tt < ww := (ci_lt (by omega) (by omega)).mp c_1
    refine lv_iload_n hx hb dL_isNear_33 rfl (lv_at hl 0 rfl) ?_
    refine lv_iload_n hx hb dL_isNear_34 rfl (lv_at hl 1 rfl) ?_
    refine lv_icmp_gt (tgt := 52) hx hb dL_isNear_35 (by decide) (fun c_2 => ?_) (fun c_2 => ?_)
    · skip
      have c_2 : ww < aa := (ci_gt (by omega) (by omega)).mp c_2
      refine lv_iconst (v := nI 0) hx hb dL_isNear_52 (by decide) ?_
      have q_3 : (nI 0) = (nI 1) := by symm; first | rfl | (exfalso; omega)
      exact exZ hx hb hr hlocks hAe hS () (by decide) q_3 hP hD dL_isNear_53
    · skip
      have c_2 : ¬ (ww < aa) := fun h => c_2 ((ci_gt (by omega) (by omega)).mpr h)
      refine lv_iload_n hx hb dL_isNear_38 rfl (lv_at hl 0 rfl) ?_
      refine lv_iload_n hx hb dL_isNear_39 rfl (lv_at hl 2 rfl) ?_
      refine lv_icmp_lt (tgt := 52) hx hb dL_isNear_40 (by decide) (fun c_4 => ?_) (fun c_4 => ?_)
      · skip
        have c_4 : aa < tt := (ci_lt (by omega) (by omega)).mp c_4
        refine lv_iconst (v := nI 0) hx hb dL_isNear_52 (by decide) ?_
        have q_5 : (nI 0) = (nI 1) := by symm; first | rfl | (exfalso; omega)
        exact exZ hx hb hr hlocks hAe hS () (by decide) q_5 hP hD dL_isNear_53
      · skip
        have c_4 : ¬ (aa < tt) := fun h => c_4 ((ci_lt (by omega) (by omega)).mpr h)
        refine lv_iload_n hx hb dL_isNear_43 rfl (lv_at hl 0 rfl) ?_
        refine lv_iload_n hx hb dL_isNear_44 rfl (lv_at hl 1 rfl) ?_
        refine lv_icmp_ge (tgt := 52) hx hb dL_isNear_45 (by decide) (fun c_6 => ?_) (fun c_6 => ?_)
        · skip
          have c_6 : ww ≤ aa := (ci_ge (by omega) (by omega)).mp c_6
          refine lv_iconst (v := nI 0) hx hb dL_isNear_52 (by decide) ?_
          have q_7 : (nI 0) = (nI 1) := by symm; first | rfl | (exfalso; omega)
          exact exZ hx hb hr hlocks hAe hS () (by decide) q_7 hP hD dL_isNear_53
        · skip
          have c_6 : ¬ (ww ≤ aa) := fun h => c_6 ((ci_ge (by omega) (by omega)).mpr h)
          refine lv_iconst (v := nI 1) hx hb dL_isNear_48 (by decide) ?_
          refine lv_goto (tgt := 53) hx hb dL_isNear_49 (by decide) ?_
          have q_8 : (nI 1) = (nI 1) := rfl
          exact exZ hx hb hr hlocks hAe hS () (by decide) q_8 hP hD dL_isNear_53
  · skip
    have c_1 : ¬ (tt < ww) := fun h => c_1 ((ci_lt (by omega) (by omega)).mpr h)
    refine lv_iload_n hx hb dL_isNear_5 rfl (lv_at hl 0 rfl) ?_
    refine lv_iload_n hx hb dL_isNear_6 rfl (lv_at hl 1 rfl) ?_
    refine lv_icmp_lt (tgt := 29) hx hb dL_isNear_7 (by decide) (fun c_9 => ?_) (fun c_9 => ?_)
    · skip
      have c_9 : aa < ww := (ci_lt (by omega) (by omega)).mp c_9
      refine lv_iconst (v := nI 0) hx hb dL_isNear_29 (by decide) ?_
      refine lv_goto (tgt := 53) hx hb dL_isNear_30 (by decide) ?_
      have q_10 : (nI 0) = (nI 1) := by symm; first | rfl | (exfalso; omega)
      exact exZ hx hb hr hlocks hAe hS () (by decide) q_10 hP hD dL_isNear_53
    · skip
      have c_9 : ¬ (aa < ww) := fun h => c_9 ((ci_lt (by omega) (by omega)).mpr h)
      refine lv_iload_n hx hb dL_isNear_10 rfl (lv_at hl 0 rfl) ?_
      refine lv_iload_n hx hb dL_isNear_11 rfl (lv_at hl 2 rfl) ?_
      refine lv_icmp_gt (tgt := 29) hx hb dL_isNear_12 (by decide) (fun c_11 => ?_) (fun c_11 => ?_)
      · skip
        have c_11 : tt < aa := (ci_gt (by omega) (by omega)).mp c_11
        refine lv_iconst (v := nI 0) hx hb dL_isNear_29 (by decide) ?_
        refine lv_goto (tgt := 53) hx hb dL_isNear_30 (by decide) ?_
        have q_12 : (nI 0) = (nI 1) := by symm; first | rfl | (exfalso; omega)
        exact exZ hx hb hr hlocks hAe hS () (by decide) q_12 hP hD dL_isNear_53
      · skip
        have c_11 : ¬ (tt < aa) := fun h => c_11 ((ci_gt (by omega) (by omega)).mpr h)
        refine lv_iload_n hx hb dL_isNear_15 rfl (lv_at hl 2 rfl) ?_
        refine lv_iload_n hx hb dL_isNear_16 rfl (lv_at hl 1 rfl) ?_
        refine lv_icmp_eq (tgt := 25) hx hb dL_isNear_17 (by decide) (fun c_13 => ?_) (fun c_13 => ?_)
        · skip
          have c_13 : tt = ww := (ci_eq (by omega) (by omega)).mp c_13
          refine lv_iconst (v := nI 1) hx hb dL_isNear_25 (by decide) ?_
          refine lv_goto (tgt := 53) hx hb dL_isNear_26 (by decide) ?_
          have q_14 : (nI 1) = (nI 1) := rfl
          exact exZ hx hb hr hlocks hAe hS () (by decide) q_14 hP hD dL_isNear_53
        · skip
          have c_13 : ¬ (tt = ww) := fun h => c_13 ((ci_eq (by omega) (by omega)).mpr h)
          refine lv_iload_n hx hb dL_isNear_20 rfl (lv_at hl 0 rfl) ?_
          refine lv_iload_n hx hb dL_isNear_21 rfl (lv_at hl 1 rfl) ?_
          refine lv_icmp_le (tgt := 29) hx hb dL_isNear_22 (by decide) (fun c_15 => ?_) (fun c_15 => ?_)
          · skip
            have c_15 : aa ≤ ww := (ci_le (by omega) (by omega)).mp c_15
            refine lv_iconst (v := nI 0) hx hb dL_isNear_29 (by decide) ?_
            refine lv_goto (tgt := 53) hx hb dL_isNear_30 (by decide) ?_
            have q_16 : (nI 0) = (nI 1) := by symm; first | rfl | (exfalso; omega)
            exact exZ hx hb hr hlocks hAe hS () (by decide) q_16 hP hD dL_isNear_53
          · skip
            have c_15 : ¬ (aa ≤ ww) := fun h => c_15 ((ci_le (by omega) (by omega)).mpr h)
            refine lv_iconst (v := nI 1) hx hb dL_isNear_25 (by decide) ?_
            refine lv_goto (tgt := 53) hx hb dL_isNear_26 (by decide) ?_
            have q_17 : (nI 1) = (nI 1) := rfl
            exact exZ hx hb hr hlocks hAe hS () (by decide) q_17 hP hD dL_isNear_53

