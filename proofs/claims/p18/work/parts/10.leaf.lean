
theorem fm_lt {a : Nat} (h : a < 8) : cO a - cO a / nI 8 * nI 8 = cO a ∨ (a = 0 ∧ cO a - cO a / nI 8 * nI 8 = 0) := by
  have : ∀ a, a < 8 → (cO a - cO a / nI 8 * nI 8 = cO a ∨ (a = 0 ∧ cO a - cO a / nI 8 * nI 8 = 0)) := by decide +kernel
  exact this a h
theorem fm_x {a : Nat} (h : a < 8) : ¬ 0 ≤ (cO a ^^^ nI 8) := by
  have : ∀ a, a < 8 → ¬ 0 ≤ (cO a ^^^ nI 8) := by decide +kernel
  exact this a h
theorem cO_ge {a : Nat} (h : 8 ≤ a) : cO a = nI (a - 8) := pk_sub h
theorem fm_xge {a : Nat} (h : 8 ≤ a) (ha : a < 2 ^ 20) : 0 ≤ (cO a ^^^ nI 8) := by
  rw [cO_ge h, fb_xorI]
  have h1 : (a - 8) ^^^ 8 < 2 ^ 20 := Nat.xor_lt_two_pow (by omega) (by omega)
  exact nI_pos' (by omega)
theorem fm_iff {a : Nat} (ha : a < 2 ^ 20) : 0 ≤ (cO a ^^^ nI 8) ↔ 8 ≤ a := ⟨fun h => (Nat.lt_or_ge a 8).elim (fun q => absurd h (fm_x q)) id, fun h => fm_xge h ha⟩
theorem fm_r (a : Nat) : cO a - cO a / nI 8 * nI 8 = if 8 ≤ a then (cO a - cO a / nI 8 * nI 8) else cO a - cO a / nI 8 * nI 8 := by split <;> rfl
theorem fm_ge {a : Nat} (h : 8 ≤ a) (ha : a < 2 ^ 20) : cO a - cO a / nI 8 * nI 8 = nI (a % 8) := by
  rw [cO_ge h, pk_rem (by omega) (by omega) (by omega)]
  congr 1
  omega
theorem fm_l0 {a : Nat} (h : a < 8) (h1 : cO a - cO a / nI 8 * nI 8 = 0) : (0 : Int32) = nI (a % 8) := by
  have : ∀ a, a < 8 → cO a - cO a / nI 8 * nI 8 = 0 → (0 : Int32) = nI (a % 8) := by decide +kernel
  exact this a h h1
theorem fm_l1 {a : Nat} (h : a < 8) (h1 : ¬ cO a - cO a / nI 8 * nI 8 = 0) : cO a - cO a / nI 8 * nI 8 + nI 8 = nI (a % 8) := by
  have : ∀ a, a < 8 → ¬ cO a - cO a / nI 8 * nI 8 = 0 → cO a - cO a / nI 8 * nI 8 + nI 8 = nI (a % 8) := by decide +kernel
  exact this a h h1


def rsh (d : Nat) : Nat := if d % 8 = 0 then 90 else if d % 8 = 1 then 20 else if d % 8 = 7 then 20 else 0

set_option maxHeartbeats 4000000 in
set_option maxRecDepth 100000 in
theorem c_portOf (l : Launch) (E : EnvT) (sz : Nat) (pt sd : Nat) : MI l yX3_portOf wsX3_portOf ({ frames := 0, cells := 0, slots := 0, locals := 0 }) E sz [.int (nI pt), .int (nI sd)] [] (fun (r : Int32) (_ : Unit) => r = nI (pt * 2 + sd)) (fun _ => []) := by
  refine enI (cc := cX3_portOf) (maxL := 2) (ret := .int) (by decide +kernel) rfl (Nat.le_of_ble_eq_true rfl) ?_
  intro p e s m below meth c A ls hx hb hr hml hts hown hlocks hAe C0 hP hD hS hl
  have hown : s.vm.findClass RX3 = some m.cls := hown
  have hl : lv_has ls 2 [(0, .int (nI pt)), (1, .int (nI sd))] := hl
  obtain ⟨H, hHe⟩ : ∃ z, z = s.heap := ⟨_, rfl⟩
  obtain ⟨locs, hLe⟩ : ∃ z : List Loc, z = [] := ⟨_, rfl⟩
  have hP : va_P E.1 vwCl [] H := by rw [hHe]; exact hP
  have hD : va_D A [] := hD
  have hS : va_S A s.heap H locs := by rw [hHe, hLe]; exact hS
  suffices hgo : W p l e _ s m _ below meth c H locs 0 0 _ (F0 m 0 ls []) by rw [hHe, hLe] at hgo; exact hgo
  clear hHe hLe
  refine lv_iload_n hx hb dX3_portOf_0 rfl (lv_at hl 0 rfl) ?_
  refine lv_iconst (v := nI 2) hx hb dX3_portOf_1 (by decide) ?_
  refine lv_imul hx hb dX3_portOf_2 ?_
  refine lv_ri (y := (nI (pt * 2))) (pk_mul pt 2) ?_
  refine lv_iload_n hx hb dX3_portOf_3 rfl (lv_at hl 1 rfl) ?_
  refine lv_iadd hx hb dX3_portOf_4 ?_
  refine lv_ri (y := (nI ((pt * 2) + sd))) (nI_add (pt * 2) sd) ?_
  have q_1 : (nI ((pt * 2) + sd)) = (nI (pt * 2 + sd)) := rfl
  exact exI hx hb hr hlocks hAe hS () q_1 hP hD dX3_portOf_5

set_option maxHeartbeats 4000000 in
set_option maxRecDepth 100000 in
theorem c_floorMod (l : Launch) (E : EnvT) (sz : Nat) (a : Nat) (ha : a < 2 ^ 20) : MI l yJ9_floorMod_7cf53 wsJ9_floorMod_7cf53 ({ frames := 0, cells := 0, slots := 0, locals := 0 }) E sz [.int (cO a), .int (nI 8)] [] (fun (r : Int32) (_ : Unit) => r = nI (a % 8)) (fun _ => []) := by
  refine enI (cc := cJ9_floorMod_7cf53) (maxL := 3) (ret := .int) (by decide +kernel) rfl (Nat.le_of_ble_eq_true rfl) ?_
  intro p e s m below meth c A ls hx hb hr hml hts hown hlocks hAe C0 hP hD hS hl
  have hown : s.vm.findClass RJ9 = some m.cls := hown
  have hl : lv_has ls 3 [(0, .int (cO a)), (1, .int (nI 8))] := hl
  obtain ⟨H, hHe⟩ : ∃ z, z = s.heap := ⟨_, rfl⟩
  obtain ⟨locs, hLe⟩ : ∃ z : List Loc, z = [] := ⟨_, rfl⟩
  have hP : va_P E.1 vwCl [] H := by rw [hHe]; exact hP
  have hD : va_D A [] := hD
  have hS : va_S A s.heap H locs := by rw [hHe, hLe]; exact hS
  suffices hgo : W p l e _ s m _ below meth c H locs 0 0 _ (F0 m 0 ls []) by rw [hHe, hLe] at hgo; exact hgo
  clear hHe hLe
  refine lv_iload_n hx hb dJ9_floorMod_7cf53_0 rfl (lv_at hl 0 rfl) ?_
  refine lv_iload_n hx hb dJ9_floorMod_7cf53_1 rfl (lv_at hl 1 rfl) ?_
  refine lv_irem hx hb dJ9_floorMod_7cf53_2 (by decide) ?_
  refine lv_istore_n (lv' := [(2, .int ((cO a) - (cO a) / (nI 8) * (nI 8))), (0, .int (cO a)), (1, .int (nI 8))]) hx hb dJ9_floorMod_7cf53_3 rfl hl (by decide) rfl (fun ls hl => ?_)
  refine lv_iload_n hx hb dJ9_floorMod_7cf53_4 rfl (lv_at hl 1 rfl) ?_
  refine lv_iload_n hx hb dJ9_floorMod_7cf53_5 rfl (lv_at hl 2 rfl) ?_
  refine lv_ixor hx hb dJ9_floorMod_7cf53_6 ?_
  refine lv_if_ge (tgt := 18) hx hb dJ9_floorMod_7cf53_7 (by decide) (fun c_1 => ?_) (fun c_1 => ?_)
  · skip
    have c_1 : 8 ≤ a := (fm_iff ha).mp c_1
    refine lv_iload_n hx hb dJ9_floorMod_7cf53_18 rfl (lv_at hl 0 rfl) ?_
    have q_2 : ((cO a) - (cO a) / (nI 8) * (nI 8)) = (nI (a % 8)) := by symm; first | exact (fm_ge c_1 ha).symm | (rw [trivial]; exact (fm_l0 (by omega) trivial).symm)
    exact exI hx hb hr hlocks hAe hS () q_2 hP hD dJ9_floorMod_7cf53_19
  · skip
    have c_1 : ¬ (8 ≤ a) := fun h => c_1 ((fm_iff ha).mpr h)
    refine lv_iload_n hx hb dJ9_floorMod_7cf53_10 rfl (lv_at hl 0 rfl) ?_
    refine lv_if_eq (tgt := 18) hx hb dJ9_floorMod_7cf53_11 (by decide) (fun c_3 => ?_) (fun c_3 => ?_)
    · skip
      refine lv_iload_n hx hb dJ9_floorMod_7cf53_18 rfl (lv_at hl 0 rfl) ?_
      have q_4 : ((cO a) - (cO a) / (nI 8) * (nI 8)) = (nI (a % 8)) := by symm; first | exact (fm_ge c_1 ha).symm | (rw [c_3]; exact (fm_l0 (by omega) c_3).symm)
      exact exI hx hb hr hlocks hAe hS () q_4 hP hD dJ9_floorMod_7cf53_19
    · skip
      refine lv_iload_n hx hb dJ9_floorMod_7cf53_14 rfl (lv_at hl 0 rfl) ?_
      refine lv_iload_n hx hb dJ9_floorMod_7cf53_15 rfl (lv_at hl 2 rfl) ?_
      refine lv_iadd hx hb dJ9_floorMod_7cf53_16 ?_
      have q_5 : (((cO a) - (cO a) / (nI 8) * (nI 8)) + (nI 8)) = (nI (a % 8)) := by symm; exact (fm_l1 (by omega) c_3).symm
      exact exI hx hb hr hlocks hAe hS () q_5 hP hD dJ9_floorMod_7cf53_17

set_option maxHeartbeats 4000000 in
set_option maxRecDepth 100000 in
theorem c_slotOf (l : Launch) (E : EnvT) (sz : Nat) (pt a : Nat) (hp : pt < 16) (ha : a < 2 ^ 20) : MI l yX1_slotOf wsX1_slotOf ({ frames := 1, cells := 0, slots := 0, locals := 22 }) E sz [.int (nI pt), .int (cO a)] [] (fun (r : Int32) (_ : Unit) => r = nI ((pt * 8 + a % 8) * 8)) (fun _ => []) := by
  refine enI (cc := cX1_slotOf) (maxL := 2) (ret := .int) (by decide +kernel) rfl (Nat.le_of_ble_eq_true rfl) ?_
  intro p e s m below meth c A ls hx hb hr hml hts hown hlocks hAe C0 hP hD hS hl
  have hown : s.vm.findClass RX1 = some m.cls := hown
  have hl : lv_has ls 2 [(0, .int (nI pt)), (1, .int (cO a))] := hl
  obtain ⟨H, hHe⟩ : ∃ z, z = s.heap := ⟨_, rfl⟩
  obtain ⟨locs, hLe⟩ : ∃ z : List Loc, z = [] := ⟨_, rfl⟩
  have hP : va_P E.1 vwCl [] H := by rw [hHe]; exact hP
  have hD : va_D A [] := hD
  have hS : va_S A s.heap H locs := by rw [hHe, hLe]; exact hS
  suffices hgo : W p l e _ s m _ below meth c H locs 0 0 _ (F0 m 0 ls []) by rw [hHe, hLe] at hgo; exact hgo
  clear hHe hLe
  refine lv_iload_n hx hb dX1_slotOf_0 rfl (lv_at hl 0 rfl) ?_
  refine lv_bipush (v := nI 8) hx hb dX1_slotOf_1 (by decide) ?_
  refine lv_imul hx hb dX1_slotOf_3 ?_
  refine lv_ri (y := (nI (pt * 8))) (pk_mul pt 8) ?_
  refine lv_iload_n hx hb dX1_slotOf_4 rfl (lv_at hl 1 rfl) ?_
  refine lv_bipush (v := nI 8) hx hb dX1_slotOf_5 (by decide) ?_
  have hPc := hP.pick (ws' := []) [] rfl
  have hDc := hD.sub (ws' := []) [] (by decide) rfl
  refine kcI (wr := []) (w1 := fun _ : Unit => []) (w2 := fun _ => []) (va_runS (As := [.int (cO a), .int (nI 8)]) (rest := [.int (nI (pt * 8))]) ⟨hx, hb, hml, hown, hts⟩ (c_floorMod l E H.size a (by omega)) (va_cwS 2 hts gX1_slotOf_J9_floorMod_7cf53 rfl rfl rfl (by decide +kernel) ⟨Nat.le_of_ble_eq_true rfl, Nat.le_of_ble_eq_true rfl⟩) (preS C0 hPc hDc hS) rfl rfl hl.1 rfl (lv_room (Nat.le_of_ble_eq_true rfl)) dX1_slotOf_7 ⟨Nat.le_refl _, Nat.le_refl _⟩) C0 hP hD hS [] [] [] rfl rfl (by decide) (by decide) (fun _ => rfl) (by decide) (fun r_9 _u H locs hw hP hD hS => ?_)
  have hP : va_P E.1 vwCl [] H := hP
  have hD : va_D A [] := hD
  have hw : r_9 = nI (a % 8) := hw
  subst hw
  refine lv_iadd hx hb dX1_slotOf_10 ?_
  refine lv_ri (y := (nI ((pt * 8) + (a % 8)))) (nI_add (pt * 8) (a % 8)) ?_
  refine lv_bipush (v := nI 8) hx hb dX1_slotOf_11 (by decide) ?_
  refine lv_imul hx hb dX1_slotOf_13 ?_
  refine lv_ri (y := (nI (((pt * 8) + (a % 8)) * 8))) (pk_mul ((pt * 8) + (a % 8)) 8) ?_
  have q_1 : (nI (((pt * 8) + (a % 8)) * 8)) = (nI ((pt * 8 + a % 8) * 8)) := rfl
  exact exI hx hb hr hlocks hAe hS () q_1 hP hD dX1_slotOf_14

set_option maxHeartbeats 4000000 in
set_option maxRecDepth 100000 in
theorem c_ringShare (l : Launch) (E : EnvT) (sz : Nat) (a : Nat) (ha : a < 2 ^ 20) : MI l yX1_ringShare wsX1_ringShare ({ frames := 1, cells := 0, slots := 0, locals := 22 }) E sz [.int (cO a)] [] (fun (r : Int32) (_ : Unit) => r = nI (rsh a)) (fun _ => []) := by
  refine enI (cc := cX1_ringShare) (maxL := 2) (ret := .int) (by decide +kernel) rfl (Nat.le_of_ble_eq_true rfl) ?_
  intro p e s m below meth c A ls hx hb hr hml hts hown hlocks hAe C0 hP hD hS hl
  have hown : s.vm.findClass RX1 = some m.cls := hown
  have hl : lv_has ls 2 [(0, .int (cO a))] := hl
  obtain ⟨H, hHe⟩ : ∃ z, z = s.heap := ⟨_, rfl⟩
  obtain ⟨locs, hLe⟩ : ∃ z : List Loc, z = [] := ⟨_, rfl⟩
  have hP : va_P E.1 vwCl [] H := by rw [hHe]; exact hP
  have hD : va_D A [] := hD
  have hS : va_S A s.heap H locs := by rw [hHe, hLe]; exact hS
  suffices hgo : W p l e _ s m _ below meth c H locs 0 0 _ (F0 m 0 ls []) by rw [hHe, hLe] at hgo; exact hgo
  clear hHe hLe
  refine lv_iload_n hx hb dX1_ringShare_0 rfl (lv_at hl 0 rfl) ?_
  refine lv_bipush (v := nI 8) hx hb dX1_ringShare_1 (by decide) ?_
  have hPc := hP.pick (ws' := []) [] rfl
  have hDc := hD.sub (ws' := []) [] (by decide) rfl
  refine kcI (wr := []) (w1 := fun _ : Unit => []) (w2 := fun _ => []) (va_runS (As := [.int (cO a), .int (nI 8)]) (rest := []) ⟨hx, hb, hml, hown, hts⟩ (c_floorMod l E H.size a (by omega)) (va_cwS 2 hts gX1_ringShare_J9_floorMod_7cf53 rfl rfl rfl (by decide +kernel) ⟨Nat.le_of_ble_eq_true rfl, Nat.le_of_ble_eq_true rfl⟩) (preS C0 hPc hDc hS) rfl rfl hl.1 rfl (lv_room (Nat.le_of_ble_eq_true rfl)) dX1_ringShare_3 ⟨Nat.le_refl _, Nat.le_refl _⟩) C0 hP hD hS [] [] [] rfl rfl (by decide) (by decide) (fun _ => rfl) (by decide) (fun r_9 _u H locs hw hP hD hS => ?_)
  have hP : va_P E.1 vwCl [] H := hP
  have hD : va_D A [] := hD
  have hw : r_9 = nI (a % 8) := hw
  subst hw
  refine lv_istore_n (lv' := [(1, .int (nI (a % 8))), (0, .int (cO a))]) hx hb dX1_ringShare_6 rfl hl (by decide) rfl (fun ls hl => ?_)
  refine lv_iload_n hx hb dX1_ringShare_7 rfl (lv_at hl 0 rfl) ?_
  refine lv_if_ne (tgt := 14) hx hb dX1_ringShare_8 (by decide) (fun c_1 => ?_) (fun c_1 => ?_)
  · skip
    have c_1 : ¬ ((a % 8) = 0) := fun h => c_1 ((ci0_eq (by omega)).mpr h)
    refine lv_iload_n hx hb dX1_ringShare_14 rfl (lv_at hl 0 rfl) ?_
    refine lv_iconst (v := nI 1) hx hb dX1_ringShare_15 (by decide) ?_
    refine lv_icmp_eq (tgt := 25) hx hb dX1_ringShare_16 (by decide) (fun c_2 => ?_) (fun c_2 => ?_)
    · skip
      have c_2 : (a % 8) = 1 := (ci_eq (by omega) (by omega)).mp c_2
      refine lv_bipush (v := nI 20) hx hb dX1_ringShare_25 (by decide) ?_
      refine lv_goto (tgt := 31) hx hb dX1_ringShare_27 (by decide) ?_
      have q_3 : (nI 20) = (nI (rsh a)) := by symm; first | rfl | (simp only [rsh, c_1, c_2, if_true, if_false, not_true_eq_false, not_false_eq_true, ite_true, ite_false]; done) | (simp only [rsh, c_1, c_2, if_true, if_false]; rfl) | (simp [rsh, c_1, c_2]; done)
      exact exI hx hb hr hlocks hAe hS () q_3 hP hD dX1_ringShare_31
    · skip
      have c_2 : ¬ ((a % 8) = 1) := fun h => c_2 ((ci_eq (by omega) (by omega)).mpr h)
      refine lv_iload_n hx hb dX1_ringShare_19 rfl (lv_at hl 0 rfl) ?_
      refine lv_bipush (v := nI 7) hx hb dX1_ringShare_20 (by decide) ?_
      refine lv_icmp_ne (tgt := 30) hx hb dX1_ringShare_22 (by decide) (fun c_4 => ?_) (fun c_4 => ?_)
      · skip
        have c_4 : ¬ ((a % 8) = 7) := fun h => c_4 ((ci_eq (by omega) (by omega)).mpr h)
        refine lv_iconst (v := nI 0) hx hb dX1_ringShare_30 (by decide) ?_
        have q_5 : (nI 0) = (nI (rsh a)) := by symm; first | rfl | (simp only [rsh, c_1, c_2, c_4, if_true, if_false, not_true_eq_false, not_false_eq_true, ite_true, ite_false]; done) | (simp only [rsh, c_1, c_2, c_4, if_true, if_false]; rfl) | (simp [rsh, c_1, c_2, c_4]; done)
        exact exI hx hb hr hlocks hAe hS () q_5 hP hD dX1_ringShare_31
      · skip
        have c_4 : (a % 8) = 7 := (ci_eq (by omega) (by omega)).mp c_4
        refine lv_bipush (v := nI 20) hx hb dX1_ringShare_25 (by decide) ?_
        refine lv_goto (tgt := 31) hx hb dX1_ringShare_27 (by decide) ?_
        have q_6 : (nI 20) = (nI (rsh a)) := by symm; first | rfl | (simp only [rsh, c_1, c_2, c_4, if_true, if_false, not_true_eq_false, not_false_eq_true, ite_true, ite_false]; done) | (simp only [rsh, c_1, c_2, c_4, if_true, if_false]; rfl) | (simp [rsh, c_1, c_2, c_4]; done)
        exact exI hx hb hr hlocks hAe hS () q_6 hP hD dX1_ringShare_31
  · skip
    have c_1 : (a % 8) = 0 := (ci0_eq (by omega)).mp c_1
    refine lv_bipush (v := nI 90) hx hb dX1_ringShare_11 (by decide) ?_
    have q_7 : (nI 90) = (nI (rsh a)) := by symm; first | rfl | (simp only [rsh, c_1, if_true, if_false, not_true_eq_false, not_false_eq_true, ite_true, ite_false]; done) | (simp only [rsh, c_1, if_true, if_false]; rfl) | (simp [rsh, c_1]; done)
    exact exI hx hb hr hlocks hAe hS () q_7 hP hD dX1_ringShare_13
