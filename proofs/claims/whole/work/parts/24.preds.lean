def tN (x : Int32) : Nat := x.toNatClampNeg
theorem tN_eq' {a : Nat} {x : Int32} (ha : a < 2 ^ 31) (h : nI a ≤ x) : x = nI (tN x) := by
  apply Int32.toInt_inj.mp
  have h1 := nI_toInt (n := a) ha
  have h2 := Int32.le_iff_toInt_le.mp h
  have h3 : tN x < 2 ^ 31 := by
    have := Int32.toInt_lt x
    show x.toInt.toNat < _
    omega
  rw [nI_toInt h3]
  show x.toInt = ((x.toInt.toNat : Nat) : Int)
  omega
theorem tN_le {x : Int32} {b : Nat} (hb : b < 2 ^ 31) (h : x ≤ nI b) : tN x ≤ b := by
  have h1 := nI_toInt (n := b) hb
  have h2 := Int32.le_iff_toInt_le.mp h
  show x.toInt.toNat ≤ _
  omega
theorem tN_ge {x : Int32} {a : Nat} (ha : a < 2 ^ 31) (h : nI a ≤ x) : a ≤ tN x := by
  have h1 := nI_toInt (n := a) ha
  have h2 := Int32.le_iff_toInt_le.mp h
  show _ ≤ x.toInt.toNat
  omega
theorem tN_nI {a : Nat} (ha : a < 2 ^ 31) : tN (nI a) = a := nI_clamp ha
theorem tN_eq {x y : Int32} (h : nI 0 ≤ x ∧ x ≤ y) : x = nI (tN x) := tN_eq' (by omega) h.1
theorem cL_le {x : Int32} {n : Nat} (hn : n < 2 ^ 30) (h : nI 0 ≤ x ∧ x ≤ cL n) : tN x < n := by
  cases n with
  | zero =>
    have h1 := Int32.le_iff_toInt_le.mp h.1
    have h2 := Int32.le_iff_toInt_le.mp h.2
    have h3 : (cL 0).toInt = -1 := by decide
    have h4 : (nI 0).toInt = 0 := by decide
    omega
  | succ n =>
    have h2 := h.2
    rw [cL_s] at h2
    have := tN_le (by omega) h2
    omega
theorem bI_t {P : Prop} [Decidable P] (h : P) : nI 1 = bI P := by unfold bI; rw [if_pos h]; rfl
theorem bI_f {P : Prop} [Decidable P] (h : ¬ P) : nI 0 = bI P := by unfold bI; rw [if_neg h]; rfl
abbrev RgP (a b x : Int32) : Prop := a ≤ x ∧ x ≤ b
abbrev IsP (n : Nat) (x : Int32) : Prop := nI 0 ≤ x ∧ x ≤ cL n
theorem i32_nlt {a b : Int32} (h : ¬ a < b) : b ≤ a := by
  have h1 : ¬ a.toInt < b.toInt := fun q => h (Int32.lt_iff_toInt_lt.mpr q)
  exact Int32.le_iff_toInt_le.mpr (by omega)
theorem i32_nle {a b : Int32} (h : a < b) : ¬ b ≤ a := fun q => by
  have h1 := Int32.lt_iff_toInt_lt.mp h
  have h2 := Int32.le_iff_toInt_le.mp q
  omega

set_option maxHeartbeats 4000000 in
set_option maxRecDepth 100000 in
theorem m_in (l : Launch) (E : EnvT) (sz : Nat) (xv xl xh : Int32) : MI l yX4_in wsX4_in ({ frames := 0, cells := 0, slots := 0, locals := 0 }) E sz [.int xv, .int xl, .int xh] [] (fun (r : Int32) (_ : Unit) => r = bI (xl ≤ xv ∧ xv ≤ xh)) (fun _ => []) := by
  refine enI (cc := cX4_in) (maxL := 3) (ret := .boolean) (by decide +kernel) rfl (Nat.le_of_ble_eq_true rfl) ?_
  intro p e s m below meth c A ls hx hb hr hml hts hown hlocks hAe C0 hP hD hS hl
  have hown : s.vm.findClass RX4 = some m.cls := hown
  have hl : lv_has ls 3 [(0, .int xv), (1, .int xl), (2, .int xh)] := hl
  obtain ⟨H, hHe⟩ : ∃ z, z = s.heap := ⟨_, rfl⟩
  obtain ⟨locs, hLe⟩ : ∃ z : List Loc, z = [] := ⟨_, rfl⟩
  have hP : va_P E.1 vwCl [] H := by rw [hHe]; exact hP
  have hD : va_D A [] := hD
  have hS : va_S A s.heap H locs := by rw [hHe, hLe]; exact hS
  suffices hgo : W p l e _ s m _ below meth c H locs 0 0 _ (F0 m 0 ls []) by rw [hHe, hLe] at hgo; exact hgo
  clear hHe hLe
  have JN_1 : ∀ (H : Heap) (locs : List Loc), va_P E.1 vwCl [] H → va_D A [] → va_S A s.heap H locs → ∀ (ls : Array Slot), lv_has ls 3 [(0, .int xv), (1, .int xl), (2, .int xh)] → W p l e ({ frames := 0, cells := 0, slots := 0, locals := 0 }) s m (([.int xv, .int xl, .int xh] : List Value).toArray) below meth c H locs 0 0 (MQ below (va_Qi (fun (r : Int32) (_ : Unit) => r = bI (xl ≤ xv ∧ xv ≤ xh)) (Wd E [] s.heap.size (fun _ => [])) A) (([.int xv, .int xl, .int xh] : List Value).toArray) s 0 0 A) (F0 m 15 ls [.int (bI (xl ≤ xv ∧ xv ≤ xh))]) := by
    intro   H locs hP hD hS ls hl
    have q_2 : (bI (xl ≤ xv ∧ xv ≤ xh)) = (bI (xl ≤ xv ∧ xv ≤ xh)) := rfl
    exact exZ hx hb hr hlocks hAe hS () (bI_nar) q_2 hP hD dX4_in_15
  refine lv_iload_n hx hb dX4_in_0 rfl (lv_at hl 0 rfl) ?_
  refine lv_iload_n hx hb dX4_in_1 rfl (lv_at hl 1 rfl) ?_
  refine lv_icmp_lt (tgt := 14) hx hb dX4_in_2 (by decide) (fun c_3 => ?_) (fun c_3 => ?_)
  · skip
    refine lv_iconst (v := nI 0) hx hb dX4_in_14 (by decide) ?_
    refine lv_ri (y := (bI (xl ≤ xv ∧ xv ≤ xh))) (bI_f (fun h => by first | exact i32_nle c_3 h.1 | exact i32_nle c_3 h.2)) ?_
    have hl : lv_has ls 3 [(0, .int xv), (1, .int xl), (2, .int xh)] := lv_sub hl [0, 1, 2] rfl
    exact JN_1   _ _ hP hD hS _ hl
  · skip
    refine lv_iload_n hx hb dX4_in_5 rfl (lv_at hl 0 rfl) ?_
    refine lv_iload_n hx hb dX4_in_6 rfl (lv_at hl 2 rfl) ?_
    refine lv_icmp_gt (tgt := 14) hx hb dX4_in_7 (by decide) (fun c_4 => ?_) (fun c_4 => ?_)
    · skip
      refine lv_iconst (v := nI 0) hx hb dX4_in_14 (by decide) ?_
      refine lv_ri (y := (bI (xl ≤ xv ∧ xv ≤ xh))) (bI_f (fun h => by first | exact i32_nle c_4 h.1 | exact i32_nle c_4 h.2)) ?_
      have hl : lv_has ls 3 [(0, .int xv), (1, .int xl), (2, .int xh)] := lv_sub hl [0, 1, 2] rfl
      exact JN_1   _ _ hP hD hS _ hl
    · skip
      refine lv_iconst (v := nI 1) hx hb dX4_in_10 (by decide) ?_
      refine lv_ri (y := (bI (xl ≤ xv ∧ xv ≤ xh))) (bI_t ⟨i32_nlt c_3, i32_nlt c_4⟩) ?_
      refine lv_goto (tgt := 15) hx hb dX4_in_11 (by decide) ?_
      have hl : lv_has ls 3 [(0, .int xv), (1, .int xl), (2, .int xh)] := lv_sub hl [0, 1, 2] rfl
      exact JN_1   _ _ hP hD hS _ hl

set_option maxHeartbeats 4000000 in
set_option maxRecDepth 100000 in
theorem m_isPart (l : Launch) (E : EnvT) (sz : Nat) (xp : Int32) (aM mK mX mY mF mS mL mQ mW mA mD mO mV mC mT mE mN mH mZ mP : Nat) (th n lst : Nat) (em gn lk : Int64) : MI l yX4_isPart wsX4_isPart ({ frames := 1, cells := 0, slots := 0, locals := 22 }) E sz [.ref aM, .int xp] [(aM, o4 (nI th) (nI n) mK mX mY mF mS mL mQ mW mA mD mO mV mC mT mE mN mH mZ mP em gn lk (nI lst))] (fun (r : Int32) (_ : Unit) => r = bI (nI 0 ≤ xp ∧ xp ≤ cL n)) (fun _ => [(aM, o4 (nI th) (nI n) mK mX mY mF mS mL mQ mW mA mD mO mV mC mT mE mN mH mZ mP em gn lk (nI lst))]) := by
  refine enI (cc := cX4_isPart) (maxL := 2) (ret := .boolean) (by decide +kernel) rfl (Nat.le_of_ble_eq_true rfl) ?_
  intro p e s m below meth c A ls hx hb hr hml hts hown hlocks hAe C0 hP hD hS hl
  have hown : s.vm.findClass RX4 = some m.cls := hown
  have hl : lv_has ls 2 [(0, .ref aM), (1, .int xp)] := hl
  have iX4 : ∀ w ∈ u_ws RX4 TX4 25, w ∈ wsX4_isPart := by decide +kernel
  obtain ⟨H, hHe⟩ : ∃ z, z = s.heap := ⟨_, rfl⟩
  obtain ⟨locs, hLe⟩ : ∃ z : List Loc, z = [] := ⟨_, rfl⟩
  have hP : va_P E.1 vwCl [(aM, o4 (nI th) (nI n) mK mX mY mF mS mL mQ mW mA mD mO mV mC mT mE mN mH mZ mP em gn lk (nI lst))] H := by rw [hHe]; exact hP
  have hD : va_D A [(aM, o4 (nI th) (nI n) mK mX mY mF mS mL mQ mW mA mD mO mV mC mT mE mN mH mZ mP em gn lk (nI lst))] := hD
  have hS : va_S A s.heap H locs := by rw [hHe, hLe]; exact hS
  suffices hgo : W p l e _ s m _ below meth c H locs 0 0 _ (F0 m 0 ls []) by rw [hHe, hLe] at hgo; exact hgo
  clear hHe hLe
  refine lv_iload_n hx hb dX4_isPart_0 rfl (lv_at hl 1 rfl) ?_
  refine lv_iconst (v := nI 0) hx hb dX4_isPart_1 (by decide) ?_
  refine lv_aload_n hx hb dX4_isPart_2 rfl (lv_at hl 0 rfl) ?_
  refine va_get (D := E.1) (ci := 4) (v := .int (nI n)) (C := RX4) (T := TX4) (N := 25) hx hb hts iX4 hown C0.1 hP 0 rfl rfl 1 (by decide) (hts (.fieldLink RX4 75 "RingresonanceModel" "parts" "I") (by decide +kernel)) (fun _ h9 => h9) rfl dX4_isPart_3 ?_
  refine lv_iconst (v := nI 1) hx hb dX4_isPart_6 (by decide) ?_
  refine lv_isub hx hb dX4_isPart_7 ?_
  refine lv_ri (y := (cL n)) (cL_n _) ?_
  have hPc := hP.pick (ws' := []) [] rfl
  have hDc := hD.sub (ws' := []) [] (by decide) rfl
  refine kcI (wr := [(aM, o4 (nI th) (nI n) mK mX mY mF mS mL mQ mW mA mD mO mV mC mT mE mN mH mZ mP em gn lk (nI lst))]) (w1 := fun _ : Unit => []) (w2 := fun _ => [(aM, o4 (nI th) (nI n) mK mX mY mF mS mL mQ mW mA mD mO mV mC mT mE mN mH mZ mP em gn lk (nI lst))]) (va_runS (As := [.int xp, .int (nI 0), .int (cL n)]) (rest := []) ⟨hx, hb, hml, hown, hts⟩ (m_in l E H.size xp (nI 0) (cL n) ) (va_cwS 3 hts gX4_isPart_X4_in rfl rfl rfl (by decide +kernel) ⟨Nat.le_of_ble_eq_true rfl, Nat.le_of_ble_eq_true rfl⟩) (preS C0 hPc hDc hS) rfl rfl hl.1 rfl (lv_room (Nat.le_of_ble_eq_true rfl)) dX4_isPart_8 ⟨Nat.le_refl _, Nat.le_refl _⟩) C0 hP hD hS [] [0] [0] rfl rfl (by decide) (by decide) (fun _ => rfl) (by decide) (fun r_9 _u H locs hw hP hD hS => ?_)
  have hP : va_P E.1 vwCl [(aM, o4 (nI th) (nI n) mK mX mY mF mS mL mQ mW mA mD mO mV mC mT mE mN mH mZ mP em gn lk (nI lst))] H := hP
  have hD : va_D A [(aM, o4 (nI th) (nI n) mK mX mY mF mS mL mQ mW mA mD mO mV mC mT mE mN mH mZ mP em gn lk (nI lst))] := hD
  have hw : r_9 = bI ((nI 0) ≤ xp ∧ xp ≤ (cL n)) := hw
  subst hw
  have q_1 : (bI ((nI 0) ≤ xp ∧ xp ≤ (cL n))) = (bI (nI 0 ≤ xp ∧ xp ≤ cL n)) := rfl
  exact exZ hx hb hr hlocks hAe hS () (bI_nar) q_1 hP hD dX4_isPart_11

set_option maxHeartbeats 4000000 in
set_option maxRecDepth 100000 in
theorem m_inputs (l : Launch) (E : EnvT) (sz : Nat) (kk : Nat) (hk : kk ≤ 5) : MI l yX4_inputs wsX4_inputs ({ frames := 0, cells := 0, slots := 0, locals := 0 }) E sz [.int (nI kk)] [] (fun (r : Int32) (_ : Unit) => r = nI (stV 0 kk)) (fun _ => []) := by
  refine enI (cc := cX4_inputs) (maxL := 1) (ret := .int) (by decide +kernel) rfl (Nat.le_of_ble_eq_true rfl) ?_
  intro p e s m below meth c A ls hx hb hr hml hts hown hlocks hAe C0 hP hD hS hl
  have hown : s.vm.findClass RX4 = some m.cls := hown
  have hl : lv_has ls 1 [(0, .int (nI kk))] := hl
  obtain ⟨H, hHe⟩ : ∃ z, z = s.heap := ⟨_, rfl⟩
  obtain ⟨locs, hLe⟩ : ∃ z : List Loc, z = [] := ⟨_, rfl⟩
  have hP : va_P E.1 vwCl [] H := by rw [hHe]; exact hP
  have hD : va_D A [] := hD
  have hS : va_S A s.heap H locs := by rw [hHe, hLe]; exact hS
  suffices hgo : W p l e _ s m _ below meth c H locs 0 0 _ (F0 m 0 ls []) by rw [hHe, hLe] at hgo; exact hgo
  clear hHe hLe
  have JN_1 : ∀ (H : Heap) (locs : List Loc), va_P E.1 vwCl [] H → va_D A [] → va_S A s.heap H locs → ∀ (ls : Array Slot), lv_has ls 1 [(0, .int (nI kk))] → W p l e ({ frames := 0, cells := 0, slots := 0, locals := 0 }) s m (([.int (nI kk)] : List Value).toArray) below meth c H locs 0 0 (MQ below (va_Qi (fun (r : Int32) (_ : Unit) => r = nI (stV 0 kk)) (Wd E [] s.heap.size (fun _ => [])) A) (([.int (nI kk)] : List Value).toArray) s 0 0 A) (F0 m 23 ls [.int (nI (stV 0 kk))]) := by
    intro   H locs hP hD hS ls hl
    have q_2 : (nI (stV 0 kk)) = (nI (stV 0 kk)) := rfl
    exact exI hx hb hr hlocks hAe hS () q_2 hP hD dX4_inputs_23
  refine lv_iload_n hx hb dX4_inputs_0 rfl (lv_at hl 0 rfl) ?_
  refine lv_if_ne (tgt := 8) hx hb dX4_inputs_1 (by decide) (fun c_3 => ?_) (fun c_3 => ?_)
  · skip
    have c_3 : ¬ (kk = 0) := fun h => c_3 ((ci0_eq (by omega)).mpr h)
    refine lv_iload_n hx hb dX4_inputs_8 rfl (lv_at hl 0 rfl) ?_
    refine lv_iconst (v := nI 2) hx hb dX4_inputs_9 (by decide) ?_
    refine lv_icmp_eq (tgt := 18) hx hb dX4_inputs_10 (by decide) (fun c_4 => ?_) (fun c_4 => ?_)
    · skip
      have c_4 : kk = 2 := (ci_eq (by omega) (by omega)).mp c_4
      refine lv_iconst (v := nI 2) hx hb dX4_inputs_18 (by decide) ?_
      refine lv_ri (y := (nI (stV 0 kk))) (by first | (rw [c_4] <;> rfl) | (have h9 : kk = 2 := (by omega); rw [h9] <;> rfl)) ?_
      refine lv_goto (tgt := 23) hx hb dX4_inputs_19 (by decide) ?_
      have hl : lv_has ls 1 [(0, .int (nI kk))] := lv_sub hl [0] rfl
      exact JN_1   _ _ hP hD hS _ hl
    · skip
      have c_4 : ¬ (kk = 2) := fun h => c_4 ((ci_eq (by omega) (by omega)).mpr h)
      refine lv_iload_n hx hb dX4_inputs_13 rfl (lv_at hl 0 rfl) ?_
      refine lv_iconst (v := nI 3) hx hb dX4_inputs_14 (by decide) ?_
      refine lv_icmp_ne (tgt := 22) hx hb dX4_inputs_15 (by decide) (fun c_5 => ?_) (fun c_5 => ?_)
      · skip
        have c_5 : ¬ (kk = 3) := fun h => c_5 ((ci_eq (by omega) (by omega)).mpr h)
        refine lv_iconst (v := nI 1) hx hb dX4_inputs_22 (by decide) ?_
        refine lv_ri (y := (nI (stV 0 kk))) (by rcases (show kk = 1 ∨ kk = 4 ∨ kk = 5 by omega) with h9 | h9 | h9 <;> rw [h9] <;> rfl) ?_
        have hl : lv_has ls 1 [(0, .int (nI kk))] := lv_sub hl [0] rfl
        exact JN_1   _ _ hP hD hS _ hl
      · skip
        have c_5 : kk = 3 := (ci_eq (by omega) (by omega)).mp c_5
        refine lv_iconst (v := nI 2) hx hb dX4_inputs_18 (by decide) ?_
        refine lv_ri (y := (nI (stV 0 kk))) (by first | (rw [c_5] <;> rfl) | (have h9 : kk = 2 := (by omega); rw [h9] <;> rfl)) ?_
        refine lv_goto (tgt := 23) hx hb dX4_inputs_19 (by decide) ?_
        have hl : lv_has ls 1 [(0, .int (nI kk))] := lv_sub hl [0] rfl
        exact JN_1   _ _ hP hD hS _ hl
  · skip
    have c_3 : kk = 0 := (ci0_eq (by omega)).mp c_3
    refine lv_iconst (v := nI 0) hx hb dX4_inputs_4 (by decide) ?_
    refine lv_ri (y := (nI (stV 0 kk))) (by first | (have h9 : kk = 0 := (by omega); rw [h9] <;> rfl) | (have h9 : kk = 1 := (by omega); rw [h9] <;> rfl) | (have h9 : kk = 2 := (by omega); rw [h9] <;> rfl) | (have h9 : kk = 3 := (by omega); rw [h9] <;> rfl) | (have h9 : kk = 4 := (by omega); rw [h9] <;> rfl) | (have h9 : kk = 5 := (by omega); rw [h9] <;> rfl)) ?_
    refine lv_goto (tgt := 23) hx hb dX4_inputs_5 (by decide) ?_
    have hl : lv_has ls 1 [(0, .int (nI kk))] := lv_sub hl [0] rfl
    exact JN_1   _ _ hP hD hS _ hl

set_option maxHeartbeats 4000000 in
set_option maxRecDepth 100000 in
theorem m_outputs (l : Launch) (E : EnvT) (sz : Nat) (kk : Nat) (hk : kk ≤ 5) : MI l yX4_outputs wsX4_outputs ({ frames := 0, cells := 0, slots := 0, locals := 0 }) E sz [.int (nI kk)] [] (fun (r : Int32) (_ : Unit) => r = nI (stV 1 kk)) (fun _ => []) := by
  refine enI (cc := cX4_outputs) (maxL := 1) (ret := .int) (by decide +kernel) rfl (Nat.le_of_ble_eq_true rfl) ?_
  intro p e s m below meth c A ls hx hb hr hml hts hown hlocks hAe C0 hP hD hS hl
  have hown : s.vm.findClass RX4 = some m.cls := hown
  have hl : lv_has ls 1 [(0, .int (nI kk))] := hl
  obtain ⟨H, hHe⟩ : ∃ z, z = s.heap := ⟨_, rfl⟩
  obtain ⟨locs, hLe⟩ : ∃ z : List Loc, z = [] := ⟨_, rfl⟩
  have hP : va_P E.1 vwCl [] H := by rw [hHe]; exact hP
  have hD : va_D A [] := hD
  have hS : va_S A s.heap H locs := by rw [hHe, hLe]; exact hS
  suffices hgo : W p l e _ s m _ below meth c H locs 0 0 _ (F0 m 0 ls []) by rw [hHe, hLe] at hgo; exact hgo
  clear hHe hLe
  have JN_1 : ∀ (H : Heap) (locs : List Loc), va_P E.1 vwCl [] H → va_D A [] → va_S A s.heap H locs → ∀ (ls : Array Slot), lv_has ls 1 [(0, .int (nI kk))] → W p l e ({ frames := 0, cells := 0, slots := 0, locals := 0 }) s m (([.int (nI kk)] : List Value).toArray) below meth c H locs 0 0 (MQ below (va_Qi (fun (r : Int32) (_ : Unit) => r = nI (stV 1 kk)) (Wd E [] s.heap.size (fun _ => [])) A) (([.int (nI kk)] : List Value).toArray) s 0 0 A) (F0 m 24 ls [.int (nI (stV 1 kk))]) := by
    intro   H locs hP hD hS ls hl
    have q_2 : (nI (stV 1 kk)) = (nI (stV 1 kk)) := rfl
    exact exI hx hb hr hlocks hAe hS () q_2 hP hD dX4_outputs_24
  refine lv_iload_n hx hb dX4_outputs_0 rfl (lv_at hl 0 rfl) ?_
  refine lv_iconst (v := nI 5) hx hb dX4_outputs_1 (by decide) ?_
  refine lv_icmp_ne (tgt := 9) hx hb dX4_outputs_2 (by decide) (fun c_3 => ?_) (fun c_3 => ?_)
  · skip
    have c_3 : ¬ (kk = 5) := fun h => c_3 ((ci_eq (by omega) (by omega)).mpr h)
    refine lv_iload_n hx hb dX4_outputs_9 rfl (lv_at hl 0 rfl) ?_
    refine lv_iconst (v := nI 2) hx hb dX4_outputs_10 (by decide) ?_
    refine lv_icmp_eq (tgt := 19) hx hb dX4_outputs_11 (by decide) (fun c_4 => ?_) (fun c_4 => ?_)
    · skip
      have c_4 : kk = 2 := (ci_eq (by omega) (by omega)).mp c_4
      refine lv_iconst (v := nI 2) hx hb dX4_outputs_19 (by decide) ?_
      refine lv_ri (y := (nI (stV 1 kk))) (by first | (rw [c_4] <;> rfl) | (have h9 : kk = 2 := (by omega); rw [h9] <;> rfl)) ?_
      refine lv_goto (tgt := 24) hx hb dX4_outputs_20 (by decide) ?_
      have hl : lv_has ls 1 [(0, .int (nI kk))] := lv_sub hl [0] rfl
      exact JN_1   _ _ hP hD hS _ hl
    · skip
      have c_4 : ¬ (kk = 2) := fun h => c_4 ((ci_eq (by omega) (by omega)).mpr h)
      refine lv_iload_n hx hb dX4_outputs_14 rfl (lv_at hl 0 rfl) ?_
      refine lv_iconst (v := nI 3) hx hb dX4_outputs_15 (by decide) ?_
      refine lv_icmp_ne (tgt := 23) hx hb dX4_outputs_16 (by decide) (fun c_5 => ?_) (fun c_5 => ?_)
      · skip
        have c_5 : ¬ (kk = 3) := fun h => c_5 ((ci_eq (by omega) (by omega)).mpr h)
        refine lv_iconst (v := nI 1) hx hb dX4_outputs_23 (by decide) ?_
        refine lv_ri (y := (nI (stV 1 kk))) (by rcases (show kk = 0 ∨ kk = 1 ∨ kk = 4 by omega) with h9 | h9 | h9 <;> rw [h9] <;> rfl) ?_
        have hl : lv_has ls 1 [(0, .int (nI kk))] := lv_sub hl [0] rfl
        exact JN_1   _ _ hP hD hS _ hl
      · skip
        have c_5 : kk = 3 := (ci_eq (by omega) (by omega)).mp c_5
        refine lv_iconst (v := nI 2) hx hb dX4_outputs_19 (by decide) ?_
        refine lv_ri (y := (nI (stV 1 kk))) (by first | (rw [c_5] <;> rfl) | (have h9 : kk = 2 := (by omega); rw [h9] <;> rfl)) ?_
        refine lv_goto (tgt := 24) hx hb dX4_outputs_20 (by decide) ?_
        have hl : lv_has ls 1 [(0, .int (nI kk))] := lv_sub hl [0] rfl
        exact JN_1   _ _ hP hD hS _ hl
  · skip
    have c_3 : kk = 5 := (ci_eq (by omega) (by omega)).mp c_3
    refine lv_iconst (v := nI 0) hx hb dX4_outputs_5 (by decide) ?_
    refine lv_ri (y := (nI (stV 1 kk))) (by first | (have h9 : kk = 0 := (by omega); rw [h9] <;> rfl) | (have h9 : kk = 1 := (by omega); rw [h9] <;> rfl) | (have h9 : kk = 2 := (by omega); rw [h9] <;> rfl) | (have h9 : kk = 3 := (by omega); rw [h9] <;> rfl) | (have h9 : kk = 4 := (by omega); rw [h9] <;> rfl) | (have h9 : kk = 5 := (by omega); rw [h9] <;> rfl)) ?_
    refine lv_goto (tgt := 24) hx hb dX4_outputs_6 (by decide) ?_
    have hl : lv_has ls 1 [(0, .int (nI kk))] := lv_sub hl [0] rfl
    exact JN_1   _ _ hP hD hS _ hl

theorem le_0 {x : Int32} : (nI 0 ≤ x ∧ x ≤ nI 0) ↔ x = 0 := by
  refine ⟨fun h => ?_, fun h => by subst h; decide⟩
  have h1 := Int32.le_iff_toInt_le.mp h.1
  have h2 := Int32.le_iff_toInt_le.mp h.2
  apply Int32.toInt_inj.mp
  have h4 : (nI 0).toInt = 0 := by decide
  have h5 : (0 : Int32).toInt = 0 := by decide
  omega

set_option maxHeartbeats 4000000 in
set_option maxRecDepth 100000 in
theorem m_isFirst (l : Launch) (E : EnvT) (sz : Nat) (kk : Nat) (xv : Int32) (hk : kk ≤ 5) : MI l yX4_isFirst wsX4_isFirst ({ frames := 1, cells := 0, slots := 0, locals := 22 }) E sz [.int (nI kk), .int xv] [] (fun (r : Int32) (_ : Unit) => r = bI (nI (stV 2 kk) ≤ xv ∧ xv ≤ nI (stV 3 kk))) (fun _ => []) := by
  refine enI (cc := cX4_isFirst) (maxL := 2) (ret := .boolean) (by decide +kernel) rfl (Nat.le_of_ble_eq_true rfl) ?_
  intro p e s m below meth c A ls hx hb hr hml hts hown hlocks hAe C0 hP hD hS hl
  have hown : s.vm.findClass RX4 = some m.cls := hown
  have hl : lv_has ls 2 [(0, .int (nI kk)), (1, .int xv)] := hl
  obtain ⟨H, hHe⟩ : ∃ z, z = s.heap := ⟨_, rfl⟩
  obtain ⟨locs, hLe⟩ : ∃ z : List Loc, z = [] := ⟨_, rfl⟩
  have hP : va_P E.1 vwCl [] H := by rw [hHe]; exact hP
  have hD : va_D A [] := hD
  have hS : va_S A s.heap H locs := by rw [hHe, hLe]; exact hS
  suffices hgo : W p l e _ s m _ below meth c H locs 0 0 _ (F0 m 0 ls []) by rw [hHe, hLe] at hgo; exact hgo
  clear hHe hLe
  have JN_1 : ∀ (H : Heap) (locs : List Loc), va_P E.1 vwCl [] H → va_D A [] → va_S A s.heap H locs → ∀ (ls : Array Slot), lv_has ls 2 [(0, .int (nI kk)), (1, .int xv)] → W p l e ({ frames := 1, cells := 0, slots := 0, locals := 22 }) s m (([.int (nI kk), .int xv] : List Value).toArray) below meth c H locs 0 0 (MQ below (va_Qi (fun (r : Int32) (_ : Unit) => r = bI (nI (stV 2 kk) ≤ xv ∧ xv ≤ nI (stV 3 kk))) (Wd E [] s.heap.size (fun _ => [])) A) (([.int (nI kk), .int xv] : List Value).toArray) s 0 0 A) (F0 m 43 ls [.int (bI (nI (stV 2 kk) ≤ xv ∧ xv ≤ nI (stV 3 kk)))]) := by
    intro   H locs hP hD hS ls hl
    have q_2 : (bI (nI (stV 2 kk) ≤ xv ∧ xv ≤ nI (stV 3 kk))) = (bI (nI (stV 2 kk) ≤ xv ∧ xv ≤ nI (stV 3 kk))) := rfl
    exact exZ hx hb hr hlocks hAe hS () (bI_nar) q_2 hP hD dX4_isFirst_43
  refine lv_iload_n hx hb dX4_isFirst_0 rfl (lv_at hl 0 rfl) ?_
  refine lv_if_eq (tgt := 9) hx hb dX4_isFirst_1 (by decide) (fun c_3 => ?_) (fun c_3 => ?_)
  · skip
    have c_3 : kk = 0 := (ci0_eq (by omega)).mp c_3
    refine lv_iload_n hx hb dX4_isFirst_9 rfl (lv_at hl 1 rfl) ?_
    refine lv_iconst (v := nI 0) hx hb dX4_isFirst_10 (by decide) ?_
    refine lv_bipush (v := nI 7) hx hb dX4_isFirst_11 (by decide) ?_
    have hPc := hP.pick (ws' := []) [] rfl
    have hDc := hD.sub (ws' := []) [] (by decide) rfl
    refine kcI (wr := []) (w1 := fun _ : Unit => []) (w2 := fun _ => []) (va_runS (As := [.int xv, .int (nI 0), .int (nI 7)]) (rest := []) ⟨hx, hb, hml, hown, hts⟩ (m_in l E H.size xv (nI 0) (nI 7) ) (va_cwS 3 hts gX4_isFirst_X4_in rfl rfl rfl (by decide +kernel) ⟨Nat.le_of_ble_eq_true rfl, Nat.le_of_ble_eq_true rfl⟩) (preS C0 hPc hDc hS) rfl rfl hl.1 rfl (lv_room (Nat.le_of_ble_eq_true rfl)) dX4_isFirst_13 ⟨Nat.le_refl _, Nat.le_refl _⟩) C0 hP hD hS [] [] [] rfl rfl (by decide) (by decide) (fun _ => rfl) (by decide) (fun r_9 _u H locs hw hP hD hS => ?_)
    have hP : va_P E.1 vwCl [] H := hP
    have hD : va_D A [] := hD
    have hw : r_9 = bI ((nI 0) ≤ xv ∧ xv ≤ (nI 7)) := hw
    subst hw
    refine lv_ri (y := (bI (nI (stV 2 kk) ≤ xv ∧ xv ≤ nI (stV 3 kk)))) (by rcases (show kk = 0 ∨ kk = 3 by omega) with h9 | h9 <;> simp only [h9] <;> rfl) ?_
    refine lv_goto (tgt := 43) hx hb dX4_isFirst_16 (by decide) ?_
    have hl : lv_has ls 2 [(0, .int (nI kk)), (1, .int xv)] := lv_sub hl [0, 1] rfl
    exact JN_1   _ _ hP hD hS _ hl
  · skip
    have c_3 : ¬ (kk = 0) := fun h => c_3 ((ci0_eq (by omega)).mpr h)
    refine lv_iload_n hx hb dX4_isFirst_4 rfl (lv_at hl 0 rfl) ?_
    refine lv_iconst (v := nI 3) hx hb dX4_isFirst_5 (by decide) ?_
    refine lv_icmp_ne (tgt := 19) hx hb dX4_isFirst_6 (by decide) (fun c_4 => ?_) (fun c_4 => ?_)
    · skip
      have c_4 : ¬ (kk = 3) := fun h => c_4 ((ci_eq (by omega) (by omega)).mpr h)
      refine lv_iload_n hx hb dX4_isFirst_19 rfl (lv_at hl 0 rfl) ?_
      refine lv_iconst (v := nI 1) hx hb dX4_isFirst_20 (by decide) ?_
      refine lv_icmp_ne (tgt := 34) hx hb dX4_isFirst_21 (by decide) (fun c_5 => ?_) (fun c_5 => ?_)
      · skip
        have c_5 : ¬ (kk = 1) := fun h => c_5 ((ci_eq (by omega) (by omega)).mpr h)
        refine lv_iload_n hx hb dX4_isFirst_34 rfl (lv_at hl 1 rfl) ?_
        refine lv_if_ne (tgt := 42) hx hb dX4_isFirst_35 (by decide) (fun c_6 => ?_) (fun c_6 => ?_)
        · skip
          refine lv_iconst (v := nI 0) hx hb dX4_isFirst_42 (by decide) ?_
          refine lv_ri (y := (bI (nI (stV 2 kk) ≤ xv ∧ xv ≤ nI (stV 3 kk)))) (bI_f (by rcases (show kk = 2 ∨ kk = 4 ∨ kk = 5 by omega) with h9 | h9 | h9 <;> rw [h9] <;> exact fun h => c_6 (le_0.mp h))) ?_
          have hl : lv_has ls 2 [(0, .int (nI kk)), (1, .int xv)] := lv_sub hl [0, 1] rfl
          exact JN_1   _ _ hP hD hS _ hl
        · skip
          refine lv_iconst (v := nI 1) hx hb dX4_isFirst_38 (by decide) ?_
          refine lv_ri (y := (bI (nI (stV 2 kk) ≤ xv ∧ xv ≤ nI (stV 3 kk)))) (bI_t (by rcases (show kk = 2 ∨ kk = 4 ∨ kk = 5 by omega) with h9 | h9 | h9 <;> rw [h9] <;> exact le_0.mpr c_6)) ?_
          refine lv_goto (tgt := 43) hx hb dX4_isFirst_39 (by decide) ?_
          have hl : lv_has ls 2 [(0, .int (nI kk)), (1, .int xv)] := lv_sub hl [0, 1] rfl
          exact JN_1   _ _ hP hD hS _ hl
      · skip
        have c_5 : kk = 1 := (ci_eq (by omega) (by omega)).mp c_5
        refine lv_iload_n hx hb dX4_isFirst_24 rfl (lv_at hl 1 rfl) ?_
        refine lv_iconst (v := nI 1) hx hb dX4_isFirst_25 (by decide) ?_
        refine lv_bipush (v := nI 8) hx hb dX4_isFirst_26 (by decide) ?_
        have hPc := hP.pick (ws' := []) [] rfl
        have hDc := hD.sub (ws' := []) [] (by decide) rfl
        refine kcI (wr := []) (w1 := fun _ : Unit => []) (w2 := fun _ => []) (va_runS (As := [.int xv, .int (nI 1), .int (nI 8)]) (rest := []) ⟨hx, hb, hml, hown, hts⟩ (m_in l E H.size xv (nI 1) (nI 8) ) (va_cwS 3 hts gX4_isFirst_X4_in rfl rfl rfl (by decide +kernel) ⟨Nat.le_of_ble_eq_true rfl, Nat.le_of_ble_eq_true rfl⟩) (preS C0 hPc hDc hS) rfl rfl hl.1 rfl (lv_room (Nat.le_of_ble_eq_true rfl)) dX4_isFirst_28 ⟨Nat.le_refl _, Nat.le_refl _⟩) C0 hP hD hS [] [] [] rfl rfl (by decide) (by decide) (fun _ => rfl) (by decide) (fun r_9 _u H locs hw hP hD hS => ?_)
        have hP : va_P E.1 vwCl [] H := hP
        have hD : va_D A [] := hD
        have hw : r_9 = bI ((nI 1) ≤ xv ∧ xv ≤ (nI 8)) := hw
        subst hw
        refine lv_ri (y := (bI (nI (stV 2 kk) ≤ xv ∧ xv ≤ nI (stV 3 kk)))) (by have h9 : kk = 1 := (by omega); simp only [h9] <;> rfl) ?_
        refine lv_goto (tgt := 43) hx hb dX4_isFirst_31 (by decide) ?_
        have hl : lv_has ls 2 [(0, .int (nI kk)), (1, .int xv)] := lv_sub hl [0, 1] rfl
        exact JN_1   _ _ hP hD hS _ hl
    · skip
      have c_4 : kk = 3 := (ci_eq (by omega) (by omega)).mp c_4
      refine lv_iload_n hx hb dX4_isFirst_9 rfl (lv_at hl 1 rfl) ?_
      refine lv_iconst (v := nI 0) hx hb dX4_isFirst_10 (by decide) ?_
      refine lv_bipush (v := nI 7) hx hb dX4_isFirst_11 (by decide) ?_
      have hPc := hP.pick (ws' := []) [] rfl
      have hDc := hD.sub (ws' := []) [] (by decide) rfl
      refine kcI (wr := []) (w1 := fun _ : Unit => []) (w2 := fun _ => []) (va_runS (As := [.int xv, .int (nI 0), .int (nI 7)]) (rest := []) ⟨hx, hb, hml, hown, hts⟩ (m_in l E H.size xv (nI 0) (nI 7) ) (va_cwS 3 hts gX4_isFirst_X4_in rfl rfl rfl (by decide +kernel) ⟨Nat.le_of_ble_eq_true rfl, Nat.le_of_ble_eq_true rfl⟩) (preS C0 hPc hDc hS) rfl rfl hl.1 rfl (lv_room (Nat.le_of_ble_eq_true rfl)) dX4_isFirst_13 ⟨Nat.le_refl _, Nat.le_refl _⟩) C0 hP hD hS [] [] [] rfl rfl (by decide) (by decide) (fun _ => rfl) (by decide) (fun r_9 _u H locs hw hP hD hS => ?_)
      have hP : va_P E.1 vwCl [] H := hP
      have hD : va_D A [] := hD
      have hw : r_9 = bI ((nI 0) ≤ xv ∧ xv ≤ (nI 7)) := hw
      subst hw
      refine lv_ri (y := (bI (nI (stV 2 kk) ≤ xv ∧ xv ≤ nI (stV 3 kk)))) (by rcases (show kk = 0 ∨ kk = 3 by omega) with h9 | h9 <;> simp only [h9] <;> rfl) ?_
      refine lv_goto (tgt := 43) hx hb dX4_isFirst_16 (by decide) ?_
      have hl : lv_has ls 2 [(0, .int (nI kk)), (1, .int xv)] := lv_sub hl [0, 1] rfl
      exact JN_1   _ _ hP hD hS _ hl

set_option maxHeartbeats 4000000 in
set_option maxRecDepth 100000 in
theorem m_isSecond (l : Launch) (E : EnvT) (sz : Nat) (kk : Nat) (xv : Int32) (hk : kk ≤ 5) : MI l yX4_isSecond wsX4_isSecond ({ frames := 1, cells := 0, slots := 0, locals := 22 }) E sz [.int (nI kk), .int xv] [] (fun (r : Int32) (_ : Unit) => r = bI (nI 0 ≤ xv ∧ xv ≤ nI (stV 4 kk))) (fun _ => []) := by
  refine enI (cc := cX4_isSecond) (maxL := 3) (ret := .boolean) (by decide +kernel) rfl (Nat.le_of_ble_eq_true rfl) ?_
  intro p e s m below meth c A ls hx hb hr hml hts hown hlocks hAe C0 hP hD hS hl
  have hown : s.vm.findClass RX4 = some m.cls := hown
  have hl : lv_has ls 3 [(0, .int (nI kk)), (1, .int xv)] := hl
  obtain ⟨H, hHe⟩ : ∃ z, z = s.heap := ⟨_, rfl⟩
  obtain ⟨locs, hLe⟩ : ∃ z : List Loc, z = [] := ⟨_, rfl⟩
  have hP : va_P E.1 vwCl [] H := by rw [hHe]; exact hP
  have hD : va_D A [] := hD
  have hS : va_S A s.heap H locs := by rw [hHe, hLe]; exact hS
  suffices hgo : W p l e _ s m _ below meth c H locs 0 0 _ (F0 m 0 ls []) by rw [hHe, hLe] at hgo; exact hgo
  clear hHe hLe
  have JN_1 : ∀ (H : Heap) (locs : List Loc), va_P E.1 vwCl [] H → va_D A [] → va_S A s.heap H locs → ∀ (ls : Array Slot), lv_has ls 3 [(0, .int (nI kk)), (1, .int xv)] → W p l e ({ frames := 1, cells := 0, slots := 0, locals := 22 }) s m (([.int (nI kk), .int xv] : List Value).toArray) below meth c H locs 0 0 (MQ below (va_Qi (fun (r : Int32) (_ : Unit) => r = bI (nI 0 ≤ xv ∧ xv ≤ nI (stV 4 kk))) (Wd E [] s.heap.size (fun _ => [])) A) (([.int (nI kk), .int xv] : List Value).toArray) s 0 0 A) (F0 m 47 ls [.int (nI (stV 4 kk))]) := by
    intro   H locs hP hD hS ls hl
    refine lv_istore_n (lv' := [(2, .int (nI (stV 4 kk))), (0, .int (nI kk)), (1, .int xv)]) hx hb dX4_isSecond_47 rfl hl (by decide) rfl (fun ls hl => ?_)
    refine lv_iload_n hx hb dX4_isSecond_48 rfl (lv_at hl 2 rfl) ?_
    refine lv_iconst (v := nI 0) hx hb dX4_isSecond_49 (by decide) ?_
    refine lv_iload_n hx hb dX4_isSecond_50 rfl (lv_at hl 0 rfl) ?_
    have hPc := hP.pick (ws' := []) [] rfl
    have hDc := hD.sub (ws' := []) [] (by decide) rfl
    refine kcI (wr := []) (w1 := fun _ : Unit => []) (w2 := fun _ => []) (va_runS (As := [.int xv, .int (nI 0), .int (nI (stV 4 kk))]) (rest := []) ⟨hx, hb, hml, hown, hts⟩ (m_in l E H.size xv (nI 0) (nI (stV 4 kk)) ) (va_cwS 3 hts gX4_isSecond_X4_in rfl rfl rfl (by decide +kernel) ⟨Nat.le_of_ble_eq_true rfl, Nat.le_of_ble_eq_true rfl⟩) (preS C0 hPc hDc hS) rfl rfl hl.1 rfl (lv_room (Nat.le_of_ble_eq_true rfl)) dX4_isSecond_51 ⟨Nat.le_refl _, Nat.le_refl _⟩) C0 hP hD hS [] [] [] rfl rfl (by decide) (by decide) (fun _ => rfl) (by decide) (fun r_9 _u H locs hw hP hD hS => ?_)
    have hP : va_P E.1 vwCl [] H := hP
    have hD : va_D A [] := hD
    have hw : r_9 = bI ((nI 0) ≤ xv ∧ xv ≤ (nI (stV 4 kk))) := hw
    subst hw
    have q_2 : (bI ((nI 0) ≤ xv ∧ xv ≤ (nI (stV 4 kk)))) = (bI (nI 0 ≤ xv ∧ xv ≤ nI (stV 4 kk))) := rfl
    exact exZ hx hb hr hlocks hAe hS () (bI_nar) q_2 hP hD dX4_isSecond_54
  refine lv_iload_n hx hb dX4_isSecond_0 rfl (lv_at hl 0 rfl) ?_
  refine lv_if_ne (tgt := 10) hx hb dX4_isSecond_1 (by decide) (fun c_3 => ?_) (fun c_3 => ?_)
  · skip
    have c_3 : ¬ (kk = 0) := fun h => c_3 ((ci0_eq (by omega)).mpr h)
    refine lv_iload_n hx hb dX4_isSecond_10 rfl (lv_at hl 0 rfl) ?_
    refine lv_iconst (v := nI 1) hx hb dX4_isSecond_11 (by decide) ?_
    refine lv_icmp_eq (tgt := 20) hx hb dX4_isSecond_12 (by decide) (fun c_4 => ?_) (fun c_4 => ?_)
    · skip
      have c_4 : kk = 1 := (ci_eq (by omega) (by omega)).mp c_4
      refine lv_bipush (v := nI 100) hx hb dX4_isSecond_20 (by decide) ?_
      refine lv_ri (y := (nI (stV 4 kk))) (by rcases (show kk = 1 ∨ kk = 2 by omega) with h9 | h9 <;> rw [h9] <;> rfl) ?_
      refine lv_goto (tgt := 47) hx hb dX4_isSecond_22 (by decide) ?_
      have hl : lv_has ls 3 [(0, .int (nI kk)), (1, .int xv)] := lv_sub hl [0, 1] rfl
      exact JN_1   _ _ hP hD hS _ hl
    · skip
      have c_4 : ¬ (kk = 1) := fun h => c_4 ((ci_eq (by omega) (by omega)).mpr h)
      refine lv_iload_n hx hb dX4_isSecond_15 rfl (lv_at hl 0 rfl) ?_
      refine lv_iconst (v := nI 2) hx hb dX4_isSecond_16 (by decide) ?_
      refine lv_icmp_ne (tgt := 25) hx hb dX4_isSecond_17 (by decide) (fun c_5 => ?_) (fun c_5 => ?_)
      · skip
        have c_5 : ¬ (kk = 2) := fun h => c_5 ((ci_eq (by omega) (by omega)).mpr h)
        refine lv_iload_n hx hb dX4_isSecond_25 rfl (lv_at hl 0 rfl) ?_
        refine lv_iconst (v := nI 3) hx hb dX4_isSecond_26 (by decide) ?_
        refine lv_icmp_ne (tgt := 35) hx hb dX4_isSecond_27 (by decide) (fun c_6 => ?_) (fun c_6 => ?_)
        · skip
          have c_6 : ¬ (kk = 3) := fun h => c_6 ((ci_eq (by omega) (by omega)).mpr h)
          refine lv_iload_n hx hb dX4_isSecond_35 rfl (lv_at hl 0 rfl) ?_
          refine lv_iconst (v := nI 4) hx hb dX4_isSecond_36 (by decide) ?_
          refine lv_icmp_ne (tgt := 46) hx hb dX4_isSecond_37 (by decide) (fun c_7 => ?_) (fun c_7 => ?_)
          · skip
            have c_7 : ¬ (kk = 4) := fun h => c_7 ((ci_eq (by omega) (by omega)).mpr h)
            refine lv_iconst (v := nI 0) hx hb dX4_isSecond_46 (by decide) ?_
            refine lv_ri (y := (nI (stV 4 kk))) (by first | (have h9 : kk = 0 := (by omega); rw [h9] <;> rfl) | (have h9 : kk = 1 := (by omega); rw [h9] <;> rfl) | (have h9 : kk = 2 := (by omega); rw [h9] <;> rfl) | (have h9 : kk = 3 := (by omega); rw [h9] <;> rfl) | (have h9 : kk = 4 := (by omega); rw [h9] <;> rfl) | (have h9 : kk = 5 := (by omega); rw [h9] <;> rfl)) ?_
            have hl : lv_has ls 3 [(0, .int (nI kk)), (1, .int xv)] := lv_sub hl [0, 1] rfl
            exact JN_1   _ _ hP hD hS _ hl
          · skip
            have c_7 : kk = 4 := (ci_eq (by omega) (by omega)).mp c_7
            refine lv_sipush (v := nI 255) hx hb dX4_isSecond_40 (by decide) ?_
            refine lv_ri (y := (nI (stV 4 kk))) (by first | (have h9 : kk = 0 := (by omega); rw [h9] <;> rfl) | (have h9 : kk = 1 := (by omega); rw [h9] <;> rfl) | (have h9 : kk = 2 := (by omega); rw [h9] <;> rfl) | (have h9 : kk = 3 := (by omega); rw [h9] <;> rfl) | (have h9 : kk = 4 := (by omega); rw [h9] <;> rfl) | (have h9 : kk = 5 := (by omega); rw [h9] <;> rfl)) ?_
            refine lv_goto (tgt := 47) hx hb dX4_isSecond_43 (by decide) ?_
            have hl : lv_has ls 3 [(0, .int (nI kk)), (1, .int xv)] := lv_sub hl [0, 1] rfl
            exact JN_1   _ _ hP hD hS _ hl
        · skip
          have c_6 : kk = 3 := (ci_eq (by omega) (by omega)).mp c_6
          refine lv_bipush (v := nI 99) hx hb dX4_isSecond_30 (by decide) ?_
          refine lv_ri (y := (nI (stV 4 kk))) (by first | (have h9 : kk = 0 := (by omega); rw [h9] <;> rfl) | (have h9 : kk = 1 := (by omega); rw [h9] <;> rfl) | (have h9 : kk = 2 := (by omega); rw [h9] <;> rfl) | (have h9 : kk = 3 := (by omega); rw [h9] <;> rfl) | (have h9 : kk = 4 := (by omega); rw [h9] <;> rfl) | (have h9 : kk = 5 := (by omega); rw [h9] <;> rfl)) ?_
          refine lv_goto (tgt := 47) hx hb dX4_isSecond_32 (by decide) ?_
          have hl : lv_has ls 3 [(0, .int (nI kk)), (1, .int xv)] := lv_sub hl [0, 1] rfl
          exact JN_1   _ _ hP hD hS _ hl
      · skip
        have c_5 : kk = 2 := (ci_eq (by omega) (by omega)).mp c_5
        refine lv_bipush (v := nI 100) hx hb dX4_isSecond_20 (by decide) ?_
        refine lv_ri (y := (nI (stV 4 kk))) (by rcases (show kk = 1 ∨ kk = 2 by omega) with h9 | h9 <;> rw [h9] <;> rfl) ?_
        refine lv_goto (tgt := 47) hx hb dX4_isSecond_22 (by decide) ?_
        have hl : lv_has ls 3 [(0, .int (nI kk)), (1, .int xv)] := lv_sub hl [0, 1] rfl
        exact JN_1   _ _ hP hD hS _ hl
  · skip
    have c_3 : kk = 0 := (ci0_eq (by omega)).mp c_3
    refine lv_sipush (v := nI 999) hx hb dX4_isSecond_4 (by decide) ?_
    refine lv_ri (y := (nI (stV 4 kk))) (by first | (have h9 : kk = 0 := (by omega); rw [h9] <;> rfl) | (have h9 : kk = 1 := (by omega); rw [h9] <;> rfl) | (have h9 : kk = 2 := (by omega); rw [h9] <;> rfl) | (have h9 : kk = 3 := (by omega); rw [h9] <;> rfl) | (have h9 : kk = 4 := (by omega); rw [h9] <;> rfl) | (have h9 : kk = 5 := (by omega); rw [h9] <;> rfl)) ?_
    refine lv_goto (tgt := 47) hx hb dX4_isSecond_7 (by decide) ?_
    have hl : lv_has ls 3 [(0, .int (nI kk)), (1, .int xv)] := lv_sub hl [0, 1] rfl
    exact JN_1   _ _ hP hD hS _ hl

set_option maxHeartbeats 4000000 in
set_option maxRecDepth 100000 in
theorem m_isOutput (l : Launch) (E : EnvT) (sz : Nat) (xp xo : Int32) (aM mK mX mY mF mS mL mQ mW mA mD mO mV mC mT mE mN mH mZ mP : Nat) (th n lst : Nat) (em gn lk : Int64) (kd : Nat → Nat) (hn : n ≤ 16) (hk : ∀ j, j < n → kd j ≤ 5) : MI l yX4_isOutput wsX4_isOutput ({ frames := 2, cells := 0, slots := 0, locals := 43 }) E sz [.ref aM, .int xp, .int xo] [(aM, o4 (nI th) (nI n) mK mX mY mF mS mL mQ mW mA mD mO mV mC mT mE mN mH mZ mP em gn lk (nI lst)), (mK, ia E nI 16 kd)] (fun (r : Int32) (_ : Unit) => r = bI ((nI 0 ≤ xp ∧ xp ≤ cL n) ∧ (nI 0 ≤ xo ∧ xo ≤ cL (stV 1 (kd (tN xp)))))) (fun _ => [(aM, o4 (nI th) (nI n) mK mX mY mF mS mL mQ mW mA mD mO mV mC mT mE mN mH mZ mP em gn lk (nI lst)), (mK, ia E nI 16 kd)]) := by
  refine enI (cc := cX4_isOutput) (maxL := 3) (ret := .boolean) (by decide +kernel) rfl (Nat.le_of_ble_eq_true rfl) ?_
  intro p e s m below meth c A ls hx hb hr hml hts hown hlocks hAe C0 hP hD hS hl
  have hown : s.vm.findClass RX4 = some m.cls := hown
  have hl : lv_has ls 3 [(0, .ref aM), (1, .int xp), (2, .int xo)] := hl
  have iX4 : ∀ w ∈ u_ws RX4 TX4 25, w ∈ wsX4_isOutput := by decide +kernel
  obtain ⟨H, hHe⟩ : ∃ z, z = s.heap := ⟨_, rfl⟩
  obtain ⟨locs, hLe⟩ : ∃ z : List Loc, z = [] := ⟨_, rfl⟩
  have hP : va_P E.1 vwCl [(aM, o4 (nI th) (nI n) mK mX mY mF mS mL mQ mW mA mD mO mV mC mT mE mN mH mZ mP em gn lk (nI lst)), (mK, ia E nI 16 kd)] H := by rw [hHe]; exact hP
  have hD : va_D A [(aM, o4 (nI th) (nI n) mK mX mY mF mS mL mQ mW mA mD mO mV mC mT mE mN mH mZ mP em gn lk (nI lst)), (mK, ia E nI 16 kd)] := hD
  have hS : va_S A s.heap H locs := by rw [hHe, hLe]; exact hS
  suffices hgo : W p l e _ s m _ below meth c H locs 0 0 _ (F0 m 0 ls []) by rw [hHe, hLe] at hgo; exact hgo
  clear hHe hLe
  have JN_1 : ∀ (H : Heap) (locs : List Loc), va_P E.1 vwCl [(aM, o4 (nI th) (nI n) mK mX mY mF mS mL mQ mW mA mD mO mV mC mT mE mN mH mZ mP em gn lk (nI lst)), (mK, ia E nI 16 kd)] H → va_D A [(aM, o4 (nI th) (nI n) mK mX mY mF mS mL mQ mW mA mD mO mV mC mT mE mN mH mZ mP em gn lk (nI lst)), (mK, ia E nI 16 kd)] → va_S A s.heap H locs → ∀ (ls : Array Slot), lv_has ls 3 [(0, .ref aM), (1, .int xp), (2, .int xo)] → W p l e ({ frames := 2, cells := 0, slots := 0, locals := 43 }) s m (([.ref aM, .int xp, .int xo] : List Value).toArray) below meth c H locs 0 0 (MQ below (va_Qi (fun (r : Int32) (_ : Unit) => r = bI ((nI 0 ≤ xp ∧ xp ≤ cL n) ∧ (nI 0 ≤ xo ∧ xo ≤ cL (stV 1 (kd (tN xp)))))) (Wd E [(aM, o4 (nI th) (nI n) mK mX mY mF mS mL mQ mW mA mD mO mV mC mT mE mN mH mZ mP em gn lk (nI lst)), (mK, ia E nI 16 kd)] s.heap.size (fun _ => [(aM, o4 (nI th) (nI n) mK mX mY mF mS mL mQ mW mA mD mO mV mC mT mE mN mH mZ mP em gn lk (nI lst)), (mK, ia E nI 16 kd)])) A) (([.ref aM, .int xp, .int xo] : List Value).toArray) s 0 0 A) (F0 m 32 ls [.int (bI ((nI 0 ≤ xp ∧ xp ≤ cL n) ∧ (nI 0 ≤ xo ∧ xo ≤ cL (stV 1 (kd (tN xp))))))]) := by
    intro   H locs hP hD hS ls hl
    have q_2 : (bI ((nI 0 ≤ xp ∧ xp ≤ cL n) ∧ (nI 0 ≤ xo ∧ xo ≤ cL (stV 1 (kd (tN xp)))))) = (bI ((nI 0 ≤ xp ∧ xp ≤ cL n) ∧ (nI 0 ≤ xo ∧ xo ≤ cL (stV 1 (kd (tN xp)))))) := rfl
    exact exZ hx hb hr hlocks hAe hS () (bI_nar) q_2 hP hD dX4_isOutput_32
  refine lv_aload_n hx hb dX4_isOutput_0 rfl (lv_at hl 0 rfl) ?_
  refine lv_iload_n hx hb dX4_isOutput_1 rfl (lv_at hl 1 rfl) ?_
  have hPc := hP.pick (ws' := [(aM, o4 (nI th) (nI n) mK mX mY mF mS mL mQ mW mA mD mO mV mC mT mE mN mH mZ mP em gn lk (nI lst))]) [0] rfl
  have hDc := hD.sub (ws' := [(aM, o4 (nI th) (nI n) mK mX mY mF mS mL mQ mW mA mD mO mV mC mT mE mN mH mZ mP em gn lk (nI lst))]) [0] (by decide) rfl
  refine kcI (wr := [(mK, ia E nI 16 kd)]) (w1 := fun _ : Unit => [(aM, o4 (nI th) (nI n) mK mX mY mF mS mL mQ mW mA mD mO mV mC mT mE mN mH mZ mP em gn lk (nI lst))]) (w2 := fun _ => [(aM, o4 (nI th) (nI n) mK mX mY mF mS mL mQ mW mA mD mO mV mC mT mE mN mH mZ mP em gn lk (nI lst)), (mK, ia E nI 16 kd)]) (va_runV (As := [.int xp]) (rest := []) ⟨hx, hb, hml, hown, hts⟩ (m_isPart l E H.size xp aM mK mX mY mF mS mL mQ mW mA mD mO mV mC mT mE mN mH mZ mP th n lst em gn lk ) (cwV 1 hts gX4_isOutput_X4_isPart rfl rfl rfl (by decide +kernel) ⟨Nat.le_of_ble_eq_true rfl, Nat.le_of_ble_eq_true rfl⟩) (preV C0 hPc hDc hS 0 rfl rfl) rfl rfl hl.1 rfl (lv_room (Nat.le_of_ble_eq_true rfl)) dX4_isOutput_2 ⟨Nat.le_refl _, Nat.le_refl _⟩) C0 hP hD hS [0] [1] [1, 0] rfl rfl (by decide) (by decide) (fun _ => rfl) (by decide) (fun r_9 _u H locs hw hP hD hS => ?_)
  have hP : va_P E.1 vwCl [(aM, o4 (nI th) (nI n) mK mX mY mF mS mL mQ mW mA mD mO mV mC mT mE mN mH mZ mP em gn lk (nI lst)), (mK, ia E nI 16 kd)] H := hP
  have hD : va_D A [(aM, o4 (nI th) (nI n) mK mX mY mF mS mL mQ mW mA mD mO mV mC mT mE mN mH mZ mP em gn lk (nI lst)), (mK, ia E nI 16 kd)] := hD
  have hw : r_9 = bI (nI 0 ≤ xp ∧ xp ≤ cL n) := hw
  subst hw
  refine lv_if_eq (tgt := 31) hx hb dX4_isOutput_5 (by decide) (fun c_3 => ?_) (fun c_3 => ?_)
  · skip
    have c_3 : ¬ (nI 0 ≤ xp ∧ xp ≤ cL n) := bI_eq0.mp c_3
    refine lv_iconst (v := nI 0) hx hb dX4_isOutput_31 (by decide) ?_
    refine lv_ri (y := (bI ((nI 0 ≤ xp ∧ xp ≤ cL n) ∧ (nI 0 ≤ xo ∧ xo ≤ cL (stV 1 (kd (tN xp))))))) (bI_f (fun h => by first | exact c_3 h.1 | exact c_3 h.2)) ?_
    have hl : lv_has ls 3 [(0, .ref aM), (1, .int xp), (2, .int xo)] := lv_sub hl [0, 1, 2] rfl
    exact JN_1   _ _ hP hD hS _ hl
  · skip
    have c_3 : nI 0 ≤ xp ∧ xp ≤ cL n := bI_ne0.mp c_3
    have htn := cL_le (by omega) c_3
    have hkk := hk _ htn
    refine lv_iload_n hx hb dX4_isOutput_8 rfl (lv_at hl 2 rfl) ?_
    refine lv_iconst (v := nI 0) hx hb dX4_isOutput_9 (by decide) ?_
    refine lv_aload_n hx hb dX4_isOutput_10 rfl (lv_at hl 0 rfl) ?_
    refine va_get (D := E.1) (ci := 4) (v := .ref mK) (C := RX4) (T := TX4) (N := 25) hx hb hts iX4 hown C0.1 hP 0 rfl rfl 2 (by decide) (hts (.fieldLink RX4 7 "RingresonanceModel" "kind" "[I") (by decide +kernel)) (fun _ h9 => h9) rfl dX4_isOutput_11 ?_
    refine lv_iload_n hx hb dX4_isOutput_14 rfl (lv_at hl 1 rfl) ?_
    refine lv_ri (y := (nI (tN xp))) (tN_eq c_3) ?_
    refine k_iald (e := (tN xp)) (g := nI) (n := 16) hx hb C0 hP 1 rfl (by omega) (by omega) dX4_isOutput_15 ?_
    have hPc := hP.pick (ws' := []) [] rfl
    have hDc := hD.sub (ws' := []) [] (by decide) rfl
    refine kcI (wr := [(aM, o4 (nI th) (nI n) mK mX mY mF mS mL mQ mW mA mD mO mV mC mT mE mN mH mZ mP em gn lk (nI lst)), (mK, ia E nI 16 kd)]) (w1 := fun _ : Unit => []) (w2 := fun _ => [(aM, o4 (nI th) (nI n) mK mX mY mF mS mL mQ mW mA mD mO mV mC mT mE mN mH mZ mP em gn lk (nI lst)), (mK, ia E nI 16 kd)]) (va_runS (As := [.int (nI (kd (tN xp)))]) (rest := [.int (nI 0), .int xo]) ⟨hx, hb, hml, hown, hts⟩ (m_outputs l E H.size (kd (tN xp)) (by omega)) (va_cwS 1 hts gX4_isOutput_X4_outputs rfl rfl rfl (by decide +kernel) ⟨Nat.le_of_ble_eq_true rfl, Nat.le_of_ble_eq_true rfl⟩) (preS C0 hPc hDc hS) rfl rfl hl.1 rfl (lv_room (Nat.le_of_ble_eq_true rfl)) dX4_isOutput_16 ⟨Nat.le_refl _, Nat.le_refl _⟩) C0 hP hD hS [] [0, 1] [0, 1] rfl rfl (by decide) (by decide) (fun _ => rfl) (by decide) (fun r_9 _u H locs hw hP hD hS => ?_)
    have hP : va_P E.1 vwCl [(aM, o4 (nI th) (nI n) mK mX mY mF mS mL mQ mW mA mD mO mV mC mT mE mN mH mZ mP em gn lk (nI lst)), (mK, ia E nI 16 kd)] H := hP
    have hD : va_D A [(aM, o4 (nI th) (nI n) mK mX mY mF mS mL mQ mW mA mD mO mV mC mT mE mN mH mZ mP em gn lk (nI lst)), (mK, ia E nI 16 kd)] := hD
    have hw : r_9 = nI (stV 1 (kd (tN xp))) := hw
    subst hw
    refine lv_iconst (v := nI 1) hx hb dX4_isOutput_19 (by decide) ?_
    refine lv_isub hx hb dX4_isOutput_20 ?_
    refine lv_ri (y := (cL (stV 1 (kd (tN xp))))) (cL_n _) ?_
    have hPc := hP.pick (ws' := []) [] rfl
    have hDc := hD.sub (ws' := []) [] (by decide) rfl
    refine kcI (wr := [(aM, o4 (nI th) (nI n) mK mX mY mF mS mL mQ mW mA mD mO mV mC mT mE mN mH mZ mP em gn lk (nI lst)), (mK, ia E nI 16 kd)]) (w1 := fun _ : Unit => []) (w2 := fun _ => [(aM, o4 (nI th) (nI n) mK mX mY mF mS mL mQ mW mA mD mO mV mC mT mE mN mH mZ mP em gn lk (nI lst)), (mK, ia E nI 16 kd)]) (va_runS (As := [.int xo, .int (nI 0), .int (cL (stV 1 (kd (tN xp))))]) (rest := []) ⟨hx, hb, hml, hown, hts⟩ (m_in l E H.size xo (nI 0) (cL (stV 1 (kd (tN xp)))) ) (va_cwS 3 hts gX4_isOutput_X4_in rfl rfl rfl (by decide +kernel) ⟨Nat.le_of_ble_eq_true rfl, Nat.le_of_ble_eq_true rfl⟩) (preS C0 hPc hDc hS) rfl rfl hl.1 rfl (lv_room (Nat.le_of_ble_eq_true rfl)) dX4_isOutput_21 ⟨Nat.le_refl _, Nat.le_refl _⟩) C0 hP hD hS [] [0, 1] [0, 1] rfl rfl (by decide) (by decide) (fun _ => rfl) (by decide) (fun r_9 _u H locs hw hP hD hS => ?_)
    have hP : va_P E.1 vwCl [(aM, o4 (nI th) (nI n) mK mX mY mF mS mL mQ mW mA mD mO mV mC mT mE mN mH mZ mP em gn lk (nI lst)), (mK, ia E nI 16 kd)] H := hP
    have hD : va_D A [(aM, o4 (nI th) (nI n) mK mX mY mF mS mL mQ mW mA mD mO mV mC mT mE mN mH mZ mP em gn lk (nI lst)), (mK, ia E nI 16 kd)] := hD
    have hw : r_9 = bI ((nI 0) ≤ xo ∧ xo ≤ (cL (stV 1 (kd (tN xp))))) := hw
    subst hw
    refine lv_if_eq (tgt := 31) hx hb dX4_isOutput_24 (by decide) (fun c_4 => ?_) (fun c_4 => ?_)
    · skip
      have c_4 : ¬ ((nI 0) ≤ xo ∧ xo ≤ (cL (stV 1 (kd (tN xp))))) := bI_eq0.mp c_4
      refine lv_iconst (v := nI 0) hx hb dX4_isOutput_31 (by decide) ?_
      refine lv_ri (y := (bI ((nI 0 ≤ xp ∧ xp ≤ cL n) ∧ (nI 0 ≤ xo ∧ xo ≤ cL (stV 1 (kd (tN xp))))))) (bI_f (fun h => by first | exact c_4 h.1 | exact c_4 h.2)) ?_
      have hl : lv_has ls 3 [(0, .ref aM), (1, .int xp), (2, .int xo)] := lv_sub hl [0, 1, 2] rfl
      exact JN_1   _ _ hP hD hS _ hl
    · skip
      have c_4 : (nI 0) ≤ xo ∧ xo ≤ (cL (stV 1 (kd (tN xp)))) := bI_ne0.mp c_4
      refine lv_iconst (v := nI 1) hx hb dX4_isOutput_27 (by decide) ?_
      refine lv_ri (y := (bI ((nI 0 ≤ xp ∧ xp ≤ cL n) ∧ (nI 0 ≤ xo ∧ xo ≤ cL (stV 1 (kd (tN xp))))))) (bI_t ⟨c_3, c_4⟩) ?_
      refine lv_goto (tgt := 32) hx hb dX4_isOutput_28 (by decide) ?_
      have hl : lv_has ls 3 [(0, .ref aM), (1, .int xp), (2, .int xo)] := lv_sub hl [0, 1, 2] rfl
      exact JN_1   _ _ hP hD hS _ hl

set_option maxHeartbeats 4000000 in
set_option maxRecDepth 100000 in
theorem m_isInput (l : Launch) (E : EnvT) (sz : Nat) (xp xo : Int32) (aM mK mX mY mF mS mL mQ mW mA mD mO mV mC mT mE mN mH mZ mP : Nat) (th n lst : Nat) (em gn lk : Int64) (kd : Nat → Nat) (hn : n ≤ 16) (hk : ∀ j, j < n → kd j ≤ 5) : MI l yX4_isInput wsX4_isInput ({ frames := 2, cells := 0, slots := 0, locals := 43 }) E sz [.ref aM, .int xp, .int xo] [(aM, o4 (nI th) (nI n) mK mX mY mF mS mL mQ mW mA mD mO mV mC mT mE mN mH mZ mP em gn lk (nI lst)), (mK, ia E nI 16 kd)] (fun (r : Int32) (_ : Unit) => r = bI ((nI 0 ≤ xp ∧ xp ≤ cL n) ∧ (nI 0 ≤ xo ∧ xo ≤ cL (stV 0 (kd (tN xp)))))) (fun _ => [(aM, o4 (nI th) (nI n) mK mX mY mF mS mL mQ mW mA mD mO mV mC mT mE mN mH mZ mP em gn lk (nI lst)), (mK, ia E nI 16 kd)]) := by
  refine enI (cc := cX4_isInput) (maxL := 3) (ret := .boolean) (by decide +kernel) rfl (Nat.le_of_ble_eq_true rfl) ?_
  intro p e s m below meth c A ls hx hb hr hml hts hown hlocks hAe C0 hP hD hS hl
  have hown : s.vm.findClass RX4 = some m.cls := hown
  have hl : lv_has ls 3 [(0, .ref aM), (1, .int xp), (2, .int xo)] := hl
  have iX4 : ∀ w ∈ u_ws RX4 TX4 25, w ∈ wsX4_isInput := by decide +kernel
  obtain ⟨H, hHe⟩ : ∃ z, z = s.heap := ⟨_, rfl⟩
  obtain ⟨locs, hLe⟩ : ∃ z : List Loc, z = [] := ⟨_, rfl⟩
  have hP : va_P E.1 vwCl [(aM, o4 (nI th) (nI n) mK mX mY mF mS mL mQ mW mA mD mO mV mC mT mE mN mH mZ mP em gn lk (nI lst)), (mK, ia E nI 16 kd)] H := by rw [hHe]; exact hP
  have hD : va_D A [(aM, o4 (nI th) (nI n) mK mX mY mF mS mL mQ mW mA mD mO mV mC mT mE mN mH mZ mP em gn lk (nI lst)), (mK, ia E nI 16 kd)] := hD
  have hS : va_S A s.heap H locs := by rw [hHe, hLe]; exact hS
  suffices hgo : W p l e _ s m _ below meth c H locs 0 0 _ (F0 m 0 ls []) by rw [hHe, hLe] at hgo; exact hgo
  clear hHe hLe
  have JN_1 : ∀ (H : Heap) (locs : List Loc), va_P E.1 vwCl [(aM, o4 (nI th) (nI n) mK mX mY mF mS mL mQ mW mA mD mO mV mC mT mE mN mH mZ mP em gn lk (nI lst)), (mK, ia E nI 16 kd)] H → va_D A [(aM, o4 (nI th) (nI n) mK mX mY mF mS mL mQ mW mA mD mO mV mC mT mE mN mH mZ mP em gn lk (nI lst)), (mK, ia E nI 16 kd)] → va_S A s.heap H locs → ∀ (ls : Array Slot), lv_has ls 3 [(0, .ref aM), (1, .int xp), (2, .int xo)] → W p l e ({ frames := 2, cells := 0, slots := 0, locals := 43 }) s m (([.ref aM, .int xp, .int xo] : List Value).toArray) below meth c H locs 0 0 (MQ below (va_Qi (fun (r : Int32) (_ : Unit) => r = bI ((nI 0 ≤ xp ∧ xp ≤ cL n) ∧ (nI 0 ≤ xo ∧ xo ≤ cL (stV 0 (kd (tN xp)))))) (Wd E [(aM, o4 (nI th) (nI n) mK mX mY mF mS mL mQ mW mA mD mO mV mC mT mE mN mH mZ mP em gn lk (nI lst)), (mK, ia E nI 16 kd)] s.heap.size (fun _ => [(aM, o4 (nI th) (nI n) mK mX mY mF mS mL mQ mW mA mD mO mV mC mT mE mN mH mZ mP em gn lk (nI lst)), (mK, ia E nI 16 kd)])) A) (([.ref aM, .int xp, .int xo] : List Value).toArray) s 0 0 A) (F0 m 32 ls [.int (bI ((nI 0 ≤ xp ∧ xp ≤ cL n) ∧ (nI 0 ≤ xo ∧ xo ≤ cL (stV 0 (kd (tN xp))))))]) := by
    intro   H locs hP hD hS ls hl
    have q_2 : (bI ((nI 0 ≤ xp ∧ xp ≤ cL n) ∧ (nI 0 ≤ xo ∧ xo ≤ cL (stV 0 (kd (tN xp)))))) = (bI ((nI 0 ≤ xp ∧ xp ≤ cL n) ∧ (nI 0 ≤ xo ∧ xo ≤ cL (stV 0 (kd (tN xp)))))) := rfl
    exact exZ hx hb hr hlocks hAe hS () (bI_nar) q_2 hP hD dX4_isInput_32
  refine lv_aload_n hx hb dX4_isInput_0 rfl (lv_at hl 0 rfl) ?_
  refine lv_iload_n hx hb dX4_isInput_1 rfl (lv_at hl 1 rfl) ?_
  have hPc := hP.pick (ws' := [(aM, o4 (nI th) (nI n) mK mX mY mF mS mL mQ mW mA mD mO mV mC mT mE mN mH mZ mP em gn lk (nI lst))]) [0] rfl
  have hDc := hD.sub (ws' := [(aM, o4 (nI th) (nI n) mK mX mY mF mS mL mQ mW mA mD mO mV mC mT mE mN mH mZ mP em gn lk (nI lst))]) [0] (by decide) rfl
  refine kcI (wr := [(mK, ia E nI 16 kd)]) (w1 := fun _ : Unit => [(aM, o4 (nI th) (nI n) mK mX mY mF mS mL mQ mW mA mD mO mV mC mT mE mN mH mZ mP em gn lk (nI lst))]) (w2 := fun _ => [(aM, o4 (nI th) (nI n) mK mX mY mF mS mL mQ mW mA mD mO mV mC mT mE mN mH mZ mP em gn lk (nI lst)), (mK, ia E nI 16 kd)]) (va_runV (As := [.int xp]) (rest := []) ⟨hx, hb, hml, hown, hts⟩ (m_isPart l E H.size xp aM mK mX mY mF mS mL mQ mW mA mD mO mV mC mT mE mN mH mZ mP th n lst em gn lk ) (cwV 1 hts gX4_isInput_X4_isPart rfl rfl rfl (by decide +kernel) ⟨Nat.le_of_ble_eq_true rfl, Nat.le_of_ble_eq_true rfl⟩) (preV C0 hPc hDc hS 0 rfl rfl) rfl rfl hl.1 rfl (lv_room (Nat.le_of_ble_eq_true rfl)) dX4_isInput_2 ⟨Nat.le_refl _, Nat.le_refl _⟩) C0 hP hD hS [0] [1] [1, 0] rfl rfl (by decide) (by decide) (fun _ => rfl) (by decide) (fun r_9 _u H locs hw hP hD hS => ?_)
  have hP : va_P E.1 vwCl [(aM, o4 (nI th) (nI n) mK mX mY mF mS mL mQ mW mA mD mO mV mC mT mE mN mH mZ mP em gn lk (nI lst)), (mK, ia E nI 16 kd)] H := hP
  have hD : va_D A [(aM, o4 (nI th) (nI n) mK mX mY mF mS mL mQ mW mA mD mO mV mC mT mE mN mH mZ mP em gn lk (nI lst)), (mK, ia E nI 16 kd)] := hD
  have hw : r_9 = bI (nI 0 ≤ xp ∧ xp ≤ cL n) := hw
  subst hw
  refine lv_if_eq (tgt := 31) hx hb dX4_isInput_5 (by decide) (fun c_3 => ?_) (fun c_3 => ?_)
  · skip
    have c_3 : ¬ (nI 0 ≤ xp ∧ xp ≤ cL n) := bI_eq0.mp c_3
    refine lv_iconst (v := nI 0) hx hb dX4_isInput_31 (by decide) ?_
    refine lv_ri (y := (bI ((nI 0 ≤ xp ∧ xp ≤ cL n) ∧ (nI 0 ≤ xo ∧ xo ≤ cL (stV 0 (kd (tN xp))))))) (bI_f (fun h => by first | exact c_3 h.1 | exact c_3 h.2)) ?_
    have hl : lv_has ls 3 [(0, .ref aM), (1, .int xp), (2, .int xo)] := lv_sub hl [0, 1, 2] rfl
    exact JN_1   _ _ hP hD hS _ hl
  · skip
    have c_3 : nI 0 ≤ xp ∧ xp ≤ cL n := bI_ne0.mp c_3
    have htn := cL_le (by omega) c_3
    have hkk := hk _ htn
    refine lv_iload_n hx hb dX4_isInput_8 rfl (lv_at hl 2 rfl) ?_
    refine lv_iconst (v := nI 0) hx hb dX4_isInput_9 (by decide) ?_
    refine lv_aload_n hx hb dX4_isInput_10 rfl (lv_at hl 0 rfl) ?_
    refine va_get (D := E.1) (ci := 4) (v := .ref mK) (C := RX4) (T := TX4) (N := 25) hx hb hts iX4 hown C0.1 hP 0 rfl rfl 2 (by decide) (hts (.fieldLink RX4 7 "RingresonanceModel" "kind" "[I") (by decide +kernel)) (fun _ h9 => h9) rfl dX4_isInput_11 ?_
    refine lv_iload_n hx hb dX4_isInput_14 rfl (lv_at hl 1 rfl) ?_
    refine lv_ri (y := (nI (tN xp))) (tN_eq c_3) ?_
    refine k_iald (e := (tN xp)) (g := nI) (n := 16) hx hb C0 hP 1 rfl (by omega) (by omega) dX4_isInput_15 ?_
    have hPc := hP.pick (ws' := []) [] rfl
    have hDc := hD.sub (ws' := []) [] (by decide) rfl
    refine kcI (wr := [(aM, o4 (nI th) (nI n) mK mX mY mF mS mL mQ mW mA mD mO mV mC mT mE mN mH mZ mP em gn lk (nI lst)), (mK, ia E nI 16 kd)]) (w1 := fun _ : Unit => []) (w2 := fun _ => [(aM, o4 (nI th) (nI n) mK mX mY mF mS mL mQ mW mA mD mO mV mC mT mE mN mH mZ mP em gn lk (nI lst)), (mK, ia E nI 16 kd)]) (va_runS (As := [.int (nI (kd (tN xp)))]) (rest := [.int (nI 0), .int xo]) ⟨hx, hb, hml, hown, hts⟩ (m_inputs l E H.size (kd (tN xp)) (by omega)) (va_cwS 1 hts gX4_isInput_X4_inputs rfl rfl rfl (by decide +kernel) ⟨Nat.le_of_ble_eq_true rfl, Nat.le_of_ble_eq_true rfl⟩) (preS C0 hPc hDc hS) rfl rfl hl.1 rfl (lv_room (Nat.le_of_ble_eq_true rfl)) dX4_isInput_16 ⟨Nat.le_refl _, Nat.le_refl _⟩) C0 hP hD hS [] [0, 1] [0, 1] rfl rfl (by decide) (by decide) (fun _ => rfl) (by decide) (fun r_9 _u H locs hw hP hD hS => ?_)
    have hP : va_P E.1 vwCl [(aM, o4 (nI th) (nI n) mK mX mY mF mS mL mQ mW mA mD mO mV mC mT mE mN mH mZ mP em gn lk (nI lst)), (mK, ia E nI 16 kd)] H := hP
    have hD : va_D A [(aM, o4 (nI th) (nI n) mK mX mY mF mS mL mQ mW mA mD mO mV mC mT mE mN mH mZ mP em gn lk (nI lst)), (mK, ia E nI 16 kd)] := hD
    have hw : r_9 = nI (stV 0 (kd (tN xp))) := hw
    subst hw
    refine lv_iconst (v := nI 1) hx hb dX4_isInput_19 (by decide) ?_
    refine lv_isub hx hb dX4_isInput_20 ?_
    refine lv_ri (y := (cL (stV 0 (kd (tN xp))))) (cL_n _) ?_
    have hPc := hP.pick (ws' := []) [] rfl
    have hDc := hD.sub (ws' := []) [] (by decide) rfl
    refine kcI (wr := [(aM, o4 (nI th) (nI n) mK mX mY mF mS mL mQ mW mA mD mO mV mC mT mE mN mH mZ mP em gn lk (nI lst)), (mK, ia E nI 16 kd)]) (w1 := fun _ : Unit => []) (w2 := fun _ => [(aM, o4 (nI th) (nI n) mK mX mY mF mS mL mQ mW mA mD mO mV mC mT mE mN mH mZ mP em gn lk (nI lst)), (mK, ia E nI 16 kd)]) (va_runS (As := [.int xo, .int (nI 0), .int (cL (stV 0 (kd (tN xp))))]) (rest := []) ⟨hx, hb, hml, hown, hts⟩ (m_in l E H.size xo (nI 0) (cL (stV 0 (kd (tN xp)))) ) (va_cwS 3 hts gX4_isInput_X4_in rfl rfl rfl (by decide +kernel) ⟨Nat.le_of_ble_eq_true rfl, Nat.le_of_ble_eq_true rfl⟩) (preS C0 hPc hDc hS) rfl rfl hl.1 rfl (lv_room (Nat.le_of_ble_eq_true rfl)) dX4_isInput_21 ⟨Nat.le_refl _, Nat.le_refl _⟩) C0 hP hD hS [] [0, 1] [0, 1] rfl rfl (by decide) (by decide) (fun _ => rfl) (by decide) (fun r_9 _u H locs hw hP hD hS => ?_)
    have hP : va_P E.1 vwCl [(aM, o4 (nI th) (nI n) mK mX mY mF mS mL mQ mW mA mD mO mV mC mT mE mN mH mZ mP em gn lk (nI lst)), (mK, ia E nI 16 kd)] H := hP
    have hD : va_D A [(aM, o4 (nI th) (nI n) mK mX mY mF mS mL mQ mW mA mD mO mV mC mT mE mN mH mZ mP em gn lk (nI lst)), (mK, ia E nI 16 kd)] := hD
    have hw : r_9 = bI ((nI 0) ≤ xo ∧ xo ≤ (cL (stV 0 (kd (tN xp))))) := hw
    subst hw
    refine lv_if_eq (tgt := 31) hx hb dX4_isInput_24 (by decide) (fun c_4 => ?_) (fun c_4 => ?_)
    · skip
      have c_4 : ¬ ((nI 0) ≤ xo ∧ xo ≤ (cL (stV 0 (kd (tN xp))))) := bI_eq0.mp c_4
      refine lv_iconst (v := nI 0) hx hb dX4_isInput_31 (by decide) ?_
      refine lv_ri (y := (bI ((nI 0 ≤ xp ∧ xp ≤ cL n) ∧ (nI 0 ≤ xo ∧ xo ≤ cL (stV 0 (kd (tN xp))))))) (bI_f (fun h => by first | exact c_4 h.1 | exact c_4 h.2)) ?_
      have hl : lv_has ls 3 [(0, .ref aM), (1, .int xp), (2, .int xo)] := lv_sub hl [0, 1, 2] rfl
      exact JN_1   _ _ hP hD hS _ hl
    · skip
      have c_4 : (nI 0) ≤ xo ∧ xo ≤ (cL (stV 0 (kd (tN xp)))) := bI_ne0.mp c_4
      refine lv_iconst (v := nI 1) hx hb dX4_isInput_27 (by decide) ?_
      refine lv_ri (y := (bI ((nI 0 ≤ xp ∧ xp ≤ cL n) ∧ (nI 0 ≤ xo ∧ xo ≤ cL (stV 0 (kd (tN xp))))))) (bI_t ⟨c_3, c_4⟩) ?_
      refine lv_goto (tgt := 32) hx hb dX4_isInput_28 (by decide) ?_
      have hl : lv_has ls 3 [(0, .ref aM), (1, .int xp), (2, .int xo)] := lv_sub hl [0, 1, 2] rfl
      exact JN_1   _ _ hP hD hS _ hl

set_option maxHeartbeats 4000000 in
set_option maxRecDepth 100000 in
theorem m_led (l : Launch) (E : EnvT) (sz : Nat) (pt sd : Nat) (aM mK mX mY mF mS mL mQ mW mA mD mO mV mC mT mE mN mH mZ mP : Nat) (th n lst : Nat) (em gn lk : Int64) (le : Nat → Nat) (hp : pt < 16) (hs : sd < 2) (hL : le (2 * pt + sd) ≤ 32) : MI l yX4_led wsX4_led ({ frames := 0, cells := 0, slots := 0, locals := 0 }) E sz [.ref aM, .int (nI pt), .int (nI sd)] [(aM, o4 (nI th) (nI n) mK mX mY mF mS mL mQ mW mA mD mO mV mC mT mE mN mH mZ mP em gn lk (nI lst)), (mL, ia E nI 32 le)] (fun (r : Int32) (_ : Unit) => r = cL (ledF (le (2 * pt + sd)))) (fun _ => [(aM, o4 (nI th) (nI n) mK mX mY mF mS mL mQ mW mA mD mO mV mC mT mE mN mH mZ mP em gn lk (nI lst)), (mL, ia E nI 32 le)]) := by
  refine enI (cc := cX4_led) (maxL := 4) (ret := .int) (by decide +kernel) rfl (Nat.le_of_ble_eq_true rfl) ?_
  intro p e s m below meth c A ls hx hb hr hml hts hown hlocks hAe C0 hP hD hS hl
  have hown : s.vm.findClass RX4 = some m.cls := hown
  have hl : lv_has ls 4 [(0, .ref aM), (1, .int (nI pt)), (2, .int (nI sd))] := hl
  have iX4 : ∀ w ∈ u_ws RX4 TX4 25, w ∈ wsX4_led := by decide +kernel
  obtain ⟨H, hHe⟩ : ∃ z, z = s.heap := ⟨_, rfl⟩
  obtain ⟨locs, hLe⟩ : ∃ z : List Loc, z = [] := ⟨_, rfl⟩
  have hP : va_P E.1 vwCl [(aM, o4 (nI th) (nI n) mK mX mY mF mS mL mQ mW mA mD mO mV mC mT mE mN mH mZ mP em gn lk (nI lst)), (mL, ia E nI 32 le)] H := by rw [hHe]; exact hP
  have hD : va_D A [(aM, o4 (nI th) (nI n) mK mX mY mF mS mL mQ mW mA mD mO mV mC mT mE mN mH mZ mP em gn lk (nI lst)), (mL, ia E nI 32 le)] := hD
  have hS : va_S A s.heap H locs := by rw [hHe, hLe]; exact hS
  suffices hgo : W p l e _ s m _ below meth c H locs 0 0 _ (F0 m 0 ls []) by rw [hHe, hLe] at hgo; exact hgo
  clear hHe hLe
  have JN_1 : ∀ (H : Heap) (locs : List Loc), va_P E.1 vwCl [(aM, o4 (nI th) (nI n) mK mX mY mF mS mL mQ mW mA mD mO mV mC mT mE mN mH mZ mP em gn lk (nI lst)), (mL, ia E nI 32 le)] H → va_D A [(aM, o4 (nI th) (nI n) mK mX mY mF mS mL mQ mW mA mD mO mV mC mT mE mN mH mZ mP em gn lk (nI lst)), (mL, ia E nI 32 le)] → va_S A s.heap H locs → ∀ (ls : Array Slot), lv_has ls 4 [(0, .ref aM), (1, .int (nI pt)), (2, .int (nI sd))] → W p l e ({ frames := 0, cells := 0, slots := 0, locals := 0 }) s m (([.ref aM, .int (nI pt), .int (nI sd)] : List Value).toArray) below meth c H locs 0 0 (MQ below (va_Qi (fun (r : Int32) (_ : Unit) => r = cL (ledF (le (2 * pt + sd)))) (Wd E [(aM, o4 (nI th) (nI n) mK mX mY mF mS mL mQ mW mA mD mO mV mC mT mE mN mH mZ mP em gn lk (nI lst)), (mL, ia E nI 32 le)] s.heap.size (fun _ => [(aM, o4 (nI th) (nI n) mK mX mY mF mS mL mQ mW mA mD mO mV mC mT mE mN mH mZ mP em gn lk (nI lst)), (mL, ia E nI 32 le)])) A) (([.ref aM, .int (nI pt), .int (nI sd)] : List Value).toArray) s 0 0 A) (F0 m 24 ls [.int (cL (ledF (le (2 * pt + sd))))]) := by
    intro   H locs hP hD hS ls hl
    have q_2 : (cL (ledF (le (2 * pt + sd)))) = (cL (ledF (le (2 * pt + sd)))) := rfl
    exact exI hx hb hr hlocks hAe hS () q_2 hP hD dX4_led_24
  refine lv_aload_n hx hb dX4_led_0 rfl (lv_at hl 0 rfl) ?_
  refine va_get (D := E.1) (ci := 4) (v := .ref mL) (C := RX4) (T := TX4) (N := 25) hx hb hts iX4 hown C0.1 hP 0 rfl rfl 7 (by decide) (hts (.fieldLink RX4 25 "RingresonanceModel" "leads" "[I") (by decide +kernel)) (fun _ h9 => h9) rfl dX4_led_1 ?_
  refine lv_iconst (v := nI 2) hx hb dX4_led_4 (by decide) ?_
  refine lv_iload_n hx hb dX4_led_5 rfl (lv_at hl 1 rfl) ?_
  refine lv_imul hx hb dX4_led_6 ?_
  refine lv_ri (y := (nI (2 * pt))) (pk_mul 2 pt) ?_
  refine lv_iload_n hx hb dX4_led_7 rfl (lv_at hl 2 rfl) ?_
  refine lv_iadd hx hb dX4_led_8 ?_
  refine lv_ri (y := (nI ((2 * pt) + sd))) (nI_add (2 * pt) sd) ?_
  refine k_iald (e := ((2 * pt) + sd)) (g := nI) (n := 32) hx hb C0 hP 1 rfl (by omega) (by omega) dX4_led_9 ?_
  refine lv_istore_n (lv' := [(3, .int (nI (le ((2 * pt) + sd)))), (0, .ref aM), (1, .int (nI pt)), (2, .int (nI sd))]) hx hb dX4_led_10 rfl hl (by decide) rfl (fun ls hl => ?_)
  refine lv_iload_n hx hb dX4_led_11 rfl (lv_at hl 0 rfl) ?_
  refine lv_if_ne (tgt := 19) hx hb dX4_led_12 (by decide) (fun c_3 => ?_) (fun c_3 => ?_)
  · skip
    have c_3 : ¬ ((le ((2 * pt) + sd)) = 0) := fun h => c_3 ((ci0_eq (by omega)).mpr h)
    refine lv_iload_n hx hb dX4_led_19 rfl (lv_at hl 0 rfl) ?_
    refine lv_iconst (v := nI 1) hx hb dX4_led_20 (by decide) ?_
    refine lv_isub hx hb dX4_led_21 ?_
    refine lv_ri (y := (nI ((le ((2 * pt) + sd)) - 1))) (pk_sub (by omega)) ?_
    refine lv_iconst (v := nI 2) hx hb dX4_led_22 (by decide) ?_
    refine lv_idiv hx hb dX4_led_23 (by decide) ?_
    refine lv_ri (y := (cL (ledF (le (2 * pt + sd))))) (by rw [ledF, if_neg c_3, cL_s]; exact pk_div (by omega) (by omega) (by omega)) ?_
    have hl : lv_has ls 4 [(0, .ref aM), (1, .int (nI pt)), (2, .int (nI sd))] := lv_sub hl [1, 2, 3] rfl
    exact JN_1   _ _ hP hD hS _ hl
  · skip
    have c_3 : (le ((2 * pt) + sd)) = 0 := (ci0_eq (by omega)).mp c_3
    refine lv_iconst (v := -1) hx hb dX4_led_15 (by decide) ?_
    refine lv_ri (y := (cL (ledF (le (2 * pt + sd))))) (by rw [ledF, if_pos c_3]; decide) ?_
    refine lv_goto (tgt := 24) hx hb dX4_led_16 (by decide) ?_
    have hl : lv_has ls 4 [(0, .ref aM), (1, .int (nI pt)), (2, .int (nI sd))] := lv_sub hl [1, 2, 3] rfl
    exact JN_1   _ _ hP hD hS _ hl
