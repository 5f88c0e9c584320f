set_option maxHeartbeats 4000000 in
set_option maxRecDepth 100000 in
theorem m_thrown (l : Launch) (E : EnvT) (sz : Nat) (aM mK mX mY mF mS mL mQ mW mA mD mO mV mC mT mE mN mH mZ mP : Nat) (th n lst : Nat) (em gn lk : Int64) : MI l yX4_thrown wsX4_thrown ({ frames := 0, cells := 0, slots := 0, locals := 0 }) E sz [.ref aM] [(aM, o4 (nI th) (nI n) mK mX mY mF mS mL mQ mW mA mD mO mV mC mT mE mN mH mZ mP em gn lk (nI lst))] (fun (r : Int32) (_ : Unit) => r = nI th) (fun _ => [(aM, o4 (nI th) (nI n) mK mX mY mF mS mL mQ mW mA mD mO mV mC mT mE mN mH mZ mP em gn lk (nI lst))]) := by
  refine enI (cc := cX4_thrown) (maxL := 1) (ret := .int) (by decide +kernel) rfl (Nat.le_of_ble_eq_true rfl) ?_
  intro p e s m below meth c A ls hx hb hr hml hts hown hlocks hAe C0 hP hD hS hl
  have hown : s.vm.findClass RX4 = some m.cls := hown
  have hl : lv_has ls 1 [(0, .ref aM)] := hl
  have iX4 : ∀ w ∈ u_ws RX4 TX4 25, w ∈ wsX4_thrown := by decide +kernel
  obtain ⟨H, hHe⟩ : ∃ z, z = s.heap := ⟨_, rfl⟩
  obtain ⟨locs, hLe⟩ : ∃ z : List Loc, z = [] := ⟨_, rfl⟩
  have hP : va_P E.1 vwCl [(aM, o4 (nI th) (nI n) mK mX mY mF mS mL mQ mW mA mD mO mV mC mT mE mN mH mZ mP em gn lk (nI lst))] H := by rw [hHe]; exact hP
  have hD : va_D A [(aM, o4 (nI th) (nI n) mK mX mY mF mS mL mQ mW mA mD mO mV mC mT mE mN mH mZ mP em gn lk (nI lst))] := hD
  have hS : va_S A s.heap H locs := by rw [hHe, hLe]; exact hS
  suffices hgo : W p l e _ s m _ below meth c H locs 0 0 _ (F0 m 0 ls []) by rw [hHe, hLe] at hgo; exact hgo
  clear hHe hLe
  refine lv_aload_n hx hb dX4_thrown_0 rfl (lv_at hl 0 rfl) ?_
  refine va_get (D := E.1) (ci := 4) (v := .int (nI th)) (C := RX4) (T := TX4) (N := 25) hx hb hts iX4 hown C0.1 hP 0 rfl rfl 0 (by decide) (hts (.fieldLink RX4 72 "RingresonanceModel" "thrown" "I") (by decide +kernel)) (fun _ h9 => h9) rfl dX4_thrown_1 ?_
  have q_1 : (nI th) = (nI th) := rfl
  exact exI hx hb hr hlocks hAe hS () q_1 hP hD dX4_thrown_4

set_option maxHeartbeats 4000000 in
set_option maxRecDepth 100000 in
theorem m_tick (l : Launch) (E : EnvT) (sz : Nat) (aM mK mX mY mF mS mL mQ mW mA mD mO mV mC mT mE mN mH mZ mP : Nat) (th n lst : Nat) (em gn lk : Int64) (tkm : Nat → Nat) : MI l yX4_tick wsX4_tick ({ frames := 0, cells := 0, slots := 0, locals := 0 }) E sz [.ref aM] [(aM, o4 (nI th) (nI n) mK mX mY mF mS mL mQ mW mA mD mO mV mC mT mE mN mH mZ mP em gn lk (nI lst)), (mZ, ia E nI 2 tkm)] (fun (r : Int32) (_ : Unit) => r = nI (tkm 0)) (fun _ => [(aM, o4 (nI 0) (nI n) mK mX mY mF mS mL mQ mW mA mD mO mV mC mT mE mN mH mZ mP em gn lk (nI lst)), (mZ, ia E nI 2 tkm)]) := by
  refine enI (cc := cX4_tick) (maxL := 1) (ret := .int) (by decide +kernel) rfl (Nat.le_of_ble_eq_true rfl) ?_
  intro p e s m below meth c A ls hx hb hr hml hts hown hlocks hAe C0 hP hD hS hl
  have hown : s.vm.findClass RX4 = some m.cls := hown
  have hl : lv_has ls 1 [(0, .ref aM)] := hl
  have iX4 : ∀ w ∈ u_ws RX4 TX4 25, w ∈ wsX4_tick := by decide +kernel
  obtain ⟨H, hHe⟩ : ∃ z, z = s.heap := ⟨_, rfl⟩
  obtain ⟨locs, hLe⟩ : ∃ z : List Loc, z = [] := ⟨_, rfl⟩
  have hP : va_P E.1 vwCl [(aM, o4 (nI th) (nI n) mK mX mY mF mS mL mQ mW mA mD mO mV mC mT mE mN mH mZ mP em gn lk (nI lst)), (mZ, ia E nI 2 tkm)] H := by rw [hHe]; exact hP
  have hD : va_D A [(aM, o4 (nI th) (nI n) mK mX mY mF mS mL mQ mW mA mD mO mV mC mT mE mN mH mZ mP em gn lk (nI lst)), (mZ, ia E nI 2 tkm)] := hD
  have hS : va_S A s.heap H locs := by rw [hHe, hLe]; exact hS
  suffices hgo : W p l e _ s m _ below meth c H locs 0 0 _ (F0 m 0 ls []) by rw [hHe, hLe] at hgo; exact hgo
  clear hHe hLe
  refine lv_aload_n hx hb dX4_tick_0 rfl (lv_at hl 0 rfl) ?_
  refine lv_iconst (v := nI 0) hx hb dX4_tick_1 (by decide) ?_
  refine va_put (D := E.1) (ci := 4) (v := .int (nI 0)) (ty := .int) (C := RX4) (T := TX4) (N := 25) hx hb hts iX4 tyX4 tyX4_ok nmX4 hown C0.1 hP hD hS 0 rfl rfl 0 (by decide) (hts (.fieldLink RX4 72 "RingresonanceModel" "thrown" "I") (by decide +kernel)) (fun _ h9 => h9) rfl (by decide +kernel) rfl rfl (Nat.le_of_ble_eq_true rfl) dX4_tick_2 (fun H locs hP hD hS => ?_)
  have hP : va_P E.1 vwCl [(aM, o4 (nI 0) (nI n) mK mX mY mF mS mL mQ mW mA mD mO mV mC mT mE mN mH mZ mP em gn lk (nI lst)), (mZ, ia E nI 2 tkm)] H := hP
  have hD : va_D A [(aM, o4 (nI 0) (nI n) mK mX mY mF mS mL mQ mW mA mD mO mV mC mT mE mN mH mZ mP em gn lk (nI lst)), (mZ, ia E nI 2 tkm)] := hD
  refine lv_aload_n hx hb dX4_tick_5 rfl (lv_at hl 0 rfl) ?_
  refine va_get (D := E.1) (ci := 4) (v := .ref mZ) (C := RX4) (T := TX4) (N := 25) hx hb hts iX4 hown C0.1 hP 0 rfl rfl 19 (by decide) (hts (.fieldLink RX4 62 "RingresonanceModel" "ticks" "[I") (by decide +kernel)) (fun _ h9 => h9) rfl dX4_tick_6 ?_
  refine lv_iconst (v := nI 0) hx hb dX4_tick_9 (by decide) ?_
  refine k_iald (e := 0) (g := nI) (n := 2) hx hb C0 hP 1 rfl (by omega) (by omega) dX4_tick_10 ?_
  have q_1 : (nI (tkm 0)) = (nI (tkm 0)) := rfl
  exact exI hx hb hr hlocks hAe hS () q_1 hP hD dX4_tick_11

def spaC (x : Int32) : Nat := if nI 0 ≤ x ∧ x ≤ nI 15 then 0 else 1
theorem spaC_0 {x : Int32} (h : spaC x = 0) : nI 0 ≤ x ∧ x ≤ nI 15 := Decidable.byContradiction fun q => by rw [spaC, if_neg q] at h; exact absurd h (by decide)

theorem spaC_lt (x : Int32) : spaC x < 4 := by unfold spaC; split <;> omega

set_option maxHeartbeats 4000000 in
set_option maxRecDepth 100000 in
theorem m_spacing (l : Launch) (E : EnvT) (sz : Nat) (xp : Int32) (aM mK mX mY mF mS mL mQ mW mA mD mO mV mC mT mE mN mH mZ mP : Nat) (th n lst : Nat) (em gn lk : Int64) : MI l yX4_spacing wsX4_spacing ({ frames := 1, cells := 0, slots := 0, locals := 22 }) E sz [.ref aM, .int xp] [(aM, o4 (nI th) (nI n) mK mX mY mF mS mL mQ mW mA mD mO mV mC mT mE mN mH mZ mP em gn lk (nI lst))] (fun (r : Int32) (_ : Unit) => r = nI (if spaC xp = 0 then lst else 0)) (fun _ => [(aM, o4 (nI (spaC xp)) (nI n) mK mX mY mF mS mL mQ mW mA mD mO mV mC mT mE mN mH mZ mP em gn lk (nI (if spaC xp = 0 then tN xp else lst)))]) := by
  refine enI (cc := cX4_spacing) (maxL := 3) (ret := .int) (by decide +kernel) rfl (Nat.le_of_ble_eq_true rfl) ?_
  intro p e s m below meth c A ls hx hb hr hml hts hown hlocks hAe C0 hP hD hS hl
  have hown : s.vm.findClass RX4 = some m.cls := hown
  have hl : lv_has ls 3 [(0, .ref aM), (1, .int xp)] := hl
  have iX4 : ∀ w ∈ u_ws RX4 TX4 25, w ∈ wsX4_spacing := by decide +kernel
  obtain ⟨H, hHe⟩ : ∃ z, z = s.heap := ⟨_, rfl⟩
  obtain ⟨locs, hLe⟩ : ∃ z : List Loc, z = [] := ⟨_, rfl⟩
  have hP : va_P E.1 vwCl [(aM, o4 (nI th) (nI n) mK mX mY mF mS mL mQ mW mA mD mO mV mC mT mE mN mH mZ mP em gn lk (nI lst))] H := by rw [hHe]; exact hP
  have hD : va_D A [(aM, o4 (nI th) (nI n) mK mX mY mF mS mL mQ mW mA mD mO mV mC mT mE mN mH mZ mP em gn lk (nI lst))] := hD
  have hS : va_S A s.heap H locs := by rw [hHe, hLe]; exact hS
  suffices hgo : W p l e _ s m _ below meth c H locs 0 0 _ (F0 m 0 ls []) by rw [hHe, hLe] at hgo; exact hgo
  clear hHe hLe
  have hcb := spaC_lt xp
  refine lv_aload_n hx hb dX4_spacing_0 rfl (lv_at hl 0 rfl) ?_
  have JN_1 : ∀ (H : Heap) (locs : List Loc), va_P E.1 vwCl [(aM, o4 (nI th) (nI n) mK mX mY mF mS mL mQ mW mA mD mO mV mC mT mE mN mH mZ mP em gn lk (nI lst))] H → va_D A [(aM, o4 (nI th) (nI n) mK mX mY mF mS mL mQ mW mA mD mO mV mC mT mE mN mH mZ mP em gn lk (nI lst))] → va_S A s.heap H locs → ∀ (ls : Array Slot), lv_has ls 3 [(0, .ref aM), (1, .int xp)] → W p l e ({ frames := 1, cells := 0, slots := 0, locals := 22 }) s m (([.ref aM, .int xp] : List Value).toArray) below meth c H locs 0 0 (MQ below (va_Qi (fun (r : Int32) (_ : Unit) => r = nI (if spaC xp = 0 then lst else 0)) (Wd E [(aM, o4 (nI th) (nI n) mK mX mY mF mS mL mQ mW mA mD mO mV mC mT mE mN mH mZ mP em gn lk (nI lst))] s.heap.size (fun _ => [(aM, o4 (nI (spaC xp)) (nI n) mK mX mY mF mS mL mQ mW mA mD mO mV mC mT mE mN mH mZ mP em gn lk (nI (if spaC xp = 0 then tN xp else lst)))])) A) (([.ref aM, .int xp] : List Value).toArray) s 0 0 A) (F0 m 16 ls [.int (nI (spaC xp)), .ref aM]) := by
    intro   H locs hP hD hS ls hl
    refine va_put (D := E.1) (ci := 4) (v := .int (nI (spaC xp))) (ty := .int) (C := RX4) (T := TX4) (N := 25) hx hb hts iX4 tyX4 tyX4_ok nmX4 hown C0.1 hP hD hS 0 rfl rfl 0 (by decide) (hts (.fieldLink RX4 72 "RingresonanceModel" "thrown" "I") (by decide +kernel)) (fun _ h9 => h9) rfl (by decide +kernel) rfl rfl (Nat.le_of_ble_eq_true rfl) dX4_spacing_16 (fun H locs hP hD hS => ?_)
    have hP : va_P E.1 vwCl [(aM, o4 (nI (spaC xp)) (nI n) mK mX mY mF mS mL mQ mW mA mD mO mV mC mT mE mN mH mZ mP em gn lk (nI lst))] H := hP
    have hD : va_D A [(aM, o4 (nI (spaC xp)) (nI n) mK mX mY mF mS mL mQ mW mA mD mO mV mC mT mE mN mH mZ mP em gn lk (nI lst))] := hD
    refine lv_aload_n hx hb dX4_spacing_19 rfl (lv_at hl 0 rfl) ?_
    refine va_get (D := E.1) (ci := 4) (v := .int (nI (spaC xp))) (C := RX4) (T := TX4) (N := 25) hx hb hts iX4 hown C0.1 hP 0 rfl rfl 0 (by decide) (hts (.fieldLink RX4 72 "RingresonanceModel" "thrown" "I") (by decide +kernel)) (fun _ h9 => h9) rfl dX4_spacing_20 ?_
    refine lv_if_eq (tgt := 28) hx hb dX4_spacing_23 (by decide) (fun c_2 => ?_) (fun c_2 => ?_)
    · skip
      have c_2 : (spaC xp) = 0 := (ci0_eq (by omega)).mp c_2
      refine lv_aload_n hx hb dX4_spacing_28 rfl (lv_at hl 0 rfl) ?_
      refine va_get (D := E.1) (ci := 4) (v := .int (nI lst)) (C := RX4) (T := TX4) (N := 25) hx hb hts iX4 hown C0.1 hP 0 rfl rfl 24 (by decide) (hts (.fieldLink RX4 68 "RingresonanceModel" "least" "I") (by decide +kernel)) (fun _ h9 => h9) rfl dX4_spacing_29 ?_
      refine lv_istore_n (lv' := [(2, .int (nI lst)), (0, .ref aM), (1, .int xp)]) hx hb dX4_spacing_32 rfl hl (by decide) rfl (fun ls hl => ?_)
      refine lv_aload_n hx hb dX4_spacing_33 rfl (lv_at hl 1 rfl) ?_
      refine lv_iload_n hx hb dX4_spacing_34 rfl (lv_at hl 2 rfl) ?_
      refine lv_ri (y := (nI (tN xp))) (tN_eq (spaC_0 c_2)) ?_
      refine va_put (D := E.1) (ci := 4) (v := .int (nI (tN xp))) (ty := .int) (C := RX4) (T := TX4) (N := 25) hx hb hts iX4 tyX4 tyX4_ok nmX4 hown C0.1 hP hD hS 0 rfl rfl 24 (by decide) (hts (.fieldLink RX4 68 "RingresonanceModel" "least" "I") (by decide +kernel)) (fun _ h9 => h9) rfl (by decide +kernel) rfl rfl (Nat.le_of_ble_eq_true rfl) dX4_spacing_35 (fun H locs hP hD hS => ?_)
      have hP : va_P E.1 vwCl [(aM, o4 (nI (spaC xp)) (nI n) mK mX mY mF mS mL mQ mW mA mD mO mV mC mT mE mN mH mZ mP em gn lk (nI (tN xp)))] H := hP
      have hD : va_D A [(aM, o4 (nI (spaC xp)) (nI n) mK mX mY mF mS mL mQ mW mA mD mO mV mC mT mE mN mH mZ mP em gn lk (nI (tN xp)))] := hD
      refine lv_iload_n hx hb dX4_spacing_38 rfl (lv_at hl 0 rfl) ?_
      have q_3 : (nI (if spaC xp = 0 then tN xp else lst)) = (nI (tN xp)) := by simp [c_2]
      have hP : va_P E.1 vwCl [(aM, o4 (nI (spaC xp)) (nI n) mK mX mY mF mS mL mQ mW mA mD mO mV mC mT mE mN mH mZ mP em gn lk (nI (if spaC xp = 0 then tN xp else lst)))] H := by rw [q_3]; exact hP
      have hD : va_D A [(aM, o4 (nI (spaC xp)) (nI n) mK mX mY mF mS mL mQ mW mA mD mO mV mC mT mE mN mH mZ mP em gn lk (nI (if spaC xp = 0 then tN xp else lst)))] := by rw [q_3]; exact hD
      have q_4 : (nI lst) = (nI (if spaC xp = 0 then lst else 0)) := by symm; simp [c_2]
      exact exI hx hb hr hlocks hAe hS () q_4 hP hD dX4_spacing_39
    · skip
      have c_2 : ¬ ((spaC xp) = 0) := fun h => c_2 ((ci0_eq (by omega)).mpr h)
      refine lv_iconst (v := nI 0) hx hb dX4_spacing_26 (by decide) ?_
      have q_5 : (nI (if spaC xp = 0 then tN xp else lst)) = (nI lst) := by simp [c_2]
      have hP : va_P E.1 vwCl [(aM, o4 (nI (spaC xp)) (nI n) mK mX mY mF mS mL mQ mW mA mD mO mV mC mT mE mN mH mZ mP em gn lk (nI (if spaC xp = 0 then tN xp else lst)))] H := by rw [q_5]; exact hP
      have hD : va_D A [(aM, o4 (nI (spaC xp)) (nI n) mK mX mY mF mS mL mQ mW mA mD mO mV mC mT mE mN mH mZ mP em gn lk (nI (if spaC xp = 0 then tN xp else lst)))] := by rw [q_5]; exact hD
      have q_6 : (nI 0) = (nI (if spaC xp = 0 then lst else 0)) := by symm; simp [c_2]
      exact exI hx hb hr hlocks hAe hS () q_6 hP hD dX4_spacing_27
  refine lv_iload_n hx hb dX4_spacing_1 rfl (lv_at hl 1 rfl) ?_
  refine lv_iconst (v := nI 0) hx hb dX4_spacing_2 (by decide) ?_
  refine lv_bipush (v := nI 15) hx hb dX4_spacing_3 (by decide) ?_
  have hPc := hP.pick (ws' := []) [] rfl
  have hDc := hD.sub (ws' := []) [] (by decide) rfl
  refine kcI (wr := [(aM, o4 (nI th) (nI n) mK mX mY mF mS mL mQ mW mA mD mO mV mC mT mE mN mH mZ mP em gn lk (nI lst))]) (w1 := fun _ : Unit => []) (w2 := fun _ => [(aM, o4 (nI th) (nI n) mK mX mY mF mS mL mQ mW mA mD mO mV mC mT mE mN mH mZ mP em gn lk (nI lst))]) (va_runS (As := [.int xp, .int (nI 0), .int (nI 15)]) (rest := [.ref aM]) ⟨hx, hb, hml, hown, hts⟩ (m_in l E H.size xp (nI 0) (nI 15) ) (va_cwS 3 hts gX4_spacing_X4_in rfl rfl rfl (by decide +kernel) ⟨Nat.le_of_ble_eq_true rfl, Nat.le_of_ble_eq_true rfl⟩) (preS C0 hPc hDc hS) rfl rfl hl.1 rfl (lv_room (Nat.le_of_ble_eq_true rfl)) dX4_spacing_5 ⟨Nat.le_refl _, Nat.le_refl _⟩) C0 hP hD hS [] [0] [0] rfl rfl (by decide) (by decide) (fun _ => rfl) (by decide) (fun r_9 _u H locs hw hP hD hS => ?_)
  have hP : va_P E.1 vwCl [(aM, o4 (nI th) (nI n) mK mX mY mF mS mL mQ mW mA mD mO mV mC mT mE mN mH mZ mP em gn lk (nI lst))] H := hP
  have hD : va_D A [(aM, o4 (nI th) (nI n) mK mX mY mF mS mL mQ mW mA mD mO mV mC mT mE mN mH mZ mP em gn lk (nI lst))] := hD
  have hw : r_9 = bI ((nI 0) ≤ xp ∧ xp ≤ (nI 15)) := hw
  subst hw
  refine lv_if_eq (tgt := 15) hx hb dX4_spacing_8 (by decide) (fun c_7 => ?_) (fun c_7 => ?_)
  · skip
    have c_7 : ¬ ((nI 0) ≤ xp ∧ xp ≤ (nI 15)) := bI_eq0.mp c_7
    refine lv_iconst (v := nI 1) hx hb dX4_spacing_15 (by decide) ?_
    refine lv_ri (y := (nI (spaC xp))) (congrArg nI (show _ = spaC xp by unfold spaC; simp [c_7])) ?_
    have hl : lv_has ls 3 [(0, .ref aM), (1, .int xp)] := lv_sub hl [0, 1] rfl
    exact JN_1   _ _ hP hD hS _ hl
  · skip
    have c_7 : (nI 0) ≤ xp ∧ xp ≤ (nI 15) := bI_ne0.mp c_7
    refine lv_iconst (v := nI 0) hx hb dX4_spacing_11 (by decide) ?_
    refine lv_ri (y := (nI (spaC xp))) (congrArg nI (show _ = spaC xp by unfold spaC; simp [c_7])) ?_
    refine lv_goto (tgt := 16) hx hb dX4_spacing_12 (by decide) ?_
    have hl : lv_has ls 3 [(0, .ref aM), (1, .int xp)] := lv_sub hl [0, 1] rfl
    exact JN_1   _ _ hP hD hS _ hl

abbrev PaP (xa xb xc xd xe : Int32) : Prop := (nI 0 ≤ xa ∧ xa ≤ nI 5) ∧ (nI 0 ≤ xb ∧ xb ≤ nI 15) ∧ (nI 0 ≤ xc ∧ xc ≤ nI 15) ∧ (nI (stV 2 (tN xa)) ≤ xd ∧ xd ≤ nI (stV 3 (tN xa))) ∧ (nI 0 ≤ xe ∧ xe ≤ nI (stV 4 (tN xa)))
def parC (n : Nat) (xa xb xc xd xe : Int32) : Nat := if PaP xa xb xc xd xe then (if n = 16 then 2 else 0) else 1
theorem parC_0 {n : Nat} {xa xb xc xd xe : Int32} (h : parC n xa xb xc xd xe = 0) : PaP xa xb xc xd xe ∧ ¬ n = 16 := by
  unfold parC at h
  split at h
  · rename_i q
    split at h
    · exact absurd h (by decide)
    · exact ⟨q, by assumption⟩
  · exact absurd h (by decide)
theorem parC_lt (n : Nat) (xa xb xc xd xe : Int32) : parC n xa xb xc xd xe < 4 := by unfold parC; split; split <;> omega; omega
theorem stV2_lt {k : Nat} (h : k ≤ 5) : stV 2 k < 2 ^ 31 := by
  have : ∀ k, k < 6 → stV 2 k < 2 ^ 31 := by decide +kernel
  exact this k (by omega)

set_option maxHeartbeats 4000000 in
set_option maxRecDepth 100000 in
theorem m_part (l : Launch) (E : EnvT) (sz : Nat) (xa xb xc xd xe : Int32) (aM mK mX mY mF mS mL mQ mW mA mD mO mV mC mT mE mN mH mZ mP : Nat) (th n lst : Nat) (em gn lk : Int64) (kd xs ys fi se : Nat → Nat) (hn : n ≤ 16) : MI l yX4_part wsX4_part ({ frames := 2, cells := 0, slots := 0, locals := 44 }) E sz [.ref aM, .int xa, .int xb, .int xc, .int xd, .int xe] [(aM, o4 (nI th) (nI n) mK mX mY mF mS mL mQ mW mA mD mO mV mC mT mE mN mH mZ mP em gn lk (nI lst)), (mK, ia E nI 16 kd), (mX, ia E nI 16 xs), (mY, ia E nI 16 ys), (mF, ia E nI 16 fi), (mS, ia E nI 16 se)] (fun (r : Int32) (_ : Unit) => r = nI (if parC n xa xb xc xd xe = 0 then n else 0)) (fun _ => [(aM, o4 (nI (parC n xa xb xc xd xe)) (nI (if parC n xa xb xc xd xe = 0 then n + 1 else n)) mK mX mY mF mS mL mQ mW mA mD mO mV mC mT mE mN mH mZ mP em gn lk (nI lst)), (mK, ia E nI 16 (if parC n xa xb xc xd xe = 0 then va_up kd n (tN xa) else kd)), (mX, ia E nI 16 (if parC n xa xb xc xd xe = 0 then va_up xs n (tN xb) else xs)), (mY, ia E nI 16 (if parC n xa xb xc xd xe = 0 then va_up ys n (tN xc) else ys)), (mF, ia E nI 16 (if parC n xa xb xc xd xe = 0 then va_up fi n (tN xd) else fi)), (mS, ia E nI 16 (if parC n xa xb xc xd xe = 0 then va_up se n (tN xe) else se))]) := by
  refine enI (cc := cX4_part) (maxL := 7) (ret := .int) (by decide +kernel) rfl (Nat.le_of_ble_eq_true rfl) ?_
  intro p e s m below meth c A ls hx hb hr hml hts hown hlocks hAe C0 hP hD hS hl
  have hown : s.vm.findClass RX4 = some m.cls := hown
  have hl : lv_has ls 7 [(0, .ref aM), (1, .int xa), (2, .int xb), (3, .int xc), (4, .int xd), (5, .int xe)] := hl
  have iX4 : ∀ w ∈ u_ws RX4 TX4 25, w ∈ wsX4_part := by decide +kernel
  obtain ⟨H, hHe⟩ : ∃ z, z = s.heap := ⟨_, rfl⟩
  obtain ⟨locs, hLe⟩ : ∃ z : List Loc, z = [] := ⟨_, rfl⟩
  have hP : va_P E.1 vwCl [(aM, o4 (nI th) (nI n) mK mX mY mF mS mL mQ mW mA mD mO mV mC mT mE mN mH mZ mP em gn lk (nI lst)), (mK, ia E nI 16 kd), (mX, ia E nI 16 xs), (mY, ia E nI 16 ys), (mF, ia E nI 16 fi), (mS, ia E nI 16 se)] H := by rw [hHe]; exact hP
  have hD : va_D A [(aM, o4 (nI th) (nI n) mK mX mY mF mS mL mQ mW mA mD mO mV mC mT mE mN mH mZ mP em gn lk (nI lst)), (mK, ia E nI 16 kd), (mX, ia E nI 16 xs), (mY, ia E nI 16 ys), (mF, ia E nI 16 fi), (mS, ia E nI 16 se)] := hD
  have hS : va_S A s.heap H locs := by rw [hHe, hLe]; exact hS
  suffices hgo : W p l e _ s m _ below meth c H locs 0 0 _ (F0 m 0 ls []) by rw [hHe, hLe] at hgo; exact hgo
  clear hHe hLe
  have hcb := parC_lt n xa xb xc xd xe
  have JN_1 : ∀ (H : Heap) (locs : List Loc), va_P E.1 vwCl [(aM, o4 (nI th) (nI n) mK mX mY mF mS mL mQ mW mA mD mO mV mC mT mE mN mH mZ mP em gn lk (nI lst)), (mK, ia E nI 16 kd), (mX, ia E nI 16 xs), (mY, ia E nI 16 ys), (mF, ia E nI 16 fi), (mS, ia E nI 16 se)] H → va_D A [(aM, o4 (nI th) (nI n) mK mX mY mF mS mL mQ mW mA mD mO mV mC mT mE mN mH mZ mP em gn lk (nI lst)), (mK, ia E nI 16 kd), (mX, ia E nI 16 xs), (mY, ia E nI 16 ys), (mF, ia E nI 16 fi), (mS, ia E nI 16 se)] → va_S A s.heap H locs → ∀ (ls : Array Slot), lv_has ls 7 [(0, .ref aM), (1, .int xa), (2, .int xb), (3, .int xc), (4, .int xd), (5, .int xe)] → W p l e ({ frames := 2, cells := 0, slots := 0, locals := 44 }) s m (([.ref aM, .int xa, .int xb, .int xc, .int xd, .int xe] : List Value).toArray) below meth c H locs 0 0 (MQ below (va_Qi (fun (r : Int32) (_ : Unit) => r = nI (if parC n xa xb xc xd xe = 0 then n else 0)) (Wd E [(aM, o4 (nI th) (nI n) mK mX mY mF mS mL mQ mW mA mD mO mV mC mT mE mN mH mZ mP em gn lk (nI lst)), (mK, ia E nI 16 kd), (mX, ia E nI 16 xs), (mY, ia E nI 16 ys), (mF, ia E nI 16 fi), (mS, ia E nI 16 se)] s.heap.size (fun _ => [(aM, o4 (nI (parC n xa xb xc xd xe)) (nI (if parC n xa xb xc xd xe = 0 then n + 1 else n)) mK mX mY mF mS mL mQ mW mA mD mO mV mC mT mE mN mH mZ mP em gn lk (nI lst)), (mK, ia E nI 16 (if parC n xa xb xc xd xe = 0 then va_up kd n (tN xa) else kd)), (mX, ia E nI 16 (if parC n xa xb xc xd xe = 0 then va_up xs n (tN xb) else xs)), (mY, ia E nI 16 (if parC n xa xb xc xd xe = 0 then va_up ys n (tN xc) else ys)), (mF, ia E nI 16 (if parC n xa xb xc xd xe = 0 then va_up fi n (tN xd) else fi)), (mS, ia E nI 16 (if parC n xa xb xc xd xe = 0 then va_up se n (tN xe) else se))])) A) (([.ref aM, .int xa, .int xb, .int xc, .int xd, .int xe] : List Value).toArray) s 0 0 A) (F0 m 52 ls [.int (bI (PaP xa xb xc xd xe))]) := by
    intro   H locs hP hD hS ls hl
    refine lv_istore (lv' := [(6, .int (bI (PaP xa xb xc xd xe))), (0, .ref aM), (1, .int xa), (2, .int xb), (3, .int xc), (4, .int xd), (5, .int xe)]) hx hb dX4_part_52 hl (by decide) rfl (fun ls hl => ?_)
    refine lv_aload_n hx hb dX4_part_54 rfl (lv_at hl 1 rfl) ?_
    have JN_2 : ∀ (H : Heap) (locs : List Loc), va_P E.1 vwCl [(aM, o4 (nI th) (nI n) mK mX mY mF mS mL mQ mW mA mD mO mV mC mT mE mN mH mZ mP em gn lk (nI lst)), (mK, ia E nI 16 kd), (mX, ia E nI 16 xs), (mY, ia E nI 16 ys), (mF, ia E nI 16 fi), (mS, ia E nI 16 se)] H → va_D A [(aM, o4 (nI th) (nI n) mK mX mY mF mS mL mQ mW mA mD mO mV mC mT mE mN mH mZ mP em gn lk (nI lst)), (mK, ia E nI 16 kd), (mX, ia E nI 16 xs), (mY, ia E nI 16 ys), (mF, ia E nI 16 fi), (mS, ia E nI 16 se)] → va_S A s.heap H locs → ∀ (ls : Array Slot), lv_has ls 7 [(0, .ref aM), (1, .int xa), (2, .int xb), (3, .int xc), (4, .int xd), (5, .int xe)] → W p l e ({ frames := 2, cells := 0, slots := 0, locals := 44 }) s m (([.ref aM, .int xa, .int xb, .int xc, .int xd, .int xe] : List Value).toArray) below meth c H locs 0 0 (MQ below (va_Qi (fun (r : Int32) (_ : Unit) => r = nI (if parC n xa xb xc xd xe = 0 then n else 0)) (Wd E [(aM, o4 (nI th) (nI n) mK mX mY mF mS mL mQ mW mA mD mO mV mC mT mE mN mH mZ mP em gn lk (nI lst)), (mK, ia E nI 16 kd), (mX, ia E nI 16 xs), (mY, ia E nI 16 ys), (mF, ia E nI 16 fi), (mS, ia E nI 16 se)] s.heap.size (fun _ => [(aM, o4 (nI (parC n xa xb xc xd xe)) (nI (if parC n xa xb xc xd xe = 0 then n + 1 else n)) mK mX mY mF mS mL mQ mW mA mD mO mV mC mT mE mN mH mZ mP em gn lk (nI lst)), (mK, ia E nI 16 (if parC n xa xb xc xd xe = 0 then va_up kd n (tN xa) else kd)), (mX, ia E nI 16 (if parC n xa xb xc xd xe = 0 then va_up xs n (tN xb) else xs)), (mY, ia E nI 16 (if parC n xa xb xc xd xe = 0 then va_up ys n (tN xc) else ys)), (mF, ia E nI 16 (if parC n xa xb xc xd xe = 0 then va_up fi n (tN xd) else fi)), (mS, ia E nI 16 (if parC n xa xb xc xd xe = 0 then va_up se n (tN xe) else se))])) A) (([.ref aM, .int xa, .int xb, .int xc, .int xd, .int xe] : List Value).toArray) s 0 0 A) (F0 m 78 ls [.int (nI (parC n xa xb xc xd xe)), .ref aM]) := by
      intro   H locs hP hD hS ls hl
      refine va_put (D := E.1) (ci := 4) (v := .int (nI (parC n xa xb xc xd xe))) (ty := .int) (C := RX4) (T := TX4) (N := 25) hx hb hts iX4 tyX4 tyX4_ok nmX4 hown C0.1 hP hD hS 0 rfl rfl 0 (by decide) (hts (.fieldLink RX4 72 "RingresonanceModel" "thrown" "I") (by decide +kernel)) (fun _ h9 => h9) rfl (by decide +kernel) rfl rfl (Nat.le_of_ble_eq_true rfl) dX4_part_78 (fun H locs hP hD hS => ?_)
      have hP : va_P E.1 vwCl [(aM, o4 (nI (parC n xa xb xc xd xe)) (nI n) mK mX mY mF mS mL mQ mW mA mD mO mV mC mT mE mN mH mZ mP em gn lk (nI lst)), (mK, ia E nI 16 kd), (mX, ia E nI 16 xs), (mY, ia E nI 16 ys), (mF, ia E nI 16 fi), (mS, ia E nI 16 se)] H := hP
      have hD : va_D A [(aM, o4 (nI (parC n xa xb xc xd xe)) (nI n) mK mX mY mF mS mL mQ mW mA mD mO mV mC mT mE mN mH mZ mP em gn lk (nI lst)), (mK, ia E nI 16 kd), (mX, ia E nI 16 xs), (mY, ia E nI 16 ys), (mF, ia E nI 16 fi), (mS, ia E nI 16 se)] := hD
      refine lv_aload_n hx hb dX4_part_81 rfl (lv_at hl 0 rfl) ?_
      refine va_get (D := E.1) (ci := 4) (v := .int (nI (parC n xa xb xc xd xe))) (C := RX4) (T := TX4) (N := 25) hx hb hts iX4 hown C0.1 hP 0 rfl rfl 0 (by decide) (hts (.fieldLink RX4 72 "RingresonanceModel" "thrown" "I") (by decide +kernel)) (fun _ h9 => h9) rfl dX4_part_82 ?_
      refine lv_if_eq (tgt := 90) hx hb dX4_part_85 (by decide) (fun c_3 => ?_) (fun c_3 => ?_)
      · skip
        have c_3 : (parC n xa xb xc xd xe) = 0 := (ci0_eq (by omega)).mp c_3
        obtain ⟨⟨hA, hB, hC, hD9, hE9⟩, h16⟩ := parC_0 c_3
        have hA5 := tN_le (by omega) hA.2
        refine lv_aload_n hx hb dX4_part_90 rfl (lv_at hl 0 rfl) ?_
        refine va_get (D := E.1) (ci := 4) (v := .ref mK) (C := RX4) (T := TX4) (N := 25) hx hb hts iX4 hown C0.1 hP 0 rfl rfl 2 (by decide) (hts (.fieldLink RX4 7 "RingresonanceModel" "kind" "[I") (by decide +kernel)) (fun _ h9 => h9) rfl dX4_part_91 ?_
        refine lv_aload_n hx hb dX4_part_94 rfl (lv_at hl 0 rfl) ?_
        refine va_get (D := E.1) (ci := 4) (v := .int (nI n)) (C := RX4) (T := TX4) (N := 25) hx hb hts iX4 hown C0.1 hP 0 rfl rfl 1 (by decide) (hts (.fieldLink RX4 75 "RingresonanceModel" "parts" "I") (by decide +kernel)) (fun _ h9 => h9) rfl dX4_part_95 ?_
        refine lv_iload_n hx hb dX4_part_98 rfl (lv_at hl 1 rfl) ?_
        refine lv_ri (y := (nI (tN xa))) (tN_eq hA) ?_
        refine k_iast (e := n) (v := (tN xa)) (g := nI) (n := 16) hx hb C0 hP hD hS 1 rfl rfl (by omega) (by omega) dX4_part_99 (fun H locs hP hD hS => ?_)
        have hP : va_P E.1 vwCl [(aM, o4 (nI (parC n xa xb xc xd xe)) (nI n) mK mX mY mF mS mL mQ mW mA mD mO mV mC mT mE mN mH mZ mP em gn lk (nI lst)), (mK, ia E nI 16 (va_up kd n (tN xa))), (mX, ia E nI 16 xs), (mY, ia E nI 16 ys), (mF, ia E nI 16 fi), (mS, ia E nI 16 se)] H := hP
        have hD : va_D A [(aM, o4 (nI (parC n xa xb xc xd xe)) (nI n) mK mX mY mF mS mL mQ mW mA mD mO mV mC mT mE mN mH mZ mP em gn lk (nI lst)), (mK, ia E nI 16 (va_up kd n (tN xa))), (mX, ia E nI 16 xs), (mY, ia E nI 16 ys), (mF, ia E nI 16 fi), (mS, ia E nI 16 se)] := hD
        refine lv_aload_n hx hb dX4_part_100 rfl (lv_at hl 0 rfl) ?_
        refine va_get (D := E.1) (ci := 4) (v := .ref mX) (C := RX4) (T := TX4) (N := 25) hx hb hts iX4 hown C0.1 hP 0 rfl rfl 3 (by decide) (hts (.fieldLink RX4 13 "RingresonanceModel" "x" "[I") (by decide +kernel)) (fun _ h9 => h9) rfl dX4_part_101 ?_
        refine lv_aload_n hx hb dX4_part_104 rfl (lv_at hl 0 rfl) ?_
        refine va_get (D := E.1) (ci := 4) (v := .int (nI n)) (C := RX4) (T := TX4) (N := 25) hx hb hts iX4 hown C0.1 hP 0 rfl rfl 1 (by decide) (hts (.fieldLink RX4 75 "RingresonanceModel" "parts" "I") (by decide +kernel)) (fun _ h9 => h9) rfl dX4_part_105 ?_
        refine lv_iload_n hx hb dX4_part_108 rfl (lv_at hl 2 rfl) ?_
        refine lv_ri (y := (nI (tN xb))) (tN_eq hB) ?_
        refine k_iast (e := n) (v := (tN xb)) (g := nI) (n := 16) hx hb C0 hP hD hS 2 rfl rfl (by omega) (by omega) dX4_part_109 (fun H locs hP hD hS => ?_)
        have hP : va_P E.1 vwCl [(aM, o4 (nI (parC n xa xb xc xd xe)) (nI n) mK mX mY mF mS mL mQ mW mA mD mO mV mC mT mE mN mH mZ mP em gn lk (nI lst)), (mK, ia E nI 16 (va_up kd n (tN xa))), (mX, ia E nI 16 (va_up xs n (tN xb))), (mY, ia E nI 16 ys), (mF, ia E nI 16 fi), (mS, ia E nI 16 se)] H := hP
        have hD : va_D A [(aM, o4 (nI (parC n xa xb xc xd xe)) (nI n) mK mX mY mF mS mL mQ mW mA mD mO mV mC mT mE mN mH mZ mP em gn lk (nI lst)), (mK, ia E nI 16 (va_up kd n (tN xa))), (mX, ia E nI 16 (va_up xs n (tN xb))), (mY, ia E nI 16 ys), (mF, ia E nI 16 fi), (mS, ia E nI 16 se)] := hD
        refine lv_aload_n hx hb dX4_part_110 rfl (lv_at hl 0 rfl) ?_
        refine va_get (D := E.1) (ci := 4) (v := .ref mY) (C := RX4) (T := TX4) (N := 25) hx hb hts iX4 hown C0.1 hP 0 rfl rfl 4 (by decide) (hts (.fieldLink RX4 16 "RingresonanceModel" "y" "[I") (by decide +kernel)) (fun _ h9 => h9) rfl dX4_part_111 ?_
        refine lv_aload_n hx hb dX4_part_114 rfl (lv_at hl 0 rfl) ?_
        refine va_get (D := E.1) (ci := 4) (v := .int (nI n)) (C := RX4) (T := TX4) (N := 25) hx hb hts iX4 hown C0.1 hP 0 rfl rfl 1 (by decide) (hts (.fieldLink RX4 75 "RingresonanceModel" "parts" "I") (by decide +kernel)) (fun _ h9 => h9) rfl dX4_part_115 ?_
        refine lv_iload_n hx hb dX4_part_118 rfl (lv_at hl 3 rfl) ?_
        refine lv_ri (y := (nI (tN xc))) (tN_eq hC) ?_
        refine k_iast (e := n) (v := (tN xc)) (g := nI) (n := 16) hx hb C0 hP hD hS 3 rfl rfl (by omega) (by omega) dX4_part_119 (fun H locs hP hD hS => ?_)
        have hP : va_P E.1 vwCl [(aM, o4 (nI (parC n xa xb xc xd xe)) (nI n) mK mX mY mF mS mL mQ mW mA mD mO mV mC mT mE mN mH mZ mP em gn lk (nI lst)), (mK, ia E nI 16 (va_up kd n (tN xa))), (mX, ia E nI 16 (va_up xs n (tN xb))), (mY, ia E nI 16 (va_up ys n (tN xc))), (mF, ia E nI 16 fi), (mS, ia E nI 16 se)] H := hP
        have hD : va_D A [(aM, o4 (nI (parC n xa xb xc xd xe)) (nI n) mK mX mY mF mS mL mQ mW mA mD mO mV mC mT mE mN mH mZ mP em gn lk (nI lst)), (mK, ia E nI 16 (va_up kd n (tN xa))), (mX, ia E nI 16 (va_up xs n (tN xb))), (mY, ia E nI 16 (va_up ys n (tN xc))), (mF, ia E nI 16 fi), (mS, ia E nI 16 se)] := hD
        refine lv_aload_n hx hb dX4_part_120 rfl (lv_at hl 0 rfl) ?_
        refine va_get (D := E.1) (ci := 4) (v := .ref mF) (C := RX4) (T := TX4) (N := 25) hx hb hts iX4 hown C0.1 hP 0 rfl rfl 5 (by decide) (hts (.fieldLink RX4 19 "RingresonanceModel" "base" "[I") (by decide +kernel)) (fun _ h9 => h9) rfl dX4_part_121 ?_
        refine lv_aload_n hx hb dX4_part_124 rfl (lv_at hl 0 rfl) ?_
        refine va_get (D := E.1) (ci := 4) (v := .int (nI n)) (C := RX4) (T := TX4) (N := 25) hx hb hts iX4 hown C0.1 hP 0 rfl rfl 1 (by decide) (hts (.fieldLink RX4 75 "RingresonanceModel" "parts" "I") (by decide +kernel)) (fun _ h9 => h9) rfl dX4_part_125 ?_
        refine lv_iload hx hb dX4_part_128 (lv_at hl 4 rfl) ?_
        refine lv_ri (y := (nI (tN xd))) (tN_eq' (stV2_lt hA5) hD9.1) ?_
        refine k_iast (e := n) (v := (tN xd)) (g := nI) (n := 16) hx hb C0 hP hD hS 4 rfl rfl (by omega) (by omega) dX4_part_130 (fun H locs hP hD hS => ?_)
        have hP : va_P E.1 vwCl [(aM, o4 (nI (parC n xa xb xc xd xe)) (nI n) mK mX mY mF mS mL mQ mW mA mD mO mV mC mT mE mN mH mZ mP em gn lk (nI lst)), (mK, ia E nI 16 (va_up kd n (tN xa))), (mX, ia E nI 16 (va_up xs n (tN xb))), (mY, ia E nI 16 (va_up ys n (tN xc))), (mF, ia E nI 16 (va_up fi n (tN xd))), (mS, ia E nI 16 se)] H := hP
        have hD : va_D A [(aM, o4 (nI (parC n xa xb xc xd xe)) (nI n) mK mX mY mF mS mL mQ mW mA mD mO mV mC mT mE mN mH mZ mP em gn lk (nI lst)), (mK, ia E nI 16 (va_up kd n (tN xa))), (mX, ia E nI 16 (va_up xs n (tN xb))), (mY, ia E nI 16 (va_up ys n (tN xc))), (mF, ia E nI 16 (va_up fi n (tN xd))), (mS, ia E nI 16 se)] := hD
        refine lv_aload_n hx hb dX4_part_131 rfl (lv_at hl 0 rfl) ?_
        refine va_get (D := E.1) (ci := 4) (v := .ref mS) (C := RX4) (T := TX4) (N := 25) hx hb hts iX4 hown C0.1 hP 0 rfl rfl 6 (by decide) (hts (.fieldLink RX4 22 "RingresonanceModel" "second" "[I") (by decide +kernel)) (fun _ h9 => h9) rfl dX4_part_132 ?_
        refine lv_aload_n hx hb dX4_part_135 rfl (lv_at hl 0 rfl) ?_
        refine va_get (D := E.1) (ci := 4) (v := .int (nI n)) (C := RX4) (T := TX4) (N := 25) hx hb hts iX4 hown C0.1 hP 0 rfl rfl 1 (by decide) (hts (.fieldLink RX4 75 "RingresonanceModel" "parts" "I") (by decide +kernel)) (fun _ h9 => h9) rfl dX4_part_136 ?_
        refine lv_iload hx hb dX4_part_139 (lv_at hl 5 rfl) ?_
        refine lv_ri (y := (nI (tN xe))) (tN_eq hE9) ?_
        refine k_iast (e := n) (v := (tN xe)) (g := nI) (n := 16) hx hb C0 hP hD hS 5 rfl rfl (by omega) (by omega) dX4_part_141 (fun H locs hP hD hS => ?_)
        have hP : va_P E.1 vwCl [(aM, o4 (nI (parC n xa xb xc xd xe)) (nI n) mK mX mY mF mS mL mQ mW mA mD mO mV mC mT mE mN mH mZ mP em gn lk (nI lst)), (mK, ia E nI 16 (va_up kd n (tN xa))), (mX, ia E nI 16 (va_up xs n (tN xb))), (mY, ia E nI 16 (va_up ys n (tN xc))), (mF, ia E nI 16 (va_up fi n (tN xd))), (mS, ia E nI 16 (va_up se n (tN xe)))] H := hP
        have hD : va_D A [(aM, o4 (nI (parC n xa xb xc xd xe)) (nI n) mK mX mY mF mS mL mQ mW mA mD mO mV mC mT mE mN mH mZ mP em gn lk (nI lst)), (mK, ia E nI 16 (va_up kd n (tN xa))), (mX, ia E nI 16 (va_up xs n (tN xb))), (mY, ia E nI 16 (va_up ys n (tN xc))), (mF, ia E nI 16 (va_up fi n (tN xd))), (mS, ia E nI 16 (va_up se n (tN xe)))] := hD
        refine lv_aload_n hx hb dX4_part_142 rfl (lv_at hl 0 rfl) ?_
        refine lv_dup hx hb dX4_part_143 rfl ?_
        refine va_get (D := E.1) (ci := 4) (v := .int (nI n)) (C := RX4) (T := TX4) (N := 25) hx hb hts iX4 hown C0.1 hP 0 rfl rfl 1 (by decide) (hts (.fieldLink RX4 75 "RingresonanceModel" "parts" "I") (by decide +kernel)) (fun _ h9 => h9) rfl dX4_part_144 ?_
        refine lv_iconst (v := nI 1) hx hb dX4_part_147 (by decide) ?_
        refine lv_iadd hx hb dX4_part_148 ?_
        refine lv_ri (y := (nI (n + 1))) (nI_add n 1) ?_
        refine va_put (D := E.1) (ci := 4) (v := .int (nI (n + 1))) (ty := .int) (C := RX4) (T := TX4) (N := 25) hx hb hts iX4 tyX4 tyX4_ok nmX4 hown C0.1 hP hD hS 0 rfl rfl 1 (by decide) (hts (.fieldLink RX4 75 "RingresonanceModel" "parts" "I") (by decide +kernel)) (fun _ h9 => h9) rfl (by decide +kernel) rfl rfl (Nat.le_of_ble_eq_true rfl) dX4_part_149 (fun H locs hP hD hS => ?_)
        have hP : va_P E.1 vwCl [(aM, o4 (nI (parC n xa xb xc xd xe)) (nI (n + 1)) mK mX mY mF mS mL mQ mW mA mD mO mV mC mT mE mN mH mZ mP em gn lk (nI lst)), (mK, ia E nI 16 (va_up kd n (tN xa))), (mX, ia E nI 16 (va_up xs n (tN xb))), (mY, ia E nI 16 (va_up ys n (tN xc))), (mF, ia E nI 16 (va_up fi n (tN xd))), (mS, ia E nI 16 (va_up se n (tN xe)))] H := hP
        have hD : va_D A [(aM, o4 (nI (parC n xa xb xc xd xe)) (nI (n + 1)) mK mX mY mF mS mL mQ mW mA mD mO mV mC mT mE mN mH mZ mP em gn lk (nI lst)), (mK, ia E nI 16 (va_up kd n (tN xa))), (mX, ia E nI 16 (va_up xs n (tN xb))), (mY, ia E nI 16 (va_up ys n (tN xc))), (mF, ia E nI 16 (va_up fi n (tN xd))), (mS, ia E nI 16 (va_up se n (tN xe)))] := hD
        refine lv_aload_n hx hb dX4_part_152 rfl (lv_at hl 0 rfl) ?_
        refine va_get (D := E.1) (ci := 4) (v := .int (nI (n + 1))) (C := RX4) (T := TX4) (N := 25) hx hb hts iX4 hown C0.1 hP 0 rfl rfl 1 (by decide) (hts (.fieldLink RX4 75 "RingresonanceModel" "parts" "I") (by decide +kernel)) (fun _ h9 => h9) rfl dX4_part_153 ?_
        refine lv_iconst (v := nI 1) hx hb dX4_part_156 (by decide) ?_
        refine lv_isub hx hb dX4_part_157 ?_
        refine lv_ri (y := (nI ((n + 1) - 1))) (pk_sub (by omega)) ?_
        have q_4 : (nI (if parC n xa xb xc xd xe = 0 then n + 1 else n)) = (nI (n + 1)) := by simp [c_3]
        have q_5 : (if parC n xa xb xc xd xe = 0 then va_up kd n (tN xa) else kd) = (va_up kd n (tN xa)) := by simp [c_3]
        have q_6 : (if parC n xa xb xc xd xe = 0 then va_up xs n (tN xb) else xs) = (va_up xs n (tN xb)) := by simp [c_3]
        have q_7 : (if parC n xa xb xc xd xe = 0 then va_up ys n (tN xc) else ys) = (va_up ys n (tN xc)) := by simp [c_3]
        have q_8 : (if parC n xa xb xc xd xe = 0 then va_up fi n (tN xd) else fi) = (va_up fi n (tN xd)) := by simp [c_3]
        have q_9 : (if parC n xa xb xc xd xe = 0 then va_up se n (tN xe) else se) = (va_up se n (tN xe)) := by simp [c_3]
        have hP : va_P E.1 vwCl [(aM, o4 (nI (parC n xa xb xc xd xe)) (nI (if parC n xa xb xc xd xe = 0 then n + 1 else n)) mK mX mY mF mS mL mQ mW mA mD mO mV mC mT mE mN mH mZ mP em gn lk (nI lst)), (mK, ia E nI 16 (if parC n xa xb xc xd xe = 0 then va_up kd n (tN xa) else kd)), (mX, ia E nI 16 (if parC n xa xb xc xd xe = 0 then va_up xs n (tN xb) else xs)), (mY, ia E nI 16 (if parC n xa xb xc xd xe = 0 then va_up ys n (tN xc) else ys)), (mF, ia E nI 16 (if parC n xa xb xc xd xe = 0 then va_up fi n (tN xd) else fi)), (mS, ia E nI 16 (if parC n xa xb xc xd xe = 0 then va_up se n (tN xe) else se))] H := by rw [q_4, q_5, q_6, q_7, q_8, q_9]; exact hP
        have hD : va_D A [(aM, o4 (nI (parC n xa xb xc xd xe)) (nI (if parC n xa xb xc xd xe = 0 then n + 1 else n)) mK mX mY mF mS mL mQ mW mA mD mO mV mC mT mE mN mH mZ mP em gn lk (nI lst)), (mK, ia E nI 16 (if parC n xa xb xc xd xe = 0 then va_up kd n (tN xa) else kd)), (mX, ia E nI 16 (if parC n xa xb xc xd xe = 0 then va_up xs n (tN xb) else xs)), (mY, ia E nI 16 (if parC n xa xb xc xd xe = 0 then va_up ys n (tN xc) else ys)), (mF, ia E nI 16 (if parC n xa xb xc xd xe = 0 then va_up fi n (tN xd) else fi)), (mS, ia E nI 16 (if parC n xa xb xc xd xe = 0 then va_up se n (tN xe) else se))] := by rw [q_4, q_5, q_6, q_7, q_8, q_9]; exact hD
        have q_10 : (nI ((n + 1) - 1)) = (nI (if parC n xa xb xc xd xe = 0 then n else 0)) := by symm; simp [c_3]
        exact exI hx hb hr hlocks hAe hS () q_10 hP hD dX4_part_158
      · skip
        have c_3 : ¬ ((parC n xa xb xc xd xe) = 0) := fun h => c_3 ((ci0_eq (by omega)).mpr h)
        refine lv_iconst (v := nI 0) hx hb dX4_part_88 (by decide) ?_
        have q_11 : (nI (if parC n xa xb xc xd xe = 0 then n + 1 else n)) = (nI n) := by simp [c_3]
        have q_12 : (if parC n xa xb xc xd xe = 0 then va_up kd n (tN xa) else kd) = kd := by simp [c_3]
        have q_13 : (if parC n xa xb xc xd xe = 0 then va_up xs n (tN xb) else xs) = xs := by simp [c_3]
        have q_14 : (if parC n xa xb xc xd xe = 0 then va_up ys n (tN xc) else ys) = ys := by simp [c_3]
        have q_15 : (if parC n xa xb xc xd xe = 0 then va_up fi n (tN xd) else fi) = fi := by simp [c_3]
        have q_16 : (if parC n xa xb xc xd xe = 0 then va_up se n (tN xe) else se) = se := by simp [c_3]
        have hP : va_P E.1 vwCl [(aM, o4 (nI (parC n xa xb xc xd xe)) (nI (if parC n xa xb xc xd xe = 0 then n + 1 else n)) mK mX mY mF mS mL mQ mW mA mD mO mV mC mT mE mN mH mZ mP em gn lk (nI lst)), (mK, ia E nI 16 (if parC n xa xb xc xd xe = 0 then va_up kd n (tN xa) else kd)), (mX, ia E nI 16 (if parC n xa xb xc xd xe = 0 then va_up xs n (tN xb) else xs)), (mY, ia E nI 16 (if parC n xa xb xc xd xe = 0 then va_up ys n (tN xc) else ys)), (mF, ia E nI 16 (if parC n xa xb xc xd xe = 0 then va_up fi n (tN xd) else fi)), (mS, ia E nI 16 (if parC n xa xb xc xd xe = 0 then va_up se n (tN xe) else se))] H := by rw [q_11, q_12, q_13, q_14, q_15, q_16]; exact hP
        have hD : va_D A [(aM, o4 (nI (parC n xa xb xc xd xe)) (nI (if parC n xa xb xc xd xe = 0 then n + 1 else n)) mK mX mY mF mS mL mQ mW mA mD mO mV mC mT mE mN mH mZ mP em gn lk (nI lst)), (mK, ia E nI 16 (if parC n xa xb xc xd xe = 0 then va_up kd n (tN xa) else kd)), (mX, ia E nI 16 (if parC n xa xb xc xd xe = 0 then va_up xs n (tN xb) else xs)), (mY, ia E nI 16 (if parC n xa xb xc xd xe = 0 then va_up ys n (tN xc) else ys)), (mF, ia E nI 16 (if parC n xa xb xc xd xe = 0 then va_up fi n (tN xd) else fi)), (mS, ia E nI 16 (if parC n xa xb xc xd xe = 0 then va_up se n (tN xe) else se))] := by rw [q_11, q_12, q_13, q_14, q_15, q_16]; exact hD
        have q_17 : (nI 0) = (nI (if parC n xa xb xc xd xe = 0 then n else 0)) := by symm; simp [c_3]
        exact exI hx hb hr hlocks hAe hS () q_17 hP hD dX4_part_89
    refine lv_iload hx hb dX4_part_55 (lv_at hl 0 rfl) ?_
    refine lv_if_ne (tgt := 64) hx hb dX4_part_57 (by decide) (fun c_18 => ?_) (fun c_18 => ?_)
    · skip
      have c_18 : PaP xa xb xc xd xe := bI_ne0.mp c_18
      refine lv_aload_n hx hb dX4_part_64 rfl (lv_at hl 1 rfl) ?_
      refine va_get (D := E.1) (ci := 4) (v := .int (nI n)) (C := RX4) (T := TX4) (N := 25) hx hb hts iX4 hown C0.1 hP 0 rfl rfl 1 (by decide) (hts (.fieldLink RX4 75 "RingresonanceModel" "parts" "I") (by decide +kernel)) (fun _ h9 => h9) rfl dX4_part_65 ?_
      refine lv_bipush (v := nI 16) hx hb dX4_part_68 (by decide) ?_
      refine lv_icmp_ne (tgt := 77) hx hb dX4_part_70 (by decide) (fun c_19 => ?_) (fun c_19 => ?_)
      · skip
        have c_19 : ¬ (n = 16) := fun h => c_19 ((ci_eq (by omega) (by omega)).mpr h)
        refine lv_iconst (v := nI 0) hx hb dX4_part_77 (by decide) ?_
        refine lv_ri (y := (nI (parC n xa xb xc xd xe))) (congrArg nI (show _ = parC n xa xb xc xd xe by unfold parC; simp [c_18, c_19])) ?_
        have hl : lv_has ls 7 [(0, .ref aM), (1, .int xa), (2, .int xb), (3, .int xc), (4, .int xd), (5, .int xe)] := lv_sub hl [1, 2, 3, 4, 5, 6] rfl
        exact JN_2   _ _ hP hD hS _ hl
      · skip
        have c_19 : n = 16 := (ci_eq (by omega) (by omega)).mp c_19
        refine lv_iconst (v := nI 2) hx hb dX4_part_73 (by decide) ?_
        refine lv_ri (y := (nI (parC n xa xb xc xd xe))) (congrArg nI (show _ = parC n xa xb xc xd xe by unfold parC; simp [c_18, c_19])) ?_
        refine lv_goto (tgt := 78) hx hb dX4_part_74 (by decide) ?_
        have hl : lv_has ls 7 [(0, .ref aM), (1, .int xa), (2, .int xb), (3, .int xc), (4, .int xd), (5, .int xe)] := lv_sub hl [1, 2, 3, 4, 5, 6] rfl
        exact JN_2   _ _ hP hD hS _ hl
    · skip
      have c_18 : ¬ (PaP xa xb xc xd xe) := bI_eq0.mp c_18
      refine lv_iconst (v := nI 1) hx hb dX4_part_60 (by decide) ?_
      refine lv_ri (y := (nI (parC n xa xb xc xd xe))) (congrArg nI (show _ = parC n xa xb xc xd xe by unfold parC; simp [c_18])) ?_
      refine lv_goto (tgt := 78) hx hb dX4_part_61 (by decide) ?_
      have hl : lv_has ls 7 [(0, .ref aM), (1, .int xa), (2, .int xb), (3, .int xc), (4, .int xd), (5, .int xe)] := lv_sub hl [1, 2, 3, 4, 5, 6] rfl
      exact JN_2   _ _ hP hD hS _ hl
  refine lv_iload_n hx hb dX4_part_0 rfl (lv_at hl 1 rfl) ?_
  refine lv_iconst (v := nI 0) hx hb dX4_part_1 (by decide) ?_
  refine lv_iconst (v := nI 5) hx hb dX4_part_2 (by decide) ?_
  have hPc := hP.pick (ws' := []) [] rfl
  have hDc := hD.sub (ws' := []) [] (by decide) rfl
  refine kcI (wr := [(aM, o4 (nI th) (nI n) mK mX mY mF mS mL mQ mW mA mD mO mV mC mT mE mN mH mZ mP em gn lk (nI lst)), (mK, ia E nI 16 kd), (mX, ia E nI 16 xs), (mY, ia E nI 16 ys), (mF, ia E nI 16 fi), (mS, ia E nI 16 se)]) (w1 := fun _ : Unit => []) (w2 := fun _ => [(aM, o4 (nI th) (nI n) mK mX mY mF mS mL mQ mW mA mD mO mV mC mT mE mN mH mZ mP em gn lk (nI lst)), (mK, ia E nI 16 kd), (mX, ia E nI 16 xs), (mY, ia E nI 16 ys), (mF, ia E nI 16 fi), (mS, ia E nI 16 se)]) (va_runS (As := [.int xa, .int (nI 0), .int (nI 5)]) (rest := []) ⟨hx, hb, hml, hown, hts⟩ (m_in l E H.size xa (nI 0) (nI 5) ) (va_cwS 3 hts gX4_part_X4_in rfl rfl rfl (by decide +kernel) ⟨Nat.le_of_ble_eq_true rfl, Nat.le_of_ble_eq_true rfl⟩) (preS C0 hPc hDc hS) rfl rfl hl.1 rfl (lv_room (Nat.le_of_ble_eq_true rfl)) dX4_part_3 ⟨Nat.le_refl _, Nat.le_refl _⟩) C0 hP hD hS [] [0, 1, 2, 3, 4, 5] [0, 1, 2, 3, 4, 5] rfl rfl (by decide) (by decide) (fun _ => rfl) (by decide) (fun r_9 _u H locs hw hP hD hS => ?_)
  have hP : va_P E.1 vwCl [(aM, o4 (nI th) (nI n) mK mX mY mF mS mL mQ mW mA mD mO mV mC mT mE mN mH mZ mP em gn lk (nI lst)), (mK, ia E nI 16 kd), (mX, ia E nI 16 xs), (mY, ia E nI 16 ys), (mF, ia E nI 16 fi), (mS, ia E nI 16 se)] H := hP
  have hD : va_D A [(aM, o4 (nI th) (nI n) mK mX mY mF mS mL mQ mW mA mD mO mV mC mT mE mN mH mZ mP em gn lk (nI lst)), (mK, ia E nI 16 kd), (mX, ia E nI 16 xs), (mY, ia E nI 16 ys), (mF, ia E nI 16 fi), (mS, ia E nI 16 se)] := hD
  have hw : r_9 = bI ((nI 0) ≤ xa ∧ xa ≤ (nI 5)) := hw
  subst hw
  refine lv_if_eq (tgt := 51) hx hb dX4_part_6 (by decide) (fun c_20 => ?_) (fun c_20 => ?_)
  · skip
    have c_20 : ¬ ((nI 0) ≤ xa ∧ xa ≤ (nI 5)) := bI_eq0.mp c_20
    refine lv_iconst (v := nI 0) hx hb dX4_part_51 (by decide) ?_
    refine lv_ri (y := (bI (PaP xa xb xc xd xe))) (bI_f (fun h => by first | exact c_20 h.1 | exact c_20 h.2.1 | exact c_20 h.2.2.1 | exact c_20 h.2.2.2.1 | exact c_20 h.2.2.2.2)) ?_
    have hl : lv_has ls 7 [(0, .ref aM), (1, .int xa), (2, .int xb), (3, .int xc), (4, .int xd), (5, .int xe)] := lv_sub hl [0, 1, 2, 3, 4, 5] rfl
    exact JN_1   _ _ hP hD hS _ hl
  · skip
    have c_20 : (nI 0) ≤ xa ∧ xa ≤ (nI 5) := bI_ne0.mp c_20
    have hA := c_20
    refine lv_iload_n hx hb dX4_part_9 rfl (lv_at hl 2 rfl) ?_
    refine lv_iconst (v := nI 0) hx hb dX4_part_10 (by decide) ?_
    refine lv_bipush (v := nI 15) hx hb dX4_part_11 (by decide) ?_
    have hPc := hP.pick (ws' := []) [] rfl
    have hDc := hD.sub (ws' := []) [] (by decide) rfl
    refine kcI (wr := [(aM, o4 (nI th) (nI n) mK mX mY mF mS mL mQ mW mA mD mO mV mC mT mE mN mH mZ mP em gn lk (nI lst)), (mK, ia E nI 16 kd), (mX, ia E nI 16 xs), (mY, ia E nI 16 ys), (mF, ia E nI 16 fi), (mS, ia E nI 16 se)]) (w1 := fun _ : Unit => []) (w2 := fun _ => [(aM, o4 (nI th) (nI n) mK mX mY mF mS mL mQ mW mA mD mO mV mC mT mE mN mH mZ mP em gn lk (nI lst)), (mK, ia E nI 16 kd), (mX, ia E nI 16 xs), (mY, ia E nI 16 ys), (mF, ia E nI 16 fi), (mS, ia E nI 16 se)]) (va_runS (As := [.int xb, .int (nI 0), .int (nI 15)]) (rest := []) ⟨hx, hb, hml, hown, hts⟩ (m_in l E H.size xb (nI 0) (nI 15) ) (va_cwS 3 hts gX4_part_X4_in rfl rfl rfl (by decide +kernel) ⟨Nat.le_of_ble_eq_true rfl, Nat.le_of_ble_eq_true rfl⟩) (preS C0 hPc hDc hS) rfl rfl hl.1 rfl (lv_room (Nat.le_of_ble_eq_true rfl)) dX4_part_13 ⟨Nat.le_refl _, Nat.le_refl _⟩) C0 hP hD hS [] [0, 1, 2, 3, 4, 5] [0, 1, 2, 3, 4, 5] rfl rfl (by decide) (by decide) (fun _ => rfl) (by decide) (fun r_9 _u H locs hw hP hD hS => ?_)
    have hP : va_P E.1 vwCl [(aM, o4 (nI th) (nI n) mK mX mY mF mS mL mQ mW mA mD mO mV mC mT mE mN mH mZ mP em gn lk (nI lst)), (mK, ia E nI 16 kd), (mX, ia E nI 16 xs), (mY, ia E nI 16 ys), (mF, ia E nI 16 fi), (mS, ia E nI 16 se)] H := hP
    have hD : va_D A [(aM, o4 (nI th) (nI n) mK mX mY mF mS mL mQ mW mA mD mO mV mC mT mE mN mH mZ mP em gn lk (nI lst)), (mK, ia E nI 16 kd), (mX, ia E nI 16 xs), (mY, ia E nI 16 ys), (mF, ia E nI 16 fi), (mS, ia E nI 16 se)] := hD
    have hw : r_9 = bI ((nI 0) ≤ xb ∧ xb ≤ (nI 15)) := hw
    subst hw
    refine lv_if_eq (tgt := 51) hx hb dX4_part_16 (by decide) (fun c_21 => ?_) (fun c_21 => ?_)
    · skip
      have c_21 : ¬ ((nI 0) ≤ xb ∧ xb ≤ (nI 15)) := bI_eq0.mp c_21
      refine lv_iconst (v := nI 0) hx hb dX4_part_51 (by decide) ?_
      refine lv_ri (y := (bI (PaP xa xb xc xd xe))) (bI_f (fun h => by first | exact c_21 h.1 | exact c_21 h.2.1 | exact c_21 h.2.2.1 | exact c_21 h.2.2.2.1 | exact c_21 h.2.2.2.2)) ?_
      have hl : lv_has ls 7 [(0, .ref aM), (1, .int xa), (2, .int xb), (3, .int xc), (4, .int xd), (5, .int xe)] := lv_sub hl [0, 1, 2, 3, 4, 5] rfl
      exact JN_1   _ _ hP hD hS _ hl
    · skip
      have c_21 : (nI 0) ≤ xb ∧ xb ≤ (nI 15) := bI_ne0.mp c_21
      refine lv_iload_n hx hb dX4_part_19 rfl (lv_at hl 3 rfl) ?_
      refine lv_iconst (v := nI 0) hx hb dX4_part_20 (by decide) ?_
      refine lv_bipush (v := nI 15) hx hb dX4_part_21 (by decide) ?_
      have hPc := hP.pick (ws' := []) [] rfl
      have hDc := hD.sub (ws' := []) [] (by decide) rfl
      refine kcI (wr := [(aM, o4 (nI th) (nI n) mK mX mY mF mS mL mQ mW mA mD mO mV mC mT mE mN mH mZ mP em gn lk (nI lst)), (mK, ia E nI 16 kd), (mX, ia E nI 16 xs), (mY, ia E nI 16 ys), (mF, ia E nI 16 fi), (mS, ia E nI 16 se)]) (w1 := fun _ : Unit => []) (w2 := fun _ => [(aM, o4 (nI th) (nI n) mK mX mY mF mS mL mQ mW mA mD mO mV mC mT mE mN mH mZ mP em gn lk (nI lst)), (mK, ia E nI 16 kd), (mX, ia E nI 16 xs), (mY, ia E nI 16 ys), (mF, ia E nI 16 fi), (mS, ia E nI 16 se)]) (va_runS (As := [.int xc, .int (nI 0), .int (nI 15)]) (rest := []) ⟨hx, hb, hml, hown, hts⟩ (m_in l E H.size xc (nI 0) (nI 15) ) (va_cwS 3 hts gX4_part_X4_in rfl rfl rfl (by decide +kernel) ⟨Nat.le_of_ble_eq_true rfl, Nat.le_of_ble_eq_true rfl⟩) (preS C0 hPc hDc hS) rfl rfl hl.1 rfl (lv_room (Nat.le_of_ble_eq_true rfl)) dX4_part_23 ⟨Nat.le_refl _, Nat.le_refl _⟩) C0 hP hD hS [] [0, 1, 2, 3, 4, 5] [0, 1, 2, 3, 4, 5] rfl rfl (by decide) (by decide) (fun _ => rfl) (by decide) (fun r_9 _u H locs hw hP hD hS => ?_)
      have hP : va_P E.1 vwCl [(aM, o4 (nI th) (nI n) mK mX mY mF mS mL mQ mW mA mD mO mV mC mT mE mN mH mZ mP em gn lk (nI lst)), (mK, ia E nI 16 kd), (mX, ia E nI 16 xs), (mY, ia E nI 16 ys), (mF, ia E nI 16 fi), (mS, ia E nI 16 se)] H := hP
      have hD : va_D A [(aM, o4 (nI th) (nI n) mK mX mY mF mS mL mQ mW mA mD mO mV mC mT mE mN mH mZ mP em gn lk (nI lst)), (mK, ia E nI 16 kd), (mX, ia E nI 16 xs), (mY, ia E nI 16 ys), (mF, ia E nI 16 fi), (mS, ia E nI 16 se)] := hD
      have hw : r_9 = bI ((nI 0) ≤ xc ∧ xc ≤ (nI 15)) := hw
      subst hw
      refine lv_if_eq (tgt := 51) hx hb dX4_part_26 (by decide) (fun c_22 => ?_) (fun c_22 => ?_)
      · skip
        have c_22 : ¬ ((nI 0) ≤ xc ∧ xc ≤ (nI 15)) := bI_eq0.mp c_22
        refine lv_iconst (v := nI 0) hx hb dX4_part_51 (by decide) ?_
        refine lv_ri (y := (bI (PaP xa xb xc xd xe))) (bI_f (fun h => by first | exact c_22 h.1 | exact c_22 h.2.1 | exact c_22 h.2.2.1 | exact c_22 h.2.2.2.1 | exact c_22 h.2.2.2.2)) ?_
        have hl : lv_has ls 7 [(0, .ref aM), (1, .int xa), (2, .int xb), (3, .int xc), (4, .int xd), (5, .int xe)] := lv_sub hl [0, 1, 2, 3, 4, 5] rfl
        exact JN_1   _ _ hP hD hS _ hl
      · skip
        have c_22 : (nI 0) ≤ xc ∧ xc ≤ (nI 15) := bI_ne0.mp c_22
        refine lv_iload_n hx hb dX4_part_29 rfl (lv_at hl 1 rfl) ?_
        refine lv_ri (y := (nI (tN xa))) (tN_eq hA) ?_
        refine lv_iload hx hb dX4_part_30 (lv_at hl 4 rfl) ?_
        have hPc := hP.pick (ws' := []) [] rfl
        have hDc := hD.sub (ws' := []) [] (by decide) rfl
        refine kcI (wr := [(aM, o4 (nI th) (nI n) mK mX mY mF mS mL mQ mW mA mD mO mV mC mT mE mN mH mZ mP em gn lk (nI lst)), (mK, ia E nI 16 kd), (mX, ia E nI 16 xs), (mY, ia E nI 16 ys), (mF, ia E nI 16 fi), (mS, ia E nI 16 se)]) (w1 := fun _ : Unit => []) (w2 := fun _ => [(aM, o4 (nI th) (nI n) mK mX mY mF mS mL mQ mW mA mD mO mV mC mT mE mN mH mZ mP em gn lk (nI lst)), (mK, ia E nI 16 kd), (mX, ia E nI 16 xs), (mY, ia E nI 16 ys), (mF, ia E nI 16 fi), (mS, ia E nI 16 se)]) (va_runS (As := [.int (nI (tN xa)), .int xd]) (rest := []) ⟨hx, hb, hml, hown, hts⟩ (m_isFirst l E H.size (tN xa) xd (tN_le (by omega) hA.2)) (va_cwS 2 hts gX4_part_X4_isFirst rfl rfl rfl (by decide +kernel) ⟨Nat.le_of_ble_eq_true rfl, Nat.le_of_ble_eq_true rfl⟩) (preS C0 hPc hDc hS) rfl rfl hl.1 rfl (lv_room (Nat.le_of_ble_eq_true rfl)) dX4_part_32 ⟨Nat.le_refl _, Nat.le_refl _⟩) C0 hP hD hS [] [0, 1, 2, 3, 4, 5] [0, 1, 2, 3, 4, 5] rfl rfl (by decide) (by decide) (fun _ => rfl) (by decide) (fun r_9 _u H locs hw hP hD hS => ?_)
        have hP : va_P E.1 vwCl [(aM, o4 (nI th) (nI n) mK mX mY mF mS mL mQ mW mA mD mO mV mC mT mE mN mH mZ mP em gn lk (nI lst)), (mK, ia E nI 16 kd), (mX, ia E nI 16 xs), (mY, ia E nI 16 ys), (mF, ia E nI 16 fi), (mS, ia E nI 16 se)] H := hP
        have hD : va_D A [(aM, o4 (nI th) (nI n) mK mX mY mF mS mL mQ mW mA mD mO mV mC mT mE mN mH mZ mP em gn lk (nI lst)), (mK, ia E nI 16 kd), (mX, ia E nI 16 xs), (mY, ia E nI 16 ys), (mF, ia E nI 16 fi), (mS, ia E nI 16 se)] := hD
        have hw : r_9 = bI (nI (stV 2 (tN xa)) ≤ xd ∧ xd ≤ nI (stV 3 (tN xa))) := hw
        subst hw
        refine lv_if_eq (tgt := 51) hx hb dX4_part_35 (by decide) (fun c_23 => ?_) (fun c_23 => ?_)
        · skip
          have c_23 : ¬ (nI (stV 2 (tN xa)) ≤ xd ∧ xd ≤ nI (stV 3 (tN xa))) := bI_eq0.mp c_23
          refine lv_iconst (v := nI 0) hx hb dX4_part_51 (by decide) ?_
          refine lv_ri (y := (bI (PaP xa xb xc xd xe))) (bI_f (fun h => by first | exact c_23 h.1 | exact c_23 h.2.1 | exact c_23 h.2.2.1 | exact c_23 h.2.2.2.1 | exact c_23 h.2.2.2.2)) ?_
          have hl : lv_has ls 7 [(0, .ref aM), (1, .int xa), (2, .int xb), (3, .int xc), (4, .int xd), (5, .int xe)] := lv_sub hl [0, 1, 2, 3, 4, 5] rfl
          exact JN_1   _ _ hP hD hS _ hl
        · skip
          have c_23 : nI (stV 2 (tN xa)) ≤ xd ∧ xd ≤ nI (stV 3 (tN xa)) := bI_ne0.mp c_23
          refine lv_iload_n hx hb dX4_part_38 rfl (lv_at hl 1 rfl) ?_
          refine lv_ri (y := (nI (tN xa))) (tN_eq hA) ?_
          refine lv_iload hx hb dX4_part_39 (lv_at hl 5 rfl) ?_
          have hPc := hP.pick (ws' := []) [] rfl
          have hDc := hD.sub (ws' := []) [] (by decide) rfl
          refine kcI (wr := [(aM, o4 (nI th) (nI n) mK mX mY mF mS mL mQ mW mA mD mO mV mC mT mE mN mH mZ mP em gn lk (nI lst)), (mK, ia E nI 16 kd), (mX, ia E nI 16 xs), (mY, ia E nI 16 ys), (mF, ia E nI 16 fi), (mS, ia E nI 16 se)]) (w1 := fun _ : Unit => []) (w2 := fun _ => [(aM, o4 (nI th) (nI n) mK mX mY mF mS mL mQ mW mA mD mO mV mC mT mE mN mH mZ mP em gn lk (nI lst)), (mK, ia E nI 16 kd), (mX, ia E nI 16 xs), (mY, ia E nI 16 ys), (mF, ia E nI 16 fi), (mS, ia E nI 16 se)]) (va_runS (As := [.int (nI (tN xa)), .int xe]) (rest := []) ⟨hx, hb, hml, hown, hts⟩ (m_isSecond l E H.size (tN xa) xe (tN_le (by omega) hA.2)) (va_cwS 2 hts gX4_part_X4_isSecond rfl rfl rfl (by decide +kernel) ⟨Nat.le_of_ble_eq_true rfl, Nat.le_of_ble_eq_true rfl⟩) (preS C0 hPc hDc hS) rfl rfl hl.1 rfl (lv_room (Nat.le_of_ble_eq_true rfl)) dX4_part_41 ⟨Nat.le_refl _, Nat.le_refl _⟩) C0 hP hD hS [] [0, 1, 2, 3, 4, 5] [0, 1, 2, 3, 4, 5] rfl rfl (by decide) (by decide) (fun _ => rfl) (by decide) (fun r_9 _u H locs hw hP hD hS => ?_)
          have hP : va_P E.1 vwCl [(aM, o4 (nI th) (nI n) mK mX mY mF mS mL mQ mW mA mD mO mV mC mT mE mN mH mZ mP em gn lk (nI lst)), (mK, ia E nI 16 kd), (mX, ia E nI 16 xs), (mY, ia E nI 16 ys), (mF, ia E nI 16 fi), (mS, ia E nI 16 se)] H := hP
          have hD : va_D A [(aM, o4 (nI th) (nI n) mK mX mY mF mS mL mQ mW mA mD mO mV mC mT mE mN mH mZ mP em gn lk (nI lst)), (mK, ia E nI 16 kd), (mX, ia E nI 16 xs), (mY, ia E nI 16 ys), (mF, ia E nI 16 fi), (mS, ia E nI 16 se)] := hD
          have hw : r_9 = bI (nI 0 ≤ xe ∧ xe ≤ nI (stV 4 (tN xa))) := hw
          subst hw
          refine lv_if_eq (tgt := 51) hx hb dX4_part_44 (by decide) (fun c_24 => ?_) (fun c_24 => ?_)
          · skip
            have c_24 : ¬ (nI 0 ≤ xe ∧ xe ≤ nI (stV 4 (tN xa))) := bI_eq0.mp c_24
            refine lv_iconst (v := nI 0) hx hb dX4_part_51 (by decide) ?_
            refine lv_ri (y := (bI (PaP xa xb xc xd xe))) (bI_f (fun h => by first | exact c_24 h.1 | exact c_24 h.2.1 | exact c_24 h.2.2.1 | exact c_24 h.2.2.2.1 | exact c_24 h.2.2.2.2)) ?_
            have hl : lv_has ls 7 [(0, .ref aM), (1, .int xa), (2, .int xb), (3, .int xc), (4, .int xd), (5, .int xe)] := lv_sub hl [0, 1, 2, 3, 4, 5] rfl
            exact JN_1   _ _ hP hD hS _ hl
          · skip
            have c_24 : nI 0 ≤ xe ∧ xe ≤ nI (stV 4 (tN xa)) := bI_ne0.mp c_24
            refine lv_iconst (v := nI 1) hx hb dX4_part_47 (by decide) ?_
            refine lv_ri (y := (bI (PaP xa xb xc xd xe))) (bI_t ⟨c_20, c_21, c_22, c_23, c_24⟩) ?_
            refine lv_goto (tgt := 52) hx hb dX4_part_48 (by decide) ?_
            have hl : lv_has ls 7 [(0, .ref aM), (1, .int xa), (2, .int xb), (3, .int xc), (4, .int xd), (5, .int xe)] := lv_sub hl [0, 1, 2, 3, 4, 5] rfl
            exact JN_1   _ _ hP hD hS _ hl

def setC (n : Nat) (kd : Nat → Nat) (xp xv : Int32) : Nat := if nI 0 ≤ xp ∧ xp ≤ cL n then (if nI 0 ≤ xv ∧ xv ≤ nI (stV 4 (kd (tN xp))) then 0 else 2) else 1
theorem setC_0 {n : Nat} {kd : Nat → Nat} {xp xv : Int32} (h : setC n kd xp xv = 0) : (nI 0 ≤ xp ∧ xp ≤ cL n) ∧ (nI 0 ≤ xv ∧ xv ≤ nI (stV 4 (kd (tN xp)))) := by
  unfold setC at h
  split at h
  · split at h
    · exact ⟨by assumption, by assumption⟩
    · exact absurd h (by decide)
  · exact absurd h (by decide)
theorem setC_lt (n : Nat) (kd : Nat → Nat) (xp xv : Int32) : setC n kd xp xv < 4 := by unfold setC; split; split <;> omega; omega

set_option maxHeartbeats 4000000 in
set_option maxRecDepth 100000 in
theorem m_set (l : Launch) (E : EnvT) (sz : Nat) (xp xv : Int32) (aM mK mX mY mF mS mL mQ mW mA mD mO mV mC mT mE mN mH mZ mP : Nat) (th n lst : Nat) (em gn lk : Int64) (kd se : Nat → Nat) (hn : n ≤ 16) (hk : ∀ j, j < n → kd j ≤ 5) : MI l yX4_set wsX4_set ({ frames := 2, cells := 0, slots := 0, locals := 44 }) E sz [.ref aM, .int xp, .int xv] [(aM, o4 (nI th) (nI n) mK mX mY mF mS mL mQ mW mA mD mO mV mC mT mE mN mH mZ mP em gn lk (nI lst)), (mK, ia E nI 16 kd), (mS, ia E nI 16 se)] (fun (r : Int32) (_ : Unit) => r = nI (if setC n kd xp xv = 0 then se (tN xp) else 0)) (fun _ => [(aM, o4 (nI (setC n kd xp xv)) (nI n) mK mX mY mF mS mL mQ mW mA mD mO mV mC mT mE mN mH mZ mP em gn lk (nI lst)), (mK, ia E nI 16 kd), (mS, ia E nI 16 (if setC n kd xp xv = 0 then va_up se (tN xp) (tN xv) else se))]) := by
  refine enI (cc := cX4_set) (maxL := 4) (ret := .int) (by decide +kernel) rfl (Nat.le_of_ble_eq_true rfl) ?_
  intro p e s m below meth c A ls hx hb hr hml hts hown hlocks hAe C0 hP hD hS hl
  have hown : s.vm.findClass RX4 = some m.cls := hown
  have hl : lv_has ls 4 [(0, .ref aM), (1, .int xp), (2, .int xv)] := hl
  have iX4 : ∀ w ∈ u_ws RX4 TX4 25, w ∈ wsX4_set := by decide +kernel
  obtain ⟨H, hHe⟩ : ∃ z, z = s.heap := ⟨_, rfl⟩
  obtain ⟨locs, hLe⟩ : ∃ z : List Loc, z = [] := ⟨_, rfl⟩
  have hP : va_P E.1 vwCl [(aM, o4 (nI th) (nI n) mK mX mY mF mS mL mQ mW mA mD mO mV mC mT mE mN mH mZ mP em gn lk (nI lst)), (mK, ia E nI 16 kd), (mS, ia E nI 16 se)] H := by rw [hHe]; exact hP
  have hD : va_D A [(aM, o4 (nI th) (nI n) mK mX mY mF mS mL mQ mW mA mD mO mV mC mT mE mN mH mZ mP em gn lk (nI lst)), (mK, ia E nI 16 kd), (mS, ia E nI 16 se)] := hD
  have hS : va_S A s.heap H locs := by rw [hHe, hLe]; exact hS
  suffices hgo : W p l e _ s m _ below meth c H locs 0 0 _ (F0 m 0 ls []) by rw [hHe, hLe] at hgo; exact hgo
  clear hHe hLe
  have hcb := setC_lt n kd xp xv
  refine lv_aload_n hx hb dX4_set_0 rfl (lv_at hl 0 rfl) ?_
  have JN_1 : ∀ (H : Heap) (locs : List Loc), va_P E.1 vwCl [(aM, o4 (nI th) (nI n) mK mX mY mF mS mL mQ mW mA mD mO mV mC mT mE mN mH mZ mP em gn lk (nI lst)), (mK, ia E nI 16 kd), (mS, ia E nI 16 se)] H → va_D A [(aM, o4 (nI th) (nI n) mK mX mY mF mS mL mQ mW mA mD mO mV mC mT mE mN mH mZ mP em gn lk (nI lst)), (mK, ia E nI 16 kd), (mS, ia E nI 16 se)] → va_S A s.heap H locs → ∀ (ls : Array Slot), lv_has ls 4 [(0, .ref aM), (1, .int xp), (2, .int xv)] → W p l e ({ frames := 2, cells := 0, slots := 0, locals := 44 }) s m (([.ref aM, .int xp, .int xv] : List Value).toArray) below meth c H locs 0 0 (MQ below (va_Qi (fun (r : Int32) (_ : Unit) => r = nI (if setC n kd xp xv = 0 then se (tN xp) else 0)) (Wd E [(aM, o4 (nI th) (nI n) mK mX mY mF mS mL mQ mW mA mD mO mV mC mT mE mN mH mZ mP em gn lk (nI lst)), (mK, ia E nI 16 kd), (mS, ia E nI 16 se)] s.heap.size (fun _ => [(aM, o4 (nI (setC n kd xp xv)) (nI n) mK mX mY mF mS mL mQ mW mA mD mO mV mC mT mE mN mH mZ mP em gn lk (nI lst)), (mK, ia E nI 16 kd), (mS, ia E nI 16 (if setC n kd xp xv = 0 then va_up se (tN xp) (tN xv) else se))])) A) (([.ref aM, .int xp, .int xv] : List Value).toArray) s 0 0 A) (F0 m 31 ls [.int (nI (setC n kd xp xv)), .ref aM]) := by
    intro   H locs hP hD hS ls hl
    refine va_put (D := E.1) (ci := 4) (v := .int (nI (setC n kd xp xv))) (ty := .int) (C := RX4) (T := TX4) (N := 25) hx hb hts iX4 tyX4 tyX4_ok nmX4 hown C0.1 hP hD hS 0 rfl rfl 0 (by decide) (hts (.fieldLink RX4 72 "RingresonanceModel" "thrown" "I") (by decide +kernel)) (fun _ h9 => h9) rfl (by decide +kernel) rfl rfl (Nat.le_of_ble_eq_true rfl) dX4_set_31 (fun H locs hP hD hS => ?_)
    have hP : va_P E.1 vwCl [(aM, o4 (nI (setC n kd xp xv)) (nI n) mK mX mY mF mS mL mQ mW mA mD mO mV mC mT mE mN mH mZ mP em gn lk (nI lst)), (mK, ia E nI 16 kd), (mS, ia E nI 16 se)] H := hP
    have hD : va_D A [(aM, o4 (nI (setC n kd xp xv)) (nI n) mK mX mY mF mS mL mQ mW mA mD mO mV mC mT mE mN mH mZ mP em gn lk (nI lst)), (mK, ia E nI 16 kd), (mS, ia E nI 16 se)] := hD
    refine lv_aload_n hx hb dX4_set_34 rfl (lv_at hl 0 rfl) ?_
    refine va_get (D := E.1) (ci := 4) (v := .int (nI (setC n kd xp xv))) (C := RX4) (T := TX4) (N := 25) hx hb hts iX4 hown C0.1 hP 0 rfl rfl 0 (by decide) (hts (.fieldLink RX4 72 "RingresonanceModel" "thrown" "I") (by decide +kernel)) (fun _ h9 => h9) rfl dX4_set_35 ?_
    refine lv_if_eq (tgt := 43) hx hb dX4_set_38 (by decide) (fun c_2 => ?_) (fun c_2 => ?_)
    · skip
      have c_2 : (setC n kd xp xv) = 0 := (ci0_eq (by omega)).mp c_2
      obtain ⟨hP9, hV9⟩ := setC_0 c_2
      have htn := cL_le (by omega) hP9
      refine lv_aload_n hx hb dX4_set_43 rfl (lv_at hl 0 rfl) ?_
      refine va_get (D := E.1) (ci := 4) (v := .ref mS) (C := RX4) (T := TX4) (N := 25) hx hb hts iX4 hown C0.1 hP 0 rfl rfl 6 (by decide) (hts (.fieldLink RX4 22 "RingresonanceModel" "second" "[I") (by decide +kernel)) (fun _ h9 => h9) rfl dX4_set_44 ?_
      refine lv_iload_n hx hb dX4_set_47 rfl (lv_at hl 1 rfl) ?_
      refine lv_ri (y := (nI (tN xp))) (tN_eq hP9) ?_
      refine k_iald (e := (tN xp)) (g := nI) (n := 16) hx hb C0 hP 2 rfl (by omega) (by omega) dX4_set_48 ?_
      refine lv_istore_n (lv' := [(3, .int (nI (se (tN xp)))), (0, .ref aM), (1, .int xp), (2, .int xv)]) hx hb dX4_set_49 rfl hl (by decide) rfl (fun ls hl => ?_)
      refine lv_aload_n hx hb dX4_set_50 rfl (lv_at hl 1 rfl) ?_
      refine va_get (D := E.1) (ci := 4) (v := .ref mS) (C := RX4) (T := TX4) (N := 25) hx hb hts iX4 hown C0.1 hP 0 rfl rfl 6 (by decide) (hts (.fieldLink RX4 22 "RingresonanceModel" "second" "[I") (by decide +kernel)) (fun _ h9 => h9) rfl dX4_set_51 ?_
      refine lv_iload_n hx hb dX4_set_54 rfl (lv_at hl 2 rfl) ?_
      refine lv_ri (y := (nI (tN xp))) (tN_eq hP9) ?_
      refine lv_iload_n hx hb dX4_set_55 rfl (lv_at hl 3 rfl) ?_
      refine lv_ri (y := (nI (tN xv))) (tN_eq hV9) ?_
      refine k_iast (e := (tN xp)) (v := (tN xv)) (g := nI) (n := 16) hx hb C0 hP hD hS 2 rfl rfl (by omega) (by omega) dX4_set_56 (fun H locs hP hD hS => ?_)
      have hP : va_P E.1 vwCl [(aM, o4 (nI (setC n kd xp xv)) (nI n) mK mX mY mF mS mL mQ mW mA mD mO mV mC mT mE mN mH mZ mP em gn lk (nI lst)), (mK, ia E nI 16 kd), (mS, ia E nI 16 (va_up se (tN xp) (tN xv)))] H := hP
      have hD : va_D A [(aM, o4 (nI (setC n kd xp xv)) (nI n) mK mX mY mF mS mL mQ mW mA mD mO mV mC mT mE mN mH mZ mP em gn lk (nI lst)), (mK, ia E nI 16 kd), (mS, ia E nI 16 (va_up se (tN xp) (tN xv)))] := hD
      refine lv_iload_n hx hb dX4_set_57 rfl (lv_at hl 0 rfl) ?_
      have q_3 : (if setC n kd xp xv = 0 then va_up se (tN xp) (tN xv) else se) = (va_up se (tN xp) (tN xv)) := by simp [c_2]
      have hP : va_P E.1 vwCl [(aM, o4 (nI (setC n kd xp xv)) (nI n) mK mX mY mF mS mL mQ mW mA mD mO mV mC mT mE mN mH mZ mP em gn lk (nI lst)), (mK, ia E nI 16 kd), (mS, ia E nI 16 (if setC n kd xp xv = 0 then va_up se (tN xp) (tN xv) else se))] H := by rw [q_3]; exact hP
      have hD : va_D A [(aM, o4 (nI (setC n kd xp xv)) (nI n) mK mX mY mF mS mL mQ mW mA mD mO mV mC mT mE mN mH mZ mP em gn lk (nI lst)), (mK, ia E nI 16 kd), (mS, ia E nI 16 (if setC n kd xp xv = 0 then va_up se (tN xp) (tN xv) else se))] := by rw [q_3]; exact hD
      have q_4 : (nI (se (tN xp))) = (nI (if setC n kd xp xv = 0 then se (tN xp) else 0)) := by symm; simp [c_2]
      exact exI hx hb hr hlocks hAe hS () q_4 hP hD dX4_set_58
    · skip
      have c_2 : ¬ ((setC n kd xp xv) = 0) := fun h => c_2 ((ci0_eq (by omega)).mpr h)
      refine lv_iconst (v := nI 0) hx hb dX4_set_41 (by decide) ?_
      have q_5 : (if setC n kd xp xv = 0 then va_up se (tN xp) (tN xv) else se) = se := by simp [c_2]
      have hP : va_P E.1 vwCl [(aM, o4 (nI (setC n kd xp xv)) (nI n) mK mX mY mF mS mL mQ mW mA mD mO mV mC mT mE mN mH mZ mP em gn lk (nI lst)), (mK, ia E nI 16 kd), (mS, ia E nI 16 (if setC n kd xp xv = 0 then va_up se (tN xp) (tN xv) else se))] H := by rw [q_5]; exact hP
      have hD : va_D A [(aM, o4 (nI (setC n kd xp xv)) (nI n) mK mX mY mF mS mL mQ mW mA mD mO mV mC mT mE mN mH mZ mP em gn lk (nI lst)), (mK, ia E nI 16 kd), (mS, ia E nI 16 (if setC n kd xp xv = 0 then va_up se (tN xp) (tN xv) else se))] := by rw [q_5]; exact hD
      have q_6 : (nI 0) = (nI (if setC n kd xp xv = 0 then se (tN xp) else 0)) := by symm; simp [c_2]
      exact exI hx hb hr hlocks hAe hS () q_6 hP hD dX4_set_42
  refine lv_aload_n hx hb dX4_set_1 rfl (lv_at hl 0 rfl) ?_
  refine lv_iload_n hx hb dX4_set_2 rfl (lv_at hl 1 rfl) ?_
  have hPc := hP.pick (ws' := [(aM, o4 (nI th) (nI n) mK mX mY mF mS mL mQ mW mA mD mO mV mC mT mE mN mH mZ mP em gn lk (nI lst))]) [0] rfl
  have hDc := hD.sub (ws' := [(aM, o4 (nI th) (nI n) mK mX mY mF mS mL mQ mW mA mD mO mV mC mT mE mN mH mZ mP em gn lk (nI lst))]) [0] (by decide) rfl
  refine kcI (wr := [(mK, ia E nI 16 kd), (mS, ia E nI 16 se)]) (w1 := fun _ : Unit => [(aM, o4 (nI th) (nI n) mK mX mY mF mS mL mQ mW mA mD mO mV mC mT mE mN mH mZ mP em gn lk (nI lst))]) (w2 := fun _ => [(aM, o4 (nI th) (nI n) mK mX mY mF mS mL mQ mW mA mD mO mV mC mT mE mN mH mZ mP em gn lk (nI lst)), (mK, ia E nI 16 kd), (mS, ia E nI 16 se)]) (va_runV (As := [.int xp]) (rest := [.ref aM]) ⟨hx, hb, hml, hown, hts⟩ (m_isPart l E H.size xp aM mK mX mY mF mS mL mQ mW mA mD mO mV mC mT mE mN mH mZ mP th n lst em gn lk ) (cwV 1 hts gX4_set_X4_isPart rfl rfl rfl (by decide +kernel) ⟨Nat.le_of_ble_eq_true rfl, Nat.le_of_ble_eq_true rfl⟩) (preV C0 hPc hDc hS 0 rfl rfl) rfl rfl hl.1 rfl (lv_room (Nat.le_of_ble_eq_true rfl)) dX4_set_3 ⟨Nat.le_refl _, Nat.le_refl _⟩) C0 hP hD hS [0] [1, 2] [2, 0, 1] rfl rfl (by decide) (by decide) (fun _ => rfl) (by decide) (fun r_9 _u H locs hw hP hD hS => ?_)
  have hP : va_P E.1 vwCl [(aM, o4 (nI th) (nI n) mK mX mY mF mS mL mQ mW mA mD mO mV mC mT mE mN mH mZ mP em gn lk (nI lst)), (mK, ia E nI 16 kd), (mS, ia E nI 16 se)] H := hP
  have hD : va_D A [(aM, o4 (nI th) (nI n) mK mX mY mF mS mL mQ mW mA mD mO mV mC mT mE mN mH mZ mP em gn lk (nI lst)), (mK, ia E nI 16 kd), (mS, ia E nI 16 se)] := hD
  have hw : r_9 = bI (nI 0 ≤ xp ∧ xp ≤ cL n) := hw
  subst hw
  refine lv_if_ne (tgt := 13) hx hb dX4_set_6 (by decide) (fun c_7 => ?_) (fun c_7 => ?_)
  · skip
    have c_7 : nI 0 ≤ xp ∧ xp ≤ cL n := bI_ne0.mp c_7
    have hP9 := c_7
    have htn := cL_le (by omega) hP9
    have hkk := hk _ htn
    refine lv_aload_n hx hb dX4_set_13 rfl (lv_at hl 0 rfl) ?_
    refine va_get (D := E.1) (ci := 4) (v := .ref mK) (C := RX4) (T := TX4) (N := 25) hx hb hts iX4 hown C0.1 hP 0 rfl rfl 2 (by decide) (hts (.fieldLink RX4 7 "RingresonanceModel" "kind" "[I") (by decide +kernel)) (fun _ h9 => h9) rfl dX4_set_14 ?_
    refine lv_iload_n hx hb dX4_set_17 rfl (lv_at hl 1 rfl) ?_
    refine lv_ri (y := (nI (tN xp))) (tN_eq hP9) ?_
    refine k_iald (e := (tN xp)) (g := nI) (n := 16) hx hb C0 hP 1 rfl (by omega) (by omega) dX4_set_18 ?_
    refine lv_iload_n hx hb dX4_set_19 rfl (lv_at hl 2 rfl) ?_
    have hPc := hP.pick (ws' := []) [] rfl
    have hDc := hD.sub (ws' := []) [] (by decide) rfl
    refine kcI (wr := [(aM, o4 (nI th) (nI n) mK mX mY mF mS mL mQ mW mA mD mO mV mC mT mE mN mH mZ mP em gn lk (nI lst)), (mK, ia E nI 16 kd), (mS, ia E nI 16 se)]) (w1 := fun _ : Unit => []) (w2 := fun _ => [(aM, o4 (nI th) (nI n) mK mX mY mF mS mL mQ mW mA mD mO mV mC mT mE mN mH mZ mP em gn lk (nI lst)), (mK, ia E nI 16 kd), (mS, ia E nI 16 se)]) (va_runS (As := [.int (nI (kd (tN xp))), .int xv]) (rest := [.ref aM]) ⟨hx, hb, hml, hown, hts⟩ (m_isSecond l E H.size (kd (tN xp)) xv (by omega)) (va_cwS 2 hts gX4_set_X4_isSecond rfl rfl rfl (by decide +kernel) ⟨Nat.le_of_ble_eq_true rfl, Nat.le_of_ble_eq_true rfl⟩) (preS C0 hPc hDc hS) rfl rfl hl.1 rfl (lv_room (Nat.le_of_ble_eq_true rfl)) dX4_set_20 ⟨Nat.le_refl _, Nat.le_refl _⟩) C0 hP hD hS [] [0, 1, 2] [0, 1, 2] rfl rfl (by decide) (by decide) (fun _ => rfl) (by decide) (fun r_9 _u H locs hw hP hD hS => ?_)
    have hP : va_P E.1 vwCl [(aM, o4 (nI th) (nI n) mK mX mY mF mS mL mQ mW mA mD mO mV mC mT mE mN mH mZ mP em gn lk (nI lst)), (mK, ia E nI 16 kd), (mS, ia E nI 16 se)] H := hP
    have hD : va_D A [(aM, o4 (nI th) (nI n) mK mX mY mF mS mL mQ mW mA mD mO mV mC mT mE mN mH mZ mP em gn lk (nI lst)), (mK, ia E nI 16 kd), (mS, ia E nI 16 se)] := hD
    have hw : r_9 = bI (nI 0 ≤ xv ∧ xv ≤ nI (stV 4 (kd (tN xp)))) := hw
    subst hw
    refine lv_if_ne (tgt := 30) hx hb dX4_set_23 (by decide) (fun c_8 => ?_) (fun c_8 => ?_)
    · skip
      have c_8 : nI 0 ≤ xv ∧ xv ≤ nI (stV 4 (kd (tN xp))) := bI_ne0.mp c_8
      refine lv_iconst (v := nI 0) hx hb dX4_set_30 (by decide) ?_
      refine lv_ri (y := (nI (setC n kd xp xv))) (congrArg nI (show _ = setC n kd xp xv by unfold setC; simp [c_7, c_8])) ?_
      have hl : lv_has ls 4 [(0, .ref aM), (1, .int xp), (2, .int xv)] := lv_sub hl [0, 1, 2] rfl
      exact JN_1   _ _ hP hD hS _ hl
    · skip
      have c_8 : ¬ (nI 0 ≤ xv ∧ xv ≤ nI (stV 4 (kd (tN xp)))) := bI_eq0.mp c_8
      refine lv_iconst (v := nI 2) hx hb dX4_set_26 (by decide) ?_
      refine lv_ri (y := (nI (setC n kd xp xv))) (congrArg nI (show _ = setC n kd xp xv by unfold setC; simp [c_7, c_8])) ?_
      refine lv_goto (tgt := 31) hx hb dX4_set_27 (by decide) ?_
      have hl : lv_has ls 4 [(0, .ref aM), (1, .int xp), (2, .int xv)] := lv_sub hl [0, 1, 2] rfl
      exact JN_1   _ _ hP hD hS _ hl
  · skip
    have c_7 : ¬ (nI 0 ≤ xp ∧ xp ≤ cL n) := bI_eq0.mp c_7
    refine lv_iconst (v := nI 1) hx hb dX4_set_9 (by decide) ?_
    refine lv_ri (y := (nI (setC n kd xp xv))) (congrArg nI (show _ = setC n kd xp xv by unfold setC; simp [c_7])) ?_
    refine lv_goto (tgt := 31) hx hb dX4_set_10 (by decide) ?_
    have hl : lv_has ls 4 [(0, .ref aM), (1, .int xp), (2, .int xv)] := lv_sub hl [0, 1, 2] rfl
    exact JN_1   _ _ hP hD hS _ hl

def tkM (le : Nat → Nat) (fr t : Nat) : Nat → Nat → Nat
  | 0, c => c
  | k + 1, c => if le k = t ∧ ¬ k = fr then 2 else tkM le fr t k c
theorem tkM_s (le : Nat → Nat) (fr t k c : Nat) : tkM le fr t (k + 1) c = if le k = t ∧ ¬ k = fr then 2 else tkM le fr t k c := rfl
theorem tkM_lt (le : Nat → Nat) (fr t : Nat) : ∀ k, tkM le fr t k 0 < 4
  | 0 => by show 0 < 4; omega
  | k + 1 => by rw [tkM_s]; split; omega; exact tkM_lt le fr t k
def leaC (n : Nat) (kd le : Nat → Nat) (xp xo xq xi : Int32) : Nat := if ((nI 0 ≤ xp ∧ xp ≤ cL n) ∧ (nI 0 ≤ xo ∧ xo ≤ cL (stV 1 (kd (tN xp))))) ∧ ((nI 0 ≤ xq ∧ xq ≤ cL n) ∧ (nI 0 ≤ xi ∧ xi ≤ cL (stV 0 (kd (tN xq))))) then tkM le (2 * tN xp + tN xo) (2 * tN xq + tN xi + 1) 32 0 else 1
theorem stV1_le {k : Nat} (h : k ≤ 5) : stV 1 k ≤ 2 := by
  have : ∀ k, k < 6 → stV 1 k ≤ 2 := by decide +kernel
  exact this k (by omega)
theorem stV0_le {k : Nat} (h : k ≤ 5) : stV 0 k ≤ 2 := by
  have : ∀ k, k < 6 → stV 0 k ≤ 2 := by decide +kernel
  exact this k (by omega)
