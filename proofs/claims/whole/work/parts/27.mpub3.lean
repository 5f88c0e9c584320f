def cutC (n : Nat) (kd : Nat → Nat) (xp xo : Int32) : Nat := if ((nI 0 ≤ xp ∧ xp ≤ cL n) ∧ (nI 0 ≤ xo ∧ xo ≤ cL (stV 1 (kd (tN xp))))) then 0 else 1
theorem cutC_lt (n : Nat) (kd : Nat → Nat) (xp xo : Int32) : cutC n kd xp xo < 4 := by unfold cutC; repeat (first | omega | split)
theorem cutC_0 {n : Nat} {kd : Nat → Nat} {xp xo : Int32} (h : cutC n kd xp xo = 0) : ((nI 0 ≤ xp ∧ xp ≤ cL n) ∧ (nI 0 ≤ xo ∧ xo ≤ cL (stV 1 (kd (tN xp))))) := Decidable.byContradiction fun q => by rw [cutC, if_neg q] at h; exact absurd h (by decide)

set_option maxHeartbeats 4000000 in
set_option maxRecDepth 100000 in
theorem m_cut (l : Launch) (E : EnvT) (sz : Nat) (xp xo : Int32) (aM mK mX mY mF mS mL mQ mW mA mD mO mV mC mT mE mN mH mZ mP : Nat) (th n lst : Nat) (em gn lk : Int64) (kd le : Nat → Nat) (hn : n ≤ 16) (hk : ∀ j, j < n → kd j ≤ 5) (hL : ∀ j, j < 32 → le j ≤ 32) : MI l yX4_cut wsX4_cut ({ frames := 3, cells := 0, slots := 0, locals := 65 }) E sz [.ref aM, .int xp, .int xo] [(aM, o4 (nI th) (nI n) mK mX mY mF mS mL mQ mW mA mD mO mV mC mT mE mN mH mZ mP em gn lk (nI lst)), (mK, ia E nI 16 kd), (mL, ia E nI 32 le)] (fun (r : Int32) (_ : Unit) => r = if cutC n kd xp xo = 0 then cL (ledF (le (2 * tN xp + tN xo))) else nI 0) (fun _ => [(aM, o4 (nI (cutC n kd xp xo)) (nI n) mK mX mY mF mS mL mQ mW mA mD mO mV mC mT mE mN mH mZ mP em gn lk (nI lst)), (mK, ia E nI 16 kd), (mL, ia E nI 32 (if cutC n kd xp xo = 0 then va_up le (2 * tN xp + tN xo) 0 else le))]) := by
  refine enI (cc := cX4_cut) (maxL := 4) (ret := .int) (by decide +kernel) rfl (Nat.le_of_ble_eq_true rfl) ?_
  intro p e s m below meth c A ls hx hb hr hml hts hown hlocks hAe C0 hP hD hS hl
  have hown : s.vm.findClass RX4 = some m.cls := hown
  have hl : lv_has ls 4 [(0, .ref aM), (1, .int xp), (2, .int xo)] := hl
  have iX4 : ∀ w ∈ u_ws RX4 TX4 25, w ∈ wsX4_cut := by decide +kernel
  obtain ⟨H, hHe⟩ : ∃ z, z = s.heap := ⟨_, rfl⟩
  obtain ⟨locs, hLe⟩ : ∃ z : List Loc, z = [] := ⟨_, rfl⟩
  have hP : va_P E.1 vwCl [(aM, o4 (nI th) (nI n) mK mX mY mF mS mL mQ mW mA mD mO mV mC mT mE mN mH mZ mP em gn lk (nI lst)), (mK, ia E nI 16 kd), (mL, ia E nI 32 le)] H := by rw [hHe]; exact hP
  have hD : va_D A [(aM, o4 (nI th) (nI n) mK mX mY mF mS mL mQ mW mA mD mO mV mC mT mE mN mH mZ mP em gn lk (nI lst)), (mK, ia E nI 16 kd), (mL, ia E nI 32 le)] := hD
  have hS : va_S A s.heap H locs := by rw [hHe, hLe]; exact hS
  suffices hgo : W p l e _ s m _ below meth c H locs 0 0 _ (F0 m 0 ls []) by rw [hHe, hLe] at hgo; exact hgo
  clear hHe hLe
  have hcb := cutC_lt n kd xp xo
  refine lv_aload_n hx hb dX4_cut_0 rfl (lv_at hl 0 rfl) ?_
  have JN_1 : ∀ (H : Heap) (locs : List Loc), va_P E.1 vwCl [(aM, o4 (nI th) (nI n) mK mX mY mF mS mL mQ mW mA mD mO mV mC mT mE mN mH mZ mP em gn lk (nI lst)), (mK, ia E nI 16 kd), (mL, ia E nI 32 le)] H → va_D A [(aM, o4 (nI th) (nI n) mK mX mY mF mS mL mQ mW mA mD mO mV mC mT mE mN mH mZ mP em gn lk (nI lst)), (mK, ia E nI 16 kd), (mL, ia E nI 32 le)] → va_S A s.heap H locs → ∀ (ls : Array Slot), lv_has ls 4 [(0, .ref aM), (1, .int xp), (2, .int xo)] → W p l e ({ frames := 3, cells := 0, slots := 0, locals := 65 }) s m (([.ref aM, .int xp, .int xo] : List Value).toArray) below meth c H locs 0 0 (MQ below (va_Qi (fun (r : Int32) (_ : Unit) => r = if cutC n kd xp xo = 0 then cL (ledF (le (2 * tN xp + tN xo))) else nI 0) (Wd E [(aM, o4 (nI th) (nI n) mK mX mY mF mS mL mQ mW mA mD mO mV mC mT mE mN mH mZ mP em gn lk (nI lst)), (mK, ia E nI 16 kd), (mL, ia E nI 32 le)] s.heap.size (fun _ => [(aM, o4 (nI (cutC n kd xp xo)) (nI n) mK mX mY mF mS mL mQ mW mA mD mO mV mC mT mE mN mH mZ mP em gn lk (nI lst)), (mK, ia E nI 16 kd), (mL, ia E nI 32 (if cutC n kd xp xo = 0 then va_up le (2 * tN xp + tN xo) 0 else le))])) A) (([.ref aM, .int xp, .int xo] : List Value).toArray) s 0 0 A) (F0 m 15 ls [.int (nI (cutC n kd xp xo)), .ref aM]) := by
    intro   H locs hP hD hS ls hl
    refine va_put (D := E.1) (ci := 4) (v := .int (nI (cutC n kd xp xo))) (ty := .int) (C := RX4) (T := TX4) (N := 25) hx hb hts iX4 tyX4 tyX4_ok nmX4 hown C0.1 hP hD hS 0 rfl rfl 0 (by decide) (hts (.fieldLink RX4 72 "RingresonanceModel" "thrown" "I") (by decide +kernel)) (fun _ h9 => h9) rfl (by decide +kernel) rfl rfl (Nat.le_of_ble_eq_true rfl) dX4_cut_15 (fun H locs hP hD hS => ?_)
    have hP : va_P E.1 vwCl [(aM, o4 (nI (cutC n kd xp xo)) (nI n) mK mX mY mF mS mL mQ mW mA mD mO mV mC mT mE mN mH mZ mP em gn lk (nI lst)), (mK, ia E nI 16 kd), (mL, ia E nI 32 le)] H := hP
    have hD : va_D A [(aM, o4 (nI (cutC n kd xp xo)) (nI n) mK mX mY mF mS mL mQ mW mA mD mO mV mC mT mE mN mH mZ mP em gn lk (nI lst)), (mK, ia E nI 16 kd), (mL, ia E nI 32 le)] := hD
    refine lv_aload_n hx hb dX4_cut_18 rfl (lv_at hl 0 rfl) ?_
    refine va_get (D := E.1) (ci := 4) (v := .int (nI (cutC n kd xp xo))) (C := RX4) (T := TX4) (N := 25) hx hb hts iX4 hown C0.1 hP 0 rfl rfl 0 (by decide) (hts (.fieldLink RX4 72 "RingresonanceModel" "thrown" "I") (by decide +kernel)) (fun _ h9 => h9) rfl dX4_cut_19 ?_
    refine lv_if_eq (tgt := 27) hx hb dX4_cut_22 (by decide) (fun c_2 => ?_) (fun c_2 => ?_)
    · skip
      have c_2 : (cutC n kd xp xo) = 0 := (ci0_eq (by omega)).mp c_2
      obtain ⟨hP9, hO⟩ := cutC_0 c_2
      have htp := cL_le (by omega) hP9
      have hkp := stV1_le (hk _ htp)
      have hto := cL_le (by omega) hO
      refine lv_aload_n hx hb dX4_cut_27 rfl (lv_at hl 0 rfl) ?_
      refine lv_iload_n hx hb dX4_cut_28 rfl (lv_at hl 1 rfl) ?_
      refine lv_ri (y := (nI (tN xp))) (tN_eq hP9) ?_
      refine lv_iload_n hx hb dX4_cut_29 rfl (lv_at hl 2 rfl) ?_
      refine lv_ri (y := (nI (tN xo))) (tN_eq hO) ?_
      have hPc := hP.pick (ws' := [(aM, o4 (nI (cutC n kd xp xo)) (nI n) mK mX mY mF mS mL mQ mW mA mD mO mV mC mT mE mN mH mZ mP em gn lk (nI lst)), (mL, ia E nI 32 le)]) [0, 2] rfl
      have hDc := hD.sub (ws' := [(aM, o4 (nI (cutC n kd xp xo)) (nI n) mK mX mY mF mS mL mQ mW mA mD mO mV mC mT mE mN mH mZ mP em gn lk (nI lst)), (mL, ia E nI 32 le)]) [0, 2] (by decide) rfl
      refine kcI (wr := [(mK, ia E nI 16 kd)]) (w1 := fun _ : Unit => [(aM, o4 (nI (cutC n kd xp xo)) (nI n) mK mX mY mF mS mL mQ mW mA mD mO mV mC mT mE mN mH mZ mP em gn lk (nI lst)), (mL, ia E nI 32 le)]) (w2 := fun _ => [(aM, o4 (nI (cutC n kd xp xo)) (nI n) mK mX mY mF mS mL mQ mW mA mD mO mV mC mT mE mN mH mZ mP em gn lk (nI lst)), (mK, ia E nI 16 kd), (mL, ia E nI 32 le)]) (va_runV (As := [.int (nI (tN xp)), .int (nI (tN xo))]) (rest := []) ⟨hx, hb, hml, hown, hts⟩ (m_led l E H.size (tN xp) (tN xo) aM mK mX mY mF mS mL mQ mW mA mD mO mV mC mT mE mN mH mZ mP (cutC n kd xp xo) n lst em gn lk le (by omega) (by omega) (hL _ (by omega))) (cwV 2 hts gX4_cut_X4_led rfl rfl rfl (by decide +kernel) ⟨Nat.le_of_ble_eq_true rfl, Nat.le_of_ble_eq_true rfl⟩) (preV C0 hPc hDc hS 0 rfl rfl) rfl rfl hl.1 rfl (lv_room (Nat.le_of_ble_eq_true rfl)) dX4_cut_30 ⟨Nat.le_refl _, Nat.le_refl _⟩) C0 hP hD hS [0, 2] [1] [1, 0, 2] rfl rfl (by decide) (by decide) (fun _ => rfl) (by decide) (fun r_9 _u H locs hw hP hD hS => ?_)
      have hP : va_P E.1 vwCl [(aM, o4 (nI (cutC n kd xp xo)) (nI n) mK mX mY mF mS mL mQ mW mA mD mO mV mC mT mE mN mH mZ mP em gn lk (nI lst)), (mK, ia E nI 16 kd), (mL, ia E nI 32 le)] H := hP
      have hD : va_D A [(aM, o4 (nI (cutC n kd xp xo)) (nI n) mK mX mY mF mS mL mQ mW mA mD mO mV mC mT mE mN mH mZ mP em gn lk (nI lst)), (mK, ia E nI 16 kd), (mL, ia E nI 32 le)] := hD
      have hw : r_9 = cL (ledF (le (2 * (tN xp) + (tN xo)))) := hw
      subst hw
      refine lv_istore_n (lv' := [(3, .int (cL (ledF (le (2 * (tN xp) + (tN xo)))))), (0, .ref aM), (1, .int xp), (2, .int xo)]) hx hb dX4_cut_33 rfl hl (by decide) rfl (fun ls hl => ?_)
      refine lv_aload_n hx hb dX4_cut_34 rfl (lv_at hl 1 rfl) ?_
      refine va_get (D := E.1) (ci := 4) (v := .ref mL) (C := RX4) (T := TX4) (N := 25) hx hb hts iX4 hown C0.1 hP 0 rfl rfl 7 (by decide) (hts (.fieldLink RX4 25 "RingresonanceModel" "leads" "[I") (by decide +kernel)) (fun _ h9 => h9) rfl dX4_cut_35 ?_
      refine lv_iconst (v := nI 2) hx hb dX4_cut_38 (by decide) ?_
      refine lv_iload_n hx hb dX4_cut_39 rfl (lv_at hl 2 rfl) ?_
      refine lv_ri (y := (nI (tN xp))) (tN_eq hP9) ?_
      refine lv_imul hx hb dX4_cut_40 ?_
      refine lv_ri (y := (nI (2 * (tN xp)))) (pk_mul 2 (tN xp)) ?_
      refine lv_iload_n hx hb dX4_cut_41 rfl (lv_at hl 3 rfl) ?_
      refine lv_ri (y := (nI (tN xo))) (tN_eq hO) ?_
      refine lv_iadd hx hb dX4_cut_42 ?_
      refine lv_ri (y := (nI ((2 * (tN xp)) + (tN xo)))) (nI_add (2 * (tN xp)) (tN xo)) ?_
      refine lv_iconst (v := nI 0) hx hb dX4_cut_43 (by decide) ?_
      refine k_iast (e := ((2 * (tN xp)) + (tN xo))) (v := 0) (g := nI) (n := 32) hx hb C0 hP hD hS 2 rfl rfl (by omega) (by omega) dX4_cut_44 (fun H locs hP hD hS => ?_)
      have hP : va_P E.1 vwCl [(aM, o4 (nI (cutC n kd xp xo)) (nI n) mK mX mY mF mS mL mQ mW mA mD mO mV mC mT mE mN mH mZ mP em gn lk (nI lst)), (mK, ia E nI 16 kd), (mL, ia E nI 32 (va_up le ((2 * (tN xp)) + (tN xo)) 0))] H := hP
      have hD : va_D A [(aM, o4 (nI (cutC n kd xp xo)) (nI n) mK mX mY mF mS mL mQ mW mA mD mO mV mC mT mE mN mH mZ mP em gn lk (nI lst)), (mK, ia E nI 16 kd), (mL, ia E nI 32 (va_up le ((2 * (tN xp)) + (tN xo)) 0))] := hD
      refine lv_iload_n hx hb dX4_cut_45 rfl (lv_at hl 0 rfl) ?_
      have q_3 : (if cutC n kd xp xo = 0 then va_up le (2 * tN xp + tN xo) 0 else le) = (va_up le ((2 * (tN xp)) + (tN xo)) 0) := by rw [if_pos c_2]
      have hP : va_P E.1 vwCl [(aM, o4 (nI (cutC n kd xp xo)) (nI n) mK mX mY mF mS mL mQ mW mA mD mO mV mC mT mE mN mH mZ mP em gn lk (nI lst)), (mK, ia E nI 16 kd), (mL, ia E nI 32 (if cutC n kd xp xo = 0 then va_up le (2 * tN xp + tN xo) 0 else le))] H := by rw [q_3]; exact hP
      have hD : va_D A [(aM, o4 (nI (cutC n kd xp xo)) (nI n) mK mX mY mF mS mL mQ mW mA mD mO mV mC mT mE mN mH mZ mP em gn lk (nI lst)), (mK, ia E nI 16 kd), (mL, ia E nI 32 (if cutC n kd xp xo = 0 then va_up le (2 * tN xp + tN xo) 0 else le))] := by rw [q_3]; exact hD
      have q_4 : (cL (ledF (le (2 * (tN xp) + (tN xo))))) = (if cutC n kd xp xo = 0 then cL (ledF (le (2 * tN xp + tN xo))) else nI 0) := by symm; rw [if_pos c_2]
      exact exI hx hb hr hlocks hAe hS () q_4 hP hD dX4_cut_46
    · skip
      have c_2 : ¬ ((cutC n kd xp xo) = 0) := fun h => c_2 ((ci0_eq (by omega)).mpr h)
      refine lv_iconst (v := nI 0) hx hb dX4_cut_25 (by decide) ?_
      have q_5 : (if cutC n kd xp xo = 0 then va_up le (2 * tN xp + tN xo) 0 else le) = le := by rw [if_neg c_2]
      have hP : va_P E.1 vwCl [(aM, o4 (nI (cutC n kd xp xo)) (nI n) mK mX mY mF mS mL mQ mW mA mD mO mV mC mT mE mN mH mZ mP em gn lk (nI lst)), (mK, ia E nI 16 kd), (mL, ia E nI 32 (if cutC n kd xp xo = 0 then va_up le (2 * tN xp + tN xo) 0 else le))] H := by rw [q_5]; exact hP
      have hD : va_D A [(aM, o4 (nI (cutC n kd xp xo)) (nI n) mK mX mY mF mS mL mQ mW mA mD mO mV mC mT mE mN mH mZ mP em gn lk (nI lst)), (mK, ia E nI 16 kd), (mL, ia E nI 32 (if cutC n kd xp xo = 0 then va_up le (2 * tN xp + tN xo) 0 else le))] := by rw [q_5]; exact hD
      have q_6 : (nI 0) = (if cutC n kd xp xo = 0 then cL (ledF (le (2 * tN xp + tN xo))) else nI 0) := by symm; rw [if_neg c_2]
      exact exI hx hb hr hlocks hAe hS () q_6 hP hD dX4_cut_26
  refine lv_aload_n hx hb dX4_cut_1 rfl (lv_at hl 0 rfl) ?_
  refine lv_iload_n hx hb dX4_cut_2 rfl (lv_at hl 1 rfl) ?_
  refine lv_iload_n hx hb dX4_cut_3 rfl (lv_at hl 2 rfl) ?_
  have hPc := hP.pick (ws' := [(aM, o4 (nI th) (nI n) mK mX mY mF mS mL mQ mW mA mD mO mV mC mT mE mN mH mZ mP em gn lk (nI lst)), (mK, ia E nI 16 kd)]) [0, 1] rfl
  have hDc := hD.sub (ws' := [(aM, o4 (nI th) (nI n) mK mX mY mF mS mL mQ mW mA mD mO mV mC mT mE mN mH mZ mP em gn lk (nI lst)), (mK, ia E nI 16 kd)]) [0, 1] (by decide) rfl
  refine kcI (wr := [(mL, ia E nI 32 le)]) (w1 := fun _ : Unit => [(aM, o4 (nI th) (nI n) mK mX mY mF mS mL mQ mW mA mD mO mV mC mT mE mN mH mZ mP em gn lk (nI lst)), (mK, ia E nI 16 kd)]) (w2 := fun _ => [(aM, o4 (nI th) (nI n) mK mX mY mF mS mL mQ mW mA mD mO mV mC mT mE mN mH mZ mP em gn lk (nI lst)), (mK, ia E nI 16 kd), (mL, ia E nI 32 le)]) (va_runV (As := [.int xp, .int xo]) (rest := [.ref aM]) ⟨hx, hb, hml, hown, hts⟩ (m_isOutput l E H.size xp xo aM mK mX mY mF mS mL mQ mW mA mD mO mV mC mT mE mN mH mZ mP th n lst em gn lk kd (hn) (hk)) (cwV 2 hts gX4_cut_X4_isOutput rfl rfl rfl (by decide +kernel) ⟨Nat.le_of_ble_eq_true rfl, Nat.le_of_ble_eq_true rfl⟩) (preV C0 hPc hDc hS 0 rfl rfl) rfl rfl hl.1 rfl (lv_room (Nat.le_of_ble_eq_true rfl)) dX4_cut_4 ⟨Nat.le_refl _, Nat.le_refl _⟩) C0 hP hD hS [0, 1] [2] [1, 2, 0] rfl rfl (by decide) (by decide) (fun _ => rfl) (by decide) (fun r_9 _u H locs hw hP hD hS => ?_)
  have hP : va_P E.1 vwCl [(aM, o4 (nI th) (nI n) mK mX mY mF mS mL mQ mW mA mD mO mV mC mT mE mN mH mZ mP em gn lk (nI lst)), (mK, ia E nI 16 kd), (mL, ia E nI 32 le)] H := hP
  have hD : va_D A [(aM, o4 (nI th) (nI n) mK mX mY mF mS mL mQ mW mA mD mO mV mC mT mE mN mH mZ mP em gn lk (nI lst)), (mK, ia E nI 16 kd), (mL, ia E nI 32 le)] := hD
  have hw : r_9 = bI ((nI 0 ≤ xp ∧ xp ≤ cL n) ∧ (nI 0 ≤ xo ∧ xo ≤ cL (stV 1 (kd (tN xp))))) := hw
  subst hw
  refine lv_if_eq (tgt := 14) hx hb dX4_cut_7 (by decide) (fun c_7 => ?_) (fun c_7 => ?_)
  · skip
    have c_7 : ¬ ((nI 0 ≤ xp ∧ xp ≤ cL n) ∧ (nI 0 ≤ xo ∧ xo ≤ cL (stV 1 (kd (tN xp))))) := bI_eq0.mp c_7
    refine lv_iconst (v := nI 1) hx hb dX4_cut_14 (by decide) ?_
    refine lv_ri (y := (nI (cutC n kd xp xo))) (congrArg nI (show _ = cutC n kd xp xo by unfold cutC; simp [c_7])) ?_
    have hl : lv_has ls 4 [(0, .ref aM), (1, .int xp), (2, .int xo)] := lv_sub hl [0, 1, 2] rfl
    exact JN_1   _ _ hP hD hS _ hl
  · skip
    have c_7 : (nI 0 ≤ xp ∧ xp ≤ cL n) ∧ (nI 0 ≤ xo ∧ xo ≤ cL (stV 1 (kd (tN xp)))) := bI_ne0.mp c_7
    refine lv_iconst (v := nI 0) hx hb dX4_cut_10 (by decide) ?_
    refine lv_ri (y := (nI (cutC n kd xp xo))) (congrArg nI (show _ = cutC n kd xp xo by unfold cutC; simp [c_7])) ?_
    refine lv_goto (tgt := 15) hx hb dX4_cut_11 (by decide) ?_
    have hl : lv_has ls 4 [(0, .ref aM), (1, .int xp), (2, .int xo)] := lv_sub hl [0, 1, 2] rfl
    exact JN_1   _ _ hP hD hS _ hl

def tC (x : Int32) : Nat := (x.toInt + 1).toNat
theorem tC_eq {x y : Int32} (h : -1 ≤ x ∧ x ≤ y) : x = cL (tC x) := by
  have h2 := Int32.le_iff_toInt_le.mp h.1
  have h3 : (-1 : Int32).toInt = -1 := by decide
  have h4 := Int32.toInt_lt x
  rw [h3] at h2
  by_cases h5 : tC x = 0
  · have h6 : x.toInt = -1 := by
      have : (x.toInt + 1).toNat = 0 := h5
      omega
    rw [h5]
    apply Int32.toInt_inj.mp
    rw [h6]
    decide
  · rw [cL_pos h5]
    apply Int32.toInt_inj.mp
    have h6 : ((tC x : Nat) : Int) = x.toInt + 1 := Int.toNat_of_nonneg (by omega)
    rw [nI_toInt (by omega)]
    omega
theorem tC_le {x : Int32} {b : Nat} (hb : b < 2 ^ 31) (h : x ≤ nI b) : tC x ≤ b + 1 := by
  have h1 := nI_toInt (n := b) hb
  have h2 := Int32.le_iff_toInt_le.mp h
  show (x.toInt + 1).toNat ≤ _
  omega
def locC (n : Nat) (kd : Nat → Nat) (xp xc : Int32) : Nat := if (nI 0 ≤ xp ∧ xp ≤ cL n) then (if (-1 ≤ xc ∧ xc ≤ nI 7) then (if kd (tN xp) = 3 then 0 else 3) else 2) else 1
theorem locC_lt (n : Nat) (kd : Nat → Nat) (xp xc : Int32) : locC n kd xp xc < 4 := by unfold locC; repeat (first | omega | split)
theorem locC_0 {n : Nat} {kd : Nat → Nat} {xp xc : Int32} (h : locC n kd xp xc = 0) : (nI 0 ≤ xp ∧ xp ≤ cL n) ∧ (-1 ≤ xc ∧ xc ≤ nI 7) ∧ kd (tN xp) = 3 := by
  unfold locC at h
  split at h
  · split at h
    · split at h
      · exact ⟨by assumption, by assumption, by assumption⟩
      · exact absurd h (by decide)
    · exact absurd h (by decide)
  · exact absurd h (by decide)

set_option maxHeartbeats 4000000 in
set_option maxRecDepth 100000 in
theorem m_lock (l : Launch) (E : EnvT) (sz : Nat) (xp xc : Int32) (aM mK mX mY mF mS mL mQ mW mA mD mO mV mC mT mE mN mH mZ mP : Nat) (th n lst : Nat) (em gn lk : Int64) (kd chn dir dkt : Nat → Nat) (bef : Nat → Int64) (hn : n ≤ 16) (hk : ∀ j, j < n → kd j ≤ 5) : MI l yX4_lock wsX4_lock ({ frames := 2, cells := 0, slots := 0, locals := 43 }) E sz [.ref aM, .int xp, .int xc] [(aM, o4 (nI th) (nI n) mK mX mY mF mS mL mQ mW mA mD mO mV mC mT mE mN mH mZ mP em gn lk (nI lst)), (mK, ia E nI 16 kd), (mQ, ia E cL 16 chn), (mW, ia E cD 16 dir), (mA, ja E 16 bef), (mD, ia E nI 16 dkt)] (fun (r : Int32) (_ : Unit) => r = if locC n kd xp xc = 0 then cL (chn (tN xp)) else nI 0) (fun _ => [(aM, o4 (nI (locC n kd xp xc)) (nI n) mK mX mY mF mS mL mQ mW mA mD mO mV mC mT mE mN mH mZ mP em gn lk (nI lst)), (mK, ia E nI 16 kd), (mQ, ia E cL 16 (if locC n kd xp xc = 0 then va_up chn (tN xp) (tC xc) else chn)), (mW, ia E cD 16 (if locC n kd xp xc = 0 then va_up dir (tN xp) 1 else dir)), (mA, ja E 16 (if locC n kd xp xc = 0 then va_up bef (tN xp) 0 else bef)), (mD, ia E nI 16 (if locC n kd xp xc = 0 then va_up dkt (tN xp) 0 else dkt))]) := by
  refine enI (cc := cX4_lock) (maxL := 4) (ret := .int) (by decide +kernel) rfl (Nat.le_of_ble_eq_true rfl) ?_
  intro p e s m below meth c A ls hx hb hr hml hts hown hlocks hAe C0 hP hD hS hl
  have hown : s.vm.findClass RX4 = some m.cls := hown
  have hl : lv_has ls 4 [(0, .ref aM), (1, .int xp), (2, .int xc)] := hl
  have iX4 : ∀ w ∈ u_ws RX4 TX4 25, w ∈ wsX4_lock := by decide +kernel
  obtain ⟨H, hHe⟩ : ∃ z, z = s.heap := ⟨_, rfl⟩
  obtain ⟨locs, hLe⟩ : ∃ z : List Loc, z = [] := ⟨_, rfl⟩
  have hP : va_P E.1 vwCl [(aM, o4 (nI th) (nI n) mK mX mY mF mS mL mQ mW mA mD mO mV mC mT mE mN mH mZ mP em gn lk (nI lst)), (mK, ia E nI 16 kd), (mQ, ia E cL 16 chn), (mW, ia E cD 16 dir), (mA, ja E 16 bef), (mD, ia E nI 16 dkt)] H := by rw [hHe]; exact hP
  have hD : va_D A [(aM, o4 (nI th) (nI n) mK mX mY mF mS mL mQ mW mA mD mO mV mC mT mE mN mH mZ mP em gn lk (nI lst)), (mK, ia E nI 16 kd), (mQ, ia E cL 16 chn), (mW, ia E cD 16 dir), (mA, ja E 16 bef), (mD, ia E nI 16 dkt)] := hD
  have hS : va_S A s.heap H locs := by rw [hHe, hLe]; exact hS
  suffices hgo : W p l e _ s m _ below meth c H locs 0 0 _ (F0 m 0 ls []) by rw [hHe, hLe] at hgo; exact hgo
  clear hHe hLe
  have hcb := locC_lt n kd xp xc
  refine lv_aload_n hx hb dX4_lock_0 rfl (lv_at hl 0 rfl) ?_
  have JN_1 : ∀ (H : Heap) (locs : List Loc), va_P E.1 vwCl [(aM, o4 (nI th) (nI n) mK mX mY mF mS mL mQ mW mA mD mO mV mC mT mE mN mH mZ mP em gn lk (nI lst)), (mK, ia E nI 16 kd), (mQ, ia E cL 16 chn), (mW, ia E cD 16 dir), (mA, ja E 16 bef), (mD, ia E nI 16 dkt)] H → va_D A [(aM, o4 (nI th) (nI n) mK mX mY mF mS mL mQ mW mA mD mO mV mC mT mE mN mH mZ mP em gn lk (nI lst)), (mK, ia E nI 16 kd), (mQ, ia E cL 16 chn), (mW, ia E cD 16 dir), (mA, ja E 16 bef), (mD, ia E nI 16 dkt)] → va_S A s.heap H locs → ∀ (ls : Array Slot), lv_has ls 4 [(0, .ref aM), (1, .int xp), (2, .int xc)] → W p l e ({ frames := 2, cells := 0, slots := 0, locals := 43 }) s m (([.ref aM, .int xp, .int xc] : List Value).toArray) below meth c H locs 0 0 (MQ below (va_Qi (fun (r : Int32) (_ : Unit) => r = if locC n kd xp xc = 0 then cL (chn (tN xp)) else nI 0) (Wd E [(aM, o4 (nI th) (nI n) mK mX mY mF mS mL mQ mW mA mD mO mV mC mT mE mN mH mZ mP em gn lk (nI lst)), (mK, ia E nI 16 kd), (mQ, ia E cL 16 chn), (mW, ia E cD 16 dir), (mA, ja E 16 bef), (mD, ia E nI 16 dkt)] s.heap.size (fun _ => [(aM, o4 (nI (locC n kd xp xc)) (nI n) mK mX mY mF mS mL mQ mW mA mD mO mV mC mT mE mN mH mZ mP em gn lk (nI lst)), (mK, ia E nI 16 kd), (mQ, ia E cL 16 (if locC n kd xp xc = 0 then va_up chn (tN xp) (tC xc) else chn)), (mW, ia E cD 16 (if locC n kd xp xc = 0 then va_up dir (tN xp) 1 else dir)), (mA, ja E 16 (if locC n kd xp xc = 0 then va_up bef (tN xp) 0 else bef)), (mD, ia E nI 16 (if locC n kd xp xc = 0 then va_up dkt (tN xp) 0 else dkt))])) A) (([.ref aM, .int xp, .int xc] : List Value).toArray) s 0 0 A) (F0 m 42 ls [.int (nI (locC n kd xp xc)), .ref aM]) := by
    intro   H locs hP hD hS ls hl
    refine va_put (D := E.1) (ci := 4) (v := .int (nI (locC n kd xp xc))) (ty := .int) (C := RX4) (T := TX4) (N := 25) hx hb hts iX4 tyX4 tyX4_ok nmX4 hown C0.1 hP hD hS 0 rfl rfl 0 (by decide) (hts (.fieldLink RX4 72 "RingresonanceModel" "thrown" "I") (by decide +kernel)) (fun _ h9 => h9) rfl (by decide +kernel) rfl rfl (Nat.le_of_ble_eq_true rfl) dX4_lock_42 (fun H locs hP hD hS => ?_)
    have hP : va_P E.1 vwCl [(aM, o4 (nI (locC n kd xp xc)) (nI n) mK mX mY mF mS mL mQ mW mA mD mO mV mC mT mE mN mH mZ mP em gn lk (nI lst)), (mK, ia E nI 16 kd), (mQ, ia E cL 16 chn), (mW, ia E cD 16 dir), (mA, ja E 16 bef), (mD, ia E nI 16 dkt)] H := hP
    have hD : va_D A [(aM, o4 (nI (locC n kd xp xc)) (nI n) mK mX mY mF mS mL mQ mW mA mD mO mV mC mT mE mN mH mZ mP em gn lk (nI lst)), (mK, ia E nI 16 kd), (mQ, ia E cL 16 chn), (mW, ia E cD 16 dir), (mA, ja E 16 bef), (mD, ia E nI 16 dkt)] := hD
    refine lv_aload_n hx hb dX4_lock_45 rfl (lv_at hl 0 rfl) ?_
    refine va_get (D := E.1) (ci := 4) (v := .int (nI (locC n kd xp xc))) (C := RX4) (T := TX4) (N := 25) hx hb hts iX4 hown C0.1 hP 0 rfl rfl 0 (by decide) (hts (.fieldLink RX4 72 "RingresonanceModel" "thrown" "I") (by decide +kernel)) (fun _ h9 => h9) rfl dX4_lock_46 ?_
    refine lv_if_eq (tgt := 54) hx hb dX4_lock_49 (by decide) (fun c_2 => ?_) (fun c_2 => ?_)
    · skip
      have c_2 : (locC n kd xp xc) = 0 := (ci0_eq (by omega)).mp c_2
      obtain ⟨hP9, hC9, hk3⟩ := locC_0 c_2
      have htn := cL_le (by omega) hP9
      refine lv_aload_n hx hb dX4_lock_54 rfl (lv_at hl 0 rfl) ?_
      refine va_get (D := E.1) (ci := 4) (v := .ref mQ) (C := RX4) (T := TX4) (N := 25) hx hb hts iX4 hown C0.1 hP 0 rfl rfl 8 (by decide) (hts (.fieldLink RX4 28 "RingresonanceModel" "locked" "[I") (by decide +kernel)) (fun _ h9 => h9) rfl dX4_lock_55 ?_
      refine lv_iload_n hx hb dX4_lock_58 rfl (lv_at hl 1 rfl) ?_
      refine lv_ri (y := (nI (tN xp))) (tN_eq hP9) ?_
      refine k_iald (e := (tN xp)) (g := cL) (n := 16) hx hb C0 hP 2 rfl (by omega) (by omega) dX4_lock_59 ?_
      refine lv_istore_n (lv' := [(3, .int (cL (chn (tN xp)))), (0, .ref aM), (1, .int xp), (2, .int xc)]) hx hb dX4_lock_60 rfl hl (by decide) rfl (fun ls hl => ?_)
      refine lv_aload_n hx hb dX4_lock_61 rfl (lv_at hl 1 rfl) ?_
      refine va_get (D := E.1) (ci := 4) (v := .ref mQ) (C := RX4) (T := TX4) (N := 25) hx hb hts iX4 hown C0.1 hP 0 rfl rfl 8 (by decide) (hts (.fieldLink RX4 28 "RingresonanceModel" "locked" "[I") (by decide +kernel)) (fun _ h9 => h9) rfl dX4_lock_62 ?_
      refine lv_iload_n hx hb dX4_lock_65 rfl (lv_at hl 2 rfl) ?_
      refine lv_ri (y := (nI (tN xp))) (tN_eq hP9) ?_
      refine lv_iload_n hx hb dX4_lock_66 rfl (lv_at hl 3 rfl) ?_
      refine lv_ri (y := (cL (tC xc))) (tC_eq hC9) ?_
      refine k_iast (e := (tN xp)) (v := (tC xc)) (g := cL) (n := 16) hx hb C0 hP hD hS 2 rfl rfl (by omega) (by omega) dX4_lock_67 (fun H locs hP hD hS => ?_)
      have hP : va_P E.1 vwCl [(aM, o4 (nI (locC n kd xp xc)) (nI n) mK mX mY mF mS mL mQ mW mA mD mO mV mC mT mE mN mH mZ mP em gn lk (nI lst)), (mK, ia E nI 16 kd), (mQ, ia E cL 16 (va_up chn (tN xp) (tC xc))), (mW, ia E cD 16 dir), (mA, ja E 16 bef), (mD, ia E nI 16 dkt)] H := hP
      have hD : va_D A [(aM, o4 (nI (locC n kd xp xc)) (nI n) mK mX mY mF mS mL mQ mW mA mD mO mV mC mT mE mN mH mZ mP em gn lk (nI lst)), (mK, ia E nI 16 kd), (mQ, ia E cL 16 (va_up chn (tN xp) (tC xc))), (mW, ia E cD 16 dir), (mA, ja E 16 bef), (mD, ia E nI 16 dkt)] := hD
      refine lv_aload_n hx hb dX4_lock_68 rfl (lv_at hl 1 rfl) ?_
      refine va_get (D := E.1) (ci := 4) (v := .ref mW) (C := RX4) (T := TX4) (N := 25) hx hb hts iX4 hown C0.1 hP 0 rfl rfl 9 (by decide) (hts (.fieldLink RX4 31 "RingresonanceModel" "way" "[I") (by decide +kernel)) (fun _ h9 => h9) rfl dX4_lock_69 ?_
      refine lv_iload_n hx hb dX4_lock_72 rfl (lv_at hl 2 rfl) ?_
      refine lv_ri (y := (nI (tN xp))) (tN_eq hP9) ?_
      refine lv_iconst (v := nI 1) hx hb dX4_lock_73 (by decide) ?_
      refine k_iast (e := (tN xp)) (v := 1) (g := cD) (n := 16) hx hb C0 hP hD hS 3 rfl (by decide) (by omega) (by omega) dX4_lock_74 (fun H locs hP hD hS => ?_)
      have hP : va_P E.1 vwCl [(aM, o4 (nI (locC n kd xp xc)) (nI n) mK mX mY mF mS mL mQ mW mA mD mO mV mC mT mE mN mH mZ mP em gn lk (nI lst)), (mK, ia E nI 16 kd), (mQ, ia E cL 16 (va_up chn (tN xp) (tC xc))), (mW, ia E cD 16 (va_up dir (tN xp) 1)), (mA, ja E 16 bef), (mD, ia E nI 16 dkt)] H := hP
      have hD : va_D A [(aM, o4 (nI (locC n kd xp xc)) (nI n) mK mX mY mF mS mL mQ mW mA mD mO mV mC mT mE mN mH mZ mP em gn lk (nI lst)), (mK, ia E nI 16 kd), (mQ, ia E cL 16 (va_up chn (tN xp) (tC xc))), (mW, ia E cD 16 (va_up dir (tN xp) 1)), (mA, ja E 16 bef), (mD, ia E nI 16 dkt)] := hD
      refine lv_aload_n hx hb dX4_lock_75 rfl (lv_at hl 1 rfl) ?_
      refine va_get (D := E.1) (ci := 4) (v := .ref mA) (C := RX4) (T := TX4) (N := 25) hx hb hts iX4 hown C0.1 hP 0 rfl rfl 10 (by decide) (hts (.fieldLink RX4 34 "RingresonanceModel" "ahead" "[J") (by decide +kernel)) (fun _ h9 => h9) rfl dX4_lock_76 ?_
      refine lv_iload_n hx hb dX4_lock_79 rfl (lv_at hl 2 rfl) ?_
      refine lv_ri (y := (nI (tN xp))) (tN_eq hP9) ?_
      refine lv_lconst (v := 0) hx hb dX4_lock_80 (by decide) ?_
      refine k_last (e := (tN xp)) (n := 16) hx hb C0 hP hD hS 4 rfl (by omega) (by omega) dX4_lock_81 (fun H locs hP hD hS => ?_)
      have hP : va_P E.1 vwCl [(aM, o4 (nI (locC n kd xp xc)) (nI n) mK mX mY mF mS mL mQ mW mA mD mO mV mC mT mE mN mH mZ mP em gn lk (nI lst)), (mK, ia E nI 16 kd), (mQ, ia E cL 16 (va_up chn (tN xp) (tC xc))), (mW, ia E cD 16 (va_up dir (tN xp) 1)), (mA, ja E 16 (va_up bef (tN xp) 0)), (mD, ia E nI 16 dkt)] H := hP
      have hD : va_D A [(aM, o4 (nI (locC n kd xp xc)) (nI n) mK mX mY mF mS mL mQ mW mA mD mO mV mC mT mE mN mH mZ mP em gn lk (nI lst)), (mK, ia E nI 16 kd), (mQ, ia E cL 16 (va_up chn (tN xp) (tC xc))), (mW, ia E cD 16 (va_up dir (tN xp) 1)), (mA, ja E 16 (va_up bef (tN xp) 0)), (mD, ia E nI 16 dkt)] := hD
      refine lv_aload_n hx hb dX4_lock_82 rfl (lv_at hl 1 rfl) ?_
      refine va_get (D := E.1) (ci := 4) (v := .ref mD) (C := RX4) (T := TX4) (N := 25) hx hb hts iX4 hown C0.1 hP 0 rfl rfl 11 (by decide) (hts (.fieldLink RX4 38 "RingresonanceModel" "dark" "[I") (by decide +kernel)) (fun _ h9 => h9) rfl dX4_lock_83 ?_
      refine lv_iload_n hx hb dX4_lock_86 rfl (lv_at hl 2 rfl) ?_
      refine lv_ri (y := (nI (tN xp))) (tN_eq hP9) ?_
      refine lv_iconst (v := nI 0) hx hb dX4_lock_87 (by decide) ?_
      refine k_iast (e := (tN xp)) (v := 0) (g := nI) (n := 16) hx hb C0 hP hD hS 5 rfl rfl (by omega) (by omega) dX4_lock_88 (fun H locs hP hD hS => ?_)
      have hP : va_P E.1 vwCl [(aM, o4 (nI (locC n kd xp xc)) (nI n) mK mX mY mF mS mL mQ mW mA mD mO mV mC mT mE mN mH mZ mP em gn lk (nI lst)), (mK, ia E nI 16 kd), (mQ, ia E cL 16 (va_up chn (tN xp) (tC xc))), (mW, ia E cD 16 (va_up dir (tN xp) 1)), (mA, ja E 16 (va_up bef (tN xp) 0)), (mD, ia E nI 16 (va_up dkt (tN xp) 0))] H := hP
      have hD : va_D A [(aM, o4 (nI (locC n kd xp xc)) (nI n) mK mX mY mF mS mL mQ mW mA mD mO mV mC mT mE mN mH mZ mP em gn lk (nI lst)), (mK, ia E nI 16 kd), (mQ, ia E cL 16 (va_up chn (tN xp) (tC xc))), (mW, ia E cD 16 (va_up dir (tN xp) 1)), (mA, ja E 16 (va_up bef (tN xp) 0)), (mD, ia E nI 16 (va_up dkt (tN xp) 0))] := hD
      refine lv_iload_n hx hb dX4_lock_89 rfl (lv_at hl 0 rfl) ?_
      have q_3 : (if locC n kd xp xc = 0 then va_up chn (tN xp) (tC xc) else chn) = (va_up chn (tN xp) (tC xc)) := by rw [if_pos c_2]
      have q_4 : (if locC n kd xp xc = 0 then va_up dir (tN xp) 1 else dir) = (va_up dir (tN xp) 1) := by rw [if_pos c_2]
      have q_5 : (if locC n kd xp xc = 0 then va_up bef (tN xp) 0 else bef) = (va_up bef (tN xp) 0) := by rw [if_pos c_2]
      have q_6 : (if locC n kd xp xc = 0 then va_up dkt (tN xp) 0 else dkt) = (va_up dkt (tN xp) 0) := by rw [if_pos c_2]
      have hP : va_P E.1 vwCl [(aM, o4 (nI (locC n kd xp xc)) (nI n) mK mX mY mF mS mL mQ mW mA mD mO mV mC mT mE mN mH mZ mP em gn lk (nI lst)), (mK, ia E nI 16 kd), (mQ, ia E cL 16 (if locC n kd xp xc = 0 then va_up chn (tN xp) (tC xc) else chn)), (mW, ia E cD 16 (if locC n kd xp xc = 0 then va_up dir (tN xp) 1 else dir)), (mA, ja E 16 (if locC n kd xp xc = 0 then va_up bef (tN xp) 0 else bef)), (mD, ia E nI 16 (if locC n kd xp xc = 0 then va_up dkt (tN xp) 0 else dkt))] H := by rw [q_3, q_4, q_5, q_6]; exact hP
      have hD : va_D A [(aM, o4 (nI (locC n kd xp xc)) (nI n) mK mX mY mF mS mL mQ mW mA mD mO mV mC mT mE mN mH mZ mP em gn lk (nI lst)), (mK, ia E nI 16 kd), (mQ, ia E cL 16 (if locC n kd xp xc = 0 then va_up chn (tN xp) (tC xc) else chn)), (mW, ia E cD 16 (if locC n kd xp xc = 0 then va_up dir (tN xp) 1 else dir)), (mA, ja E 16 (if locC n kd xp xc = 0 then va_up bef (tN xp) 0 else bef)), (mD, ia E nI 16 (if locC n kd xp xc = 0 then va_up dkt (tN xp) 0 else dkt))] := by rw [q_3, q_4, q_5, q_6]; exact hD
      have q_7 : (cL (chn (tN xp))) = (if locC n kd xp xc = 0 then cL (chn (tN xp)) else nI 0) := by symm; rw [if_pos c_2]
      exact exI hx hb hr hlocks hAe hS () q_7 hP hD dX4_lock_90
    · skip
      have c_2 : ¬ ((locC n kd xp xc) = 0) := fun h => c_2 ((ci0_eq (by omega)).mpr h)
      refine lv_iconst (v := nI 0) hx hb dX4_lock_52 (by decide) ?_
      have q_8 : (if locC n kd xp xc = 0 then va_up chn (tN xp) (tC xc) else chn) = chn := by rw [if_neg c_2]
      have q_9 : (if locC n kd xp xc = 0 then va_up dir (tN xp) 1 else dir) = dir := by rw [if_neg c_2]
      have q_10 : (if locC n kd xp xc = 0 then va_up bef (tN xp) 0 else bef) = bef := by rw [if_neg c_2]
      have q_11 : (if locC n kd xp xc = 0 then va_up dkt (tN xp) 0 else dkt) = dkt := by rw [if_neg c_2]
      have hP : va_P E.1 vwCl [(aM, o4 (nI (locC n kd xp xc)) (nI n) mK mX mY mF mS mL mQ mW mA mD mO mV mC mT mE mN mH mZ mP em gn lk (nI lst)), (mK, ia E nI 16 kd), (mQ, ia E cL 16 (if locC n kd xp xc = 0 then va_up chn (tN xp) (tC xc) else chn)), (mW, ia E cD 16 (if locC n kd xp xc = 0 then va_up dir (tN xp) 1 else dir)), (mA, ja E 16 (if locC n kd xp xc = 0 then va_up bef (tN xp) 0 else bef)), (mD, ia E nI 16 (if locC n kd xp xc = 0 then va_up dkt (tN xp) 0 else dkt))] H := by rw [q_8, q_9, q_10, q_11]; exact hP
      have hD : va_D A [(aM, o4 (nI (locC n kd xp xc)) (nI n) mK mX mY mF mS mL mQ mW mA mD mO mV mC mT mE mN mH mZ mP em gn lk (nI lst)), (mK, ia E nI 16 kd), (mQ, ia E cL 16 (if locC n kd xp xc = 0 then va_up chn (tN xp) (tC xc) else chn)), (mW, ia E cD 16 (if locC n kd xp xc = 0 then va_up dir (tN xp) 1 else dir)), (mA, ja E 16 (if locC n kd xp xc = 0 then va_up bef (tN xp) 0 else bef)), (mD, ia E nI 16 (if locC n kd xp xc = 0 then va_up dkt (tN xp) 0 else dkt))] := by rw [q_8, q_9, q_10, q_11]; exact hD
      have q_12 : (nI 0) = (if locC n kd xp xc = 0 then cL (chn (tN xp)) else nI 0) := by symm; rw [if_neg c_2]
      exact exI hx hb hr hlocks hAe hS () q_12 hP hD dX4_lock_53
  refine lv_aload_n hx hb dX4_lock_1 rfl (lv_at hl 0 rfl) ?_
  refine lv_iload_n hx hb dX4_lock_2 rfl (lv_at hl 1 rfl) ?_
  have hPc := hP.pick (ws' := [(aM, o4 (nI th) (nI n) mK mX mY mF mS mL mQ mW mA mD mO mV mC mT mE mN mH mZ mP em gn lk (nI lst))]) [0] rfl
  have hDc := hD.sub (ws' := [(aM, o4 (nI th) (nI n) mK mX mY mF mS mL mQ mW mA mD mO mV mC mT mE mN mH mZ mP em gn lk (nI lst))]) [0] (by decide) rfl
  refine kcI (wr := [(mK, ia E nI 16 kd), (mQ, ia E cL 16 chn), (mW, ia E cD 16 dir), (mA, ja E 16 bef), (mD, ia E nI 16 dkt)]) (w1 := fun _ : Unit => [(aM, o4 (nI th) (nI n) mK mX mY mF mS mL mQ mW mA mD mO mV mC mT mE mN mH mZ mP em gn lk (nI lst))]) (w2 := fun _ => [(aM, o4 (nI th) (nI n) mK mX mY mF mS mL mQ mW mA mD mO mV mC mT mE mN mH mZ mP em gn lk (nI lst)), (mK, ia E nI 16 kd), (mQ, ia E cL 16 chn), (mW, ia E cD 16 dir), (mA, ja E 16 bef), (mD, ia E nI 16 dkt)]) (va_runV (As := [.int xp]) (rest := [.ref aM]) ⟨hx, hb, hml, hown, hts⟩ (m_isPart l E H.size xp aM mK mX mY mF mS mL mQ mW mA mD mO mV mC mT mE mN mH mZ mP th n lst em gn lk ) (cwV 1 hts gX4_lock_X4_isPart rfl rfl rfl (by decide +kernel) ⟨Nat.le_of_ble_eq_true rfl, Nat.le_of_ble_eq_true rfl⟩) (preV C0 hPc hDc hS 0 rfl rfl) rfl rfl hl.1 rfl (lv_room (Nat.le_of_ble_eq_true rfl)) dX4_lock_3 ⟨Nat.le_refl _, Nat.le_refl _⟩) C0 hP hD hS [0] [1, 2, 3, 4, 5] [5, 0, 1, 2, 3, 4] rfl rfl (by decide) (by decide) (fun _ => rfl) (by decide) (fun r_9 _u H locs hw hP hD hS => ?_)
  have hP : va_P E.1 vwCl [(aM, o4 (nI th) (nI n) mK mX mY mF mS mL mQ mW mA mD mO mV mC mT mE mN mH mZ mP em gn lk (nI lst)), (mK, ia E nI 16 kd), (mQ, ia E cL 16 chn), (mW, ia E cD 16 dir), (mA, ja E 16 bef), (mD, ia E nI 16 dkt)] H := hP
  have hD : va_D A [(aM, o4 (nI th) (nI n) mK mX mY mF mS mL mQ mW mA mD mO mV mC mT mE mN mH mZ mP em gn lk (nI lst)), (mK, ia E nI 16 kd), (mQ, ia E cL 16 chn), (mW, ia E cD 16 dir), (mA, ja E 16 bef), (mD, ia E nI 16 dkt)] := hD
  have hw : r_9 = bI (nI 0 ≤ xp ∧ xp ≤ cL n) := hw
  subst hw
  refine lv_if_ne (tgt := 13) hx hb dX4_lock_6 (by decide) (fun c_13 => ?_) (fun c_13 => ?_)
  · skip
    have c_13 : nI 0 ≤ xp ∧ xp ≤ cL n := bI_ne0.mp c_13
    have hP9 := c_13
    have htn := cL_le (by omega) hP9
    have hkk := hk _ htn
    refine lv_iload_n hx hb dX4_lock_13 rfl (lv_at hl 2 rfl) ?_
    refine lv_iconst (v := -1) hx hb dX4_lock_14 (by decide) ?_
    refine lv_bipush (v := nI 7) hx hb dX4_lock_15 (by decide) ?_
    have hPc := hP.pick (ws' := []) [] rfl
    have hDc := hD.sub (ws' := []) [] (by decide) rfl
    refine kcI (wr := [(aM, o4 (nI th) (nI n) mK mX mY mF mS mL mQ mW mA mD mO mV mC mT mE mN mH mZ mP em gn lk (nI lst)), (mK, ia E nI 16 kd), (mQ, ia E cL 16 chn), (mW, ia E cD 16 dir), (mA, ja E 16 bef), (mD, ia E nI 16 dkt)]) (w1 := fun _ : Unit => []) (w2 := fun _ => [(aM, o4 (nI th) (nI n) mK mX mY mF mS mL mQ mW mA mD mO mV mC mT mE mN mH mZ mP em gn lk (nI lst)), (mK, ia E nI 16 kd), (mQ, ia E cL 16 chn), (mW, ia E cD 16 dir), (mA, ja E 16 bef), (mD, ia E nI 16 dkt)]) (va_runS (As := [.int xc, .int (-1), .int (nI 7)]) (rest := [.ref aM]) ⟨hx, hb, hml, hown, hts⟩ (m_in l E H.size xc (-1) (nI 7) ) (va_cwS 3 hts gX4_lock_X4_in rfl rfl rfl (by decide +kernel) ⟨Nat.le_of_ble_eq_true rfl, Nat.le_of_ble_eq_true rfl⟩) (preS C0 hPc hDc hS) rfl rfl hl.1 rfl (lv_room (Nat.le_of_ble_eq_true rfl)) dX4_lock_17 ⟨Nat.le_refl _, Nat.le_refl _⟩) C0 hP hD hS [] [0, 1, 2, 3, 4, 5] [0, 1, 2, 3, 4, 5] rfl rfl (by decide) (by decide) (fun _ => rfl) (by decide) (fun r_9 _u H locs hw hP hD hS => ?_)
    have hP : va_P E.1 vwCl [(aM, o4 (nI th) (nI n) mK mX mY mF mS mL mQ mW mA mD mO mV mC mT mE mN mH mZ mP em gn lk (nI lst)), (mK, ia E nI 16 kd), (mQ, ia E cL 16 chn), (mW, ia E cD 16 dir), (mA, ja E 16 bef), (mD, ia E nI 16 dkt)] H := hP
    have hD : va_D A [(aM, o4 (nI th) (nI n) mK mX mY mF mS mL mQ mW mA mD mO mV mC mT mE mN mH mZ mP em gn lk (nI lst)), (mK, ia E nI 16 kd), (mQ, ia E cL 16 chn), (mW, ia E cD 16 dir), (mA, ja E 16 bef), (mD, ia E nI 16 dkt)] := hD
    have hw : r_9 = bI ((-1) ≤ xc ∧ xc ≤ (nI 7)) := hw
    subst hw
    refine lv_if_ne (tgt := 27) hx hb dX4_lock_20 (by decide) (fun c_14 => ?_) (fun c_14 => ?_)
    · skip
      have c_14 : (-1) ≤ xc ∧ xc ≤ (nI 7) := bI_ne0.mp c_14
      refine lv_aload_n hx hb dX4_lock_27 rfl (lv_at hl 0 rfl) ?_
      refine va_get (D := E.1) (ci := 4) (v := .ref mK) (C := RX4) (T := TX4) (N := 25) hx hb hts iX4 hown C0.1 hP 0 rfl rfl 2 (by decide) (hts (.fieldLink RX4 7 "RingresonanceModel" "kind" "[I") (by decide +kernel)) (fun _ h9 => h9) rfl dX4_lock_28 ?_
      refine lv_iload_n hx hb dX4_lock_31 rfl (lv_at hl 1 rfl) ?_
      refine lv_ri (y := (nI (tN xp))) (tN_eq hP9) ?_
      refine k_iald (e := (tN xp)) (g := nI) (n := 16) hx hb C0 hP 1 rfl (by omega) (by omega) dX4_lock_32 ?_
      refine lv_iconst (v := nI 3) hx hb dX4_lock_33 (by decide) ?_
      refine lv_icmp_eq (tgt := 41) hx hb dX4_lock_34 (by decide) (fun c_15 => ?_) (fun c_15 => ?_)
      · skip
        have c_15 : (kd (tN xp)) = 3 := (ci_eq (by omega) (by omega)).mp c_15
        refine lv_iconst (v := nI 0) hx hb dX4_lock_41 (by decide) ?_
        refine lv_ri (y := (nI (locC n kd xp xc))) (congrArg nI (show _ = locC n kd xp xc by unfold locC; simp [c_13, c_14, c_15])) ?_
        have hl : lv_has ls 4 [(0, .ref aM), (1, .int xp), (2, .int xc)] := lv_sub hl [0, 1, 2] rfl
        exact JN_1   _ _ hP hD hS _ hl
      · skip
        have c_15 : ¬ ((kd (tN xp)) = 3) := fun h => c_15 ((ci_eq (by omega) (by omega)).mpr h)
        refine lv_iconst (v := nI 3) hx hb dX4_lock_37 (by decide) ?_
        refine lv_ri (y := (nI (locC n kd xp xc))) (congrArg nI (show _ = locC n kd xp xc by unfold locC; simp [c_13, c_14, c_15])) ?_
        refine lv_goto (tgt := 42) hx hb dX4_lock_38 (by decide) ?_
        have hl : lv_has ls 4 [(0, .ref aM), (1, .int xp), (2, .int xc)] := lv_sub hl [0, 1, 2] rfl
        exact JN_1   _ _ hP hD hS _ hl
    · skip
      have c_14 : ¬ ((-1) ≤ xc ∧ xc ≤ (nI 7)) := bI_eq0.mp c_14
      refine lv_iconst (v := nI 2) hx hb dX4_lock_23 (by decide) ?_
      refine lv_ri (y := (nI (locC n kd xp xc))) (congrArg nI (show _ = locC n kd xp xc by unfold locC; simp [c_13, c_14])) ?_
      refine lv_goto (tgt := 42) hx hb dX4_lock_24 (by decide) ?_
      have hl : lv_has ls 4 [(0, .ref aM), (1, .int xp), (2, .int xc)] := lv_sub hl [0, 1, 2] rfl
      exact JN_1   _ _ hP hD hS _ hl
  · skip
    have c_13 : ¬ (nI 0 ≤ xp ∧ xp ≤ cL n) := bI_eq0.mp c_13
    refine lv_iconst (v := nI 1) hx hb dX4_lock_9 (by decide) ?_
    refine lv_ri (y := (nI (locC n kd xp xc))) (congrArg nI (show _ = locC n kd xp xc by unfold locC; simp [c_13])) ?_
    refine lv_goto (tgt := 42) hx hb dX4_lock_10 (by decide) ?_
    have hl : lv_has ls 4 [(0, .ref aM), (1, .int xp), (2, .int xc)] := lv_sub hl [0, 1, 2] rfl
    exact JN_1   _ _ hP hD hS _ hl
