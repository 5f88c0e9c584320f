def leaA (n : Nat) (kd : Nat → Nat) (xp xo xq xi : Int32) : Nat := if ((nI 0 ≤ xp ∧ xp ≤ cL n) ∧ (nI 0 ≤ xo ∧ xo ≤ cL (stV 1 (kd (tN xp))))) ∧ ((nI 0 ≤ xq ∧ xq ≤ cL n) ∧ (nI 0 ≤ xi ∧ xi ≤ cL (stV 0 (kd (tN xq))))) then 0 else 1
theorem leaA_lt (n : Nat) (kd : Nat → Nat) (xp xo xq xi : Int32) : leaA n kd xp xo xq xi < 4 := by unfold leaA; split <;> omega
theorem leaA_0 {n : Nat} {kd : Nat → Nat} {xp xo xq xi : Int32} (h : leaA n kd xp xo xq xi = 0) : ((nI 0 ≤ xp ∧ xp ≤ cL n) ∧ (nI 0 ≤ xo ∧ xo ≤ cL (stV 1 (kd (tN xp))))) ∧ ((nI 0 ≤ xq ∧ xq ≤ cL n) ∧ (nI 0 ≤ xi ∧ xi ≤ cL (stV 0 (kd (tN xq))))) := Decidable.byContradiction fun q => by rw [leaA, if_neg q] at h; exact absurd h (by decide)
theorem leaC_A {n : Nat} {kd le : Nat → Nat} {xp xo xq xi : Int32} (h : leaA n kd xp xo xq xi = 0) : leaC n kd le xp xo xq xi = tkM le (2 * tN xp + tN xo) (2 * tN xq + tN xi + 1) 32 0 := if_pos (leaA_0 h)
theorem leaC_B {n : Nat} {kd le : Nat → Nat} {xp xo xq xi : Int32} (h : ¬ leaA n kd xp xo xq xi = 0) : leaC n kd le xp xo xq xi = leaA n kd xp xo xq xi := by
  unfold leaA leaC at *
  split
  · rename_i q
    rw [if_pos q] at h
    exact absurd rfl h
  · rfl

set_option maxHeartbeats 4000000 in
set_option maxRecDepth 100000 in
theorem m_lead (l : Launch) (E : EnvT) (sz : Nat) (xp xo xq xi : Int32) (aM mK mX mY mF mS mL mQ mW mA mD mO mV mC mT mE mN mH mZ mP : Nat) (th n lst : Nat) (em gn lk : Int64) (kd le : Nat → Nat) (hn : n ≤ 16) (hk : ∀ j, j < n → kd j ≤ 5) (hL : ∀ j, j < 32 → le j ≤ 32) : MI l yX4_lead wsX4_lead ({ frames := 3, cells := 0, slots := 0, locals := 65 }) E sz [.ref aM, .int xp, .int xo, .int xq, .int xi] [(aM, o4 (nI th) (nI n) mK mX mY mF mS mL mQ mW mA mD mO mV mC mT mE mN mH mZ mP em gn lk (nI lst)), (mK, ia E nI 16 kd), (mL, ia E nI 32 le)] (fun (r : Int32) (_ : Unit) => r = if leaC n kd le xp xo xq xi = 0 then cL (ledF (le (2 * tN xp + tN xo))) else nI 0) (fun _ => [(aM, o4 (nI (leaC n kd le xp xo xq xi)) (nI n) mK mX mY mF mS mL mQ mW mA mD mO mV mC mT mE mN mH mZ mP em gn lk (nI lst)), (mK, ia E nI 16 kd), (mL, ia E nI 32 (if leaC n kd le xp xo xq xi = 0 then va_up le (2 * tN xp + tN xo) (2 * tN xq + tN xi + 1) else le))]) := by
  refine enI (cc := cX4_lead) (maxL := 7) (ret := .int) (by decide +kernel) rfl (Nat.le_of_ble_eq_true rfl) ?_
  intro p e s m below meth c A ls hx hb hr hml hts hown hlocks hAe C0 hP hD hS hl
  have hown : s.vm.findClass RX4 = some m.cls := hown
  have hl : lv_has ls 7 [(0, .ref aM), (1, .int xp), (2, .int xo), (3, .int xq), (4, .int xi)] := hl
  have iX4 : ∀ w ∈ u_ws RX4 TX4 25, w ∈ wsX4_lead := by decide +kernel
  obtain ⟨H, hHe⟩ : ∃ z, z = s.heap := ⟨_, rfl⟩
  obtain ⟨locs, hLe⟩ : ∃ z : List Loc, z = [] := ⟨_, rfl⟩
  have hP : va_P E.1 vwCl [(aM, o4 (nI th) (nI n) mK mX mY mF mS mL mQ mW mA mD mO mV mC mT mE mN mH mZ mP em gn lk (nI lst)), (mK, ia E nI 16 kd), (mL, ia E nI 32 le)] H := by rw [hHe]; exact hP
  have hD : va_D A [(aM, o4 (nI th) (nI n) mK mX mY mF mS mL mQ mW mA mD mO mV mC mT mE mN mH mZ mP em gn lk (nI lst)), (mK, ia E nI 16 kd), (mL, ia E nI 32 le)] := hD
  have hS : va_S A s.heap H locs := by rw [hHe, hLe]; exact hS
  suffices hgo : W p l e _ s m _ below meth c H locs 0 0 _ (F0 m 0 ls []) by rw [hHe, hLe] at hgo; exact hgo
  clear hHe hLe
  have hcb := leaA_lt n kd xp xo xq xi
  have hcb2 := tkM_lt le (2 * tN xp + tN xo) (2 * tN xq + tN xi + 1) 32
  refine lv_aload_n hx hb dX4_lead_0 rfl (lv_at hl 0 rfl) ?_
  have JN_1 : ∀ (H : Heap) (locs : List Loc), va_P E.1 vwCl [(aM, o4 (nI th) (nI n) mK mX mY mF mS mL mQ mW mA mD mO mV mC mT mE mN mH mZ mP em gn lk (nI lst)), (mK, ia E nI 16 kd), (mL, ia E nI 32 le)] H → va_D A [(aM, o4 (nI th) (nI n) mK mX mY mF mS mL mQ mW mA mD mO mV mC mT mE mN mH mZ mP em gn lk (nI lst)), (mK, ia E nI 16 kd), (mL, ia E nI 32 le)] → va_S A s.heap H locs → ∀ (ls : Array Slot), lv_has ls 7 [(0, .ref aM), (1, .int xp), (2, .int xo), (3, .int xq), (4, .int xi)] → W p l e ({ frames := 3, cells := 0, slots := 0, locals := 65 }) s m (([.ref aM, .int xp, .int xo, .int xq, .int xi] : List Value).toArray) below meth c H locs 0 0 (MQ below (va_Qi (fun (r : Int32) (_ : Unit) => r = if leaC n kd le xp xo xq xi = 0 then cL (ledF (le (2 * tN xp + tN xo))) else nI 0) (Wd E [(aM, o4 (nI th) (nI n) mK mX mY mF mS mL mQ mW mA mD mO mV mC mT mE mN mH mZ mP em gn lk (nI lst)), (mK, ia E nI 16 kd), (mL, ia E nI 32 le)] s.heap.size (fun _ => [(aM, o4 (nI (leaC n kd le xp xo xq xi)) (nI n) mK mX mY mF mS mL mQ mW mA mD mO mV mC mT mE mN mH mZ mP em gn lk (nI lst)), (mK, ia E nI 16 kd), (mL, ia E nI 32 (if leaC n kd le xp xo xq xi = 0 then va_up le (2 * tN xp + tN xo) (2 * tN xq + tN xi + 1) else le))])) A) (([.ref aM, .int xp, .int xo, .int xq, .int xi] : List Value).toArray) s 0 0 A) (F0 m 25 ls [.int (nI (leaA n kd xp xo xq xi)), .ref aM]) := by
    intro   H locs hP hD hS ls hl
    refine va_put (D := E.1) (ci := 4) (v := .int (nI (leaA n kd xp xo xq xi))) (ty := .int) (C := RX4) (T := TX4) (N := 25) hx hb hts iX4 tyX4 tyX4_ok nmX4 hown C0.1 hP hD hS 0 rfl rfl 0 (by decide) (hts (.fieldLink RX4 72 "RingresonanceModel" "thrown" "I") (by decide +kernel)) (fun _ h9 => h9) rfl (by decide +kernel) rfl rfl (Nat.le_of_ble_eq_true rfl) dX4_lead_25 (fun H locs hP hD hS => ?_)
    have hP : va_P E.1 vwCl [(aM, o4 (nI (leaA n kd xp xo xq xi)) (nI n) mK mX mY mF mS mL mQ mW mA mD mO mV mC mT mE mN mH mZ mP em gn lk (nI lst)), (mK, ia E nI 16 kd), (mL, ia E nI 32 le)] H := hP
    have hD : va_D A [(aM, o4 (nI (leaA n kd xp xo xq xi)) (nI n) mK mX mY mF mS mL mQ mW mA mD mO mV mC mT mE mN mH mZ mP em gn lk (nI lst)), (mK, ia E nI 16 kd), (mL, ia E nI 32 le)] := hD
    refine lv_aload_n hx hb dX4_lead_28 rfl (lv_at hl 0 rfl) ?_
    refine va_get (D := E.1) (ci := 4) (v := .int (nI (leaA n kd xp xo xq xi))) (C := RX4) (T := TX4) (N := 25) hx hb hts iX4 hown C0.1 hP 0 rfl rfl 0 (by decide) (hts (.fieldLink RX4 72 "RingresonanceModel" "thrown" "I") (by decide +kernel)) (fun _ h9 => h9) rfl dX4_lead_29 ?_
    refine lv_if_eq (tgt := 37) hx hb dX4_lead_32 (by decide) (fun c_2 => ?_) (fun c_2 => ?_)
    · skip
      have c_2 : (leaA n kd xp xo xq xi) = 0 := (ci0_eq (by omega)).mp c_2
      obtain ⟨⟨hP9, hO⟩, ⟨hQ, hI⟩⟩ := leaA_0 c_2
      have hlC := leaC_A (le := le) c_2
      have htp := cL_le (by omega) hP9
      have htq := cL_le (by omega) hQ
      have hkp := stV1_le (hk _ htp)
      have hkq := stV0_le (hk _ htq)
      have hto := cL_le (by omega) hO
      have hti := cL_le (by omega) hI
      refine lv_iconst (v := nI 2) hx hb dX4_lead_37 (by decide) ?_
      refine lv_iload_n hx hb dX4_lead_38 rfl (lv_at hl 3 rfl) ?_
      refine lv_ri (y := (nI (tN xq))) (tN_eq hQ) ?_
      refine lv_imul hx hb dX4_lead_39 ?_
      refine lv_ri (y := (nI (2 * (tN xq)))) (pk_mul 2 (tN xq)) ?_
      refine lv_iload hx hb dX4_lead_40 (lv_at hl 4 rfl) ?_
      refine lv_ri (y := (nI (tN xi))) (tN_eq hI) ?_
      refine lv_iadd hx hb dX4_lead_42 ?_
      refine lv_ri (y := (nI ((2 * (tN xq)) + (tN xi)))) (nI_add (2 * (tN xq)) (tN xi)) ?_
      refine lv_iconst (v := nI 1) hx hb dX4_lead_43 (by decide) ?_
      refine lv_iadd hx hb dX4_lead_44 ?_
      refine lv_ri (y := (nI (((2 * (tN xq)) + (tN xi)) + 1))) (nI_add ((2 * (tN xq)) + (tN xi)) 1) ?_
      refine lv_istore (lv' := [(5, .int (nI (((2 * (tN xq)) + (tN xi)) + 1))), (0, .ref aM), (1, .int xp), (2, .int xo), (3, .int xq), (4, .int xi)]) hx hb dX4_lead_45 hl (by decide) rfl (fun ls hl => ?_)
      refine lv_iconst (v := nI 0) hx hb dX4_lead_47 (by decide) ?_
      refine lv_istore (lv' := [(6, .int (nI 0)), (5, .int (nI (((2 * (tN xq)) + (tN xi)) + 1))), (0, .ref aM), (1, .int xp), (2, .int xo), (3, .int xq), (4, .int xi)]) hx hb dX4_lead_48 hl (by decide) rfl (fun ls hl => ?_)
      have LP_3 : ∀ (nz i_5 : Nat), i_5 ≤ 32 → 32 < i_5 + nz → ∀ (H : Heap) (locs : List Loc), va_P E.1 vwCl [(aM, o4 (nI (tkM le (2 * tN xp + tN xo) (2 * tN xq + tN xi + 1) (i_5) 0)) (nI n) mK mX mY mF mS mL mQ mW mA mD mO mV mC mT mE mN mH mZ mP em gn lk (nI lst)), (mK, ia E nI 16 kd), (mL, ia E nI 32 le)] H → va_D A [(aM, o4 (nI (tkM le (2 * tN xp + tN xo) (2 * tN xq + tN xi + 1) (i_5) 0)) (nI n) mK mX mY mF mS mL mQ mW mA mD mO mV mC mT mE mN mH mZ mP em gn lk (nI lst)), (mK, ia E nI 16 kd), (mL, ia E nI 32 le)] → va_S A s.heap H locs → ∀ (ls : Array Slot), lv_has ls 7 [(0, .ref aM), (1, .int xp), (2, .int xo), (3, .int xq), (4, .int xi), (5, .int (nI (2 * tN xq + tN xi + 1))), (6, .int (nI i_5))] → W p l e ({ frames := 3, cells := 0, slots := 0, locals := 65 }) s m (([.ref aM, .int xp, .int xo, .int xq, .int xi] : List Value).toArray) below meth c H locs 0 0 (MQ below (va_Qi (fun (r : Int32) (_ : Unit) => r = if leaC n kd le xp xo xq xi = 0 then cL (ledF (le (2 * tN xp + tN xo))) else nI 0) (Wd E [(aM, o4 (nI th) (nI n) mK mX mY mF mS mL mQ mW mA mD mO mV mC mT mE mN mH mZ mP em gn lk (nI lst)), (mK, ia E nI 16 kd), (mL, ia E nI 32 le)] s.heap.size (fun _ => [(aM, o4 (nI (leaC n kd le xp xo xq xi)) (nI n) mK mX mY mF mS mL mQ mW mA mD mO mV mC mT mE mN mH mZ mP em gn lk (nI lst)), (mK, ia E nI 16 kd), (mL, ia E nI 32 (if leaC n kd le xp xo xq xi = 0 then va_up le (2 * tN xp + tN xo) (2 * tN xq + tN xi + 1) else le))])) A) (([.ref aM, .int xp, .int xo, .int xq, .int xi] : List Value).toArray) s 0 0 A) (F0 m 50 ls []) := by
        intro nz
        induction nz with
        | zero =>
          intro i_5 h1 h2
          exact absurd h2 (by omega)
        | succ nz ih_4 =>
          intro i_5 hi_i_5 hn_i_5 H locs hP hD hS ls hl
          refine lv_iload hx hb dX4_lead_50 (lv_at hl 6 rfl) ?_
          refine lv_bipush (v := nI 32) hx hb dX4_lead_52 (by decide) ?_
          refine lv_icmp_ge (tgt := 97) hx hb dX4_lead_54 (by decide) (fun c_6 => ?_) (fun c_6 => ?_)
          · skip
            have c_6 : 32 ≤ i_5 := (ci_ge (by omega) (by omega)).mp c_6
            obtain rfl : 32 = i_5 := by omega
            refine lv_aload_n hx hb dX4_lead_97 rfl (lv_at hl 0 rfl) ?_
            refine va_get (D := E.1) (ci := 4) (v := .int (nI (tkM le (2 * tN xp + tN xo) (2 * tN xq + tN xi + 1) (32) 0))) (C := RX4) (T := TX4) (N := 25) hx hb hts iX4 hown C0.1 hP 0 rfl rfl 0 (by decide) (hts (.fieldLink RX4 72 "RingresonanceModel" "thrown" "I") (by decide +kernel)) (fun _ h9 => h9) rfl dX4_lead_98 ?_
            refine lv_if_eq (tgt := 106) hx hb dX4_lead_101 (by decide) (fun c_7 => ?_) (fun c_7 => ?_)
            · skip
              have c_7 : (tkM le (2 * tN xp + tN xo) (2 * tN xq + tN xi + 1) (32) 0) = 0 := (ci0_eq (by omega)).mp c_7
              have hc0 : leaC n kd le xp xo xq xi = 0 := hlC.trans c_7
              refine lv_aload_n hx hb dX4_lead_106 rfl (lv_at hl 0 rfl) ?_
              refine lv_iload_n hx hb dX4_lead_107 rfl (lv_at hl 1 rfl) ?_
              refine lv_ri (y := (nI (tN xp))) (tN_eq hP9) ?_
              refine lv_iload_n hx hb dX4_lead_108 rfl (lv_at hl 2 rfl) ?_
              refine lv_ri (y := (nI (tN xo))) (tN_eq hO) ?_
              have hPc := hP.pick (ws' := [(aM, o4 (nI (tkM le (2 * tN xp + tN xo) (2 * tN xq + tN xi + 1) (32) 0)) (nI n) mK mX mY mF mS mL mQ mW mA mD mO mV mC mT mE mN mH mZ mP em gn lk (nI lst)), (mL, ia E nI 32 le)]) [0, 2] rfl
              have hDc := hD.sub (ws' := [(aM, o4 (nI (tkM le (2 * tN xp + tN xo) (2 * tN xq + tN xi + 1) (32) 0)) (nI n) mK mX mY mF mS mL mQ mW mA mD mO mV mC mT mE mN mH mZ mP em gn lk (nI lst)), (mL, ia E nI 32 le)]) [0, 2] (by decide) rfl
              refine kcI (wr := [(mK, ia E nI 16 kd)]) (w1 := fun _ : Unit => [(aM, o4 (nI (tkM le (2 * tN xp + tN xo) (2 * tN xq + tN xi + 1) (32) 0)) (nI n) mK mX mY mF mS mL mQ mW mA mD mO mV mC mT mE mN mH mZ mP em gn lk (nI lst)), (mL, ia E nI 32 le)]) (w2 := fun _ => [(aM, o4 (nI (tkM le (2 * tN xp + tN xo) (2 * tN xq + tN xi + 1) (32) 0)) (nI n) mK mX mY mF mS mL mQ mW mA mD mO mV mC mT mE mN mH mZ mP em gn lk (nI lst)), (mK, ia E nI 16 kd), (mL, ia E nI 32 le)]) (va_runV (As := [.int (nI (tN xp)), .int (nI (tN xo))]) (rest := []) ⟨hx, hb, hml, hown, hts⟩ (m_led l E H.size (tN xp) (tN xo) aM mK mX mY mF mS mL mQ mW mA mD mO mV mC mT mE mN mH mZ mP (tkM le (2 * tN xp + tN xo) (2 * tN xq + tN xi + 1) (32) 0) n lst em gn lk le (by omega) (by omega) (hL _ (by omega))) (cwV 2 hts gX4_lead_X4_led rfl rfl rfl (by decide +kernel) ⟨Nat.le_of_ble_eq_true rfl, Nat.le_of_ble_eq_true rfl⟩) (preV C0 hPc hDc hS 0 rfl rfl) rfl rfl hl.1 rfl (lv_room (Nat.le_of_ble_eq_true rfl)) dX4_lead_109 ⟨Nat.le_refl _, Nat.le_refl _⟩) C0 hP hD hS [0, 2] [1] [1, 0, 2] rfl rfl (by decide) (by decide) (fun _ => rfl) (by decide) (fun r_9 _u H locs hw hP hD hS => ?_)
              have hP : va_P E.1 vwCl [(aM, o4 (nI (tkM le (2 * tN xp + tN xo) (2 * tN xq + tN xi + 1) (32) 0)) (nI n) mK mX mY mF mS mL mQ mW mA mD mO mV mC mT mE mN mH mZ mP em gn lk (nI lst)), (mK, ia E nI 16 kd), (mL, ia E nI 32 le)] H := hP
              have hD : va_D A [(aM, o4 (nI (tkM le (2 * tN xp + tN xo) (2 * tN xq + tN xi + 1) (32) 0)) (nI n) mK mX mY mF mS mL mQ mW mA mD mO mV mC mT mE mN mH mZ mP em gn lk (nI lst)), (mK, ia E nI 16 kd), (mL, ia E nI 32 le)] := hD
              have hw : r_9 = cL (ledF (le (2 * (tN xp) + (tN xo)))) := hw
              subst hw
              refine lv_istore (lv' := [(6, .int (cL (ledF (le (2 * (tN xp) + (tN xo)))))), (0, .ref aM), (1, .int xp), (2, .int xo), (3, .int xq), (4, .int xi), (5, .int (nI (2 * tN xq + tN xi + 1)))]) hx hb dX4_lead_112 hl (by decide) rfl (fun ls hl => ?_)
              refine lv_aload_n hx hb dX4_lead_114 rfl (lv_at hl 1 rfl) ?_
              refine va_get (D := E.1) (ci := 4) (v := .ref mL) (C := RX4) (T := TX4) (N := 25) hx hb hts iX4 hown C0.1 hP 0 rfl rfl 7 (by decide) (hts (.fieldLink RX4 25 "RingresonanceModel" "leads" "[I") (by decide +kernel)) (fun _ h9 => h9) rfl dX4_lead_115 ?_
              refine lv_iconst (v := nI 2) hx hb dX4_lead_118 (by decide) ?_
              refine lv_iload_n hx hb dX4_lead_119 rfl (lv_at hl 2 rfl) ?_
              refine lv_ri (y := (nI (tN xp))) (tN_eq hP9) ?_
              refine lv_imul hx hb dX4_lead_120 ?_
              refine lv_ri (y := (nI (2 * (tN xp)))) (pk_mul 2 (tN xp)) ?_
              refine lv_iload_n hx hb dX4_lead_121 rfl (lv_at hl 3 rfl) ?_
              refine lv_ri (y := (nI (tN xo))) (tN_eq hO) ?_
              refine lv_iadd hx hb dX4_lead_122 ?_
              refine lv_ri (y := (nI ((2 * (tN xp)) + (tN xo)))) (nI_add (2 * (tN xp)) (tN xo)) ?_
              refine lv_iload hx hb dX4_lead_123 (lv_at hl 6 rfl) ?_
              refine k_iast (e := ((2 * (tN xp)) + (tN xo))) (v := (2 * tN xq + tN xi + 1)) (g := nI) (n := 32) hx hb C0 hP hD hS 2 rfl rfl (by omega) (by omega) dX4_lead_125 (fun H locs hP hD hS => ?_)
              have hP : va_P E.1 vwCl [(aM, o4 (nI (tkM le (2 * tN xp + tN xo) (2 * tN xq + tN xi + 1) (32) 0)) (nI n) mK mX mY mF mS mL mQ mW mA mD mO mV mC mT mE mN mH mZ mP em gn lk (nI lst)), (mK, ia E nI 16 kd), (mL, ia E nI 32 (va_up le ((2 * (tN xp)) + (tN xo)) (2 * tN xq + tN xi + 1)))] H := hP
              have hD : va_D A [(aM, o4 (nI (tkM le (2 * tN xp + tN xo) (2 * tN xq + tN xi + 1) (32) 0)) (nI n) mK mX mY mF mS mL mQ mW mA mD mO mV mC mT mE mN mH mZ mP em gn lk (nI lst)), (mK, ia E nI 16 kd), (mL, ia E nI 32 (va_up le ((2 * (tN xp)) + (tN xo)) (2 * tN xq + tN xi + 1)))] := hD
              refine lv_iload hx hb dX4_lead_126 (lv_at hl 0 rfl) ?_
              have q_8 : (nI (leaC n kd le xp xo xq xi)) = (nI (tkM le (2 * tN xp + tN xo) (2 * tN xq + tN xi + 1) (32) 0)) := by first | exact congrArg nI hlC | (rw [if_pos hc0]; done)
              have q_9 : (if leaC n kd le xp xo xq xi = 0 then va_up le (2 * tN xp + tN xo) (2 * tN xq + tN xi + 1) else le) = (va_up le ((2 * (tN xp)) + (tN xo)) (2 * tN xq + tN xi + 1)) := by first | exact congrArg nI hlC | (rw [if_pos hc0]; done)
              have hP : va_P E.1 vwCl [(aM, o4 (nI (leaC n kd le xp xo xq xi)) (nI n) mK mX mY mF mS mL mQ mW mA mD mO mV mC mT mE mN mH mZ mP em gn lk (nI lst)), (mK, ia E nI 16 kd), (mL, ia E nI 32 (if leaC n kd le xp xo xq xi = 0 then va_up le (2 * tN xp + tN xo) (2 * tN xq + tN xi + 1) else le))] H := by rw [q_8, q_9]; exact hP
              have hD : va_D A [(aM, o4 (nI (leaC n kd le xp xo xq xi)) (nI n) mK mX mY mF mS mL mQ mW mA mD mO mV mC mT mE mN mH mZ mP em gn lk (nI lst)), (mK, ia E nI 16 kd), (mL, ia E nI 32 (if leaC n kd le xp xo xq xi = 0 then va_up le (2 * tN xp + tN xo) (2 * tN xq + tN xi + 1) else le))] := by rw [q_8, q_9]; exact hD
              have q_10 : (cL (ledF (le (2 * (tN xp) + (tN xo))))) = (if leaC n kd le xp xo xq xi = 0 then cL (ledF (le (2 * tN xp + tN xo))) else nI 0) := by symm; first | exact congrArg nI hlC | (rw [if_pos hc0]; done)
              exact exI hx hb hr hlocks hAe hS () q_10 hP hD dX4_lead_128
            · skip
              have c_7 : ¬ ((tkM le (2 * tN xp + tN xo) (2 * tN xq + tN xi + 1) (32) 0) = 0) := fun h => c_7 ((ci0_eq (by omega)).mpr h)
              have hc0 : ¬ leaC n kd le xp xo xq xi = 0 := fun h => c_7 (hlC.symm.trans h)
              refine lv_iconst (v := nI 0) hx hb dX4_lead_104 (by decide) ?_
              have q_11 : (nI (leaC n kd le xp xo xq xi)) = (nI (tkM le (2 * tN xp + tN xo) (2 * tN xq + tN xi + 1) (32) 0)) := by first | exact congrArg nI hlC | (rw [if_neg hc0]; done)
              have q_12 : (if leaC n kd le xp xo xq xi = 0 then va_up le (2 * tN xp + tN xo) (2 * tN xq + tN xi + 1) else le) = le := by first | exact congrArg nI hlC | (rw [if_neg hc0]; done)
              have hP : va_P E.1 vwCl [(aM, o4 (nI (leaC n kd le xp xo xq xi)) (nI n) mK mX mY mF mS mL mQ mW mA mD mO mV mC mT mE mN mH mZ mP em gn lk (nI lst)), (mK, ia E nI 16 kd), (mL, ia E nI 32 (if leaC n kd le xp xo xq xi = 0 then va_up le (2 * tN xp + tN xo) (2 * tN xq + tN xi + 1) else le))] H := by rw [q_11, q_12]; exact hP
              have hD : va_D A [(aM, o4 (nI (leaC n kd le xp xo xq xi)) (nI n) mK mX mY mF mS mL mQ mW mA mD mO mV mC mT mE mN mH mZ mP em gn lk (nI lst)), (mK, ia E nI 16 kd), (mL, ia E nI 32 (if leaC n kd le xp xo xq xi = 0 then va_up le (2 * tN xp + tN xo) (2 * tN xq + tN xi + 1) else le))] := by rw [q_11, q_12]; exact hD
              have q_13 : (nI 0) = (if leaC n kd le xp xo xq xi = 0 then cL (ledF (le (2 * tN xp + tN xo))) else nI 0) := by symm; first | exact congrArg nI hlC | (rw [if_neg hc0]; done)
              exact exI hx hb hr hlocks hAe hS () q_13 hP hD dX4_lead_105
          · skip
            have c_6 : ¬ (32 ≤ i_5) := fun h => c_6 ((ci_ge (by omega) (by omega)).mpr h)
            have hlj := hL i_5 (by omega)
            refine lv_aload_n hx hb dX4_lead_57 rfl (lv_at hl 0 rfl) ?_
            have JN_14 : ∀ (H : Heap) (locs : List Loc), va_P E.1 vwCl [(aM, o4 (nI (tkM le (2 * tN xp + tN xo) (2 * tN xq + tN xi + 1) (i_5) 0)) (nI n) mK mX mY mF mS mL mQ mW mA mD mO mV mC mT mE mN mH mZ mP em gn lk (nI lst)), (mK, ia E nI 16 kd), (mL, ia E nI 32 le)] H → va_D A [(aM, o4 (nI (tkM le (2 * tN xp + tN xo) (2 * tN xq + tN xi + 1) (i_5) 0)) (nI n) mK mX mY mF mS mL mQ mW mA mD mO mV mC mT mE mN mH mZ mP em gn lk (nI lst)), (mK, ia E nI 16 kd), (mL, ia E nI 32 le)] → va_S A s.heap H locs → ∀ (ls : Array Slot), lv_has ls 7 [(0, .ref aM), (1, .int xp), (2, .int xo), (3, .int xq), (4, .int xi), (5, .int (nI (2 * tN xq + tN xi + 1))), (6, .int (nI i_5))] → W p l e ({ frames := 3, cells := 0, slots := 0, locals := 65 }) s m (([.ref aM, .int xp, .int xo, .int xq, .int xi] : List Value).toArray) below meth c H locs 0 0 (MQ below (va_Qi (fun (r : Int32) (_ : Unit) => r = if leaC n kd le xp xo xq xi = 0 then cL (ledF (le (2 * tN xp + tN xo))) else nI 0) (Wd E [(aM, o4 (nI th) (nI n) mK mX mY mF mS mL mQ mW mA mD mO mV mC mT mE mN mH mZ mP em gn lk (nI lst)), (mK, ia E nI 16 kd), (mL, ia E nI 32 le)] s.heap.size (fun _ => [(aM, o4 (nI (leaC n kd le xp xo xq xi)) (nI n) mK mX mY mF mS mL mQ mW mA mD mO mV mC mT mE mN mH mZ mP em gn lk (nI lst)), (mK, ia E nI 16 kd), (mL, ia E nI 32 (if leaC n kd le xp xo xq xi = 0 then va_up le (2 * tN xp + tN xo) (2 * tN xq + tN xi + 1) else le))])) A) (([.ref aM, .int xp, .int xo, .int xq, .int xi] : List Value).toArray) s 0 0 A) (F0 m 88 ls [.int (nI (tkM le (2 * tN xp + tN xo) (2 * tN xq + tN xi + 1) (i_5 + 1) 0)), .ref aM]) := by
              intro   H locs hP hD hS ls hl
              refine va_put (D := E.1) (ci := 4) (v := .int (nI (tkM le (2 * tN xp + tN xo) (2 * tN xq + tN xi + 1) (i_5 + 1) 0))) (ty := .int) (C := RX4) (T := TX4) (N := 25) hx hb hts iX4 tyX4 tyX4_ok nmX4 hown C0.1 hP hD hS 0 rfl rfl 0 (by decide) (hts (.fieldLink RX4 72 "RingresonanceModel" "thrown" "I") (by decide +kernel)) (fun _ h9 => h9) rfl (by decide +kernel) rfl rfl (Nat.le_of_ble_eq_true rfl) dX4_lead_88 (fun H locs hP hD hS => ?_)
              have hP : va_P E.1 vwCl [(aM, o4 (nI (tkM le (2 * tN xp + tN xo) (2 * tN xq + tN xi + 1) (i_5 + 1) 0)) (nI n) mK mX mY mF mS mL mQ mW mA mD mO mV mC mT mE mN mH mZ mP em gn lk (nI lst)), (mK, ia E nI 16 kd), (mL, ia E nI 32 le)] H := hP
              have hD : va_D A [(aM, o4 (nI (tkM le (2 * tN xp + tN xo) (2 * tN xq + tN xi + 1) (i_5 + 1) 0)) (nI n) mK mX mY mF mS mL mQ mW mA mD mO mV mC mT mE mN mH mZ mP em gn lk (nI lst)), (mK, ia E nI 16 kd), (mL, ia E nI 32 le)] := hD
              refine lv_iinc (v := nI (i_5 + 1)) (lv' := [(6, .int (nI (i_5 + 1))), (0, .ref aM), (1, .int xp), (2, .int xo), (3, .int xq), (4, .int xi), (5, .int (nI (2 * tN xq + tN xi + 1)))]) hx hb dX4_lead_91 hl (k := 6) rfl (nI_add i_5 1) (by decide) rfl (fun ls hl => ?_)
              refine lv_goto (tgt := 50) hx hb dX4_lead_94 (by decide) ?_
              have hP : va_P E.1 vwCl [(aM, o4 (nI (tkM le (2 * tN xp + tN xo) (2 * tN xq + tN xi + 1) (i_5 + 1) 0)) (nI n) mK mX mY mF mS mL mQ mW mA mD mO mV mC mT mE mN mH mZ mP em gn lk (nI lst)), (mK, ia E nI 16 kd), (mL, ia E nI 32 le)] H := hP
              have hD : va_D A [(aM, o4 (nI (tkM le (2 * tN xp + tN xo) (2 * tN xq + tN xi + 1) (i_5 + 1) 0)) (nI n) mK mX mY mF mS mL mQ mW mA mD mO mV mC mT mE mN mH mZ mP em gn lk (nI lst)), (mK, ia E nI 16 kd), (mL, ia E nI 32 le)] := hD
              have hl : lv_has ls 7 [(0, .ref aM), (1, .int xp), (2, .int xo), (3, .int xq), (4, .int xi), (5, .int (nI (2 * tN xq + tN xi + 1))), (6, .int (nI (i_5 + 1)))] := lv_sub hl [1, 2, 3, 4, 5, 6, 0] rfl
              exact ih_4 (i_5 + 1) (by omega) (by omega) _ _ hP hD hS _ hl
            refine lv_aload_n hx hb dX4_lead_58 rfl (lv_at hl 0 rfl) ?_
            refine va_get (D := E.1) (ci := 4) (v := .ref mL) (C := RX4) (T := TX4) (N := 25) hx hb hts iX4 hown C0.1 hP 0 rfl rfl 7 (by decide) (hts (.fieldLink RX4 25 "RingresonanceModel" "leads" "[I") (by decide +kernel)) (fun _ h9 => h9) rfl dX4_lead_59 ?_
            refine lv_iload hx hb dX4_lead_62 (lv_at hl 6 rfl) ?_
            refine k_iald (e := i_5) (g := nI) (n := 32) hx hb C0 hP 2 rfl (by omega) (by omega) dX4_lead_64 ?_
            refine lv_iload hx hb dX4_lead_65 (lv_at hl 5 rfl) ?_
            refine lv_icmp_ne (tgt := 84) hx hb dX4_lead_67 (by decide) (fun c_15 => ?_) (fun c_15 => ?_)
            · skip
              have c_15 : ¬ ((le i_5) = (2 * tN xq + tN xi + 1)) := fun h => c_15 ((ci_eq (by omega) (by omega)).mpr h)
              refine lv_aload_n hx hb dX4_lead_84 rfl (lv_at hl 0 rfl) ?_
              refine va_get (D := E.1) (ci := 4) (v := .int (nI (tkM le (2 * tN xp + tN xo) (2 * tN xq + tN xi + 1) (i_5) 0))) (C := RX4) (T := TX4) (N := 25) hx hb hts iX4 hown C0.1 hP 0 rfl rfl 0 (by decide) (hts (.fieldLink RX4 72 "RingresonanceModel" "thrown" "I") (by decide +kernel)) (fun _ h9 => h9) rfl dX4_lead_85 ?_
              refine lv_ri (y := (nI (tkM le (2 * tN xp + tN xo) (2 * tN xq + tN xi + 1) (i_5 + 1) 0))) (congrArg nI (by rw [tkM_s, if_neg (fun h => by first | exact c_15 h.1 | exact h.2 c_15)])) ?_
              have hl : lv_has ls 7 [(0, .ref aM), (1, .int xp), (2, .int xo), (3, .int xq), (4, .int xi), (5, .int (nI (2 * tN xq + tN xi + 1))), (6, .int (nI i_5))] := lv_sub hl [0, 1, 2, 3, 4, 5, 6] rfl
              exact JN_14   _ _ hP hD hS _ hl
            · skip
              have c_15 : (le i_5) = (2 * tN xq + tN xi + 1) := (ci_eq (by omega) (by omega)).mp c_15
              refine lv_iload hx hb dX4_lead_70 (lv_at hl 6 rfl) ?_
              refine lv_iconst (v := nI 2) hx hb dX4_lead_72 (by decide) ?_
              refine lv_iload_n hx hb dX4_lead_73 rfl (lv_at hl 1 rfl) ?_
              refine lv_ri (y := (nI (tN xp))) (tN_eq hP9) ?_
              refine lv_imul hx hb dX4_lead_74 ?_
              refine lv_ri (y := (nI (2 * (tN xp)))) (pk_mul 2 (tN xp)) ?_
              refine lv_iload_n hx hb dX4_lead_75 rfl (lv_at hl 2 rfl) ?_
              refine lv_ri (y := (nI (tN xo))) (tN_eq hO) ?_
              refine lv_iadd hx hb dX4_lead_76 ?_
              refine lv_ri (y := (nI ((2 * (tN xp)) + (tN xo)))) (nI_add (2 * (tN xp)) (tN xo)) ?_
              refine lv_icmp_eq (tgt := 84) hx hb dX4_lead_77 (by decide) (fun c_16 => ?_) (fun c_16 => ?_)
              · skip
                have c_16 : i_5 = ((2 * (tN xp)) + (tN xo)) := (ci_eq (by omega) (by omega)).mp c_16
                refine lv_aload_n hx hb dX4_lead_84 rfl (lv_at hl 0 rfl) ?_
                refine va_get (D := E.1) (ci := 4) (v := .int (nI (tkM le (2 * tN xp + tN xo) (2 * tN xq + tN xi + 1) (i_5) 0))) (C := RX4) (T := TX4) (N := 25) hx hb hts iX4 hown C0.1 hP 0 rfl rfl 0 (by decide) (hts (.fieldLink RX4 72 "RingresonanceModel" "thrown" "I") (by decide +kernel)) (fun _ h9 => h9) rfl dX4_lead_85 ?_
                refine lv_ri (y := (nI (tkM le (2 * tN xp + tN xo) (2 * tN xq + tN xi + 1) (i_5 + 1) 0))) (congrArg nI (by rw [tkM_s, if_neg (fun h => by first | exact c_16 h.1 | exact h.2 c_16)])) ?_
                have hl : lv_has ls 7 [(0, .ref aM), (1, .int xp), (2, .int xo), (3, .int xq), (4, .int xi), (5, .int (nI (2 * tN xq + tN xi + 1))), (6, .int (nI i_5))] := lv_sub hl [0, 1, 2, 3, 4, 5, 6] rfl
                exact JN_14   _ _ hP hD hS _ hl
              · skip
                have c_16 : ¬ (i_5 = ((2 * (tN xp)) + (tN xo))) := fun h => c_16 ((ci_eq (by omega) (by omega)).mpr h)
                refine lv_iconst (v := nI 2) hx hb dX4_lead_80 (by decide) ?_
                refine lv_ri (y := (nI (tkM le (2 * tN xp + tN xo) (2 * tN xq + tN xi + 1) (i_5 + 1) 0))) (congrArg nI (by rw [tkM_s, if_pos ⟨c_15, c_16⟩])) ?_
                refine lv_goto (tgt := 88) hx hb dX4_lead_81 (by decide) ?_
                have hl : lv_has ls 7 [(0, .ref aM), (1, .int xp), (2, .int xo), (3, .int xq), (4, .int xi), (5, .int (nI (2 * tN xq + tN xi + 1))), (6, .int (nI i_5))] := lv_sub hl [0, 1, 2, 3, 4, 5, 6] rfl
                exact JN_14   _ _ hP hD hS _ hl
      have q_17 : (nI (tkM le (2 * tN xp + tN xo) (2 * tN xq + tN xi + 1) (0) 0)) = (nI (leaA n kd xp xo xq xi)) := by exact congrArg nI (show tkM _ _ _ 0 0 = _ from (c_2).symm)
      have hP : va_P E.1 vwCl [(aM, o4 (nI (tkM le (2 * tN xp + tN xo) (2 * tN xq + tN xi + 1) (0) 0)) (nI n) mK mX mY mF mS mL mQ mW mA mD mO mV mC mT mE mN mH mZ mP em gn lk (nI lst)), (mK, ia E nI 16 kd), (mL, ia E nI 32 le)] H := by rw [q_17]; exact hP
      have hD : va_D A [(aM, o4 (nI (tkM le (2 * tN xp + tN xo) (2 * tN xq + tN xi + 1) (0) 0)) (nI n) mK mX mY mF mS mL mQ mW mA mD mO mV mC mT mE mN mH mZ mP em gn lk (nI lst)), (mK, ia E nI 16 kd), (mL, ia E nI 32 le)] := by rw [q_17]; exact hD
      have hl : lv_has ls 7 [(0, .ref aM), (1, .int xp), (2, .int xo), (3, .int xq), (4, .int xi), (5, .int (nI (2 * tN xq + tN xi + 1))), (6, .int (nI 0))] := lv_sub hl [2, 3, 4, 5, 6, 1, 0] rfl
      exact LP_3 (32 + 1) 0 (by omega) (by omega) _ _ hP hD hS _ hl
    · skip
      have c_2 : ¬ ((leaA n kd xp xo xq xi) = 0) := fun h => c_2 ((ci0_eq (by omega)).mpr h)
      have hlC := leaC_B (le := le) c_2
      refine lv_iconst (v := nI 0) hx hb dX4_lead_35 (by decide) ?_
      have q_18 : (nI (leaC n kd le xp xo xq xi)) = (nI (leaA n kd xp xo xq xi)) := by first | exact congrArg nI hlC | (rw [hlC, if_neg c_2]; done)
      have q_19 : (if leaC n kd le xp xo xq xi = 0 then va_up le (2 * tN xp + tN xo) (2 * tN xq + tN xi + 1) else le) = le := by first | exact congrArg nI hlC | (rw [hlC, if_neg c_2]; done)
      have hP : va_P E.1 vwCl [(aM, o4 (nI (leaC n kd le xp xo xq xi)) (nI n) mK mX mY mF mS mL mQ mW mA mD mO mV mC mT mE mN mH mZ mP em gn lk (nI lst)), (mK, ia E nI 16 kd), (mL, ia E nI 32 (if leaC n kd le xp xo xq xi = 0 then va_up le (2 * tN xp + tN xo) (2 * tN xq + tN xi + 1) else le))] H := by rw [q_18, q_19]; exact hP
      have hD : va_D A [(aM, o4 (nI (leaC n kd le xp xo xq xi)) (nI n) mK mX mY mF mS mL mQ mW mA mD mO mV mC mT mE mN mH mZ mP em gn lk (nI lst)), (mK, ia E nI 16 kd), (mL, ia E nI 32 (if leaC n kd le xp xo xq xi = 0 then va_up le (2 * tN xp + tN xo) (2 * tN xq + tN xi + 1) else le))] := by rw [q_18, q_19]; exact hD
      have q_20 : (nI 0) = (if leaC n kd le xp xo xq xi = 0 then cL (ledF (le (2 * tN xp + tN xo))) else nI 0) := by symm; first | exact congrArg nI hlC | (rw [hlC, if_neg c_2]; done)
      exact exI hx hb hr hlocks hAe hS () q_20 hP hD dX4_lead_36
  refine lv_aload_n hx hb dX4_lead_1 rfl (lv_at hl 0 rfl) ?_
  refine lv_iload_n hx hb dX4_lead_2 rfl (lv_at hl 1 rfl) ?_
  refine lv_iload_n hx hb dX4_lead_3 rfl (lv_at hl 2 rfl) ?_
  have hPc := hP.pick (ws' := [(aM, o4 (nI th) (nI n) mK mX mY mF mS mL mQ mW mA mD mO mV mC mT mE mN mH mZ mP em gn lk (nI lst)), (mK, ia E nI 16 kd)]) [0, 1] rfl
  have hDc := hD.sub (ws' := [(aM, o4 (nI th) (nI n) mK mX mY mF mS mL mQ mW mA mD mO mV mC mT mE mN mH mZ mP em gn lk (nI lst)), (mK, ia E nI 16 kd)]) [0, 1] (by decide) rfl
  refine kcI (wr := [(mL, ia E nI 32 le)]) (w1 := fun _ : Unit => [(aM, o4 (nI th) (nI n) mK mX mY mF mS mL mQ mW mA mD mO mV mC mT mE mN mH mZ mP em gn lk (nI lst)), (mK, ia E nI 16 kd)]) (w2 := fun _ => [(aM, o4 (nI th) (nI n) mK mX mY mF mS mL mQ mW mA mD mO mV mC mT mE mN mH mZ mP em gn lk (nI lst)), (mK, ia E nI 16 kd), (mL, ia E nI 32 le)]) (va_runV (As := [.int xp, .int xo]) (rest := [.ref aM]) ⟨hx, hb, hml, hown, hts⟩ (m_isOutput l E H.size xp xo aM mK mX mY mF mS mL mQ mW mA mD mO mV mC mT mE mN mH mZ mP th n lst em gn lk kd (hn) (hk)) (cwV 2 hts gX4_lead_X4_isOutput rfl rfl rfl (by decide +kernel) ⟨Nat.le_of_ble_eq_true rfl, Nat.le_of_ble_eq_true rfl⟩) (preV C0 hPc hDc hS 0 rfl rfl) rfl rfl hl.1 rfl (lv_room (Nat.le_of_ble_eq_true rfl)) dX4_lead_4 ⟨Nat.le_refl _, Nat.le_refl _⟩) C0 hP hD hS [0, 1] [2] [1, 2, 0] rfl rfl (by decide) (by decide) (fun _ => rfl) (by decide) (fun r_9 _u H locs hw hP hD hS => ?_)
  have hP : va_P E.1 vwCl [(aM, o4 (nI th) (nI n) mK mX mY mF mS mL mQ mW mA mD mO mV mC mT mE mN mH mZ mP em gn lk (nI lst)), (mK, ia E nI 16 kd), (mL, ia E nI 32 le)] H := hP
  have hD : va_D A [(aM, o4 (nI th) (nI n) mK mX mY mF mS mL mQ mW mA mD mO mV mC mT mE mN mH mZ mP em gn lk (nI lst)), (mK, ia E nI 16 kd), (mL, ia E nI 32 le)] := hD
  have hw : r_9 = bI ((nI 0 ≤ xp ∧ xp ≤ cL n) ∧ (nI 0 ≤ xo ∧ xo ≤ cL (stV 1 (kd (tN xp))))) := hw
  subst hw
  refine lv_if_eq (tgt := 24) hx hb dX4_lead_7 (by decide) (fun c_21 => ?_) (fun c_21 => ?_)
  · skip
    have c_21 : ¬ ((nI 0 ≤ xp ∧ xp ≤ cL n) ∧ (nI 0 ≤ xo ∧ xo ≤ cL (stV 1 (kd (tN xp))))) := bI_eq0.mp c_21
    refine lv_iconst (v := nI 1) hx hb dX4_lead_24 (by decide) ?_
    refine lv_ri (y := (nI (leaA n kd xp xo xq xi))) (congrArg nI (show _ = leaA n kd xp xo xq xi by unfold leaA; simp [c_21])) ?_
    have hl : lv_has ls 7 [(0, .ref aM), (1, .int xp), (2, .int xo), (3, .int xq), (4, .int xi)] := lv_sub hl [0, 1, 2, 3, 4] rfl
    exact JN_1   _ _ hP hD hS _ hl
  · skip
    have c_21 : (nI 0 ≤ xp ∧ xp ≤ cL n) ∧ (nI 0 ≤ xo ∧ xo ≤ cL (stV 1 (kd (tN xp)))) := bI_ne0.mp c_21
    refine lv_aload_n hx hb dX4_lead_10 rfl (lv_at hl 0 rfl) ?_
    refine lv_iload_n hx hb dX4_lead_11 rfl (lv_at hl 3 rfl) ?_
    refine lv_iload hx hb dX4_lead_12 (lv_at hl 4 rfl) ?_
    have hPc := hP.pick (ws' := [(aM, o4 (nI th) (nI n) mK mX mY mF mS mL mQ mW mA mD mO mV mC mT mE mN mH mZ mP em gn lk (nI lst)), (mK, ia E nI 16 kd)]) [0, 1] rfl
    have hDc := hD.sub (ws' := [(aM, o4 (nI th) (nI n) mK mX mY mF mS mL mQ mW mA mD mO mV mC mT mE mN mH mZ mP em gn lk (nI lst)), (mK, ia E nI 16 kd)]) [0, 1] (by decide) rfl
    refine kcI (wr := [(mL, ia E nI 32 le)]) (w1 := fun _ : Unit => [(aM, o4 (nI th) (nI n) mK mX mY mF mS mL mQ mW mA mD mO mV mC mT mE mN mH mZ mP em gn lk (nI lst)), (mK, ia E nI 16 kd)]) (w2 := fun _ => [(aM, o4 (nI th) (nI n) mK mX mY mF mS mL mQ mW mA mD mO mV mC mT mE mN mH mZ mP em gn lk (nI lst)), (mK, ia E nI 16 kd), (mL, ia E nI 32 le)]) (va_runV (As := [.int xq, .int xi]) (rest := [.ref aM]) ⟨hx, hb, hml, hown, hts⟩ (m_isInput l E H.size xq xi aM mK mX mY mF mS mL mQ mW mA mD mO mV mC mT mE mN mH mZ mP th n lst em gn lk kd (hn) (hk)) (cwV 2 hts gX4_lead_X4_isInput rfl rfl rfl (by decide +kernel) ⟨Nat.le_of_ble_eq_true rfl, Nat.le_of_ble_eq_true rfl⟩) (preV C0 hPc hDc hS 0 rfl rfl) rfl rfl hl.1 rfl (lv_room (Nat.le_of_ble_eq_true rfl)) dX4_lead_14 ⟨Nat.le_refl _, Nat.le_refl _⟩) C0 hP hD hS [0, 1] [2] [1, 2, 0] rfl rfl (by decide) (by decide) (fun _ => rfl) (by decide) (fun r_9 _u H locs hw hP hD hS => ?_)
    have hP : va_P E.1 vwCl [(aM, o4 (nI th) (nI n) mK mX mY mF mS mL mQ mW mA mD mO mV mC mT mE mN mH mZ mP em gn lk (nI lst)), (mK, ia E nI 16 kd), (mL, ia E nI 32 le)] H := hP
    have hD : va_D A [(aM, o4 (nI th) (nI n) mK mX mY mF mS mL mQ mW mA mD mO mV mC mT mE mN mH mZ mP em gn lk (nI lst)), (mK, ia E nI 16 kd), (mL, ia E nI 32 le)] := hD
    have hw : r_9 = bI ((nI 0 ≤ xq ∧ xq ≤ cL n) ∧ (nI 0 ≤ xi ∧ xi ≤ cL (stV 0 (kd (tN xq))))) := hw
    subst hw
    refine lv_if_eq (tgt := 24) hx hb dX4_lead_17 (by decide) (fun c_22 => ?_) (fun c_22 => ?_)
    · skip
      have c_22 : ¬ ((nI 0 ≤ xq ∧ xq ≤ cL n) ∧ (nI 0 ≤ xi ∧ xi ≤ cL (stV 0 (kd (tN xq))))) := bI_eq0.mp c_22
      refine lv_iconst (v := nI 1) hx hb dX4_lead_24 (by decide) ?_
      refine lv_ri (y := (nI (leaA n kd xp xo xq xi))) (congrArg nI (show _ = leaA n kd xp xo xq xi by unfold leaA; simp [c_21, c_22])) ?_
      have hl : lv_has ls 7 [(0, .ref aM), (1, .int xp), (2, .int xo), (3, .int xq), (4, .int xi)] := lv_sub hl [0, 1, 2, 3, 4] rfl
      exact JN_1   _ _ hP hD hS _ hl
    · skip
      have c_22 : (nI 0 ≤ xq ∧ xq ≤ cL n) ∧ (nI 0 ≤ xi ∧ xi ≤ cL (stV 0 (kd (tN xq)))) := bI_ne0.mp c_22
      refine lv_iconst (v := nI 0) hx hb dX4_lead_20 (by decide) ?_
      refine lv_ri (y := (nI (leaA n kd xp xo xq xi))) (congrArg nI (show _ = leaA n kd xp xo xq xi by unfold leaA; simp [c_21, c_22])) ?_
      refine lv_goto (tgt := 25) hx hb dX4_lead_21 (by decide) ?_
      have hl : lv_has ls 7 [(0, .ref aM), (1, .int xp), (2, .int xo), (3, .int xq), (4, .int xi)] := lv_sub hl [0, 1, 2, 3, 4] rfl
      exact JN_1   _ _ hP hD hS _ hl
