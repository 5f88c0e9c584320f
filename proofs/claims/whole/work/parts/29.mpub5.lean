def ofpC (n : Nat) (xp xw : Int32) : Nat := if (nI 0 ≤ xp ∧ xp ≤ cL n) then (if (nI 0 ≤ xw ∧ xw ≤ nI 5) then 0 else 2) else 1
theorem ofpC_lt (n : Nat) (xp xw : Int32) : ofpC n xp xw < 4 := by unfold ofpC; repeat (first | omega | split)
theorem ofpC_0 {n : Nat} {xp xw : Int32} (h : ofpC n xp xw = 0) : (nI 0 ≤ xp ∧ xp ≤ cL n) ∧ (nI 0 ≤ xw ∧ xw ≤ nI 5) := by
  unfold ofpC at h
  split at h
  · split at h
    · exact ⟨by assumption, by assumption⟩
    · exact absurd h (by decide)
  · exact absurd h (by decide)
def ofR (w k s c v h l : Nat) : Int32 := if w = 0 then nI k else if w = 1 then nI s else if w = 2 then (if k = 3 then nI c else -1) else if w = 3 then nI v else if w = 4 then cL h else nI l

set_option maxHeartbeats 4000000 in
set_option maxRecDepth 100000 in
theorem m_ofPart (l : Launch) (E : EnvT) (sz : Nat) (xp xw : Int32) (aM mK mX mY mF mS mL mQ mW mA mD mO mV mC mT mE mN mH mZ mP : Nat) (th n lst : Nat) (em gn lk : Int64) (kd fi se chn los wm ofm : Nat → Nat) (hn : n ≤ 16) (hk : ∀ j, j < n → kd j ≤ 5) (hf : ∀ j, j < n → fi j ≤ 8) (ho : ofm 0 ≤ 16) (hw : ∀ j, j < 16 → wm (16 * 0 + j) ≤ 20000) : MI l yX4_ofPart wsX4_ofPart ({ frames := 2, cells := 0, slots := 0, locals := 43 }) E sz [.ref aM, .int xp, .int xw] [(aM, o4 (nI th) (nI n) mK mX mY mF mS mL mQ mW mA mD mO mV mC mT mE mN mH mZ mP em gn lk (nI lst)), (mK, ia E nI 16 kd), (mF, ia E nI 16 fi), (mS, ia E nI 16 se), (mQ, ia E cL 16 chn), (mO, ia E nI 16 los), (mH, ia E nI 32 wm), (mP, ia E cO 2 ofm)] (fun (r : Int32) (_ : Unit) => r = if ofpC n xp xw = 0 then ofR (tN xw) (kd (tN xp)) (se (tN xp)) (cnt fi (fun j => wm (16 * 0 + j)) (ofm 0) (tN xp)) (wm (tN xp)) (chn (tN xp)) (los (tN xp)) else nI 0) (fun _ => [(aM, o4 (nI (ofpC n xp xw)) (nI n) mK mX mY mF mS mL mQ mW mA mD mO mV mC mT mE mN mH mZ mP em gn lk (nI lst)), (mK, ia E nI 16 kd), (mF, ia E nI 16 fi), (mS, ia E nI 16 se), (mQ, ia E cL 16 chn), (mO, ia E nI 16 los), (mH, ia E nI 32 wm), (mP, ia E cO 2 ofm)]) := by
  refine enI (cc := cX4_ofPart) (maxL := 3) (ret := .int) (by decide +kernel) rfl (Nat.le_of_ble_eq_true rfl) ?_
  intro p e s m below meth c A ls hx hb hr hml hts hown hlocks hAe C0 hP hD hS hl
  have hown : s.vm.findClass RX4 = some m.cls := hown
  have hl : lv_has ls 3 [(0, .ref aM), (1, .int xp), (2, .int xw)] := hl
  have iX4 : ∀ w ∈ u_ws RX4 TX4 25, w ∈ wsX4_ofPart := by decide +kernel
  obtain ⟨H, hHe⟩ : ∃ z, z = s.heap := ⟨_, rfl⟩
  obtain ⟨locs, hLe⟩ : ∃ z : List Loc, z = [] := ⟨_, rfl⟩
  have hP : va_P E.1 vwCl [(aM, o4 (nI th) (nI n) mK mX mY mF mS mL mQ mW mA mD mO mV mC mT mE mN mH mZ mP em gn lk (nI lst)), (mK, ia E nI 16 kd), (mF, ia E nI 16 fi), (mS, ia E nI 16 se), (mQ, ia E cL 16 chn), (mO, ia E nI 16 los), (mH, ia E nI 32 wm), (mP, ia E cO 2 ofm)] H := by rw [hHe]; exact hP
  have hD : va_D A [(aM, o4 (nI th) (nI n) mK mX mY mF mS mL mQ mW mA mD mO mV mC mT mE mN mH mZ mP em gn lk (nI lst)), (mK, ia E nI 16 kd), (mF, ia E nI 16 fi), (mS, ia E nI 16 se), (mQ, ia E cL 16 chn), (mO, ia E nI 16 los), (mH, ia E nI 32 wm), (mP, ia E cO 2 ofm)] := hD
  have hS : va_S A s.heap H locs := by rw [hHe, hLe]; exact hS
  suffices hgo : W p l e _ s m _ below meth c H locs 0 0 _ (F0 m 0 ls []) by rw [hHe, hLe] at hgo; exact hgo
  clear hHe hLe
  have hcb := ofpC_lt n xp xw
  refine lv_aload_n hx hb dX4_ofPart_0 rfl (lv_at hl 0 rfl) ?_
  have JN_1 : ∀ (H : Heap) (locs : List Loc), va_P E.1 vwCl [(aM, o4 (nI th) (nI n) mK mX mY mF mS mL mQ mW mA mD mO mV mC mT mE mN mH mZ mP em gn lk (nI lst)), (mK, ia E nI 16 kd), (mF, ia E nI 16 fi), (mS, ia E nI 16 se), (mQ, ia E cL 16 chn), (mO, ia E nI 16 los), (mH, ia E nI 32 wm), (mP, ia E cO 2 ofm)] H → va_D A [(aM, o4 (nI th) (nI n) mK mX mY mF mS mL mQ mW mA mD mO mV mC mT mE mN mH mZ mP em gn lk (nI lst)), (mK, ia E nI 16 kd), (mF, ia E nI 16 fi), (mS, ia E nI 16 se), (mQ, ia E cL 16 chn), (mO, ia E nI 16 los), (mH, ia E nI 32 wm), (mP, ia E cO 2 ofm)] → va_S A s.heap H locs → ∀ (ls : Array Slot), lv_has ls 3 [(0, .ref aM), (1, .int xp), (2, .int xw)] → W p l e ({ frames := 2, cells := 0, slots := 0, locals := 43 }) s m (([.ref aM, .int xp, .int xw] : List Value).toArray) below meth c H locs 0 0 (MQ below (va_Qi (fun (r : Int32) (_ : Unit) => r = if ofpC n xp xw = 0 then ofR (tN xw) (kd (tN xp)) (se (tN xp)) (cnt fi (fun j => wm (16 * 0 + j)) (ofm 0) (tN xp)) (wm (tN xp)) (chn (tN xp)) (los (tN xp)) else nI 0) (Wd E [(aM, o4 (nI th) (nI n) mK mX mY mF mS mL mQ mW mA mD mO mV mC mT mE mN mH mZ mP em gn lk (nI lst)), (mK, ia E nI 16 kd), (mF, ia E nI 16 fi), (mS, ia E nI 16 se), (mQ, ia E cL 16 chn), (mO, ia E nI 16 los), (mH, ia E nI 32 wm), (mP, ia E cO 2 ofm)] s.heap.size (fun _ => [(aM, o4 (nI (ofpC n xp xw)) (nI n) mK mX mY mF mS mL mQ mW mA mD mO mV mC mT mE mN mH mZ mP em gn lk (nI lst)), (mK, ia E nI 16 kd), (mF, ia E nI 16 fi), (mS, ia E nI 16 se), (mQ, ia E cL 16 chn), (mO, ia E nI 16 los), (mH, ia E nI 32 wm), (mP, ia E cO 2 ofm)])) A) (([.ref aM, .int xp, .int xw] : List Value).toArray) s 0 0 A) (F0 m 27 ls [.int (nI (ofpC n xp xw)), .ref aM]) := by
    intro   H locs hP hD hS ls hl
    refine va_put (D := E.1) (ci := 4) (v := .int (nI (ofpC n xp xw))) (ty := .int) (C := RX4) (T := TX4) (N := 25) hx hb hts iX4 tyX4 tyX4_ok nmX4 hown C0.1 hP hD hS 0 rfl rfl 0 (by decide) (hts (.fieldLink RX4 72 "RingresonanceModel" "thrown" "I") (by decide +kernel)) (fun _ h9 => h9) rfl (by decide +kernel) rfl rfl (Nat.le_of_ble_eq_true rfl) dX4_ofPart_27 (fun H locs hP hD hS => ?_)
    have hP : va_P E.1 vwCl [(aM, o4 (nI (ofpC n xp xw)) (nI n) mK mX mY mF mS mL mQ mW mA mD mO mV mC mT mE mN mH mZ mP em gn lk (nI lst)), (mK, ia E nI 16 kd), (mF, ia E nI 16 fi), (mS, ia E nI 16 se), (mQ, ia E cL 16 chn), (mO, ia E nI 16 los), (mH, ia E nI 32 wm), (mP, ia E cO 2 ofm)] H := hP
    have hD : va_D A [(aM, o4 (nI (ofpC n xp xw)) (nI n) mK mX mY mF mS mL mQ mW mA mD mO mV mC mT mE mN mH mZ mP em gn lk (nI lst)), (mK, ia E nI 16 kd), (mF, ia E nI 16 fi), (mS, ia E nI 16 se), (mQ, ia E cL 16 chn), (mO, ia E nI 16 los), (mH, ia E nI 32 wm), (mP, ia E cO 2 ofm)] := hD
    refine lv_aload_n hx hb dX4_ofPart_30 rfl (lv_at hl 0 rfl) ?_
    refine va_get (D := E.1) (ci := 4) (v := .int (nI (ofpC n xp xw))) (C := RX4) (T := TX4) (N := 25) hx hb hts iX4 hown C0.1 hP 0 rfl rfl 0 (by decide) (hts (.fieldLink RX4 72 "RingresonanceModel" "thrown" "I") (by decide +kernel)) (fun _ h9 => h9) rfl dX4_ofPart_31 ?_
    refine lv_if_eq (tgt := 39) hx hb dX4_ofPart_34 (by decide) (fun c_2 => ?_) (fun c_2 => ?_)
    · skip
      have c_2 : (ofpC n xp xw) = 0 := (ci0_eq (by omega)).mp c_2
      obtain ⟨hP9, hW9⟩ := ofpC_0 c_2
      have htn := cL_le (by omega) hP9
      have hkk := hk _ htn
      have hw5 := tN_le (by omega) hW9.2
      rw [show xw = nI (tN xw) from tN_eq hW9] at hl
      refine lv_iload_n hx hb dX4_ofPart_39 rfl (lv_at hl 2 rfl) ?_
      refine lv_if_ne (tgt := 52) hx hb dX4_ofPart_40 (by decide) (fun c_3 => ?_) (fun c_3 => ?_)
      · skip
        have c_3 : ¬ ((tN xw) = 0) := fun h => c_3 ((ci0_eq (by omega)).mpr h)
        refine lv_iload_n hx hb dX4_ofPart_52 rfl (lv_at hl 2 rfl) ?_
        refine lv_iconst (v := nI 1) hx hb dX4_ofPart_53 (by decide) ?_
        refine lv_icmp_ne (tgt := 66) hx hb dX4_ofPart_54 (by decide) (fun c_4 => ?_) (fun c_4 => ?_)
        · skip
          have c_4 : ¬ ((tN xw) = 1) := fun h => c_4 ((ci_eq (by omega) (by omega)).mpr h)
          refine lv_iload_n hx hb dX4_ofPart_66 rfl (lv_at hl 2 rfl) ?_
          refine lv_iconst (v := nI 2) hx hb dX4_ofPart_67 (by decide) ?_
          refine lv_icmp_ne (tgt := 94) hx hb dX4_ofPart_68 (by decide) (fun c_5 => ?_) (fun c_5 => ?_)
          · skip
            have c_5 : ¬ ((tN xw) = 2) := fun h => c_5 ((ci_eq (by omega) (by omega)).mpr h)
            refine lv_iload_n hx hb dX4_ofPart_94 rfl (lv_at hl 2 rfl) ?_
            refine lv_iconst (v := nI 3) hx hb dX4_ofPart_95 (by decide) ?_
            refine lv_icmp_ne (tgt := 108) hx hb dX4_ofPart_96 (by decide) (fun c_6 => ?_) (fun c_6 => ?_)
            · skip
              have c_6 : ¬ ((tN xw) = 3) := fun h => c_6 ((ci_eq (by omega) (by omega)).mpr h)
              refine lv_iload_n hx hb dX4_ofPart_108 rfl (lv_at hl 2 rfl) ?_
              refine lv_iconst (v := nI 4) hx hb dX4_ofPart_109 (by decide) ?_
              refine lv_icmp_ne (tgt := 122) hx hb dX4_ofPart_110 (by decide) (fun c_7 => ?_) (fun c_7 => ?_)
              · skip
                have c_7 : ¬ ((tN xw) = 4) := fun h => c_7 ((ci_eq (by omega) (by omega)).mpr h)
                refine lv_aload_n hx hb dX4_ofPart_122 rfl (lv_at hl 0 rfl) ?_
                refine va_get (D := E.1) (ci := 4) (v := .ref mO) (C := RX4) (T := TX4) (N := 25) hx hb hts iX4 hown C0.1 hP 0 rfl rfl 12 (by decide) (hts (.fieldLink RX4 41 "RingresonanceModel" "lost" "[I") (by decide +kernel)) (fun _ h9 => h9) rfl dX4_ofPart_123 ?_
                refine lv_iload_n hx hb dX4_ofPart_126 rfl (lv_at hl 1 rfl) ?_
                refine lv_ri (y := (nI (tN xp))) (tN_eq hP9) ?_
                refine k_iald (e := (tN xp)) (g := nI) (n := 16) hx hb C0 hP 5 rfl (by omega) (by omega) dX4_ofPart_127 ?_
                have q_8 : (nI (los (tN xp))) = (if ofpC n xp xw = 0 then ofR (tN xw) (kd (tN xp)) (se (tN xp)) (cnt fi (fun j => wm (16 * 0 + j)) (ofm 0) (tN xp)) (wm (tN xp)) (chn (tN xp)) (los (tN xp)) else nI 0) := by symm; rw [if_pos c_2]; simp [ofR, c_3, c_4, c_5, c_6, c_7, trivial]
                exact exI hx hb hr hlocks hAe hS () q_8 hP hD dX4_ofPart_128
              · skip
                have c_7 : (tN xw) = 4 := (ci_eq (by omega) (by omega)).mp c_7
                refine lv_aload_n hx hb dX4_ofPart_113 rfl (lv_at hl 0 rfl) ?_
                refine va_get (D := E.1) (ci := 4) (v := .ref mQ) (C := RX4) (T := TX4) (N := 25) hx hb hts iX4 hown C0.1 hP 0 rfl rfl 8 (by decide) (hts (.fieldLink RX4 28 "RingresonanceModel" "locked" "[I") (by decide +kernel)) (fun _ h9 => h9) rfl dX4_ofPart_114 ?_
                refine lv_iload_n hx hb dX4_ofPart_117 rfl (lv_at hl 1 rfl) ?_
                refine lv_ri (y := (nI (tN xp))) (tN_eq hP9) ?_
                refine k_iald (e := (tN xp)) (g := cL) (n := 16) hx hb C0 hP 4 rfl (by omega) (by omega) dX4_ofPart_118 ?_
                refine lv_goto (tgt := 128) hx hb dX4_ofPart_119 (by decide) ?_
                have q_9 : (cL (chn (tN xp))) = (if ofpC n xp xw = 0 then ofR (tN xw) (kd (tN xp)) (se (tN xp)) (cnt fi (fun j => wm (16 * 0 + j)) (ofm 0) (tN xp)) (wm (tN xp)) (chn (tN xp)) (los (tN xp)) else nI 0) := by symm; rw [if_pos c_2]; simp [ofR, c_3, c_4, c_5, c_6, c_7, trivial]
                exact exI hx hb hr hlocks hAe hS () q_9 hP hD dX4_ofPart_128
            · skip
              have c_6 : (tN xw) = 3 := (ci_eq (by omega) (by omega)).mp c_6
              refine lv_aload_n hx hb dX4_ofPart_99 rfl (lv_at hl 0 rfl) ?_
              refine va_get (D := E.1) (ci := 4) (v := .ref mH) (C := RX4) (T := TX4) (N := 25) hx hb hts iX4 hown C0.1 hP 0 rfl rfl 18 (by decide) (hts (.fieldLink RX4 59 "RingresonanceModel" "warmth" "[I") (by decide +kernel)) (fun _ h9 => h9) rfl dX4_ofPart_100 ?_
              refine lv_iload_n hx hb dX4_ofPart_103 rfl (lv_at hl 1 rfl) ?_
              refine lv_ri (y := (nI (tN xp))) (tN_eq hP9) ?_
              refine k_iald (e := (tN xp)) (g := nI) (n := 32) hx hb C0 hP 6 rfl (by omega) (by omega) dX4_ofPart_104 ?_
              refine lv_goto (tgt := 128) hx hb dX4_ofPart_105 (by decide) ?_
              have q_10 : (nI (wm (tN xp))) = (if ofpC n xp xw = 0 then ofR (tN xw) (kd (tN xp)) (se (tN xp)) (cnt fi (fun j => wm (16 * 0 + j)) (ofm 0) (tN xp)) (wm (tN xp)) (chn (tN xp)) (los (tN xp)) else nI 0) := by symm; rw [if_pos c_2]; simp [ofR, c_3, c_4, c_5, c_6, trivial, trivial]
              exact exI hx hb hr hlocks hAe hS () q_10 hP hD dX4_ofPart_128
          · skip
            have c_5 : (tN xw) = 2 := (ci_eq (by omega) (by omega)).mp c_5
            refine lv_aload_n hx hb dX4_ofPart_71 rfl (lv_at hl 0 rfl) ?_
            refine va_get (D := E.1) (ci := 4) (v := .ref mK) (C := RX4) (T := TX4) (N := 25) hx hb hts iX4 hown C0.1 hP 0 rfl rfl 2 (by decide) (hts (.fieldLink RX4 7 "RingresonanceModel" "kind" "[I") (by decide +kernel)) (fun _ h9 => h9) rfl dX4_ofPart_72 ?_
            refine lv_iload_n hx hb dX4_ofPart_75 rfl (lv_at hl 1 rfl) ?_
            refine lv_ri (y := (nI (tN xp))) (tN_eq hP9) ?_
            refine k_iald (e := (tN xp)) (g := nI) (n := 16) hx hb C0 hP 1 rfl (by omega) (by omega) dX4_ofPart_76 ?_
            refine lv_iconst (v := nI 3) hx hb dX4_ofPart_77 (by decide) ?_
            refine lv_icmp_ne (tgt := 90) hx hb dX4_ofPart_78 (by decide) (fun c_11 => ?_) (fun c_11 => ?_)
            · skip
              have c_11 : ¬ ((kd (tN xp)) = 3) := fun h => c_11 ((ci_eq (by omega) (by omega)).mpr h)
              refine lv_iconst (v := -1) hx hb dX4_ofPart_90 (by decide) ?_
              refine lv_goto (tgt := 128) hx hb dX4_ofPart_91 (by decide) ?_
              have q_12 : (-1) = (if ofpC n xp xw = 0 then ofR (tN xw) (kd (tN xp)) (se (tN xp)) (cnt fi (fun j => wm (16 * 0 + j)) (ofm 0) (tN xp)) (wm (tN xp)) (chn (tN xp)) (los (tN xp)) else nI 0) := by symm; rw [if_pos c_2]; simp [ofR, c_3, c_4, c_5, c_11, trivial, trivial]
              exact exI hx hb hr hlocks hAe hS () q_12 hP hD dX4_ofPart_128
            · skip
              have c_11 : (kd (tN xp)) = 3 := (ci_eq (by omega) (by omega)).mp c_11
              refine lv_aload_n hx hb dX4_ofPart_81 rfl (lv_at hl 0 rfl) ?_
              refine lv_iconst (v := nI 0) hx hb dX4_ofPart_82 (by decide) ?_
              refine lv_iload_n hx hb dX4_ofPart_83 rfl (lv_at hl 1 rfl) ?_
              refine lv_ri (y := (nI (tN xp))) (tN_eq hP9) ?_
              have hPc := hP.pick (ws' := [(aM, o4 (nI (ofpC n xp xw)) (nI n) mK mX mY mF mS mL mQ mW mA mD mO mV mC mT mE mN mH mZ mP em gn lk (nI lst)), (mF, ia E nI 16 fi), (mH, ia E nI 32 wm), (mP, ia E cO 2 ofm)]) [0, 2, 6, 7] rfl
              have hDc := hD.sub (ws' := [(aM, o4 (nI (ofpC n xp xw)) (nI n) mK mX mY mF mS mL mQ mW mA mD mO mV mC mT mE mN mH mZ mP em gn lk (nI lst)), (mF, ia E nI 16 fi), (mH, ia E nI 32 wm), (mP, ia E cO 2 ofm)]) [0, 2, 6, 7] (by decide) rfl
              refine kcI (wr := [(mK, ia E nI 16 kd), (mS, ia E nI 16 se), (mQ, ia E cL 16 chn), (mO, ia E nI 16 los)]) (w1 := fun _ : Unit => [(aM, o4 (nI (ofpC n xp xw)) (nI n) mK mX mY mF mS mL mQ mW mA mD mO mV mC mT mE mN mH mZ mP em gn lk (nI lst)), (mF, ia E nI 16 fi), (mH, ia E nI 32 wm), (mP, ia E cO 2 ofm)]) (w2 := fun _ => [(aM, o4 (nI (ofpC n xp xw)) (nI n) mK mX mY mF mS mL mQ mW mA mD mO mV mC mT mE mN mH mZ mP em gn lk (nI lst)), (mK, ia E nI 16 kd), (mF, ia E nI 16 fi), (mS, ia E nI 16 se), (mQ, ia E cL 16 chn), (mO, ia E nI 16 los), (mH, ia E nI 32 wm), (mP, ia E cO 2 ofm)]) (va_runV (As := [.int (nI 0), .int (nI (tN xp))]) (rest := []) ⟨hx, hb, hml, hown, hts⟩ (m_center l E H.size 0 (tN xp) aM mK mX mY mF mS mL mQ mW mA mD mO mV mC mT mE mN mH mZ mP (ofpC n xp xw) n lst em gn lk fi wm ofm (by omega) (by omega) (by have := hf _ htn; have := hw _ (by omega : tN xp < 16); omega)) (cwV 2 hts gX4_ofPart_X4_center rfl rfl rfl (by decide +kernel) ⟨Nat.le_of_ble_eq_true rfl, Nat.le_of_ble_eq_true rfl⟩) (preV C0 hPc hDc hS 0 rfl rfl) rfl rfl hl.1 rfl (lv_room (Nat.le_of_ble_eq_true rfl)) dX4_ofPart_84 ⟨Nat.le_refl _, Nat.le_refl _⟩) C0 hP hD hS [0, 2, 6, 7] [1, 3, 4, 5] [4, 0, 5, 1, 2, 3, 6, 7] rfl rfl (by decide) (by decide) (fun _ => rfl) (by decide) (fun r_9 _u H locs hw hP hD hS => ?_)
              have hP : va_P E.1 vwCl [(aM, o4 (nI (ofpC n xp xw)) (nI n) mK mX mY mF mS mL mQ mW mA mD mO mV mC mT mE mN mH mZ mP em gn lk (nI lst)), (mK, ia E nI 16 kd), (mF, ia E nI 16 fi), (mS, ia E nI 16 se), (mQ, ia E cL 16 chn), (mO, ia E nI 16 los), (mH, ia E nI 32 wm), (mP, ia E cO 2 ofm)] H := hP
              have hD : va_D A [(aM, o4 (nI (ofpC n xp xw)) (nI n) mK mX mY mF mS mL mQ mW mA mD mO mV mC mT mE mN mH mZ mP em gn lk (nI lst)), (mK, ia E nI 16 kd), (mF, ia E nI 16 fi), (mS, ia E nI 16 se), (mQ, ia E cL 16 chn), (mO, ia E nI 16 los), (mH, ia E nI 32 wm), (mP, ia E cO 2 ofm)] := hD
              have hw : r_9 = nI (cnt fi (fun j => wm (16 * 0 + j)) (ofm 0) (tN xp)) := hw
              subst hw
              refine lv_goto (tgt := 128) hx hb dX4_ofPart_87 (by decide) ?_
              have q_13 : (nI (cnt fi (fun j => wm (16 * 0 + j)) (ofm 0) (tN xp))) = (if ofpC n xp xw = 0 then ofR (tN xw) (kd (tN xp)) (se (tN xp)) (cnt fi (fun j => wm (16 * 0 + j)) (ofm 0) (tN xp)) (wm (tN xp)) (chn (tN xp)) (los (tN xp)) else nI 0) := by symm; rw [if_pos c_2]; simp [ofR, c_3, c_4, c_5, c_11, trivial, trivial]
              exact exI hx hb hr hlocks hAe hS () q_13 hP hD dX4_ofPart_128
        · skip
          have c_4 : (tN xw) = 1 := (ci_eq (by omega) (by omega)).mp c_4
          refine lv_aload_n hx hb dX4_ofPart_57 rfl (lv_at hl 0 rfl) ?_
          refine va_get (D := E.1) (ci := 4) (v := .ref mS) (C := RX4) (T := TX4) (N := 25) hx hb hts iX4 hown C0.1 hP 0 rfl rfl 6 (by decide) (hts (.fieldLink RX4 22 "RingresonanceModel" "second" "[I") (by decide +kernel)) (fun _ h9 => h9) rfl dX4_ofPart_58 ?_
          refine lv_iload_n hx hb dX4_ofPart_61 rfl (lv_at hl 1 rfl) ?_
          refine lv_ri (y := (nI (tN xp))) (tN_eq hP9) ?_
          refine k_iald (e := (tN xp)) (g := nI) (n := 16) hx hb C0 hP 3 rfl (by omega) (by omega) dX4_ofPart_62 ?_
          refine lv_goto (tgt := 128) hx hb dX4_ofPart_63 (by decide) ?_
          have q_14 : (nI (se (tN xp))) = (if ofpC n xp xw = 0 then ofR (tN xw) (kd (tN xp)) (se (tN xp)) (cnt fi (fun j => wm (16 * 0 + j)) (ofm 0) (tN xp)) (wm (tN xp)) (chn (tN xp)) (los (tN xp)) else nI 0) := by symm; rw [if_pos c_2]; simp [ofR, c_3, c_4, trivial, trivial, trivial, trivial]
          exact exI hx hb hr hlocks hAe hS () q_14 hP hD dX4_ofPart_128
      · skip
        have c_3 : (tN xw) = 0 := (ci0_eq (by omega)).mp c_3
        refine lv_aload_n hx hb dX4_ofPart_43 rfl (lv_at hl 0 rfl) ?_
        refine va_get (D := E.1) (ci := 4) (v := .ref mK) (C := RX4) (T := TX4) (N := 25) hx hb hts iX4 hown C0.1 hP 0 rfl rfl 2 (by decide) (hts (.fieldLink RX4 7 "RingresonanceModel" "kind" "[I") (by decide +kernel)) (fun _ h9 => h9) rfl dX4_ofPart_44 ?_
        refine lv_iload_n hx hb dX4_ofPart_47 rfl (lv_at hl 1 rfl) ?_
        refine lv_ri (y := (nI (tN xp))) (tN_eq hP9) ?_
        refine k_iald (e := (tN xp)) (g := nI) (n := 16) hx hb C0 hP 1 rfl (by omega) (by omega) dX4_ofPart_48 ?_
        refine lv_goto (tgt := 128) hx hb dX4_ofPart_49 (by decide) ?_
        have q_15 : (nI (kd (tN xp))) = (if ofpC n xp xw = 0 then ofR (tN xw) (kd (tN xp)) (se (tN xp)) (cnt fi (fun j => wm (16 * 0 + j)) (ofm 0) (tN xp)) (wm (tN xp)) (chn (tN xp)) (los (tN xp)) else nI 0) := by symm; rw [if_pos c_2]; simp [ofR, c_3, trivial, trivial, trivial, trivial, trivial]
        exact exI hx hb hr hlocks hAe hS () q_15 hP hD dX4_ofPart_128
    · skip
      have c_2 : ¬ ((ofpC n xp xw) = 0) := fun h => c_2 ((ci0_eq (by omega)).mpr h)
      refine lv_iconst (v := nI 0) hx hb dX4_ofPart_37 (by decide) ?_
      have q_16 : (nI 0) = (if ofpC n xp xw = 0 then ofR (tN xw) (kd (tN xp)) (se (tN xp)) (cnt fi (fun j => wm (16 * 0 + j)) (ofm 0) (tN xp)) (wm (tN xp)) (chn (tN xp)) (los (tN xp)) else nI 0) := by symm; rw [if_neg c_2]
      exact exI hx hb hr hlocks hAe hS () q_16 hP hD dX4_ofPart_38
  refine lv_aload_n hx hb dX4_ofPart_1 rfl (lv_at hl 0 rfl) ?_
  refine lv_iload_n hx hb dX4_ofPart_2 rfl (lv_at hl 1 rfl) ?_
  have hPc := hP.pick (ws' := [(aM, o4 (nI th) (nI n) mK mX mY mF mS mL mQ mW mA mD mO mV mC mT mE mN mH mZ mP em gn lk (nI lst))]) [0] rfl
  have hDc := hD.sub (ws' := [(aM, o4 (nI th) (nI n) mK mX mY mF mS mL mQ mW mA mD mO mV mC mT mE mN mH mZ mP em gn lk (nI lst))]) [0] (by decide) rfl
  refine kcI (wr := [(mK, ia E nI 16 kd), (mF, ia E nI 16 fi), (mS, ia E nI 16 se), (mQ, ia E cL 16 chn), (mO, ia E nI 16 los), (mH, ia E nI 32 wm), (mP, ia E cO 2 ofm)]) (w1 := fun _ : Unit => [(aM, o4 (nI th) (nI n) mK mX mY mF mS mL mQ mW mA mD mO mV mC mT mE mN mH mZ mP em gn lk (nI lst))]) (w2 := fun _ => [(aM, o4 (nI th) (nI n) mK mX mY mF mS mL mQ mW mA mD mO mV mC mT mE mN mH mZ mP em gn lk (nI lst)), (mK, ia E nI 16 kd), (mF, ia E nI 16 fi), (mS, ia E nI 16 se), (mQ, ia E cL 16 chn), (mO, ia E nI 16 los), (mH, ia E nI 32 wm), (mP, ia E cO 2 ofm)]) (va_runV (As := [.int xp]) (rest := [.ref aM]) ⟨hx, hb, hml, hown, hts⟩ (m_isPart l E H.size xp aM mK mX mY mF mS mL mQ mW mA mD mO mV mC mT mE mN mH mZ mP th n lst em gn lk ) (cwV 1 hts gX4_ofPart_X4_isPart rfl rfl rfl (by decide +kernel) ⟨Nat.le_of_ble_eq_true rfl, Nat.le_of_ble_eq_true rfl⟩) (preV C0 hPc hDc hS 0 rfl rfl) rfl rfl hl.1 rfl (lv_room (Nat.le_of_ble_eq_true rfl)) dX4_ofPart_3 ⟨Nat.le_refl _, Nat.le_refl _⟩) C0 hP hD hS [0] [1, 2, 3, 4, 5, 6, 7] [7, 0, 1, 2, 3, 4, 5, 6] rfl rfl (by decide) (by decide) (fun _ => rfl) (by decide) (fun r_9 _u H locs hw hP hD hS => ?_)
  have hP : va_P E.1 vwCl [(aM, o4 (nI th) (nI n) mK mX mY mF mS mL mQ mW mA mD mO mV mC mT mE mN mH mZ mP em gn lk (nI lst)), (mK, ia E nI 16 kd), (mF, ia E nI 16 fi), (mS, ia E nI 16 se), (mQ, ia E cL 16 chn), (mO, ia E nI 16 los), (mH, ia E nI 32 wm), (mP, ia E cO 2 ofm)] H := hP
  have hD : va_D A [(aM, o4 (nI th) (nI n) mK mX mY mF mS mL mQ mW mA mD mO mV mC mT mE mN mH mZ mP em gn lk (nI lst)), (mK, ia E nI 16 kd), (mF, ia E nI 16 fi), (mS, ia E nI 16 se), (mQ, ia E cL 16 chn), (mO, ia E nI 16 los), (mH, ia E nI 32 wm), (mP, ia E cO 2 ofm)] := hD
  have hw : r_9 = bI (nI 0 ≤ xp ∧ xp ≤ cL n) := hw
  subst hw
  refine lv_if_ne (tgt := 13) hx hb dX4_ofPart_6 (by decide) (fun c_17 => ?_) (fun c_17 => ?_)
  · skip
    have c_17 : nI 0 ≤ xp ∧ xp ≤ cL n := bI_ne0.mp c_17
    refine lv_iload_n hx hb dX4_ofPart_13 rfl (lv_at hl 2 rfl) ?_
    refine lv_iconst (v := nI 0) hx hb dX4_ofPart_14 (by decide) ?_
    refine lv_iconst (v := nI 5) hx hb dX4_ofPart_15 (by decide) ?_
    have hPc := hP.pick (ws' := []) [] rfl
    have hDc := hD.sub (ws' := []) [] (by decide) rfl
    refine kcI (wr := [(aM, o4 (nI th) (nI n) mK mX mY mF mS mL mQ mW mA mD mO mV mC mT mE mN mH mZ mP em gn lk (nI lst)), (mK, ia E nI 16 kd), (mF, ia E nI 16 fi), (mS, ia E nI 16 se), (mQ, ia E cL 16 chn), (mO, ia E nI 16 los), (mH, ia E nI 32 wm), (mP, ia E cO 2 ofm)]) (w1 := fun _ : Unit => []) (w2 := fun _ => [(aM, o4 (nI th) (nI n) mK mX mY mF mS mL mQ mW mA mD mO mV mC mT mE mN mH mZ mP em gn lk (nI lst)), (mK, ia E nI 16 kd), (mF, ia E nI 16 fi), (mS, ia E nI 16 se), (mQ, ia E cL 16 chn), (mO, ia E nI 16 los), (mH, ia E nI 32 wm), (mP, ia E cO 2 ofm)]) (va_runS (As := [.int xw, .int (nI 0), .int (nI 5)]) (rest := [.ref aM]) ⟨hx, hb, hml, hown, hts⟩ (m_in l E H.size xw (nI 0) (nI 5) ) (va_cwS 3 hts gX4_ofPart_X4_in rfl rfl rfl (by decide +kernel) ⟨Nat.le_of_ble_eq_true rfl, Nat.le_of_ble_eq_true rfl⟩) (preS C0 hPc hDc hS) rfl rfl hl.1 rfl (lv_room (Nat.le_of_ble_eq_true rfl)) dX4_ofPart_16 ⟨Nat.le_refl _, Nat.le_refl _⟩) C0 hP hD hS [] [0, 1, 2, 3, 4, 5, 6, 7] [0, 1, 2, 3, 4, 5, 6, 7] rfl rfl (by decide) (by decide) (fun _ => rfl) (by decide) (fun r_9 _u H locs hw hP hD hS => ?_)
    have hP : va_P E.1 vwCl [(aM, o4 (nI th) (nI n) mK mX mY mF mS mL mQ mW mA mD mO mV mC mT mE mN mH mZ mP em gn lk (nI lst)), (mK, ia E nI 16 kd), (mF, ia E nI 16 fi), (mS, ia E nI 16 se), (mQ, ia E cL 16 chn), (mO, ia E nI 16 los), (mH, ia E nI 32 wm), (mP, ia E cO 2 ofm)] H := hP
    have hD : va_D A [(aM, o4 (nI th) (nI n) mK mX mY mF mS mL mQ mW mA mD mO mV mC mT mE mN mH mZ mP em gn lk (nI lst)), (mK, ia E nI 16 kd), (mF, ia E nI 16 fi), (mS, ia E nI 16 se), (mQ, ia E cL 16 chn), (mO, ia E nI 16 los), (mH, ia E nI 32 wm), (mP, ia E cO 2 ofm)] := hD
    have hw : r_9 = bI ((nI 0) ≤ xw ∧ xw ≤ (nI 5)) := hw
    subst hw
    refine lv_if_ne (tgt := 26) hx hb dX4_ofPart_19 (by decide) (fun c_18 => ?_) (fun c_18 => ?_)
    · skip
      have c_18 : (nI 0) ≤ xw ∧ xw ≤ (nI 5) := bI_ne0.mp c_18
      refine lv_iconst (v := nI 0) hx hb dX4_ofPart_26 (by decide) ?_
      refine lv_ri (y := (nI (ofpC n xp xw))) (congrArg nI (show _ = ofpC n xp xw by unfold ofpC; simp [c_17, c_18])) ?_
      have hl : lv_has ls 3 [(0, .ref aM), (1, .int xp), (2, .int xw)] := lv_sub hl [0, 1, 2] rfl
      exact JN_1   _ _ hP hD hS _ hl
    · skip
      have c_18 : ¬ ((nI 0) ≤ xw ∧ xw ≤ (nI 5)) := bI_eq0.mp c_18
      refine lv_iconst (v := nI 2) hx hb dX4_ofPart_22 (by decide) ?_
      refine lv_ri (y := (nI (ofpC n xp xw))) (congrArg nI (show _ = ofpC n xp xw by unfold ofpC; simp [c_17, c_18])) ?_
      refine lv_goto (tgt := 27) hx hb dX4_ofPart_23 (by decide) ?_
      have hl : lv_has ls 3 [(0, .ref aM), (1, .int xp), (2, .int xw)] := lv_sub hl [0, 1, 2] rfl
      exact JN_1   _ _ hP hD hS _ hl
  · skip
    have c_17 : ¬ (nI 0 ≤ xp ∧ xp ≤ cL n) := bI_eq0.mp c_17
    refine lv_iconst (v := nI 1) hx hb dX4_ofPart_9 (by decide) ?_
    refine lv_ri (y := (nI (ofpC n xp xw))) (congrArg nI (show _ = ofpC n xp xw by unfold ofpC; simp [c_17])) ?_
    refine lv_goto (tgt := 27) hx hb dX4_ofPart_10 (by decide) ?_
    have hl : lv_has ls 3 [(0, .ref aM), (1, .int xp), (2, .int xw)] := lv_sub hl [0, 1, 2] rfl
    exact JN_1   _ _ hP hD hS _ hl

def comC (n : Nat) (kd : Nat → Nat) (xq xi xc : Int32) : Nat := if ((nI 0 ≤ xq ∧ xq ≤ cL n) ∧ (nI 0 ≤ xi ∧ xi ≤ cL (stV 0 (kd (tN xq))))) then (if (nI 0 ≤ xc ∧ xc ≤ nI 7) then 0 else 2) else 1
theorem comC_lt (n : Nat) (kd : Nat → Nat) (xq xi xc : Int32) : comC n kd xq xi xc < 4 := by unfold comC; repeat (first | omega | split)
theorem comC_0 {n : Nat} {kd : Nat → Nat} {xq xi xc : Int32} (h : comC n kd xq xi xc = 0) : ((nI 0 ≤ xq ∧ xq ≤ cL n) ∧ (nI 0 ≤ xi ∧ xi ≤ cL (stV 0 (kd (tN xq))))) ∧ (nI 0 ≤ xc ∧ xc ≤ nI 7) := by
  unfold comC at h
  split at h
  · split at h
    · exact ⟨by assumption, by assumption⟩
    · exact absurd h (by decide)
  · exact absurd h (by decide)

set_option maxHeartbeats 4000000 in
set_option maxRecDepth 100000 in
theorem m_comes (l : Launch) (E : EnvT) (sz : Nat) (xq xi xc : Int32) (aM mK mX mY mF mS mL mQ mW mA mD mO mV mC mT mE mN mH mZ mP : Nat) (th n lst : Nat) (em gn lk : Int64) (kd : Nat → Nat) (cm : Nat → Int64) (hn : n ≤ 16) (hk : ∀ j, j < n → kd j ≤ 5) : ML l yX4_comes wsX4_comes ({ frames := 3, cells := 0, slots := 0, locals := 65 }) E sz [.ref aM, .int xq, .int xi, .int xc] [(aM, o4 (nI th) (nI n) mK mX mY mF mS mL mQ mW mA mD mO mV mC mT mE mN mH mZ mP em gn lk (nI lst)), (mK, ia E nI 16 kd), (mC, ja E 512 cm)] (fun (r : Int64) (_ : Unit) => r = if comC n kd xq xi xc = 0 then cm (8 * (2 * tN xq + tN xi) + tN xc) else 0) (fun _ => [(aM, o4 (nI (comC n kd xq xi xc)) (nI n) mK mX mY mF mS mL mQ mW mA mD mO mV mC mT mE mN mH mZ mP em gn lk (nI lst)), (mK, ia E nI 16 kd), (mC, ja E 512 cm)]) := by
  refine enL (cc := cX4_comes) (maxL := 4) (by decide +kernel) rfl (Nat.le_of_ble_eq_true rfl) ?_
  intro p e s m below meth c A ls hx hb hr hml hts hown hlocks hAe C0 hP hD hS hl
  have hown : s.vm.findClass RX4 = some m.cls := hown
  have hl : lv_has ls 4 [(0, .ref aM), (1, .int xq), (2, .int xi), (3, .int xc)] := hl
  have iX4 : ∀ w ∈ u_ws RX4 TX4 25, w ∈ wsX4_comes := by decide +kernel
  obtain ⟨H, hHe⟩ : ∃ z, z = s.heap := ⟨_, rfl⟩
  obtain ⟨locs, hLe⟩ : ∃ z : List Loc, z = [] := ⟨_, rfl⟩
  have hP : va_P E.1 vwCl [(aM, o4 (nI th) (nI n) mK mX mY mF mS mL mQ mW mA mD mO mV mC mT mE mN mH mZ mP em gn lk (nI lst)), (mK, ia E nI 16 kd), (mC, ja E 512 cm)] H := by rw [hHe]; exact hP
  have hD : va_D A [(aM, o4 (nI th) (nI n) mK mX mY mF mS mL mQ mW mA mD mO mV mC mT mE mN mH mZ mP em gn lk (nI lst)), (mK, ia E nI 16 kd), (mC, ja E 512 cm)] := hD
  have hS : va_S A s.heap H locs := by rw [hHe, hLe]; exact hS
  suffices hgo : W p l e _ s m _ below meth c H locs 0 0 _ (F0 m 0 ls []) by rw [hHe, hLe] at hgo; exact hgo
  clear hHe hLe
  have hcb := comC_lt n kd xq xi xc
  refine lv_aload_n hx hb dX4_comes_0 rfl (lv_at hl 0 rfl) ?_
  have JN_1 : ∀ (H : Heap) (locs : List Loc), va_P E.1 vwCl [(aM, o4 (nI th) (nI n) mK mX mY mF mS mL mQ mW mA mD mO mV mC mT mE mN mH mZ mP em gn lk (nI lst)), (mK, ia E nI 16 kd), (mC, ja E 512 cm)] H → va_D A [(aM, o4 (nI th) (nI n) mK mX mY mF mS mL mQ mW mA mD mO mV mC mT mE mN mH mZ mP em gn lk (nI lst)), (mK, ia E nI 16 kd), (mC, ja E 512 cm)] → va_S A s.heap H locs → ∀ (ls : Array Slot), lv_has ls 4 [(0, .ref aM), (1, .int xq), (2, .int xi), (3, .int xc)] → W p l e ({ frames := 3, cells := 0, slots := 0, locals := 65 }) s m (([.ref aM, .int xq, .int xi, .int xc] : List Value).toArray) below meth c H locs 0 0 (MQ below (va_Ql (fun (r : Int64) (_ : Unit) => r = if comC n kd xq xi xc = 0 then cm (8 * (2 * tN xq + tN xi) + tN xc) else 0) (Wd E [(aM, o4 (nI th) (nI n) mK mX mY mF mS mL mQ mW mA mD mO mV mC mT mE mN mH mZ mP em gn lk (nI lst)), (mK, ia E nI 16 kd), (mC, ja E 512 cm)] s.heap.size (fun _ => [(aM, o4 (nI (comC n kd xq xi xc)) (nI n) mK mX mY mF mS mL mQ mW mA mD mO mV mC mT mE mN mH mZ mP em gn lk (nI lst)), (mK, ia E nI 16 kd), (mC, ja E 512 cm)])) A) (([.ref aM, .int xq, .int xi, .int xc] : List Value).toArray) s 0 0 A) (F0 m 29 ls [.int (nI (comC n kd xq xi xc)), .ref aM]) := by
    intro   H locs hP hD hS ls hl
    refine va_put (D := E.1) (ci := 4) (v := .int (nI (comC n kd xq xi xc))) (ty := .int) (C := RX4) (T := TX4) (N := 25) hx hb hts iX4 tyX4 tyX4_ok nmX4 hown C0.1 hP hD hS 0 rfl rfl 0 (by decide) (hts (.fieldLink RX4 72 "RingresonanceModel" "thrown" "I") (by decide +kernel)) (fun _ h9 => h9) rfl (by decide +kernel) rfl rfl (Nat.le_of_ble_eq_true rfl) dX4_comes_29 (fun H locs hP hD hS => ?_)
    have hP : va_P E.1 vwCl [(aM, o4 (nI (comC n kd xq xi xc)) (nI n) mK mX mY mF mS mL mQ mW mA mD mO mV mC mT mE mN mH mZ mP em gn lk (nI lst)), (mK, ia E nI 16 kd), (mC, ja E 512 cm)] H := hP
    have hD : va_D A [(aM, o4 (nI (comC n kd xq xi xc)) (nI n) mK mX mY mF mS mL mQ mW mA mD mO mV mC mT mE mN mH mZ mP em gn lk (nI lst)), (mK, ia E nI 16 kd), (mC, ja E 512 cm)] := hD
    refine lv_aload_n hx hb dX4_comes_32 rfl (lv_at hl 0 rfl) ?_
    refine va_get (D := E.1) (ci := 4) (v := .int (nI (comC n kd xq xi xc))) (C := RX4) (T := TX4) (N := 25) hx hb hts iX4 hown C0.1 hP 0 rfl rfl 0 (by decide) (hts (.fieldLink RX4 72 "RingresonanceModel" "thrown" "I") (by decide +kernel)) (fun _ h9 => h9) rfl dX4_comes_33 ?_
    refine lv_if_eq (tgt := 43) hx hb dX4_comes_36 (by decide) (fun c_2 => ?_) (fun c_2 => ?_)
    · skip
      have c_2 : (comC n kd xq xi xc) = 0 := (ci0_eq (by omega)).mp c_2
      obtain ⟨⟨hQ, hI⟩, hC9⟩ := comC_0 c_2
      have htq := cL_le (by omega) hQ
      have hkq := stV0_le (hk _ htq)
      have hti := cL_le (by omega) hI
      have htc := tN_le (by omega) hC9.2
      refine lv_aload_n hx hb dX4_comes_43 rfl (lv_at hl 0 rfl) ?_
      refine va_get (D := E.1) (ci := 4) (v := .ref mC) (C := RX4) (T := TX4) (N := 25) hx hb hts iX4 hown C0.1 hP 0 rfl rfl 14 (by decide) (hts (.fieldLink RX4 47 "RingresonanceModel" "comes" "[J") (by decide +kernel)) (fun _ h9 => h9) rfl dX4_comes_44 ?_
      refine lv_bipush (v := nI 8) hx hb dX4_comes_47 (by decide) ?_
      refine lv_iconst (v := nI 2) hx hb dX4_comes_49 (by decide) ?_
      refine lv_iload_n hx hb dX4_comes_50 rfl (lv_at hl 1 rfl) ?_
      refine lv_ri (y := (nI (tN xq))) (tN_eq hQ) ?_
      refine lv_imul hx hb dX4_comes_51 ?_
      refine lv_ri (y := (nI (2 * (tN xq)))) (pk_mul 2 (tN xq)) ?_
      refine lv_iload_n hx hb dX4_comes_52 rfl (lv_at hl 2 rfl) ?_
      refine lv_ri (y := (nI (tN xi))) (tN_eq hI) ?_
      refine lv_iadd hx hb dX4_comes_53 ?_
      refine lv_ri (y := (nI ((2 * (tN xq)) + (tN xi)))) (nI_add (2 * (tN xq)) (tN xi)) ?_
      refine lv_imul hx hb dX4_comes_54 ?_
      refine lv_ri (y := (nI (8 * ((2 * (tN xq)) + (tN xi))))) (pk_mul 8 ((2 * (tN xq)) + (tN xi))) ?_
      refine lv_iload_n hx hb dX4_comes_55 rfl (lv_at hl 3 rfl) ?_
      refine lv_ri (y := (nI (tN xc))) (tN_eq hC9) ?_
      refine lv_iadd hx hb dX4_comes_56 ?_
      refine lv_ri (y := (nI ((8 * ((2 * (tN xq)) + (tN xi))) + (tN xc)))) (nI_add (8 * ((2 * (tN xq)) + (tN xi))) (tN xc)) ?_
      refine k_lald (e := ((8 * ((2 * (tN xq)) + (tN xi))) + (tN xc))) (n := 512) hx hb C0 hP 2 rfl (by omega) (by omega) dX4_comes_57 ?_
      have q_3 : (cm ((8 * ((2 * (tN xq)) + (tN xi))) + (tN xc))) = (if comC n kd xq xi xc = 0 then cm (8 * (2 * tN xq + tN xi) + tN xc) else 0) := by symm; first | (rw [if_pos c_2]; done) | (rw [if_neg c_2]; done)
      exact exL hx hb hr hlocks hAe hS () q_3 hP hD dX4_comes_58
    · skip
      have c_2 : ¬ ((comC n kd xq xi xc) = 0) := fun h => c_2 ((ci0_eq (by omega)).mpr h)
      refine lv_lconst (v := 0) hx hb dX4_comes_39 (by decide) ?_
      refine lv_goto (tgt := 58) hx hb dX4_comes_40 (by decide) ?_
      have q_4 : 0 = (if comC n kd xq xi xc = 0 then cm (8 * (2 * tN xq + tN xi) + tN xc) else 0) := by symm; first | (rw [if_pos c_2]; done) | (rw [if_neg c_2]; done)
      exact exL hx hb hr hlocks hAe hS () q_4 hP hD dX4_comes_58
  refine lv_aload_n hx hb dX4_comes_1 rfl (lv_at hl 0 rfl) ?_
  refine lv_iload_n hx hb dX4_comes_2 rfl (lv_at hl 1 rfl) ?_
  refine lv_iload_n hx hb dX4_comes_3 rfl (lv_at hl 2 rfl) ?_
  have hPc := hP.pick (ws' := [(aM, o4 (nI th) (nI n) mK mX mY mF mS mL mQ mW mA mD mO mV mC mT mE mN mH mZ mP em gn lk (nI lst)), (mK, ia E nI 16 kd)]) [0, 1] rfl
  have hDc := hD.sub (ws' := [(aM, o4 (nI th) (nI n) mK mX mY mF mS mL mQ mW mA mD mO mV mC mT mE mN mH mZ mP em gn lk (nI lst)), (mK, ia E nI 16 kd)]) [0, 1] (by decide) rfl
  refine kcI (wr := [(mC, ja E 512 cm)]) (w1 := fun _ : Unit => [(aM, o4 (nI th) (nI n) mK mX mY mF mS mL mQ mW mA mD mO mV mC mT mE mN mH mZ mP em gn lk (nI lst)), (mK, ia E nI 16 kd)]) (w2 := fun _ => [(aM, o4 (nI th) (nI n) mK mX mY mF mS mL mQ mW mA mD mO mV mC mT mE mN mH mZ mP em gn lk (nI lst)), (mK, ia E nI 16 kd), (mC, ja E 512 cm)]) (va_runV (As := [.int xq, .int xi]) (rest := [.ref aM]) ⟨hx, hb, hml, hown, hts⟩ (m_isInput l E H.size xq xi aM mK mX mY mF mS mL mQ mW mA mD mO mV mC mT mE mN mH mZ mP th n lst em gn lk kd (hn) (hk)) (cwV 2 hts gX4_comes_X4_isInput rfl rfl rfl (by decide +kernel) ⟨Nat.le_of_ble_eq_true rfl, Nat.le_of_ble_eq_true rfl⟩) (preV C0 hPc hDc hS 0 rfl rfl) rfl rfl hl.1 rfl (lv_room (Nat.le_of_ble_eq_true rfl)) dX4_comes_4 ⟨Nat.le_refl _, Nat.le_refl _⟩) C0 hP hD hS [0, 1] [2] [1, 2, 0] rfl rfl (by decide) (by decide) (fun _ => rfl) (by decide) (fun r_9 _u H locs hw hP hD hS => ?_)
  have hP : va_P E.1 vwCl [(aM, o4 (nI th) (nI n) mK mX mY mF mS mL mQ mW mA mD mO mV mC mT mE mN mH mZ mP em gn lk (nI lst)), (mK, ia E nI 16 kd), (mC, ja E 512 cm)] H := hP
  have hD : va_D A [(aM, o4 (nI th) (nI n) mK mX mY mF mS mL mQ mW mA mD mO mV mC mT mE mN mH mZ mP em gn lk (nI lst)), (mK, ia E nI 16 kd), (mC, ja E 512 cm)] := hD
  have hw : r_9 = bI ((nI 0 ≤ xq ∧ xq ≤ cL n) ∧ (nI 0 ≤ xi ∧ xi ≤ cL (stV 0 (kd (tN xq))))) := hw
  subst hw
  refine lv_if_ne (tgt := 14) hx hb dX4_comes_7 (by decide) (fun c_5 => ?_) (fun c_5 => ?_)
  · skip
    have c_5 : (nI 0 ≤ xq ∧ xq ≤ cL n) ∧ (nI 0 ≤ xi ∧ xi ≤ cL (stV 0 (kd (tN xq)))) := bI_ne0.mp c_5
    refine lv_iload_n hx hb dX4_comes_14 rfl (lv_at hl 3 rfl) ?_
    refine lv_iconst (v := nI 0) hx hb dX4_comes_15 (by decide) ?_
    refine lv_bipush (v := nI 7) hx hb dX4_comes_16 (by decide) ?_
    have hPc := hP.pick (ws' := []) [] rfl
    have hDc := hD.sub (ws' := []) [] (by decide) rfl
    refine kcI (wr := [(aM, o4 (nI th) (nI n) mK mX mY mF mS mL mQ mW mA mD mO mV mC mT mE mN mH mZ mP em gn lk (nI lst)), (mK, ia E nI 16 kd), (mC, ja E 512 cm)]) (w1 := fun _ : Unit => []) (w2 := fun _ => [(aM, o4 (nI th) (nI n) mK mX mY mF mS mL mQ mW mA mD mO mV mC mT mE mN mH mZ mP em gn lk (nI lst)), (mK, ia E nI 16 kd), (mC, ja E 512 cm)]) (va_runS (As := [.int xc, .int (nI 0), .int (nI 7)]) (rest := [.ref aM]) ⟨hx, hb, hml, hown, hts⟩ (m_in l E H.size xc (nI 0) (nI 7) ) (va_cwS 3 hts gX4_comes_X4_in rfl rfl rfl (by decide +kernel) ⟨Nat.le_of_ble_eq_true rfl, Nat.le_of_ble_eq_true rfl⟩) (preS C0 hPc hDc hS) rfl rfl hl.1 rfl (lv_room (Nat.le_of_ble_eq_true rfl)) dX4_comes_18 ⟨Nat.le_refl _, Nat.le_refl _⟩) C0 hP hD hS [] [0, 1, 2] [0, 1, 2] rfl rfl (by decide) (by decide) (fun _ => rfl) (by decide) (fun r_9 _u H locs hw hP hD hS => ?_)
    have hP : va_P E.1 vwCl [(aM, o4 (nI th) (nI n) mK mX mY mF mS mL mQ mW mA mD mO mV mC mT mE mN mH mZ mP em gn lk (nI lst)), (mK, ia E nI 16 kd), (mC, ja E 512 cm)] H := hP
    have hD : va_D A [(aM, o4 (nI th) (nI n) mK mX mY mF mS mL mQ mW mA mD mO mV mC mT mE mN mH mZ mP em gn lk (nI lst)), (mK, ia E nI 16 kd), (mC, ja E 512 cm)] := hD
    have hw : r_9 = bI ((nI 0) ≤ xc ∧ xc ≤ (nI 7)) := hw
    subst hw
    refine lv_if_ne (tgt := 28) hx hb dX4_comes_21 (by decide) (fun c_6 => ?_) (fun c_6 => ?_)
    · skip
      have c_6 : (nI 0) ≤ xc ∧ xc ≤ (nI 7) := bI_ne0.mp c_6
      refine lv_iconst (v := nI 0) hx hb dX4_comes_28 (by decide) ?_
      refine lv_ri (y := (nI (comC n kd xq xi xc))) (congrArg nI (show _ = comC n kd xq xi xc by unfold comC; simp [c_5, c_6])) ?_
      have hl : lv_has ls 4 [(0, .ref aM), (1, .int xq), (2, .int xi), (3, .int xc)] := lv_sub hl [0, 1, 2, 3] rfl
      exact JN_1   _ _ hP hD hS _ hl
    · skip
      have c_6 : ¬ ((nI 0) ≤ xc ∧ xc ≤ (nI 7)) := bI_eq0.mp c_6
      refine lv_iconst (v := nI 2) hx hb dX4_comes_24 (by decide) ?_
      refine lv_ri (y := (nI (comC n kd xq xi xc))) (congrArg nI (show _ = comC n kd xq xi xc by unfold comC; simp [c_5, c_6])) ?_
      refine lv_goto (tgt := 29) hx hb dX4_comes_25 (by decide) ?_
      have hl : lv_has ls 4 [(0, .ref aM), (1, .int xq), (2, .int xi), (3, .int xc)] := lv_sub hl [0, 1, 2, 3] rfl
      exact JN_1   _ _ hP hD hS _ hl
  · skip
    have c_5 : ¬ ((nI 0 ≤ xq ∧ xq ≤ cL n) ∧ (nI 0 ≤ xi ∧ xi ≤ cL (stV 0 (kd (tN xq))))) := bI_eq0.mp c_5
    refine lv_iconst (v := nI 1) hx hb dX4_comes_10 (by decide) ?_
    refine lv_ri (y := (nI (comC n kd xq xi xc))) (congrArg nI (show _ = comC n kd xq xi xc by unfold comC; simp [c_5])) ?_
    refine lv_goto (tgt := 29) hx hb dX4_comes_11 (by decide) ?_
    have hl : lv_has ls 4 [(0, .ref aM), (1, .int xq), (2, .int xi), (3, .int xc)] := lv_sub hl [0, 1, 2, 3] rfl
    exact JN_1   _ _ hP hD hS _ hl

def seeC (n : Nat) (kd : Nat → Nat) (xp xc : Int32) : Nat := if (nI 0 ≤ xp ∧ xp ≤ cL n) then (if (-1 ≤ xc ∧ xc ≤ nI 7) then (if kd (tN xp) = 5 then 0 else 3) else 2) else 1
theorem seeC_lt (n : Nat) (kd : Nat → Nat) (xp xc : Int32) : seeC n kd xp xc < 4 := by unfold seeC; repeat (first | omega | split)
theorem seeC_0 {n : Nat} {kd : Nat → Nat} {xp xc : Int32} (h : seeC n kd xp xc = 0) : (nI 0 ≤ xp ∧ xp ≤ cL n) ∧ (-1 ≤ xc ∧ xc ≤ nI 7) ∧ kd (tN xp) = 5 := by
  unfold seeC at h
  split at h
  · split at h
    · split at h
      · exact ⟨by assumption, by assumption, by assumption⟩
      · exact absurd h (by decide)
    · exact absurd h (by decide)
  · exact absurd h (by decide)

theorem cL_ge {n : Nat} (h : n < 2 ^ 31) : 0 ≤ cL n ↔ ¬ (n = 0) := by
  cases n with
  | zero => decide
  | succ n => rw [cL_s]; exact ⟨fun _ => by omega, fun _ => nI_pos' (by omega)⟩

set_option maxHeartbeats 4000000 in
set_option maxRecDepth 100000 in
theorem m_seen (l : Launch) (E : EnvT) (sz : Nat) (xp xc : Int32) (aM mK mX mY mF mS mL mQ mW mA mD mO mV mC mT mE mN mH mZ mP : Nat) (th n lst : Nat) (em gn lk : Int64) (kd : Nat → Nat) (sm : Nat → Int64) (hn : n ≤ 16) (hk : ∀ j, j < n → kd j ≤ 5) : ML l yX4_seen wsX4_seen ({ frames := 2, cells := 0, slots := 0, locals := 43 }) E sz [.ref aM, .int xp, .int xc] [(aM, o4 (nI th) (nI n) mK mX mY mF mS mL mQ mW mA mD mO mV mC mT mE mN mH mZ mP em gn lk (nI lst)), (mK, ia E nI 16 kd), (mN, ja E 256 sm)] (fun (r : Int64) (_ : Unit) => r = if seeC n kd xp xc = 0 then (if tC xc = 0 then sAlM sm 0 (tN xp) 8 else sm (8 * tN xp + (tC xc - 1))) else 0) (fun _ => [(aM, o4 (nI (seeC n kd xp xc)) (nI n) mK mX mY mF mS mL mQ mW mA mD mO mV mC mT mE mN mH mZ mP em gn lk (nI lst)), (mK, ia E nI 16 kd), (mN, ja E 256 sm)]) := by
  refine enL (cc := cX4_seen) (maxL := 3) (by decide +kernel) rfl (Nat.le_of_ble_eq_true rfl) ?_
  intro p e s m below meth c A ls hx hb hr hml hts hown hlocks hAe C0 hP hD hS hl
  have hown : s.vm.findClass RX4 = some m.cls := hown
  have hl : lv_has ls 3 [(0, .ref aM), (1, .int xp), (2, .int xc)] := hl
  have iX4 : ∀ w ∈ u_ws RX4 TX4 25, w ∈ wsX4_seen := by decide +kernel
  obtain ⟨H, hHe⟩ : ∃ z, z = s.heap := ⟨_, rfl⟩
  obtain ⟨locs, hLe⟩ : ∃ z : List Loc, z = [] := ⟨_, rfl⟩
  have hP : va_P E.1 vwCl [(aM, o4 (nI th) (nI n) mK mX mY mF mS mL mQ mW mA mD mO mV mC mT mE mN mH mZ mP em gn lk (nI lst)), (mK, ia E nI 16 kd), (mN, ja E 256 sm)] H := by rw [hHe]; exact hP
  have hD : va_D A [(aM, o4 (nI th) (nI n) mK mX mY mF mS mL mQ mW mA mD mO mV mC mT mE mN mH mZ mP em gn lk (nI lst)), (mK, ia E nI 16 kd), (mN, ja E 256 sm)] := hD
  have hS : va_S A s.heap H locs := by rw [hHe, hLe]; exact hS
  suffices hgo : W p l e _ s m _ below meth c H locs 0 0 _ (F0 m 0 ls []) by rw [hHe, hLe] at hgo; exact hgo
  clear hHe hLe
  have hcb := seeC_lt n kd xp xc
  refine lv_aload_n hx hb dX4_seen_0 rfl (lv_at hl 0 rfl) ?_
  have JN_1 : ∀ (H : Heap) (locs : List Loc), va_P E.1 vwCl [(aM, o4 (nI th) (nI n) mK mX mY mF mS mL mQ mW mA mD mO mV mC mT mE mN mH mZ mP em gn lk (nI lst)), (mK, ia E nI 16 kd), (mN, ja E 256 sm)] H → va_D A [(aM, o4 (nI th) (nI n) mK mX mY mF mS mL mQ mW mA mD mO mV mC mT mE mN mH mZ mP em gn lk (nI lst)), (mK, ia E nI 16 kd), (mN, ja E 256 sm)] → va_S A s.heap H locs → ∀ (ls : Array Slot), lv_has ls 3 [(0, .ref aM), (1, .int xp), (2, .int xc)] → W p l e ({ frames := 2, cells := 0, slots := 0, locals := 43 }) s m (([.ref aM, .int xp, .int xc] : List Value).toArray) below meth c H locs 0 0 (MQ below (va_Ql (fun (r : Int64) (_ : Unit) => r = if seeC n kd xp xc = 0 then (if tC xc = 0 then sAlM sm 0 (tN xp) 8 else sm (8 * tN xp + (tC xc - 1))) else 0) (Wd E [(aM, o4 (nI th) (nI n) mK mX mY mF mS mL mQ mW mA mD mO mV mC mT mE mN mH mZ mP em gn lk (nI lst)), (mK, ia E nI 16 kd), (mN, ja E 256 sm)] s.heap.size (fun _ => [(aM, o4 (nI (seeC n kd xp xc)) (nI n) mK mX mY mF mS mL mQ mW mA mD mO mV mC mT mE mN mH mZ mP em gn lk (nI lst)), (mK, ia E nI 16 kd), (mN, ja E 256 sm)])) A) (([.ref aM, .int xp, .int xc] : List Value).toArray) s 0 0 A) (F0 m 42 ls [.int (nI (seeC n kd xp xc)), .ref aM]) := by
    intro   H locs hP hD hS ls hl
    refine va_put (D := E.1) (ci := 4) (v := .int (nI (seeC n kd xp xc))) (ty := .int) (C := RX4) (T := TX4) (N := 25) hx hb hts iX4 tyX4 tyX4_ok nmX4 hown C0.1 hP hD hS 0 rfl rfl 0 (by decide) (hts (.fieldLink RX4 72 "RingresonanceModel" "thrown" "I") (by decide +kernel)) (fun _ h9 => h9) rfl (by decide +kernel) rfl rfl (Nat.le_of_ble_eq_true rfl) dX4_seen_42 (fun H locs hP hD hS => ?_)
    have hP : va_P E.1 vwCl [(aM, o4 (nI (seeC n kd xp xc)) (nI n) mK mX mY mF mS mL mQ mW mA mD mO mV mC mT mE mN mH mZ mP em gn lk (nI lst)), (mK, ia E nI 16 kd), (mN, ja E 256 sm)] H := hP
    have hD : va_D A [(aM, o4 (nI (seeC n kd xp xc)) (nI n) mK mX mY mF mS mL mQ mW mA mD mO mV mC mT mE mN mH mZ mP em gn lk (nI lst)), (mK, ia E nI 16 kd), (mN, ja E 256 sm)] := hD
    refine lv_aload_n hx hb dX4_seen_45 rfl (lv_at hl 0 rfl) ?_
    refine va_get (D := E.1) (ci := 4) (v := .int (nI (seeC n kd xp xc))) (C := RX4) (T := TX4) (N := 25) hx hb hts iX4 hown C0.1 hP 0 rfl rfl 0 (by decide) (hts (.fieldLink RX4 72 "RingresonanceModel" "thrown" "I") (by decide +kernel)) (fun _ h9 => h9) rfl dX4_seen_46 ?_
    refine lv_if_eq (tgt := 56) hx hb dX4_seen_49 (by decide) (fun c_2 => ?_) (fun c_2 => ?_)
    · skip
      have c_2 : (seeC n kd xp xc) = 0 := (ci0_eq (by omega)).mp c_2
      obtain ⟨hP9, hC9, hk5⟩ := seeC_0 c_2
      have htn := cL_le (by omega) hP9
      have htc := tC_le (by omega) hC9.2
      rw [show xc = cL (tC xc) from tC_eq hC9] at hl
      refine lv_iload_n hx hb dX4_seen_56 rfl (lv_at hl 2 rfl) ?_
      refine lv_if_ge (tgt := 69) hx hb dX4_seen_57 (by decide) (fun c_3 => ?_) (fun c_3 => ?_)
      · skip
        have c_3 : ¬ (tC xc = 0) := (cL_ge (by omega)).mp c_3
        rw [show cL (tC xc) = nI (tC xc - 1) from cL_pos c_3] at hl
        refine lv_aload_n hx hb dX4_seen_69 rfl (lv_at hl 0 rfl) ?_
        refine va_get (D := E.1) (ci := 4) (v := .ref mN) (C := RX4) (T := TX4) (N := 25) hx hb hts iX4 hown C0.1 hP 0 rfl rfl 17 (by decide) (hts (.fieldLink RX4 56 "RingresonanceModel" "seen" "[J") (by decide +kernel)) (fun _ h9 => h9) rfl dX4_seen_70 ?_
        refine lv_bipush (v := nI 8) hx hb dX4_seen_73 (by decide) ?_
        refine lv_iload_n hx hb dX4_seen_75 rfl (lv_at hl 1 rfl) ?_
        refine lv_ri (y := (nI (tN xp))) (tN_eq hP9) ?_
        refine lv_imul hx hb dX4_seen_76 ?_
        refine lv_ri (y := (nI (8 * (tN xp)))) (pk_mul 8 (tN xp)) ?_
        refine lv_iload_n hx hb dX4_seen_77 rfl (lv_at hl 2 rfl) ?_
        refine lv_iadd hx hb dX4_seen_78 ?_
        refine lv_ri (y := (nI ((8 * (tN xp)) + (tC xc - 1)))) (nI_add (8 * (tN xp)) (tC xc - 1)) ?_
        refine k_lald (e := ((8 * (tN xp)) + (tC xc - 1))) (n := 256) hx hb C0 hP 2 rfl (by omega) (by omega) dX4_seen_79 ?_
        have q_4 : (sm ((8 * (tN xp)) + (tC xc - 1))) = (if seeC n kd xp xc = 0 then (if tC xc = 0 then sAlM sm 0 (tN xp) 8 else sm (8 * tN xp + (tC xc - 1))) else 0) := by symm; first | (rw [if_neg c_3]; done) | (rw [if_pos c_2, if_pos c_3]; done) | (rw [if_pos c_2, if_neg c_3]; done)
        exact exL hx hb hr hlocks hAe hS () q_4 hP hD dX4_seen_80
      · skip
        have c_3 : (tC xc = 0) := Decidable.byContradiction (fun h => c_3 ((cL_ge (by omega)).mpr h))
        refine lv_aload_n hx hb dX4_seen_60 rfl (lv_at hl 0 rfl) ?_
        refine lv_iconst (v := nI 0) hx hb dX4_seen_61 (by decide) ?_
        refine lv_iload_n hx hb dX4_seen_62 rfl (lv_at hl 1 rfl) ?_
        refine lv_ri (y := (nI (tN xp))) (tN_eq hP9) ?_
        have hPc := hP.pick (ws' := [(aM, o4 (nI (seeC n kd xp xc)) (nI n) mK mX mY mF mS mL mQ mW mA mD mO mV mC mT mE mN mH mZ mP em gn lk (nI lst)), (mN, ja E 256 sm)]) [0, 2] rfl
        have hDc := hD.sub (ws' := [(aM, o4 (nI (seeC n kd xp xc)) (nI n) mK mX mY mF mS mL mQ mW mA mD mO mV mC mT mE mN mH mZ mP em gn lk (nI lst)), (mN, ja E 256 sm)]) [0, 2] (by decide) rfl
        refine kcL (wr := [(mK, ia E nI 16 kd)]) (w1 := fun _ : Unit => [(aM, o4 (nI (seeC n kd xp xc)) (nI n) mK mX mY mF mS mL mQ mW mA mD mO mV mC mT mE mN mH mZ mP em gn lk (nI lst)), (mN, ja E 256 sm)]) (w2 := fun _ => [(aM, o4 (nI (seeC n kd xp xc)) (nI n) mK mX mY mF mS mL mQ mW mA mD mO mV mC mT mE mN mH mZ mP em gn lk (nI lst)), (mK, ia E nI 16 kd), (mN, ja E 256 sm)]) (va_runV (As := [.int (nI 0), .int (nI (tN xp))]) (rest := []) ⟨hx, hb, hml, hown, hts⟩ (m_sees l E H.size 0 (tN xp) aM mK mX mY mF mS mL mQ mW mA mD mO mV mC mT mE mN mH mZ mP (seeC n kd xp xc) n lst em gn lk sm (by omega) (by omega)) (cwV 2 hts gX4_seen_X4_sees rfl rfl rfl (by decide +kernel) ⟨Nat.le_of_ble_eq_true rfl, Nat.le_of_ble_eq_true rfl⟩) (preV C0 hPc hDc hS 0 rfl rfl) rfl rfl hl.1 rfl (lv_room (Nat.le_of_ble_eq_true rfl)) dX4_seen_63 ⟨Nat.le_refl _, Nat.le_refl _⟩) C0 hP hD hS [0, 2] [1] [1, 0, 2] rfl rfl (by decide) (by decide) (fun _ => rfl) (by decide) (fun r_9 _u H locs hw hP hD hS => ?_)
        have hP : va_P E.1 vwCl [(aM, o4 (nI (seeC n kd xp xc)) (nI n) mK mX mY mF mS mL mQ mW mA mD mO mV mC mT mE mN mH mZ mP em gn lk (nI lst)), (mK, ia E nI 16 kd), (mN, ja E 256 sm)] H := hP
        have hD : va_D A [(aM, o4 (nI (seeC n kd xp xc)) (nI n) mK mX mY mF mS mL mQ mW mA mD mO mV mC mT mE mN mH mZ mP em gn lk (nI lst)), (mK, ia E nI 16 kd), (mN, ja E 256 sm)] := hD
        have hw : r_9 = sAlM sm 0 (tN xp) 8 := hw
        subst hw
        refine lv_goto (tgt := 80) hx hb dX4_seen_66 (by decide) ?_
        have q_5 : (sAlM sm 0 (tN xp) 8) = (if seeC n kd xp xc = 0 then (if tC xc = 0 then sAlM sm 0 (tN xp) 8 else sm (8 * tN xp + (tC xc - 1))) else 0) := by symm; first | (rw [if_neg c_3]; done) | (rw [if_pos c_2, if_pos c_3]; done) | (rw [if_pos c_2, if_neg c_3]; done)
        exact exL hx hb hr hlocks hAe hS () q_5 hP hD dX4_seen_80
    · skip
      have c_2 : ¬ ((seeC n kd xp xc) = 0) := fun h => c_2 ((ci0_eq (by omega)).mpr h)
      refine lv_lconst (v := 0) hx hb dX4_seen_52 (by decide) ?_
      refine lv_goto (tgt := 80) hx hb dX4_seen_53 (by decide) ?_
      have q_6 : 0 = (if seeC n kd xp xc = 0 then (if tC xc = 0 then sAlM sm 0 (tN xp) 8 else sm (8 * tN xp + (tC xc - 1))) else 0) := by symm; first | (rw [if_neg c_2]; done) | (rw [if_pos c_2, if_pos trivial]; done) | (rw [if_pos c_2, if_neg trivial]; done)
      exact exL hx hb hr hlocks hAe hS () q_6 hP hD dX4_seen_80
  refine lv_aload_n hx hb dX4_seen_1 rfl (lv_at hl 0 rfl) ?_
  refine lv_iload_n hx hb dX4_seen_2 rfl (lv_at hl 1 rfl) ?_
  have hPc := hP.pick (ws' := [(aM, o4 (nI th) (nI n) mK mX mY mF mS mL mQ mW mA mD mO mV mC mT mE mN mH mZ mP em gn lk (nI lst))]) [0] rfl
  have hDc := hD.sub (ws' := [(aM, o4 (nI th) (nI n) mK mX mY mF mS mL mQ mW mA mD mO mV mC mT mE mN mH mZ mP em gn lk (nI lst))]) [0] (by decide) rfl
  refine kcI (wr := [(mK, ia E nI 16 kd), (mN, ja E 256 sm)]) (w1 := fun _ : Unit => [(aM, o4 (nI th) (nI n) mK mX mY mF mS mL mQ mW mA mD mO mV mC mT mE mN mH mZ mP em gn lk (nI lst))]) (w2 := fun _ => [(aM, o4 (nI th) (nI n) mK mX mY mF mS mL mQ mW mA mD mO mV mC mT mE mN mH mZ mP em gn lk (nI lst)), (mK, ia E nI 16 kd), (mN, ja E 256 sm)]) (va_runV (As := [.int xp]) (rest := [.ref aM]) ⟨hx, hb, hml, hown, hts⟩ (m_isPart l E H.size xp aM mK mX mY mF mS mL mQ mW mA mD mO mV mC mT mE mN mH mZ mP th n lst em gn lk ) (cwV 1 hts gX4_seen_X4_isPart rfl rfl rfl (by decide +kernel) ⟨Nat.le_of_ble_eq_true rfl, Nat.le_of_ble_eq_true rfl⟩) (preV C0 hPc hDc hS 0 rfl rfl) rfl rfl hl.1 rfl (lv_room (Nat.le_of_ble_eq_true rfl)) dX4_seen_3 ⟨Nat.le_refl _, Nat.le_refl _⟩) C0 hP hD hS [0] [1, 2] [2, 0, 1] rfl rfl (by decide) (by decide) (fun _ => rfl) (by decide) (fun r_9 _u H locs hw hP hD hS => ?_)
  have hP : va_P E.1 vwCl [(aM, o4 (nI th) (nI n) mK mX mY mF mS mL mQ mW mA mD mO mV mC mT mE mN mH mZ mP em gn lk (nI lst)), (mK, ia E nI 16 kd), (mN, ja E 256 sm)] H := hP
  have hD : va_D A [(aM, o4 (nI th) (nI n) mK mX mY mF mS mL mQ mW mA mD mO mV mC mT mE mN mH mZ mP em gn lk (nI lst)), (mK, ia E nI 16 kd), (mN, ja E 256 sm)] := hD
  have hw : r_9 = bI (nI 0 ≤ xp ∧ xp ≤ cL n) := hw
  subst hw
  refine lv_if_ne (tgt := 13) hx hb dX4_seen_6 (by decide) (fun c_7 => ?_) (fun c_7 => ?_)
  · skip
    have c_7 : nI 0 ≤ xp ∧ xp ≤ cL n := bI_ne0.mp c_7
    have hP9 := c_7
    have htn := cL_le (by omega) hP9
    have hkk := hk _ htn
    refine lv_iload_n hx hb dX4_seen_13 rfl (lv_at hl 2 rfl) ?_
    refine lv_iconst (v := -1) hx hb dX4_seen_14 (by decide) ?_
    refine lv_bipush (v := nI 7) hx hb dX4_seen_15 (by decide) ?_
    have hPc := hP.pick (ws' := []) [] rfl
    have hDc := hD.sub (ws' := []) [] (by decide) rfl
    refine kcI (wr := [(aM, o4 (nI th) (nI n) mK mX mY mF mS mL mQ mW mA mD mO mV mC mT mE mN mH mZ mP em gn lk (nI lst)), (mK, ia E nI 16 kd), (mN, ja E 256 sm)]) (w1 := fun _ : Unit => []) (w2 := fun _ => [(aM, o4 (nI th) (nI n) mK mX mY mF mS mL mQ mW mA mD mO mV mC mT mE mN mH mZ mP em gn lk (nI lst)), (mK, ia E nI 16 kd), (mN, ja E 256 sm)]) (va_runS (As := [.int xc, .int (-1), .int (nI 7)]) (rest := [.ref aM]) ⟨hx, hb, hml, hown, hts⟩ (m_in l E H.size xc (-1) (nI 7) ) (va_cwS 3 hts gX4_seen_X4_in rfl rfl rfl (by decide +kernel) ⟨Nat.le_of_ble_eq_true rfl, Nat.le_of_ble_eq_true rfl⟩) (preS C0 hPc hDc hS) rfl rfl hl.1 rfl (lv_room (Nat.le_of_ble_eq_true rfl)) dX4_seen_17 ⟨Nat.le_refl _, Nat.le_refl _⟩) C0 hP hD hS [] [0, 1, 2] [0, 1, 2] rfl rfl (by decide) (by decide) (fun _ => rfl) (by decide) (fun r_9 _u H locs hw hP hD hS => ?_)
    have hP : va_P E.1 vwCl [(aM, o4 (nI th) (nI n) mK mX mY mF mS mL mQ mW mA mD mO mV mC mT mE mN mH mZ mP em gn lk (nI lst)), (mK, ia E nI 16 kd), (mN, ja E 256 sm)] H := hP
    have hD : va_D A [(aM, o4 (nI th) (nI n) mK mX mY mF mS mL mQ mW mA mD mO mV mC mT mE mN mH mZ mP em gn lk (nI lst)), (mK, ia E nI 16 kd), (mN, ja E 256 sm)] := hD
    have hw : r_9 = bI ((-1) ≤ xc ∧ xc ≤ (nI 7)) := hw
    subst hw
    refine lv_if_ne (tgt := 27) hx hb dX4_seen_20 (by decide) (fun c_8 => ?_) (fun c_8 => ?_)
    · skip
      have c_8 : (-1) ≤ xc ∧ xc ≤ (nI 7) := bI_ne0.mp c_8
      refine lv_aload_n hx hb dX4_seen_27 rfl (lv_at hl 0 rfl) ?_
      refine va_get (D := E.1) (ci := 4) (v := .ref mK) (C := RX4) (T := TX4) (N := 25) hx hb hts iX4 hown C0.1 hP 0 rfl rfl 2 (by decide) (hts (.fieldLink RX4 7 "RingresonanceModel" "kind" "[I") (by decide +kernel)) (fun _ h9 => h9) rfl dX4_seen_28 ?_
      refine lv_iload_n hx hb dX4_seen_31 rfl (lv_at hl 1 rfl) ?_
      refine lv_ri (y := (nI (tN xp))) (tN_eq hP9) ?_
      refine k_iald (e := (tN xp)) (g := nI) (n := 16) hx hb C0 hP 1 rfl (by omega) (by omega) dX4_seen_32 ?_
      refine lv_iconst (v := nI 5) hx hb dX4_seen_33 (by decide) ?_
      refine lv_icmp_eq (tgt := 41) hx hb dX4_seen_34 (by decide) (fun c_9 => ?_) (fun c_9 => ?_)
      · skip
        have c_9 : (kd (tN xp)) = 5 := (ci_eq (by omega) (by omega)).mp c_9
        refine lv_iconst (v := nI 0) hx hb dX4_seen_41 (by decide) ?_
        refine lv_ri (y := (nI (seeC n kd xp xc))) (congrArg nI (show _ = seeC n kd xp xc by unfold seeC; simp [c_7, c_8, c_9])) ?_
        have hl : lv_has ls 3 [(0, .ref aM), (1, .int xp), (2, .int xc)] := lv_sub hl [0, 1, 2] rfl
        exact JN_1   _ _ hP hD hS _ hl
      · skip
        have c_9 : ¬ ((kd (tN xp)) = 5) := fun h => c_9 ((ci_eq (by omega) (by omega)).mpr h)
        refine lv_iconst (v := nI 3) hx hb dX4_seen_37 (by decide) ?_
        refine lv_ri (y := (nI (seeC n kd xp xc))) (congrArg nI (show _ = seeC n kd xp xc by unfold seeC; simp [c_7, c_8, c_9])) ?_
        refine lv_goto (tgt := 42) hx hb dX4_seen_38 (by decide) ?_
        have hl : lv_has ls 3 [(0, .ref aM), (1, .int xp), (2, .int xc)] := lv_sub hl [0, 1, 2] rfl
        exact JN_1   _ _ hP hD hS _ hl
    · skip
      have c_8 : ¬ ((-1) ≤ xc ∧ xc ≤ (nI 7)) := bI_eq0.mp c_8
      refine lv_iconst (v := nI 2) hx hb dX4_seen_23 (by decide) ?_
      refine lv_ri (y := (nI (seeC n kd xp xc))) (congrArg nI (show _ = seeC n kd xp xc by unfold seeC; simp [c_7, c_8])) ?_
      refine lv_goto (tgt := 42) hx hb dX4_seen_24 (by decide) ?_
      have hl : lv_has ls 3 [(0, .ref aM), (1, .int xp), (2, .int xc)] := lv_sub hl [0, 1, 2] rfl
      exact JN_1   _ _ hP hD hS _ hl
  · skip
    have c_7 : ¬ (nI 0 ≤ xp ∧ xp ≤ cL n) := bI_eq0.mp c_7
    refine lv_iconst (v := nI 1) hx hb dX4_seen_9 (by decide) ?_
    refine lv_ri (y := (nI (seeC n kd xp xc))) (congrArg nI (show _ = seeC n kd xp xc by unfold seeC; simp [c_7])) ?_
    refine lv_goto (tgt := 42) hx hb dX4_seen_10 (by decide) ?_
    have hl : lv_has ls 3 [(0, .ref aM), (1, .int xp), (2, .int xc)] := lv_sub hl [0, 1, 2] rfl
    exact JN_1   _ _ hP hD hS _ hl
