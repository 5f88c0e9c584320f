theorem cO_64 (x : Nat) : cO x + nI 64 = nI (x + 56) := by
  show nI x - nI 8 + nI 64 = _
  rw [← nI_add, show (nI 64 : Int32) = nI 56 + nI 8 from rfl]
  grind
theorem cL_n (n : Nat) : nI n - nI 1 = cL n := rfl
theorem mcn_row {x : Nat} (h : x < 2 ^ 20) : nI (x + 56) - nI (x + 56) / nI 8 * nI 8 = nI (x % 8) := by
  rw [pk_rem (by omega) (by omega) (by omega)]
  congr 1
  omega

set_option maxHeartbeats 4000000 in
set_option maxRecDepth 100000 in
theorem m_center (l : Launch) (E : EnvT) (sz : Nat) (bb pt : Nat) (aM mK mX mY mF mS mL mQ mW mA mD mO mV mC mT mE mN mH mZ mP : Nat) (th n lst : Nat) (em gn lk : Int64) (fi wm ofm : Nat → Nat) (hp : pt < 16) (hbb : bb < 2) (hc9 : fi pt + ofm bb + wm (16 * bb + pt) / 16 < 2 ^ 20) : MI l yX4_center wsX4_center ({ frames := 0, cells := 0, slots := 0, locals := 0 }) E sz [.ref aM, .int (nI bb), .int (nI pt)] [(aM, o4 (nI th) (nI n) mK mX mY mF mS mL mQ mW mA mD mO mV mC mT mE mN mH mZ mP em gn lk (nI lst)), (mF, ia E nI 16 fi), (mH, ia E nI 32 wm), (mP, ia E cO 2 ofm)] (fun (r : Int32) (_ : Unit) => r = nI (cnt fi (fun j => wm (16 * bb + j)) (ofm bb) pt)) (fun _ => [(aM, o4 (nI th) (nI n) mK mX mY mF mS mL mQ mW mA mD mO mV mC mT mE mN mH mZ mP em gn lk (nI lst)), (mF, ia E nI 16 fi), (mH, ia E nI 32 wm), (mP, ia E cO 2 ofm)]) := by
  refine enI (cc := cX4_center) (maxL := 3) (ret := .int) (by decide +kernel) rfl (Nat.le_of_ble_eq_true rfl) ?_
  intro p e s m below meth c A ls hx hb hr hml hts hown hlocks hAe C0 hP hD hS hl
  have hown : s.vm.findClass RX4 = some m.cls := hown
  have hl : lv_has ls 3 [(0, .ref aM), (1, .int (nI bb)), (2, .int (nI pt))] := hl
  have iX4 : ∀ w ∈ u_ws RX4 TX4 25, w ∈ wsX4_center := by decide +kernel
  obtain ⟨H, hHe⟩ : ∃ z, z = s.heap := ⟨_, rfl⟩
  obtain ⟨locs, hLe⟩ : ∃ z : List Loc, z = [] := ⟨_, rfl⟩
  have hP : va_P E.1 vwCl [(aM, o4 (nI th) (nI n) mK mX mY mF mS mL mQ mW mA mD mO mV mC mT mE mN mH mZ mP em gn lk (nI lst)), (mF, ia E nI 16 fi), (mH, ia E nI 32 wm), (mP, ia E cO 2 ofm)] H := by rw [hHe]; exact hP
  have hD : va_D A [(aM, o4 (nI th) (nI n) mK mX mY mF mS mL mQ mW mA mD mO mV mC mT mE mN mH mZ mP em gn lk (nI lst)), (mF, ia E nI 16 fi), (mH, ia E nI 32 wm), (mP, ia E cO 2 ofm)] := hD
  have hS : va_S A s.heap H locs := by rw [hHe, hLe]; exact hS
  suffices hgo : W p l e _ s m _ below meth c H locs 0 0 _ (F0 m 0 ls []) by rw [hHe, hLe] at hgo; exact hgo
  clear hHe hLe
  refine lv_aload_n hx hb dX4_center_0 rfl (lv_at hl 0 rfl) ?_
  refine va_get (D := E.1) (ci := 4) (v := .ref mF) (C := RX4) (T := TX4) (N := 25) hx hb hts iX4 hown C0.1 hP 0 rfl rfl 5 (by decide) (hts (.fieldLink RX4 19 "RingresonanceModel" "base" "[I") (by decide +kernel)) (fun _ h9 => h9) rfl dX4_center_1 ?_
  refine lv_iload_n hx hb dX4_center_4 rfl (lv_at hl 2 rfl) ?_
  refine k_iald (e := pt) (g := nI) (n := 16) hx hb C0 hP 1 rfl (by omega) (by omega) dX4_center_5 ?_
  refine lv_aload_n hx hb dX4_center_6 rfl (lv_at hl 0 rfl) ?_
  refine va_get (D := E.1) (ci := 4) (v := .ref mP) (C := RX4) (T := TX4) (N := 25) hx hb hts iX4 hown C0.1 hP 0 rfl rfl 20 (by decide) (hts (.fieldLink RX4 65 "RingresonanceModel" "offset" "[I") (by decide +kernel)) (fun _ h9 => h9) rfl dX4_center_7 ?_
  refine lv_iload_n hx hb dX4_center_10 rfl (lv_at hl 1 rfl) ?_
  refine k_iald (e := bb) (g := cO) (n := 2) hx hb C0 hP 3 rfl (by omega) (by omega) dX4_center_11 ?_
  refine lv_iadd hx hb dX4_center_12 ?_
  refine lv_ri (y := (cO (fi pt + ofm bb))) (cO_add _ _) ?_
  refine lv_aload_n hx hb dX4_center_13 rfl (lv_at hl 0 rfl) ?_
  refine va_get (D := E.1) (ci := 4) (v := .ref mH) (C := RX4) (T := TX4) (N := 25) hx hb hts iX4 hown C0.1 hP 0 rfl rfl 18 (by decide) (hts (.fieldLink RX4 59 "RingresonanceModel" "warmth" "[I") (by decide +kernel)) (fun _ h9 => h9) rfl dX4_center_14 ?_
  refine lv_bipush (v := nI 16) hx hb dX4_center_17 (by decide) ?_
  refine lv_iload_n hx hb dX4_center_19 rfl (lv_at hl 1 rfl) ?_
  refine lv_imul hx hb dX4_center_20 ?_
  refine lv_ri (y := (nI (16 * bb))) (pk_mul 16 bb) ?_
  refine lv_iload_n hx hb dX4_center_21 rfl (lv_at hl 2 rfl) ?_
  refine lv_iadd hx hb dX4_center_22 ?_
  refine lv_ri (y := (nI ((16 * bb) + pt))) (nI_add (16 * bb) pt) ?_
  refine k_iald (e := ((16 * bb) + pt)) (g := nI) (n := 32) hx hb C0 hP 2 rfl (by omega) (by omega) dX4_center_23 ?_
  refine lv_bipush (v := nI 16) hx hb dX4_center_24 (by decide) ?_
  refine lv_idiv hx hb dX4_center_26 (by decide) ?_
  refine lv_ri (y := (nI ((wm ((16 * bb) + pt)) / 16))) (pk_div (by omega) (by omega) (by omega)) ?_
  refine lv_iadd hx hb dX4_center_27 ?_
  refine lv_ri (y := (cO (fi pt + ofm bb + wm (16 * bb + pt) / 16))) (cO_addr _ _) ?_
  refine lv_bipush (v := nI 64) hx hb dX4_center_28 (by decide) ?_
  refine lv_iadd hx hb dX4_center_30 ?_
  refine lv_ri (y := (nI (fi pt + ofm bb + wm (16 * bb + pt) / 16 + 56))) (cO_64 _) ?_
  refine lv_bipush (v := nI 8) hx hb dX4_center_31 (by decide) ?_
  refine lv_irem hx hb dX4_center_33 (by decide) ?_
  refine lv_ri (y := (nI ((fi pt + ofm bb + wm (16 * bb + pt) / 16) % 8))) (mcn_row hc9) ?_
  have q_1 : (nI ((fi pt + ofm bb + wm (16 * bb + pt) / 16) % 8)) = (nI (cnt fi (fun j => wm (16 * bb + j)) (ofm bb) pt)) := by symm; first | rfl | (simp only [if_true, if_false, not_true_eq_false, not_false_eq_true, ite_true, ite_false]; done) | (simp only [if_true, if_false]; rfl) | (simp []; done)
  exact exI hx hb hr hlocks hAe hS () q_1 hP hD dX4_center_34

def mvL (bb L : Nat) (ph lk : Int64) : Int64 := if L = 0 then (if bb = 0 then lk + ph else lk) else lk
def mvG (L ch : Nat) (ph : Int64) (tn : Nat → Int64) : Nat → Int64 := if L = 0 then tn else va_up tn (8 * (L - 1) + ch) (tn (8 * (L - 1) + ch) + ph)

set_option maxHeartbeats 4000000 in
set_option maxRecDepth 100000 in
theorem m_gives (l : Launch) (E : EnvT) (sz : Nat) (bb pt sd ch : Nat) (ph : Int64) (aM mK mX mY mF mS mL mQ mW mA mD mO mV mC mT mE mN mH mZ mP : Nat) (th n lst : Nat) (em gn lk : Int64) (le : Nat → Nat) (tn : Nat → Int64) (hp : pt < 16) (hbb : bb < 2) (hs : sd < 2) (hc : ch < 8) (hL : le (2 * pt + sd) ≤ 32) : MV l yX4_gives wsX4_gives ({ frames := 0, cells := 0, slots := 0, locals := 0 }) E sz [.ref aM, .int (nI bb), .int (nI pt), .int (nI sd), .int (nI ch), .long ph] [(aM, o4 (nI th) (nI n) mK mX mY mF mS mL mQ mW mA mD mO mV mC mT mE mN mH mZ mP em gn lk (nI lst)), (mL, ia E nI 32 le), (mT, ja E 256 tn)] (fun _ : Unit => True) (fun _ => [(aM, o4 (nI th) (nI n) mK mX mY mF mS mL mQ mW mA mD mO mV mC mT mE mN mH mZ mP em gn (mvL bb (le (2 * pt + sd)) ph lk) (nI lst)), (mL, ia E nI 32 le), (mT, ja E 256 (mvG (le (2 * pt + sd)) ch ph tn))]) := by
  refine enV (cc := cX4_gives) (maxL := 8) (by decide +kernel) rfl (Nat.le_of_ble_eq_true rfl) ?_
  intro p e s m below meth c A ls hx hb hr hml hts hown hlocks hAe C0 hP hD hS hl
  have hown : s.vm.findClass RX4 = some m.cls := hown
  have hl : lv_has ls 8 [(0, .ref aM), (1, .int (nI bb)), (2, .int (nI pt)), (3, .int (nI sd)), (4, .int (nI ch)), (5, .long ph)] := hl
  have iX4 : ∀ w ∈ u_ws RX4 TX4 25, w ∈ wsX4_gives := by decide +kernel
  obtain ⟨H, hHe⟩ : ∃ z, z = s.heap := ⟨_, rfl⟩
  obtain ⟨locs, hLe⟩ : ∃ z : List Loc, z = [] := ⟨_, rfl⟩
  have hP : va_P E.1 vwCl [(aM, o4 (nI th) (nI n) mK mX mY mF mS mL mQ mW mA mD mO mV mC mT mE mN mH mZ mP em gn lk (nI lst)), (mL, ia E nI 32 le), (mT, ja E 256 tn)] H := by rw [hHe]; exact hP
  have hD : va_D A [(aM, o4 (nI th) (nI n) mK mX mY mF mS mL mQ mW mA mD mO mV mC mT mE mN mH mZ mP em gn lk (nI lst)), (mL, ia E nI 32 le), (mT, ja E 256 tn)] := hD
  have hS : va_S A s.heap H locs := by rw [hHe, hLe]; exact hS
  suffices hgo : W p l e _ s m _ below meth c H locs 0 0 _ (F0 m 0 ls []) by rw [hHe, hLe] at hgo; exact hgo
  clear hHe hLe
  refine lv_aload_n hx hb dX4_gives_0 rfl (lv_at hl 0 rfl) ?_
  refine va_get (D := E.1) (ci := 4) (v := .ref mL) (C := RX4) (T := TX4) (N := 25) hx hb hts iX4 hown C0.1 hP 0 rfl rfl 7 (by decide) (hts (.fieldLink RX4 25 "RingresonanceModel" "leads" "[I") (by decide +kernel)) (fun _ h9 => h9) rfl dX4_gives_1 ?_
  refine lv_iconst (v := nI 2) hx hb dX4_gives_4 (by decide) ?_
  refine lv_iload_n hx hb dX4_gives_5 rfl (lv_at hl 2 rfl) ?_
  refine lv_imul hx hb dX4_gives_6 ?_
  refine lv_ri (y := (nI (2 * pt))) (pk_mul 2 pt) ?_
  refine lv_iload_n hx hb dX4_gives_7 rfl (lv_at hl 3 rfl) ?_
  refine lv_iadd hx hb dX4_gives_8 ?_
  refine lv_ri (y := (nI ((2 * pt) + sd))) (nI_add (2 * pt) sd) ?_
  refine k_iald (e := ((2 * pt) + sd)) (g := nI) (n := 32) hx hb C0 hP 1 rfl (by omega) (by omega) dX4_gives_9 ?_
  refine lv_iconst (v := nI 1) hx hb dX4_gives_10 (by decide) ?_
  refine lv_isub hx hb dX4_gives_11 ?_
  refine lv_ri (y := (cL (le (2 * pt + sd)))) (cL_n _) ?_
  refine lv_istore (lv' := [(7, .int (cL (le (2 * pt + sd)))), (0, .ref aM), (1, .int (nI bb)), (2, .int (nI pt)), (3, .int (nI sd)), (4, .int (nI ch)), (5, .long ph)]) hx hb dX4_gives_12 hl (by decide) rfl (fun ls hl => ?_)
  refine lv_iload hx hb dX4_gives_14 (lv_at hl 0 rfl) ?_
  refine lv_if_lt (tgt := 40) hx hb dX4_gives_16 (by decide) (fun c_1 => ?_) (fun c_1 => ?_)
  · skip
    have c_1 : le (2 * pt + sd) = 0 := (cL_neg (by omega)).mp c_1
    refine lv_iload_n hx hb dX4_gives_40 rfl (lv_at hl 2 rfl) ?_
    refine lv_if_ne (tgt := 55) hx hb dX4_gives_41 (by decide) (fun c_2 => ?_) (fun c_2 => ?_)
    · skip
      have c_2 : ¬ (bb = 0) := fun h => c_2 ((ci0_eq (by omega)).mpr h)
      have q_3 : (mvL bb (le (2 * pt + sd)) ph lk) = lk := by first | rfl | (simp only [mvL, mvG, c_1, c_2, if_true, if_false, not_true_eq_false, not_false_eq_true, ite_true, ite_false]; done) | (simp only [mvL, mvG, c_1, c_2, if_true, if_false]; rfl) | (simp [mvL, mvG, c_1, c_2]; done)
      have q_4 : (mvG (le (2 * pt + sd)) ch ph tn) = tn := by first | rfl | (simp only [mvL, mvG, c_1, c_2, if_true, if_false, not_true_eq_false, not_false_eq_true, ite_true, ite_false]; done) | (simp only [mvL, mvG, c_1, c_2, if_true, if_false]; rfl) | (simp [mvL, mvG, c_1, c_2]; done)
      have hP : va_P E.1 vwCl [(aM, o4 (nI th) (nI n) mK mX mY mF mS mL mQ mW mA mD mO mV mC mT mE mN mH mZ mP em gn (mvL bb (le (2 * pt + sd)) ph lk) (nI lst)), (mL, ia E nI 32 le), (mT, ja E 256 (mvG (le (2 * pt + sd)) ch ph tn))] H := by rw [q_3, q_4]; exact hP
      have hD : va_D A [(aM, o4 (nI th) (nI n) mK mX mY mF mS mL mQ mW mA mD mO mV mC mT mE mN mH mZ mP em gn (mvL bb (le (2 * pt + sd)) ph lk) (nI lst)), (mL, ia E nI 32 le), (mT, ja E 256 (mvG (le (2 * pt + sd)) ch ph tn))] := by rw [q_3, q_4]; exact hD
      exact exV hx hb hr hlocks hAe hS () trivial hP hD dX4_gives_55
    · skip
      have c_2 : bb = 0 := (ci0_eq (by omega)).mp c_2
      refine lv_aload_n hx hb dX4_gives_44 rfl (lv_at hl 1 rfl) ?_
      refine lv_dup hx hb dX4_gives_45 rfl ?_
      refine va_get (D := E.1) (ci := 4) (v := .long lk) (C := RX4) (T := TX4) (N := 25) hx hb hts iX4 hown C0.1 hP 0 rfl rfl 23 (by decide) (hts (.fieldLink RX4 86 "RingresonanceModel" "leaked" "J") (by decide +kernel)) (fun _ h9 => h9) rfl dX4_gives_46 ?_
      refine lv_lload hx hb dX4_gives_49 (lv_at hl 6 rfl) ?_
      refine lv_ladd hx hb dX4_gives_51 ?_
      refine va_put (D := E.1) (ci := 4) (v := .long (lk + ph)) (ty := .long) (C := RX4) (T := TX4) (N := 25) hx hb hts iX4 tyX4 tyX4_ok nmX4 hown C0.1 hP hD hS 0 rfl rfl 23 (by decide) (hts (.fieldLink RX4 86 "RingresonanceModel" "leaked" "J") (by decide +kernel)) (fun _ h9 => h9) rfl (by decide +kernel) rfl rfl (Nat.le_of_ble_eq_true rfl) dX4_gives_52 (fun H locs hP hD hS => ?_)
      have hP : va_P E.1 vwCl [(aM, o4 (nI th) (nI n) mK mX mY mF mS mL mQ mW mA mD mO mV mC mT mE mN mH mZ mP em gn (lk + ph) (nI lst)), (mL, ia E nI 32 le), (mT, ja E 256 tn)] H := hP
      have hD : va_D A [(aM, o4 (nI th) (nI n) mK mX mY mF mS mL mQ mW mA mD mO mV mC mT mE mN mH mZ mP em gn (lk + ph) (nI lst)), (mL, ia E nI 32 le), (mT, ja E 256 tn)] := hD
      have q_5 : (mvL bb (le (2 * pt + sd)) ph lk) = (lk + ph) := by first | rfl | (simp only [mvL, mvG, c_1, c_2, if_true, if_false, not_true_eq_false, not_false_eq_true, ite_true, ite_false]; done) | (simp only [mvL, mvG, c_1, c_2, if_true, if_false]; rfl) | (simp [mvL, mvG, c_1, c_2]; done)
      have q_6 : (mvG (le (2 * pt + sd)) ch ph tn) = tn := by first | rfl | (simp only [mvL, mvG, c_1, c_2, if_true, if_false, not_true_eq_false, not_false_eq_true, ite_true, ite_false]; done) | (simp only [mvL, mvG, c_1, c_2, if_true, if_false]; rfl) | (simp [mvL, mvG, c_1, c_2]; done)
      have hP : va_P E.1 vwCl [(aM, o4 (nI th) (nI n) mK mX mY mF mS mL mQ mW mA mD mO mV mC mT mE mN mH mZ mP em gn (mvL bb (le (2 * pt + sd)) ph lk) (nI lst)), (mL, ia E nI 32 le), (mT, ja E 256 (mvG (le (2 * pt + sd)) ch ph tn))] H := by rw [q_5, q_6]; exact hP
      have hD : va_D A [(aM, o4 (nI th) (nI n) mK mX mY mF mS mL mQ mW mA mD mO mV mC mT mE mN mH mZ mP em gn (mvL bb (le (2 * pt + sd)) ph lk) (nI lst)), (mL, ia E nI 32 le), (mT, ja E 256 (mvG (le (2 * pt + sd)) ch ph tn))] := by rw [q_5, q_6]; exact hD
      exact exV hx hb hr hlocks hAe hS () trivial hP hD dX4_gives_55
  · skip
    have c_1 : ¬ (le (2 * pt + sd) = 0) := fun h => c_1 ((cL_neg (by omega)).mpr h)
    rw [show cL (le (2 * pt + sd)) = nI (le (2 * pt + sd) - 1) from cL_pos c_1] at hl
    refine lv_aload_n hx hb dX4_gives_19 rfl (lv_at hl 1 rfl) ?_
    refine va_get (D := E.1) (ci := 4) (v := .ref mT) (C := RX4) (T := TX4) (N := 25) hx hb hts iX4 hown C0.1 hP 0 rfl rfl 15 (by decide) (hts (.fieldLink RX4 50 "RingresonanceModel" "then" "[J") (by decide +kernel)) (fun _ h9 => h9) rfl dX4_gives_20 ?_
    refine lv_bipush (v := nI 8) hx hb dX4_gives_23 (by decide) ?_
    refine lv_iload hx hb dX4_gives_25 (lv_at hl 0 rfl) ?_
    refine lv_imul hx hb dX4_gives_27 ?_
    refine lv_ri (y := (nI (8 * (le (2 * pt + sd) - 1)))) (pk_mul 8 (le (2 * pt + sd) - 1)) ?_
    refine lv_iload hx hb dX4_gives_28 (lv_at hl 5 rfl) ?_
    refine lv_iadd hx hb dX4_gives_30 ?_
    refine lv_ri (y := (nI ((8 * (le (2 * pt + sd) - 1)) + ch))) (nI_add (8 * (le (2 * pt + sd) - 1)) ch) ?_
    refine lv_dup2_11 hx hb dX4_gives_31 rfl rfl ?_
    refine k_lald (e := ((8 * (le (2 * pt + sd) - 1)) + ch)) (n := 256) hx hb C0 hP 2 rfl (by omega) (by omega) dX4_gives_32 ?_
    refine lv_lload hx hb dX4_gives_33 (lv_at hl 6 rfl) ?_
    refine lv_ladd hx hb dX4_gives_35 ?_
    refine k_last (e := ((8 * (le (2 * pt + sd) - 1)) + ch)) (n := 256) hx hb C0 hP hD hS 2 rfl (by omega) (by omega) dX4_gives_36 (fun H locs hP hD hS => ?_)
    have hP : va_P E.1 vwCl [(aM, o4 (nI th) (nI n) mK mX mY mF mS mL mQ mW mA mD mO mV mC mT mE mN mH mZ mP em gn lk (nI lst)), (mL, ia E nI 32 le), (mT, ja E 256 (va_up tn ((8 * (le (2 * pt + sd) - 1)) + ch) ((tn ((8 * (le (2 * pt + sd) - 1)) + ch)) + ph)))] H := hP
    have hD : va_D A [(aM, o4 (nI th) (nI n) mK mX mY mF mS mL mQ mW mA mD mO mV mC mT mE mN mH mZ mP em gn lk (nI lst)), (mL, ia E nI 32 le), (mT, ja E 256 (va_up tn ((8 * (le (2 * pt + sd) - 1)) + ch) ((tn ((8 * (le (2 * pt + sd) - 1)) + ch)) + ph)))] := hD
    refine lv_goto (tgt := 55) hx hb dX4_gives_37 (by decide) ?_
    have q_7 : (mvL bb (le (2 * pt + sd)) ph lk) = lk := by first | rfl | (simp only [mvL, mvG, c_1, if_true, if_false, not_true_eq_false, not_false_eq_true, ite_true, ite_false]; done) | (simp only [mvL, mvG, c_1, if_true, if_false]; rfl) | (simp [mvL, mvG, c_1]; done)
    have q_8 : (mvG (le (2 * pt + sd)) ch ph tn) = (va_up tn ((8 * (le (2 * pt + sd) - 1)) + ch) ((tn ((8 * (le (2 * pt + sd) - 1)) + ch)) + ph)) := by first | rfl | (simp only [mvL, mvG, c_1, if_true, if_false, not_true_eq_false, not_false_eq_true, ite_true, ite_false]; done) | (simp only [mvL, mvG, c_1, if_true, if_false]; rfl) | (simp [mvL, mvG, c_1]; done)
    have hP : va_P E.1 vwCl [(aM, o4 (nI th) (nI n) mK mX mY mF mS mL mQ mW mA mD mO mV mC mT mE mN mH mZ mP em gn (mvL bb (le (2 * pt + sd)) ph lk) (nI lst)), (mL, ia E nI 32 le), (mT, ja E 256 (mvG (le (2 * pt + sd)) ch ph tn))] H := by rw [q_7, q_8]; exact hP
    have hD : va_D A [(aM, o4 (nI th) (nI n) mK mX mY mF mS mL mQ mW mA mD mO mV mC mT mE mN mH mZ mP em gn (mvL bb (le (2 * pt + sd)) ph lk) (nI lst)), (mL, ia E nI 32 le), (mT, ja E 256 (mvG (le (2 * pt + sd)) ch ph tn))] := by rw [q_7, q_8]; exact hD
    exact exV hx hb hr hlocks hAe hS () trivial hP hD dX4_gives_55

def mvO (bb : Nat) (ph gn : Int64) : Int64 := gn + (if bb = 0 then ph else 0)

set_option maxHeartbeats 4000000 in
set_option maxRecDepth 100000 in
theorem m_loses (l : Launch) (E : EnvT) (sz : Nat) (bb : Nat) (ph : Int64) (aM mK mX mY mF mS mL mQ mW mA mD mO mV mC mT mE mN mH mZ mP : Nat) (th n lst : Nat) (em gn lk : Int64) (hbb : bb < 2) : MV l yX4_loses wsX4_loses ({ frames := 0, cells := 0, slots := 0, locals := 0 }) E sz [.ref aM, .int (nI bb), .long ph] [(aM, o4 (nI th) (nI n) mK mX mY mF mS mL mQ mW mA mD mO mV mC mT mE mN mH mZ mP em gn lk (nI lst))] (fun _ : Unit => True) (fun _ => [(aM, o4 (nI th) (nI n) mK mX mY mF mS mL mQ mW mA mD mO mV mC mT mE mN mH mZ mP em (mvO bb ph gn) lk (nI lst))]) := by
  refine enV (cc := cX4_loses) (maxL := 4) (by decide +kernel) rfl (Nat.le_of_ble_eq_true rfl) ?_
  intro p e s m below meth c A ls hx hb hr hml hts hown hlocks hAe C0 hP hD hS hl
  have hown : s.vm.findClass RX4 = some m.cls := hown
  have hl : lv_has ls 4 [(0, .ref aM), (1, .int (nI bb)), (2, .long ph)] := hl
  have iX4 : ∀ w ∈ u_ws RX4 TX4 25, w ∈ wsX4_loses := by decide +kernel
  obtain ⟨H, hHe⟩ : ∃ z, z = s.heap := ⟨_, rfl⟩
  obtain ⟨locs, hLe⟩ : ∃ z : List Loc, z = [] := ⟨_, rfl⟩
  have hP : va_P E.1 vwCl [(aM, o4 (nI th) (nI n) mK mX mY mF mS mL mQ mW mA mD mO mV mC mT mE mN mH mZ mP em gn lk (nI lst))] H := by rw [hHe]; exact hP
  have hD : va_D A [(aM, o4 (nI th) (nI n) mK mX mY mF mS mL mQ mW mA mD mO mV mC mT mE mN mH mZ mP em gn lk (nI lst))] := hD
  have hS : va_S A s.heap H locs := by rw [hHe, hLe]; exact hS
  suffices hgo : W p l e _ s m _ below meth c H locs 0 0 _ (F0 m 0 ls []) by rw [hHe, hLe] at hgo; exact hgo
  clear hHe hLe
  refine lv_aload_n hx hb dX4_loses_0 rfl (lv_at hl 0 rfl) ?_
  refine lv_dup hx hb dX4_loses_1 rfl ?_
  refine va_get (D := E.1) (ci := 4) (v := .long gn) (C := RX4) (T := TX4) (N := 25) hx hb hts iX4 hown C0.1 hP 0 rfl rfl 22 (by decide) (hts (.fieldLink RX4 90 "RingresonanceModel" "gone" "J") (by decide +kernel)) (fun _ h9 => h9) rfl dX4_loses_2 ?_
  refine lv_iload_n hx hb dX4_loses_5 rfl (lv_at hl 1 rfl) ?_
  refine lv_if_ne (tgt := 13) hx hb dX4_loses_6 (by decide) (fun c_1 => ?_) (fun c_1 => ?_)
  · skip
    have c_1 : ¬ (bb = 0) := fun h => c_1 ((ci0_eq (by omega)).mpr h)
    refine lv_lconst (v := 0) hx hb dX4_loses_13 (by decide) ?_
    refine lv_ladd hx hb dX4_loses_14 ?_
    refine va_put (D := E.1) (ci := 4) (v := .long (gn + 0)) (ty := .long) (C := RX4) (T := TX4) (N := 25) hx hb hts iX4 tyX4 tyX4_ok nmX4 hown C0.1 hP hD hS 0 rfl rfl 22 (by decide) (hts (.fieldLink RX4 90 "RingresonanceModel" "gone" "J") (by decide +kernel)) (fun _ h9 => h9) rfl (by decide +kernel) rfl rfl (Nat.le_of_ble_eq_true rfl) dX4_loses_15 (fun H locs hP hD hS => ?_)
    have hP : va_P E.1 vwCl [(aM, o4 (nI th) (nI n) mK mX mY mF mS mL mQ mW mA mD mO mV mC mT mE mN mH mZ mP em (gn + 0) lk (nI lst))] H := hP
    have hD : va_D A [(aM, o4 (nI th) (nI n) mK mX mY mF mS mL mQ mW mA mD mO mV mC mT mE mN mH mZ mP em (gn + 0) lk (nI lst))] := hD
    have q_2 : (mvO bb ph gn) = (gn + 0) := by first | rfl | (simp only [mvO, c_1, if_true, if_false, not_true_eq_false, not_false_eq_true, ite_true, ite_false]; done) | (simp only [mvO, c_1, if_true, if_false]; rfl) | (simp [mvO, c_1]; done)
    have hP : va_P E.1 vwCl [(aM, o4 (nI th) (nI n) mK mX mY mF mS mL mQ mW mA mD mO mV mC mT mE mN mH mZ mP em (mvO bb ph gn) lk (nI lst))] H := by rw [q_2]; exact hP
    have hD : va_D A [(aM, o4 (nI th) (nI n) mK mX mY mF mS mL mQ mW mA mD mO mV mC mT mE mN mH mZ mP em (mvO bb ph gn) lk (nI lst))] := by rw [q_2]; exact hD
    exact exV hx hb hr hlocks hAe hS () trivial hP hD dX4_loses_18
  · skip
    have c_1 : bb = 0 := (ci0_eq (by omega)).mp c_1
    refine lv_lload_n hx hb dX4_loses_9 rfl (lv_at hl 2 rfl) ?_
    refine lv_goto (tgt := 14) hx hb dX4_loses_10 (by decide) ?_
    refine lv_ladd hx hb dX4_loses_14 ?_
    refine va_put (D := E.1) (ci := 4) (v := .long (gn + ph)) (ty := .long) (C := RX4) (T := TX4) (N := 25) hx hb hts iX4 tyX4 tyX4_ok nmX4 hown C0.1 hP hD hS 0 rfl rfl 22 (by decide) (hts (.fieldLink RX4 90 "RingresonanceModel" "gone" "J") (by decide +kernel)) (fun _ h9 => h9) rfl (by decide +kernel) rfl rfl (Nat.le_of_ble_eq_true rfl) dX4_loses_15 (fun H locs hP hD hS => ?_)
    have hP : va_P E.1 vwCl [(aM, o4 (nI th) (nI n) mK mX mY mF mS mL mQ mW mA mD mO mV mC mT mE mN mH mZ mP em (gn + ph) lk (nI lst))] H := hP
    have hD : va_D A [(aM, o4 (nI th) (nI n) mK mX mY mF mS mL mQ mW mA mD mO mV mC mT mE mN mH mZ mP em (gn + ph) lk (nI lst))] := hD
    have q_3 : (mvO bb ph gn) = (gn + ph) := by first | rfl | (simp only [mvO, c_1, if_true, if_false, not_true_eq_false, not_false_eq_true, ite_true, ite_false]; done) | (simp only [mvO, c_1, if_true, if_false]; rfl) | (simp [mvO, c_1]; done)
    have hP : va_P E.1 vwCl [(aM, o4 (nI th) (nI n) mK mX mY mF mS mL mQ mW mA mD mO mV mC mT mE mN mH mZ mP em (mvO bb ph gn) lk (nI lst))] H := by rw [q_3]; exact hP
    have hD : va_D A [(aM, o4 (nI th) (nI n) mK mX mY mF mS mL mQ mW mA mD mO mV mC mT mE mN mH mZ mP em (mvO bb ph gn) lk (nI lst))] := by rw [q_3]; exact hD
    exact exV hx hb hr hlocks hAe hS () trivial hP hD dX4_loses_18

def shM (kd se : Nat → Nat) (cen pt ch : Nat) : Nat := if kd pt = 2 then se pt else rsh (ch + 8 - cen)
theorem sub_8 {a b : Nat} (h : b ≤ a + 8) : nI a - nI b + nI 8 = nI (a + 8 - b) := by
  rw [← pk_sub h, ← nI_add]
  grind

set_option maxHeartbeats 4000000 in
set_option maxRecDepth 100000 in
theorem m_share (l : Launch) (E : EnvT) (sz : Nat) (bb pt ch : Nat) (aM mK mX mY mF mS mL mQ mW mA mD mO mV mC mT mE mN mH mZ mP : Nat) (th n lst : Nat) (em gn lk : Int64) (kd fi se wm ofm : Nat → Nat) (hp : pt < 16) (hbb : bb < 2) (hc : ch < 8) (hc9 : fi pt + ofm bb + wm (16 * bb + pt) / 16 < 2 ^ 20) (hk : kd pt ≤ 5) : MI l yX4_share wsX4_share ({ frames := 1, cells := 0, slots := 0, locals := 22 }) E sz [.ref aM, .int (nI bb), .int (nI pt), .int (nI ch)] [(aM, o4 (nI th) (nI n) mK mX mY mF mS mL mQ mW mA mD mO mV mC mT mE mN mH mZ mP em gn lk (nI lst)), (mK, ia E nI 16 kd), (mF, ia E nI 16 fi), (mS, ia E nI 16 se), (mH, ia E nI 32 wm), (mP, ia E cO 2 ofm)] (fun (r : Int32) (_ : Unit) => r = nI (shM kd se (cnt fi (fun j => wm (16 * bb + j)) (ofm bb) pt) pt ch)) (fun _ => [(aM, o4 (nI th) (nI n) mK mX mY mF mS mL mQ mW mA mD mO mV mC mT mE mN mH mZ mP em gn lk (nI lst)), (mK, ia E nI 16 kd), (mF, ia E nI 16 fi), (mS, ia E nI 16 se), (mH, ia E nI 32 wm), (mP, ia E cO 2 ofm)]) := by
  refine enI (cc := cX4_share) (maxL := 5) (ret := .int) (by decide +kernel) rfl (Nat.le_of_ble_eq_true rfl) ?_
  intro p e s m below meth c A ls hx hb hr hml hts hown hlocks hAe C0 hP hD hS hl
  have hown : s.vm.findClass RX4 = some m.cls := hown
  have hl : lv_has ls 5 [(0, .ref aM), (1, .int (nI bb)), (2, .int (nI pt)), (3, .int (nI ch))] := hl
  have iX4 : ∀ w ∈ u_ws RX4 TX4 25, w ∈ wsX4_share := by decide +kernel
  obtain ⟨H, hHe⟩ : ∃ z, z = s.heap := ⟨_, rfl⟩
  obtain ⟨locs, hLe⟩ : ∃ z : List Loc, z = [] := ⟨_, rfl⟩
  have hP : va_P E.1 vwCl [(aM, o4 (nI th) (nI n) mK mX mY mF mS mL mQ mW mA mD mO mV mC mT mE mN mH mZ mP em gn lk (nI lst)), (mK, ia E nI 16 kd), (mF, ia E nI 16 fi), (mS, ia E nI 16 se), (mH, ia E nI 32 wm), (mP, ia E cO 2 ofm)] H := by rw [hHe]; exact hP
  have hD : va_D A [(aM, o4 (nI th) (nI n) mK mX mY mF mS mL mQ mW mA mD mO mV mC mT mE mN mH mZ mP em gn lk (nI lst)), (mK, ia E nI 16 kd), (mF, ia E nI 16 fi), (mS, ia E nI 16 se), (mH, ia E nI 32 wm), (mP, ia E cO 2 ofm)] := hD
  have hS : va_S A s.heap H locs := by rw [hHe, hLe]; exact hS
  suffices hgo : W p l e _ s m _ below meth c H locs 0 0 _ (F0 m 0 ls []) by rw [hHe, hLe] at hgo; exact hgo
  clear hHe hLe
  have hcl := cnt_lt fi (fun j => wm (16 * bb + j)) (ofm bb) pt
  refine lv_iload_n hx hb dX4_share_0 rfl (lv_at hl 3 rfl) ?_
  refine lv_aload_n hx hb dX4_share_1 rfl (lv_at hl 0 rfl) ?_
  refine lv_iload_n hx hb dX4_share_2 rfl (lv_at hl 1 rfl) ?_
  refine lv_iload_n hx hb dX4_share_3 rfl (lv_at hl 2 rfl) ?_
  have hPc := hP.pick (ws' := [(aM, o4 (nI th) (nI n) mK mX mY mF mS mL mQ mW mA mD mO mV mC mT mE mN mH mZ mP em gn lk (nI lst)), (mF, ia E nI 16 fi), (mH, ia E nI 32 wm), (mP, ia E cO 2 ofm)]) [0, 2, 4, 5] rfl
  have hDc := hD.sub (ws' := [(aM, o4 (nI th) (nI n) mK mX mY mF mS mL mQ mW mA mD mO mV mC mT mE mN mH mZ mP em gn lk (nI lst)), (mF, ia E nI 16 fi), (mH, ia E nI 32 wm), (mP, ia E cO 2 ofm)]) [0, 2, 4, 5] (by decide) rfl
  refine kcI (wr := [(mK, ia E nI 16 kd), (mS, ia E nI 16 se)]) (w1 := fun _ : Unit => [(aM, o4 (nI th) (nI n) mK mX mY mF mS mL mQ mW mA mD mO mV mC mT mE mN mH mZ mP em gn lk (nI lst)), (mF, ia E nI 16 fi), (mH, ia E nI 32 wm), (mP, ia E cO 2 ofm)]) (w2 := fun _ => [(aM, o4 (nI th) (nI n) mK mX mY mF mS mL mQ mW mA mD mO mV mC mT mE mN mH mZ mP em gn lk (nI lst)), (mK, ia E nI 16 kd), (mF, ia E nI 16 fi), (mS, ia E nI 16 se), (mH, ia E nI 32 wm), (mP, ia E cO 2 ofm)]) (va_runV (As := [.int (nI bb), .int (nI pt)]) (rest := [.int (nI ch)]) ⟨hx, hb, hml, hown, hts⟩ (m_center l E H.size bb pt aM mK mX mY mF mS mL mQ mW mA mD mO mV mC mT mE mN mH mZ mP th n lst em gn lk fi wm ofm (by omega) (by omega) (hc9)) (cwV 2 hts gX4_share_X4_center rfl rfl rfl (by decide +kernel) ⟨Nat.le_of_ble_eq_true rfl, Nat.le_of_ble_eq_true rfl⟩) (preV C0 hPc hDc hS 0 rfl rfl) rfl rfl hl.1 rfl (lv_room (Nat.le_of_ble_eq_true rfl)) dX4_share_4 ⟨Nat.le_refl _, Nat.le_refl _⟩) C0 hP hD hS [0, 2, 4, 5] [1, 3] [2, 0, 3, 1, 4, 5] rfl rfl (by decide) (by decide) (fun _ => rfl) (by decide) (fun r_9 _u H locs hw hP hD hS => ?_)
  have hP : va_P E.1 vwCl [(aM, o4 (nI th) (nI n) mK mX mY mF mS mL mQ mW mA mD mO mV mC mT mE mN mH mZ mP em gn lk (nI lst)), (mK, ia E nI 16 kd), (mF, ia E nI 16 fi), (mS, ia E nI 16 se), (mH, ia E nI 32 wm), (mP, ia E cO 2 ofm)] H := hP
  have hD : va_D A [(aM, o4 (nI th) (nI n) mK mX mY mF mS mL mQ mW mA mD mO mV mC mT mE mN mH mZ mP em gn lk (nI lst)), (mK, ia E nI 16 kd), (mF, ia E nI 16 fi), (mS, ia E nI 16 se), (mH, ia E nI 32 wm), (mP, ia E cO 2 ofm)] := hD
  have hw : r_9 = nI (cnt fi (fun j => wm (16 * bb + j)) (ofm bb) pt) := hw
  subst hw
  refine lv_isub hx hb dX4_share_7 ?_
  refine lv_bipush (v := nI 8) hx hb dX4_share_8 (by decide) ?_
  refine lv_iadd hx hb dX4_share_10 ?_
  refine lv_ri (y := (nI (ch + 8 - cnt fi (fun j => wm (16 * bb + j)) (ofm bb) pt))) (sub_8 (by omega)) ?_
  refine lv_bipush (v := nI 8) hx hb dX4_share_11 (by decide) ?_
  refine lv_irem hx hb dX4_share_13 (by decide) ?_
  refine lv_ri (y := (nI ((ch + 8 - cnt fi (fun j => wm (16 * bb + j)) (ofm bb) pt) % 8))) (pk_rem (by omega) (by omega) (by omega)) ?_
  refine lv_istore (lv' := [(4, .int (nI ((ch + 8 - cnt fi (fun j => wm (16 * bb + j)) (ofm bb) pt) % 8))), (0, .ref aM), (1, .int (nI bb)), (2, .int (nI pt)), (3, .int (nI ch))]) hx hb dX4_share_14 hl (by decide) rfl (fun ls hl => ?_)
  refine lv_aload_n hx hb dX4_share_16 rfl (lv_at hl 1 rfl) ?_
  refine va_get (D := E.1) (ci := 4) (v := .ref mK) (C := RX4) (T := TX4) (N := 25) hx hb hts iX4 hown C0.1 hP 0 rfl rfl 2 (by decide) (hts (.fieldLink RX4 7 "RingresonanceModel" "kind" "[I") (by decide +kernel)) (fun _ h9 => h9) rfl dX4_share_17 ?_
  refine lv_iload_n hx hb dX4_share_20 rfl (lv_at hl 3 rfl) ?_
  refine k_iald (e := pt) (g := nI) (n := 16) hx hb C0 hP 1 rfl (by omega) (by omega) dX4_share_21 ?_
  refine lv_iconst (v := nI 2) hx hb dX4_share_22 (by decide) ?_
  refine lv_icmp_ne (tgt := 35) hx hb dX4_share_23 (by decide) (fun c_1 => ?_) (fun c_1 => ?_)
  · skip
    have c_1 : ¬ ((kd pt) = 2) := fun h => c_1 ((ci_eq (by omega) (by omega)).mpr h)
    refine lv_iload hx hb dX4_share_35 (lv_at hl 0 rfl) ?_
    refine lv_if_ne (tgt := 45) hx hb dX4_share_37 (by decide) (fun c_2 => ?_) (fun c_2 => ?_)
    · skip
      have c_2 : ¬ (((ch + 8 - cnt fi (fun j => wm (16 * bb + j)) (ofm bb) pt) % 8) = 0) := fun h => c_2 ((ci0_eq (by omega)).mpr h)
      refine lv_iload hx hb dX4_share_45 (lv_at hl 0 rfl) ?_
      refine lv_iconst (v := nI 1) hx hb dX4_share_47 (by decide) ?_
      refine lv_icmp_eq (tgt := 58) hx hb dX4_share_48 (by decide) (fun c_3 => ?_) (fun c_3 => ?_)
      · skip
        have c_3 : ((ch + 8 - cnt fi (fun j => wm (16 * bb + j)) (ofm bb) pt) % 8) = 1 := (ci_eq (by omega) (by omega)).mp c_3
        refine lv_bipush (v := nI 20) hx hb dX4_share_58 (by decide) ?_
        refine lv_goto (tgt := 64) hx hb dX4_share_60 (by decide) ?_
        have q_4 : (nI 20) = (nI (shM kd se (cnt fi (fun j => wm (16 * bb + j)) (ofm bb) pt) pt ch)) := by symm; simp [shM, rsh, c_1, c_2, c_3, trivial]
        exact exI hx hb hr hlocks hAe hS () q_4 hP hD dX4_share_64
      · skip
        have c_3 : ¬ (((ch + 8 - cnt fi (fun j => wm (16 * bb + j)) (ofm bb) pt) % 8) = 1) := fun h => c_3 ((ci_eq (by omega) (by omega)).mpr h)
        refine lv_iload hx hb dX4_share_51 (lv_at hl 0 rfl) ?_
        refine lv_bipush (v := nI 7) hx hb dX4_share_53 (by decide) ?_
        refine lv_icmp_ne (tgt := 63) hx hb dX4_share_55 (by decide) (fun c_5 => ?_) (fun c_5 => ?_)
        · skip
          have c_5 : ¬ (((ch + 8 - cnt fi (fun j => wm (16 * bb + j)) (ofm bb) pt) % 8) = 7) := fun h => c_5 ((ci_eq (by omega) (by omega)).mpr h)
          refine lv_iconst (v := nI 0) hx hb dX4_share_63 (by decide) ?_
          have q_6 : (nI 0) = (nI (shM kd se (cnt fi (fun j => wm (16 * bb + j)) (ofm bb) pt) pt ch)) := by symm; simp [shM, rsh, c_1, c_2, c_3, c_5]
          exact exI hx hb hr hlocks hAe hS () q_6 hP hD dX4_share_64
        · skip
          have c_5 : ((ch + 8 - cnt fi (fun j => wm (16 * bb + j)) (ofm bb) pt) % 8) = 7 := (ci_eq (by omega) (by omega)).mp c_5
          refine lv_bipush (v := nI 20) hx hb dX4_share_58 (by decide) ?_
          refine lv_goto (tgt := 64) hx hb dX4_share_60 (by decide) ?_
          have q_7 : (nI 20) = (nI (shM kd se (cnt fi (fun j => wm (16 * bb + j)) (ofm bb) pt) pt ch)) := by symm; simp [shM, rsh, c_1, c_2, c_3, c_5]
          exact exI hx hb hr hlocks hAe hS () q_7 hP hD dX4_share_64
    · skip
      have c_2 : ((ch + 8 - cnt fi (fun j => wm (16 * bb + j)) (ofm bb) pt) % 8) = 0 := (ci0_eq (by omega)).mp c_2
      refine lv_bipush (v := nI 90) hx hb dX4_share_40 (by decide) ?_
      refine lv_goto (tgt := 64) hx hb dX4_share_42 (by decide) ?_
      have q_8 : (nI 90) = (nI (shM kd se (cnt fi (fun j => wm (16 * bb + j)) (ofm bb) pt) pt ch)) := by symm; simp [shM, rsh, c_1, c_2, trivial, trivial]
      exact exI hx hb hr hlocks hAe hS () q_8 hP hD dX4_share_64
  · skip
    have c_1 : (kd pt) = 2 := (ci_eq (by omega) (by omega)).mp c_1
    refine lv_aload_n hx hb dX4_share_26 rfl (lv_at hl 1 rfl) ?_
    refine va_get (D := E.1) (ci := 4) (v := .ref mS) (C := RX4) (T := TX4) (N := 25) hx hb hts iX4 hown C0.1 hP 0 rfl rfl 6 (by decide) (hts (.fieldLink RX4 22 "RingresonanceModel" "second" "[I") (by decide +kernel)) (fun _ h9 => h9) rfl dX4_share_27 ?_
    refine lv_iload_n hx hb dX4_share_30 rfl (lv_at hl 3 rfl) ?_
    refine k_iald (e := pt) (g := nI) (n := 16) hx hb C0 hP 3 rfl (by omega) (by omega) dX4_share_31 ?_
    refine lv_goto (tgt := 64) hx hb dX4_share_32 (by decide) ?_
    have q_9 : (nI (se pt)) = (nI (shM kd se (cnt fi (fun j => wm (16 * bb + j)) (ofm bb) pt) pt ch)) := by symm; simp [shM, rsh, c_1, trivial, trivial, trivial]
    exact exI hx hb hr hlocks hAe hS () q_9 hP hD dX4_share_64

theorem cL_eq' {a b : Nat} (ha : a < 2 ^ 31) (hb : b < 2 ^ 30) : nI b = cL a ↔ a = b + 1 := by rw [← cL_eq ha hb]; exact eq_comm
abbrev zM3 : Type := (Nat → Int64) × Int64 × (Nat → Int64)
/-- the reference: a coupler or a ring, channel ch, the photons that come to the input q -/
def shB (kd se le chn : Nat → Nat) (cm : Nat → Int64) (bb cen pt ch : Nat) (q : Nat) (S : zM3) : zM3 :=
  let ph := cm (256 * bb + 8 * (2 * pt + q) + ch)
  let so := ph * iL (shM kd se cen pt ch) / 100
  (mvG (le (2 * pt + q)) ch (ph - so) (mvG (le (2 * pt + (1 - q))) ch so S.1), mvL bb (le (2 * pt + q)) (ph - so) (mvL bb (le (2 * pt + (1 - q))) so S.2.1),
   va_up S.2.2 pt (S.2.2 pt + (if bb = 0 ∧ chn pt = ch + 1 then so else 0)))

set_option maxHeartbeats 4000000 in
set_option maxRecDepth 100000 in
theorem m_shares (l : Launch) (E : EnvT) (sz : Nat) (bb pt ch : Nat) (aM mK mX mY mF mS mL mQ mW mA mD mO mV mC mT mE mN mH mZ mP : Nat) (th n lst : Nat) (em gn lk : Int64) (kd fi se le chn wm ofm : Nat → Nat) (ov cm tn : Nat → Int64) (hp : pt < 16) (hbb : bb < 2) (hc : ch < 8) (hc9 : fi pt + ofm bb + wm (16 * bb + pt) / 16 < 2 ^ 20) (hk : kd pt ≤ 5) (hL : ∀ j, j < 32 → le j ≤ 32) (hq : chn pt ≤ 8) : MV l yX4_shares wsX4_shares ({ frames := 2, cells := 0, slots := 0, locals := 46 }) E sz [.ref aM, .int (nI bb), .int (nI pt), .int (nI ch)] [(aM, o4 (nI th) (nI n) mK mX mY mF mS mL mQ mW mA mD mO mV mC mT mE mN mH mZ mP em gn lk (nI lst)), (mK, ia E nI 16 kd), (mF, ia E nI 16 fi), (mS, ia E nI 16 se), (mL, ia E nI 32 le), (mQ, ia E cL 16 chn), (mV, ja E 16 ov), (mC, ja E 512 cm), (mT, ja E 256 tn), (mH, ia E nI 32 wm), (mP, ia E cO 2 ofm)] (fun _ : Unit => True) (fun _ => [(aM, o4 (nI th) (nI n) mK mX mY mF mS mL mQ mW mA mD mO mV mC mT mE mN mH mZ mP em gn ((rp (shB kd se le chn cm bb (cnt fi (fun j => wm (16 * bb + j)) (ofm bb) pt) pt ch) (2) (tn, lk, ov)).2.1) (nI lst)), (mK, ia E nI 16 kd), (mF, ia E nI 16 fi), (mS, ia E nI 16 se), (mL, ia E nI 32 le), (mQ, ia E cL 16 chn), (mV, ja E 16 ((rp (shB kd se le chn cm bb (cnt fi (fun j => wm (16 * bb + j)) (ofm bb) pt) pt ch) (2) (tn, lk, ov)).2.2)), (mC, ja E 512 cm), (mT, ja E 256 ((rp (shB kd se le chn cm bb (cnt fi (fun j => wm (16 * bb + j)) (ofm bb) pt) pt ch) (2) (tn, lk, ov)).1)), (mH, ia E nI 32 wm), (mP, ia E cO 2 ofm)]) := by
  refine enV (cc := cX4_shares) (maxL := 9) (by decide +kernel) rfl (Nat.le_of_ble_eq_true rfl) ?_
  intro p e s m below meth c A ls hx hb hr hml hts hown hlocks hAe C0 hP hD hS hl
  have hown : s.vm.findClass RX4 = some m.cls := hown
  have hl : lv_has ls 9 [(0, .ref aM), (1, .int (nI bb)), (2, .int (nI pt)), (3, .int (nI ch))] := hl
  have iX4 : ∀ w ∈ u_ws RX4 TX4 25, w ∈ wsX4_shares := by decide +kernel
  obtain ⟨H, hHe⟩ : ∃ z, z = s.heap := ⟨_, rfl⟩
  obtain ⟨locs, hLe⟩ : ∃ z : List Loc, z = [] := ⟨_, rfl⟩
  have hP : va_P E.1 vwCl [(aM, o4 (nI th) (nI n) mK mX mY mF mS mL mQ mW mA mD mO mV mC mT mE mN mH mZ mP em gn lk (nI lst)), (mK, ia E nI 16 kd), (mF, ia E nI 16 fi), (mS, ia E nI 16 se), (mL, ia E nI 32 le), (mQ, ia E cL 16 chn), (mV, ja E 16 ov), (mC, ja E 512 cm), (mT, ja E 256 tn), (mH, ia E nI 32 wm), (mP, ia E cO 2 ofm)] H := by rw [hHe]; exact hP
  have hD : va_D A [(aM, o4 (nI th) (nI n) mK mX mY mF mS mL mQ mW mA mD mO mV mC mT mE mN mH mZ mP em gn lk (nI lst)), (mK, ia E nI 16 kd), (mF, ia E nI 16 fi), (mS, ia E nI 16 se), (mL, ia E nI 32 le), (mQ, ia E cL 16 chn), (mV, ja E 16 ov), (mC, ja E 512 cm), (mT, ja E 256 tn), (mH, ia E nI 32 wm), (mP, ia E cO 2 ofm)] := hD
  have hS : va_S A s.heap H locs := by rw [hHe, hLe]; exact hS
  suffices hgo : W p l e _ s m _ below meth c H locs 0 0 _ (F0 m 0 ls []) by rw [hHe, hLe] at hgo; exact hgo
  clear hHe hLe
  refine lv_iconst (v := nI 0) hx hb dX4_shares_0 (by decide) ?_
  refine lv_istore (lv' := [(4, .int (nI 0)), (0, .ref aM), (1, .int (nI bb)), (2, .int (nI pt)), (3, .int (nI ch))]) hx hb dX4_shares_1 hl (by decide) rfl (fun ls hl => ?_)
  have LP_1 : ∀ (nz i_3 : Nat), i_3 ≤ 2 → 2 < i_3 + nz → ∀ (H : Heap) (locs : List Loc), va_P E.1 vwCl [(aM, o4 (nI th) (nI n) mK mX mY mF mS mL mQ mW mA mD mO mV mC mT mE mN mH mZ mP em gn ((rp (shB kd se le chn cm bb (cnt fi (fun j => wm (16 * bb + j)) (ofm bb) pt) pt ch) (i_3) (tn, lk, ov)).2.1) (nI lst)), (mK, ia E nI 16 kd), (mF, ia E nI 16 fi), (mS, ia E nI 16 se), (mL, ia E nI 32 le), (mQ, ia E cL 16 chn), (mV, ja E 16 ((rp (shB kd se le chn cm bb (cnt fi (fun j => wm (16 * bb + j)) (ofm bb) pt) pt ch) (i_3) (tn, lk, ov)).2.2)), (mC, ja E 512 cm), (mT, ja E 256 ((rp (shB kd se le chn cm bb (cnt fi (fun j => wm (16 * bb + j)) (ofm bb) pt) pt ch) (i_3) (tn, lk, ov)).1)), (mH, ia E nI 32 wm), (mP, ia E cO 2 ofm)] H → va_D A [(aM, o4 (nI th) (nI n) mK mX mY mF mS mL mQ mW mA mD mO mV mC mT mE mN mH mZ mP em gn ((rp (shB kd se le chn cm bb (cnt fi (fun j => wm (16 * bb + j)) (ofm bb) pt) pt ch) (i_3) (tn, lk, ov)).2.1) (nI lst)), (mK, ia E nI 16 kd), (mF, ia E nI 16 fi), (mS, ia E nI 16 se), (mL, ia E nI 32 le), (mQ, ia E cL 16 chn), (mV, ja E 16 ((rp (shB kd se le chn cm bb (cnt fi (fun j => wm (16 * bb + j)) (ofm bb) pt) pt ch) (i_3) (tn, lk, ov)).2.2)), (mC, ja E 512 cm), (mT, ja E 256 ((rp (shB kd se le chn cm bb (cnt fi (fun j => wm (16 * bb + j)) (ofm bb) pt) pt ch) (i_3) (tn, lk, ov)).1)), (mH, ia E nI 32 wm), (mP, ia E cO 2 ofm)] → va_S A s.heap H locs → ∀ (ls : Array Slot), lv_has ls 9 [(0, .ref aM), (1, .int (nI bb)), (2, .int (nI pt)), (3, .int (nI ch)), (4, .int (nI i_3))] → W p l e ({ frames := 2, cells := 0, slots := 0, locals := 46 }) s m (([.ref aM, .int (nI bb), .int (nI pt), .int (nI ch)] : List Value).toArray) below meth c H locs 0 0 (MQ below (va_Qv (fun _ : Unit => True) (Wd E [(aM, o4 (nI th) (nI n) mK mX mY mF mS mL mQ mW mA mD mO mV mC mT mE mN mH mZ mP em gn lk (nI lst)), (mK, ia E nI 16 kd), (mF, ia E nI 16 fi), (mS, ia E nI 16 se), (mL, ia E nI 32 le), (mQ, ia E cL 16 chn), (mV, ja E 16 ov), (mC, ja E 512 cm), (mT, ja E 256 tn), (mH, ia E nI 32 wm), (mP, ia E cO 2 ofm)] s.heap.size (fun _ => [(aM, o4 (nI th) (nI n) mK mX mY mF mS mL mQ mW mA mD mO mV mC mT mE mN mH mZ mP em gn ((rp (shB kd se le chn cm bb (cnt fi (fun j => wm (16 * bb + j)) (ofm bb) pt) pt ch) (2) (tn, lk, ov)).2.1) (nI lst)), (mK, ia E nI 16 kd), (mF, ia E nI 16 fi), (mS, ia E nI 16 se), (mL, ia E nI 32 le), (mQ, ia E cL 16 chn), (mV, ja E 16 ((rp (shB kd se le chn cm bb (cnt fi (fun j => wm (16 * bb + j)) (ofm bb) pt) pt ch) (2) (tn, lk, ov)).2.2)), (mC, ja E 512 cm), (mT, ja E 256 ((rp (shB kd se le chn cm bb (cnt fi (fun j => wm (16 * bb + j)) (ofm bb) pt) pt ch) (2) (tn, lk, ov)).1)), (mH, ia E nI 32 wm), (mP, ia E cO 2 ofm)])) A) (([.ref aM, .int (nI bb), .int (nI pt), .int (nI ch)] : List Value).toArray) s 0 0 A) (F0 m 3 ls []) := by
    intro nz
    induction nz with
    | zero =>
      intro i_3 h1 h2
      exact absurd h2 (by omega)
    | succ nz ih_2 =>
      intro i_3 hi_i_3 hn_i_3 H locs hP hD hS ls hl
      refine lv_iload hx hb dX4_shares_3 (lv_at hl 4 rfl) ?_
      refine lv_iconst (v := nI 2) hx hb dX4_shares_5 (by decide) ?_
      refine lv_icmp_ge (tgt := 112) hx hb dX4_shares_6 (by decide) (fun c_4 => ?_) (fun c_4 => ?_)
      · skip
        have c_4 : 2 ≤ i_3 := (ci_ge (by omega) (by omega)).mp c_4
        obtain rfl : 2 = i_3 := by omega
        exact exV hx hb hr hlocks hAe hS () trivial hP hD dX4_shares_112
      · skip
        have c_4 : ¬ (2 ≤ i_3) := fun h => c_4 ((ci_ge (by omega) (by omega)).mpr h)
        refine lv_aload_n hx hb dX4_shares_9 rfl (lv_at hl 0 rfl) ?_
        refine va_get (D := E.1) (ci := 4) (v := .ref mC) (C := RX4) (T := TX4) (N := 25) hx hb hts iX4 hown C0.1 hP 0 rfl rfl 14 (by decide) (hts (.fieldLink RX4 47 "RingresonanceModel" "comes" "[J") (by decide +kernel)) (fun _ h9 => h9) rfl dX4_shares_10 ?_
        refine lv_sipush (v := nI 256) hx hb dX4_shares_13 (by decide) ?_
        refine lv_iload_n hx hb dX4_shares_16 rfl (lv_at hl 1 rfl) ?_
        refine lv_imul hx hb dX4_shares_17 ?_
        refine lv_ri (y := (nI (256 * bb))) (pk_mul 256 bb) ?_
        refine lv_bipush (v := nI 8) hx hb dX4_shares_18 (by decide) ?_
        refine lv_iconst (v := nI 2) hx hb dX4_shares_20 (by decide) ?_
        refine lv_iload_n hx hb dX4_shares_21 rfl (lv_at hl 2 rfl) ?_
        refine lv_imul hx hb dX4_shares_22 ?_
        refine lv_ri (y := (nI (2 * pt))) (pk_mul 2 pt) ?_
        refine lv_iload hx hb dX4_shares_23 (lv_at hl 4 rfl) ?_
        refine lv_iadd hx hb dX4_shares_25 ?_
        refine lv_ri (y := (nI ((2 * pt) + i_3))) (nI_add (2 * pt) i_3) ?_
        refine lv_imul hx hb dX4_shares_26 ?_
        refine lv_ri (y := (nI (8 * ((2 * pt) + i_3)))) (pk_mul 8 ((2 * pt) + i_3)) ?_
        refine lv_iadd hx hb dX4_shares_27 ?_
        refine lv_ri (y := (nI ((256 * bb) + (8 * ((2 * pt) + i_3))))) (nI_add (256 * bb) (8 * ((2 * pt) + i_3))) ?_
        refine lv_iload_n hx hb dX4_shares_28 rfl (lv_at hl 3 rfl) ?_
        refine lv_iadd hx hb dX4_shares_29 ?_
        refine lv_ri (y := (nI (((256 * bb) + (8 * ((2 * pt) + i_3))) + ch))) (nI_add ((256 * bb) + (8 * ((2 * pt) + i_3))) ch) ?_
        refine k_lald (e := (((256 * bb) + (8 * ((2 * pt) + i_3))) + ch)) (n := 512) hx hb C0 hP 7 rfl (by omega) (by omega) dX4_shares_30 ?_
        refine lv_lstore (lv' := [(5, .long (cm (((256 * bb) + (8 * ((2 * pt) + i_3))) + ch))), (0, .ref aM), (1, .int (nI bb)), (2, .int (nI pt)), (3, .int (nI ch)), (4, .int (nI i_3))]) hx hb dX4_shares_31 hl (by decide) rfl (fun ls hl => ?_)
        refine lv_lload hx hb dX4_shares_33 (lv_at hl 0 rfl) ?_
        refine lv_aload_n hx hb dX4_shares_35 rfl (lv_at hl 1 rfl) ?_
        refine lv_iload_n hx hb dX4_shares_36 rfl (lv_at hl 2 rfl) ?_
        refine lv_iload_n hx hb dX4_shares_37 rfl (lv_at hl 3 rfl) ?_
        refine lv_iload_n hx hb dX4_shares_38 rfl (lv_at hl 4 rfl) ?_
        have hPc := hP.pick (ws' := [(aM, o4 (nI th) (nI n) mK mX mY mF mS mL mQ mW mA mD mO mV mC mT mE mN mH mZ mP em gn ((rp (shB kd se le chn cm bb (cnt fi (fun j => wm (16 * bb + j)) (ofm bb) pt) pt ch) (i_3) (tn, lk, ov)).2.1) (nI lst)), (mK, ia E nI 16 kd), (mF, ia E nI 16 fi), (mS, ia E nI 16 se), (mH, ia E nI 32 wm), (mP, ia E cO 2 ofm)]) [0, 1, 2, 3, 9, 10] rfl
        have hDc := hD.sub (ws' := [(aM, o4 (nI th) (nI n) mK mX mY mF mS mL mQ mW mA mD mO mV mC mT mE mN mH mZ mP em gn ((rp (shB kd se le chn cm bb (cnt fi (fun j => wm (16 * bb + j)) (ofm bb) pt) pt ch) (i_3) (tn, lk, ov)).2.1) (nI lst)), (mK, ia E nI 16 kd), (mF, ia E nI 16 fi), (mS, ia E nI 16 se), (mH, ia E nI 32 wm), (mP, ia E cO 2 ofm)]) [0, 1, 2, 3, 9, 10] (by decide) rfl
        refine kcI (wr := [(mL, ia E nI 32 le), (mQ, ia E cL 16 chn), (mV, ja E 16 ((rp (shB kd se le chn cm bb (cnt fi (fun j => wm (16 * bb + j)) (ofm bb) pt) pt ch) (i_3) (tn, lk, ov)).2.2)), (mC, ja E 512 cm), (mT, ja E 256 ((rp (shB kd se le chn cm bb (cnt fi (fun j => wm (16 * bb + j)) (ofm bb) pt) pt ch) (i_3) (tn, lk, ov)).1))]) (w1 := fun _ : Unit => [(aM, o4 (nI th) (nI n) mK mX mY mF mS mL mQ mW mA mD mO mV mC mT mE mN mH mZ mP em gn ((rp (shB kd se le chn cm bb (cnt fi (fun j => wm (16 * bb + j)) (ofm bb) pt) pt ch) (i_3) (tn, lk, ov)).2.1) (nI lst)), (mK, ia E nI 16 kd), (mF, ia E nI 16 fi), (mS, ia E nI 16 se), (mH, ia E nI 32 wm), (mP, ia E cO 2 ofm)]) (w2 := fun _ => [(aM, o4 (nI th) (nI n) mK mX mY mF mS mL mQ mW mA mD mO mV mC mT mE mN mH mZ mP em gn ((rp (shB kd se le chn cm bb (cnt fi (fun j => wm (16 * bb + j)) (ofm bb) pt) pt ch) (i_3) (tn, lk, ov)).2.1) (nI lst)), (mK, ia E nI 16 kd), (mF, ia E nI 16 fi), (mS, ia E nI 16 se), (mL, ia E nI 32 le), (mQ, ia E cL 16 chn), (mV, ja E 16 ((rp (shB kd se le chn cm bb (cnt fi (fun j => wm (16 * bb + j)) (ofm bb) pt) pt ch) (i_3) (tn, lk, ov)).2.2)), (mC, ja E 512 cm), (mT, ja E 256 ((rp (shB kd se le chn cm bb (cnt fi (fun j => wm (16 * bb + j)) (ofm bb) pt) pt ch) (i_3) (tn, lk, ov)).1)), (mH, ia E nI 32 wm), (mP, ia E cO 2 ofm)]) (va_runV (As := [.int (nI bb), .int (nI pt), .int (nI ch)]) (rest := [.long (cm (((256 * bb) + (8 * ((2 * pt) + i_3))) + ch))]) ⟨hx, hb, hml, hown, hts⟩ (m_share l E H.size bb pt ch aM mK mX mY mF mS mL mQ mW mA mD mO mV mC mT mE mN mH mZ mP th n lst em gn ((rp (shB kd se le chn cm bb (cnt fi (fun j => wm (16 * bb + j)) (ofm bb) pt) pt ch) (i_3) (tn, lk, ov)).2.1) kd fi se wm ofm (by omega) (by omega) (by omega) (hc9) (by omega)) (cwV 3 hts gX4_shares_X4_share rfl rfl rfl (by decide +kernel) ⟨Nat.le_of_ble_eq_true rfl, Nat.le_of_ble_eq_true rfl⟩) (preV C0 hPc hDc hS 0 rfl rfl) rfl rfl hl.1 rfl (lv_room (Nat.le_of_ble_eq_true rfl)) dX4_shares_39 ⟨Nat.le_refl _, Nat.le_refl _⟩) C0 hP hD hS [0, 1, 2, 3, 9, 10] [4, 5, 6, 7, 8] [5, 6, 7, 8, 0, 1, 2, 3, 4, 9, 10] rfl rfl (by decide) (by decide) (fun _ => rfl) (by decide) (fun r_9 _u H locs hw hP hD hS => ?_)
        have hP : va_P E.1 vwCl [(aM, o4 (nI th) (nI n) mK mX mY mF mS mL mQ mW mA mD mO mV mC mT mE mN mH mZ mP em gn ((rp (shB kd se le chn cm bb (cnt fi (fun j => wm (16 * bb + j)) (ofm bb) pt) pt ch) (i_3) (tn, lk, ov)).2.1) (nI lst)), (mK, ia E nI 16 kd), (mF, ia E nI 16 fi), (mS, ia E nI 16 se), (mL, ia E nI 32 le), (mQ, ia E cL 16 chn), (mV, ja E 16 ((rp (shB kd se le chn cm bb (cnt fi (fun j => wm (16 * bb + j)) (ofm bb) pt) pt ch) (i_3) (tn, lk, ov)).2.2)), (mC, ja E 512 cm), (mT, ja E 256 ((rp (shB kd se le chn cm bb (cnt fi (fun j => wm (16 * bb + j)) (ofm bb) pt) pt ch) (i_3) (tn, lk, ov)).1)), (mH, ia E nI 32 wm), (mP, ia E cO 2 ofm)] H := hP
        have hD : va_D A [(aM, o4 (nI th) (nI n) mK mX mY mF mS mL mQ mW mA mD mO mV mC mT mE mN mH mZ mP em gn ((rp (shB kd se le chn cm bb (cnt fi (fun j => wm (16 * bb + j)) (ofm bb) pt) pt ch) (i_3) (tn, lk, ov)).2.1) (nI lst)), (mK, ia E nI 16 kd), (mF, ia E nI 16 fi), (mS, ia E nI 16 se), (mL, ia E nI 32 le), (mQ, ia E cL 16 chn), (mV, ja E 16 ((rp (shB kd se le chn cm bb (cnt fi (fun j => wm (16 * bb + j)) (ofm bb) pt) pt ch) (i_3) (tn, lk, ov)).2.2)), (mC, ja E 512 cm), (mT, ja E 256 ((rp (shB kd se le chn cm bb (cnt fi (fun j => wm (16 * bb + j)) (ofm bb) pt) pt ch) (i_3) (tn, lk, ov)).1)), (mH, ia E nI 32 wm), (mP, ia E cO 2 ofm)] := hD
        have hw : r_9 = nI (shM kd se (cnt fi (fun j => wm (16 * bb + j)) (ofm bb) pt) pt ch) := hw
        subst hw
        refine lv_i2l (v := iL (shM kd se (cnt fi (fun j => wm (16 * bb + j)) (ofm bb) pt) pt ch)) hx hb dX4_shares_42 rfl ?_
        refine lv_lmul hx hb dX4_shares_43 ?_
        refine lv_ldc2 (v := 100) hx hb hown (hts (.constantLong RX4 100 (100)) (by decide +kernel)) dX4_shares_44 ?_
        refine lv_ldiv hx hb dX4_shares_47 (by decide) ?_
        refine lv_lstore (lv' := [(7, .long (((cm (((256 * bb) + (8 * ((2 * pt) + i_3))) + ch)) * (iL (shM kd se (cnt fi (fun j => wm (16 * bb + j)) (ofm bb) pt) pt ch))) / 100)), (5, .long (cm (((256 * bb) + (8 * ((2 * pt) + i_3))) + ch))), (0, .ref aM), (1, .int (nI bb)), (2, .int (nI pt)), (3, .int (nI ch)), (4, .int (nI i_3))]) hx hb dX4_shares_48 hl (by decide) rfl (fun ls hl => ?_)
        refine lv_aload_n hx hb dX4_shares_50 rfl (lv_at hl 2 rfl) ?_
        refine lv_iload_n hx hb dX4_shares_51 rfl (lv_at hl 3 rfl) ?_
        refine lv_iload_n hx hb dX4_shares_52 rfl (lv_at hl 4 rfl) ?_
        refine lv_iconst (v := nI 1) hx hb dX4_shares_53 (by decide) ?_
        refine lv_iload hx hb dX4_shares_54 (lv_at hl 6 rfl) ?_
        refine lv_isub hx hb dX4_shares_56 ?_
        refine lv_ri (y := (nI (1 - i_3))) (pk_sub (by omega)) ?_
        refine lv_iload_n hx hb dX4_shares_57 rfl (lv_at hl 5 rfl) ?_
        refine lv_lload hx hb dX4_shares_58 (lv_at hl 0 rfl) ?_
        have hPc := hP.pick (ws' := [(aM, o4 (nI th) (nI n) mK mX mY mF mS mL mQ mW mA mD mO mV mC mT mE mN mH mZ mP em gn ((rp (shB kd se le chn cm bb (cnt fi (fun j => wm (16 * bb + j)) (ofm bb) pt) pt ch) (i_3) (tn, lk, ov)).2.1) (nI lst)), (mL, ia E nI 32 le), (mT, ja E 256 ((rp (shB kd se le chn cm bb (cnt fi (fun j => wm (16 * bb + j)) (ofm bb) pt) pt ch) (i_3) (tn, lk, ov)).1))]) [0, 4, 8] rfl
        have hDc := hD.sub (ws' := [(aM, o4 (nI th) (nI n) mK mX mY mF mS mL mQ mW mA mD mO mV mC mT mE mN mH mZ mP em gn ((rp (shB kd se le chn cm bb (cnt fi (fun j => wm (16 * bb + j)) (ofm bb) pt) pt ch) (i_3) (tn, lk, ov)).2.1) (nI lst)), (mL, ia E nI 32 le), (mT, ja E 256 ((rp (shB kd se le chn cm bb (cnt fi (fun j => wm (16 * bb + j)) (ofm bb) pt) pt ch) (i_3) (tn, lk, ov)).1))]) [0, 4, 8] (by decide) rfl
        refine kcV (wr := [(mK, ia E nI 16 kd), (mF, ia E nI 16 fi), (mS, ia E nI 16 se), (mQ, ia E cL 16 chn), (mV, ja E 16 ((rp (shB kd se le chn cm bb (cnt fi (fun j => wm (16 * bb + j)) (ofm bb) pt) pt ch) (i_3) (tn, lk, ov)).2.2)), (mC, ja E 512 cm), (mH, ia E nI 32 wm), (mP, ia E cO 2 ofm)]) (w1 := fun _ : Unit => [(aM, o4 (nI th) (nI n) mK mX mY mF mS mL mQ mW mA mD mO mV mC mT mE mN mH mZ mP em gn (mvL bb (le (2 * pt + (1 - i_3))) (((cm (((256 * bb) + (8 * ((2 * pt) + i_3))) + ch)) * (iL (shM kd se (cnt fi (fun j => wm (16 * bb + j)) (ofm bb) pt) pt ch))) / 100) ((rp (shB kd se le chn cm bb (cnt fi (fun j => wm (16 * bb + j)) (ofm bb) pt) pt ch) (i_3) (tn, lk, ov)).2.1)) (nI lst)), (mL, ia E nI 32 le), (mT, ja E 256 (mvG (le (2 * pt + (1 - i_3))) ch (((cm (((256 * bb) + (8 * ((2 * pt) + i_3))) + ch)) * (iL (shM kd se (cnt fi (fun j => wm (16 * bb + j)) (ofm bb) pt) pt ch))) / 100) ((rp (shB kd se le chn cm bb (cnt fi (fun j => wm (16 * bb + j)) (ofm bb) pt) pt ch) (i_3) (tn, lk, ov)).1)))]) (w2 := fun _ => [(aM, o4 (nI th) (nI n) mK mX mY mF mS mL mQ mW mA mD mO mV mC mT mE mN mH mZ mP em gn (mvL bb (le (2 * pt + (1 - i_3))) (((cm (((256 * bb) + (8 * ((2 * pt) + i_3))) + ch)) * (iL (shM kd se (cnt fi (fun j => wm (16 * bb + j)) (ofm bb) pt) pt ch))) / 100) ((rp (shB kd se le chn cm bb (cnt fi (fun j => wm (16 * bb + j)) (ofm bb) pt) pt ch) (i_3) (tn, lk, ov)).2.1)) (nI lst)), (mK, ia E nI 16 kd), (mF, ia E nI 16 fi), (mS, ia E nI 16 se), (mL, ia E nI 32 le), (mQ, ia E cL 16 chn), (mV, ja E 16 ((rp (shB kd se le chn cm bb (cnt fi (fun j => wm (16 * bb + j)) (ofm bb) pt) pt ch) (i_3) (tn, lk, ov)).2.2)), (mC, ja E 512 cm), (mT, ja E 256 (mvG (le (2 * pt + (1 - i_3))) ch (((cm (((256 * bb) + (8 * ((2 * pt) + i_3))) + ch)) * (iL (shM kd se (cnt fi (fun j => wm (16 * bb + j)) (ofm bb) pt) pt ch))) / 100) ((rp (shB kd se le chn cm bb (cnt fi (fun j => wm (16 * bb + j)) (ofm bb) pt) pt ch) (i_3) (tn, lk, ov)).1))), (mH, ia E nI 32 wm), (mP, ia E cO 2 ofm)]) (va_runV (As := [.int (nI bb), .int (nI pt), .int (nI (1 - i_3)), .int (nI ch), .long (((cm (((256 * bb) + (8 * ((2 * pt) + i_3))) + ch)) * (iL (shM kd se (cnt fi (fun j => wm (16 * bb + j)) (ofm bb) pt) pt ch))) / 100)]) (rest := []) ⟨hx, hb, hml, hown, hts⟩ (m_gives l E H.size bb pt (1 - i_3) ch (((cm (((256 * bb) + (8 * ((2 * pt) + i_3))) + ch)) * (iL (shM kd se (cnt fi (fun j => wm (16 * bb + j)) (ofm bb) pt) pt ch))) / 100) aM mK mX mY mF mS mL mQ mW mA mD mO mV mC mT mE mN mH mZ mP th n lst em gn ((rp (shB kd se le chn cm bb (cnt fi (fun j => wm (16 * bb + j)) (ofm bb) pt) pt ch) (i_3) (tn, lk, ov)).2.1) le ((rp (shB kd se le chn cm bb (cnt fi (fun j => wm (16 * bb + j)) (ofm bb) pt) pt ch) (i_3) (tn, lk, ov)).1) (by omega) (by omega) (by omega) (by omega) (hL _ (by omega))) (cwV 5 hts gX4_shares_X4_gives rfl rfl rfl (by decide +kernel) ⟨Nat.le_of_ble_eq_true rfl, Nat.le_of_ble_eq_true rfl⟩) (preV C0 hPc hDc hS 0 rfl rfl) rfl rfl hl.1 rfl (lv_room (Nat.le_of_ble_eq_true rfl)) dX4_shares_60 ⟨Nat.le_refl _, Nat.le_refl _⟩) C0 hP hD hS [0, 4, 8] [1, 2, 3, 5, 6, 7, 9, 10] [8, 0, 1, 2, 9, 3, 4, 5, 10, 6, 7] rfl rfl (by decide) (by decide) (fun _ => rfl) (by decide) (fun _u H locs _hw hP hD hS => ?_)
        have hP : va_P E.1 vwCl [(aM, o4 (nI th) (nI n) mK mX mY mF mS mL mQ mW mA mD mO mV mC mT mE mN mH mZ mP em gn (mvL bb (le (2 * pt + (1 - i_3))) (((cm (((256 * bb) + (8 * ((2 * pt) + i_3))) + ch)) * (iL (shM kd se (cnt fi (fun j => wm (16 * bb + j)) (ofm bb) pt) pt ch))) / 100) ((rp (shB kd se le chn cm bb (cnt fi (fun j => wm (16 * bb + j)) (ofm bb) pt) pt ch) (i_3) (tn, lk, ov)).2.1)) (nI lst)), (mK, ia E nI 16 kd), (mF, ia E nI 16 fi), (mS, ia E nI 16 se), (mL, ia E nI 32 le), (mQ, ia E cL 16 chn), (mV, ja E 16 ((rp (shB kd se le chn cm bb (cnt fi (fun j => wm (16 * bb + j)) (ofm bb) pt) pt ch) (i_3) (tn, lk, ov)).2.2)), (mC, ja E 512 cm), (mT, ja E 256 (mvG (le (2 * pt + (1 - i_3))) ch (((cm (((256 * bb) + (8 * ((2 * pt) + i_3))) + ch)) * (iL (shM kd se (cnt fi (fun j => wm (16 * bb + j)) (ofm bb) pt) pt ch))) / 100) ((rp (shB kd se le chn cm bb (cnt fi (fun j => wm (16 * bb + j)) (ofm bb) pt) pt ch) (i_3) (tn, lk, ov)).1))), (mH, ia E nI 32 wm), (mP, ia E cO 2 ofm)] H := hP
        have hD : va_D A [(aM, o4 (nI th) (nI n) mK mX mY mF mS mL mQ mW mA mD mO mV mC mT mE mN mH mZ mP em gn (mvL bb (le (2 * pt + (1 - i_3))) (((cm (((256 * bb) + (8 * ((2 * pt) + i_3))) + ch)) * (iL (shM kd se (cnt fi (fun j => wm (16 * bb + j)) (ofm bb) pt) pt ch))) / 100) ((rp (shB kd se le chn cm bb (cnt fi (fun j => wm (16 * bb + j)) (ofm bb) pt) pt ch) (i_3) (tn, lk, ov)).2.1)) (nI lst)), (mK, ia E nI 16 kd), (mF, ia E nI 16 fi), (mS, ia E nI 16 se), (mL, ia E nI 32 le), (mQ, ia E cL 16 chn), (mV, ja E 16 ((rp (shB kd se le chn cm bb (cnt fi (fun j => wm (16 * bb + j)) (ofm bb) pt) pt ch) (i_3) (tn, lk, ov)).2.2)), (mC, ja E 512 cm), (mT, ja E 256 (mvG (le (2 * pt + (1 - i_3))) ch (((cm (((256 * bb) + (8 * ((2 * pt) + i_3))) + ch)) * (iL (shM kd se (cnt fi (fun j => wm (16 * bb + j)) (ofm bb) pt) pt ch))) / 100) ((rp (shB kd se le chn cm bb (cnt fi (fun j => wm (16 * bb + j)) (ofm bb) pt) pt ch) (i_3) (tn, lk, ov)).1))), (mH, ia E nI 32 wm), (mP, ia E cO 2 ofm)] := hD
        refine lv_aload_n hx hb dX4_shares_63 rfl (lv_at hl 2 rfl) ?_
        refine lv_iload_n hx hb dX4_shares_64 rfl (lv_at hl 3 rfl) ?_
        refine lv_iload_n hx hb dX4_shares_65 rfl (lv_at hl 4 rfl) ?_
        refine lv_iload hx hb dX4_shares_66 (lv_at hl 6 rfl) ?_
        refine lv_iload_n hx hb dX4_shares_68 rfl (lv_at hl 5 rfl) ?_
        refine lv_lload hx hb dX4_shares_69 (lv_at hl 1 rfl) ?_
        refine lv_lload hx hb dX4_shares_71 (lv_at hl 0 rfl) ?_
        refine lv_lsub hx hb dX4_shares_73 ?_
        have hPc := hP.pick (ws' := [(aM, o4 (nI th) (nI n) mK mX mY mF mS mL mQ mW mA mD mO mV mC mT mE mN mH mZ mP em gn (mvL bb (le (2 * pt + (1 - i_3))) (((cm (((256 * bb) + (8 * ((2 * pt) + i_3))) + ch)) * (iL (shM kd se (cnt fi (fun j => wm (16 * bb + j)) (ofm bb) pt) pt ch))) / 100) ((rp (shB kd se le chn cm bb (cnt fi (fun j => wm (16 * bb + j)) (ofm bb) pt) pt ch) (i_3) (tn, lk, ov)).2.1)) (nI lst)), (mL, ia E nI 32 le), (mT, ja E 256 (mvG (le (2 * pt + (1 - i_3))) ch (((cm (((256 * bb) + (8 * ((2 * pt) + i_3))) + ch)) * (iL (shM kd se (cnt fi (fun j => wm (16 * bb + j)) (ofm bb) pt) pt ch))) / 100) ((rp (shB kd se le chn cm bb (cnt fi (fun j => wm (16 * bb + j)) (ofm bb) pt) pt ch) (i_3) (tn, lk, ov)).1)))]) [0, 4, 8] rfl
        have hDc := hD.sub (ws' := [(aM, o4 (nI th) (nI n) mK mX mY mF mS mL mQ mW mA mD mO mV mC mT mE mN mH mZ mP em gn (mvL bb (le (2 * pt + (1 - i_3))) (((cm (((256 * bb) + (8 * ((2 * pt) + i_3))) + ch)) * (iL (shM kd se (cnt fi (fun j => wm (16 * bb + j)) (ofm bb) pt) pt ch))) / 100) ((rp (shB kd se le chn cm bb (cnt fi (fun j => wm (16 * bb + j)) (ofm bb) pt) pt ch) (i_3) (tn, lk, ov)).2.1)) (nI lst)), (mL, ia E nI 32 le), (mT, ja E 256 (mvG (le (2 * pt + (1 - i_3))) ch (((cm (((256 * bb) + (8 * ((2 * pt) + i_3))) + ch)) * (iL (shM kd se (cnt fi (fun j => wm (16 * bb + j)) (ofm bb) pt) pt ch))) / 100) ((rp (shB kd se le chn cm bb (cnt fi (fun j => wm (16 * bb + j)) (ofm bb) pt) pt ch) (i_3) (tn, lk, ov)).1)))]) [0, 4, 8] (by decide) rfl
        refine kcV (wr := [(mK, ia E nI 16 kd), (mF, ia E nI 16 fi), (mS, ia E nI 16 se), (mQ, ia E cL 16 chn), (mV, ja E 16 ((rp (shB kd se le chn cm bb (cnt fi (fun j => wm (16 * bb + j)) (ofm bb) pt) pt ch) (i_3) (tn, lk, ov)).2.2)), (mC, ja E 512 cm), (mH, ia E nI 32 wm), (mP, ia E cO 2 ofm)]) (w1 := fun _ : Unit => [(aM, o4 (nI th) (nI n) mK mX mY mF mS mL mQ mW mA mD mO mV mC mT mE mN mH mZ mP em gn (mvL bb (le (2 * pt + i_3)) ((cm (((256 * bb) + (8 * ((2 * pt) + i_3))) + ch)) - (((cm (((256 * bb) + (8 * ((2 * pt) + i_3))) + ch)) * (iL (shM kd se (cnt fi (fun j => wm (16 * bb + j)) (ofm bb) pt) pt ch))) / 100)) (mvL bb (le (2 * pt + (1 - i_3))) (((cm (((256 * bb) + (8 * ((2 * pt) + i_3))) + ch)) * (iL (shM kd se (cnt fi (fun j => wm (16 * bb + j)) (ofm bb) pt) pt ch))) / 100) ((rp (shB kd se le chn cm bb (cnt fi (fun j => wm (16 * bb + j)) (ofm bb) pt) pt ch) (i_3) (tn, lk, ov)).2.1))) (nI lst)), (mL, ia E nI 32 le), (mT, ja E 256 (mvG (le (2 * pt + i_3)) ch ((cm (((256 * bb) + (8 * ((2 * pt) + i_3))) + ch)) - (((cm (((256 * bb) + (8 * ((2 * pt) + i_3))) + ch)) * (iL (shM kd se (cnt fi (fun j => wm (16 * bb + j)) (ofm bb) pt) pt ch))) / 100)) (mvG (le (2 * pt + (1 - i_3))) ch (((cm (((256 * bb) + (8 * ((2 * pt) + i_3))) + ch)) * (iL (shM kd se (cnt fi (fun j => wm (16 * bb + j)) (ofm bb) pt) pt ch))) / 100) ((rp (shB kd se le chn cm bb (cnt fi (fun j => wm (16 * bb + j)) (ofm bb) pt) pt ch) (i_3) (tn, lk, ov)).1))))]) (w2 := fun _ => [(aM, o4 (nI th) (nI n) mK mX mY mF mS mL mQ mW mA mD mO mV mC mT mE mN mH mZ mP em gn (mvL bb (le (2 * pt + i_3)) ((cm (((256 * bb) + (8 * ((2 * pt) + i_3))) + ch)) - (((cm (((256 * bb) + (8 * ((2 * pt) + i_3))) + ch)) * (iL (shM kd se (cnt fi (fun j => wm (16 * bb + j)) (ofm bb) pt) pt ch))) / 100)) (mvL bb (le (2 * pt + (1 - i_3))) (((cm (((256 * bb) + (8 * ((2 * pt) + i_3))) + ch)) * (iL (shM kd se (cnt fi (fun j => wm (16 * bb + j)) (ofm bb) pt) pt ch))) / 100) ((rp (shB kd se le chn cm bb (cnt fi (fun j => wm (16 * bb + j)) (ofm bb) pt) pt ch) (i_3) (tn, lk, ov)).2.1))) (nI lst)), (mK, ia E nI 16 kd), (mF, ia E nI 16 fi), (mS, ia E nI 16 se), (mL, ia E nI 32 le), (mQ, ia E cL 16 chn), (mV, ja E 16 ((rp (shB kd se le chn cm bb (cnt fi (fun j => wm (16 * bb + j)) (ofm bb) pt) pt ch) (i_3) (tn, lk, ov)).2.2)), (mC, ja E 512 cm), (mT, ja E 256 (mvG (le (2 * pt + i_3)) ch ((cm (((256 * bb) + (8 * ((2 * pt) + i_3))) + ch)) - (((cm (((256 * bb) + (8 * ((2 * pt) + i_3))) + ch)) * (iL (shM kd se (cnt fi (fun j => wm (16 * bb + j)) (ofm bb) pt) pt ch))) / 100)) (mvG (le (2 * pt + (1 - i_3))) ch (((cm (((256 * bb) + (8 * ((2 * pt) + i_3))) + ch)) * (iL (shM kd se (cnt fi (fun j => wm (16 * bb + j)) (ofm bb) pt) pt ch))) / 100) ((rp (shB kd se le chn cm bb (cnt fi (fun j => wm (16 * bb + j)) (ofm bb) pt) pt ch) (i_3) (tn, lk, ov)).1)))), (mH, ia E nI 32 wm), (mP, ia E cO 2 ofm)]) (va_runV (As := [.int (nI bb), .int (nI pt), .int (nI i_3), .int (nI ch), .long ((cm (((256 * bb) + (8 * ((2 * pt) + i_3))) + ch)) - (((cm (((256 * bb) + (8 * ((2 * pt) + i_3))) + ch)) * (iL (shM kd se (cnt fi (fun j => wm (16 * bb + j)) (ofm bb) pt) pt ch))) / 100))]) (rest := []) ⟨hx, hb, hml, hown, hts⟩ (m_gives l E H.size bb pt i_3 ch ((cm (((256 * bb) + (8 * ((2 * pt) + i_3))) + ch)) - (((cm (((256 * bb) + (8 * ((2 * pt) + i_3))) + ch)) * (iL (shM kd se (cnt fi (fun j => wm (16 * bb + j)) (ofm bb) pt) pt ch))) / 100)) aM mK mX mY mF mS mL mQ mW mA mD mO mV mC mT mE mN mH mZ mP th n lst em gn (mvL bb (le (2 * pt + (1 - i_3))) (((cm (((256 * bb) + (8 * ((2 * pt) + i_3))) + ch)) * (iL (shM kd se (cnt fi (fun j => wm (16 * bb + j)) (ofm bb) pt) pt ch))) / 100) ((rp (shB kd se le chn cm bb (cnt fi (fun j => wm (16 * bb + j)) (ofm bb) pt) pt ch) (i_3) (tn, lk, ov)).2.1)) le (mvG (le (2 * pt + (1 - i_3))) ch (((cm (((256 * bb) + (8 * ((2 * pt) + i_3))) + ch)) * (iL (shM kd se (cnt fi (fun j => wm (16 * bb + j)) (ofm bb) pt) pt ch))) / 100) ((rp (shB kd se le chn cm bb (cnt fi (fun j => wm (16 * bb + j)) (ofm bb) pt) pt ch) (i_3) (tn, lk, ov)).1)) (by omega) (by omega) (by omega) (by omega) (hL _ (by omega))) (cwV 5 hts gX4_shares_X4_gives rfl rfl rfl (by decide +kernel) ⟨Nat.le_of_ble_eq_true rfl, Nat.le_of_ble_eq_true rfl⟩) (preV C0 hPc hDc hS 0 rfl rfl) rfl rfl hl.1 rfl (lv_room (Nat.le_of_ble_eq_true rfl)) dX4_shares_74 ⟨Nat.le_refl _, Nat.le_refl _⟩) C0 hP hD hS [0, 4, 8] [1, 2, 3, 5, 6, 7, 9, 10] [8, 0, 1, 2, 9, 3, 4, 5, 10, 6, 7] rfl rfl (by decide) (by decide) (fun _ => rfl) (by decide) (fun _u H locs _hw hP hD hS => ?_)
        have hP : va_P E.1 vwCl [(aM, o4 (nI th) (nI n) mK mX mY mF mS mL mQ mW mA mD mO mV mC mT mE mN mH mZ mP em gn (mvL bb (le (2 * pt + i_3)) ((cm (((256 * bb) + (8 * ((2 * pt) + i_3))) + ch)) - (((cm (((256 * bb) + (8 * ((2 * pt) + i_3))) + ch)) * (iL (shM kd se (cnt fi (fun j => wm (16 * bb + j)) (ofm bb) pt) pt ch))) / 100)) (mvL bb (le (2 * pt + (1 - i_3))) (((cm (((256 * bb) + (8 * ((2 * pt) + i_3))) + ch)) * (iL (shM kd se (cnt fi (fun j => wm (16 * bb + j)) (ofm bb) pt) pt ch))) / 100) ((rp (shB kd se le chn cm bb (cnt fi (fun j => wm (16 * bb + j)) (ofm bb) pt) pt ch) (i_3) (tn, lk, ov)).2.1))) (nI lst)), (mK, ia E nI 16 kd), (mF, ia E nI 16 fi), (mS, ia E nI 16 se), (mL, ia E nI 32 le), (mQ, ia E cL 16 chn), (mV, ja E 16 ((rp (shB kd se le chn cm bb (cnt fi (fun j => wm (16 * bb + j)) (ofm bb) pt) pt ch) (i_3) (tn, lk, ov)).2.2)), (mC, ja E 512 cm), (mT, ja E 256 (mvG (le (2 * pt + i_3)) ch ((cm (((256 * bb) + (8 * ((2 * pt) + i_3))) + ch)) - (((cm (((256 * bb) + (8 * ((2 * pt) + i_3))) + ch)) * (iL (shM kd se (cnt fi (fun j => wm (16 * bb + j)) (ofm bb) pt) pt ch))) / 100)) (mvG (le (2 * pt + (1 - i_3))) ch (((cm (((256 * bb) + (8 * ((2 * pt) + i_3))) + ch)) * (iL (shM kd se (cnt fi (fun j => wm (16 * bb + j)) (ofm bb) pt) pt ch))) / 100) ((rp (shB kd se le chn cm bb (cnt fi (fun j => wm (16 * bb + j)) (ofm bb) pt) pt ch) (i_3) (tn, lk, ov)).1)))), (mH, ia E nI 32 wm), (mP, ia E cO 2 ofm)] H := hP
        have hD : va_D A [(aM, o4 (nI th) (nI n) mK mX mY mF mS mL mQ mW mA mD mO mV mC mT mE mN mH mZ mP em gn (mvL bb (le (2 * pt + i_3)) ((cm (((256 * bb) + (8 * ((2 * pt) + i_3))) + ch)) - (((cm (((256 * bb) + (8 * ((2 * pt) + i_3))) + ch)) * (iL (shM kd se (cnt fi (fun j => wm (16 * bb + j)) (ofm bb) pt) pt ch))) / 100)) (mvL bb (le (2 * pt + (1 - i_3))) (((cm (((256 * bb) + (8 * ((2 * pt) + i_3))) + ch)) * (iL (shM kd se (cnt fi (fun j => wm (16 * bb + j)) (ofm bb) pt) pt ch))) / 100) ((rp (shB kd se le chn cm bb (cnt fi (fun j => wm (16 * bb + j)) (ofm bb) pt) pt ch) (i_3) (tn, lk, ov)).2.1))) (nI lst)), (mK, ia E nI 16 kd), (mF, ia E nI 16 fi), (mS, ia E nI 16 se), (mL, ia E nI 32 le), (mQ, ia E cL 16 chn), (mV, ja E 16 ((rp (shB kd se le chn cm bb (cnt fi (fun j => wm (16 * bb + j)) (ofm bb) pt) pt ch) (i_3) (tn, lk, ov)).2.2)), (mC, ja E 512 cm), (mT, ja E 256 (mvG (le (2 * pt + i_3)) ch ((cm (((256 * bb) + (8 * ((2 * pt) + i_3))) + ch)) - (((cm (((256 * bb) + (8 * ((2 * pt) + i_3))) + ch)) * (iL (shM kd se (cnt fi (fun j => wm (16 * bb + j)) (ofm bb) pt) pt ch))) / 100)) (mvG (le (2 * pt + (1 - i_3))) ch (((cm (((256 * bb) + (8 * ((2 * pt) + i_3))) + ch)) * (iL (shM kd se (cnt fi (fun j => wm (16 * bb + j)) (ofm bb) pt) pt ch))) / 100) ((rp (shB kd se le chn cm bb (cnt fi (fun j => wm (16 * bb + j)) (ofm bb) pt) pt ch) (i_3) (tn, lk, ov)).1)))), (mH, ia E nI 32 wm), (mP, ia E cO 2 ofm)] := hD
        refine lv_aload_n hx hb dX4_shares_77 rfl (lv_at hl 2 rfl) ?_
        refine va_get (D := E.1) (ci := 4) (v := .ref mV) (C := RX4) (T := TX4) (N := 25) hx hb hts iX4 hown C0.1 hP 0 rfl rfl 13 (by decide) (hts (.fieldLink RX4 44 "RingresonanceModel" "over" "[J") (by decide +kernel)) (fun _ h9 => h9) rfl dX4_shares_78 ?_
        refine lv_iload_n hx hb dX4_shares_81 rfl (lv_at hl 4 rfl) ?_
        refine lv_dup2_11 hx hb dX4_shares_82 rfl rfl ?_
        refine k_lald (e := pt) (n := 16) hx hb C0 hP 6 rfl (by omega) (by omega) dX4_shares_83 ?_
        refine lv_iload_n hx hb dX4_shares_84 rfl (lv_at hl 3 rfl) ?_
        refine lv_if_ne (tgt := 103) hx hb dX4_shares_85 (by decide) (fun c_5 => ?_) (fun c_5 => ?_)
        · skip
          have c_5 : ¬ (bb = 0) := fun h => c_5 ((ci0_eq (by omega)).mpr h)
          refine lv_lconst (v := 0) hx hb dX4_shares_103 (by decide) ?_
          refine lv_ladd hx hb dX4_shares_104 ?_
          refine k_last (e := pt) (n := 16) hx hb C0 hP hD hS 6 rfl (by omega) (by omega) dX4_shares_105 (fun H locs hP hD hS => ?_)
          have hP : va_P E.1 vwCl [(aM, o4 (nI th) (nI n) mK mX mY mF mS mL mQ mW mA mD mO mV mC mT mE mN mH mZ mP em gn (mvL bb (le (2 * pt + i_3)) ((cm (((256 * bb) + (8 * ((2 * pt) + i_3))) + ch)) - (((cm (((256 * bb) + (8 * ((2 * pt) + i_3))) + ch)) * (iL (shM kd se (cnt fi (fun j => wm (16 * bb + j)) (ofm bb) pt) pt ch))) / 100)) (mvL bb (le (2 * pt + (1 - i_3))) (((cm (((256 * bb) + (8 * ((2 * pt) + i_3))) + ch)) * (iL (shM kd se (cnt fi (fun j => wm (16 * bb + j)) (ofm bb) pt) pt ch))) / 100) ((rp (shB kd se le chn cm bb (cnt fi (fun j => wm (16 * bb + j)) (ofm bb) pt) pt ch) (i_3) (tn, lk, ov)).2.1))) (nI lst)), (mK, ia E nI 16 kd), (mF, ia E nI 16 fi), (mS, ia E nI 16 se), (mL, ia E nI 32 le), (mQ, ia E cL 16 chn), (mV, ja E 16 (va_up ((rp (shB kd se le chn cm bb (cnt fi (fun j => wm (16 * bb + j)) (ofm bb) pt) pt ch) (i_3) (tn, lk, ov)).2.2) pt ((((rp (shB kd se le chn cm bb (cnt fi (fun j => wm (16 * bb + j)) (ofm bb) pt) pt ch) (i_3) (tn, lk, ov)).2.2) pt) + 0))), (mC, ja E 512 cm), (mT, ja E 256 (mvG (le (2 * pt + i_3)) ch ((cm (((256 * bb) + (8 * ((2 * pt) + i_3))) + ch)) - (((cm (((256 * bb) + (8 * ((2 * pt) + i_3))) + ch)) * (iL (shM kd se (cnt fi (fun j => wm (16 * bb + j)) (ofm bb) pt) pt ch))) / 100)) (mvG (le (2 * pt + (1 - i_3))) ch (((cm (((256 * bb) + (8 * ((2 * pt) + i_3))) + ch)) * (iL (shM kd se (cnt fi (fun j => wm (16 * bb + j)) (ofm bb) pt) pt ch))) / 100) ((rp (shB kd se le chn cm bb (cnt fi (fun j => wm (16 * bb + j)) (ofm bb) pt) pt ch) (i_3) (tn, lk, ov)).1)))), (mH, ia E nI 32 wm), (mP, ia E cO 2 ofm)] H := hP
          have hD : va_D A [(aM, o4 (nI th) (nI n) mK mX mY mF mS mL mQ mW mA mD mO mV mC mT mE mN mH mZ mP em gn (mvL bb (le (2 * pt + i_3)) ((cm (((256 * bb) + (8 * ((2 * pt) + i_3))) + ch)) - (((cm (((256 * bb) + (8 * ((2 * pt) + i_3))) + ch)) * (iL (shM kd se (cnt fi (fun j => wm (16 * bb + j)) (ofm bb) pt) pt ch))) / 100)) (mvL bb (le (2 * pt + (1 - i_3))) (((cm (((256 * bb) + (8 * ((2 * pt) + i_3))) + ch)) * (iL (shM kd se (cnt fi (fun j => wm (16 * bb + j)) (ofm bb) pt) pt ch))) / 100) ((rp (shB kd se le chn cm bb (cnt fi (fun j => wm (16 * bb + j)) (ofm bb) pt) pt ch) (i_3) (tn, lk, ov)).2.1))) (nI lst)), (mK, ia E nI 16 kd), (mF, ia E nI 16 fi), (mS, ia E nI 16 se), (mL, ia E nI 32 le), (mQ, ia E cL 16 chn), (mV, ja E 16 (va_up ((rp (shB kd se le chn cm bb (cnt fi (fun j => wm (16 * bb + j)) (ofm bb) pt) pt ch) (i_3) (tn, lk, ov)).2.2) pt ((((rp (shB kd se le chn cm bb (cnt fi (fun j => wm (16 * bb + j)) (ofm bb) pt) pt ch) (i_3) (tn, lk, ov)).2.2) pt) + 0))), (mC, ja E 512 cm), (mT, ja E 256 (mvG (le (2 * pt + i_3)) ch ((cm (((256 * bb) + (8 * ((2 * pt) + i_3))) + ch)) - (((cm (((256 * bb) + (8 * ((2 * pt) + i_3))) + ch)) * (iL (shM kd se (cnt fi (fun j => wm (16 * bb + j)) (ofm bb) pt) pt ch))) / 100)) (mvG (le (2 * pt + (1 - i_3))) ch (((cm (((256 * bb) + (8 * ((2 * pt) + i_3))) + ch)) * (iL (shM kd se (cnt fi (fun j => wm (16 * bb + j)) (ofm bb) pt) pt ch))) / 100) ((rp (shB kd se le chn cm bb (cnt fi (fun j => wm (16 * bb + j)) (ofm bb) pt) pt ch) (i_3) (tn, lk, ov)).1)))), (mH, ia E nI 32 wm), (mP, ia E cO 2 ofm)] := hD
          refine lv_iinc (v := nI (i_3 + 1)) (lv' := [(4, .int (nI (i_3 + 1))), (7, .long (((cm (((256 * bb) + (8 * ((2 * pt) + i_3))) + ch)) * (iL (shM kd se (cnt fi (fun j => wm (16 * bb + j)) (ofm bb) pt) pt ch))) / 100)), (5, .long (cm (((256 * bb) + (8 * ((2 * pt) + i_3))) + ch))), (0, .ref aM), (1, .int (nI bb)), (2, .int (nI pt)), (3, .int (nI ch))]) hx hb dX4_shares_106 hl (k := 6) rfl (nI_add i_3 1) (by decide) rfl (fun ls hl => ?_)
          refine lv_goto (tgt := 3) hx hb dX4_shares_109 (by decide) ?_
          have q_6 : ((rp (shB kd se le chn cm bb (cnt fi (fun j => wm (16 * bb + j)) (ofm bb) pt) pt ch) (i_3 + 1) (tn, lk, ov)).2.1) = (mvL bb (le (2 * pt + i_3)) ((cm (((256 * bb) + (8 * ((2 * pt) + i_3))) + ch)) - (((cm (((256 * bb) + (8 * ((2 * pt) + i_3))) + ch)) * (iL (shM kd se (cnt fi (fun j => wm (16 * bb + j)) (ofm bb) pt) pt ch))) / 100)) (mvL bb (le (2 * pt + (1 - i_3))) (((cm (((256 * bb) + (8 * ((2 * pt) + i_3))) + ch)) * (iL (shM kd se (cnt fi (fun j => wm (16 * bb + j)) (ofm bb) pt) pt ch))) / 100) ((rp (shB kd se le chn cm bb (cnt fi (fun j => wm (16 * bb + j)) (ofm bb) pt) pt ch) (i_3) (tn, lk, ov)).2.1))) := by first | rfl | (rw [rp_s]; simp only [shB, c_4, c_5, and_self, and_true, true_and, and_false, false_and, if_true, if_false]; done) | (rw [rp_s]; simp [shB, c_4, c_5]; done)
          have q_7 : ((rp (shB kd se le chn cm bb (cnt fi (fun j => wm (16 * bb + j)) (ofm bb) pt) pt ch) (i_3 + 1) (tn, lk, ov)).2.2) = (va_up ((rp (shB kd se le chn cm bb (cnt fi (fun j => wm (16 * bb + j)) (ofm bb) pt) pt ch) (i_3) (tn, lk, ov)).2.2) pt ((((rp (shB kd se le chn cm bb (cnt fi (fun j => wm (16 * bb + j)) (ofm bb) pt) pt ch) (i_3) (tn, lk, ov)).2.2) pt) + 0)) := by first | rfl | (rw [rp_s]; simp only [shB, c_4, c_5, and_self, and_true, true_and, and_false, false_and, if_true, if_false]; done) | (rw [rp_s]; simp [shB, c_4, c_5]; done)
          have q_8 : ((rp (shB kd se le chn cm bb (cnt fi (fun j => wm (16 * bb + j)) (ofm bb) pt) pt ch) (i_3 + 1) (tn, lk, ov)).1) = (mvG (le (2 * pt + i_3)) ch ((cm (((256 * bb) + (8 * ((2 * pt) + i_3))) + ch)) - (((cm (((256 * bb) + (8 * ((2 * pt) + i_3))) + ch)) * (iL (shM kd se (cnt fi (fun j => wm (16 * bb + j)) (ofm bb) pt) pt ch))) / 100)) (mvG (le (2 * pt + (1 - i_3))) ch (((cm (((256 * bb) + (8 * ((2 * pt) + i_3))) + ch)) * (iL (shM kd se (cnt fi (fun j => wm (16 * bb + j)) (ofm bb) pt) pt ch))) / 100) ((rp (shB kd se le chn cm bb (cnt fi (fun j => wm (16 * bb + j)) (ofm bb) pt) pt ch) (i_3) (tn, lk, ov)).1))) := by first | rfl | (rw [rp_s]; simp only [shB, c_4, c_5, and_self, and_true, true_and, and_false, false_and, if_true, if_false]; done) | (rw [rp_s]; simp [shB, c_4, c_5]; done)
          have hP : va_P E.1 vwCl [(aM, o4 (nI th) (nI n) mK mX mY mF mS mL mQ mW mA mD mO mV mC mT mE mN mH mZ mP em gn ((rp (shB kd se le chn cm bb (cnt fi (fun j => wm (16 * bb + j)) (ofm bb) pt) pt ch) (i_3 + 1) (tn, lk, ov)).2.1) (nI lst)), (mK, ia E nI 16 kd), (mF, ia E nI 16 fi), (mS, ia E nI 16 se), (mL, ia E nI 32 le), (mQ, ia E cL 16 chn), (mV, ja E 16 ((rp (shB kd se le chn cm bb (cnt fi (fun j => wm (16 * bb + j)) (ofm bb) pt) pt ch) (i_3 + 1) (tn, lk, ov)).2.2)), (mC, ja E 512 cm), (mT, ja E 256 ((rp (shB kd se le chn cm bb (cnt fi (fun j => wm (16 * bb + j)) (ofm bb) pt) pt ch) (i_3 + 1) (tn, lk, ov)).1)), (mH, ia E nI 32 wm), (mP, ia E cO 2 ofm)] H := by rw [q_6, q_7, q_8]; exact hP
          have hD : va_D A [(aM, o4 (nI th) (nI n) mK mX mY mF mS mL mQ mW mA mD mO mV mC mT mE mN mH mZ mP em gn ((rp (shB kd se le chn cm bb (cnt fi (fun j => wm (16 * bb + j)) (ofm bb) pt) pt ch) (i_3 + 1) (tn, lk, ov)).2.1) (nI lst)), (mK, ia E nI 16 kd), (mF, ia E nI 16 fi), (mS, ia E nI 16 se), (mL, ia E nI 32 le), (mQ, ia E cL 16 chn), (mV, ja E 16 ((rp (shB kd se le chn cm bb (cnt fi (fun j => wm (16 * bb + j)) (ofm bb) pt) pt ch) (i_3 + 1) (tn, lk, ov)).2.2)), (mC, ja E 512 cm), (mT, ja E 256 ((rp (shB kd se le chn cm bb (cnt fi (fun j => wm (16 * bb + j)) (ofm bb) pt) pt ch) (i_3 + 1) (tn, lk, ov)).1)), (mH, ia E nI 32 wm), (mP, ia E cO 2 ofm)] := by rw [q_6, q_7, q_8]; exact hD
          have hl : lv_has ls 9 [(0, .ref aM), (1, .int (nI bb)), (2, .int (nI pt)), (3, .int (nI ch)), (4, .int (nI (i_3 + 1)))] := lv_sub hl [3, 4, 5, 6, 0] rfl
          exact ih_2 (i_3 + 1) (by omega) (by omega) _ _ hP hD hS _ hl
        · skip
          have c_5 : bb = 0 := (ci0_eq (by omega)).mp c_5
          refine lv_iload_n hx hb dX4_shares_88 rfl (lv_at hl 5 rfl) ?_
          refine lv_aload_n hx hb dX4_shares_89 rfl (lv_at hl 2 rfl) ?_
          refine va_get (D := E.1) (ci := 4) (v := .ref mQ) (C := RX4) (T := TX4) (N := 25) hx hb hts iX4 hown C0.1 hP 0 rfl rfl 8 (by decide) (hts (.fieldLink RX4 28 "RingresonanceModel" "locked" "[I") (by decide +kernel)) (fun _ h9 => h9) rfl dX4_shares_90 ?_
          refine lv_iload_n hx hb dX4_shares_93 rfl (lv_at hl 4 rfl) ?_
          refine k_iald (e := pt) (g := cL) (n := 16) hx hb C0 hP 5 rfl (by omega) (by omega) dX4_shares_94 ?_
          refine lv_icmp_ne (tgt := 103) hx hb dX4_shares_95 (by decide) (fun c_9 => ?_) (fun c_9 => ?_)
          · skip
            have c_9 : ¬ (chn pt = ch + 1) := fun h => c_9 ((cL_eq' (by omega) (by omega)).mpr h)
            refine lv_lconst (v := 0) hx hb dX4_shares_103 (by decide) ?_
            refine lv_ladd hx hb dX4_shares_104 ?_
            refine k_last (e := pt) (n := 16) hx hb C0 hP hD hS 6 rfl (by omega) (by omega) dX4_shares_105 (fun H locs hP hD hS => ?_)
            have hP : va_P E.1 vwCl [(aM, o4 (nI th) (nI n) mK mX mY mF mS mL mQ mW mA mD mO mV mC mT mE mN mH mZ mP em gn (mvL bb (le (2 * pt + i_3)) ((cm (((256 * bb) + (8 * ((2 * pt) + i_3))) + ch)) - (((cm (((256 * bb) + (8 * ((2 * pt) + i_3))) + ch)) * (iL (shM kd se (cnt fi (fun j => wm (16 * bb + j)) (ofm bb) pt) pt ch))) / 100)) (mvL bb (le (2 * pt + (1 - i_3))) (((cm (((256 * bb) + (8 * ((2 * pt) + i_3))) + ch)) * (iL (shM kd se (cnt fi (fun j => wm (16 * bb + j)) (ofm bb) pt) pt ch))) / 100) ((rp (shB kd se le chn cm bb (cnt fi (fun j => wm (16 * bb + j)) (ofm bb) pt) pt ch) (i_3) (tn, lk, ov)).2.1))) (nI lst)), (mK, ia E nI 16 kd), (mF, ia E nI 16 fi), (mS, ia E nI 16 se), (mL, ia E nI 32 le), (mQ, ia E cL 16 chn), (mV, ja E 16 (va_up ((rp (shB kd se le chn cm bb (cnt fi (fun j => wm (16 * bb + j)) (ofm bb) pt) pt ch) (i_3) (tn, lk, ov)).2.2) pt ((((rp (shB kd se le chn cm bb (cnt fi (fun j => wm (16 * bb + j)) (ofm bb) pt) pt ch) (i_3) (tn, lk, ov)).2.2) pt) + 0))), (mC, ja E 512 cm), (mT, ja E 256 (mvG (le (2 * pt + i_3)) ch ((cm (((256 * bb) + (8 * ((2 * pt) + i_3))) + ch)) - (((cm (((256 * bb) + (8 * ((2 * pt) + i_3))) + ch)) * (iL (shM kd se (cnt fi (fun j => wm (16 * bb + j)) (ofm bb) pt) pt ch))) / 100)) (mvG (le (2 * pt + (1 - i_3))) ch (((cm (((256 * bb) + (8 * ((2 * pt) + i_3))) + ch)) * (iL (shM kd se (cnt fi (fun j => wm (16 * bb + j)) (ofm bb) pt) pt ch))) / 100) ((rp (shB kd se le chn cm bb (cnt fi (fun j => wm (16 * bb + j)) (ofm bb) pt) pt ch) (i_3) (tn, lk, ov)).1)))), (mH, ia E nI 32 wm), (mP, ia E cO 2 ofm)] H := hP
            have hD : va_D A [(aM, o4 (nI th) (nI n) mK mX mY mF mS mL mQ mW mA mD mO mV mC mT mE mN mH mZ mP em gn (mvL bb (le (2 * pt + i_3)) ((cm (((256 * bb) + (8 * ((2 * pt) + i_3))) + ch)) - (((cm (((256 * bb) + (8 * ((2 * pt) + i_3))) + ch)) * (iL (shM kd se (cnt fi (fun j => wm (16 * bb + j)) (ofm bb) pt) pt ch))) / 100)) (mvL bb (le (2 * pt + (1 - i_3))) (((cm (((256 * bb) + (8 * ((2 * pt) + i_3))) + ch)) * (iL (shM kd se (cnt fi (fun j => wm (16 * bb + j)) (ofm bb) pt) pt ch))) / 100) ((rp (shB kd se le chn cm bb (cnt fi (fun j => wm (16 * bb + j)) (ofm bb) pt) pt ch) (i_3) (tn, lk, ov)).2.1))) (nI lst)), (mK, ia E nI 16 kd), (mF, ia E nI 16 fi), (mS, ia E nI 16 se), (mL, ia E nI 32 le), (mQ, ia E cL 16 chn), (mV, ja E 16 (va_up ((rp (shB kd se le chn cm bb (cnt fi (fun j => wm (16 * bb + j)) (ofm bb) pt) pt ch) (i_3) (tn, lk, ov)).2.2) pt ((((rp (shB kd se le chn cm bb (cnt fi (fun j => wm (16 * bb + j)) (ofm bb) pt) pt ch) (i_3) (tn, lk, ov)).2.2) pt) + 0))), (mC, ja E 512 cm), (mT, ja E 256 (mvG (le (2 * pt + i_3)) ch ((cm (((256 * bb) + (8 * ((2 * pt) + i_3))) + ch)) - (((cm (((256 * bb) + (8 * ((2 * pt) + i_3))) + ch)) * (iL (shM kd se (cnt fi (fun j => wm (16 * bb + j)) (ofm bb) pt) pt ch))) / 100)) (mvG (le (2 * pt + (1 - i_3))) ch (((cm (((256 * bb) + (8 * ((2 * pt) + i_3))) + ch)) * (iL (shM kd se (cnt fi (fun j => wm (16 * bb + j)) (ofm bb) pt) pt ch))) / 100) ((rp (shB kd se le chn cm bb (cnt fi (fun j => wm (16 * bb + j)) (ofm bb) pt) pt ch) (i_3) (tn, lk, ov)).1)))), (mH, ia E nI 32 wm), (mP, ia E cO 2 ofm)] := hD
            refine lv_iinc (v := nI (i_3 + 1)) (lv' := [(4, .int (nI (i_3 + 1))), (7, .long (((cm (((256 * bb) + (8 * ((2 * pt) + i_3))) + ch)) * (iL (shM kd se (cnt fi (fun j => wm (16 * bb + j)) (ofm bb) pt) pt ch))) / 100)), (5, .long (cm (((256 * bb) + (8 * ((2 * pt) + i_3))) + ch))), (0, .ref aM), (1, .int (nI bb)), (2, .int (nI pt)), (3, .int (nI ch))]) hx hb dX4_shares_106 hl (k := 6) rfl (nI_add i_3 1) (by decide) rfl (fun ls hl => ?_)
            refine lv_goto (tgt := 3) hx hb dX4_shares_109 (by decide) ?_
            have q_10 : ((rp (shB kd se le chn cm bb (cnt fi (fun j => wm (16 * bb + j)) (ofm bb) pt) pt ch) (i_3 + 1) (tn, lk, ov)).2.1) = (mvL bb (le (2 * pt + i_3)) ((cm (((256 * bb) + (8 * ((2 * pt) + i_3))) + ch)) - (((cm (((256 * bb) + (8 * ((2 * pt) + i_3))) + ch)) * (iL (shM kd se (cnt fi (fun j => wm (16 * bb + j)) (ofm bb) pt) pt ch))) / 100)) (mvL bb (le (2 * pt + (1 - i_3))) (((cm (((256 * bb) + (8 * ((2 * pt) + i_3))) + ch)) * (iL (shM kd se (cnt fi (fun j => wm (16 * bb + j)) (ofm bb) pt) pt ch))) / 100) ((rp (shB kd se le chn cm bb (cnt fi (fun j => wm (16 * bb + j)) (ofm bb) pt) pt ch) (i_3) (tn, lk, ov)).2.1))) := by first | rfl | (rw [rp_s]; simp only [shB, c_4, c_5, c_9, and_self, and_true, true_and, and_false, false_and, if_true, if_false]; done) | (rw [rp_s]; simp [shB, c_4, c_5, c_9]; done)
            have q_11 : ((rp (shB kd se le chn cm bb (cnt fi (fun j => wm (16 * bb + j)) (ofm bb) pt) pt ch) (i_3 + 1) (tn, lk, ov)).2.2) = (va_up ((rp (shB kd se le chn cm bb (cnt fi (fun j => wm (16 * bb + j)) (ofm bb) pt) pt ch) (i_3) (tn, lk, ov)).2.2) pt ((((rp (shB kd se le chn cm bb (cnt fi (fun j => wm (16 * bb + j)) (ofm bb) pt) pt ch) (i_3) (tn, lk, ov)).2.2) pt) + 0)) := by first | rfl | (rw [rp_s]; simp only [shB, c_4, c_5, c_9, and_self, and_true, true_and, and_false, false_and, if_true, if_false]; done) | (rw [rp_s]; simp [shB, c_4, c_5, c_9]; done)
            have q_12 : ((rp (shB kd se le chn cm bb (cnt fi (fun j => wm (16 * bb + j)) (ofm bb) pt) pt ch) (i_3 + 1) (tn, lk, ov)).1) = (mvG (le (2 * pt + i_3)) ch ((cm (((256 * bb) + (8 * ((2 * pt) + i_3))) + ch)) - (((cm (((256 * bb) + (8 * ((2 * pt) + i_3))) + ch)) * (iL (shM kd se (cnt fi (fun j => wm (16 * bb + j)) (ofm bb) pt) pt ch))) / 100)) (mvG (le (2 * pt + (1 - i_3))) ch (((cm (((256 * bb) + (8 * ((2 * pt) + i_3))) + ch)) * (iL (shM kd se (cnt fi (fun j => wm (16 * bb + j)) (ofm bb) pt) pt ch))) / 100) ((rp (shB kd se le chn cm bb (cnt fi (fun j => wm (16 * bb + j)) (ofm bb) pt) pt ch) (i_3) (tn, lk, ov)).1))) := by first | rfl | (rw [rp_s]; simp only [shB, c_4, c_5, c_9, and_self, and_true, true_and, and_false, false_and, if_true, if_false]; done) | (rw [rp_s]; simp [shB, c_4, c_5, c_9]; done)
            have hP : va_P E.1 vwCl [(aM, o4 (nI th) (nI n) mK mX mY mF mS mL mQ mW mA mD mO mV mC mT mE mN mH mZ mP em gn ((rp (shB kd se le chn cm bb (cnt fi (fun j => wm (16 * bb + j)) (ofm bb) pt) pt ch) (i_3 + 1) (tn, lk, ov)).2.1) (nI lst)), (mK, ia E nI 16 kd), (mF, ia E nI 16 fi), (mS, ia E nI 16 se), (mL, ia E nI 32 le), (mQ, ia E cL 16 chn), (mV, ja E 16 ((rp (shB kd se le chn cm bb (cnt fi (fun j => wm (16 * bb + j)) (ofm bb) pt) pt ch) (i_3 + 1) (tn, lk, ov)).2.2)), (mC, ja E 512 cm), (mT, ja E 256 ((rp (shB kd se le chn cm bb (cnt fi (fun j => wm (16 * bb + j)) (ofm bb) pt) pt ch) (i_3 + 1) (tn, lk, ov)).1)), (mH, ia E nI 32 wm), (mP, ia E cO 2 ofm)] H := by rw [q_10, q_11, q_12]; exact hP
            have hD : va_D A [(aM, o4 (nI th) (nI n) mK mX mY mF mS mL mQ mW mA mD mO mV mC mT mE mN mH mZ mP em gn ((rp (shB kd se le chn cm bb (cnt fi (fun j => wm (16 * bb + j)) (ofm bb) pt) pt ch) (i_3 + 1) (tn, lk, ov)).2.1) (nI lst)), (mK, ia E nI 16 kd), (mF, ia E nI 16 fi), (mS, ia E nI 16 se), (mL, ia E nI 32 le), (mQ, ia E cL 16 chn), (mV, ja E 16 ((rp (shB kd se le chn cm bb (cnt fi (fun j => wm (16 * bb + j)) (ofm bb) pt) pt ch) (i_3 + 1) (tn, lk, ov)).2.2)), (mC, ja E 512 cm), (mT, ja E 256 ((rp (shB kd se le chn cm bb (cnt fi (fun j => wm (16 * bb + j)) (ofm bb) pt) pt ch) (i_3 + 1) (tn, lk, ov)).1)), (mH, ia E nI 32 wm), (mP, ia E cO 2 ofm)] := by rw [q_10, q_11, q_12]; exact hD
            have hl : lv_has ls 9 [(0, .ref aM), (1, .int (nI bb)), (2, .int (nI pt)), (3, .int (nI ch)), (4, .int (nI (i_3 + 1)))] := lv_sub hl [3, 4, 5, 6, 0] rfl
            exact ih_2 (i_3 + 1) (by omega) (by omega) _ _ hP hD hS _ hl
          · skip
            have c_9 : chn pt = ch + 1 := (cL_eq' (by omega) (by omega)).mp c_9
            refine lv_lload hx hb dX4_shares_98 (lv_at hl 0 rfl) ?_
            refine lv_goto (tgt := 104) hx hb dX4_shares_100 (by decide) ?_
            refine lv_ladd hx hb dX4_shares_104 ?_
            refine k_last (e := pt) (n := 16) hx hb C0 hP hD hS 6 rfl (by omega) (by omega) dX4_shares_105 (fun H locs hP hD hS => ?_)
            have hP : va_P E.1 vwCl [(aM, o4 (nI th) (nI n) mK mX mY mF mS mL mQ mW mA mD mO mV mC mT mE mN mH mZ mP em gn (mvL bb (le (2 * pt + i_3)) ((cm (((256 * bb) + (8 * ((2 * pt) + i_3))) + ch)) - (((cm (((256 * bb) + (8 * ((2 * pt) + i_3))) + ch)) * (iL (shM kd se (cnt fi (fun j => wm (16 * bb + j)) (ofm bb) pt) pt ch))) / 100)) (mvL bb (le (2 * pt + (1 - i_3))) (((cm (((256 * bb) + (8 * ((2 * pt) + i_3))) + ch)) * (iL (shM kd se (cnt fi (fun j => wm (16 * bb + j)) (ofm bb) pt) pt ch))) / 100) ((rp (shB kd se le chn cm bb (cnt fi (fun j => wm (16 * bb + j)) (ofm bb) pt) pt ch) (i_3) (tn, lk, ov)).2.1))) (nI lst)), (mK, ia E nI 16 kd), (mF, ia E nI 16 fi), (mS, ia E nI 16 se), (mL, ia E nI 32 le), (mQ, ia E cL 16 chn), (mV, ja E 16 (va_up ((rp (shB kd se le chn cm bb (cnt fi (fun j => wm (16 * bb + j)) (ofm bb) pt) pt ch) (i_3) (tn, lk, ov)).2.2) pt ((((rp (shB kd se le chn cm bb (cnt fi (fun j => wm (16 * bb + j)) (ofm bb) pt) pt ch) (i_3) (tn, lk, ov)).2.2) pt) + (((cm (((256 * bb) + (8 * ((2 * pt) + i_3))) + ch)) * (iL (shM kd se (cnt fi (fun j => wm (16 * bb + j)) (ofm bb) pt) pt ch))) / 100)))), (mC, ja E 512 cm), (mT, ja E 256 (mvG (le (2 * pt + i_3)) ch ((cm (((256 * bb) + (8 * ((2 * pt) + i_3))) + ch)) - (((cm (((256 * bb) + (8 * ((2 * pt) + i_3))) + ch)) * (iL (shM kd se (cnt fi (fun j => wm (16 * bb + j)) (ofm bb) pt) pt ch))) / 100)) (mvG (le (2 * pt + (1 - i_3))) ch (((cm (((256 * bb) + (8 * ((2 * pt) + i_3))) + ch)) * (iL (shM kd se (cnt fi (fun j => wm (16 * bb + j)) (ofm bb) pt) pt ch))) / 100) ((rp (shB kd se le chn cm bb (cnt fi (fun j => wm (16 * bb + j)) (ofm bb) pt) pt ch) (i_3) (tn, lk, ov)).1)))), (mH, ia E nI 32 wm), (mP, ia E cO 2 ofm)] H := hP
            have hD : va_D A [(aM, o4 (nI th) (nI n) mK mX mY mF mS mL mQ mW mA mD mO mV mC mT mE mN mH mZ mP em gn (mvL bb (le (2 * pt + i_3)) ((cm (((256 * bb) + (8 * ((2 * pt) + i_3))) + ch)) - (((cm (((256 * bb) + (8 * ((2 * pt) + i_3))) + ch)) * (iL (shM kd se (cnt fi (fun j => wm (16 * bb + j)) (ofm bb) pt) pt ch))) / 100)) (mvL bb (le (2 * pt + (1 - i_3))) (((cm (((256 * bb) + (8 * ((2 * pt) + i_3))) + ch)) * (iL (shM kd se (cnt fi (fun j => wm (16 * bb + j)) (ofm bb) pt) pt ch))) / 100) ((rp (shB kd se le chn cm bb (cnt fi (fun j => wm (16 * bb + j)) (ofm bb) pt) pt ch) (i_3) (tn, lk, ov)).2.1))) (nI lst)), (mK, ia E nI 16 kd), (mF, ia E nI 16 fi), (mS, ia E nI 16 se), (mL, ia E nI 32 le), (mQ, ia E cL 16 chn), (mV, ja E 16 (va_up ((rp (shB kd se le chn cm bb (cnt fi (fun j => wm (16 * bb + j)) (ofm bb) pt) pt ch) (i_3) (tn, lk, ov)).2.2) pt ((((rp (shB kd se le chn cm bb (cnt fi (fun j => wm (16 * bb + j)) (ofm bb) pt) pt ch) (i_3) (tn, lk, ov)).2.2) pt) + (((cm (((256 * bb) + (8 * ((2 * pt) + i_3))) + ch)) * (iL (shM kd se (cnt fi (fun j => wm (16 * bb + j)) (ofm bb) pt) pt ch))) / 100)))), (mC, ja E 512 cm), (mT, ja E 256 (mvG (le (2 * pt + i_3)) ch ((cm (((256 * bb) + (8 * ((2 * pt) + i_3))) + ch)) - (((cm (((256 * bb) + (8 * ((2 * pt) + i_3))) + ch)) * (iL (shM kd se (cnt fi (fun j => wm (16 * bb + j)) (ofm bb) pt) pt ch))) / 100)) (mvG (le (2 * pt + (1 - i_3))) ch (((cm (((256 * bb) + (8 * ((2 * pt) + i_3))) + ch)) * (iL (shM kd se (cnt fi (fun j => wm (16 * bb + j)) (ofm bb) pt) pt ch))) / 100) ((rp (shB kd se le chn cm bb (cnt fi (fun j => wm (16 * bb + j)) (ofm bb) pt) pt ch) (i_3) (tn, lk, ov)).1)))), (mH, ia E nI 32 wm), (mP, ia E cO 2 ofm)] := hD
            refine lv_iinc (v := nI (i_3 + 1)) (lv' := [(4, .int (nI (i_3 + 1))), (7, .long (((cm (((256 * bb) + (8 * ((2 * pt) + i_3))) + ch)) * (iL (shM kd se (cnt fi (fun j => wm (16 * bb + j)) (ofm bb) pt) pt ch))) / 100)), (5, .long (cm (((256 * bb) + (8 * ((2 * pt) + i_3))) + ch))), (0, .ref aM), (1, .int (nI bb)), (2, .int (nI pt)), (3, .int (nI ch))]) hx hb dX4_shares_106 hl (k := 6) rfl (nI_add i_3 1) (by decide) rfl (fun ls hl => ?_)
            refine lv_goto (tgt := 3) hx hb dX4_shares_109 (by decide) ?_
            have q_13 : ((rp (shB kd se le chn cm bb (cnt fi (fun j => wm (16 * bb + j)) (ofm bb) pt) pt ch) (i_3 + 1) (tn, lk, ov)).2.1) = (mvL bb (le (2 * pt + i_3)) ((cm (((256 * bb) + (8 * ((2 * pt) + i_3))) + ch)) - (((cm (((256 * bb) + (8 * ((2 * pt) + i_3))) + ch)) * (iL (shM kd se (cnt fi (fun j => wm (16 * bb + j)) (ofm bb) pt) pt ch))) / 100)) (mvL bb (le (2 * pt + (1 - i_3))) (((cm (((256 * bb) + (8 * ((2 * pt) + i_3))) + ch)) * (iL (shM kd se (cnt fi (fun j => wm (16 * bb + j)) (ofm bb) pt) pt ch))) / 100) ((rp (shB kd se le chn cm bb (cnt fi (fun j => wm (16 * bb + j)) (ofm bb) pt) pt ch) (i_3) (tn, lk, ov)).2.1))) := by first | rfl | (rw [rp_s]; simp only [shB, c_4, c_5, c_9, and_self, and_true, true_and, and_false, false_and, if_true, if_false]; done) | (rw [rp_s]; simp [shB, c_4, c_5, c_9]; done)
            have q_14 : ((rp (shB kd se le chn cm bb (cnt fi (fun j => wm (16 * bb + j)) (ofm bb) pt) pt ch) (i_3 + 1) (tn, lk, ov)).2.2) = (va_up ((rp (shB kd se le chn cm bb (cnt fi (fun j => wm (16 * bb + j)) (ofm bb) pt) pt ch) (i_3) (tn, lk, ov)).2.2) pt ((((rp (shB kd se le chn cm bb (cnt fi (fun j => wm (16 * bb + j)) (ofm bb) pt) pt ch) (i_3) (tn, lk, ov)).2.2) pt) + (((cm (((256 * bb) + (8 * ((2 * pt) + i_3))) + ch)) * (iL (shM kd se (cnt fi (fun j => wm (16 * bb + j)) (ofm bb) pt) pt ch))) / 100))) := by first | rfl | (rw [rp_s]; simp only [shB, c_4, c_5, c_9, and_self, and_true, true_and, and_false, false_and, if_true, if_false]; done) | (rw [rp_s]; simp [shB, c_4, c_5, c_9]; done)
            have q_15 : ((rp (shB kd se le chn cm bb (cnt fi (fun j => wm (16 * bb + j)) (ofm bb) pt) pt ch) (i_3 + 1) (tn, lk, ov)).1) = (mvG (le (2 * pt + i_3)) ch ((cm (((256 * bb) + (8 * ((2 * pt) + i_3))) + ch)) - (((cm (((256 * bb) + (8 * ((2 * pt) + i_3))) + ch)) * (iL (shM kd se (cnt fi (fun j => wm (16 * bb + j)) (ofm bb) pt) pt ch))) / 100)) (mvG (le (2 * pt + (1 - i_3))) ch (((cm (((256 * bb) + (8 * ((2 * pt) + i_3))) + ch)) * (iL (shM kd se (cnt fi (fun j => wm (16 * bb + j)) (ofm bb) pt) pt ch))) / 100) ((rp (shB kd se le chn cm bb (cnt fi (fun j => wm (16 * bb + j)) (ofm bb) pt) pt ch) (i_3) (tn, lk, ov)).1))) := by first | rfl | (rw [rp_s]; simp only [shB, c_4, c_5, c_9, and_self, and_true, true_and, and_false, false_and, if_true, if_false]; done) | (rw [rp_s]; simp [shB, c_4, c_5, c_9]; done)
            have hP : va_P E.1 vwCl [(aM, o4 (nI th) (nI n) mK mX mY mF mS mL mQ mW mA mD mO mV mC mT mE mN mH mZ mP em gn ((rp (shB kd se le chn cm bb (cnt fi (fun j => wm (16 * bb + j)) (ofm bb) pt) pt ch) (i_3 + 1) (tn, lk, ov)).2.1) (nI lst)), (mK, ia E nI 16 kd), (mF, ia E nI 16 fi), (mS, ia E nI 16 se), (mL, ia E nI 32 le), (mQ, ia E cL 16 chn), (mV, ja E 16 ((rp (shB kd se le chn cm bb (cnt fi (fun j => wm (16 * bb + j)) (ofm bb) pt) pt ch) (i_3 + 1) (tn, lk, ov)).2.2)), (mC, ja E 512 cm), (mT, ja E 256 ((rp (shB kd se le chn cm bb (cnt fi (fun j => wm (16 * bb + j)) (ofm bb) pt) pt ch) (i_3 + 1) (tn, lk, ov)).1)), (mH, ia E nI 32 wm), (mP, ia E cO 2 ofm)] H := by rw [q_13, q_14, q_15]; exact hP
            have hD : va_D A [(aM, o4 (nI th) (nI n) mK mX mY mF mS mL mQ mW mA mD mO mV mC mT mE mN mH mZ mP em gn ((rp (shB kd se le chn cm bb (cnt fi (fun j => wm (16 * bb + j)) (ofm bb) pt) pt ch) (i_3 + 1) (tn, lk, ov)).2.1) (nI lst)), (mK, ia E nI 16 kd), (mF, ia E nI 16 fi), (mS, ia E nI 16 se), (mL, ia E nI 32 le), (mQ, ia E cL 16 chn), (mV, ja E 16 ((rp (shB kd se le chn cm bb (cnt fi (fun j => wm (16 * bb + j)) (ofm bb) pt) pt ch) (i_3 + 1) (tn, lk, ov)).2.2)), (mC, ja E 512 cm), (mT, ja E 256 ((rp (shB kd se le chn cm bb (cnt fi (fun j => wm (16 * bb + j)) (ofm bb) pt) pt ch) (i_3 + 1) (tn, lk, ov)).1)), (mH, ia E nI 32 wm), (mP, ia E cO 2 ofm)] := by rw [q_13, q_14, q_15]; exact hD
            have hl : lv_has ls 9 [(0, .ref aM), (1, .int (nI bb)), (2, .int (nI pt)), (3, .int (nI ch)), (4, .int (nI (i_3 + 1)))] := lv_sub hl [3, 4, 5, 6, 0] rfl
            exact ih_2 (i_3 + 1) (by omega) (by omega) _ _ hP hD hS _ hl
  have q_16 : ((rp (shB kd se le chn cm bb (cnt fi (fun j => wm (16 * bb + j)) (ofm bb) pt) pt ch) (0) (tn, lk, ov)).2.1) = lk := by rfl
  have q_17 : ((rp (shB kd se le chn cm bb (cnt fi (fun j => wm (16 * bb + j)) (ofm bb) pt) pt ch) (0) (tn, lk, ov)).2.2) = ov := by rfl
  have q_18 : ((rp (shB kd se le chn cm bb (cnt fi (fun j => wm (16 * bb + j)) (ofm bb) pt) pt ch) (0) (tn, lk, ov)).1) = tn := by rfl
  have hP : va_P E.1 vwCl [(aM, o4 (nI th) (nI n) mK mX mY mF mS mL mQ mW mA mD mO mV mC mT mE mN mH mZ mP em gn ((rp (shB kd se le chn cm bb (cnt fi (fun j => wm (16 * bb + j)) (ofm bb) pt) pt ch) (0) (tn, lk, ov)).2.1) (nI lst)), (mK, ia E nI 16 kd), (mF, ia E nI 16 fi), (mS, ia E nI 16 se), (mL, ia E nI 32 le), (mQ, ia E cL 16 chn), (mV, ja E 16 ((rp (shB kd se le chn cm bb (cnt fi (fun j => wm (16 * bb + j)) (ofm bb) pt) pt ch) (0) (tn, lk, ov)).2.2)), (mC, ja E 512 cm), (mT, ja E 256 ((rp (shB kd se le chn cm bb (cnt fi (fun j => wm (16 * bb + j)) (ofm bb) pt) pt ch) (0) (tn, lk, ov)).1)), (mH, ia E nI 32 wm), (mP, ia E cO 2 ofm)] H := by rw [q_16, q_17, q_18]; exact hP
  have hD : va_D A [(aM, o4 (nI th) (nI n) mK mX mY mF mS mL mQ mW mA mD mO mV mC mT mE mN mH mZ mP em gn ((rp (shB kd se le chn cm bb (cnt fi (fun j => wm (16 * bb + j)) (ofm bb) pt) pt ch) (0) (tn, lk, ov)).2.1) (nI lst)), (mK, ia E nI 16 kd), (mF, ia E nI 16 fi), (mS, ia E nI 16 se), (mL, ia E nI 32 le), (mQ, ia E cL 16 chn), (mV, ja E 16 ((rp (shB kd se le chn cm bb (cnt fi (fun j => wm (16 * bb + j)) (ofm bb) pt) pt ch) (0) (tn, lk, ov)).2.2)), (mC, ja E 512 cm), (mT, ja E 256 ((rp (shB kd se le chn cm bb (cnt fi (fun j => wm (16 * bb + j)) (ofm bb) pt) pt ch) (0) (tn, lk, ov)).1)), (mH, ia E nI 32 wm), (mP, ia E cO 2 ofm)] := by rw [q_16, q_17, q_18]; exact hD
  have hl : lv_has ls 9 [(0, .ref aM), (1, .int (nI bb)), (2, .int (nI pt)), (3, .int (nI ch)), (4, .int (nI 0))] := lv_sub hl [1, 2, 3, 4, 0] rfl
  exact LP_1 (2 + 1) 0 (by omega) (by omega) _ _ hP hD hS _ hl
