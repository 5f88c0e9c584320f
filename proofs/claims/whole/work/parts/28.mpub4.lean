def cfB (xs ys : Nat → Nat) (lst p q acc : Nat) : Nat := acc + (if dst xs ys p q < lst then 1 else 0)
def cfP (xs ys : Nat → Nat) (lst p acc : Nat) : Nat := rp (cfB xs ys lst p) p acc
def cfA (xs ys : Nat → Nat) (lst n : Nat) : Nat := rp (cfP xs ys lst) n 0

set_option maxHeartbeats 4000000 in
set_option maxRecDepth 100000 in
theorem m_conflicts (l : Launch) (E : EnvT) (sz : Nat) (aM mK mX mY mF mS mL mQ mW mA mD mO mV mC mT mE mN mH mZ mP : Nat) (th n lst : Nat) (em gn lk : Int64) (xs ys : Nat → Nat) (hn : n ≤ 16) (hl9 : lst ≤ 15) (hx9 : ∀ j, j < 16 → xs j ≤ 15 ∧ ys j ≤ 15) : MI l yX4_conflicts wsX4_conflicts ({ frames := 1, cells := 0, slots := 0, locals := 24 }) E sz [.ref aM] [(aM, o4 (nI th) (nI n) mK mX mY mF mS mL mQ mW mA mD mO mV mC mT mE mN mH mZ mP em gn lk (nI lst)), (mX, ia E nI 16 xs), (mY, ia E nI 16 ys)] (fun (r : Int32) (_ : Unit) => r = nI (cfA xs ys lst n)) (fun _ => [(aM, o4 (nI 0) (nI n) mK mX mY mF mS mL mQ mW mA mD mO mV mC mT mE mN mH mZ mP em gn lk (nI lst)), (mX, ia E nI 16 xs), (mY, ia E nI 16 ys)]) := by
  refine enI (cc := cX4_conflicts) (maxL := 4) (ret := .int) (by decide +kernel) rfl (Nat.le_of_ble_eq_true rfl) ?_
  intro p e s m below meth c A ls hx hb hr hml hts hown hlocks hAe C0 hP hD hS hl
  have hown : s.vm.findClass RX4 = some m.cls := hown
  have hl : lv_has ls 4 [(0, .ref aM)] := hl
  have iX4 : ∀ w ∈ u_ws RX4 TX4 25, w ∈ wsX4_conflicts := by decide +kernel
  obtain ⟨H, hHe⟩ : ∃ z, z = s.heap := ⟨_, rfl⟩
  obtain ⟨locs, hLe⟩ : ∃ z : List Loc, z = [] := ⟨_, rfl⟩
  have hP : va_P E.1 vwCl [(aM, o4 (nI th) (nI n) mK mX mY mF mS mL mQ mW mA mD mO mV mC mT mE mN mH mZ mP em gn lk (nI lst)), (mX, ia E nI 16 xs), (mY, ia E nI 16 ys)] H := by rw [hHe]; exact hP
  have hD : va_D A [(aM, o4 (nI th) (nI n) mK mX mY mF mS mL mQ mW mA mD mO mV mC mT mE mN mH mZ mP em gn lk (nI lst)), (mX, ia E nI 16 xs), (mY, ia E nI 16 ys)] := hD
  have hS : va_S A s.heap H locs := by rw [hHe, hLe]; exact hS
  suffices hgo : W p l e _ s m _ below meth c H locs 0 0 _ (F0 m 0 ls []) by rw [hHe, hLe] at hgo; exact hgo
  clear hHe hLe
  refine lv_aload_n hx hb dX4_conflicts_0 rfl (lv_at hl 0 rfl) ?_
  refine lv_iconst (v := nI 0) hx hb dX4_conflicts_1 (by decide) ?_
  refine va_put (D := E.1) (ci := 4) (v := .int (nI 0)) (ty := .int) (C := RX4) (T := TX4) (N := 25) hx hb hts iX4 tyX4 tyX4_ok nmX4 hown C0.1 hP hD hS 0 rfl rfl 0 (by decide) (hts (.fieldLink RX4 72 "RingresonanceModel" "thrown" "I") (by decide +kernel)) (fun _ h9 => h9) rfl (by decide +kernel) rfl rfl (Nat.le_of_ble_eq_true rfl) dX4_conflicts_2 (fun H locs hP hD hS => ?_)
  have hP : va_P E.1 vwCl [(aM, o4 (nI 0) (nI n) mK mX mY mF mS mL mQ mW mA mD mO mV mC mT mE mN mH mZ mP em gn lk (nI lst)), (mX, ia E nI 16 xs), (mY, ia E nI 16 ys)] H := hP
  have hD : va_D A [(aM, o4 (nI 0) (nI n) mK mX mY mF mS mL mQ mW mA mD mO mV mC mT mE mN mH mZ mP em gn lk (nI lst)), (mX, ia E nI 16 xs), (mY, ia E nI 16 ys)] := hD
  refine lv_iconst (v := nI 0) hx hb dX4_conflicts_5 (by decide) ?_
  refine lv_istore_n (lv' := [(1, .int (nI 0)), (0, .ref aM)]) hx hb dX4_conflicts_6 rfl hl (by decide) rfl (fun ls hl => ?_)
  refine lv_iconst (v := nI 0) hx hb dX4_conflicts_7 (by decide) ?_
  refine lv_istore_n (lv' := [(2, .int (nI 0)), (1, .int (nI 0)), (0, .ref aM)]) hx hb dX4_conflicts_8 rfl hl (by decide) rfl (fun ls hl => ?_)
  have LP_1 : ∀ (nz i_3 : Nat), i_3 ≤ n → n < i_3 + nz → ∀ (H : Heap) (locs : List Loc), va_P E.1 vwCl [(aM, o4 (nI 0) (nI n) mK mX mY mF mS mL mQ mW mA mD mO mV mC mT mE mN mH mZ mP em gn lk (nI lst)), (mX, ia E nI 16 xs), (mY, ia E nI 16 ys)] H → va_D A [(aM, o4 (nI 0) (nI n) mK mX mY mF mS mL mQ mW mA mD mO mV mC mT mE mN mH mZ mP em gn lk (nI lst)), (mX, ia E nI 16 xs), (mY, ia E nI 16 ys)] → va_S A s.heap H locs → ∀ (ls : Array Slot), lv_has ls 4 [(0, .ref aM), (1, .int (nI (rp (cfP xs ys lst) (i_3) 0))), (2, .int (nI i_3))] → W p l e ({ frames := 1, cells := 0, slots := 0, locals := 24 }) s m (([.ref aM] : List Value).toArray) below meth c H locs 0 0 (MQ below (va_Qi (fun (r : Int32) (_ : Unit) => r = nI (cfA xs ys lst n)) (Wd E [(aM, o4 (nI th) (nI n) mK mX mY mF mS mL mQ mW mA mD mO mV mC mT mE mN mH mZ mP em gn lk (nI lst)), (mX, ia E nI 16 xs), (mY, ia E nI 16 ys)] s.heap.size (fun _ => [(aM, o4 (nI 0) (nI n) mK mX mY mF mS mL mQ mW mA mD mO mV mC mT mE mN mH mZ mP em gn lk (nI lst)), (mX, ia E nI 16 xs), (mY, ia E nI 16 ys)])) A) (([.ref aM] : List Value).toArray) s 0 0 A) (F0 m 9 ls []) := by
    intro nz
    induction nz with
    | zero =>
      intro i_3 h1 h2
      exact absurd h2 (by omega)
    | succ nz ih_2 =>
      intro i_3 hi_i_3 hn_i_3 H locs hP hD hS ls hl
      refine lv_iload_n hx hb dX4_conflicts_9 rfl (lv_at hl 2 rfl) ?_
      refine lv_aload_n hx hb dX4_conflicts_10 rfl (lv_at hl 0 rfl) ?_
      refine va_get (D := E.1) (ci := 4) (v := .int (nI n)) (C := RX4) (T := TX4) (N := 25) hx hb hts iX4 hown C0.1 hP 0 rfl rfl 1 (by decide) (hts (.fieldLink RX4 75 "RingresonanceModel" "parts" "I") (by decide +kernel)) (fun _ h9 => h9) rfl dX4_conflicts_11 ?_
      refine lv_icmp_ge (tgt := 57) hx hb dX4_conflicts_14 (by decide) (fun c_4 => ?_) (fun c_4 => ?_)
      · skip
        have c_4 : n ≤ i_3 := (ci_ge (by omega) (by omega)).mp c_4
        obtain rfl : n = i_3 := by omega
        refine lv_iload_n hx hb dX4_conflicts_57 rfl (lv_at hl 1 rfl) ?_
        have q_5 : (nI (rp (cfP xs ys lst) (n) 0)) = (nI (cfA xs ys lst n)) := by symm; first | rfl | (simp only [c_4, if_true, if_false, not_true_eq_false, not_false_eq_true, ite_true, ite_false]; done) | (simp only [c_4, if_true, if_false]; rfl) | (simp [c_4]; done)
        exact exI hx hb hr hlocks hAe hS () q_5 hP hD dX4_conflicts_58
      · skip
        have c_4 : ¬ (n ≤ i_3) := fun h => c_4 ((ci_ge (by omega) (by omega)).mpr h)
        refine lv_iconst (v := nI 0) hx hb dX4_conflicts_17 (by decide) ?_
        refine lv_istore_n (lv' := [(3, .int (nI 0)), (0, .ref aM), (1, .int (nI (rp (cfP xs ys lst) (i_3) 0))), (2, .int (nI i_3))]) hx hb dX4_conflicts_18 rfl hl (by decide) rfl (fun ls hl => ?_)
        have LP_6 : ∀ (nz i_8 : Nat), i_8 ≤ i_3 → i_3 < i_8 + nz → ∀ (H : Heap) (locs : List Loc), va_P E.1 vwCl [(aM, o4 (nI 0) (nI n) mK mX mY mF mS mL mQ mW mA mD mO mV mC mT mE mN mH mZ mP em gn lk (nI lst)), (mX, ia E nI 16 xs), (mY, ia E nI 16 ys)] H → va_D A [(aM, o4 (nI 0) (nI n) mK mX mY mF mS mL mQ mW mA mD mO mV mC mT mE mN mH mZ mP em gn lk (nI lst)), (mX, ia E nI 16 xs), (mY, ia E nI 16 ys)] → va_S A s.heap H locs → ∀ (ls : Array Slot), lv_has ls 4 [(0, .ref aM), (1, .int (nI (rp (cfB xs ys lst i_3) (i_8) (rp (cfP xs ys lst) (i_3) 0)))), (2, .int (nI i_3)), (3, .int (nI i_8))] → W p l e ({ frames := 1, cells := 0, slots := 0, locals := 24 }) s m (([.ref aM] : List Value).toArray) below meth c H locs 0 0 (MQ below (va_Qi (fun (r : Int32) (_ : Unit) => r = nI (cfA xs ys lst n)) (Wd E [(aM, o4 (nI th) (nI n) mK mX mY mF mS mL mQ mW mA mD mO mV mC mT mE mN mH mZ mP em gn lk (nI lst)), (mX, ia E nI 16 xs), (mY, ia E nI 16 ys)] s.heap.size (fun _ => [(aM, o4 (nI 0) (nI n) mK mX mY mF mS mL mQ mW mA mD mO mV mC mT mE mN mH mZ mP em gn lk (nI lst)), (mX, ia E nI 16 xs), (mY, ia E nI 16 ys)])) A) (([.ref aM] : List Value).toArray) s 0 0 A) (F0 m 19 ls []) := by
          intro nz
          induction nz with
          | zero =>
            intro i_8 h1 h2
            exact absurd h2 (by omega)
          | succ nz ih_7 =>
            intro i_8 hi_i_8 hn_i_8 H locs hP hD hS ls hl
            refine lv_iload_n hx hb dX4_conflicts_19 rfl (lv_at hl 3 rfl) ?_
            refine lv_iload_n hx hb dX4_conflicts_20 rfl (lv_at hl 2 rfl) ?_
            refine lv_icmp_ge (tgt := 51) hx hb dX4_conflicts_21 (by decide) (fun c_9 => ?_) (fun c_9 => ?_)
            · skip
              have c_9 : i_3 ≤ i_8 := (ci_ge (by omega) (by omega)).mp c_9
              obtain rfl : i_3 = i_8 := by omega
              refine lv_iinc (v := nI (i_3 + 1)) (lv' := [(2, .int (nI (i_3 + 1))), (0, .ref aM), (1, .int (nI (rp (cfB xs ys lst i_3) (i_3) (rp (cfP xs ys lst) (i_3) 0)))), (3, .int (nI i_3))]) hx hb dX4_conflicts_51 hl (k := 2) rfl (nI_add i_3 1) (by decide) rfl (fun ls hl => ?_)
              refine lv_goto (tgt := 9) hx hb dX4_conflicts_54 (by decide) ?_
              have hP : va_P E.1 vwCl [(aM, o4 (nI 0) (nI n) mK mX mY mF mS mL mQ mW mA mD mO mV mC mT mE mN mH mZ mP em gn lk (nI lst)), (mX, ia E nI 16 xs), (mY, ia E nI 16 ys)] H := hP
              have hD : va_D A [(aM, o4 (nI 0) (nI n) mK mX mY mF mS mL mQ mW mA mD mO mV mC mT mE mN mH mZ mP em gn lk (nI lst)), (mX, ia E nI 16 xs), (mY, ia E nI 16 ys)] := hD
              have q_10 : nI (rp (cfB xs ys lst i_3) (i_3) (rp (cfP xs ys lst) (i_3) 0)) = nI (rp (cfP xs ys lst) (i_3 + 1) 0) := by first | rfl | (congr 1; omega) | (simp only [c_4, c_9, if_true]; done) | (simp [c_4, c_9]; done)
              rw [q_10] at hl
              have hl : lv_has ls 4 [(0, .ref aM), (1, .int (nI (rp (cfP xs ys lst) (i_3 + 1) 0))), (2, .int (nI (i_3 + 1)))] := lv_sub hl [1, 2, 0] rfl
              exact ih_2 (i_3 + 1) (by omega) (by omega) _ _ hP hD hS _ hl
            · skip
              have c_9 : ¬ (i_3 ≤ i_8) := fun h => c_9 ((ci_ge (by omega) (by omega)).mpr h)
              have hdl := dst_le (xs := xs) (ys := ys) (a := i_3) (b := i_8) (by omega) (by omega) hx9
              have JN_11 : ∀ (H : Heap) (locs : List Loc), va_P E.1 vwCl [(aM, o4 (nI 0) (nI n) mK mX mY mF mS mL mQ mW mA mD mO mV mC mT mE mN mH mZ mP em gn lk (nI lst)), (mX, ia E nI 16 xs), (mY, ia E nI 16 ys)] H → va_D A [(aM, o4 (nI 0) (nI n) mK mX mY mF mS mL mQ mW mA mD mO mV mC mT mE mN mH mZ mP em gn lk (nI lst)), (mX, ia E nI 16 xs), (mY, ia E nI 16 ys)] → va_S A s.heap H locs → ∀ (ls : Array Slot), lv_has ls 4 [(0, .ref aM), (1, .int (nI (rp (cfB xs ys lst i_3) (i_8) (rp (cfP xs ys lst) (i_3) 0)))), (2, .int (nI i_3)), (3, .int (nI i_8))] → W p l e ({ frames := 1, cells := 0, slots := 0, locals := 24 }) s m (([.ref aM] : List Value).toArray) below meth c H locs 0 0 (MQ below (va_Qi (fun (r : Int32) (_ : Unit) => r = nI (cfA xs ys lst n)) (Wd E [(aM, o4 (nI th) (nI n) mK mX mY mF mS mL mQ mW mA mD mO mV mC mT mE mN mH mZ mP em gn lk (nI lst)), (mX, ia E nI 16 xs), (mY, ia E nI 16 ys)] s.heap.size (fun _ => [(aM, o4 (nI 0) (nI n) mK mX mY mF mS mL mQ mW mA mD mO mV mC mT mE mN mH mZ mP em gn lk (nI lst)), (mX, ia E nI 16 xs), (mY, ia E nI 16 ys)])) A) (([.ref aM] : List Value).toArray) s 0 0 A) (F0 m 43 ls [.int (nI (if dst xs ys i_3 i_8 < lst then 1 else 0)), .int (nI (rp (cfB xs ys lst i_3) (i_8) (rp (cfP xs ys lst) (i_3) 0)))]) := by
                intro   H locs hP hD hS ls hl
                refine lv_iadd hx hb dX4_conflicts_43 ?_
                refine lv_ri (y := (nI ((rp (cfB xs ys lst i_3) (i_8) (rp (cfP xs ys lst) (i_3) 0)) + (if dst xs ys i_3 i_8 < lst then 1 else 0)))) (nI_add (rp (cfB xs ys lst i_3) (i_8) (rp (cfP xs ys lst) (i_3) 0)) (if dst xs ys i_3 i_8 < lst then 1 else 0)) ?_
                refine lv_istore_n (lv' := [(1, .int (nI ((rp (cfB xs ys lst i_3) (i_8) (rp (cfP xs ys lst) (i_3) 0)) + (if dst xs ys i_3 i_8 < lst then 1 else 0)))), (0, .ref aM), (2, .int (nI i_3)), (3, .int (nI i_8))]) hx hb dX4_conflicts_44 rfl hl (by decide) rfl (fun ls hl => ?_)
                refine lv_iinc (v := nI (i_8 + 1)) (lv' := [(3, .int (nI (i_8 + 1))), (1, .int (nI ((rp (cfB xs ys lst i_3) (i_8) (rp (cfP xs ys lst) (i_3) 0)) + (if dst xs ys i_3 i_8 < lst then 1 else 0)))), (0, .ref aM), (2, .int (nI i_3))]) hx hb dX4_conflicts_45 hl (k := 3) rfl (nI_add i_8 1) (by decide) rfl (fun ls hl => ?_)
                refine lv_goto (tgt := 19) hx hb dX4_conflicts_48 (by decide) ?_
                have hP : va_P E.1 vwCl [(aM, o4 (nI 0) (nI n) mK mX mY mF mS mL mQ mW mA mD mO mV mC mT mE mN mH mZ mP em gn lk (nI lst)), (mX, ia E nI 16 xs), (mY, ia E nI 16 ys)] H := hP
                have hD : va_D A [(aM, o4 (nI 0) (nI n) mK mX mY mF mS mL mQ mW mA mD mO mV mC mT mE mN mH mZ mP em gn lk (nI lst)), (mX, ia E nI 16 xs), (mY, ia E nI 16 ys)] := hD
                have q_12 : nI ((rp (cfB xs ys lst i_3) (i_8) (rp (cfP xs ys lst) (i_3) 0)) + (if dst xs ys i_3 i_8 < lst then 1 else 0)) = nI (rp (cfB xs ys lst i_3) (i_8 + 1) (rp (cfP xs ys lst) (i_3) 0)) := by first | rfl | (congr 1; omega) | (simp only [c_4, c_9, if_true]; done) | (simp [c_4, c_9]; done)
                rw [q_12] at hl
                have hl : lv_has ls 4 [(0, .ref aM), (1, .int (nI (rp (cfB xs ys lst i_3) (i_8 + 1) (rp (cfP xs ys lst) (i_3) 0)))), (2, .int (nI i_3)), (3, .int (nI (i_8 + 1)))] := lv_sub hl [2, 1, 3, 0] rfl
                exact ih_7 (i_8 + 1) (by omega) (by omega) _ _ hP hD hS _ hl
              refine lv_iload_n hx hb dX4_conflicts_24 rfl (lv_at hl 1 rfl) ?_
              refine lv_aload_n hx hb dX4_conflicts_25 rfl (lv_at hl 0 rfl) ?_
              refine lv_iload_n hx hb dX4_conflicts_26 rfl (lv_at hl 2 rfl) ?_
              refine lv_iload_n hx hb dX4_conflicts_27 rfl (lv_at hl 3 rfl) ?_
              have hPc := hP.pick (ws' := [(aM, o4 (nI 0) (nI n) mK mX mY mF mS mL mQ mW mA mD mO mV mC mT mE mN mH mZ mP em gn lk (nI lst)), (mX, ia E nI 16 xs), (mY, ia E nI 16 ys)]) [0, 1, 2] rfl
              have hDc := hD.sub (ws' := [(aM, o4 (nI 0) (nI n) mK mX mY mF mS mL mQ mW mA mD mO mV mC mT mE mN mH mZ mP em gn lk (nI lst)), (mX, ia E nI 16 xs), (mY, ia E nI 16 ys)]) [0, 1, 2] (by decide) rfl
              refine kcI (wr := []) (w1 := fun _ : Unit => [(aM, o4 (nI 0) (nI n) mK mX mY mF mS mL mQ mW mA mD mO mV mC mT mE mN mH mZ mP em gn lk (nI lst)), (mX, ia E nI 16 xs), (mY, ia E nI 16 ys)]) (w2 := fun _ => [(aM, o4 (nI 0) (nI n) mK mX mY mF mS mL mQ mW mA mD mO mV mC mT mE mN mH mZ mP em gn lk (nI lst)), (mX, ia E nI 16 xs), (mY, ia E nI 16 ys)]) (va_runV (As := [.int (nI i_3), .int (nI i_8)]) (rest := [.int (nI (rp (cfB xs ys lst i_3) (i_8) (rp (cfP xs ys lst) (i_3) 0)))]) ⟨hx, hb, hml, hown, hts⟩ (m_distance l E H.size i_3 i_8 aM mK mX mY mF mS mL mQ mW mA mD mO mV mC mT mE mN mH mZ mP 0 n lst em gn lk xs ys (by omega) (by omega) (hx9)) (cwV 2 hts gX4_conflicts_X4_distance rfl rfl rfl (by decide +kernel) ⟨Nat.le_of_ble_eq_true rfl, Nat.le_of_ble_eq_true rfl⟩) (preV C0 hPc hDc hS 0 rfl rfl) rfl rfl hl.1 rfl (lv_room (Nat.le_of_ble_eq_true rfl)) dX4_conflicts_28 ⟨Nat.le_refl _, Nat.le_refl _⟩) C0 hP hD hS [0, 1, 2] [] [0, 1, 2] rfl rfl (by decide) (by decide) (fun _ => rfl) (by decide) (fun r_9 _u H locs hw hP hD hS => ?_)
              have hP : va_P E.1 vwCl [(aM, o4 (nI 0) (nI n) mK mX mY mF mS mL mQ mW mA mD mO mV mC mT mE mN mH mZ mP em gn lk (nI lst)), (mX, ia E nI 16 xs), (mY, ia E nI 16 ys)] H := hP
              have hD : va_D A [(aM, o4 (nI 0) (nI n) mK mX mY mF mS mL mQ mW mA mD mO mV mC mT mE mN mH mZ mP em gn lk (nI lst)), (mX, ia E nI 16 xs), (mY, ia E nI 16 ys)] := hD
              have hw : r_9 = nI (dst xs ys i_3 i_8) := hw
              subst hw
              refine lv_aload_n hx hb dX4_conflicts_31 rfl (lv_at hl 0 rfl) ?_
              refine va_get (D := E.1) (ci := 4) (v := .int (nI lst)) (C := RX4) (T := TX4) (N := 25) hx hb hts iX4 hown C0.1 hP 0 rfl rfl 24 (by decide) (hts (.fieldLink RX4 68 "RingresonanceModel" "least" "I") (by decide +kernel)) (fun _ h9 => h9) rfl dX4_conflicts_32 ?_
              refine lv_icmp_ge (tgt := 42) hx hb dX4_conflicts_35 (by decide) (fun c_13 => ?_) (fun c_13 => ?_)
              · skip
                have c_13 : lst ≤ (dst xs ys i_3 i_8) := (ci_ge (by omega) (by omega)).mp c_13
                refine lv_iconst (v := nI 0) hx hb dX4_conflicts_42 (by decide) ?_
                refine lv_ri (y := (nI (if dst xs ys i_3 i_8 < lst then 1 else 0))) (congrArg nI (if_neg (by omega)).symm) ?_
                have hl : lv_has ls 4 [(0, .ref aM), (1, .int (nI (rp (cfB xs ys lst i_3) (i_8) (rp (cfP xs ys lst) (i_3) 0)))), (2, .int (nI i_3)), (3, .int (nI i_8))] := lv_sub hl [0, 1, 2, 3] rfl
                exact JN_11   _ _ hP hD hS _ hl
              · skip
                have c_13 : ¬ (lst ≤ (dst xs ys i_3 i_8)) := fun h => c_13 ((ci_ge (by omega) (by omega)).mpr h)
                refine lv_iconst (v := nI 1) hx hb dX4_conflicts_38 (by decide) ?_
                refine lv_ri (y := (nI (if dst xs ys i_3 i_8 < lst then 1 else 0))) (congrArg nI (if_pos (by omega)).symm) ?_
                refine lv_goto (tgt := 43) hx hb dX4_conflicts_39 (by decide) ?_
                have hl : lv_has ls 4 [(0, .ref aM), (1, .int (nI (rp (cfB xs ys lst i_3) (i_8) (rp (cfP xs ys lst) (i_3) 0)))), (2, .int (nI i_3)), (3, .int (nI i_8))] := lv_sub hl [0, 1, 2, 3] rfl
                exact JN_11   _ _ hP hD hS _ hl
        have hP : va_P E.1 vwCl [(aM, o4 (nI 0) (nI n) mK mX mY mF mS mL mQ mW mA mD mO mV mC mT mE mN mH mZ mP em gn lk (nI lst)), (mX, ia E nI 16 xs), (mY, ia E nI 16 ys)] H := hP
        have hD : va_D A [(aM, o4 (nI 0) (nI n) mK mX mY mF mS mL mQ mW mA mD mO mV mC mT mE mN mH mZ mP em gn lk (nI lst)), (mX, ia E nI 16 xs), (mY, ia E nI 16 ys)] := hD
        have q_14 : nI (rp (cfP xs ys lst) (i_3) 0) = nI (rp (cfB xs ys lst i_3) (0) (rp (cfP xs ys lst) (i_3) 0)) := by first | rfl | (congr 1; omega) | (simp only [c_4, if_true]; done) | (simp [c_4]; done)
        rw [q_14] at hl
        have hl : lv_has ls 4 [(0, .ref aM), (1, .int (nI (rp (cfB xs ys lst i_3) (0) (rp (cfP xs ys lst) (i_3) 0)))), (2, .int (nI i_3)), (3, .int (nI 0))] := lv_sub hl [1, 2, 3, 0] rfl
        exact LP_6 (i_3 + 1) 0 (by omega) (by omega) _ _ hP hD hS _ hl
  have hP : va_P E.1 vwCl [(aM, o4 (nI 0) (nI n) mK mX mY mF mS mL mQ mW mA mD mO mV mC mT mE mN mH mZ mP em gn lk (nI lst)), (mX, ia E nI 16 xs), (mY, ia E nI 16 ys)] H := hP
  have hD : va_D A [(aM, o4 (nI 0) (nI n) mK mX mY mF mS mL mQ mW mA mD mO mV mC mT mE mN mH mZ mP em gn lk (nI lst)), (mX, ia E nI 16 xs), (mY, ia E nI 16 ys)] := hD
  have q_15 : nI 0 = nI (rp (cfP xs ys lst) (0) 0) := by first | rfl | (congr 1; omega) | (simp only [if_true]; done) | (simp []; done)
  rw [q_15] at hl
  have hl : lv_has ls 4 [(0, .ref aM), (1, .int (nI (rp (cfP xs ys lst) (0) 0))), (2, .int (nI 0))] := lv_sub hl [2, 1, 0] rfl
  exact LP_1 (n + 1) 0 (by omega) (by omega) _ _ hP hD hS _ hl
