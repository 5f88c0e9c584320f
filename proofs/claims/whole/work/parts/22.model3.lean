set_option maxHeartbeats 4000000 in
set_option maxRecDepth 100000 in
theorem m_distance (l : Launch) (E : EnvT) (sz : Nat) (ja jb : Nat) (aM mK mX mY mF mS mL mQ mW mA mD mO mV mC mT mE mN mH mZ mP : Nat) (th n lst : Nat) (em gn lk : Int64) (xs ys : Nat → Nat) (hja : ja < 16) (hjb : jb < 16) (hx9 : ∀ j, j < 16 → xs j ≤ 15 ∧ ys j ≤ 15) : MI l yX4_distance wsX4_distance ({ frames := 0, cells := 0, slots := 0, locals := 0 }) E sz [.ref aM, .int (nI ja), .int (nI jb)] [(aM, o4 (nI th) (nI n) mK mX mY mF mS mL mQ mW mA mD mO mV mC mT mE mN mH mZ mP em gn lk (nI lst)), (mX, ia E nI 16 xs), (mY, ia E nI 16 ys)] (fun (r : Int32) (_ : Unit) => r = nI (dst xs ys ja jb)) (fun _ => [(aM, o4 (nI th) (nI n) mK mX mY mF mS mL mQ mW mA mD mO mV mC mT mE mN mH mZ mP em gn lk (nI lst)), (mX, ia E nI 16 xs), (mY, ia E nI 16 ys)]) := by
  refine enI (cc := cX4_distance) (maxL := 5) (ret := .int) (by decide +kernel) rfl (Nat.le_of_ble_eq_true rfl) ?_
  intro p e s m below meth c A ls hx hb hr hml hts hown hlocks hAe C0 hP hD hS hl
  have hown : s.vm.findClass RX4 = some m.cls := hown
  have hl : lv_has ls 5 [(0, .ref aM), (1, .int (nI ja)), (2, .int (nI jb))] := hl
  have iX4 : ∀ w ∈ u_ws RX4 TX4 25, w ∈ wsX4_distance := by decide +kernel
  obtain ⟨H, hHe⟩ : ∃ z, z = s.heap := ⟨_, rfl⟩
  obtain ⟨locs, hLe⟩ : ∃ z : List Loc, z = [] := ⟨_, rfl⟩
  have hP : va_P E.1 vwCl [(aM, o4 (nI th) (nI n) mK mX mY mF mS mL mQ mW mA mD mO mV mC mT mE mN mH mZ mP em gn lk (nI lst)), (mX, ia E nI 16 xs), (mY, ia E nI 16 ys)] H := by rw [hHe]; exact hP
  have hD : va_D A [(aM, o4 (nI th) (nI n) mK mX mY mF mS mL mQ mW mA mD mO mV mC mT mE mN mH mZ mP em gn lk (nI lst)), (mX, ia E nI 16 xs), (mY, ia E nI 16 ys)] := hD
  have hS : va_S A s.heap H locs := by rw [hHe, hLe]; exact hS
  suffices hgo : W p l e _ s m _ below meth c H locs 0 0 _ (F0 m 0 ls []) by rw [hHe, hLe] at hgo; exact hgo
  clear hHe hLe
  have hxa := hx9 ja hja
  have hxb := hx9 jb hjb
  have JN_1 : ∀ (H : Heap) (locs : List Loc), va_P E.1 vwCl [(aM, o4 (nI th) (nI n) mK mX mY mF mS mL mQ mW mA mD mO mV mC mT mE mN mH mZ mP em gn lk (nI lst)), (mX, ia E nI 16 xs), (mY, ia E nI 16 ys)] H → va_D A [(aM, o4 (nI th) (nI n) mK mX mY mF mS mL mQ mW mA mD mO mV mC mT mE mN mH mZ mP em gn lk (nI lst)), (mX, ia E nI 16 xs), (mY, ia E nI 16 ys)] → va_S A s.heap H locs → ∀ (ls : Array Slot), lv_has ls 5 [(0, .ref aM), (1, .int (nI ja)), (2, .int (nI jb))] → W p l e ({ frames := 0, cells := 0, slots := 0, locals := 0 }) s m (([.ref aM, .int (nI ja), .int (nI jb)] : List Value).toArray) below meth c H locs 0 0 (MQ below (va_Qi (fun (r : Int32) (_ : Unit) => r = nI (dst xs ys ja jb)) (Wd E [(aM, o4 (nI th) (nI n) mK mX mY mF mS mL mQ mW mA mD mO mV mC mT mE mN mH mZ mP em gn lk (nI lst)), (mX, ia E nI 16 xs), (mY, ia E nI 16 ys)] s.heap.size (fun _ => [(aM, o4 (nI th) (nI n) mK mX mY mF mS mL mQ mW mA mD mO mV mC mT mE mN mH mZ mP em gn lk (nI lst)), (mX, ia E nI 16 xs), (mY, ia E nI 16 ys)])) A) (([.ref aM, .int (nI ja), .int (nI jb)] : List Value).toArray) s 0 0 A) (F0 m 44 ls [.int (nI (adf (xs ja) (xs jb)))]) := by
    intro   H locs hP hD hS ls hl
    refine lv_istore_n (lv' := [(3, .int (nI (adf (xs ja) (xs jb)))), (0, .ref aM), (1, .int (nI ja)), (2, .int (nI jb))]) hx hb dX4_distance_44 rfl hl (by decide) rfl (fun ls hl => ?_)
    have JN_2 : ∀ (H : Heap) (locs : List Loc), va_P E.1 vwCl [(aM, o4 (nI th) (nI n) mK mX mY mF mS mL mQ mW mA mD mO mV mC mT mE mN mH mZ mP em gn lk (nI lst)), (mX, ia E nI 16 xs), (mY, ia E nI 16 ys)] H → va_D A [(aM, o4 (nI th) (nI n) mK mX mY mF mS mL mQ mW mA mD mO mV mC mT mE mN mH mZ mP em gn lk (nI lst)), (mX, ia E nI 16 xs), (mY, ia E nI 16 ys)] → va_S A s.heap H locs → ∀ (ls : Array Slot), lv_has ls 5 [(3, .int (nI (adf (xs ja) (xs jb)))), (0, .ref aM), (1, .int (nI ja)), (2, .int (nI jb))] → W p l e ({ frames := 0, cells := 0, slots := 0, locals := 0 }) s m (([.ref aM, .int (nI ja), .int (nI jb)] : List Value).toArray) below meth c H locs 0 0 (MQ below (va_Qi (fun (r : Int32) (_ : Unit) => r = nI (dst xs ys ja jb)) (Wd E [(aM, o4 (nI th) (nI n) mK mX mY mF mS mL mQ mW mA mD mO mV mC mT mE mN mH mZ mP em gn lk (nI lst)), (mX, ia E nI 16 xs), (mY, ia E nI 16 ys)] s.heap.size (fun _ => [(aM, o4 (nI th) (nI n) mK mX mY mF mS mL mQ mW mA mD mO mV mC mT mE mN mH mZ mP em gn lk (nI lst)), (mX, ia E nI 16 xs), (mY, ia E nI 16 ys)])) A) (([.ref aM, .int (nI ja), .int (nI jb)] : List Value).toArray) s 0 0 A) (F0 m 89 ls [.int (nI (adf (ys ja) (ys jb)))]) := by
      intro   H locs hP hD hS ls hl
      refine lv_istore (lv' := [(4, .int (nI (adf (ys ja) (ys jb)))), (3, .int (nI (adf (xs ja) (xs jb)))), (0, .ref aM), (1, .int (nI ja)), (2, .int (nI jb))]) hx hb dX4_distance_89 hl (by decide) rfl (fun ls hl => ?_)
      refine lv_iload_n hx hb dX4_distance_91 rfl (lv_at hl 1 rfl) ?_
      refine lv_iload hx hb dX4_distance_92 (lv_at hl 0 rfl) ?_
      refine lv_iadd hx hb dX4_distance_94 ?_
      refine lv_ri (y := (nI ((adf (xs ja) (xs jb)) + (adf (ys ja) (ys jb))))) (nI_add (adf (xs ja) (xs jb)) (adf (ys ja) (ys jb))) ?_
      have q_3 : (nI ((adf (xs ja) (xs jb)) + (adf (ys ja) (ys jb)))) = (nI (dst xs ys ja jb)) := by symm; first | rfl | (simp only [if_true, if_false, not_true_eq_false, not_false_eq_true, ite_true, ite_false]; done) | (simp only [if_true, if_false]; rfl) | (simp []; done)
      exact exI hx hb hr hlocks hAe hS () q_3 hP hD dX4_distance_95
    refine lv_aload_n hx hb dX4_distance_45 rfl (lv_at hl 1 rfl) ?_
    refine va_get (D := E.1) (ci := 4) (v := .ref mY) (C := RX4) (T := TX4) (N := 25) hx hb hts iX4 hown C0.1 hP 0 rfl rfl 4 (by decide) (hts (.fieldLink RX4 16 "RingresonanceModel" "y" "[I") (by decide +kernel)) (fun _ h9 => h9) rfl dX4_distance_46 ?_
    refine lv_iload_n hx hb dX4_distance_49 rfl (lv_at hl 2 rfl) ?_
    refine k_iald (e := ja) (g := nI) (n := 16) hx hb C0 hP 2 rfl (by omega) (by omega) dX4_distance_50 ?_
    refine lv_aload_n hx hb dX4_distance_51 rfl (lv_at hl 1 rfl) ?_
    refine va_get (D := E.1) (ci := 4) (v := .ref mY) (C := RX4) (T := TX4) (N := 25) hx hb hts iX4 hown C0.1 hP 0 rfl rfl 4 (by decide) (hts (.fieldLink RX4 16 "RingresonanceModel" "y" "[I") (by decide +kernel)) (fun _ h9 => h9) rfl dX4_distance_52 ?_
    refine lv_iload_n hx hb dX4_distance_55 rfl (lv_at hl 3 rfl) ?_
    refine k_iald (e := jb) (g := nI) (n := 16) hx hb C0 hP 2 rfl (by omega) (by omega) dX4_distance_56 ?_
    refine lv_icmp_ge (tgt := 76) hx hb dX4_distance_57 (by decide) (fun c_4 => ?_) (fun c_4 => ?_)
    · skip
      have c_4 : (ys jb) ≤ (ys ja) := (ci_ge (by omega) (by omega)).mp c_4
      refine lv_aload_n hx hb dX4_distance_76 rfl (lv_at hl 1 rfl) ?_
      refine va_get (D := E.1) (ci := 4) (v := .ref mY) (C := RX4) (T := TX4) (N := 25) hx hb hts iX4 hown C0.1 hP 0 rfl rfl 4 (by decide) (hts (.fieldLink RX4 16 "RingresonanceModel" "y" "[I") (by decide +kernel)) (fun _ h9 => h9) rfl dX4_distance_77 ?_
      refine lv_iload_n hx hb dX4_distance_80 rfl (lv_at hl 2 rfl) ?_
      refine k_iald (e := ja) (g := nI) (n := 16) hx hb C0 hP 2 rfl (by omega) (by omega) dX4_distance_81 ?_
      refine lv_aload_n hx hb dX4_distance_82 rfl (lv_at hl 1 rfl) ?_
      refine va_get (D := E.1) (ci := 4) (v := .ref mY) (C := RX4) (T := TX4) (N := 25) hx hb hts iX4 hown C0.1 hP 0 rfl rfl 4 (by decide) (hts (.fieldLink RX4 16 "RingresonanceModel" "y" "[I") (by decide +kernel)) (fun _ h9 => h9) rfl dX4_distance_83 ?_
      refine lv_iload_n hx hb dX4_distance_86 rfl (lv_at hl 3 rfl) ?_
      refine k_iald (e := jb) (g := nI) (n := 16) hx hb C0 hP 2 rfl (by omega) (by omega) dX4_distance_87 ?_
      refine lv_isub hx hb dX4_distance_88 ?_
      refine lv_ri (y := (nI (adf (ys ja) (ys jb)))) ((pk_sub (by omega)).trans (congrArg nI (by unfold adf; split <;> omega))) ?_
      have hl : lv_has ls 5 [(3, .int (nI (adf (xs ja) (xs jb)))), (0, .ref aM), (1, .int (nI ja)), (2, .int (nI jb))] := lv_sub hl [0, 1, 2, 3] rfl
      exact JN_2   _ _ hP hD hS _ hl
    · skip
      have c_4 : ¬ ((ys jb) ≤ (ys ja)) := fun h => c_4 ((ci_ge (by omega) (by omega)).mpr h)
      refine lv_aload_n hx hb dX4_distance_60 rfl (lv_at hl 1 rfl) ?_
      refine va_get (D := E.1) (ci := 4) (v := .ref mY) (C := RX4) (T := TX4) (N := 25) hx hb hts iX4 hown C0.1 hP 0 rfl rfl 4 (by decide) (hts (.fieldLink RX4 16 "RingresonanceModel" "y" "[I") (by decide +kernel)) (fun _ h9 => h9) rfl dX4_distance_61 ?_
      refine lv_iload_n hx hb dX4_distance_64 rfl (lv_at hl 3 rfl) ?_
      refine k_iald (e := jb) (g := nI) (n := 16) hx hb C0 hP 2 rfl (by omega) (by omega) dX4_distance_65 ?_
      refine lv_aload_n hx hb dX4_distance_66 rfl (lv_at hl 1 rfl) ?_
      refine va_get (D := E.1) (ci := 4) (v := .ref mY) (C := RX4) (T := TX4) (N := 25) hx hb hts iX4 hown C0.1 hP 0 rfl rfl 4 (by decide) (hts (.fieldLink RX4 16 "RingresonanceModel" "y" "[I") (by decide +kernel)) (fun _ h9 => h9) rfl dX4_distance_67 ?_
      refine lv_iload_n hx hb dX4_distance_70 rfl (lv_at hl 2 rfl) ?_
      refine k_iald (e := ja) (g := nI) (n := 16) hx hb C0 hP 2 rfl (by omega) (by omega) dX4_distance_71 ?_
      refine lv_isub hx hb dX4_distance_72 ?_
      refine lv_ri (y := (nI (adf (ys ja) (ys jb)))) ((pk_sub (by omega)).trans (congrArg nI (by unfold adf; split <;> omega))) ?_
      refine lv_goto (tgt := 89) hx hb dX4_distance_73 (by decide) ?_
      have hl : lv_has ls 5 [(3, .int (nI (adf (xs ja) (xs jb)))), (0, .ref aM), (1, .int (nI ja)), (2, .int (nI jb))] := lv_sub hl [0, 1, 2, 3] rfl
      exact JN_2   _ _ hP hD hS _ hl
  refine lv_aload_n hx hb dX4_distance_0 rfl (lv_at hl 0 rfl) ?_
  refine va_get (D := E.1) (ci := 4) (v := .ref mX) (C := RX4) (T := TX4) (N := 25) hx hb hts iX4 hown C0.1 hP 0 rfl rfl 3 (by decide) (hts (.fieldLink RX4 13 "RingresonanceModel" "x" "[I") (by decide +kernel)) (fun _ h9 => h9) rfl dX4_distance_1 ?_
  refine lv_iload_n hx hb dX4_distance_4 rfl (lv_at hl 1 rfl) ?_
  refine k_iald (e := ja) (g := nI) (n := 16) hx hb C0 hP 1 rfl (by omega) (by omega) dX4_distance_5 ?_
  refine lv_aload_n hx hb dX4_distance_6 rfl (lv_at hl 0 rfl) ?_
  refine va_get (D := E.1) (ci := 4) (v := .ref mX) (C := RX4) (T := TX4) (N := 25) hx hb hts iX4 hown C0.1 hP 0 rfl rfl 3 (by decide) (hts (.fieldLink RX4 13 "RingresonanceModel" "x" "[I") (by decide +kernel)) (fun _ h9 => h9) rfl dX4_distance_7 ?_
  refine lv_iload_n hx hb dX4_distance_10 rfl (lv_at hl 2 rfl) ?_
  refine k_iald (e := jb) (g := nI) (n := 16) hx hb C0 hP 1 rfl (by omega) (by omega) dX4_distance_11 ?_
  refine lv_icmp_ge (tgt := 31) hx hb dX4_distance_12 (by decide) (fun c_5 => ?_) (fun c_5 => ?_)
  · skip
    have c_5 : (xs jb) ≤ (xs ja) := (ci_ge (by omega) (by omega)).mp c_5
    refine lv_aload_n hx hb dX4_distance_31 rfl (lv_at hl 0 rfl) ?_
    refine va_get (D := E.1) (ci := 4) (v := .ref mX) (C := RX4) (T := TX4) (N := 25) hx hb hts iX4 hown C0.1 hP 0 rfl rfl 3 (by decide) (hts (.fieldLink RX4 13 "RingresonanceModel" "x" "[I") (by decide +kernel)) (fun _ h9 => h9) rfl dX4_distance_32 ?_
    refine lv_iload_n hx hb dX4_distance_35 rfl (lv_at hl 1 rfl) ?_
    refine k_iald (e := ja) (g := nI) (n := 16) hx hb C0 hP 1 rfl (by omega) (by omega) dX4_distance_36 ?_
    refine lv_aload_n hx hb dX4_distance_37 rfl (lv_at hl 0 rfl) ?_
    refine va_get (D := E.1) (ci := 4) (v := .ref mX) (C := RX4) (T := TX4) (N := 25) hx hb hts iX4 hown C0.1 hP 0 rfl rfl 3 (by decide) (hts (.fieldLink RX4 13 "RingresonanceModel" "x" "[I") (by decide +kernel)) (fun _ h9 => h9) rfl dX4_distance_38 ?_
    refine lv_iload_n hx hb dX4_distance_41 rfl (lv_at hl 2 rfl) ?_
    refine k_iald (e := jb) (g := nI) (n := 16) hx hb C0 hP 1 rfl (by omega) (by omega) dX4_distance_42 ?_
    refine lv_isub hx hb dX4_distance_43 ?_
    refine lv_ri (y := (nI (adf (xs ja) (xs jb)))) ((pk_sub (by omega)).trans (congrArg nI (by unfold adf; split <;> omega))) ?_
    have hl : lv_has ls 5 [(0, .ref aM), (1, .int (nI ja)), (2, .int (nI jb))] := lv_sub hl [0, 1, 2] rfl
    exact JN_1   _ _ hP hD hS _ hl
  · skip
    have c_5 : ¬ ((xs jb) ≤ (xs ja)) := fun h => c_5 ((ci_ge (by omega) (by omega)).mpr h)
    refine lv_aload_n hx hb dX4_distance_15 rfl (lv_at hl 0 rfl) ?_
    refine va_get (D := E.1) (ci := 4) (v := .ref mX) (C := RX4) (T := TX4) (N := 25) hx hb hts iX4 hown C0.1 hP 0 rfl rfl 3 (by decide) (hts (.fieldLink RX4 13 "RingresonanceModel" "x" "[I") (by decide +kernel)) (fun _ h9 => h9) rfl dX4_distance_16 ?_
    refine lv_iload_n hx hb dX4_distance_19 rfl (lv_at hl 2 rfl) ?_
    refine k_iald (e := jb) (g := nI) (n := 16) hx hb C0 hP 1 rfl (by omega) (by omega) dX4_distance_20 ?_
    refine lv_aload_n hx hb dX4_distance_21 rfl (lv_at hl 0 rfl) ?_
    refine va_get (D := E.1) (ci := 4) (v := .ref mX) (C := RX4) (T := TX4) (N := 25) hx hb hts iX4 hown C0.1 hP 0 rfl rfl 3 (by decide) (hts (.fieldLink RX4 13 "RingresonanceModel" "x" "[I") (by decide +kernel)) (fun _ h9 => h9) rfl dX4_distance_22 ?_
    refine lv_iload_n hx hb dX4_distance_25 rfl (lv_at hl 1 rfl) ?_
    refine k_iald (e := ja) (g := nI) (n := 16) hx hb C0 hP 1 rfl (by omega) (by omega) dX4_distance_26 ?_
    refine lv_isub hx hb dX4_distance_27 ?_
    refine lv_ri (y := (nI (adf (xs ja) (xs jb)))) ((pk_sub (by omega)).trans (congrArg nI (by unfold adf; split <;> omega))) ?_
    refine lv_goto (tgt := 44) hx hb dX4_distance_28 (by decide) ?_
    have hl : lv_has ls 5 [(0, .ref aM), (1, .int (nI ja)), (2, .int (nI jb))] := lv_sub hl [0, 1, 2] rfl
    exact JN_1   _ _ hP hD hS _ hl

def tgV (kd xs ys se : Nat → Nat) (pt q : Nat) : Nat := if ¬ q = pt ∧ kd q = 3 then se q / mx1 (dst xs ys pt q) else 0
theorem tgB_eq (kd xs ys se : Nat → Nat) (pt q acc : Nat) : tgB kd xs ys se pt q acc = acc + tgV kd xs ys se pt q := by
  unfold tgB tgV
  split <;> rfl
theorem mx1_0 {d : Nat} (h : d = 0) : nI 1 = nI (mx1 d) := by subst h; rfl
theorem mx1_n {d : Nat} (h : ¬ d = 0) : nI d = nI (mx1 d) := congrArg nI (by unfold mx1; split <;> omega)

set_option maxHeartbeats 4000000 in
set_option maxRecDepth 100000 in
theorem m_target (l : Launch) (E : EnvT) (sz : Nat) (pt : Nat) (aM mK mX mY mF mS mL mQ mW mA mD mO mV mC mT mE mN mH mZ mP : Nat) (th n lst : Nat) (em gn lk : Int64) (kd xs ys se : Nat → Nat) (hp : pt < 16) (hn : n ≤ 16) (hk : ∀ j, j < n → kd j ≤ 5 ∧ se j < 1000) (hx9 : ∀ j, j < 16 → xs j ≤ 15 ∧ ys j ≤ 15) : MI l yX4_target wsX4_target ({ frames := 1, cells := 0, slots := 0, locals := 24 }) E sz [.ref aM, .int (nI pt)] [(aM, o4 (nI th) (nI n) mK mX mY mF mS mL mQ mW mA mD mO mV mC mT mE mN mH mZ mP em gn lk (nI lst)), (mK, ia E nI 16 kd), (mX, ia E nI 16 xs), (mY, ia E nI 16 ys), (mS, ia E nI 16 se)] (fun (r : Int32) (_ : Unit) => r = nI (tgt n kd xs ys se pt)) (fun _ => [(aM, o4 (nI th) (nI n) mK mX mY mF mS mL mQ mW mA mD mO mV mC mT mE mN mH mZ mP em gn lk (nI lst)), (mK, ia E nI 16 kd), (mX, ia E nI 16 xs), (mY, ia E nI 16 ys), (mS, ia E nI 16 se)]) := by
  refine enI (cc := cX4_target) (maxL := 5) (ret := .int) (by decide +kernel) rfl (Nat.le_of_ble_eq_true rfl) ?_
  intro p e s m below meth c A ls hx hb hr hml hts hown hlocks hAe C0 hP hD hS hl
  have hown : s.vm.findClass RX4 = some m.cls := hown
  have hl : lv_has ls 5 [(0, .ref aM), (1, .int (nI pt))] := hl
  have iX4 : ∀ w ∈ u_ws RX4 TX4 25, w ∈ wsX4_target := by decide +kernel
  obtain ⟨H, hHe⟩ : ∃ z, z = s.heap := ⟨_, rfl⟩
  obtain ⟨locs, hLe⟩ : ∃ z : List Loc, z = [] := ⟨_, rfl⟩
  have hP : va_P E.1 vwCl [(aM, o4 (nI th) (nI n) mK mX mY mF mS mL mQ mW mA mD mO mV mC mT mE mN mH mZ mP em gn lk (nI lst)), (mK, ia E nI 16 kd), (mX, ia E nI 16 xs), (mY, ia E nI 16 ys), (mS, ia E nI 16 se)] H := by rw [hHe]; exact hP
  have hD : va_D A [(aM, o4 (nI th) (nI n) mK mX mY mF mS mL mQ mW mA mD mO mV mC mT mE mN mH mZ mP em gn lk (nI lst)), (mK, ia E nI 16 kd), (mX, ia E nI 16 xs), (mY, ia E nI 16 ys), (mS, ia E nI 16 se)] := hD
  have hS : va_S A s.heap H locs := by rw [hHe, hLe]; exact hS
  suffices hgo : W p l e _ s m _ below meth c H locs 0 0 _ (F0 m 0 ls []) by rw [hHe, hLe] at hgo; exact hgo
  clear hHe hLe
  refine lv_iconst (v := nI 4) hx hb dX4_target_0 (by decide) ?_
  refine lv_aload_n hx hb dX4_target_1 rfl (lv_at hl 0 rfl) ?_
  refine va_get (D := E.1) (ci := 4) (v := .ref mS) (C := RX4) (T := TX4) (N := 25) hx hb hts iX4 hown C0.1 hP 0 rfl rfl 6 (by decide) (hts (.fieldLink RX4 22 "RingresonanceModel" "second" "[I") (by decide +kernel)) (fun _ h9 => h9) rfl dX4_target_2 ?_
  refine lv_iload_n hx hb dX4_target_5 rfl (lv_at hl 1 rfl) ?_
  refine k_iald (e := pt) (g := nI) (n := 16) hx hb C0 hP 4 rfl (by omega) (by omega) dX4_target_6 ?_
  refine lv_imul hx hb dX4_target_7 ?_
  refine lv_ri (y := (nI (4 * (se pt)))) (pk_mul 4 (se pt)) ?_
  refine lv_istore_n (lv' := [(2, .int (nI (4 * (se pt)))), (0, .ref aM), (1, .int (nI pt))]) hx hb dX4_target_8 rfl hl (by decide) rfl (fun ls hl => ?_)
  refine lv_iconst (v := nI 0) hx hb dX4_target_9 (by decide) ?_
  refine lv_istore_n (lv' := [(3, .int (nI 0)), (2, .int (nI (4 * (se pt)))), (0, .ref aM), (1, .int (nI pt))]) hx hb dX4_target_10 rfl hl (by decide) rfl (fun ls hl => ?_)
  have LP_1 : ∀ (nz i_3 : Nat), i_3 ≤ n → n < i_3 + nz → ∀ (H : Heap) (locs : List Loc), va_P E.1 vwCl [(aM, o4 (nI th) (nI n) mK mX mY mF mS mL mQ mW mA mD mO mV mC mT mE mN mH mZ mP em gn lk (nI lst)), (mK, ia E nI 16 kd), (mX, ia E nI 16 xs), (mY, ia E nI 16 ys), (mS, ia E nI 16 se)] H → va_D A [(aM, o4 (nI th) (nI n) mK mX mY mF mS mL mQ mW mA mD mO mV mC mT mE mN mH mZ mP em gn lk (nI lst)), (mK, ia E nI 16 kd), (mX, ia E nI 16 xs), (mY, ia E nI 16 ys), (mS, ia E nI 16 se)] → va_S A s.heap H locs → ∀ (ls : Array Slot), lv_has ls 5 [(0, .ref aM), (1, .int (nI pt)), (2, .int (nI (rp (tgB kd xs ys se pt) (i_3) (4 * se pt)))), (3, .int (nI i_3))] → W p l e ({ frames := 1, cells := 0, slots := 0, locals := 24 }) s m (([.ref aM, .int (nI pt)] : List Value).toArray) below meth c H locs 0 0 (MQ below (va_Qi (fun (r : Int32) (_ : Unit) => r = nI (tgt n kd xs ys se pt)) (Wd E [(aM, o4 (nI th) (nI n) mK mX mY mF mS mL mQ mW mA mD mO mV mC mT mE mN mH mZ mP em gn lk (nI lst)), (mK, ia E nI 16 kd), (mX, ia E nI 16 xs), (mY, ia E nI 16 ys), (mS, ia E nI 16 se)] s.heap.size (fun _ => [(aM, o4 (nI th) (nI n) mK mX mY mF mS mL mQ mW mA mD mO mV mC mT mE mN mH mZ mP em gn lk (nI lst)), (mK, ia E nI 16 kd), (mX, ia E nI 16 xs), (mY, ia E nI 16 ys), (mS, ia E nI 16 se)])) A) (([.ref aM, .int (nI pt)] : List Value).toArray) s 0 0 A) (F0 m 11 ls []) := by
    intro nz
    induction nz with
    | zero =>
      intro i_3 h1 h2
      exact absurd h2 (by omega)
    | succ nz ih_2 =>
      intro i_3 hi_i_3 hn_i_3 H locs hP hD hS ls hl
      refine lv_iload_n hx hb dX4_target_11 rfl (lv_at hl 3 rfl) ?_
      refine lv_aload_n hx hb dX4_target_12 rfl (lv_at hl 0 rfl) ?_
      refine va_get (D := E.1) (ci := 4) (v := .int (nI n)) (C := RX4) (T := TX4) (N := 25) hx hb hts iX4 hown C0.1 hP 0 rfl rfl 1 (by decide) (hts (.fieldLink RX4 75 "RingresonanceModel" "parts" "I") (by decide +kernel)) (fun _ h9 => h9) rfl dX4_target_13 ?_
      refine lv_icmp_ge (tgt := 73) hx hb dX4_target_16 (by decide) (fun c_4 => ?_) (fun c_4 => ?_)
      · skip
        have c_4 : n ≤ i_3 := (ci_ge (by omega) (by omega)).mp c_4
        obtain rfl : n = i_3 := by omega
        refine lv_iload_n hx hb dX4_target_73 rfl (lv_at hl 2 rfl) ?_
        have q_5 : (nI (rp (tgB kd xs ys se pt) (n) (4 * se pt))) = (nI (tgt n kd xs ys se pt)) := by symm; first | rfl | (simp only [c_4, if_true, if_false, not_true_eq_false, not_false_eq_true, ite_true, ite_false]; done) | (simp only [c_4, if_true, if_false]; rfl) | (simp [c_4]; done)
        exact exI hx hb hr hlocks hAe hS () q_5 hP hD dX4_target_74
      · skip
        have c_4 : ¬ (n ≤ i_3) := fun h => c_4 ((ci_ge (by omega) (by omega)).mpr h)
        have hkj := hk i_3 (by omega)
        have hdl := dst_le (xs := xs) (ys := ys) (a := pt) (b := i_3) (by omega) (by omega) hx9
        have hml1 := mx1_le hdl (by omega)
        have hmp := mx1_pos (dst xs ys pt i_3)
        refine lv_aload_n hx hb dX4_target_19 rfl (lv_at hl 0 rfl) ?_
        refine lv_iload_n hx hb dX4_target_20 rfl (lv_at hl 1 rfl) ?_
        refine lv_iload_n hx hb dX4_target_21 rfl (lv_at hl 3 rfl) ?_
        have hPc := hP.pick (ws' := [(aM, o4 (nI th) (nI n) mK mX mY mF mS mL mQ mW mA mD mO mV mC mT mE mN mH mZ mP em gn lk (nI lst)), (mX, ia E nI 16 xs), (mY, ia E nI 16 ys)]) [0, 2, 3] rfl
        have hDc := hD.sub (ws' := [(aM, o4 (nI th) (nI n) mK mX mY mF mS mL mQ mW mA mD mO mV mC mT mE mN mH mZ mP em gn lk (nI lst)), (mX, ia E nI 16 xs), (mY, ia E nI 16 ys)]) [0, 2, 3] (by decide) rfl
        refine kcI (wr := [(mK, ia E nI 16 kd), (mS, ia E nI 16 se)]) (w1 := fun _ : Unit => [(aM, o4 (nI th) (nI n) mK mX mY mF mS mL mQ mW mA mD mO mV mC mT mE mN mH mZ mP em gn lk (nI lst)), (mX, ia E nI 16 xs), (mY, ia E nI 16 ys)]) (w2 := fun _ => [(aM, o4 (nI th) (nI n) mK mX mY mF mS mL mQ mW mA mD mO mV mC mT mE mN mH mZ mP em gn lk (nI lst)), (mK, ia E nI 16 kd), (mX, ia E nI 16 xs), (mY, ia E nI 16 ys), (mS, ia E nI 16 se)]) (va_runV (As := [.int (nI pt), .int (nI i_3)]) (rest := []) ⟨hx, hb, hml, hown, hts⟩ (m_distance l E H.size pt i_3 aM mK mX mY mF mS mL mQ mW mA mD mO mV mC mT mE mN mH mZ mP th n lst em gn lk xs ys (by omega) (by omega) (hx9)) (cwV 2 hts gX4_target_X4_distance rfl rfl rfl (by decide +kernel) ⟨Nat.le_of_ble_eq_true rfl, Nat.le_of_ble_eq_true rfl⟩) (preV C0 hPc hDc hS 0 rfl rfl) rfl rfl hl.1 rfl (lv_room (Nat.le_of_ble_eq_true rfl)) dX4_target_22 ⟨Nat.le_refl _, Nat.le_refl _⟩) C0 hP hD hS [0, 2, 3] [1, 4] [2, 0, 3, 4, 1] rfl rfl (by decide) (by decide) (fun _ => rfl) (by decide) (fun r_9 _u H locs hw hP hD hS => ?_)
        have hP : va_P E.1 vwCl [(aM, o4 (nI th) (nI n) mK mX mY mF mS mL mQ mW mA mD mO mV mC mT mE mN mH mZ mP em gn lk (nI lst)), (mK, ia E nI 16 kd), (mX, ia E nI 16 xs), (mY, ia E nI 16 ys), (mS, ia E nI 16 se)] H := hP
        have hD : va_D A [(aM, o4 (nI th) (nI n) mK mX mY mF mS mL mQ mW mA mD mO mV mC mT mE mN mH mZ mP em gn lk (nI lst)), (mK, ia E nI 16 kd), (mX, ia E nI 16 xs), (mY, ia E nI 16 ys), (mS, ia E nI 16 se)] := hD
        have hw : r_9 = nI (dst xs ys pt i_3) := hw
        subst hw
        refine lv_istore (lv' := [(4, .int (nI (dst xs ys pt i_3))), (0, .ref aM), (1, .int (nI pt)), (2, .int (nI (rp (tgB kd xs ys se pt) (i_3) (4 * se pt)))), (3, .int (nI i_3))]) hx hb dX4_target_25 hl (by decide) rfl (fun ls hl => ?_)
        have JN_6 : ∀ (H : Heap) (locs : List Loc), va_P E.1 vwCl [(aM, o4 (nI th) (nI n) mK mX mY mF mS mL mQ mW mA mD mO mV mC mT mE mN mH mZ mP em gn lk (nI lst)), (mK, ia E nI 16 kd), (mX, ia E nI 16 xs), (mY, ia E nI 16 ys), (mS, ia E nI 16 se)] H → va_D A [(aM, o4 (nI th) (nI n) mK mX mY mF mS mL mQ mW mA mD mO mV mC mT mE mN mH mZ mP em gn lk (nI lst)), (mK, ia E nI 16 kd), (mX, ia E nI 16 xs), (mY, ia E nI 16 ys), (mS, ia E nI 16 se)] → va_S A s.heap H locs → ∀ (ls : Array Slot), lv_has ls 5 [(4, .int (nI (dst xs ys pt i_3))), (0, .ref aM), (1, .int (nI pt)), (2, .int (nI (rp (tgB kd xs ys se pt) (i_3) (4 * se pt)))), (3, .int (nI i_3))] → W p l e ({ frames := 1, cells := 0, slots := 0, locals := 24 }) s m (([.ref aM, .int (nI pt)] : List Value).toArray) below meth c H locs 0 0 (MQ below (va_Qi (fun (r : Int32) (_ : Unit) => r = nI (tgt n kd xs ys se pt)) (Wd E [(aM, o4 (nI th) (nI n) mK mX mY mF mS mL mQ mW mA mD mO mV mC mT mE mN mH mZ mP em gn lk (nI lst)), (mK, ia E nI 16 kd), (mX, ia E nI 16 xs), (mY, ia E nI 16 ys), (mS, ia E nI 16 se)] s.heap.size (fun _ => [(aM, o4 (nI th) (nI n) mK mX mY mF mS mL mQ mW mA mD mO mV mC mT mE mN mH mZ mP em gn lk (nI lst)), (mK, ia E nI 16 kd), (mX, ia E nI 16 xs), (mY, ia E nI 16 ys), (mS, ia E nI 16 se)])) A) (([.ref aM, .int (nI pt)] : List Value).toArray) s 0 0 A) (F0 m 65 ls [.int (nI (tgV kd xs ys se pt i_3)), .int (nI (rp (tgB kd xs ys se pt) (i_3) (4 * se pt)))]) := by
          intro   H locs hP hD hS ls hl
          refine lv_iadd hx hb dX4_target_65 ?_
          refine lv_ri (y := (nI ((rp (tgB kd xs ys se pt) (i_3) (4 * se pt)) + (tgV kd xs ys se pt i_3)))) (nI_add (rp (tgB kd xs ys se pt) (i_3) (4 * se pt)) (tgV kd xs ys se pt i_3)) ?_
          refine lv_istore_n (lv' := [(2, .int (nI ((rp (tgB kd xs ys se pt) (i_3) (4 * se pt)) + (tgV kd xs ys se pt i_3)))), (4, .int (nI (dst xs ys pt i_3))), (0, .ref aM), (1, .int (nI pt)), (3, .int (nI i_3))]) hx hb dX4_target_66 rfl hl (by decide) rfl (fun ls hl => ?_)
          refine lv_iinc (v := nI (i_3 + 1)) (lv' := [(3, .int (nI (i_3 + 1))), (2, .int (nI ((rp (tgB kd xs ys se pt) (i_3) (4 * se pt)) + (tgV kd xs ys se pt i_3)))), (4, .int (nI (dst xs ys pt i_3))), (0, .ref aM), (1, .int (nI pt))]) hx hb dX4_target_67 hl (k := 4) rfl (nI_add i_3 1) (by decide) rfl (fun ls hl => ?_)
          refine lv_goto (tgt := 11) hx hb dX4_target_70 (by decide) ?_
          have hP : va_P E.1 vwCl [(aM, o4 (nI th) (nI n) mK mX mY mF mS mL mQ mW mA mD mO mV mC mT mE mN mH mZ mP em gn lk (nI lst)), (mK, ia E nI 16 kd), (mX, ia E nI 16 xs), (mY, ia E nI 16 ys), (mS, ia E nI 16 se)] H := hP
          have hD : va_D A [(aM, o4 (nI th) (nI n) mK mX mY mF mS mL mQ mW mA mD mO mV mC mT mE mN mH mZ mP em gn lk (nI lst)), (mK, ia E nI 16 kd), (mX, ia E nI 16 xs), (mY, ia E nI 16 ys), (mS, ia E nI 16 se)] := hD
          have q_7 : nI ((rp (tgB kd xs ys se pt) (i_3) (4 * se pt)) + (tgV kd xs ys se pt i_3)) = nI (rp (tgB kd xs ys se pt) (i_3 + 1) (4 * se pt)) := by first | rfl | (congr 1; omega) | (simp only [rp_s, tgB_eq, c_4, if_true]; done) | (simp [rp_s, tgB_eq, c_4]; done)
          rw [q_7] at hl
          have hl : lv_has ls 5 [(0, .ref aM), (1, .int (nI pt)), (2, .int (nI (rp (tgB kd xs ys se pt) (i_3 + 1) (4 * se pt)))), (3, .int (nI (i_3 + 1)))] := lv_sub hl [3, 4, 1, 0] rfl
          exact ih_2 (i_3 + 1) (by omega) (by omega) _ _ hP hD hS _ hl
        refine lv_iload_n hx hb dX4_target_27 rfl (lv_at hl 3 rfl) ?_
        refine lv_iload_n hx hb dX4_target_28 rfl (lv_at hl 4 rfl) ?_
        refine lv_iload_n hx hb dX4_target_29 rfl (lv_at hl 2 rfl) ?_
        refine lv_icmp_eq (tgt := 64) hx hb dX4_target_30 (by decide) (fun c_8 => ?_) (fun c_8 => ?_)
        · skip
          have c_8 : i_3 = pt := (ci_eq (by omega) (by omega)).mp c_8
          refine lv_iconst (v := nI 0) hx hb dX4_target_64 (by decide) ?_
          refine lv_ri (y := (nI (tgV kd xs ys se pt i_3))) (congrArg nI (by unfold tgV; rw [if_neg (fun h => by first | exact h.1 c_8 | exact c_8 h.2)])) ?_
          have hl : lv_has ls 5 [(4, .int (nI (dst xs ys pt i_3))), (0, .ref aM), (1, .int (nI pt)), (2, .int (nI (rp (tgB kd xs ys se pt) (i_3) (4 * se pt)))), (3, .int (nI i_3))] := lv_sub hl [0, 1, 2, 3, 4] rfl
          exact JN_6   _ _ hP hD hS _ hl
        · skip
          have c_8 : ¬ (i_3 = pt) := fun h => c_8 ((ci_eq (by omega) (by omega)).mpr h)
          refine lv_aload_n hx hb dX4_target_33 rfl (lv_at hl 1 rfl) ?_
          refine va_get (D := E.1) (ci := 4) (v := .ref mK) (C := RX4) (T := TX4) (N := 25) hx hb hts iX4 hown C0.1 hP 0 rfl rfl 2 (by decide) (hts (.fieldLink RX4 7 "RingresonanceModel" "kind" "[I") (by decide +kernel)) (fun _ h9 => h9) rfl dX4_target_34 ?_
          refine lv_iload_n hx hb dX4_target_37 rfl (lv_at hl 4 rfl) ?_
          refine k_iald (e := i_3) (g := nI) (n := 16) hx hb C0 hP 1 rfl (by omega) (by omega) dX4_target_38 ?_
          refine lv_iconst (v := nI 3) hx hb dX4_target_39 (by decide) ?_
          refine lv_icmp_ne (tgt := 64) hx hb dX4_target_40 (by decide) (fun c_9 => ?_) (fun c_9 => ?_)
          · skip
            have c_9 : ¬ ((kd i_3) = 3) := fun h => c_9 ((ci_eq (by omega) (by omega)).mpr h)
            refine lv_iconst (v := nI 0) hx hb dX4_target_64 (by decide) ?_
            refine lv_ri (y := (nI (tgV kd xs ys se pt i_3))) (congrArg nI (by unfold tgV; rw [if_neg (fun h => by first | exact h.1 c_9 | exact c_9 h.2)])) ?_
            have hl : lv_has ls 5 [(4, .int (nI (dst xs ys pt i_3))), (0, .ref aM), (1, .int (nI pt)), (2, .int (nI (rp (tgB kd xs ys se pt) (i_3) (4 * se pt)))), (3, .int (nI i_3))] := lv_sub hl [0, 1, 2, 3, 4] rfl
            exact JN_6   _ _ hP hD hS _ hl
          · skip
            have c_9 : (kd i_3) = 3 := (ci_eq (by omega) (by omega)).mp c_9
            have hqq := And.intro c_8 c_9
            have JN_10 : ∀ (H : Heap) (locs : List Loc), va_P E.1 vwCl [(aM, o4 (nI th) (nI n) mK mX mY mF mS mL mQ mW mA mD mO mV mC mT mE mN mH mZ mP em gn lk (nI lst)), (mK, ia E nI 16 kd), (mX, ia E nI 16 xs), (mY, ia E nI 16 ys), (mS, ia E nI 16 se)] H → va_D A [(aM, o4 (nI th) (nI n) mK mX mY mF mS mL mQ mW mA mD mO mV mC mT mE mN mH mZ mP em gn lk (nI lst)), (mK, ia E nI 16 kd), (mX, ia E nI 16 xs), (mY, ia E nI 16 ys), (mS, ia E nI 16 se)] → va_S A s.heap H locs → ∀ (ls : Array Slot), lv_has ls 5 [(4, .int (nI (dst xs ys pt i_3))), (0, .ref aM), (1, .int (nI pt)), (2, .int (nI (rp (tgB kd xs ys se pt) (i_3) (4 * se pt)))), (3, .int (nI i_3))] → W p l e ({ frames := 1, cells := 0, slots := 0, locals := 24 }) s m (([.ref aM, .int (nI pt)] : List Value).toArray) below meth c H locs 0 0 (MQ below (va_Qi (fun (r : Int32) (_ : Unit) => r = nI (tgt n kd xs ys se pt)) (Wd E [(aM, o4 (nI th) (nI n) mK mX mY mF mS mL mQ mW mA mD mO mV mC mT mE mN mH mZ mP em gn lk (nI lst)), (mK, ia E nI 16 kd), (mX, ia E nI 16 xs), (mY, ia E nI 16 ys), (mS, ia E nI 16 se)] s.heap.size (fun _ => [(aM, o4 (nI th) (nI n) mK mX mY mF mS mL mQ mW mA mD mO mV mC mT mE mN mH mZ mP em gn lk (nI lst)), (mK, ia E nI 16 kd), (mX, ia E nI 16 xs), (mY, ia E nI 16 ys), (mS, ia E nI 16 se)])) A) (([.ref aM, .int (nI pt)] : List Value).toArray) s 0 0 A) (F0 m 60 ls [.int (nI (mx1 (dst xs ys pt i_3))), .int (nI (se i_3)), .int (nI (rp (tgB kd xs ys se pt) (i_3) (4 * se pt)))]) := by
              intro   H locs hP hD hS ls hl
              refine lv_idiv hx hb dX4_target_60 (nI_ne0 (by omega) (by omega)) ?_
              refine lv_ri (y := (nI (tgV kd xs ys se pt i_3))) ((pk_div (by omega) (by omega) (by omega)).trans (congrArg nI (by unfold tgV; rw [if_pos hqq]))) ?_
              refine lv_goto (tgt := 65) hx hb dX4_target_61 (by decide) ?_
              have hl : lv_has ls 5 [(4, .int (nI (dst xs ys pt i_3))), (0, .ref aM), (1, .int (nI pt)), (2, .int (nI (rp (tgB kd xs ys se pt) (i_3) (4 * se pt)))), (3, .int (nI i_3))] := lv_sub hl [0, 1, 2, 3, 4] rfl
              exact JN_6   _ _ hP hD hS _ hl
            refine lv_aload_n hx hb dX4_target_43 rfl (lv_at hl 1 rfl) ?_
            refine va_get (D := E.1) (ci := 4) (v := .ref mS) (C := RX4) (T := TX4) (N := 25) hx hb hts iX4 hown C0.1 hP 0 rfl rfl 6 (by decide) (hts (.fieldLink RX4 22 "RingresonanceModel" "second" "[I") (by decide +kernel)) (fun _ h9 => h9) rfl dX4_target_44 ?_
            refine lv_iload_n hx hb dX4_target_47 rfl (lv_at hl 4 rfl) ?_
            refine k_iald (e := i_3) (g := nI) (n := 16) hx hb C0 hP 4 rfl (by omega) (by omega) dX4_target_48 ?_
            refine lv_iload hx hb dX4_target_49 (lv_at hl 0 rfl) ?_
            refine lv_if_ne (tgt := 58) hx hb dX4_target_51 (by decide) (fun c_11 => ?_) (fun c_11 => ?_)
            · skip
              have c_11 : ¬ ((dst xs ys pt i_3) = 0) := fun h => c_11 ((ci0_eq (by omega)).mpr h)
              refine lv_iload hx hb dX4_target_58 (lv_at hl 0 rfl) ?_
              refine lv_ri (y := (nI (mx1 (dst xs ys pt i_3)))) (mx1_n c_11) ?_
              have hl : lv_has ls 5 [(4, .int (nI (dst xs ys pt i_3))), (0, .ref aM), (1, .int (nI pt)), (2, .int (nI (rp (tgB kd xs ys se pt) (i_3) (4 * se pt)))), (3, .int (nI i_3))] := lv_sub hl [0, 1, 2, 3, 4] rfl
              exact JN_10   _ _ hP hD hS _ hl
            · skip
              have c_11 : (dst xs ys pt i_3) = 0 := (ci0_eq (by omega)).mp c_11
              refine lv_iconst (v := nI 1) hx hb dX4_target_54 (by decide) ?_
              refine lv_ri (y := (nI (mx1 (dst xs ys pt i_3)))) (mx1_0 c_11) ?_
              refine lv_goto (tgt := 60) hx hb dX4_target_55 (by decide) ?_
              have hl : lv_has ls 5 [(4, .int (nI (dst xs ys pt i_3))), (0, .ref aM), (1, .int (nI pt)), (2, .int (nI (rp (tgB kd xs ys se pt) (i_3) (4 * se pt)))), (3, .int (nI i_3))] := lv_sub hl [0, 1, 2, 3, 4] rfl
              exact JN_10   _ _ hP hD hS _ hl
  have hP : va_P E.1 vwCl [(aM, o4 (nI th) (nI n) mK mX mY mF mS mL mQ mW mA mD mO mV mC mT mE mN mH mZ mP em gn lk (nI lst)), (mK, ia E nI 16 kd), (mX, ia E nI 16 xs), (mY, ia E nI 16 ys), (mS, ia E nI 16 se)] H := hP
  have hD : va_D A [(aM, o4 (nI th) (nI n) mK mX mY mF mS mL mQ mW mA mD mO mV mC mT mE mN mH mZ mP em gn lk (nI lst)), (mK, ia E nI 16 kd), (mX, ia E nI 16 xs), (mY, ia E nI 16 ys), (mS, ia E nI 16 se)] := hD
  have q_12 : nI (4 * (se pt)) = nI (rp (tgB kd xs ys se pt) (0) (4 * se pt)) := by first | rfl | (congr 1; omega) | (simp only [rp_s, tgB_eq, if_true]; done) | (simp [rp_s, tgB_eq]; done)
  rw [q_12] at hl
  have hl : lv_has ls 5 [(0, .ref aM), (1, .int (nI pt)), (2, .int (nI (rp (tgB kd xs ys se pt) (0) (4 * se pt)))), (3, .int (nI 0))] := lv_sub hl [2, 3, 1, 0] rfl
  exact LP_1 (n + 1) 0 (by omega) (by omega) _ _ hP hD hS _ hl

theorem stR_a {x : Int32} (h : x = 0) : x / nI 4 = stR x := by subst h; decide
theorem stR_b {x : Int32} (h : ¬ x / nI 4 = 0) : x / nI 4 = stR x := by unfold stR; rw [if_pos h]
theorem stR_c {x : Int32} (h1 : ¬ x = 0) (h2 : x / nI 4 = 0) (h3 : x ≤ 0) : -1 = stR x := by unfold stR; rw [if_neg (by rw [h2]; decide), if_neg h1, if_pos h3]
theorem stR_d {x : Int32} (h1 : ¬ x = 0) (h2 : x / nI 4 = 0) (h3 : ¬ x ≤ 0) : nI 1 = stR x := by unfold stR; rw [if_neg (by rw [h2]; decide), if_neg h1, if_neg h3]

set_option maxHeartbeats 4000000 in
set_option maxRecDepth 100000 in
theorem m_warms (l : Launch) (E : EnvT) (sz : Nat) (pt : Nat) (aM mK mX mY mF mS mL mQ mW mA mD mO mV mC mT mE mN mH mZ mP : Nat) (th n lst : Nat) (em gn lk : Int64) (kd xs ys se wm : Nat → Nat) (hp : pt < n) (hn : n ≤ 16) (hk : ∀ j, j < n → kd j ≤ 5 ∧ se j < 1000) (hx9 : ∀ j, j < 16 → xs j ≤ 15 ∧ ys j ≤ 15) (hw : wm pt ≤ 20000) : MV l yX4_warms wsX4_warms ({ frames := 2, cells := 0, slots := 0, locals := 48 }) E sz [.ref aM, .int (nI pt)] [(aM, o4 (nI th) (nI n) mK mX mY mF mS mL mQ mW mA mD mO mV mC mT mE mN mH mZ mP em gn lk (nI lst)), (mK, ia E nI 16 kd), (mX, ia E nI 16 xs), (mY, ia E nI 16 ys), (mS, ia E nI 16 se), (mH, ia E nI 32 wm)] (fun _ : Unit => True) (fun _ => [(aM, o4 (nI th) (nI n) mK mX mY mF mS mL mQ mW mA mD mO mV mC mT mE mN mH mZ mP em gn lk (nI lst)), (mK, ia E nI 16 kd), (mX, ia E nI 16 xs), (mY, ia E nI 16 ys), (mS, ia E nI 16 se), (mH, ia E nI 32 (va_up wm pt (wst (tgt n kd xs ys se pt) (wm pt))))]) := by
  refine enV (cc := cX4_warms) (maxL := 4) (by decide +kernel) rfl (Nat.le_of_ble_eq_true rfl) ?_
  intro p e s m below meth c A ls hx hb hr hml hts hown hlocks hAe C0 hP hD hS hl
  have hown : s.vm.findClass RX4 = some m.cls := hown
  have hl : lv_has ls 4 [(0, .ref aM), (1, .int (nI pt))] := hl
  have iX4 : ∀ w ∈ u_ws RX4 TX4 25, w ∈ wsX4_warms := by decide +kernel
  obtain ⟨H, hHe⟩ : ∃ z, z = s.heap := ⟨_, rfl⟩
  obtain ⟨locs, hLe⟩ : ∃ z : List Loc, z = [] := ⟨_, rfl⟩
  have hP : va_P E.1 vwCl [(aM, o4 (nI th) (nI n) mK mX mY mF mS mL mQ mW mA mD mO mV mC mT mE mN mH mZ mP em gn lk (nI lst)), (mK, ia E nI 16 kd), (mX, ia E nI 16 xs), (mY, ia E nI 16 ys), (mS, ia E nI 16 se), (mH, ia E nI 32 wm)] H := by rw [hHe]; exact hP
  have hD : va_D A [(aM, o4 (nI th) (nI n) mK mX mY mF mS mL mQ mW mA mD mO mV mC mT mE mN mH mZ mP em gn lk (nI lst)), (mK, ia E nI 16 kd), (mX, ia E nI 16 xs), (mY, ia E nI 16 ys), (mS, ia E nI 16 se), (mH, ia E nI 32 wm)] := hD
  have hS : va_S A s.heap H locs := by rw [hHe, hLe]; exact hS
  suffices hgo : W p l e _ s m _ below meth c H locs 0 0 _ (F0 m 0 ls []) by rw [hHe, hLe] at hgo; exact hgo
  clear hHe hLe
  have htj := tgt_le (xs := xs) (ys := ys) (pt := pt) hn hp hk
  refine lv_aload_n hx hb dX4_warms_0 rfl (lv_at hl 0 rfl) ?_
  refine lv_iload_n hx hb dX4_warms_1 rfl (lv_at hl 1 rfl) ?_
  have hPc := hP.pick (ws' := [(aM, o4 (nI th) (nI n) mK mX mY mF mS mL mQ mW mA mD mO mV mC mT mE mN mH mZ mP em gn lk (nI lst)), (mK, ia E nI 16 kd), (mX, ia E nI 16 xs), (mY, ia E nI 16 ys), (mS, ia E nI 16 se)]) [0, 1, 2, 3, 4] rfl
  have hDc := hD.sub (ws' := [(aM, o4 (nI th) (nI n) mK mX mY mF mS mL mQ mW mA mD mO mV mC mT mE mN mH mZ mP em gn lk (nI lst)), (mK, ia E nI 16 kd), (mX, ia E nI 16 xs), (mY, ia E nI 16 ys), (mS, ia E nI 16 se)]) [0, 1, 2, 3, 4] (by decide) rfl
  refine kcI (wr := [(mH, ia E nI 32 wm)]) (w1 := fun _ : Unit => [(aM, o4 (nI th) (nI n) mK mX mY mF mS mL mQ mW mA mD mO mV mC mT mE mN mH mZ mP em gn lk (nI lst)), (mK, ia E nI 16 kd), (mX, ia E nI 16 xs), (mY, ia E nI 16 ys), (mS, ia E nI 16 se)]) (w2 := fun _ => [(aM, o4 (nI th) (nI n) mK mX mY mF mS mL mQ mW mA mD mO mV mC mT mE mN mH mZ mP em gn lk (nI lst)), (mK, ia E nI 16 kd), (mX, ia E nI 16 xs), (mY, ia E nI 16 ys), (mS, ia E nI 16 se), (mH, ia E nI 32 wm)]) (va_runV (As := [.int (nI pt)]) (rest := []) ⟨hx, hb, hml, hown, hts⟩ (m_target l E H.size pt aM mK mX mY mF mS mL mQ mW mA mD mO mV mC mT mE mN mH mZ mP th n lst em gn lk kd xs ys se (by omega) (hn) (hk) (hx9)) (cwV 1 hts gX4_warms_X4_target rfl rfl rfl (by decide +kernel) ⟨Nat.le_of_ble_eq_true rfl, Nat.le_of_ble_eq_true rfl⟩) (preV C0 hPc hDc hS 0 rfl rfl) rfl rfl hl.1 rfl (lv_room (Nat.le_of_ble_eq_true rfl)) dX4_warms_2 ⟨Nat.le_refl _, Nat.le_refl _⟩) C0 hP hD hS [0, 1, 2, 3, 4] [5] [1, 2, 3, 4, 5, 0] rfl rfl (by decide) (by decide) (fun _ => rfl) (by decide) (fun r_9 _u H locs hw hP hD hS => ?_)
  have hP : va_P E.1 vwCl [(aM, o4 (nI th) (nI n) mK mX mY mF mS mL mQ mW mA mD mO mV mC mT mE mN mH mZ mP em gn lk (nI lst)), (mK, ia E nI 16 kd), (mX, ia E nI 16 xs), (mY, ia E nI 16 ys), (mS, ia E nI 16 se), (mH, ia E nI 32 wm)] H := hP
  have hD : va_D A [(aM, o4 (nI th) (nI n) mK mX mY mF mS mL mQ mW mA mD mO mV mC mT mE mN mH mZ mP em gn lk (nI lst)), (mK, ia E nI 16 kd), (mX, ia E nI 16 xs), (mY, ia E nI 16 ys), (mS, ia E nI 16 se), (mH, ia E nI 32 wm)] := hD
  have hw : r_9 = nI (tgt n kd xs ys se pt) := hw
  subst hw
  refine lv_aload_n hx hb dX4_warms_5 rfl (lv_at hl 0 rfl) ?_
  refine va_get (D := E.1) (ci := 4) (v := .ref mH) (C := RX4) (T := TX4) (N := 25) hx hb hts iX4 hown C0.1 hP 0 rfl rfl 18 (by decide) (hts (.fieldLink RX4 59 "RingresonanceModel" "warmth" "[I") (by decide +kernel)) (fun _ h9 => h9) rfl dX4_warms_6 ?_
  refine lv_iload_n hx hb dX4_warms_9 rfl (lv_at hl 1 rfl) ?_
  refine k_iald (e := pt) (g := nI) (n := 32) hx hb C0 hP 5 rfl (by omega) (by omega) dX4_warms_10 ?_
  refine lv_isub hx hb dX4_warms_11 ?_
  refine lv_istore_n (lv' := [(2, .int ((nI (tgt n kd xs ys se pt)) - (nI (wm pt)))), (0, .ref aM), (1, .int (nI pt))]) hx hb dX4_warms_12 rfl hl (by decide) rfl (fun ls hl => ?_)
  refine lv_iload_n hx hb dX4_warms_13 rfl (lv_at hl 0 rfl) ?_
  refine lv_iconst (v := nI 4) hx hb dX4_warms_14 (by decide) ?_
  refine lv_idiv hx hb dX4_warms_15 (by decide) ?_
  refine lv_istore_n (lv' := [(3, .int (((nI (tgt n kd xs ys se pt)) - (nI (wm pt))) / (nI 4))), (2, .int ((nI (tgt n kd xs ys se pt)) - (nI (wm pt)))), (0, .ref aM), (1, .int (nI pt))]) hx hb dX4_warms_16 rfl hl (by decide) rfl (fun ls hl => ?_)
  have JN_1 : ∀ (H : Heap) (locs : List Loc), va_P E.1 vwCl [(aM, o4 (nI th) (nI n) mK mX mY mF mS mL mQ mW mA mD mO mV mC mT mE mN mH mZ mP em gn lk (nI lst)), (mK, ia E nI 16 kd), (mX, ia E nI 16 xs), (mY, ia E nI 16 ys), (mS, ia E nI 16 se), (mH, ia E nI 32 wm)] H → va_D A [(aM, o4 (nI th) (nI n) mK mX mY mF mS mL mQ mW mA mD mO mV mC mT mE mN mH mZ mP em gn lk (nI lst)), (mK, ia E nI 16 kd), (mX, ia E nI 16 xs), (mY, ia E nI 16 ys), (mS, ia E nI 16 se), (mH, ia E nI 32 wm)] → va_S A s.heap H locs → ∀ (ls : Array Slot), lv_has ls 4 [(3, .int (((nI (tgt n kd xs ys se pt)) - (nI (wm pt))) / (nI 4))), (2, .int ((nI (tgt n kd xs ys se pt)) - (nI (wm pt)))), (0, .ref aM), (1, .int (nI pt))] → W p l e ({ frames := 2, cells := 0, slots := 0, locals := 48 }) s m (([.ref aM, .int (nI pt)] : List Value).toArray) below meth c H locs 0 0 (MQ below (va_Qv (fun _ : Unit => True) (Wd E [(aM, o4 (nI th) (nI n) mK mX mY mF mS mL mQ mW mA mD mO mV mC mT mE mN mH mZ mP em gn lk (nI lst)), (mK, ia E nI 16 kd), (mX, ia E nI 16 xs), (mY, ia E nI 16 ys), (mS, ia E nI 16 se), (mH, ia E nI 32 wm)] s.heap.size (fun _ => [(aM, o4 (nI th) (nI n) mK mX mY mF mS mL mQ mW mA mD mO mV mC mT mE mN mH mZ mP em gn lk (nI lst)), (mK, ia E nI 16 kd), (mX, ia E nI 16 xs), (mY, ia E nI 16 ys), (mS, ia E nI 16 se), (mH, ia E nI 32 (va_up wm pt (wst (tgt n kd xs ys se pt) (wm pt))))])) A) (([.ref aM, .int (nI pt)] : List Value).toArray) s 0 0 A) (F0 m 45 ls [.int (stR ((nI (tgt n kd xs ys se pt)) - (nI (wm pt)))), .int (nI (wm pt)), .int (nI pt), .ref mH]) := by
    intro   H locs hP hD hS ls hl
    refine lv_iadd hx hb dX4_warms_45 ?_
    refine lv_ri (y := (nI (wst (tgt n kd xs ys se pt) (wm pt)))) (wst_row (by omega) (by omega)) ?_
    refine k_iast (e := pt) (v := (wst (tgt n kd xs ys se pt) (wm pt))) (g := nI) (n := 32) hx hb C0 hP hD hS 5 rfl rfl (by omega) (by omega) dX4_warms_46 (fun H locs hP hD hS => ?_)
    have hP : va_P E.1 vwCl [(aM, o4 (nI th) (nI n) mK mX mY mF mS mL mQ mW mA mD mO mV mC mT mE mN mH mZ mP em gn lk (nI lst)), (mK, ia E nI 16 kd), (mX, ia E nI 16 xs), (mY, ia E nI 16 ys), (mS, ia E nI 16 se), (mH, ia E nI 32 (va_up wm pt (wst (tgt n kd xs ys se pt) (wm pt))))] H := hP
    have hD : va_D A [(aM, o4 (nI th) (nI n) mK mX mY mF mS mL mQ mW mA mD mO mV mC mT mE mN mH mZ mP em gn lk (nI lst)), (mK, ia E nI 16 kd), (mX, ia E nI 16 xs), (mY, ia E nI 16 ys), (mS, ia E nI 16 se), (mH, ia E nI 32 (va_up wm pt (wst (tgt n kd xs ys se pt) (wm pt))))] := hD
    exact exV hx hb hr hlocks hAe hS () trivial hP hD dX4_warms_47
  refine lv_aload_n hx hb dX4_warms_17 rfl (lv_at hl 2 rfl) ?_
  refine va_get (D := E.1) (ci := 4) (v := .ref mH) (C := RX4) (T := TX4) (N := 25) hx hb hts iX4 hown C0.1 hP 0 rfl rfl 18 (by decide) (hts (.fieldLink RX4 59 "RingresonanceModel" "warmth" "[I") (by decide +kernel)) (fun _ h9 => h9) rfl dX4_warms_18 ?_
  refine lv_iload_n hx hb dX4_warms_21 rfl (lv_at hl 3 rfl) ?_
  refine lv_dup2_11 hx hb dX4_warms_22 rfl rfl ?_
  refine k_iald (e := pt) (g := nI) (n := 32) hx hb C0 hP 5 rfl (by omega) (by omega) dX4_warms_23 ?_
  refine lv_iload_n hx hb dX4_warms_24 rfl (lv_at hl 1 rfl) ?_
  refine lv_if_eq (tgt := 32) hx hb dX4_warms_25 (by decide) (fun c_2 => ?_) (fun c_2 => ?_)
  · skip
    refine lv_iload_n hx hb dX4_warms_32 rfl (lv_at hl 0 rfl) ?_
    refine lv_ri (y := (stR ((nI (tgt n kd xs ys se pt)) - (nI (wm pt))))) (by first | exact stR_a c_2 | exact stR_b c_2) ?_
    refine lv_goto (tgt := 45) hx hb dX4_warms_33 (by decide) ?_
    have hl : lv_has ls 4 [(3, .int (((nI (tgt n kd xs ys se pt)) - (nI (wm pt))) / (nI 4))), (2, .int ((nI (tgt n kd xs ys se pt)) - (nI (wm pt)))), (0, .ref aM), (1, .int (nI pt))] := lv_sub hl [0, 1, 2, 3] rfl
    exact JN_1   _ _ hP hD hS _ hl
  · skip
    refine lv_iload_n hx hb dX4_warms_28 rfl (lv_at hl 0 rfl) ?_
    refine lv_if_eq (tgt := 36) hx hb dX4_warms_29 (by decide) (fun c_3 => ?_) (fun c_3 => ?_)
    · skip
      refine lv_iload_n hx hb dX4_warms_36 rfl (lv_at hl 1 rfl) ?_
      refine lv_if_le (tgt := 44) hx hb dX4_warms_37 (by decide) (fun c_4 => ?_) (fun c_4 => ?_)
      · skip
        refine lv_iconst (v := -1) hx hb dX4_warms_44 (by decide) ?_
        refine lv_ri (y := (stR ((nI (tgt n kd xs ys se pt)) - (nI (wm pt))))) (stR_c c_2 c_3 c_4) ?_
        have hl : lv_has ls 4 [(3, .int (((nI (tgt n kd xs ys se pt)) - (nI (wm pt))) / (nI 4))), (2, .int ((nI (tgt n kd xs ys se pt)) - (nI (wm pt)))), (0, .ref aM), (1, .int (nI pt))] := lv_sub hl [0, 1, 2, 3] rfl
        exact JN_1   _ _ hP hD hS _ hl
      · skip
        refine lv_iconst (v := nI 1) hx hb dX4_warms_40 (by decide) ?_
        refine lv_ri (y := (stR ((nI (tgt n kd xs ys se pt)) - (nI (wm pt))))) (stR_d c_2 c_3 c_4) ?_
        refine lv_goto (tgt := 45) hx hb dX4_warms_41 (by decide) ?_
        have hl : lv_has ls 4 [(3, .int (((nI (tgt n kd xs ys se pt)) - (nI (wm pt))) / (nI 4))), (2, .int ((nI (tgt n kd xs ys se pt)) - (nI (wm pt)))), (0, .ref aM), (1, .int (nI pt))] := lv_sub hl [0, 1, 2, 3] rfl
        exact JN_1   _ _ hP hD hS _ hl
    · skip
      refine lv_iload_n hx hb dX4_warms_32 rfl (lv_at hl 0 rfl) ?_
      refine lv_ri (y := (stR ((nI (tgt n kd xs ys se pt)) - (nI (wm pt))))) (by first | exact stR_a c_3 | exact stR_b c_3) ?_
      refine lv_goto (tgt := 45) hx hb dX4_warms_33 (by decide) ?_
      have hl : lv_has ls 4 [(3, .int (((nI (tgt n kd xs ys se pt)) - (nI (wm pt))) / (nI 4))), (2, .int ((nI (tgt n kd xs ys se pt)) - (nI (wm pt)))), (0, .ref aM), (1, .int (nI pt))] := lv_sub hl [0, 1, 2, 3] rfl
      exact JN_1   _ _ hP hD hS _ hl
