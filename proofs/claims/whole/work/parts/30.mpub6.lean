def accC (xw : Int32) : Nat := if nI 0 ≤ xw ∧ xw ≤ nI 4 then 0 else 1
theorem accC_lt (xw : Int32) : accC xw < 4 := by unfold accC; repeat (first | omega | split)
theorem accC_0 {xw : Int32} (h : accC xw = 0) : nI 0 ≤ xw ∧ xw ≤ nI 4 := Decidable.byContradiction fun q => by rw [accC, if_neg q] at h; exact absurd h (by decide)
def ac1 (sm : Nat → Int64) (w : Nat) (p : Nat) (a : Int64) : Int64 := a + (if w = 3 then sAlM sm 0 p 8 else 0)
def ac2 (ins cm : Nat → Int64) (k : Nat) (a : Int64) : Int64 := a + (ins k + (if k < 256 then cm k else 0))
def acS (n : Nat) (sm ins cm : Nat → Int64) (w : Nat) : Int64 := if w = 4 then rp (ac2 ins cm) 1024 (rp (ac1 sm w) n 0) else rp (ac1 sm w) n 0
def acR (n : Nat) (sm ins cm : Nat → Int64) (em gn lk : Int64) (w : Nat) : Int64 := if w = 0 then em else if w = 1 then gn else if w = 2 then lk else acS n sm ins cm w

set_option maxHeartbeats 4000000 in
set_option maxRecDepth 100000 in
theorem m_account (l : Launch) (E : EnvT) (sz : Nat) (xw : Int32) (aM mK mX mY mF mS mL mQ mW mA mD mO mV mC mT mE mN mH mZ mP : Nat) (th n lst : Nat) (em gn lk : Int64) (cm ins sm : Nat → Int64) (hn : n ≤ 16) : ML l yX4_account wsX4_account ({ frames := 1, cells := 0, slots := 0, locals := 25 }) E sz [.ref aM, .int xw] [(aM, o4 (nI th) (nI n) mK mX mY mF mS mL mQ mW mA mD mO mV mC mT mE mN mH mZ mP em gn lk (nI lst)), (mC, ja E 512 cm), (mE, ja E 2048 ins), (mN, ja E 256 sm)] (fun (r : Int64) (_ : Unit) => r = if accC xw = 0 then acR n sm ins cm em gn lk (tN xw) else 0) (fun _ => [(aM, o4 (nI (accC xw)) (nI n) mK mX mY mF mS mL mQ mW mA mD mO mV mC mT mE mN mH mZ mP em gn lk (nI lst)), (mC, ja E 512 cm), (mE, ja E 2048 ins), (mN, ja E 256 sm)]) := by
  refine enL (cc := cX4_account) (maxL := 5) (by decide +kernel) rfl (Nat.le_of_ble_eq_true rfl) ?_
  intro p e s m below meth c A ls hx hb hr hml hts hown hlocks hAe C0 hP hD hS hl
  have hown : s.vm.findClass RX4 = some m.cls := hown
  have hl : lv_has ls 5 [(0, .ref aM), (1, .int xw)] := hl
  have iX4 : ∀ w ∈ u_ws RX4 TX4 25, w ∈ wsX4_account := by decide +kernel
  obtain ⟨H, hHe⟩ : ∃ z, z = s.heap := ⟨_, rfl⟩
  obtain ⟨locs, hLe⟩ : ∃ z : List Loc, z = [] := ⟨_, rfl⟩
  have hP : va_P E.1 vwCl [(aM, o4 (nI th) (nI n) mK mX mY mF mS mL mQ mW mA mD mO mV mC mT mE mN mH mZ mP em gn lk (nI lst)), (mC, ja E 512 cm), (mE, ja E 2048 ins), (mN, ja E 256 sm)] H := by rw [hHe]; exact hP
  have hD : va_D A [(aM, o4 (nI th) (nI n) mK mX mY mF mS mL mQ mW mA mD mO mV mC mT mE mN mH mZ mP em gn lk (nI lst)), (mC, ja E 512 cm), (mE, ja E 2048 ins), (mN, ja E 256 sm)] := hD
  have hS : va_S A s.heap H locs := by rw [hHe, hLe]; exact hS
  suffices hgo : W p l e _ s m _ below meth c H locs 0 0 _ (F0 m 0 ls []) by rw [hHe, hLe] at hgo; exact hgo
  clear hHe hLe
  have hcb := accC_lt xw
  refine lv_aload_n hx hb dX4_account_0 rfl (lv_at hl 0 rfl) ?_
  have JN_1 : ∀ (H : Heap) (locs : List Loc), va_P E.1 vwCl [(aM, o4 (nI th) (nI n) mK mX mY mF mS mL mQ mW mA mD mO mV mC mT mE mN mH mZ mP em gn lk (nI lst)), (mC, ja E 512 cm), (mE, ja E 2048 ins), (mN, ja E 256 sm)] H → va_D A [(aM, o4 (nI th) (nI n) mK mX mY mF mS mL mQ mW mA mD mO mV mC mT mE mN mH mZ mP em gn lk (nI lst)), (mC, ja E 512 cm), (mE, ja E 2048 ins), (mN, ja E 256 sm)] → va_S A s.heap H locs → ∀ (ls : Array Slot), lv_has ls 5 [(0, .ref aM), (1, .int xw)] → W p l e ({ frames := 1, cells := 0, slots := 0, locals := 25 }) s m (([.ref aM, .int xw] : List Value).toArray) below meth c H locs 0 0 (MQ below (va_Ql (fun (r : Int64) (_ : Unit) => r = if accC xw = 0 then acR n sm ins cm em gn lk (tN xw) else 0) (Wd E [(aM, o4 (nI th) (nI n) mK mX mY mF mS mL mQ mW mA mD mO mV mC mT mE mN mH mZ mP em gn lk (nI lst)), (mC, ja E 512 cm), (mE, ja E 2048 ins), (mN, ja E 256 sm)] s.heap.size (fun _ => [(aM, o4 (nI (accC xw)) (nI n) mK mX mY mF mS mL mQ mW mA mD mO mV mC mT mE mN mH mZ mP em gn lk (nI lst)), (mC, ja E 512 cm), (mE, ja E 2048 ins), (mN, ja E 256 sm)])) A) (([.ref aM, .int xw] : List Value).toArray) s 0 0 A) (F0 m 15 ls [.int (nI (accC xw)), .ref aM]) := by
    intro   H locs hP hD hS ls hl
    refine va_put (D := E.1) (ci := 4) (v := .int (nI (accC xw))) (ty := .int) (C := RX4) (T := TX4) (N := 25) hx hb hts iX4 tyX4 tyX4_ok nmX4 hown C0.1 hP hD hS 0 rfl rfl 0 (by decide) (hts (.fieldLink RX4 72 "RingresonanceModel" "thrown" "I") (by decide +kernel)) (fun _ h9 => h9) rfl (by decide +kernel) rfl rfl (Nat.le_of_ble_eq_true rfl) dX4_account_15 (fun H locs hP hD hS => ?_)
    have hP : va_P E.1 vwCl [(aM, o4 (nI (accC xw)) (nI n) mK mX mY mF mS mL mQ mW mA mD mO mV mC mT mE mN mH mZ mP em gn lk (nI lst)), (mC, ja E 512 cm), (mE, ja E 2048 ins), (mN, ja E 256 sm)] H := hP
    have hD : va_D A [(aM, o4 (nI (accC xw)) (nI n) mK mX mY mF mS mL mQ mW mA mD mO mV mC mT mE mN mH mZ mP em gn lk (nI lst)), (mC, ja E 512 cm), (mE, ja E 2048 ins), (mN, ja E 256 sm)] := hD
    refine lv_aload_n hx hb dX4_account_18 rfl (lv_at hl 0 rfl) ?_
    refine va_get (D := E.1) (ci := 4) (v := .int (nI (accC xw))) (C := RX4) (T := TX4) (N := 25) hx hb hts iX4 hown C0.1 hP 0 rfl rfl 0 (by decide) (hts (.fieldLink RX4 72 "RingresonanceModel" "thrown" "I") (by decide +kernel)) (fun _ h9 => h9) rfl dX4_account_19 ?_
    refine lv_if_eq (tgt := 27) hx hb dX4_account_22 (by decide) (fun c_2 => ?_) (fun c_2 => ?_)
    · skip
      have c_2 : (accC xw) = 0 := (ci0_eq (by omega)).mp c_2
      have hW9 := accC_0 c_2
      have hw5 := tN_le (by omega) hW9.2
      rw [show xw = nI (tN xw) from tN_eq hW9] at hl
      refine lv_lconst (v := 0) hx hb dX4_account_27 (by decide) ?_
      refine lv_lstore_n (lv' := [(2, .long 0), (0, .ref aM), (1, .int (nI (tN xw)))]) hx hb dX4_account_28 rfl hl (by decide) rfl (fun ls hl => ?_)
      refine lv_iconst (v := nI 0) hx hb dX4_account_29 (by decide) ?_
      refine lv_istore (lv' := [(4, .int (nI 0)), (2, .long 0), (0, .ref aM), (1, .int (nI (tN xw)))]) hx hb dX4_account_30 hl (by decide) rfl (fun ls hl => ?_)
      have LP_3 : ∀ (nz i_5 : Nat), i_5 ≤ n → n < i_5 + nz → ∀ (H : Heap) (locs : List Loc), va_P E.1 vwCl [(aM, o4 (nI (accC xw)) (nI n) mK mX mY mF mS mL mQ mW mA mD mO mV mC mT mE mN mH mZ mP em gn lk (nI lst)), (mC, ja E 512 cm), (mE, ja E 2048 ins), (mN, ja E 256 sm)] H → va_D A [(aM, o4 (nI (accC xw)) (nI n) mK mX mY mF mS mL mQ mW mA mD mO mV mC mT mE mN mH mZ mP em gn lk (nI lst)), (mC, ja E 512 cm), (mE, ja E 2048 ins), (mN, ja E 256 sm)] → va_S A s.heap H locs → ∀ (ls : Array Slot), lv_has ls 5 [(0, .ref aM), (1, .int (nI (tN xw))), (2, .long (rp (ac1 sm (tN xw)) (i_5) 0)), (4, .int (nI i_5))] → W p l e ({ frames := 1, cells := 0, slots := 0, locals := 25 }) s m (([.ref aM, .int xw] : List Value).toArray) below meth c H locs 0 0 (MQ below (va_Ql (fun (r : Int64) (_ : Unit) => r = if accC xw = 0 then acR n sm ins cm em gn lk (tN xw) else 0) (Wd E [(aM, o4 (nI th) (nI n) mK mX mY mF mS mL mQ mW mA mD mO mV mC mT mE mN mH mZ mP em gn lk (nI lst)), (mC, ja E 512 cm), (mE, ja E 2048 ins), (mN, ja E 256 sm)] s.heap.size (fun _ => [(aM, o4 (nI (accC xw)) (nI n) mK mX mY mF mS mL mQ mW mA mD mO mV mC mT mE mN mH mZ mP em gn lk (nI lst)), (mC, ja E 512 cm), (mE, ja E 2048 ins), (mN, ja E 256 sm)])) A) (([.ref aM, .int xw] : List Value).toArray) s 0 0 A) (F0 m 32 ls []) := by
        intro nz
        induction nz with
        | zero =>
          intro i_5 h1 h2
          exact absurd h2 (by omega)
        | succ nz ih_4 =>
          intro i_5 hi_i_5 hn_i_5 H locs hP hD hS ls hl
          refine lv_iload hx hb dX4_account_32 (lv_at hl 3 rfl) ?_
          refine lv_aload_n hx hb dX4_account_34 rfl (lv_at hl 0 rfl) ?_
          refine va_get (D := E.1) (ci := 4) (v := .int (nI n)) (C := RX4) (T := TX4) (N := 25) hx hb hts iX4 hown C0.1 hP 0 rfl rfl 1 (by decide) (hts (.fieldLink RX4 75 "RingresonanceModel" "parts" "I") (by decide +kernel)) (fun _ h9 => h9) rfl dX4_account_35 ?_
          refine lv_icmp_ge (tgt := 66) hx hb dX4_account_38 (by decide) (fun c_6 => ?_) (fun c_6 => ?_)
          · skip
            have c_6 : n ≤ i_5 := (ci_ge (by omega) (by omega)).mp c_6
            obtain rfl : n = i_5 := by omega
            have JN_7 : ∀ (H : Heap) (locs : List Loc), va_P E.1 vwCl [(aM, o4 (nI (accC xw)) (nI n) mK mX mY mF mS mL mQ mW mA mD mO mV mC mT mE mN mH mZ mP em gn lk (nI lst)), (mC, ja E 512 cm), (mE, ja E 2048 ins), (mN, ja E 256 sm)] H → va_D A [(aM, o4 (nI (accC xw)) (nI n) mK mX mY mF mS mL mQ mW mA mD mO mV mC mT mE mN mH mZ mP em gn lk (nI lst)), (mC, ja E 512 cm), (mE, ja E 2048 ins), (mN, ja E 256 sm)] → va_S A s.heap H locs → ∀ (ls : Array Slot), lv_has ls 5 [(0, .ref aM), (1, .int (nI (tN xw))), (2, .long (acS n sm ins cm (tN xw)))] → W p l e ({ frames := 1, cells := 0, slots := 0, locals := 25 }) s m (([.ref aM, .int xw] : List Value).toArray) below meth c H locs 0 0 (MQ below (va_Ql (fun (r : Int64) (_ : Unit) => r = if accC xw = 0 then acR n sm ins cm em gn lk (tN xw) else 0) (Wd E [(aM, o4 (nI th) (nI n) mK mX mY mF mS mL mQ mW mA mD mO mV mC mT mE mN mH mZ mP em gn lk (nI lst)), (mC, ja E 512 cm), (mE, ja E 2048 ins), (mN, ja E 256 sm)] s.heap.size (fun _ => [(aM, o4 (nI (accC xw)) (nI n) mK mX mY mF mS mL mQ mW mA mD mO mV mC mT mE mN mH mZ mP em gn lk (nI lst)), (mC, ja E 512 cm), (mE, ja E 2048 ins), (mN, ja E 256 sm)])) A) (([.ref aM, .int xw] : List Value).toArray) s 0 0 A) (F0 m 118 ls []) := by
              intro   H locs hP hD hS ls hl
              refine lv_iload_n hx hb dX4_account_118 rfl (lv_at hl 1 rfl) ?_
              refine lv_if_ne (tgt := 129) hx hb dX4_account_119 (by decide) (fun c_8 => ?_) (fun c_8 => ?_)
              · skip
                have c_8 : ¬ ((tN xw) = 0) := fun h => c_8 ((ci0_eq (by omega)).mpr h)
                refine lv_iload_n hx hb dX4_account_129 rfl (lv_at hl 1 rfl) ?_
                refine lv_iconst (v := nI 1) hx hb dX4_account_130 (by decide) ?_
                refine lv_icmp_ne (tgt := 141) hx hb dX4_account_131 (by decide) (fun c_9 => ?_) (fun c_9 => ?_)
                · skip
                  have c_9 : ¬ ((tN xw) = 1) := fun h => c_9 ((ci_eq (by omega) (by omega)).mpr h)
                  refine lv_iload_n hx hb dX4_account_141 rfl (lv_at hl 1 rfl) ?_
                  refine lv_iconst (v := nI 2) hx hb dX4_account_142 (by decide) ?_
                  refine lv_icmp_ne (tgt := 153) hx hb dX4_account_143 (by decide) (fun c_10 => ?_) (fun c_10 => ?_)
                  · skip
                    have c_10 : ¬ ((tN xw) = 2) := fun h => c_10 ((ci_eq (by omega) (by omega)).mpr h)
                    refine lv_lload_n hx hb dX4_account_153 rfl (lv_at hl 2 rfl) ?_
                    have q_11 : (acS n sm ins cm (tN xw)) = (if accC xw = 0 then acR n sm ins cm em gn lk (tN xw) else 0) := by symm; rw [if_pos c_2]; simp [acR, c_2, c_6, c_8, c_9, c_10]
                    exact exL hx hb hr hlocks hAe hS () q_11 hP hD dX4_account_154
                  · skip
                    have c_10 : (tN xw) = 2 := (ci_eq (by omega) (by omega)).mp c_10
                    refine lv_aload_n hx hb dX4_account_146 rfl (lv_at hl 0 rfl) ?_
                    refine va_get (D := E.1) (ci := 4) (v := .long lk) (C := RX4) (T := TX4) (N := 25) hx hb hts iX4 hown C0.1 hP 0 rfl rfl 23 (by decide) (hts (.fieldLink RX4 86 "RingresonanceModel" "leaked" "J") (by decide +kernel)) (fun _ h9 => h9) rfl dX4_account_147 ?_
                    refine lv_goto (tgt := 154) hx hb dX4_account_150 (by decide) ?_
                    have q_12 : lk = (if accC xw = 0 then acR n sm ins cm em gn lk (tN xw) else 0) := by symm; rw [if_pos c_2]; simp [acR, c_2, c_6, c_8, c_9, c_10]
                    exact exL hx hb hr hlocks hAe hS () q_12 hP hD dX4_account_154
                · skip
                  have c_9 : (tN xw) = 1 := (ci_eq (by omega) (by omega)).mp c_9
                  refine lv_aload_n hx hb dX4_account_134 rfl (lv_at hl 0 rfl) ?_
                  refine va_get (D := E.1) (ci := 4) (v := .long gn) (C := RX4) (T := TX4) (N := 25) hx hb hts iX4 hown C0.1 hP 0 rfl rfl 22 (by decide) (hts (.fieldLink RX4 90 "RingresonanceModel" "gone" "J") (by decide +kernel)) (fun _ h9 => h9) rfl dX4_account_135 ?_
                  refine lv_goto (tgt := 154) hx hb dX4_account_138 (by decide) ?_
                  have q_13 : gn = (if accC xw = 0 then acR n sm ins cm em gn lk (tN xw) else 0) := by symm; rw [if_pos c_2]; simp [acR, c_2, c_6, c_8, c_9]
                  exact exL hx hb hr hlocks hAe hS () q_13 hP hD dX4_account_154
              · skip
                have c_8 : (tN xw) = 0 := (ci0_eq (by omega)).mp c_8
                refine lv_aload_n hx hb dX4_account_122 rfl (lv_at hl 0 rfl) ?_
                refine va_get (D := E.1) (ci := 4) (v := .long em) (C := RX4) (T := TX4) (N := 25) hx hb hts iX4 hown C0.1 hP 0 rfl rfl 21 (by decide) (hts (.fieldLink RX4 110 "RingresonanceModel" "emitted" "J") (by decide +kernel)) (fun _ h9 => h9) rfl dX4_account_123 ?_
                refine lv_goto (tgt := 154) hx hb dX4_account_126 (by decide) ?_
                have q_14 : em = (if accC xw = 0 then acR n sm ins cm em gn lk (tN xw) else 0) := by symm; rw [if_pos c_2]; simp [acR, c_2, c_6, c_8]
                exact exL hx hb hr hlocks hAe hS () q_14 hP hD dX4_account_154
            refine lv_iconst (v := nI 0) hx hb dX4_account_66 (by decide) ?_
            refine lv_istore (lv' := [(4, .int (nI 0)), (0, .ref aM), (1, .int (nI (tN xw))), (2, .long (rp (ac1 sm (tN xw)) (n) 0))]) hx hb dX4_account_67 hl (by decide) rfl (fun ls hl => ?_)
            have LP_15 : ∀ (nz i_17 : Nat), i_17 ≤ 1024 → 1024 < i_17 + nz → (¬ tN xw = 4 → i_17 = 0) → ∀ (H : Heap) (locs : List Loc), va_P E.1 vwCl [(aM, o4 (nI (accC xw)) (nI n) mK mX mY mF mS mL mQ mW mA mD mO mV mC mT mE mN mH mZ mP em gn lk (nI lst)), (mC, ja E 512 cm), (mE, ja E 2048 ins), (mN, ja E 256 sm)] H → va_D A [(aM, o4 (nI (accC xw)) (nI n) mK mX mY mF mS mL mQ mW mA mD mO mV mC mT mE mN mH mZ mP em gn lk (nI lst)), (mC, ja E 512 cm), (mE, ja E 2048 ins), (mN, ja E 256 sm)] → va_S A s.heap H locs → ∀ (ls : Array Slot), lv_has ls 5 [(0, .ref aM), (1, .int (nI (tN xw))), (2, .long (rp (ac2 ins cm) (i_17) (rp (ac1 sm (tN xw)) (n) 0))), (4, .int (nI i_17))] → W p l e ({ frames := 1, cells := 0, slots := 0, locals := 25 }) s m (([.ref aM, .int xw] : List Value).toArray) below meth c H locs 0 0 (MQ below (va_Ql (fun (r : Int64) (_ : Unit) => r = if accC xw = 0 then acR n sm ins cm em gn lk (tN xw) else 0) (Wd E [(aM, o4 (nI th) (nI n) mK mX mY mF mS mL mQ mW mA mD mO mV mC mT mE mN mH mZ mP em gn lk (nI lst)), (mC, ja E 512 cm), (mE, ja E 2048 ins), (mN, ja E 256 sm)] s.heap.size (fun _ => [(aM, o4 (nI (accC xw)) (nI n) mK mX mY mF mS mL mQ mW mA mD mO mV mC mT mE mN mH mZ mP em gn lk (nI lst)), (mC, ja E 512 cm), (mE, ja E 2048 ins), (mN, ja E 256 sm)])) A) (([.ref aM, .int xw] : List Value).toArray) s 0 0 A) (F0 m 69 ls []) := by
              intro nz
              induction nz with
              | zero =>
                intro i_17 h1 h2
                exact absurd h2 (by omega)
              | succ nz ih_16 =>
                intro i_17 hi_i_17 hn_i_17 hv_i_17 H locs hP hD hS ls hl
                refine lv_iload hx hb dX4_account_69 (lv_at hl 3 rfl) ?_
                refine lv_sipush (v := nI 1024) hx hb dX4_account_71 (by decide) ?_
                refine lv_icmp_ge (tgt := 118) hx hb dX4_account_74 (by decide) (fun c_18 => ?_) (fun c_18 => ?_)
                · skip
                  have c_18 : 1024 ≤ i_17 := (ci_ge (by omega) (by omega)).mp c_18
                  obtain rfl : 1024 = i_17 := by omega
                  have hw4 : tN xw = 4 := Decidable.byContradiction fun h => absurd (hv_i_17 h) (by omega)
                  rw [show (rp (ac2 ins cm) (1024) (rp (ac1 sm (tN xw)) (n) 0)) = acS n sm ins cm (tN xw) from (if_pos hw4).symm] at hl
                  have hl : lv_has ls 5 [(0, .ref aM), (1, .int (nI (tN xw))), (2, .long (acS n sm ins cm (tN xw)))] := lv_sub hl [0, 1, 2] rfl
                  exact JN_7   _ _ hP hD hS _ hl
                · skip
                  have c_18 : ¬ (1024 ≤ i_17) := fun h => c_18 ((ci_ge (by omega) (by omega)).mpr h)
                  refine lv_iload_n hx hb dX4_account_77 rfl (lv_at hl 1 rfl) ?_
                  refine lv_iconst (v := nI 4) hx hb dX4_account_78 (by decide) ?_
                  refine lv_icmp_ne (tgt := 118) hx hb dX4_account_79 (by decide) (fun c_19 => ?_) (fun c_19 => ?_)
                  · skip
                    have c_19 : ¬ ((tN xw) = 4) := fun h => c_19 ((ci_eq (by omega) (by omega)).mpr h)
                    obtain rfl : 0 = i_17 := (hv_i_17 c_19).symm
                    rw [show (rp (ac2 ins cm) (0) (rp (ac1 sm (tN xw)) (n) 0)) = acS n sm ins cm (tN xw) from (if_neg c_19).symm] at hl
                    have hl : lv_has ls 5 [(0, .ref aM), (1, .int (nI (tN xw))), (2, .long (acS n sm ins cm (tN xw)))] := lv_sub hl [0, 1, 2] rfl
                    exact JN_7   _ _ hP hD hS _ hl
                  · skip
                    have c_19 : (tN xw) = 4 := (ci_eq (by omega) (by omega)).mp c_19
                    have hw4 := c_19
                    have JN_20 : ∀ (H : Heap) (locs : List Loc), va_P E.1 vwCl [(aM, o4 (nI (accC xw)) (nI n) mK mX mY mF mS mL mQ mW mA mD mO mV mC mT mE mN mH mZ mP em gn lk (nI lst)), (mC, ja E 512 cm), (mE, ja E 2048 ins), (mN, ja E 256 sm)] H → va_D A [(aM, o4 (nI (accC xw)) (nI n) mK mX mY mF mS mL mQ mW mA mD mO mV mC mT mE mN mH mZ mP em gn lk (nI lst)), (mC, ja E 512 cm), (mE, ja E 2048 ins), (mN, ja E 256 sm)] → va_S A s.heap H locs → ∀ (ls : Array Slot), lv_has ls 5 [(0, .ref aM), (1, .int (nI (tN xw))), (2, .long (rp (ac2 ins cm) (i_17) (rp (ac1 sm (tN xw)) (n) 0))), (4, .int (nI i_17))] → W p l e ({ frames := 1, cells := 0, slots := 0, locals := 25 }) s m (([.ref aM, .int xw] : List Value).toArray) below meth c H locs 0 0 (MQ below (va_Ql (fun (r : Int64) (_ : Unit) => r = if accC xw = 0 then acR n sm ins cm em gn lk (tN xw) else 0) (Wd E [(aM, o4 (nI th) (nI n) mK mX mY mF mS mL mQ mW mA mD mO mV mC mT mE mN mH mZ mP em gn lk (nI lst)), (mC, ja E 512 cm), (mE, ja E 2048 ins), (mN, ja E 256 sm)] s.heap.size (fun _ => [(aM, o4 (nI (accC xw)) (nI n) mK mX mY mF mS mL mQ mW mA mD mO mV mC mT mE mN mH mZ mP em gn lk (nI lst)), (mC, ja E 512 cm), (mE, ja E 2048 ins), (mN, ja E 256 sm)])) A) (([.ref aM, .int xw] : List Value).toArray) s 0 0 A) (F0 m 109 ls [.long (if i_17 < 256 then cm i_17 else 0), .long (ins i_17), .long (rp (ac2 ins cm) (i_17) (rp (ac1 sm (tN xw)) (n) 0))]) := by
                      intro   H locs hP hD hS ls hl
                      refine lv_ladd hx hb dX4_account_109 ?_
                      refine lv_ladd hx hb dX4_account_110 ?_
                      refine lv_lstore_n (lv' := [(2, .long ((rp (ac2 ins cm) (i_17) (rp (ac1 sm (tN xw)) (n) 0)) + ((ins i_17) + (if i_17 < 256 then cm i_17 else 0)))), (0, .ref aM), (1, .int (nI (tN xw))), (4, .int (nI i_17))]) hx hb dX4_account_111 rfl hl (by decide) rfl (fun ls hl => ?_)
                      refine lv_iinc (v := nI (i_17 + 1)) (lv' := [(4, .int (nI (i_17 + 1))), (2, .long ((rp (ac2 ins cm) (i_17) (rp (ac1 sm (tN xw)) (n) 0)) + ((ins i_17) + (if i_17 < 256 then cm i_17 else 0)))), (0, .ref aM), (1, .int (nI (tN xw)))]) hx hb dX4_account_112 hl (k := 3) rfl (nI_add i_17 1) (by decide) rfl (fun ls hl => ?_)
                      refine lv_goto (tgt := 69) hx hb dX4_account_115 (by decide) ?_
                      have hP : va_P E.1 vwCl [(aM, o4 (nI (accC xw)) (nI n) mK mX mY mF mS mL mQ mW mA mD mO mV mC mT mE mN mH mZ mP em gn lk (nI lst)), (mC, ja E 512 cm), (mE, ja E 2048 ins), (mN, ja E 256 sm)] H := hP
                      have hD : va_D A [(aM, o4 (nI (accC xw)) (nI n) mK mX mY mF mS mL mQ mW mA mD mO mV mC mT mE mN mH mZ mP em gn lk (nI lst)), (mC, ja E 512 cm), (mE, ja E 2048 ins), (mN, ja E 256 sm)] := hD
                      have q_21 : (rp (ac2 ins cm) (i_17) (rp (ac1 sm (tN xw)) (n) 0)) + ((ins i_17) + (if i_17 < 256 then cm i_17 else 0)) = (rp (ac2 ins cm) (i_17 + 1) (rp (ac1 sm (tN xw)) (n) 0)) := by first | rfl | (simp [c_2, c_6, hv_i_17, c_18, c_19]; done)
                      rw [q_21] at hl
                      have hl : lv_has ls 5 [(0, .ref aM), (1, .int (nI (tN xw))), (2, .long (rp (ac2 ins cm) (i_17 + 1) (rp (ac1 sm (tN xw)) (n) 0))), (4, .int (nI (i_17 + 1)))] := lv_sub hl [2, 3, 1, 0] rfl
                      exact ih_16 (i_17 + 1) (by omega) (by omega) (fun h => absurd hw4 h) _ _ hP hD hS _ hl
                    refine lv_lload_n hx hb dX4_account_82 rfl (lv_at hl 2 rfl) ?_
                    refine lv_aload_n hx hb dX4_account_83 rfl (lv_at hl 0 rfl) ?_
                    refine va_get (D := E.1) (ci := 4) (v := .ref mE) (C := RX4) (T := TX4) (N := 25) hx hb hts iX4 hown C0.1 hP 0 rfl rfl 16 (by decide) (hts (.fieldLink RX4 53 "RingresonanceModel" "inside" "[J") (by decide +kernel)) (fun _ h9 => h9) rfl dX4_account_84 ?_
                    refine lv_iload hx hb dX4_account_87 (lv_at hl 3 rfl) ?_
                    refine k_lald (e := i_17) (n := 2048) hx hb C0 hP 2 rfl (by omega) (by omega) dX4_account_89 ?_
                    refine lv_iload hx hb dX4_account_90 (lv_at hl 3 rfl) ?_
                    refine lv_sipush (v := nI 256) hx hb dX4_account_92 (by decide) ?_
                    refine lv_icmp_ge (tgt := 108) hx hb dX4_account_95 (by decide) (fun c_22 => ?_) (fun c_22 => ?_)
                    · skip
                      have c_22 : 256 ≤ i_17 := (ci_ge (by omega) (by omega)).mp c_22
                      refine lv_lconst (v := 0) hx hb dX4_account_108 (by decide) ?_
                      refine lv_rl (y := (if i_17 < 256 then cm i_17 else 0)) ((if_neg (by omega)).symm) ?_
                      have hl : lv_has ls 5 [(0, .ref aM), (1, .int (nI (tN xw))), (2, .long (rp (ac2 ins cm) (i_17) (rp (ac1 sm (tN xw)) (n) 0))), (4, .int (nI i_17))] := lv_sub hl [0, 1, 2, 3] rfl
                      exact JN_20   _ _ hP hD hS _ hl
                    · skip
                      have c_22 : ¬ (256 ≤ i_17) := fun h => c_22 ((ci_ge (by omega) (by omega)).mpr h)
                      refine lv_aload_n hx hb dX4_account_98 rfl (lv_at hl 0 rfl) ?_
                      refine va_get (D := E.1) (ci := 4) (v := .ref mC) (C := RX4) (T := TX4) (N := 25) hx hb hts iX4 hown C0.1 hP 0 rfl rfl 14 (by decide) (hts (.fieldLink RX4 47 "RingresonanceModel" "comes" "[J") (by decide +kernel)) (fun _ h9 => h9) rfl dX4_account_99 ?_
                      refine lv_iload hx hb dX4_account_102 (lv_at hl 3 rfl) ?_
                      refine k_lald (e := i_17) (n := 512) hx hb C0 hP 1 rfl (by omega) (by omega) dX4_account_104 ?_
                      refine lv_rl (y := (if i_17 < 256 then cm i_17 else 0)) ((if_pos (by omega)).symm) ?_
                      refine lv_goto (tgt := 109) hx hb dX4_account_105 (by decide) ?_
                      have hl : lv_has ls 5 [(0, .ref aM), (1, .int (nI (tN xw))), (2, .long (rp (ac2 ins cm) (i_17) (rp (ac1 sm (tN xw)) (n) 0))), (4, .int (nI i_17))] := lv_sub hl [0, 1, 2, 3] rfl
                      exact JN_20   _ _ hP hD hS _ hl
            have hP : va_P E.1 vwCl [(aM, o4 (nI (accC xw)) (nI n) mK mX mY mF mS mL mQ mW mA mD mO mV mC mT mE mN mH mZ mP em gn lk (nI lst)), (mC, ja E 512 cm), (mE, ja E 2048 ins), (mN, ja E 256 sm)] H := hP
            have hD : va_D A [(aM, o4 (nI (accC xw)) (nI n) mK mX mY mF mS mL mQ mW mA mD mO mV mC mT mE mN mH mZ mP em gn lk (nI lst)), (mC, ja E 512 cm), (mE, ja E 2048 ins), (mN, ja E 256 sm)] := hD
            have q_23 : (rp (ac1 sm (tN xw)) (n) 0) = (rp (ac2 ins cm) (0) (rp (ac1 sm (tN xw)) (n) 0)) := by first | rfl | (simp [c_2, c_6]; done)
            rw [q_23] at hl
            have hl : lv_has ls 5 [(0, .ref aM), (1, .int (nI (tN xw))), (2, .long (rp (ac2 ins cm) (0) (rp (ac1 sm (tN xw)) (n) 0))), (4, .int (nI 0))] := lv_sub hl [1, 2, 3, 0] rfl
            exact LP_15 (1024 + 1) 0 (by omega) (by omega) (fun _ => rfl) _ _ hP hD hS _ hl
          · skip
            have c_6 : ¬ (n ≤ i_5) := fun h => c_6 ((ci_ge (by omega) (by omega)).mpr h)
            have JN_24 : ∀ (H : Heap) (locs : List Loc), va_P E.1 vwCl [(aM, o4 (nI (accC xw)) (nI n) mK mX mY mF mS mL mQ mW mA mD mO mV mC mT mE mN mH mZ mP em gn lk (nI lst)), (mC, ja E 512 cm), (mE, ja E 2048 ins), (mN, ja E 256 sm)] H → va_D A [(aM, o4 (nI (accC xw)) (nI n) mK mX mY mF mS mL mQ mW mA mD mO mV mC mT mE mN mH mZ mP em gn lk (nI lst)), (mC, ja E 512 cm), (mE, ja E 2048 ins), (mN, ja E 256 sm)] → va_S A s.heap H locs → ∀ (ls : Array Slot), lv_has ls 5 [(0, .ref aM), (1, .int (nI (tN xw))), (2, .long (rp (ac1 sm (tN xw)) (i_5) 0)), (4, .int (nI i_5))] → W p l e ({ frames := 1, cells := 0, slots := 0, locals := 25 }) s m (([.ref aM, .int xw] : List Value).toArray) below meth c H locs 0 0 (MQ below (va_Ql (fun (r : Int64) (_ : Unit) => r = if accC xw = 0 then acR n sm ins cm em gn lk (tN xw) else 0) (Wd E [(aM, o4 (nI th) (nI n) mK mX mY mF mS mL mQ mW mA mD mO mV mC mT mE mN mH mZ mP em gn lk (nI lst)), (mC, ja E 512 cm), (mE, ja E 2048 ins), (mN, ja E 256 sm)] s.heap.size (fun _ => [(aM, o4 (nI (accC xw)) (nI n) mK mX mY mF mS mL mQ mW mA mD mO mV mC mT mE mN mH mZ mP em gn lk (nI lst)), (mC, ja E 512 cm), (mE, ja E 2048 ins), (mN, ja E 256 sm)])) A) (([.ref aM, .int xw] : List Value).toArray) s 0 0 A) (F0 m 58 ls [.long (if tN xw = 3 then sAlM sm 0 i_5 8 else 0), .long (rp (ac1 sm (tN xw)) (i_5) 0)]) := by
              intro   H locs hP hD hS ls hl
              refine lv_ladd hx hb dX4_account_58 ?_
              refine lv_lstore_n (lv' := [(2, .long ((rp (ac1 sm (tN xw)) (i_5) 0) + (if tN xw = 3 then sAlM sm 0 i_5 8 else 0))), (0, .ref aM), (1, .int (nI (tN xw))), (4, .int (nI i_5))]) hx hb dX4_account_59 rfl hl (by decide) rfl (fun ls hl => ?_)
              refine lv_iinc (v := nI (i_5 + 1)) (lv' := [(4, .int (nI (i_5 + 1))), (2, .long ((rp (ac1 sm (tN xw)) (i_5) 0) + (if tN xw = 3 then sAlM sm 0 i_5 8 else 0))), (0, .ref aM), (1, .int (nI (tN xw)))]) hx hb dX4_account_60 hl (k := 3) rfl (nI_add i_5 1) (by decide) rfl (fun ls hl => ?_)
              refine lv_goto (tgt := 32) hx hb dX4_account_63 (by decide) ?_
              have hP : va_P E.1 vwCl [(aM, o4 (nI (accC xw)) (nI n) mK mX mY mF mS mL mQ mW mA mD mO mV mC mT mE mN mH mZ mP em gn lk (nI lst)), (mC, ja E 512 cm), (mE, ja E 2048 ins), (mN, ja E 256 sm)] H := hP
              have hD : va_D A [(aM, o4 (nI (accC xw)) (nI n) mK mX mY mF mS mL mQ mW mA mD mO mV mC mT mE mN mH mZ mP em gn lk (nI lst)), (mC, ja E 512 cm), (mE, ja E 2048 ins), (mN, ja E 256 sm)] := hD
              have q_25 : (rp (ac1 sm (tN xw)) (i_5) 0) + (if tN xw = 3 then sAlM sm 0 i_5 8 else 0) = (rp (ac1 sm (tN xw)) (i_5 + 1) 0) := by first | rfl | (simp [c_2, c_6]; done)
              rw [q_25] at hl
              have hl : lv_has ls 5 [(0, .ref aM), (1, .int (nI (tN xw))), (2, .long (rp (ac1 sm (tN xw)) (i_5 + 1) 0)), (4, .int (nI (i_5 + 1)))] := lv_sub hl [2, 3, 1, 0] rfl
              exact ih_4 (i_5 + 1) (by omega) (by omega) _ _ hP hD hS _ hl
            refine lv_lload_n hx hb dX4_account_41 rfl (lv_at hl 2 rfl) ?_
            refine lv_iload_n hx hb dX4_account_42 rfl (lv_at hl 1 rfl) ?_
            refine lv_iconst (v := nI 3) hx hb dX4_account_43 (by decide) ?_
            refine lv_icmp_ne (tgt := 57) hx hb dX4_account_44 (by decide) (fun c_26 => ?_) (fun c_26 => ?_)
            · skip
              have c_26 : ¬ ((tN xw) = 3) := fun h => c_26 ((ci_eq (by omega) (by omega)).mpr h)
              refine lv_lconst (v := 0) hx hb dX4_account_57 (by decide) ?_
              refine lv_rl (y := (if tN xw = 3 then sAlM sm 0 i_5 8 else 0)) ((if_neg c_26).symm) ?_
              have hl : lv_has ls 5 [(0, .ref aM), (1, .int (nI (tN xw))), (2, .long (rp (ac1 sm (tN xw)) (i_5) 0)), (4, .int (nI i_5))] := lv_sub hl [0, 1, 2, 3] rfl
              exact JN_24   _ _ hP hD hS _ hl
            · skip
              have c_26 : (tN xw) = 3 := (ci_eq (by omega) (by omega)).mp c_26
              refine lv_aload_n hx hb dX4_account_47 rfl (lv_at hl 0 rfl) ?_
              refine lv_iconst (v := nI 0) hx hb dX4_account_48 (by decide) ?_
              refine lv_iload hx hb dX4_account_49 (lv_at hl 3 rfl) ?_
              have hPc := hP.pick (ws' := [(aM, o4 (nI (accC xw)) (nI n) mK mX mY mF mS mL mQ mW mA mD mO mV mC mT mE mN mH mZ mP em gn lk (nI lst)), (mN, ja E 256 sm)]) [0, 3] rfl
              have hDc := hD.sub (ws' := [(aM, o4 (nI (accC xw)) (nI n) mK mX mY mF mS mL mQ mW mA mD mO mV mC mT mE mN mH mZ mP em gn lk (nI lst)), (mN, ja E 256 sm)]) [0, 3] (by decide) rfl
              refine kcL (wr := [(mC, ja E 512 cm), (mE, ja E 2048 ins)]) (w1 := fun _ : Unit => [(aM, o4 (nI (accC xw)) (nI n) mK mX mY mF mS mL mQ mW mA mD mO mV mC mT mE mN mH mZ mP em gn lk (nI lst)), (mN, ja E 256 sm)]) (w2 := fun _ => [(aM, o4 (nI (accC xw)) (nI n) mK mX mY mF mS mL mQ mW mA mD mO mV mC mT mE mN mH mZ mP em gn lk (nI lst)), (mC, ja E 512 cm), (mE, ja E 2048 ins), (mN, ja E 256 sm)]) (va_runV (As := [.int (nI 0), .int (nI i_5)]) (rest := [.long (rp (ac1 sm (tN xw)) (i_5) 0)]) ⟨hx, hb, hml, hown, hts⟩ (m_sees l E H.size 0 i_5 aM mK mX mY mF mS mL mQ mW mA mD mO mV mC mT mE mN mH mZ mP (accC xw) n lst em gn lk sm (by omega) (by omega)) (cwV 2 hts gX4_account_X4_sees rfl rfl rfl (by decide +kernel) ⟨Nat.le_of_ble_eq_true rfl, Nat.le_of_ble_eq_true rfl⟩) (preV C0 hPc hDc hS 0 rfl rfl) rfl rfl hl.1 rfl (lv_room (Nat.le_of_ble_eq_true rfl)) dX4_account_51 ⟨Nat.le_refl _, Nat.le_refl _⟩) C0 hP hD hS [0, 3] [1, 2] [2, 0, 1, 3] rfl rfl (by decide) (by decide) (fun _ => rfl) (by decide) (fun r_9 _u H locs hw hP hD hS => ?_)
              have hP : va_P E.1 vwCl [(aM, o4 (nI (accC xw)) (nI n) mK mX mY mF mS mL mQ mW mA mD mO mV mC mT mE mN mH mZ mP em gn lk (nI lst)), (mC, ja E 512 cm), (mE, ja E 2048 ins), (mN, ja E 256 sm)] H := hP
              have hD : va_D A [(aM, o4 (nI (accC xw)) (nI n) mK mX mY mF mS mL mQ mW mA mD mO mV mC mT mE mN mH mZ mP em gn lk (nI lst)), (mC, ja E 512 cm), (mE, ja E 2048 ins), (mN, ja E 256 sm)] := hD
              have hw : r_9 = sAlM sm 0 i_5 8 := hw
              subst hw
              refine lv_rl (y := (if tN xw = 3 then sAlM sm 0 i_5 8 else 0)) ((if_pos c_26).symm) ?_
              refine lv_goto (tgt := 58) hx hb dX4_account_54 (by decide) ?_
              have hl : lv_has ls 5 [(0, .ref aM), (1, .int (nI (tN xw))), (2, .long (rp (ac1 sm (tN xw)) (i_5) 0)), (4, .int (nI i_5))] := lv_sub hl [0, 1, 2, 3] rfl
              exact JN_24   _ _ hP hD hS _ hl
      have hP : va_P E.1 vwCl [(aM, o4 (nI (accC xw)) (nI n) mK mX mY mF mS mL mQ mW mA mD mO mV mC mT mE mN mH mZ mP em gn lk (nI lst)), (mC, ja E 512 cm), (mE, ja E 2048 ins), (mN, ja E 256 sm)] H := hP
      have hD : va_D A [(aM, o4 (nI (accC xw)) (nI n) mK mX mY mF mS mL mQ mW mA mD mO mV mC mT mE mN mH mZ mP em gn lk (nI lst)), (mC, ja E 512 cm), (mE, ja E 2048 ins), (mN, ja E 256 sm)] := hD
      have q_27 : 0 = (rp (ac1 sm (tN xw)) (0) 0) := by first | rfl | (simp [c_2]; done)
      rw [q_27] at hl
      have hl : lv_has ls 5 [(0, .ref aM), (1, .int (nI (tN xw))), (2, .long (rp (ac1 sm (tN xw)) (0) 0)), (4, .int (nI 0))] := lv_sub hl [2, 3, 1, 0] rfl
      exact LP_3 (n + 1) 0 (by omega) (by omega) _ _ hP hD hS _ hl
    · skip
      have c_2 : ¬ ((accC xw) = 0) := fun h => c_2 ((ci0_eq (by omega)).mpr h)
      refine lv_lconst (v := 0) hx hb dX4_account_25 (by decide) ?_
      have q_28 : 0 = (if accC xw = 0 then acR n sm ins cm em gn lk (tN xw) else 0) := by symm; rw [if_neg c_2]
      exact exL hx hb hr hlocks hAe hS () q_28 hP hD dX4_account_26
  refine lv_iload_n hx hb dX4_account_1 rfl (lv_at hl 1 rfl) ?_
  refine lv_iconst (v := nI 0) hx hb dX4_account_2 (by decide) ?_
  refine lv_iconst (v := nI 4) hx hb dX4_account_3 (by decide) ?_
  have hPc := hP.pick (ws' := []) [] rfl
  have hDc := hD.sub (ws' := []) [] (by decide) rfl
  refine kcI (wr := [(aM, o4 (nI th) (nI n) mK mX mY mF mS mL mQ mW mA mD mO mV mC mT mE mN mH mZ mP em gn lk (nI lst)), (mC, ja E 512 cm), (mE, ja E 2048 ins), (mN, ja E 256 sm)]) (w1 := fun _ : Unit => []) (w2 := fun _ => [(aM, o4 (nI th) (nI n) mK mX mY mF mS mL mQ mW mA mD mO mV mC mT mE mN mH mZ mP em gn lk (nI lst)), (mC, ja E 512 cm), (mE, ja E 2048 ins), (mN, ja E 256 sm)]) (va_runS (As := [.int xw, .int (nI 0), .int (nI 4)]) (rest := [.ref aM]) ⟨hx, hb, hml, hown, hts⟩ (m_in l E H.size xw (nI 0) (nI 4) ) (va_cwS 3 hts gX4_account_X4_in rfl rfl rfl (by decide +kernel) ⟨Nat.le_of_ble_eq_true rfl, Nat.le_of_ble_eq_true rfl⟩) (preS C0 hPc hDc hS) rfl rfl hl.1 rfl (lv_room (Nat.le_of_ble_eq_true rfl)) dX4_account_4 ⟨Nat.le_refl _, Nat.le_refl _⟩) C0 hP hD hS [] [0, 1, 2, 3] [0, 1, 2, 3] rfl rfl (by decide) (by decide) (fun _ => rfl) (by decide) (fun r_9 _u H locs hw hP hD hS => ?_)
  have hP : va_P E.1 vwCl [(aM, o4 (nI th) (nI n) mK mX mY mF mS mL mQ mW mA mD mO mV mC mT mE mN mH mZ mP em gn lk (nI lst)), (mC, ja E 512 cm), (mE, ja E 2048 ins), (mN, ja E 256 sm)] H := hP
  have hD : va_D A [(aM, o4 (nI th) (nI n) mK mX mY mF mS mL mQ mW mA mD mO mV mC mT mE mN mH mZ mP em gn lk (nI lst)), (mC, ja E 512 cm), (mE, ja E 2048 ins), (mN, ja E 256 sm)] := hD
  have hw : r_9 = bI ((nI 0) ≤ xw ∧ xw ≤ (nI 4)) := hw
  subst hw
  refine lv_if_eq (tgt := 14) hx hb dX4_account_7 (by decide) (fun c_29 => ?_) (fun c_29 => ?_)
  · skip
    have c_29 : ¬ ((nI 0) ≤ xw ∧ xw ≤ (nI 4)) := bI_eq0.mp c_29
    refine lv_iconst (v := nI 1) hx hb dX4_account_14 (by decide) ?_
    refine lv_ri (y := (nI (accC xw))) (congrArg nI (show _ = accC xw by unfold accC; simp [c_29])) ?_
    have hl : lv_has ls 5 [(0, .ref aM), (1, .int xw)] := lv_sub hl [0, 1] rfl
    exact JN_1   _ _ hP hD hS _ hl
  · skip
    have c_29 : (nI 0) ≤ xw ∧ xw ≤ (nI 4) := bI_ne0.mp c_29
    refine lv_iconst (v := nI 0) hx hb dX4_account_10 (by decide) ?_
    refine lv_ri (y := (nI (accC xw))) (congrArg nI (show _ = accC xw by unfold accC; simp [c_29])) ?_
    refine lv_goto (tgt := 15) hx hb dX4_account_11 (by decide) ?_
    have hl : lv_has ls 5 [(0, .ref aM), (1, .int xw)] := lv_sub hl [0, 1] rfl
    exact JN_1   _ _ hP hD hS _ hl
