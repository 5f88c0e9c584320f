def xM (a b c : String) (k : Nat) : String := if k = 1 then a else if k = 2 then b else c
theorem tk_link (le : Nat → Nat) (fr t : Nat) : ∀ k, tkM le fr (t + 1) k 0 = if tkn le fr t k = true then 2 else 0
  | 0 => rfl
  | k + 1 => by
    rw [tkM_s, tkn_s, tk_link le fr t k]
    by_cases h1 : le k = t + 1 <;> by_cases h2 : k = fr <;> by_cases h3 : tkn le fr t k = true <;> simp [h1, h2, h3]

set_option maxHeartbeats 4000000 in
set_option maxRecDepth 100000 in
theorem c_spacing (l : Launch) (E : EnvT) (sz : Nat) (xp : Int32) (aO aLy aLg aDa aKs lst : Nat) (h : spaC xp = 0) : MI l yX3_spacing wsX3_spacing ({ frames := 1, cells := 0, slots := 0, locals := 22 }) E sz [.ref aO, .int xp] [(aO, o3 aLy aLg aDa aKs (nI lst))] (fun (r : Int32) (_ : Unit) => r = nI lst) (fun _ => [(aO, o3 aLy aLg aDa aKs (nI (tN xp)))]) := by
  refine enI (cc := cX3_spacing) (maxL := 3) (ret := .int) (by decide +kernel) rfl (Nat.le_of_ble_eq_true rfl) ?_
  intro p e s m below meth c A ls hx hb hr hml hts hown hlocks hAe C0 hP hD hS hl
  have hown : s.vm.findClass RX3 = some m.cls := hown
  have hl : lv_has ls 3 [(0, .ref aO), (1, .int xp)] := hl
  have iX3 : ∀ w ∈ u_ws RX3 TX3 5, w ∈ wsX3_spacing := by decide +kernel
  obtain ⟨H, hHe⟩ : ∃ z, z = s.heap := ⟨_, rfl⟩
  obtain ⟨locs, hLe⟩ : ∃ z : List Loc, z = [] := ⟨_, rfl⟩
  have hP : va_P E.1 vwCl [(aO, o3 aLy aLg aDa aKs (nI lst))] H := by rw [hHe]; exact hP
  have hD : va_D A [(aO, o3 aLy aLg aDa aKs (nI lst))] := hD
  have hS : va_S A s.heap H locs := by rw [hHe, hLe]; exact hS
  suffices hgo : W p l e _ s m _ below meth c H locs 0 0 _ (F0 m 0 ls []) by rw [hHe, hLe] at hgo; exact hgo
  clear hHe hLe
  have hP9 := spaC_0 h
  refine lv_iload_n hx hb dX3_spacing_0 rfl (lv_at hl 1 rfl) ?_
  refine lv_iconst (v := nI 0) hx hb dX3_spacing_1 (by decide) ?_
  refine lv_bipush (v := nI 15) hx hb dX3_spacing_2 (by decide) ?_
  have hPc := hP.pick (ws' := []) [] rfl
  have hDc := hD.sub (ws' := []) [] (by decide) rfl
  refine kcV (wr := [(aO, o3 aLy aLg aDa aKs (nI lst))]) (w1 := fun _ : Unit => []) (w2 := fun _ => [(aO, o3 aLy aLg aDa aKs (nI lst))]) (va_runS (As := [.int xp, .int (nI 0), .int (nI 15)]) (rest := []) ⟨hx, hb, hml, hown, hts⟩ (c_needRange l E H.size xp (nI 0) (nI 15) hP9) (va_cwS 3 hts gX3_spacing_X3_needRange rfl rfl rfl (by decide +kernel) ⟨Nat.le_of_ble_eq_true rfl, Nat.le_of_ble_eq_true rfl⟩) (preS C0 hPc hDc hS) rfl rfl hl.1 rfl (lv_room (Nat.le_of_ble_eq_true rfl)) dX3_spacing_4 ⟨Nat.le_refl _, Nat.le_refl _⟩) C0 hP hD hS [] [0] [0] rfl rfl (by decide) (by decide) (fun _ => rfl) (by decide) (fun _u H locs _hw hP hD hS => ?_)
  have hP : va_P E.1 vwCl [(aO, o3 aLy aLg aDa aKs (nI lst))] H := hP
  have hD : va_D A [(aO, o3 aLy aLg aDa aKs (nI lst))] := hD
  refine lv_aload_n hx hb dX3_spacing_7 rfl (lv_at hl 0 rfl) ?_
  refine va_get (D := E.1) (ci := 3) (v := .int (nI lst)) (C := RX3) (T := TX3) (N := 5) hx hb hts iX3 hown C0.1 hP 0 rfl rfl 4 (by decide) (hts (.fieldLink RX3 37 "Ringresonance" "least" "I") (by decide +kernel)) (fun _ h9 => h9) rfl dX3_spacing_8 ?_
  refine lv_istore_n (lv' := [(2, .int (nI lst)), (0, .ref aO), (1, .int xp)]) hx hb dX3_spacing_11 rfl hl (by decide) rfl (fun ls hl => ?_)
  refine lv_aload_n hx hb dX3_spacing_12 rfl (lv_at hl 1 rfl) ?_
  refine lv_iload_n hx hb dX3_spacing_13 rfl (lv_at hl 2 rfl) ?_
  refine lv_ri (y := (nI (tN xp))) (tN_eq hP9) ?_
  refine va_put (D := E.1) (ci := 3) (v := .int (nI (tN xp))) (ty := .int) (C := RX3) (T := TX3) (N := 5) hx hb hts iX3 tyX3 tyX3_ok nmX3 hown C0.1 hP hD hS 0 rfl rfl 4 (by decide) (hts (.fieldLink RX3 37 "Ringresonance" "least" "I") (by decide +kernel)) (fun _ h9 => h9) rfl (by decide +kernel) rfl rfl (Nat.le_of_ble_eq_true rfl) dX3_spacing_14 (fun H locs hP hD hS => ?_)
  have hP : va_P E.1 vwCl [(aO, o3 aLy aLg aDa aKs (nI (tN xp)))] H := hP
  have hD : va_D A [(aO, o3 aLy aLg aDa aKs (nI (tN xp)))] := hD
  refine lv_iload_n hx hb dX3_spacing_17 rfl (lv_at hl 0 rfl) ?_
  have q_1 : (nI lst) = (nI lst) := rfl
  exact exI hx hb hr hlocks hAe hS () q_1 hP hD dX3_spacing_18

set_option maxHeartbeats 4000000 in
set_option maxRecDepth 100000 in
theorem x_spacing (l : Launch) (E : EnvT) (sz : Nat) (xp : Int32) (aO aLy aLg aDa aKs lst : Nat) (h : ¬ (spaC xp = 0)) (hst : l.stackTraces = false) : MX l yX3_spacing wsX3_spacing ({ frames := 7, cells := 1, slots := 6, locals := 104 }) E sz [.ref aO, .int xp] [(aO, o3 aLy aLg aDa aKs (nI lst))] (xM xA xA xA (spaC xp)) := by
  refine enX (cc := cX3_spacing) (maxL := 3) (ret := (some .int)) (by decide +kernel) rfl (Nat.le_of_ble_eq_true rfl) ?_
  intro p e s m below meth c A ls hx hb hr hml hts hown hlocks hAe C0 hP hD hS hl
  have hown : s.vm.findClass RX3 = some m.cls := hown
  have hl : lv_has ls 3 [(0, .ref aO), (1, .int xp)] := hl
  obtain ⟨H, hHe⟩ : ∃ z, z = s.heap := ⟨_, rfl⟩
  obtain ⟨locs, hLe⟩ : ∃ z : List Loc, z = [] := ⟨_, rfl⟩
  have hP : va_P E.1 vwCl [(aO, o3 aLy aLg aDa aKs (nI lst))] H := by rw [hHe]; exact hP
  have hD : va_D A [(aO, o3 aLy aLg aDa aKs (nI lst))] := hD
  have hS : va_S A s.heap H locs := by rw [hHe, hLe]; exact hS
  suffices hgo : W p l e _ s m _ below meth c H locs 0 0 _ (F0 m 0 ls []) by rw [hHe, hLe] at hgo; exact hgo
  clear hHe hLe
  refine lv_iload_n hx hb dX3_spacing_0 rfl (lv_at hl 1 rfl) ?_
  refine lv_iconst (v := nI 0) hx hb dX3_spacing_1 (by decide) ?_
  refine lv_bipush (v := nI 15) hx hb dX3_spacing_2 (by decide) ?_
  by_cases hP9 : (nI 0) ≤ xp ∧ xp ≤ (nI 15)
  · skip
    exact absurd (show spaC xp = 0 from if_pos hP9) h
  · skip
    have hPc := hP.pick (ws' := []) [] rfl
    have hDc := hD.sub (ws' := []) [] (by decide) rfl
    exact kcX (wr := [(aO, o3 aLy aLg aDa aKs (nI lst))]) ((congrArg (xM xA xA xA) (show spaC xp = 1 from if_neg hP9)).trans rfl) (vx_runS (As := [.int xp, .int (nI 0), .int (nI 15)]) (rest := []) ⟨hx, hb, hml, hown, hts⟩ (x_needRange l E H.size xp (nI 0) (nI 15) hP9 hst) (va_cwS 3 hts gX3_spacing_X3_needRange rfl rfl rfl (by decide +kernel) ⟨Nat.le_of_ble_eq_true rfl, Nat.le_of_ble_eq_true rfl⟩) (preS C0 hPc hDc hS) rfl rfl hl.1 rfl (lv_room (Nat.le_of_ble_eq_true rfl)) dX3_spacing_4 ⟨Nat.le_of_ble_eq_true rfl, Nat.le_of_ble_eq_true rfl⟩) hr hlocks hAe C0 hP hD hS [] [0] [0] rfl rfl (by decide) (by decide) rfl (by decide)

set_option maxHeartbeats 4000000 in
set_option maxRecDepth 100000 in
theorem c_part (l : Launch) (E : EnvT) (sz : Nat) (xa xb xc xd xe : Int32) (aO aLg aDa aKs lst : Nat) (aLy aK aX aY aF aS aL n : Nat) (kd xs ys fi se : Nat → Nat) (h : parC n xa xb xc xd xe = 0) (hn : n ≤ 16) : MI l yX3_part wsX3_part ({ frames := 1, cells := 0, slots := 0, locals := 26 }) E sz [.ref aO, .int xa, .int xb, .int xc, .int xd, .int xe] [(aO, o3 aLy aLg aDa aKs (nI lst)), (aLy, o0 (nI n) aK aX aY aF aS aL), (aK, ia E nI 16 kd), (aX, ia E nI 16 xs), (aY, ia E nI 16 ys), (aF, ia E nI 16 fi), (aS, ia E nI 16 se)] (fun (r : Int32) (_ : Unit) => r = nI n) (fun _ => [(aO, o3 aLy aLg aDa aKs (nI lst)), (aLy, o0 (nI (n + 1)) aK aX aY aF aS aL), (aK, ia E nI 16 (va_up kd n (tN xa))), (aX, ia E nI 16 (va_up xs n (tN xb))), (aY, ia E nI 16 (va_up ys n (tN xc))), (aF, ia E nI 16 (va_up fi n (tN xd))), (aS, ia E nI 16 (va_up se n (tN xe)))]) := by
  refine enI (cc := cX3_part) (maxL := 6) (ret := .int) (by decide +kernel) rfl (Nat.le_of_ble_eq_true rfl) ?_
  intro p e s m below meth c A ls hx hb hr hml hts hown hlocks hAe C0 hP hD hS hl
  have hown : s.vm.findClass RX3 = some m.cls := hown
  have hl : lv_has ls 6 [(0, .ref aO), (1, .int xa), (2, .int xb), (3, .int xc), (4, .int xd), (5, .int xe)] := hl
  have iX0 : ∀ w ∈ u_ws RX0 TX0 7, w ∈ wsX3_part := by decide +kernel
  have iX3 : ∀ w ∈ u_ws RX3 TX3 5, w ∈ wsX3_part := by decide +kernel
  obtain ⟨H, hHe⟩ : ∃ z, z = s.heap := ⟨_, rfl⟩
  obtain ⟨locs, hLe⟩ : ∃ z : List Loc, z = [] := ⟨_, rfl⟩
  have hP : va_P E.1 vwCl [(aO, o3 aLy aLg aDa aKs (nI lst)), (aLy, o0 (nI n) aK aX aY aF aS aL), (aK, ia E nI 16 kd), (aX, ia E nI 16 xs), (aY, ia E nI 16 ys), (aF, ia E nI 16 fi), (aS, ia E nI 16 se)] H := by rw [hHe]; exact hP
  have hD : va_D A [(aO, o3 aLy aLg aDa aKs (nI lst)), (aLy, o0 (nI n) aK aX aY aF aS aL), (aK, ia E nI 16 kd), (aX, ia E nI 16 xs), (aY, ia E nI 16 ys), (aF, ia E nI 16 fi), (aS, ia E nI 16 se)] := hD
  have hS : va_S A s.heap H locs := by rw [hHe, hLe]; exact hS
  suffices hgo : W p l e _ s m _ below meth c H locs 0 0 _ (F0 m 0 ls []) by rw [hHe, hLe] at hgo; exact hgo
  clear hHe hLe
  obtain ⟨⟨hA, hB, hC, hD9, hE9⟩, h16⟩ := parC_0 h
  have hA5 := tN_le (by omega) hA.2
  refine lv_iload_n hx hb dX3_part_0 rfl (lv_at hl 1 rfl) ?_
  refine lv_iconst (v := nI 0) hx hb dX3_part_1 (by decide) ?_
  refine lv_iconst (v := nI 5) hx hb dX3_part_2 (by decide) ?_
  have hPc := hP.pick (ws' := []) [] rfl
  have hDc := hD.sub (ws' := []) [] (by decide) rfl
  refine kcV (wr := [(aO, o3 aLy aLg aDa aKs (nI lst)), (aLy, o0 (nI n) aK aX aY aF aS aL), (aK, ia E nI 16 kd), (aX, ia E nI 16 xs), (aY, ia E nI 16 ys), (aF, ia E nI 16 fi), (aS, ia E nI 16 se)]) (w1 := fun _ : Unit => []) (w2 := fun _ => [(aO, o3 aLy aLg aDa aKs (nI lst)), (aLy, o0 (nI n) aK aX aY aF aS aL), (aK, ia E nI 16 kd), (aX, ia E nI 16 xs), (aY, ia E nI 16 ys), (aF, ia E nI 16 fi), (aS, ia E nI 16 se)]) (va_runS (As := [.int xa, .int (nI 0), .int (nI 5)]) (rest := []) ⟨hx, hb, hml, hown, hts⟩ (c_needRange l E H.size xa (nI 0) (nI 5) hA) (va_cwS 3 hts gX3_part_X3_needRange rfl rfl rfl (by decide +kernel) ⟨Nat.le_of_ble_eq_true rfl, Nat.le_of_ble_eq_true rfl⟩) (preS C0 hPc hDc hS) rfl rfl hl.1 rfl (lv_room (Nat.le_of_ble_eq_true rfl)) dX3_part_3 ⟨Nat.le_refl _, Nat.le_refl _⟩) C0 hP hD hS [] [0, 1, 2, 3, 4, 5, 6] [0, 1, 2, 3, 4, 5, 6] rfl rfl (by decide) (by decide) (fun _ => rfl) (by decide) (fun _u H locs _hw hP hD hS => ?_)
  have hP : va_P E.1 vwCl [(aO, o3 aLy aLg aDa aKs (nI lst)), (aLy, o0 (nI n) aK aX aY aF aS aL), (aK, ia E nI 16 kd), (aX, ia E nI 16 xs), (aY, ia E nI 16 ys), (aF, ia E nI 16 fi), (aS, ia E nI 16 se)] H := hP
  have hD : va_D A [(aO, o3 aLy aLg aDa aKs (nI lst)), (aLy, o0 (nI n) aK aX aY aF aS aL), (aK, ia E nI 16 kd), (aX, ia E nI 16 xs), (aY, ia E nI 16 ys), (aF, ia E nI 16 fi), (aS, ia E nI 16 se)] := hD
  refine lv_iload_n hx hb dX3_part_6 rfl (lv_at hl 2 rfl) ?_
  refine lv_iconst (v := nI 0) hx hb dX3_part_7 (by decide) ?_
  refine lv_bipush (v := nI 15) hx hb dX3_part_8 (by decide) ?_
  have hPc := hP.pick (ws' := []) [] rfl
  have hDc := hD.sub (ws' := []) [] (by decide) rfl
  refine kcV (wr := [(aO, o3 aLy aLg aDa aKs (nI lst)), (aLy, o0 (nI n) aK aX aY aF aS aL), (aK, ia E nI 16 kd), (aX, ia E nI 16 xs), (aY, ia E nI 16 ys), (aF, ia E nI 16 fi), (aS, ia E nI 16 se)]) (w1 := fun _ : Unit => []) (w2 := fun _ => [(aO, o3 aLy aLg aDa aKs (nI lst)), (aLy, o0 (nI n) aK aX aY aF aS aL), (aK, ia E nI 16 kd), (aX, ia E nI 16 xs), (aY, ia E nI 16 ys), (aF, ia E nI 16 fi), (aS, ia E nI 16 se)]) (va_runS (As := [.int xb, .int (nI 0), .int (nI 15)]) (rest := []) ⟨hx, hb, hml, hown, hts⟩ (c_needRange l E H.size xb (nI 0) (nI 15) hB) (va_cwS 3 hts gX3_part_X3_needRange rfl rfl rfl (by decide +kernel) ⟨Nat.le_of_ble_eq_true rfl, Nat.le_of_ble_eq_true rfl⟩) (preS C0 hPc hDc hS) rfl rfl hl.1 rfl (lv_room (Nat.le_of_ble_eq_true rfl)) dX3_part_10 ⟨Nat.le_refl _, Nat.le_refl _⟩) C0 hP hD hS [] [0, 1, 2, 3, 4, 5, 6] [0, 1, 2, 3, 4, 5, 6] rfl rfl (by decide) (by decide) (fun _ => rfl) (by decide) (fun _u H locs _hw hP hD hS => ?_)
  have hP : va_P E.1 vwCl [(aO, o3 aLy aLg aDa aKs (nI lst)), (aLy, o0 (nI n) aK aX aY aF aS aL), (aK, ia E nI 16 kd), (aX, ia E nI 16 xs), (aY, ia E nI 16 ys), (aF, ia E nI 16 fi), (aS, ia E nI 16 se)] H := hP
  have hD : va_D A [(aO, o3 aLy aLg aDa aKs (nI lst)), (aLy, o0 (nI n) aK aX aY aF aS aL), (aK, ia E nI 16 kd), (aX, ia E nI 16 xs), (aY, ia E nI 16 ys), (aF, ia E nI 16 fi), (aS, ia E nI 16 se)] := hD
  refine lv_iload_n hx hb dX3_part_13 rfl (lv_at hl 3 rfl) ?_
  refine lv_iconst (v := nI 0) hx hb dX3_part_14 (by decide) ?_
  refine lv_bipush (v := nI 15) hx hb dX3_part_15 (by decide) ?_
  have hPc := hP.pick (ws' := []) [] rfl
  have hDc := hD.sub (ws' := []) [] (by decide) rfl
  refine kcV (wr := [(aO, o3 aLy aLg aDa aKs (nI lst)), (aLy, o0 (nI n) aK aX aY aF aS aL), (aK, ia E nI 16 kd), (aX, ia E nI 16 xs), (aY, ia E nI 16 ys), (aF, ia E nI 16 fi), (aS, ia E nI 16 se)]) (w1 := fun _ : Unit => []) (w2 := fun _ => [(aO, o3 aLy aLg aDa aKs (nI lst)), (aLy, o0 (nI n) aK aX aY aF aS aL), (aK, ia E nI 16 kd), (aX, ia E nI 16 xs), (aY, ia E nI 16 ys), (aF, ia E nI 16 fi), (aS, ia E nI 16 se)]) (va_runS (As := [.int xc, .int (nI 0), .int (nI 15)]) (rest := []) ⟨hx, hb, hml, hown, hts⟩ (c_needRange l E H.size xc (nI 0) (nI 15) hC) (va_cwS 3 hts gX3_part_X3_needRange rfl rfl rfl (by decide +kernel) ⟨Nat.le_of_ble_eq_true rfl, Nat.le_of_ble_eq_true rfl⟩) (preS C0 hPc hDc hS) rfl rfl hl.1 rfl (lv_room (Nat.le_of_ble_eq_true rfl)) dX3_part_17 ⟨Nat.le_refl _, Nat.le_refl _⟩) C0 hP hD hS [] [0, 1, 2, 3, 4, 5, 6] [0, 1, 2, 3, 4, 5, 6] rfl rfl (by decide) (by decide) (fun _ => rfl) (by decide) (fun _u H locs _hw hP hD hS => ?_)
  have hP : va_P E.1 vwCl [(aO, o3 aLy aLg aDa aKs (nI lst)), (aLy, o0 (nI n) aK aX aY aF aS aL), (aK, ia E nI 16 kd), (aX, ia E nI 16 xs), (aY, ia E nI 16 ys), (aF, ia E nI 16 fi), (aS, ia E nI 16 se)] H := hP
  have hD : va_D A [(aO, o3 aLy aLg aDa aKs (nI lst)), (aLy, o0 (nI n) aK aX aY aF aS aL), (aK, ia E nI 16 kd), (aX, ia E nI 16 xs), (aY, ia E nI 16 ys), (aF, ia E nI 16 fi), (aS, ia E nI 16 se)] := hD
  refine lv_iload hx hb dX3_part_20 (lv_at hl 4 rfl) ?_
  refine k_gets (k := 2) hx hb C0 hS hown (by decide) (hts (.fieldLink RX3 45 "Ringresonance" "LEAST_FIRST" "[I") (by decide +kernel)) dX3_part_22 ?_
  refine lv_iload_n hx hb dX3_part_25 rfl (lv_at hl 1 rfl) ?_
  refine lv_ri (y := (nI (tN xa))) (tN_eq hA) ?_
  have hPc := hP.pick (ws' := []) [] rfl
  have hDc := hD.sub (ws' := []) [] (by decide) rfl
  refine kcI (wr := [(aO, o3 aLy aLg aDa aKs (nI lst)), (aLy, o0 (nI n) aK aX aY aF aS aL), (aK, ia E nI 16 kd), (aX, ia E nI 16 xs), (aY, ia E nI 16 ys), (aF, ia E nI 16 fi), (aS, ia E nI 16 se)]) (w1 := fun _ : Unit => []) (w2 := fun _ => [(aO, o3 aLy aLg aDa aKs (nI lst)), (aLy, o0 (nI n) aK aX aY aF aS aL), (aK, ia E nI 16 kd), (aX, ia E nI 16 xs), (aY, ia E nI 16 ys), (aF, ia E nI 16 fi), (aS, ia E nI 16 se)]) (va_runS (As := [.ref (eT E 2), .int (nI (tN xa))]) (rest := [.int xd]) ⟨hx, hb, hml, hown, hts⟩ (c_ofKind l E H.size 2 (tN xa) (by decide) (by omega)) (va_cwS 2 hts gX3_part_X3_ofKind rfl rfl rfl (by decide +kernel) ⟨Nat.le_of_ble_eq_true rfl, Nat.le_of_ble_eq_true rfl⟩) (preS C0 hPc hDc hS) rfl rfl hl.1 rfl (lv_room (Nat.le_of_ble_eq_true rfl)) dX3_part_26 ⟨Nat.le_refl _, Nat.le_refl _⟩) C0 hP hD hS [] [0, 1, 2, 3, 4, 5, 6] [0, 1, 2, 3, 4, 5, 6] rfl rfl (by decide) (by decide) (fun _ => rfl) (by decide) (fun r_9 _u H locs hw hP hD hS => ?_)
  have hP : va_P E.1 vwCl [(aO, o3 aLy aLg aDa aKs (nI lst)), (aLy, o0 (nI n) aK aX aY aF aS aL), (aK, ia E nI 16 kd), (aX, ia E nI 16 xs), (aY, ia E nI 16 ys), (aF, ia E nI 16 fi), (aS, ia E nI 16 se)] H := hP
  have hD : va_D A [(aO, o3 aLy aLg aDa aKs (nI lst)), (aLy, o0 (nI n) aK aX aY aF aS aL), (aK, ia E nI 16 kd), (aX, ia E nI 16 xs), (aY, ia E nI 16 ys), (aF, ia E nI 16 fi), (aS, ia E nI 16 se)] := hD
  have hw : r_9 = nI (stV 2 (tN xa)) := hw
  subst hw
  refine k_gets (k := 3) hx hb C0 hS hown (by decide) (hts (.fieldLink RX3 53 "Ringresonance" "MOST_FIRST" "[I") (by decide +kernel)) dX3_part_29 ?_
  refine lv_iload_n hx hb dX3_part_32 rfl (lv_at hl 1 rfl) ?_
  refine lv_ri (y := (nI (tN xa))) (tN_eq hA) ?_
  have hPc := hP.pick (ws' := []) [] rfl
  have hDc := hD.sub (ws' := []) [] (by decide) rfl
  refine kcI (wr := [(aO, o3 aLy aLg aDa aKs (nI lst)), (aLy, o0 (nI n) aK aX aY aF aS aL), (aK, ia E nI 16 kd), (aX, ia E nI 16 xs), (aY, ia E nI 16 ys), (aF, ia E nI 16 fi), (aS, ia E nI 16 se)]) (w1 := fun _ : Unit => []) (w2 := fun _ => [(aO, o3 aLy aLg aDa aKs (nI lst)), (aLy, o0 (nI n) aK aX aY aF aS aL), (aK, ia E nI 16 kd), (aX, ia E nI 16 xs), (aY, ia E nI 16 ys), (aF, ia E nI 16 fi), (aS, ia E nI 16 se)]) (va_runS (As := [.ref (eT E 3), .int (nI (tN xa))]) (rest := [.int (nI (stV 2 (tN xa))), .int xd]) ⟨hx, hb, hml, hown, hts⟩ (c_ofKind l E H.size 3 (tN xa) (by decide) (by omega)) (va_cwS 2 hts gX3_part_X3_ofKind rfl rfl rfl (by decide +kernel) ⟨Nat.le_of_ble_eq_true rfl, Nat.le_of_ble_eq_true rfl⟩) (preS C0 hPc hDc hS) rfl rfl hl.1 rfl (lv_room (Nat.le_of_ble_eq_true rfl)) dX3_part_33 ⟨Nat.le_refl _, Nat.le_refl _⟩) C0 hP hD hS [] [0, 1, 2, 3, 4, 5, 6] [0, 1, 2, 3, 4, 5, 6] rfl rfl (by decide) (by decide) (fun _ => rfl) (by decide) (fun r_9 _u H locs hw hP hD hS => ?_)
  have hP : va_P E.1 vwCl [(aO, o3 aLy aLg aDa aKs (nI lst)), (aLy, o0 (nI n) aK aX aY aF aS aL), (aK, ia E nI 16 kd), (aX, ia E nI 16 xs), (aY, ia E nI 16 ys), (aF, ia E nI 16 fi), (aS, ia E nI 16 se)] H := hP
  have hD : va_D A [(aO, o3 aLy aLg aDa aKs (nI lst)), (aLy, o0 (nI n) aK aX aY aF aS aL), (aK, ia E nI 16 kd), (aX, ia E nI 16 xs), (aY, ia E nI 16 ys), (aF, ia E nI 16 fi), (aS, ia E nI 16 se)] := hD
  have hw : r_9 = nI (stV 3 (tN xa)) := hw
  subst hw
  have hPc := hP.pick (ws' := []) [] rfl
  have hDc := hD.sub (ws' := []) [] (by decide) rfl
  refine kcV (wr := [(aO, o3 aLy aLg aDa aKs (nI lst)), (aLy, o0 (nI n) aK aX aY aF aS aL), (aK, ia E nI 16 kd), (aX, ia E nI 16 xs), (aY, ia E nI 16 ys), (aF, ia E nI 16 fi), (aS, ia E nI 16 se)]) (w1 := fun _ : Unit => []) (w2 := fun _ => [(aO, o3 aLy aLg aDa aKs (nI lst)), (aLy, o0 (nI n) aK aX aY aF aS aL), (aK, ia E nI 16 kd), (aX, ia E nI 16 xs), (aY, ia E nI 16 ys), (aF, ia E nI 16 fi), (aS, ia E nI 16 se)]) (va_runS (As := [.int xd, .int (nI (stV 2 (tN xa))), .int (nI (stV 3 (tN xa)))]) (rest := []) ⟨hx, hb, hml, hown, hts⟩ (c_needRange l E H.size xd (nI (stV 2 (tN xa))) (nI (stV 3 (tN xa))) hD9) (va_cwS 3 hts gX3_part_X3_needRange rfl rfl rfl (by decide +kernel) ⟨Nat.le_of_ble_eq_true rfl, Nat.le_of_ble_eq_true rfl⟩) (preS C0 hPc hDc hS) rfl rfl hl.1 rfl (lv_room (Nat.le_of_ble_eq_true rfl)) dX3_part_36 ⟨Nat.le_refl _, Nat.le_refl _⟩) C0 hP hD hS [] [0, 1, 2, 3, 4, 5, 6] [0, 1, 2, 3, 4, 5, 6] rfl rfl (by decide) (by decide) (fun _ => rfl) (by decide) (fun _u H locs _hw hP hD hS => ?_)
  have hP : va_P E.1 vwCl [(aO, o3 aLy aLg aDa aKs (nI lst)), (aLy, o0 (nI n) aK aX aY aF aS aL), (aK, ia E nI 16 kd), (aX, ia E nI 16 xs), (aY, ia E nI 16 ys), (aF, ia E nI 16 fi), (aS, ia E nI 16 se)] H := hP
  have hD : va_D A [(aO, o3 aLy aLg aDa aKs (nI lst)), (aLy, o0 (nI n) aK aX aY aF aS aL), (aK, ia E nI 16 kd), (aX, ia E nI 16 xs), (aY, ia E nI 16 ys), (aF, ia E nI 16 fi), (aS, ia E nI 16 se)] := hD
  refine lv_iload hx hb dX3_part_39 (lv_at hl 5 rfl) ?_
  refine lv_iconst (v := nI 0) hx hb dX3_part_41 (by decide) ?_
  refine k_gets (k := 4) hx hb C0 hS hown (by decide) (hts (.fieldLink RX3 56 "Ringresonance" "MOST_SECOND" "[I") (by decide +kernel)) dX3_part_42 ?_
  refine lv_iload_n hx hb dX3_part_45 rfl (lv_at hl 1 rfl) ?_
  refine lv_ri (y := (nI (tN xa))) (tN_eq hA) ?_
  have hPc := hP.pick (ws' := []) [] rfl
  have hDc := hD.sub (ws' := []) [] (by decide) rfl
  refine kcI (wr := [(aO, o3 aLy aLg aDa aKs (nI lst)), (aLy, o0 (nI n) aK aX aY aF aS aL), (aK, ia E nI 16 kd), (aX, ia E nI 16 xs), (aY, ia E nI 16 ys), (aF, ia E nI 16 fi), (aS, ia E nI 16 se)]) (w1 := fun _ : Unit => []) (w2 := fun _ => [(aO, o3 aLy aLg aDa aKs (nI lst)), (aLy, o0 (nI n) aK aX aY aF aS aL), (aK, ia E nI 16 kd), (aX, ia E nI 16 xs), (aY, ia E nI 16 ys), (aF, ia E nI 16 fi), (aS, ia E nI 16 se)]) (va_runS (As := [.ref (eT E 4), .int (nI (tN xa))]) (rest := [.int (nI 0), .int xe]) ⟨hx, hb, hml, hown, hts⟩ (c_ofKind l E H.size 4 (tN xa) (by decide) (by omega)) (va_cwS 2 hts gX3_part_X3_ofKind rfl rfl rfl (by decide +kernel) ⟨Nat.le_of_ble_eq_true rfl, Nat.le_of_ble_eq_true rfl⟩) (preS C0 hPc hDc hS) rfl rfl hl.1 rfl (lv_room (Nat.le_of_ble_eq_true rfl)) dX3_part_46 ⟨Nat.le_refl _, Nat.le_refl _⟩) C0 hP hD hS [] [0, 1, 2, 3, 4, 5, 6] [0, 1, 2, 3, 4, 5, 6] rfl rfl (by decide) (by decide) (fun _ => rfl) (by decide) (fun r_9 _u H locs hw hP hD hS => ?_)
  have hP : va_P E.1 vwCl [(aO, o3 aLy aLg aDa aKs (nI lst)), (aLy, o0 (nI n) aK aX aY aF aS aL), (aK, ia E nI 16 kd), (aX, ia E nI 16 xs), (aY, ia E nI 16 ys), (aF, ia E nI 16 fi), (aS, ia E nI 16 se)] H := hP
  have hD : va_D A [(aO, o3 aLy aLg aDa aKs (nI lst)), (aLy, o0 (nI n) aK aX aY aF aS aL), (aK, ia E nI 16 kd), (aX, ia E nI 16 xs), (aY, ia E nI 16 ys), (aF, ia E nI 16 fi), (aS, ia E nI 16 se)] := hD
  have hw : r_9 = nI (stV 4 (tN xa)) := hw
  subst hw
  have hPc := hP.pick (ws' := []) [] rfl
  have hDc := hD.sub (ws' := []) [] (by decide) rfl
  refine kcV (wr := [(aO, o3 aLy aLg aDa aKs (nI lst)), (aLy, o0 (nI n) aK aX aY aF aS aL), (aK, ia E nI 16 kd), (aX, ia E nI 16 xs), (aY, ia E nI 16 ys), (aF, ia E nI 16 fi), (aS, ia E nI 16 se)]) (w1 := fun _ : Unit => []) (w2 := fun _ => [(aO, o3 aLy aLg aDa aKs (nI lst)), (aLy, o0 (nI n) aK aX aY aF aS aL), (aK, ia E nI 16 kd), (aX, ia E nI 16 xs), (aY, ia E nI 16 ys), (aF, ia E nI 16 fi), (aS, ia E nI 16 se)]) (va_runS (As := [.int xe, .int (nI 0), .int (nI (stV 4 (tN xa)))]) (rest := []) ⟨hx, hb, hml, hown, hts⟩ (c_needRange l E H.size xe (nI 0) (nI (stV 4 (tN xa))) hE9) (va_cwS 3 hts gX3_part_X3_needRange rfl rfl rfl (by decide +kernel) ⟨Nat.le_of_ble_eq_true rfl, Nat.le_of_ble_eq_true rfl⟩) (preS C0 hPc hDc hS) rfl rfl hl.1 rfl (lv_room (Nat.le_of_ble_eq_true rfl)) dX3_part_49 ⟨Nat.le_refl _, Nat.le_refl _⟩) C0 hP hD hS [] [0, 1, 2, 3, 4, 5, 6] [0, 1, 2, 3, 4, 5, 6] rfl rfl (by decide) (by decide) (fun _ => rfl) (by decide) (fun _u H locs _hw hP hD hS => ?_)
  have hP : va_P E.1 vwCl [(aO, o3 aLy aLg aDa aKs (nI lst)), (aLy, o0 (nI n) aK aX aY aF aS aL), (aK, ia E nI 16 kd), (aX, ia E nI 16 xs), (aY, ia E nI 16 ys), (aF, ia E nI 16 fi), (aS, ia E nI 16 se)] H := hP
  have hD : va_D A [(aO, o3 aLy aLg aDa aKs (nI lst)), (aLy, o0 (nI n) aK aX aY aF aS aL), (aK, ia E nI 16 kd), (aX, ia E nI 16 xs), (aY, ia E nI 16 ys), (aF, ia E nI 16 fi), (aS, ia E nI 16 se)] := hD
  refine lv_aload_n hx hb dX3_part_52 rfl (lv_at hl 0 rfl) ?_
  refine va_get (D := E.1) (ci := 3) (v := .ref aLy) (C := RX3) (T := TX3) (N := 5) hx hb hts iX3 hown C0.1 hP 0 rfl rfl 0 (by decide) (hts (.fieldLink RX3 10 "Ringresonance" "layout" "LRingresonance$Layout;") (by decide +kernel)) (fun _ h9 => h9) rfl dX3_part_53 ?_
  refine va_get (D := E.1) (ci := 0) (v := .int (nI n)) (C := RX0) (T := TX0) (N := 7) hx hb hts iX0 hown C0.1 hP 1 rfl rfl 0 (by decide) (hts (.fieldLink RX3 59 "Ringresonance$Layout" "count" "I") (by decide +kernel)) (fun _ h9 => h9) rfl dX3_part_56 ?_
  refine lv_bipush (v := nI 16) hx hb dX3_part_59 (by decide) ?_
  refine lv_icmp_lt (tgt := 74) hx hb dX3_part_61 (by decide) (fun c_1 => ?_) (fun c_1 => ?_)
  · skip
    have c_1 : n < 16 := (ci_lt (by omega) (by omega)).mp c_1
    refine lv_aload_n hx hb dX3_part_74 rfl (lv_at hl 0 rfl) ?_
    refine va_get (D := E.1) (ci := 3) (v := .ref aLy) (C := RX3) (T := TX3) (N := 5) hx hb hts iX3 hown C0.1 hP 0 rfl rfl 0 (by decide) (hts (.fieldLink RX3 10 "Ringresonance" "layout" "LRingresonance$Layout;") (by decide +kernel)) (fun _ h9 => h9) rfl dX3_part_75 ?_
    refine lv_iload_n hx hb dX3_part_78 rfl (lv_at hl 1 rfl) ?_
    refine lv_ri (y := (nI (tN xa))) (tN_eq hA) ?_
    refine lv_iload_n hx hb dX3_part_79 rfl (lv_at hl 2 rfl) ?_
    refine lv_ri (y := (nI (tN xb))) (tN_eq hB) ?_
    refine lv_iload_n hx hb dX3_part_80 rfl (lv_at hl 3 rfl) ?_
    refine lv_ri (y := (nI (tN xc))) (tN_eq hC) ?_
    refine lv_iload hx hb dX3_part_81 (lv_at hl 4 rfl) ?_
    refine lv_ri (y := (nI (tN xd))) (tN_eq' (stV2_lt hA5) hD9.1) ?_
    refine lv_iload hx hb dX3_part_83 (lv_at hl 5 rfl) ?_
    refine lv_ri (y := (nI (tN xe))) (tN_eq hE9) ?_
    have hPc := hP.pick (ws' := [(aLy, o0 (nI n) aK aX aY aF aS aL), (aK, ia E nI 16 kd), (aX, ia E nI 16 xs), (aY, ia E nI 16 ys), (aF, ia E nI 16 fi), (aS, ia E nI 16 se)]) [1, 2, 3, 4, 5, 6] rfl
    have hDc := hD.sub (ws' := [(aLy, o0 (nI n) aK aX aY aF aS aL), (aK, ia E nI 16 kd), (aX, ia E nI 16 xs), (aY, ia E nI 16 ys), (aF, ia E nI 16 fi), (aS, ia E nI 16 se)]) [1, 2, 3, 4, 5, 6] (by decide) rfl
    refine kcI (wr := [(aO, o3 aLy aLg aDa aKs (nI lst))]) (w1 := fun _ : Unit => [(aLy, o0 (nI (n + 1)) aK aX aY aF aS aL), (aK, ia E nI 16 (va_up kd n (tN xa))), (aX, ia E nI 16 (va_up xs n (tN xb))), (aY, ia E nI 16 (va_up ys n (tN xc))), (aF, ia E nI 16 (va_up fi n (tN xd))), (aS, ia E nI 16 (va_up se n (tN xe)))]) (w2 := fun _ => [(aO, o3 aLy aLg aDa aKs (nI lst)), (aLy, o0 (nI (n + 1)) aK aX aY aF aS aL), (aK, ia E nI 16 (va_up kd n (tN xa))), (aX, ia E nI 16 (va_up xs n (tN xb))), (aY, ia E nI 16 (va_up ys n (tN xc))), (aF, ia E nI 16 (va_up fi n (tN xd))), (aS, ia E nI 16 (va_up se n (tN xe)))]) (va_runV (As := [.int (nI (tN xa)), .int (nI (tN xb)), .int (nI (tN xc)), .int (nI (tN xd)), .int (nI (tN xe))]) (rest := []) ⟨hx, hb, hml, hown, hts⟩ (c_place l E H.size (tN xa) (tN xb) (tN xc) (tN xd) (tN xe) aLy aK aX aY aF aS aL n kd xs ys fi se (by omega)) (cwV 5 hts gX3_part_X0_place rfl rfl rfl (by decide +kernel) ⟨Nat.le_of_ble_eq_true rfl, Nat.le_of_ble_eq_true rfl⟩) (preV C0 hPc hDc hS 0 rfl rfl) rfl rfl hl.1 rfl (lv_room (Nat.le_of_ble_eq_true rfl)) dX3_part_85 ⟨Nat.le_refl _, Nat.le_refl _⟩) C0 hP hD hS [1, 2, 3, 4, 5, 6] [0] [0, 1, 2, 3, 4, 5, 6] rfl rfl (by decide) (by decide) (fun _ => rfl) (by decide) (fun r_9 _u H locs hw hP hD hS => ?_)
    have hP : va_P E.1 vwCl [(aO, o3 aLy aLg aDa aKs (nI lst)), (aLy, o0 (nI (n + 1)) aK aX aY aF aS aL), (aK, ia E nI 16 (va_up kd n (tN xa))), (aX, ia E nI 16 (va_up xs n (tN xb))), (aY, ia E nI 16 (va_up ys n (tN xc))), (aF, ia E nI 16 (va_up fi n (tN xd))), (aS, ia E nI 16 (va_up se n (tN xe)))] H := hP
    have hD : va_D A [(aO, o3 aLy aLg aDa aKs (nI lst)), (aLy, o0 (nI (n + 1)) aK aX aY aF aS aL), (aK, ia E nI 16 (va_up kd n (tN xa))), (aX, ia E nI 16 (va_up xs n (tN xb))), (aY, ia E nI 16 (va_up ys n (tN xc))), (aF, ia E nI 16 (va_up fi n (tN xd))), (aS, ia E nI 16 (va_up se n (tN xe)))] := hD
    have hw : r_9 = nI n := hw
    subst hw
    have q_2 : (nI n) = (nI n) := rfl
    exact exI hx hb hr hlocks hAe hS () q_2 hP hD dX3_part_88
  · skip
    have c_1 : ¬ (n < 16) := fun h => c_1 ((ci_lt (by omega) (by omega)).mpr h)
    exact absurd (show n < 16 by omega) c_1

set_option maxHeartbeats 4000000 in
set_option maxRecDepth 100000 in
theorem x_part (l : Launch) (E : EnvT) (sz : Nat) (xa xb xc xd xe : Int32) (aO aLg aDa aKs lst : Nat) (aLy aK aX aY aF aS aL n : Nat) (kd xs ys fi se : Nat → Nat) (h : ¬ (parC n xa xb xc xd xe = 0)) (hn : n ≤ 16) (hst : l.stackTraces = false) : MX l yX3_part wsX3_part ({ frames := 7, cells := 1, slots := 6, locals := 104 }) E sz [.ref aO, .int xa, .int xb, .int xc, .int xd, .int xe] [(aO, o3 aLy aLg aDa aKs (nI lst)), (aLy, o0 (nI n) aK aX aY aF aS aL), (aK, ia E nI 16 kd), (aX, ia E nI 16 xs), (aY, ia E nI 16 ys), (aF, ia E nI 16 fi), (aS, ia E nI 16 se)] (xM xA xS xS (parC n xa xb xc xd xe)) := by
  refine enX (cc := cX3_part) (maxL := 6) (ret := (some .int)) (by decide +kernel) rfl (Nat.le_of_ble_eq_true rfl) ?_
  intro p e s m below meth c A ls hx hb hr hml hts hown hlocks hAe C0 hP hD hS hl
  have hown : s.vm.findClass RX3 = some m.cls := hown
  have hl : lv_has ls 6 [(0, .ref aO), (1, .int xa), (2, .int xb), (3, .int xc), (4, .int xd), (5, .int xe)] := hl
  have iX0 : ∀ w ∈ u_ws RX0 TX0 7, w ∈ wsX3_part := by decide +kernel
  have iX3 : ∀ w ∈ u_ws RX3 TX3 5, w ∈ wsX3_part := by decide +kernel
  obtain ⟨H, hHe⟩ : ∃ z, z = s.heap := ⟨_, rfl⟩
  obtain ⟨locs, hLe⟩ : ∃ z : List Loc, z = [] := ⟨_, rfl⟩
  have hP : va_P E.1 vwCl [(aO, o3 aLy aLg aDa aKs (nI lst)), (aLy, o0 (nI n) aK aX aY aF aS aL), (aK, ia E nI 16 kd), (aX, ia E nI 16 xs), (aY, ia E nI 16 ys), (aF, ia E nI 16 fi), (aS, ia E nI 16 se)] H := by rw [hHe]; exact hP
  have hD : va_D A [(aO, o3 aLy aLg aDa aKs (nI lst)), (aLy, o0 (nI n) aK aX aY aF aS aL), (aK, ia E nI 16 kd), (aX, ia E nI 16 xs), (aY, ia E nI 16 ys), (aF, ia E nI 16 fi), (aS, ia E nI 16 se)] := hD
  have hS : va_S A s.heap H locs := by rw [hHe, hLe]; exact hS
  suffices hgo : W p l e _ s m _ below meth c H locs 0 0 _ (F0 m 0 ls []) by rw [hHe, hLe] at hgo; exact hgo
  clear hHe hLe
  refine lv_iload_n hx hb dX3_part_0 rfl (lv_at hl 1 rfl) ?_
  refine lv_iconst (v := nI 0) hx hb dX3_part_1 (by decide) ?_
  refine lv_iconst (v := nI 5) hx hb dX3_part_2 (by decide) ?_
  by_cases hA : (nI 0) ≤ xa ∧ xa ≤ (nI 5)
  · skip
    have hA5 := tN_le (by omega) hA.2
    have hPc := hP.pick (ws' := []) [] rfl
    have hDc := hD.sub (ws' := []) [] (by decide) rfl
    refine kcV (wr := [(aO, o3 aLy aLg aDa aKs (nI lst)), (aLy, o0 (nI n) aK aX aY aF aS aL), (aK, ia E nI 16 kd), (aX, ia E nI 16 xs), (aY, ia E nI 16 ys), (aF, ia E nI 16 fi), (aS, ia E nI 16 se)]) (w1 := fun _ : Unit => []) (w2 := fun _ => [(aO, o3 aLy aLg aDa aKs (nI lst)), (aLy, o0 (nI n) aK aX aY aF aS aL), (aK, ia E nI 16 kd), (aX, ia E nI 16 xs), (aY, ia E nI 16 ys), (aF, ia E nI 16 fi), (aS, ia E nI 16 se)]) (va_runS (As := [.int xa, .int (nI 0), .int (nI 5)]) (rest := []) ⟨hx, hb, hml, hown, hts⟩ (c_needRange l E H.size xa (nI 0) (nI 5) hA) (va_cwS 3 hts gX3_part_X3_needRange rfl rfl rfl (by decide +kernel) ⟨Nat.le_of_ble_eq_true rfl, Nat.le_of_ble_eq_true rfl⟩) (preS C0 hPc hDc hS) rfl rfl hl.1 rfl (lv_room (Nat.le_of_ble_eq_true rfl)) dX3_part_3 ⟨Nat.le_of_ble_eq_true rfl, Nat.le_of_ble_eq_true rfl⟩) C0 hP hD hS [] [0, 1, 2, 3, 4, 5, 6] [0, 1, 2, 3, 4, 5, 6] rfl rfl (by decide) (by decide) (fun _ => rfl) (by decide) (fun _u H locs _hw hP hD hS => ?_)
    have hP : va_P E.1 vwCl [(aO, o3 aLy aLg aDa aKs (nI lst)), (aLy, o0 (nI n) aK aX aY aF aS aL), (aK, ia E nI 16 kd), (aX, ia E nI 16 xs), (aY, ia E nI 16 ys), (aF, ia E nI 16 fi), (aS, ia E nI 16 se)] H := hP
    have hD : va_D A [(aO, o3 aLy aLg aDa aKs (nI lst)), (aLy, o0 (nI n) aK aX aY aF aS aL), (aK, ia E nI 16 kd), (aX, ia E nI 16 xs), (aY, ia E nI 16 ys), (aF, ia E nI 16 fi), (aS, ia E nI 16 se)] := hD
    refine lv_iload_n hx hb dX3_part_6 rfl (lv_at hl 2 rfl) ?_
    refine lv_iconst (v := nI 0) hx hb dX3_part_7 (by decide) ?_
    refine lv_bipush (v := nI 15) hx hb dX3_part_8 (by decide) ?_
    by_cases hB : (nI 0) ≤ xb ∧ xb ≤ (nI 15)
    · skip
      have hPc := hP.pick (ws' := []) [] rfl
      have hDc := hD.sub (ws' := []) [] (by decide) rfl
      refine kcV (wr := [(aO, o3 aLy aLg aDa aKs (nI lst)), (aLy, o0 (nI n) aK aX aY aF aS aL), (aK, ia E nI 16 kd), (aX, ia E nI 16 xs), (aY, ia E nI 16 ys), (aF, ia E nI 16 fi), (aS, ia E nI 16 se)]) (w1 := fun _ : Unit => []) (w2 := fun _ => [(aO, o3 aLy aLg aDa aKs (nI lst)), (aLy, o0 (nI n) aK aX aY aF aS aL), (aK, ia E nI 16 kd), (aX, ia E nI 16 xs), (aY, ia E nI 16 ys), (aF, ia E nI 16 fi), (aS, ia E nI 16 se)]) (va_runS (As := [.int xb, .int (nI 0), .int (nI 15)]) (rest := []) ⟨hx, hb, hml, hown, hts⟩ (c_needRange l E H.size xb (nI 0) (nI 15) hB) (va_cwS 3 hts gX3_part_X3_needRange rfl rfl rfl (by decide +kernel) ⟨Nat.le_of_ble_eq_true rfl, Nat.le_of_ble_eq_true rfl⟩) (preS C0 hPc hDc hS) rfl rfl hl.1 rfl (lv_room (Nat.le_of_ble_eq_true rfl)) dX3_part_10 ⟨Nat.le_of_ble_eq_true rfl, Nat.le_of_ble_eq_true rfl⟩) C0 hP hD hS [] [0, 1, 2, 3, 4, 5, 6] [0, 1, 2, 3, 4, 5, 6] rfl rfl (by decide) (by decide) (fun _ => rfl) (by decide) (fun _u H locs _hw hP hD hS => ?_)
      have hP : va_P E.1 vwCl [(aO, o3 aLy aLg aDa aKs (nI lst)), (aLy, o0 (nI n) aK aX aY aF aS aL), (aK, ia E nI 16 kd), (aX, ia E nI 16 xs), (aY, ia E nI 16 ys), (aF, ia E nI 16 fi), (aS, ia E nI 16 se)] H := hP
      have hD : va_D A [(aO, o3 aLy aLg aDa aKs (nI lst)), (aLy, o0 (nI n) aK aX aY aF aS aL), (aK, ia E nI 16 kd), (aX, ia E nI 16 xs), (aY, ia E nI 16 ys), (aF, ia E nI 16 fi), (aS, ia E nI 16 se)] := hD
      refine lv_iload_n hx hb dX3_part_13 rfl (lv_at hl 3 rfl) ?_
      refine lv_iconst (v := nI 0) hx hb dX3_part_14 (by decide) ?_
      refine lv_bipush (v := nI 15) hx hb dX3_part_15 (by decide) ?_
      by_cases hC : (nI 0) ≤ xc ∧ xc ≤ (nI 15)
      · skip
        have hPc := hP.pick (ws' := []) [] rfl
        have hDc := hD.sub (ws' := []) [] (by decide) rfl
        refine kcV (wr := [(aO, o3 aLy aLg aDa aKs (nI lst)), (aLy, o0 (nI n) aK aX aY aF aS aL), (aK, ia E nI 16 kd), (aX, ia E nI 16 xs), (aY, ia E nI 16 ys), (aF, ia E nI 16 fi), (aS, ia E nI 16 se)]) (w1 := fun _ : Unit => []) (w2 := fun _ => [(aO, o3 aLy aLg aDa aKs (nI lst)), (aLy, o0 (nI n) aK aX aY aF aS aL), (aK, ia E nI 16 kd), (aX, ia E nI 16 xs), (aY, ia E nI 16 ys), (aF, ia E nI 16 fi), (aS, ia E nI 16 se)]) (va_runS (As := [.int xc, .int (nI 0), .int (nI 15)]) (rest := []) ⟨hx, hb, hml, hown, hts⟩ (c_needRange l E H.size xc (nI 0) (nI 15) hC) (va_cwS 3 hts gX3_part_X3_needRange rfl rfl rfl (by decide +kernel) ⟨Nat.le_of_ble_eq_true rfl, Nat.le_of_ble_eq_true rfl⟩) (preS C0 hPc hDc hS) rfl rfl hl.1 rfl (lv_room (Nat.le_of_ble_eq_true rfl)) dX3_part_17 ⟨Nat.le_of_ble_eq_true rfl, Nat.le_of_ble_eq_true rfl⟩) C0 hP hD hS [] [0, 1, 2, 3, 4, 5, 6] [0, 1, 2, 3, 4, 5, 6] rfl rfl (by decide) (by decide) (fun _ => rfl) (by decide) (fun _u H locs _hw hP hD hS => ?_)
        have hP : va_P E.1 vwCl [(aO, o3 aLy aLg aDa aKs (nI lst)), (aLy, o0 (nI n) aK aX aY aF aS aL), (aK, ia E nI 16 kd), (aX, ia E nI 16 xs), (aY, ia E nI 16 ys), (aF, ia E nI 16 fi), (aS, ia E nI 16 se)] H := hP
        have hD : va_D A [(aO, o3 aLy aLg aDa aKs (nI lst)), (aLy, o0 (nI n) aK aX aY aF aS aL), (aK, ia E nI 16 kd), (aX, ia E nI 16 xs), (aY, ia E nI 16 ys), (aF, ia E nI 16 fi), (aS, ia E nI 16 se)] := hD
        refine lv_iload hx hb dX3_part_20 (lv_at hl 4 rfl) ?_
        refine k_gets (k := 2) hx hb C0 hS hown (by decide) (hts (.fieldLink RX3 45 "Ringresonance" "LEAST_FIRST" "[I") (by decide +kernel)) dX3_part_22 ?_
        refine lv_iload_n hx hb dX3_part_25 rfl (lv_at hl 1 rfl) ?_
        refine lv_ri (y := (nI (tN xa))) (tN_eq hA) ?_
        have hPc := hP.pick (ws' := []) [] rfl
        have hDc := hD.sub (ws' := []) [] (by decide) rfl
        refine kcI (wr := [(aO, o3 aLy aLg aDa aKs (nI lst)), (aLy, o0 (nI n) aK aX aY aF aS aL), (aK, ia E nI 16 kd), (aX, ia E nI 16 xs), (aY, ia E nI 16 ys), (aF, ia E nI 16 fi), (aS, ia E nI 16 se)]) (w1 := fun _ : Unit => []) (w2 := fun _ => [(aO, o3 aLy aLg aDa aKs (nI lst)), (aLy, o0 (nI n) aK aX aY aF aS aL), (aK, ia E nI 16 kd), (aX, ia E nI 16 xs), (aY, ia E nI 16 ys), (aF, ia E nI 16 fi), (aS, ia E nI 16 se)]) (va_runS (As := [.ref (eT E 2), .int (nI (tN xa))]) (rest := [.int xd]) ⟨hx, hb, hml, hown, hts⟩ (c_ofKind l E H.size 2 (tN xa) (by decide) (by omega)) (va_cwS 2 hts gX3_part_X3_ofKind rfl rfl rfl (by decide +kernel) ⟨Nat.le_of_ble_eq_true rfl, Nat.le_of_ble_eq_true rfl⟩) (preS C0 hPc hDc hS) rfl rfl hl.1 rfl (lv_room (Nat.le_of_ble_eq_true rfl)) dX3_part_26 ⟨Nat.le_of_ble_eq_true rfl, Nat.le_of_ble_eq_true rfl⟩) C0 hP hD hS [] [0, 1, 2, 3, 4, 5, 6] [0, 1, 2, 3, 4, 5, 6] rfl rfl (by decide) (by decide) (fun _ => rfl) (by decide) (fun r_9 _u H locs hw hP hD hS => ?_)
        have hP : va_P E.1 vwCl [(aO, o3 aLy aLg aDa aKs (nI lst)), (aLy, o0 (nI n) aK aX aY aF aS aL), (aK, ia E nI 16 kd), (aX, ia E nI 16 xs), (aY, ia E nI 16 ys), (aF, ia E nI 16 fi), (aS, ia E nI 16 se)] H := hP
        have hD : va_D A [(aO, o3 aLy aLg aDa aKs (nI lst)), (aLy, o0 (nI n) aK aX aY aF aS aL), (aK, ia E nI 16 kd), (aX, ia E nI 16 xs), (aY, ia E nI 16 ys), (aF, ia E nI 16 fi), (aS, ia E nI 16 se)] := hD
        have hw : r_9 = nI (stV 2 (tN xa)) := hw
        subst hw
        refine k_gets (k := 3) hx hb C0 hS hown (by decide) (hts (.fieldLink RX3 53 "Ringresonance" "MOST_FIRST" "[I") (by decide +kernel)) dX3_part_29 ?_
        refine lv_iload_n hx hb dX3_part_32 rfl (lv_at hl 1 rfl) ?_
        refine lv_ri (y := (nI (tN xa))) (tN_eq hA) ?_
        have hPc := hP.pick (ws' := []) [] rfl
        have hDc := hD.sub (ws' := []) [] (by decide) rfl
        refine kcI (wr := [(aO, o3 aLy aLg aDa aKs (nI lst)), (aLy, o0 (nI n) aK aX aY aF aS aL), (aK, ia E nI 16 kd), (aX, ia E nI 16 xs), (aY, ia E nI 16 ys), (aF, ia E nI 16 fi), (aS, ia E nI 16 se)]) (w1 := fun _ : Unit => []) (w2 := fun _ => [(aO, o3 aLy aLg aDa aKs (nI lst)), (aLy, o0 (nI n) aK aX aY aF aS aL), (aK, ia E nI 16 kd), (aX, ia E nI 16 xs), (aY, ia E nI 16 ys), (aF, ia E nI 16 fi), (aS, ia E nI 16 se)]) (va_runS (As := [.ref (eT E 3), .int (nI (tN xa))]) (rest := [.int (nI (stV 2 (tN xa))), .int xd]) ⟨hx, hb, hml, hown, hts⟩ (c_ofKind l E H.size 3 (tN xa) (by decide) (by omega)) (va_cwS 2 hts gX3_part_X3_ofKind rfl rfl rfl (by decide +kernel) ⟨Nat.le_of_ble_eq_true rfl, Nat.le_of_ble_eq_true rfl⟩) (preS C0 hPc hDc hS) rfl rfl hl.1 rfl (lv_room (Nat.le_of_ble_eq_true rfl)) dX3_part_33 ⟨Nat.le_of_ble_eq_true rfl, Nat.le_of_ble_eq_true rfl⟩) C0 hP hD hS [] [0, 1, 2, 3, 4, 5, 6] [0, 1, 2, 3, 4, 5, 6] rfl rfl (by decide) (by decide) (fun _ => rfl) (by decide) (fun r_9 _u H locs hw hP hD hS => ?_)
        have hP : va_P E.1 vwCl [(aO, o3 aLy aLg aDa aKs (nI lst)), (aLy, o0 (nI n) aK aX aY aF aS aL), (aK, ia E nI 16 kd), (aX, ia E nI 16 xs), (aY, ia E nI 16 ys), (aF, ia E nI 16 fi), (aS, ia E nI 16 se)] H := hP
        have hD : va_D A [(aO, o3 aLy aLg aDa aKs (nI lst)), (aLy, o0 (nI n) aK aX aY aF aS aL), (aK, ia E nI 16 kd), (aX, ia E nI 16 xs), (aY, ia E nI 16 ys), (aF, ia E nI 16 fi), (aS, ia E nI 16 se)] := hD
        have hw : r_9 = nI (stV 3 (tN xa)) := hw
        subst hw
        by_cases hD9 : (nI (stV 2 (tN xa))) ≤ xd ∧ xd ≤ (nI (stV 3 (tN xa)))
        · skip
          have hPc := hP.pick (ws' := []) [] rfl
          have hDc := hD.sub (ws' := []) [] (by decide) rfl
          refine kcV (wr := [(aO, o3 aLy aLg aDa aKs (nI lst)), (aLy, o0 (nI n) aK aX aY aF aS aL), (aK, ia E nI 16 kd), (aX, ia E nI 16 xs), (aY, ia E nI 16 ys), (aF, ia E nI 16 fi), (aS, ia E nI 16 se)]) (w1 := fun _ : Unit => []) (w2 := fun _ => [(aO, o3 aLy aLg aDa aKs (nI lst)), (aLy, o0 (nI n) aK aX aY aF aS aL), (aK, ia E nI 16 kd), (aX, ia E nI 16 xs), (aY, ia E nI 16 ys), (aF, ia E nI 16 fi), (aS, ia E nI 16 se)]) (va_runS (As := [.int xd, .int (nI (stV 2 (tN xa))), .int (nI (stV 3 (tN xa)))]) (rest := []) ⟨hx, hb, hml, hown, hts⟩ (c_needRange l E H.size xd (nI (stV 2 (tN xa))) (nI (stV 3 (tN xa))) hD9) (va_cwS 3 hts gX3_part_X3_needRange rfl rfl rfl (by decide +kernel) ⟨Nat.le_of_ble_eq_true rfl, Nat.le_of_ble_eq_true rfl⟩) (preS C0 hPc hDc hS) rfl rfl hl.1 rfl (lv_room (Nat.le_of_ble_eq_true rfl)) dX3_part_36 ⟨Nat.le_of_ble_eq_true rfl, Nat.le_of_ble_eq_true rfl⟩) C0 hP hD hS [] [0, 1, 2, 3, 4, 5, 6] [0, 1, 2, 3, 4, 5, 6] rfl rfl (by decide) (by decide) (fun _ => rfl) (by decide) (fun _u H locs _hw hP hD hS => ?_)
          have hP : va_P E.1 vwCl [(aO, o3 aLy aLg aDa aKs (nI lst)), (aLy, o0 (nI n) aK aX aY aF aS aL), (aK, ia E nI 16 kd), (aX, ia E nI 16 xs), (aY, ia E nI 16 ys), (aF, ia E nI 16 fi), (aS, ia E nI 16 se)] H := hP
          have hD : va_D A [(aO, o3 aLy aLg aDa aKs (nI lst)), (aLy, o0 (nI n) aK aX aY aF aS aL), (aK, ia E nI 16 kd), (aX, ia E nI 16 xs), (aY, ia E nI 16 ys), (aF, ia E nI 16 fi), (aS, ia E nI 16 se)] := hD
          refine lv_iload hx hb dX3_part_39 (lv_at hl 5 rfl) ?_
          refine lv_iconst (v := nI 0) hx hb dX3_part_41 (by decide) ?_
          refine k_gets (k := 4) hx hb C0 hS hown (by decide) (hts (.fieldLink RX3 56 "Ringresonance" "MOST_SECOND" "[I") (by decide +kernel)) dX3_part_42 ?_
          refine lv_iload_n hx hb dX3_part_45 rfl (lv_at hl 1 rfl) ?_
          refine lv_ri (y := (nI (tN xa))) (tN_eq hA) ?_
          have hPc := hP.pick (ws' := []) [] rfl
          have hDc := hD.sub (ws' := []) [] (by decide) rfl
          refine kcI (wr := [(aO, o3 aLy aLg aDa aKs (nI lst)), (aLy, o0 (nI n) aK aX aY aF aS aL), (aK, ia E nI 16 kd), (aX, ia E nI 16 xs), (aY, ia E nI 16 ys), (aF, ia E nI 16 fi), (aS, ia E nI 16 se)]) (w1 := fun _ : Unit => []) (w2 := fun _ => [(aO, o3 aLy aLg aDa aKs (nI lst)), (aLy, o0 (nI n) aK aX aY aF aS aL), (aK, ia E nI 16 kd), (aX, ia E nI 16 xs), (aY, ia E nI 16 ys), (aF, ia E nI 16 fi), (aS, ia E nI 16 se)]) (va_runS (As := [.ref (eT E 4), .int (nI (tN xa))]) (rest := [.int (nI 0), .int xe]) ⟨hx, hb, hml, hown, hts⟩ (c_ofKind l E H.size 4 (tN xa) (by decide) (by omega)) (va_cwS 2 hts gX3_part_X3_ofKind rfl rfl rfl (by decide +kernel) ⟨Nat.le_of_ble_eq_true rfl, Nat.le_of_ble_eq_true rfl⟩) (preS C0 hPc hDc hS) rfl rfl hl.1 rfl (lv_room (Nat.le_of_ble_eq_true rfl)) dX3_part_46 ⟨Nat.le_of_ble_eq_true rfl, Nat.le_of_ble_eq_true rfl⟩) C0 hP hD hS [] [0, 1, 2, 3, 4, 5, 6] [0, 1, 2, 3, 4, 5, 6] rfl rfl (by decide) (by decide) (fun _ => rfl) (by decide) (fun r_9 _u H locs hw hP hD hS => ?_)
          have hP : va_P E.1 vwCl [(aO, o3 aLy aLg aDa aKs (nI lst)), (aLy, o0 (nI n) aK aX aY aF aS aL), (aK, ia E nI 16 kd), (aX, ia E nI 16 xs), (aY, ia E nI 16 ys), (aF, ia E nI 16 fi), (aS, ia E nI 16 se)] H := hP
          have hD : va_D A [(aO, o3 aLy aLg aDa aKs (nI lst)), (aLy, o0 (nI n) aK aX aY aF aS aL), (aK, ia E nI 16 kd), (aX, ia E nI 16 xs), (aY, ia E nI 16 ys), (aF, ia E nI 16 fi), (aS, ia E nI 16 se)] := hD
          have hw : r_9 = nI (stV 4 (tN xa)) := hw
          subst hw
          by_cases hE9 : (nI 0) ≤ xe ∧ xe ≤ (nI (stV 4 (tN xa)))
          · skip
            have hPc := hP.pick (ws' := []) [] rfl
            have hDc := hD.sub (ws' := []) [] (by decide) rfl
            refine kcV (wr := [(aO, o3 aLy aLg aDa aKs (nI lst)), (aLy, o0 (nI n) aK aX aY aF aS aL), (aK, ia E nI 16 kd), (aX, ia E nI 16 xs), (aY, ia E nI 16 ys), (aF, ia E nI 16 fi), (aS, ia E nI 16 se)]) (w1 := fun _ : Unit => []) (w2 := fun _ => [(aO, o3 aLy aLg aDa aKs (nI lst)), (aLy, o0 (nI n) aK aX aY aF aS aL), (aK, ia E nI 16 kd), (aX, ia E nI 16 xs), (aY, ia E nI 16 ys), (aF, ia E nI 16 fi), (aS, ia E nI 16 se)]) (va_runS (As := [.int xe, .int (nI 0), .int (nI (stV 4 (tN xa)))]) (rest := []) ⟨hx, hb, hml, hown, hts⟩ (c_needRange l E H.size xe (nI 0) (nI (stV 4 (tN xa))) hE9) (va_cwS 3 hts gX3_part_X3_needRange rfl rfl rfl (by decide +kernel) ⟨Nat.le_of_ble_eq_true rfl, Nat.le_of_ble_eq_true rfl⟩) (preS C0 hPc hDc hS) rfl rfl hl.1 rfl (lv_room (Nat.le_of_ble_eq_true rfl)) dX3_part_49 ⟨Nat.le_of_ble_eq_true rfl, Nat.le_of_ble_eq_true rfl⟩) C0 hP hD hS [] [0, 1, 2, 3, 4, 5, 6] [0, 1, 2, 3, 4, 5, 6] rfl rfl (by decide) (by decide) (fun _ => rfl) (by decide) (fun _u H locs _hw hP hD hS => ?_)
            have hP : va_P E.1 vwCl [(aO, o3 aLy aLg aDa aKs (nI lst)), (aLy, o0 (nI n) aK aX aY aF aS aL), (aK, ia E nI 16 kd), (aX, ia E nI 16 xs), (aY, ia E nI 16 ys), (aF, ia E nI 16 fi), (aS, ia E nI 16 se)] H := hP
            have hD : va_D A [(aO, o3 aLy aLg aDa aKs (nI lst)), (aLy, o0 (nI n) aK aX aY aF aS aL), (aK, ia E nI 16 kd), (aX, ia E nI 16 xs), (aY, ia E nI 16 ys), (aF, ia E nI 16 fi), (aS, ia E nI 16 se)] := hD
            refine lv_aload_n hx hb dX3_part_52 rfl (lv_at hl 0 rfl) ?_
            refine va_get (D := E.1) (ci := 3) (v := .ref aLy) (C := RX3) (T := TX3) (N := 5) hx hb hts iX3 hown C0.1 hP 0 rfl rfl 0 (by decide) (hts (.fieldLink RX3 10 "Ringresonance" "layout" "LRingresonance$Layout;") (by decide +kernel)) (fun _ h9 => h9) rfl dX3_part_53 ?_
            refine va_get (D := E.1) (ci := 0) (v := .int (nI n)) (C := RX0) (T := TX0) (N := 7) hx hb hts iX0 hown C0.1 hP 1 rfl rfl 0 (by decide) (hts (.fieldLink RX3 59 "Ringresonance$Layout" "count" "I") (by decide +kernel)) (fun _ h9 => h9) rfl dX3_part_56 ?_
            refine lv_bipush (v := nI 16) hx hb dX3_part_59 (by decide) ?_
            refine lv_icmp_lt (tgt := 74) hx hb dX3_part_61 (by decide) (fun c_1 => ?_) (fun c_1 => ?_)
            · skip
              have c_1 : n < 16 := (ci_lt (by omega) (by omega)).mp c_1
              exact absurd (show parC n xa xb xc xd xe = 0 from (if_pos ⟨hA, hB, hC, hD9, hE9⟩).trans (if_neg (by omega))) h
            · skip
              have c_1 : ¬ (n < 16) := fun h => c_1 ((ci_lt (by omega) (by omega)).mpr h)
              exact thX (ik := 62) (is := 64) (ic := 66) (xn := xS) (text := "no room for another part") ((congrArg (xM xA xS xS) (show parC n xa xb xc xd xe = 2 from (if_pos ⟨hA, hB, hC, hD9, hE9⟩).trans (if_pos (by omega)))).trans rfl) hx hb hst hown (hts (.classLink RX3 62 xS) (by decide +kernel)) (hts (.initialized xS) (by decide +kernel)) (fun w h => hts w (List.mem_cons_of_mem _ (List.mem_append_left _ (List.mem_append_right _ h)))) (by decide +kernel) (by decide +kernel) (by decide +kernel) (by decide +kernel) (by decide +kernel) (C0.2.2.2.1.2.2.2.1 (64, "no room for another part") (by decide +kernel)) hr hlocks hAe C0 hP hD hS (hl.1.trans hml.symm) dX3_part_64 dX3_part_67 dX3_part_68 dX3_part_70 dX3_part_73 (Nat.le_of_ble_eq_true rfl) (Nat.le_of_ble_eq_true rfl) (Nat.le_of_ble_eq_true rfl) (Nat.le_of_ble_eq_true rfl)
          · skip
            have hPc := hP.pick (ws' := []) [] rfl
            have hDc := hD.sub (ws' := []) [] (by decide) rfl
            exact kcX (wr := [(aO, o3 aLy aLg aDa aKs (nI lst)), (aLy, o0 (nI n) aK aX aY aF aS aL), (aK, ia E nI 16 kd), (aX, ia E nI 16 xs), (aY, ia E nI 16 ys), (aF, ia E nI 16 fi), (aS, ia E nI 16 se)]) ((congrArg (xM xA xS xS) (show parC n xa xb xc xd xe = 1 from if_neg (fun h => hE9 h.2.2.2.2))).trans rfl) (vx_runS (As := [.int xe, .int (nI 0), .int (nI (stV 4 (tN xa)))]) (rest := []) ⟨hx, hb, hml, hown, hts⟩ (x_needRange l E H.size xe (nI 0) (nI (stV 4 (tN xa))) hE9 hst) (va_cwS 3 hts gX3_part_X3_needRange rfl rfl rfl (by decide +kernel) ⟨Nat.le_of_ble_eq_true rfl, Nat.le_of_ble_eq_true rfl⟩) (preS C0 hPc hDc hS) rfl rfl hl.1 rfl (lv_room (Nat.le_of_ble_eq_true rfl)) dX3_part_49 ⟨Nat.le_of_ble_eq_true rfl, Nat.le_of_ble_eq_true rfl⟩) hr hlocks hAe C0 hP hD hS [] [0, 1, 2, 3, 4, 5, 6] [0, 1, 2, 3, 4, 5, 6] rfl rfl (by decide) (by decide) rfl (by decide)
        · skip
          have hPc := hP.pick (ws' := []) [] rfl
          have hDc := hD.sub (ws' := []) [] (by decide) rfl
          exact kcX (wr := [(aO, o3 aLy aLg aDa aKs (nI lst)), (aLy, o0 (nI n) aK aX aY aF aS aL), (aK, ia E nI 16 kd), (aX, ia E nI 16 xs), (aY, ia E nI 16 ys), (aF, ia E nI 16 fi), (aS, ia E nI 16 se)]) ((congrArg (xM xA xS xS) (show parC n xa xb xc xd xe = 1 from if_neg (fun h => hD9 h.2.2.2.1))).trans rfl) (vx_runS (As := [.int xd, .int (nI (stV 2 (tN xa))), .int (nI (stV 3 (tN xa)))]) (rest := []) ⟨hx, hb, hml, hown, hts⟩ (x_needRange l E H.size xd (nI (stV 2 (tN xa))) (nI (stV 3 (tN xa))) hD9 hst) (va_cwS 3 hts gX3_part_X3_needRange rfl rfl rfl (by decide +kernel) ⟨Nat.le_of_ble_eq_true rfl, Nat.le_of_ble_eq_true rfl⟩) (preS C0 hPc hDc hS) rfl rfl hl.1 rfl (lv_room (Nat.le_of_ble_eq_true rfl)) dX3_part_36 ⟨Nat.le_of_ble_eq_true rfl, Nat.le_of_ble_eq_true rfl⟩) hr hlocks hAe C0 hP hD hS [] [0, 1, 2, 3, 4, 5, 6] [0, 1, 2, 3, 4, 5, 6] rfl rfl (by decide) (by decide) rfl (by decide)
      · skip
        have hPc := hP.pick (ws' := []) [] rfl
        have hDc := hD.sub (ws' := []) [] (by decide) rfl
        exact kcX (wr := [(aO, o3 aLy aLg aDa aKs (nI lst)), (aLy, o0 (nI n) aK aX aY aF aS aL), (aK, ia E nI 16 kd), (aX, ia E nI 16 xs), (aY, ia E nI 16 ys), (aF, ia E nI 16 fi), (aS, ia E nI 16 se)]) ((congrArg (xM xA xS xS) (show parC n xa xb xc xd xe = 1 from if_neg (fun h => hC h.2.2.1))).trans rfl) (vx_runS (As := [.int xc, .int (nI 0), .int (nI 15)]) (rest := []) ⟨hx, hb, hml, hown, hts⟩ (x_needRange l E H.size xc (nI 0) (nI 15) hC hst) (va_cwS 3 hts gX3_part_X3_needRange rfl rfl rfl (by decide +kernel) ⟨Nat.le_of_ble_eq_true rfl, Nat.le_of_ble_eq_true rfl⟩) (preS C0 hPc hDc hS) rfl rfl hl.1 rfl (lv_room (Nat.le_of_ble_eq_true rfl)) dX3_part_17 ⟨Nat.le_of_ble_eq_true rfl, Nat.le_of_ble_eq_true rfl⟩) hr hlocks hAe C0 hP hD hS [] [0, 1, 2, 3, 4, 5, 6] [0, 1, 2, 3, 4, 5, 6] rfl rfl (by decide) (by decide) rfl (by decide)
    · skip
      have hPc := hP.pick (ws' := []) [] rfl
      have hDc := hD.sub (ws' := []) [] (by decide) rfl
      exact kcX (wr := [(aO, o3 aLy aLg aDa aKs (nI lst)), (aLy, o0 (nI n) aK aX aY aF aS aL), (aK, ia E nI 16 kd), (aX, ia E nI 16 xs), (aY, ia E nI 16 ys), (aF, ia E nI 16 fi), (aS, ia E nI 16 se)]) ((congrArg (xM xA xS xS) (show parC n xa xb xc xd xe = 1 from if_neg (fun h => hB h.2.1))).trans rfl) (vx_runS (As := [.int xb, .int (nI 0), .int (nI 15)]) (rest := []) ⟨hx, hb, hml, hown, hts⟩ (x_needRange l E H.size xb (nI 0) (nI 15) hB hst) (va_cwS 3 hts gX3_part_X3_needRange rfl rfl rfl (by decide +kernel) ⟨Nat.le_of_ble_eq_true rfl, Nat.le_of_ble_eq_true rfl⟩) (preS C0 hPc hDc hS) rfl rfl hl.1 rfl (lv_room (Nat.le_of_ble_eq_true rfl)) dX3_part_10 ⟨Nat.le_of_ble_eq_true rfl, Nat.le_of_ble_eq_true rfl⟩) hr hlocks hAe C0 hP hD hS [] [0, 1, 2, 3, 4, 5, 6] [0, 1, 2, 3, 4, 5, 6] rfl rfl (by decide) (by decide) rfl (by decide)
  · skip
    have hPc := hP.pick (ws' := []) [] rfl
    have hDc := hD.sub (ws' := []) [] (by decide) rfl
    exact kcX (wr := [(aO, o3 aLy aLg aDa aKs (nI lst)), (aLy, o0 (nI n) aK aX aY aF aS aL), (aK, ia E nI 16 kd), (aX, ia E nI 16 xs), (aY, ia E nI 16 ys), (aF, ia E nI 16 fi), (aS, ia E nI 16 se)]) ((congrArg (xM xA xS xS) (show parC n xa xb xc xd xe = 1 from if_neg (fun h => hA h.1))).trans rfl) (vx_runS (As := [.int xa, .int (nI 0), .int (nI 5)]) (rest := []) ⟨hx, hb, hml, hown, hts⟩ (x_needRange l E H.size xa (nI 0) (nI 5) hA hst) (va_cwS 3 hts gX3_part_X3_needRange rfl rfl rfl (by decide +kernel) ⟨Nat.le_of_ble_eq_true rfl, Nat.le_of_ble_eq_true rfl⟩) (preS C0 hPc hDc hS) rfl rfl hl.1 rfl (lv_room (Nat.le_of_ble_eq_true rfl)) dX3_part_3 ⟨Nat.le_of_ble_eq_true rfl, Nat.le_of_ble_eq_true rfl⟩) hr hlocks hAe C0 hP hD hS [] [0, 1, 2, 3, 4, 5, 6] [0, 1, 2, 3, 4, 5, 6] rfl rfl (by decide) (by decide) rfl (by decide)

set_option maxHeartbeats 4000000 in
set_option maxRecDepth 100000 in
theorem c_set (l : Launch) (E : EnvT) (sz : Nat) (xp xv : Int32) (aO aLg aDa aKs lst : Nat) (aLy aK aX aY aF aS aL n : Nat) (kd se : Nat → Nat) (h : setC n kd xp xv = 0) (hn : n ≤ 16) (hk : ∀ j, j < n → kd j ≤ 5) : MI l yX3_set wsX3_set ({ frames := 1, cells := 0, slots := 0, locals := 22 }) E sz [.ref aO, .int xp, .int xv] [(aO, o3 aLy aLg aDa aKs (nI lst)), (aLy, o0 (nI n) aK aX aY aF aS aL), (aK, ia E nI 16 kd), (aS, ia E nI 16 se)] (fun (r : Int32) (_ : Unit) => r = nI (se (tN xp))) (fun _ => [(aO, o3 aLy aLg aDa aKs (nI lst)), (aLy, o0 (nI n) aK aX aY aF aS aL), (aK, ia E nI 16 kd), (aS, ia E nI 16 (va_up se (tN xp) (tN xv)))]) := by
  refine enI (cc := cX3_set) (maxL := 4) (ret := .int) (by decide +kernel) rfl (Nat.le_of_ble_eq_true rfl) ?_
  intro p e s m below meth c A ls hx hb hr hml hts hown hlocks hAe C0 hP hD hS hl
  have hown : s.vm.findClass RX3 = some m.cls := hown
  have hl : lv_has ls 4 [(0, .ref aO), (1, .int xp), (2, .int xv)] := hl
  have iX0 : ∀ w ∈ u_ws RX0 TX0 7, w ∈ wsX3_set := by decide +kernel
  have iX3 : ∀ w ∈ u_ws RX3 TX3 5, w ∈ wsX3_set := by decide +kernel
  obtain ⟨H, hHe⟩ : ∃ z, z = s.heap := ⟨_, rfl⟩
  obtain ⟨locs, hLe⟩ : ∃ z : List Loc, z = [] := ⟨_, rfl⟩
  have hP : va_P E.1 vwCl [(aO, o3 aLy aLg aDa aKs (nI lst)), (aLy, o0 (nI n) aK aX aY aF aS aL), (aK, ia E nI 16 kd), (aS, ia E nI 16 se)] H := by rw [hHe]; exact hP
  have hD : va_D A [(aO, o3 aLy aLg aDa aKs (nI lst)), (aLy, o0 (nI n) aK aX aY aF aS aL), (aK, ia E nI 16 kd), (aS, ia E nI 16 se)] := hD
  have hS : va_S A s.heap H locs := by rw [hHe, hLe]; exact hS
  suffices hgo : W p l e _ s m _ below meth c H locs 0 0 _ (F0 m 0 ls []) by rw [hHe, hLe] at hgo; exact hgo
  clear hHe hLe
  obtain ⟨hP9, hV9⟩ := setC_0 h
  have htn := cL_le (by omega) hP9
  have hkk := hk _ htn
  refine lv_aload_n hx hb dX3_set_0 rfl (lv_at hl 0 rfl) ?_
  refine lv_iload_n hx hb dX3_set_1 rfl (lv_at hl 1 rfl) ?_
  have hPc := hP.pick (ws' := [(aO, o3 aLy aLg aDa aKs (nI lst)), (aLy, o0 (nI n) aK aX aY aF aS aL)]) [0, 1] rfl
  have hDc := hD.sub (ws' := [(aO, o3 aLy aLg aDa aKs (nI lst)), (aLy, o0 (nI n) aK aX aY aF aS aL)]) [0, 1] (by decide) rfl
  refine kcV (wr := [(aK, ia E nI 16 kd), (aS, ia E nI 16 se)]) (w1 := fun _ : Unit => [(aO, o3 aLy aLg aDa aKs (nI lst)), (aLy, o0 (nI n) aK aX aY aF aS aL)]) (w2 := fun _ => [(aO, o3 aLy aLg aDa aKs (nI lst)), (aLy, o0 (nI n) aK aX aY aF aS aL), (aK, ia E nI 16 kd), (aS, ia E nI 16 se)]) (va_runV (As := [.int xp]) (rest := []) ⟨hx, hb, hml, hown, hts⟩ (c_needPart l E H.size xp aO aLg aDa aKs lst aLy aK aX aY aF aS aL n hP9 (hn)) (cwV 1 hts gX3_set_X3_needPart rfl rfl rfl (by decide +kernel) ⟨Nat.le_of_ble_eq_true rfl, Nat.le_of_ble_eq_true rfl⟩) (preV C0 hPc hDc hS 0 rfl rfl) rfl rfl hl.1 rfl (lv_room (Nat.le_of_ble_eq_true rfl)) dX3_set_2 ⟨Nat.le_refl _, Nat.le_refl _⟩) C0 hP hD hS [0, 1] [2, 3] [2, 3, 0, 1] rfl rfl (by decide) (by decide) (fun _ => rfl) (by decide) (fun _u H locs _hw hP hD hS => ?_)
  have hP : va_P E.1 vwCl [(aO, o3 aLy aLg aDa aKs (nI lst)), (aLy, o0 (nI n) aK aX aY aF aS aL), (aK, ia E nI 16 kd), (aS, ia E nI 16 se)] H := hP
  have hD : va_D A [(aO, o3 aLy aLg aDa aKs (nI lst)), (aLy, o0 (nI n) aK aX aY aF aS aL), (aK, ia E nI 16 kd), (aS, ia E nI 16 se)] := hD
  refine lv_iload_n hx hb dX3_set_5 rfl (lv_at hl 2 rfl) ?_
  refine lv_iconst (v := nI 0) hx hb dX3_set_6 (by decide) ?_
  refine k_gets (k := 4) hx hb C0 hS hown (by decide) (hts (.fieldLink RX3 56 "Ringresonance" "MOST_SECOND" "[I") (by decide +kernel)) dX3_set_7 ?_
  refine lv_aload_n hx hb dX3_set_10 rfl (lv_at hl 0 rfl) ?_
  refine va_get (D := E.1) (ci := 3) (v := .ref aLy) (C := RX3) (T := TX3) (N := 5) hx hb hts iX3 hown C0.1 hP 0 rfl rfl 0 (by decide) (hts (.fieldLink RX3 10 "Ringresonance" "layout" "LRingresonance$Layout;") (by decide +kernel)) (fun _ h9 => h9) rfl dX3_set_11 ?_
  refine va_get (D := E.1) (ci := 0) (v := .ref aK) (C := RX0) (T := TX0) (N := 7) hx hb hts iX0 hown C0.1 hP 1 rfl rfl 1 (by decide) (hts (.fieldLink RX3 77 "Ringresonance$Layout" "kinds" "[I") (by decide +kernel)) (fun _ h9 => h9) rfl dX3_set_14 ?_
  refine lv_iload_n hx hb dX3_set_17 rfl (lv_at hl 1 rfl) ?_
  refine lv_ri (y := (nI (tN xp))) (tN_eq hP9) ?_
  refine k_iald (e := (tN xp)) (g := nI) (n := 16) hx hb C0 hP 2 rfl (by omega) (by omega) dX3_set_18 ?_
  have hPc := hP.pick (ws' := []) [] rfl
  have hDc := hD.sub (ws' := []) [] (by decide) rfl
  refine kcI (wr := [(aO, o3 aLy aLg aDa aKs (nI lst)), (aLy, o0 (nI n) aK aX aY aF aS aL), (aK, ia E nI 16 kd), (aS, ia E nI 16 se)]) (w1 := fun _ : Unit => []) (w2 := fun _ => [(aO, o3 aLy aLg aDa aKs (nI lst)), (aLy, o0 (nI n) aK aX aY aF aS aL), (aK, ia E nI 16 kd), (aS, ia E nI 16 se)]) (va_runS (As := [.ref (eT E 4), .int (nI (kd (tN xp)))]) (rest := [.int (nI 0), .int xv]) ⟨hx, hb, hml, hown, hts⟩ (c_ofKind l E H.size 4 (kd (tN xp)) (by decide) (by omega)) (va_cwS 2 hts gX3_set_X3_ofKind rfl rfl rfl (by decide +kernel) ⟨Nat.le_of_ble_eq_true rfl, Nat.le_of_ble_eq_true rfl⟩) (preS C0 hPc hDc hS) rfl rfl hl.1 rfl (lv_room (Nat.le_of_ble_eq_true rfl)) dX3_set_19 ⟨Nat.le_refl _, Nat.le_refl _⟩) C0 hP hD hS [] [0, 1, 2, 3] [0, 1, 2, 3] rfl rfl (by decide) (by decide) (fun _ => rfl) (by decide) (fun r_9 _u H locs hw hP hD hS => ?_)
  have hP : va_P E.1 vwCl [(aO, o3 aLy aLg aDa aKs (nI lst)), (aLy, o0 (nI n) aK aX aY aF aS aL), (aK, ia E nI 16 kd), (aS, ia E nI 16 se)] H := hP
  have hD : va_D A [(aO, o3 aLy aLg aDa aKs (nI lst)), (aLy, o0 (nI n) aK aX aY aF aS aL), (aK, ia E nI 16 kd), (aS, ia E nI 16 se)] := hD
  have hw : r_9 = nI (stV 4 (kd (tN xp))) := hw
  subst hw
  have hPc := hP.pick (ws' := []) [] rfl
  have hDc := hD.sub (ws' := []) [] (by decide) rfl
  refine kcV (wr := [(aO, o3 aLy aLg aDa aKs (nI lst)), (aLy, o0 (nI n) aK aX aY aF aS aL), (aK, ia E nI 16 kd), (aS, ia E nI 16 se)]) (w1 := fun _ : Unit => []) (w2 := fun _ => [(aO, o3 aLy aLg aDa aKs (nI lst)), (aLy, o0 (nI n) aK aX aY aF aS aL), (aK, ia E nI 16 kd), (aS, ia E nI 16 se)]) (va_runS (As := [.int xv, .int (nI 0), .int (nI (stV 4 (kd (tN xp))))]) (rest := []) ⟨hx, hb, hml, hown, hts⟩ (c_needRange l E H.size xv (nI 0) (nI (stV 4 (kd (tN xp)))) hV9) (va_cwS 3 hts gX3_set_X3_needRange rfl rfl rfl (by decide +kernel) ⟨Nat.le_of_ble_eq_true rfl, Nat.le_of_ble_eq_true rfl⟩) (preS C0 hPc hDc hS) rfl rfl hl.1 rfl (lv_room (Nat.le_of_ble_eq_true rfl)) dX3_set_22 ⟨Nat.le_refl _, Nat.le_refl _⟩) C0 hP hD hS [] [0, 1, 2, 3] [0, 1, 2, 3] rfl rfl (by decide) (by decide) (fun _ => rfl) (by decide) (fun _u H locs _hw hP hD hS => ?_)
  have hP : va_P E.1 vwCl [(aO, o3 aLy aLg aDa aKs (nI lst)), (aLy, o0 (nI n) aK aX aY aF aS aL), (aK, ia E nI 16 kd), (aS, ia E nI 16 se)] H := hP
  have hD : va_D A [(aO, o3 aLy aLg aDa aKs (nI lst)), (aLy, o0 (nI n) aK aX aY aF aS aL), (aK, ia E nI 16 kd), (aS, ia E nI 16 se)] := hD
  refine lv_aload_n hx hb dX3_set_25 rfl (lv_at hl 0 rfl) ?_
  refine va_get (D := E.1) (ci := 3) (v := .ref aLy) (C := RX3) (T := TX3) (N := 5) hx hb hts iX3 hown C0.1 hP 0 rfl rfl 0 (by decide) (hts (.fieldLink RX3 10 "Ringresonance" "layout" "LRingresonance$Layout;") (by decide +kernel)) (fun _ h9 => h9) rfl dX3_set_26 ?_
  refine va_get (D := E.1) (ci := 0) (v := .ref aS) (C := RX0) (T := TX0) (N := 7) hx hb hts iX0 hown C0.1 hP 1 rfl rfl 5 (by decide) (hts (.fieldLink RX3 80 "Ringresonance$Layout" "seconds" "[I") (by decide +kernel)) (fun _ h9 => h9) rfl dX3_set_29 ?_
  refine lv_iload_n hx hb dX3_set_32 rfl (lv_at hl 1 rfl) ?_
  refine lv_ri (y := (nI (tN xp))) (tN_eq hP9) ?_
  refine k_iald (e := (tN xp)) (g := nI) (n := 16) hx hb C0 hP 3 rfl (by omega) (by omega) dX3_set_33 ?_
  refine lv_istore_n (lv' := [(3, .int (nI (se (tN xp)))), (0, .ref aO), (1, .int xp), (2, .int xv)]) hx hb dX3_set_34 rfl hl (by decide) rfl (fun ls hl => ?_)
  refine lv_aload_n hx hb dX3_set_35 rfl (lv_at hl 1 rfl) ?_
  refine va_get (D := E.1) (ci := 3) (v := .ref aLy) (C := RX3) (T := TX3) (N := 5) hx hb hts iX3 hown C0.1 hP 0 rfl rfl 0 (by decide) (hts (.fieldLink RX3 10 "Ringresonance" "layout" "LRingresonance$Layout;") (by decide +kernel)) (fun _ h9 => h9) rfl dX3_set_36 ?_
  refine va_get (D := E.1) (ci := 0) (v := .ref aS) (C := RX0) (T := TX0) (N := 7) hx hb hts iX0 hown C0.1 hP 1 rfl rfl 5 (by decide) (hts (.fieldLink RX3 80 "Ringresonance$Layout" "seconds" "[I") (by decide +kernel)) (fun _ h9 => h9) rfl dX3_set_39 ?_
  refine lv_iload_n hx hb dX3_set_42 rfl (lv_at hl 2 rfl) ?_
  refine lv_ri (y := (nI (tN xp))) (tN_eq hP9) ?_
  refine lv_iload_n hx hb dX3_set_43 rfl (lv_at hl 3 rfl) ?_
  refine lv_ri (y := (nI (tN xv))) (tN_eq hV9) ?_
  refine k_iast (e := (tN xp)) (v := (tN xv)) (g := nI) (n := 16) hx hb C0 hP hD hS 3 rfl rfl (by omega) (by omega) dX3_set_44 (fun H locs hP hD hS => ?_)
  have hP : va_P E.1 vwCl [(aO, o3 aLy aLg aDa aKs (nI lst)), (aLy, o0 (nI n) aK aX aY aF aS aL), (aK, ia E nI 16 kd), (aS, ia E nI 16 (va_up se (tN xp) (tN xv)))] H := hP
  have hD : va_D A [(aO, o3 aLy aLg aDa aKs (nI lst)), (aLy, o0 (nI n) aK aX aY aF aS aL), (aK, ia E nI 16 kd), (aS, ia E nI 16 (va_up se (tN xp) (tN xv)))] := hD
  refine lv_iload_n hx hb dX3_set_45 rfl (lv_at hl 0 rfl) ?_
  have q_1 : (nI (se (tN xp))) = (nI (se (tN xp))) := rfl
  exact exI hx hb hr hlocks hAe hS () q_1 hP hD dX3_set_46

set_option maxHeartbeats 4000000 in
set_option maxRecDepth 100000 in
theorem x_set (l : Launch) (E : EnvT) (sz : Nat) (xp xv : Int32) (aO aLg aDa aKs lst : Nat) (aLy aK aX aY aF aS aL n : Nat) (kd se : Nat → Nat) (h : ¬ (setC n kd xp xv = 0)) (hn : n ≤ 16) (hk : ∀ j, j < n → kd j ≤ 5) (hst : l.stackTraces = false) : MX l yX3_set wsX3_set ({ frames := 7, cells := 1, slots := 6, locals := 104 }) E sz [.ref aO, .int xp, .int xv] [(aO, o3 aLy aLg aDa aKs (nI lst)), (aLy, o0 (nI n) aK aX aY aF aS aL), (aK, ia E nI 16 kd), (aS, ia E nI 16 se)] (xM xI xA xA (setC n kd xp xv)) := by
  refine enX (cc := cX3_set) (maxL := 4) (ret := (some .int)) (by decide +kernel) rfl (Nat.le_of_ble_eq_true rfl) ?_
  intro p e s m below meth c A ls hx hb hr hml hts hown hlocks hAe C0 hP hD hS hl
  have hown : s.vm.findClass RX3 = some m.cls := hown
  have hl : lv_has ls 4 [(0, .ref aO), (1, .int xp), (2, .int xv)] := hl
  have iX0 : ∀ w ∈ u_ws RX0 TX0 7, w ∈ wsX3_set := by decide +kernel
  have iX3 : ∀ w ∈ u_ws RX3 TX3 5, w ∈ wsX3_set := by decide +kernel
  obtain ⟨H, hHe⟩ : ∃ z, z = s.heap := ⟨_, rfl⟩
  obtain ⟨locs, hLe⟩ : ∃ z : List Loc, z = [] := ⟨_, rfl⟩
  have hP : va_P E.1 vwCl [(aO, o3 aLy aLg aDa aKs (nI lst)), (aLy, o0 (nI n) aK aX aY aF aS aL), (aK, ia E nI 16 kd), (aS, ia E nI 16 se)] H := by rw [hHe]; exact hP
  have hD : va_D A [(aO, o3 aLy aLg aDa aKs (nI lst)), (aLy, o0 (nI n) aK aX aY aF aS aL), (aK, ia E nI 16 kd), (aS, ia E nI 16 se)] := hD
  have hS : va_S A s.heap H locs := by rw [hHe, hLe]; exact hS
  suffices hgo : W p l e _ s m _ below meth c H locs 0 0 _ (F0 m 0 ls []) by rw [hHe, hLe] at hgo; exact hgo
  clear hHe hLe
  refine lv_aload_n hx hb dX3_set_0 rfl (lv_at hl 0 rfl) ?_
  refine lv_iload_n hx hb dX3_set_1 rfl (lv_at hl 1 rfl) ?_
  by_cases hP9 : nI 0 ≤ xp ∧ xp ≤ cL n
  · skip
    have htn := cL_le (by omega) hP9
    have hkk := hk _ htn
    have hPc := hP.pick (ws' := [(aO, o3 aLy aLg aDa aKs (nI lst)), (aLy, o0 (nI n) aK aX aY aF aS aL)]) [0, 1] rfl
    have hDc := hD.sub (ws' := [(aO, o3 aLy aLg aDa aKs (nI lst)), (aLy, o0 (nI n) aK aX aY aF aS aL)]) [0, 1] (by decide) rfl
    refine kcV (wr := [(aK, ia E nI 16 kd), (aS, ia E nI 16 se)]) (w1 := fun _ : Unit => [(aO, o3 aLy aLg aDa aKs (nI lst)), (aLy, o0 (nI n) aK aX aY aF aS aL)]) (w2 := fun _ => [(aO, o3 aLy aLg aDa aKs (nI lst)), (aLy, o0 (nI n) aK aX aY aF aS aL), (aK, ia E nI 16 kd), (aS, ia E nI 16 se)]) (va_runV (As := [.int xp]) (rest := []) ⟨hx, hb, hml, hown, hts⟩ (c_needPart l E H.size xp aO aLg aDa aKs lst aLy aK aX aY aF aS aL n hP9 (hn)) (cwV 1 hts gX3_set_X3_needPart rfl rfl rfl (by decide +kernel) ⟨Nat.le_of_ble_eq_true rfl, Nat.le_of_ble_eq_true rfl⟩) (preV C0 hPc hDc hS 0 rfl rfl) rfl rfl hl.1 rfl (lv_room (Nat.le_of_ble_eq_true rfl)) dX3_set_2 ⟨Nat.le_of_ble_eq_true rfl, Nat.le_of_ble_eq_true rfl⟩) C0 hP hD hS [0, 1] [2, 3] [2, 3, 0, 1] rfl rfl (by decide) (by decide) (fun _ => rfl) (by decide) (fun _u H locs _hw hP hD hS => ?_)
    have hP : va_P E.1 vwCl [(aO, o3 aLy aLg aDa aKs (nI lst)), (aLy, o0 (nI n) aK aX aY aF aS aL), (aK, ia E nI 16 kd), (aS, ia E nI 16 se)] H := hP
    have hD : va_D A [(aO, o3 aLy aLg aDa aKs (nI lst)), (aLy, o0 (nI n) aK aX aY aF aS aL), (aK, ia E nI 16 kd), (aS, ia E nI 16 se)] := hD
    refine lv_iload_n hx hb dX3_set_5 rfl (lv_at hl 2 rfl) ?_
    refine lv_iconst (v := nI 0) hx hb dX3_set_6 (by decide) ?_
    refine k_gets (k := 4) hx hb C0 hS hown (by decide) (hts (.fieldLink RX3 56 "Ringresonance" "MOST_SECOND" "[I") (by decide +kernel)) dX3_set_7 ?_
    refine lv_aload_n hx hb dX3_set_10 rfl (lv_at hl 0 rfl) ?_
    refine va_get (D := E.1) (ci := 3) (v := .ref aLy) (C := RX3) (T := TX3) (N := 5) hx hb hts iX3 hown C0.1 hP 0 rfl rfl 0 (by decide) (hts (.fieldLink RX3 10 "Ringresonance" "layout" "LRingresonance$Layout;") (by decide +kernel)) (fun _ h9 => h9) rfl dX3_set_11 ?_
    refine va_get (D := E.1) (ci := 0) (v := .ref aK) (C := RX0) (T := TX0) (N := 7) hx hb hts iX0 hown C0.1 hP 1 rfl rfl 1 (by decide) (hts (.fieldLink RX3 77 "Ringresonance$Layout" "kinds" "[I") (by decide +kernel)) (fun _ h9 => h9) rfl dX3_set_14 ?_
    refine lv_iload_n hx hb dX3_set_17 rfl (lv_at hl 1 rfl) ?_
    refine lv_ri (y := (nI (tN xp))) (tN_eq hP9) ?_
    refine k_iald (e := (tN xp)) (g := nI) (n := 16) hx hb C0 hP 2 rfl (by omega) (by omega) dX3_set_18 ?_
    have hPc := hP.pick (ws' := []) [] rfl
    have hDc := hD.sub (ws' := []) [] (by decide) rfl
    refine kcI (wr := [(aO, o3 aLy aLg aDa aKs (nI lst)), (aLy, o0 (nI n) aK aX aY aF aS aL), (aK, ia E nI 16 kd), (aS, ia E nI 16 se)]) (w1 := fun _ : Unit => []) (w2 := fun _ => [(aO, o3 aLy aLg aDa aKs (nI lst)), (aLy, o0 (nI n) aK aX aY aF aS aL), (aK, ia E nI 16 kd), (aS, ia E nI 16 se)]) (va_runS (As := [.ref (eT E 4), .int (nI (kd (tN xp)))]) (rest := [.int (nI 0), .int xv]) ⟨hx, hb, hml, hown, hts⟩ (c_ofKind l E H.size 4 (kd (tN xp)) (by decide) (by omega)) (va_cwS 2 hts gX3_set_X3_ofKind rfl rfl rfl (by decide +kernel) ⟨Nat.le_of_ble_eq_true rfl, Nat.le_of_ble_eq_true rfl⟩) (preS C0 hPc hDc hS) rfl rfl hl.1 rfl (lv_room (Nat.le_of_ble_eq_true rfl)) dX3_set_19 ⟨Nat.le_of_ble_eq_true rfl, Nat.le_of_ble_eq_true rfl⟩) C0 hP hD hS [] [0, 1, 2, 3] [0, 1, 2, 3] rfl rfl (by decide) (by decide) (fun _ => rfl) (by decide) (fun r_9 _u H locs hw hP hD hS => ?_)
    have hP : va_P E.1 vwCl [(aO, o3 aLy aLg aDa aKs (nI lst)), (aLy, o0 (nI n) aK aX aY aF aS aL), (aK, ia E nI 16 kd), (aS, ia E nI 16 se)] H := hP
    have hD : va_D A [(aO, o3 aLy aLg aDa aKs (nI lst)), (aLy, o0 (nI n) aK aX aY aF aS aL), (aK, ia E nI 16 kd), (aS, ia E nI 16 se)] := hD
    have hw : r_9 = nI (stV 4 (kd (tN xp))) := hw
    subst hw
    by_cases hV9 : (nI 0) ≤ xv ∧ xv ≤ (nI (stV 4 (kd (tN xp))))
    · skip
      exact absurd (show setC n kd xp xv = 0 from (if_pos hP9).trans (if_pos hV9)) h
    · skip
      have hPc := hP.pick (ws' := []) [] rfl
      have hDc := hD.sub (ws' := []) [] (by decide) rfl
      exact kcX (wr := [(aO, o3 aLy aLg aDa aKs (nI lst)), (aLy, o0 (nI n) aK aX aY aF aS aL), (aK, ia E nI 16 kd), (aS, ia E nI 16 se)]) ((congrArg (xM xI xA xA) (show setC n kd xp xv = 2 from (if_pos hP9).trans (if_neg hV9))).trans rfl) (vx_runS (As := [.int xv, .int (nI 0), .int (nI (stV 4 (kd (tN xp))))]) (rest := []) ⟨hx, hb, hml, hown, hts⟩ (x_needRange l E H.size xv (nI 0) (nI (stV 4 (kd (tN xp)))) hV9 hst) (va_cwS 3 hts gX3_set_X3_needRange rfl rfl rfl (by decide +kernel) ⟨Nat.le_of_ble_eq_true rfl, Nat.le_of_ble_eq_true rfl⟩) (preS C0 hPc hDc hS) rfl rfl hl.1 rfl (lv_room (Nat.le_of_ble_eq_true rfl)) dX3_set_22 ⟨Nat.le_of_ble_eq_true rfl, Nat.le_of_ble_eq_true rfl⟩) hr hlocks hAe C0 hP hD hS [] [0, 1, 2, 3] [0, 1, 2, 3] rfl rfl (by decide) (by decide) rfl (by decide)
  · skip
    have hPc := hP.pick (ws' := [(aO, o3 aLy aLg aDa aKs (nI lst)), (aLy, o0 (nI n) aK aX aY aF aS aL)]) [0, 1] rfl
    have hDc := hD.sub (ws' := [(aO, o3 aLy aLg aDa aKs (nI lst)), (aLy, o0 (nI n) aK aX aY aF aS aL)]) [0, 1] (by decide) rfl
    exact kcX (wr := [(aK, ia E nI 16 kd), (aS, ia E nI 16 se)]) ((congrArg (xM xI xA xA) (show setC n kd xp xv = 1 from if_neg hP9)).trans rfl) (vx_runV (As := [.int xp]) (rest := []) ⟨hx, hb, hml, hown, hts⟩ (x_needPart l E H.size xp aO aLg aDa aKs lst aLy aK aX aY aF aS aL n hP9 (hn) hst) (cwV 1 hts gX3_set_X3_needPart rfl rfl rfl (by decide +kernel) ⟨Nat.le_of_ble_eq_true rfl, Nat.le_of_ble_eq_true rfl⟩) (preV C0 hPc hDc hS 0 rfl rfl) rfl rfl hl.1 rfl (lv_room (Nat.le_of_ble_eq_true rfl)) dX3_set_2 ⟨Nat.le_of_ble_eq_true rfl, Nat.le_of_ble_eq_true rfl⟩) hr hlocks hAe C0 hP hD hS [0, 1] [2, 3] [2, 3, 0, 1] rfl rfl (by decide) (by decide) rfl (by decide)

set_option maxHeartbeats 4000000 in
set_option maxRecDepth 100000 in
theorem c_lead (l : Launch) (E : EnvT) (sz : Nat) (xp xo xq xi : Int32) (aO aLg aDa aKs lst : Nat) (aLy aK aX aY aF aS aL n : Nat) (kd le : Nat → Nat) (h : leaC n kd le xp xo xq xi = 0) (hn : n ≤ 16) (hk : ∀ j, j < n → kd j ≤ 5) (hL : ∀ j, j < 32 → le j ≤ 32) : MI l yX3_lead wsX3_lead ({ frames := 2, cells := 0, slots := 0, locals := 43 }) E sz [.ref aO, .int xp, .int xo, .int xq, .int xi] [(aO, o3 aLy aLg aDa aKs (nI lst)), (aLy, o0 (nI n) aK aX aY aF aS aL), (aK, ia E nI 16 kd), (aL, ia E cL 32 le)] (fun (r : Int32) (_ : Unit) => r = cL (ledF (le (tN xp * 2 + tN xo)))) (fun _ => [(aO, o3 aLy aLg aDa aKs (nI lst)), (aLy, o0 (nI n) aK aX aY aF aS aL), (aK, ia E nI 16 kd), (aL, ia E cL 32 (va_up le (tN xp * 2 + tN xo) (tN xq * 2 + tN xi + 1)))]) := by
  refine enI (cc := cX3_lead) (maxL := 7) (ret := .int) (by decide +kernel) rfl (Nat.le_of_ble_eq_true rfl) ?_
  intro p e s m below meth c A ls hx hb hr hml hts hown hlocks hAe C0 hP hD hS hl
  have hown : s.vm.findClass RX3 = some m.cls := hown
  have hl : lv_has ls 7 [(0, .ref aO), (1, .int xp), (2, .int xo), (3, .int xq), (4, .int xi)] := hl
  have iX3 : ∀ w ∈ u_ws RX3 TX3 5, w ∈ wsX3_lead := by decide +kernel
  obtain ⟨H, hHe⟩ : ∃ z, z = s.heap := ⟨_, rfl⟩
  obtain ⟨locs, hLe⟩ : ∃ z : List Loc, z = [] := ⟨_, rfl⟩
  have hP : va_P E.1 vwCl [(aO, o3 aLy aLg aDa aKs (nI lst)), (aLy, o0 (nI n) aK aX aY aF aS aL), (aK, ia E nI 16 kd), (aL, ia E cL 32 le)] H := by rw [hHe]; exact hP
  have hD : va_D A [(aO, o3 aLy aLg aDa aKs (nI lst)), (aLy, o0 (nI n) aK aX aY aF aS aL), (aK, ia E nI 16 kd), (aL, ia E cL 32 le)] := hD
  have hS : va_S A s.heap H locs := by rw [hHe, hLe]; exact hS
  suffices hgo : W p l e _ s m _ below meth c H locs 0 0 _ (F0 m 0 ls []) by rw [hHe, hLe] at hgo; exact hgo
  clear hHe hLe
  have hA0 : leaA n kd xp xo xq xi = 0 := Decidable.byContradiction fun q => q ((leaC_B (le := le) q).symm.trans h)
  obtain ⟨hO9, hI9⟩ := leaA_0 hA0
  have htp := cL_le (by omega) hO9.1
  have hkp := stV1_le (hk _ htp)
  have hto := cL_le (by omega) hO9.2
  have htq := cL_le (by omega) hI9.1
  have hkq := stV0_le (hk _ htq)
  have hti := cL_le (by omega) hI9.2
  have h9 := (leaC_A (le := le) hA0).symm.trans h
  rw [tk_link, Nat.mul_comm 2 (tN xp), Nat.mul_comm 2 (tN xq)] at h9
  refine lv_aload_n hx hb dX3_lead_0 rfl (lv_at hl 0 rfl) ?_
  refine lv_iload_n hx hb dX3_lead_1 rfl (lv_at hl 1 rfl) ?_
  refine lv_iload_n hx hb dX3_lead_2 rfl (lv_at hl 2 rfl) ?_
  have hPc := hP.pick (ws' := [(aO, o3 aLy aLg aDa aKs (nI lst)), (aLy, o0 (nI n) aK aX aY aF aS aL), (aK, ia E nI 16 kd)]) [0, 1, 2] rfl
  have hDc := hD.sub (ws' := [(aO, o3 aLy aLg aDa aKs (nI lst)), (aLy, o0 (nI n) aK aX aY aF aS aL), (aK, ia E nI 16 kd)]) [0, 1, 2] (by decide) rfl
  refine kcV (wr := [(aL, ia E cL 32 le)]) (w1 := fun _ : Unit => [(aO, o3 aLy aLg aDa aKs (nI lst)), (aLy, o0 (nI n) aK aX aY aF aS aL), (aK, ia E nI 16 kd)]) (w2 := fun _ => [(aO, o3 aLy aLg aDa aKs (nI lst)), (aLy, o0 (nI n) aK aX aY aF aS aL), (aK, ia E nI 16 kd), (aL, ia E cL 32 le)]) (va_runV (As := [.int xp, .int xo]) (rest := []) ⟨hx, hb, hml, hown, hts⟩ (c_needOutput l E H.size xp xo aO aLg aDa aKs lst aLy aK aX aY aF aS aL n kd hO9 (hn) (hk)) (cwV 2 hts gX3_lead_X3_needOutput rfl rfl rfl (by decide +kernel) ⟨Nat.le_of_ble_eq_true rfl, Nat.le_of_ble_eq_true rfl⟩) (preV C0 hPc hDc hS 0 rfl rfl) rfl rfl hl.1 rfl (lv_room (Nat.le_of_ble_eq_true rfl)) dX3_lead_3 ⟨Nat.le_refl _, Nat.le_refl _⟩) C0 hP hD hS [0, 1, 2] [3] [1, 2, 3, 0] rfl rfl (by decide) (by decide) (fun _ => rfl) (by decide) (fun _u H locs _hw hP hD hS => ?_)
  have hP : va_P E.1 vwCl [(aO, o3 aLy aLg aDa aKs (nI lst)), (aLy, o0 (nI n) aK aX aY aF aS aL), (aK, ia E nI 16 kd), (aL, ia E cL 32 le)] H := hP
  have hD : va_D A [(aO, o3 aLy aLg aDa aKs (nI lst)), (aLy, o0 (nI n) aK aX aY aF aS aL), (aK, ia E nI 16 kd), (aL, ia E cL 32 le)] := hD
  refine lv_aload_n hx hb dX3_lead_6 rfl (lv_at hl 0 rfl) ?_
  refine lv_iload_n hx hb dX3_lead_7 rfl (lv_at hl 3 rfl) ?_
  refine lv_iload hx hb dX3_lead_8 (lv_at hl 4 rfl) ?_
  have hPc := hP.pick (ws' := [(aO, o3 aLy aLg aDa aKs (nI lst)), (aLy, o0 (nI n) aK aX aY aF aS aL), (aK, ia E nI 16 kd)]) [0, 1, 2] rfl
  have hDc := hD.sub (ws' := [(aO, o3 aLy aLg aDa aKs (nI lst)), (aLy, o0 (nI n) aK aX aY aF aS aL), (aK, ia E nI 16 kd)]) [0, 1, 2] (by decide) rfl
  refine kcV (wr := [(aL, ia E cL 32 le)]) (w1 := fun _ : Unit => [(aO, o3 aLy aLg aDa aKs (nI lst)), (aLy, o0 (nI n) aK aX aY aF aS aL), (aK, ia E nI 16 kd)]) (w2 := fun _ => [(aO, o3 aLy aLg aDa aKs (nI lst)), (aLy, o0 (nI n) aK aX aY aF aS aL), (aK, ia E nI 16 kd), (aL, ia E cL 32 le)]) (va_runV (As := [.int xq, .int xi]) (rest := []) ⟨hx, hb, hml, hown, hts⟩ (c_needInput l E H.size xq xi aO aLg aDa aKs lst aLy aK aX aY aF aS aL n kd hI9 (hn) (hk)) (cwV 2 hts gX3_lead_X3_needInput rfl rfl rfl (by decide +kernel) ⟨Nat.le_of_ble_eq_true rfl, Nat.le_of_ble_eq_true rfl⟩) (preV C0 hPc hDc hS 0 rfl rfl) rfl rfl hl.1 rfl (lv_room (Nat.le_of_ble_eq_true rfl)) dX3_lead_10 ⟨Nat.le_refl _, Nat.le_refl _⟩) C0 hP hD hS [0, 1, 2] [3] [1, 2, 3, 0] rfl rfl (by decide) (by decide) (fun _ => rfl) (by decide) (fun _u H locs _hw hP hD hS => ?_)
  have hP : va_P E.1 vwCl [(aO, o3 aLy aLg aDa aKs (nI lst)), (aLy, o0 (nI n) aK aX aY aF aS aL), (aK, ia E nI 16 kd), (aL, ia E cL 32 le)] H := hP
  have hD : va_D A [(aO, o3 aLy aLg aDa aKs (nI lst)), (aLy, o0 (nI n) aK aX aY aF aS aL), (aK, ia E nI 16 kd), (aL, ia E cL 32 le)] := hD
  refine lv_iload_n hx hb dX3_lead_13 rfl (lv_at hl 1 rfl) ?_
  refine lv_ri (y := (nI (tN xp))) (tN_eq hO9.1) ?_
  refine lv_iload_n hx hb dX3_lead_14 rfl (lv_at hl 2 rfl) ?_
  refine lv_ri (y := (nI (tN xo))) (tN_eq hO9.2) ?_
  have hPc := hP.pick (ws' := []) [] rfl
  have hDc := hD.sub (ws' := []) [] (by decide) rfl
  refine kcI (wr := [(aO, o3 aLy aLg aDa aKs (nI lst)), (aLy, o0 (nI n) aK aX aY aF aS aL), (aK, ia E nI 16 kd), (aL, ia E cL 32 le)]) (w1 := fun _ : Unit => []) (w2 := fun _ => [(aO, o3 aLy aLg aDa aKs (nI lst)), (aLy, o0 (nI n) aK aX aY aF aS aL), (aK, ia E nI 16 kd), (aL, ia E cL 32 le)]) (va_runS (As := [.int (nI (tN xp)), .int (nI (tN xo))]) (rest := []) ⟨hx, hb, hml, hown, hts⟩ (c_portOf l E H.size (tN xp) (tN xo) ) (va_cwS 2 hts gX3_lead_X3_portOf rfl rfl rfl (by decide +kernel) ⟨Nat.le_of_ble_eq_true rfl, Nat.le_of_ble_eq_true rfl⟩) (preS C0 hPc hDc hS) rfl rfl hl.1 rfl (lv_room (Nat.le_of_ble_eq_true rfl)) dX3_lead_15 ⟨Nat.le_refl _, Nat.le_refl _⟩) C0 hP hD hS [] [0, 1, 2, 3] [0, 1, 2, 3] rfl rfl (by decide) (by decide) (fun _ => rfl) (by decide) (fun r_9 _u H locs hw hP hD hS => ?_)
  have hP : va_P E.1 vwCl [(aO, o3 aLy aLg aDa aKs (nI lst)), (aLy, o0 (nI n) aK aX aY aF aS aL), (aK, ia E nI 16 kd), (aL, ia E cL 32 le)] H := hP
  have hD : va_D A [(aO, o3 aLy aLg aDa aKs (nI lst)), (aLy, o0 (nI n) aK aX aY aF aS aL), (aK, ia E nI 16 kd), (aL, ia E cL 32 le)] := hD
  have hw : r_9 = nI ((tN xp) * 2 + (tN xo)) := hw
  subst hw
  refine lv_istore (lv' := [(5, .int (nI ((tN xp) * 2 + (tN xo)))), (0, .ref aO), (1, .int xp), (2, .int xo), (3, .int xq), (4, .int xi)]) hx hb dX3_lead_18 hl (by decide) rfl (fun ls hl => ?_)
  refine lv_iload_n hx hb dX3_lead_20 rfl (lv_at hl 4 rfl) ?_
  refine lv_ri (y := (nI (tN xq))) (tN_eq hI9.1) ?_
  refine lv_iload hx hb dX3_lead_21 (lv_at hl 5 rfl) ?_
  refine lv_ri (y := (nI (tN xi))) (tN_eq hI9.2) ?_
  have hPc := hP.pick (ws' := []) [] rfl
  have hDc := hD.sub (ws' := []) [] (by decide) rfl
  refine kcI (wr := [(aO, o3 aLy aLg aDa aKs (nI lst)), (aLy, o0 (nI n) aK aX aY aF aS aL), (aK, ia E nI 16 kd), (aL, ia E cL 32 le)]) (w1 := fun _ : Unit => []) (w2 := fun _ => [(aO, o3 aLy aLg aDa aKs (nI lst)), (aLy, o0 (nI n) aK aX aY aF aS aL), (aK, ia E nI 16 kd), (aL, ia E cL 32 le)]) (va_runS (As := [.int (nI (tN xq)), .int (nI (tN xi))]) (rest := []) ⟨hx, hb, hml, hown, hts⟩ (c_portOf l E H.size (tN xq) (tN xi) ) (va_cwS 2 hts gX3_lead_X3_portOf rfl rfl rfl (by decide +kernel) ⟨Nat.le_of_ble_eq_true rfl, Nat.le_of_ble_eq_true rfl⟩) (preS C0 hPc hDc hS) rfl rfl hl.1 rfl (lv_room (Nat.le_of_ble_eq_true rfl)) dX3_lead_23 ⟨Nat.le_refl _, Nat.le_refl _⟩) C0 hP hD hS [] [0, 1, 2, 3] [0, 1, 2, 3] rfl rfl (by decide) (by decide) (fun _ => rfl) (by decide) (fun r_9 _u H locs hw hP hD hS => ?_)
  have hP : va_P E.1 vwCl [(aO, o3 aLy aLg aDa aKs (nI lst)), (aLy, o0 (nI n) aK aX aY aF aS aL), (aK, ia E nI 16 kd), (aL, ia E cL 32 le)] H := hP
  have hD : va_D A [(aO, o3 aLy aLg aDa aKs (nI lst)), (aLy, o0 (nI n) aK aX aY aF aS aL), (aK, ia E nI 16 kd), (aL, ia E cL 32 le)] := hD
  have hw : r_9 = nI ((tN xq) * 2 + (tN xi)) := hw
  subst hw
  refine lv_istore (lv' := [(6, .int (nI ((tN xq) * 2 + (tN xi)))), (5, .int (nI ((tN xp) * 2 + (tN xo)))), (0, .ref aO), (1, .int xp), (2, .int xo), (3, .int xq), (4, .int xi)]) hx hb dX3_lead_26 hl (by decide) rfl (fun ls hl => ?_)
  refine lv_aload_n hx hb dX3_lead_28 rfl (lv_at hl 2 rfl) ?_
  refine va_get (D := E.1) (ci := 3) (v := .ref aLy) (C := RX3) (T := TX3) (N := 5) hx hb hts iX3 hown C0.1 hP 0 rfl rfl 0 (by decide) (hts (.fieldLink RX3 10 "Ringresonance" "layout" "LRingresonance$Layout;") (by decide +kernel)) (fun _ h9 => h9) rfl dX3_lead_29 ?_
  refine lv_iload hx hb dX3_lead_32 (lv_at hl 1 rfl) ?_
  refine lv_iload hx hb dX3_lead_34 (lv_at hl 0 rfl) ?_
  have hPc := hP.pick (ws' := [(aLy, o0 (nI n) aK aX aY aF aS aL), (aL, ia E cL 32 le)]) [1, 3] rfl
  have hDc := hD.sub (ws' := [(aLy, o0 (nI n) aK aX aY aF aS aL), (aL, ia E cL 32 le)]) [1, 3] (by decide) rfl
  refine kcI (wr := [(aO, o3 aLy aLg aDa aKs (nI lst)), (aK, ia E nI 16 kd)]) (w1 := fun _ : Unit => [(aLy, o0 (nI n) aK aX aY aF aS aL), (aL, ia E cL 32 le)]) (w2 := fun _ => [(aO, o3 aLy aLg aDa aKs (nI lst)), (aLy, o0 (nI n) aK aX aY aF aS aL), (aK, ia E nI 16 kd), (aL, ia E cL 32 le)]) (va_runV (As := [.int (nI ((tN xp) * 2 + (tN xo))), .int (nI ((tN xq) * 2 + (tN xi)))]) (rest := []) ⟨hx, hb, hml, hown, hts⟩ (c_isTaken l E H.size ((tN xp) * 2 + (tN xo)) ((tN xq) * 2 + (tN xi)) aLy aK aX aY aF aS aL n le (by omega) (by omega) (by first | exact hL | exact hL _ (by omega))) (cwV 2 hts gX3_lead_X0_isTaken rfl rfl rfl (by decide +kernel) ⟨Nat.le_of_ble_eq_true rfl, Nat.le_of_ble_eq_true rfl⟩) (preV C0 hPc hDc hS 0 rfl rfl) rfl rfl hl.1 rfl (lv_room (Nat.le_of_ble_eq_true rfl)) dX3_lead_36 ⟨Nat.le_refl _, Nat.le_refl _⟩) C0 hP hD hS [1, 3] [0, 2] [0, 2, 1, 3] rfl rfl (by decide) (by decide) (fun _ => rfl) (by decide) (fun r_9 _u H locs hw hP hD hS => ?_)
  have hP : va_P E.1 vwCl [(aO, o3 aLy aLg aDa aKs (nI lst)), (aLy, o0 (nI n) aK aX aY aF aS aL), (aK, ia E nI 16 kd), (aL, ia E cL 32 le)] H := hP
  have hD : va_D A [(aO, o3 aLy aLg aDa aKs (nI lst)), (aLy, o0 (nI n) aK aX aY aF aS aL), (aK, ia E nI 16 kd), (aL, ia E cL 32 le)] := hD
  have hw : r_9 = bI (tkn le ((tN xp) * 2 + (tN xo)) ((tN xq) * 2 + (tN xi)) 32 = true) := hw
  subst hw
  refine lv_if_eq (tgt := 52) hx hb dX3_lead_39 (by decide) (fun c_1 => ?_) (fun c_1 => ?_)
  · skip
    have c_1 : ¬ (tkn le ((tN xp) * 2 + (tN xo)) ((tN xq) * 2 + (tN xi)) 32 = true) := bI_eq0.mp c_1
    refine lv_aload_n hx hb dX3_lead_52 rfl (lv_at hl 2 rfl) ?_
    refine va_get (D := E.1) (ci := 3) (v := .ref aLy) (C := RX3) (T := TX3) (N := 5) hx hb hts iX3 hown C0.1 hP 0 rfl rfl 0 (by decide) (hts (.fieldLink RX3 10 "Ringresonance" "layout" "LRingresonance$Layout;") (by decide +kernel)) (fun _ h9 => h9) rfl dX3_lead_53 ?_
    refine lv_iload hx hb dX3_lead_56 (lv_at hl 1 rfl) ?_
    refine lv_iload hx hb dX3_lead_58 (lv_at hl 0 rfl) ?_
    refine lv_ri (y := (cL ((tN xq) * 2 + (tN xi) + 1))) ((cL_s _).symm) ?_
    have hPc := hP.pick (ws' := [(aLy, o0 (nI n) aK aX aY aF aS aL), (aL, ia E cL 32 le)]) [1, 3] rfl
    have hDc := hD.sub (ws' := [(aLy, o0 (nI n) aK aX aY aF aS aL), (aL, ia E cL 32 le)]) [1, 3] (by decide) rfl
    refine kcI (wr := [(aO, o3 aLy aLg aDa aKs (nI lst)), (aK, ia E nI 16 kd)]) (w1 := fun _ : Unit => [(aLy, o0 (nI n) aK aX aY aF aS aL), (aL, ia E cL 32 (va_up le ((tN xp) * 2 + (tN xo)) ((tN xq) * 2 + (tN xi) + 1)))]) (w2 := fun _ => [(aO, o3 aLy aLg aDa aKs (nI lst)), (aLy, o0 (nI n) aK aX aY aF aS aL), (aK, ia E nI 16 kd), (aL, ia E cL 32 (va_up le ((tN xp) * 2 + (tN xo)) ((tN xq) * 2 + (tN xi) + 1)))]) (va_runV (As := [.int (nI ((tN xp) * 2 + (tN xo))), .int (cL ((tN xq) * 2 + (tN xi) + 1))]) (rest := []) ⟨hx, hb, hml, hown, hts⟩ (c_turn l E H.size ((tN xp) * 2 + (tN xo)) ((tN xq) * 2 + (tN xi) + 1) aLy aK aX aY aF aS aL n le (by omega) (by first | exact hL | exact hL _ (by omega))) (cwV 2 hts gX3_lead_X0_turn rfl rfl rfl (by decide +kernel) ⟨Nat.le_of_ble_eq_true rfl, Nat.le_of_ble_eq_true rfl⟩) (preV C0 hPc hDc hS 0 rfl rfl) rfl rfl hl.1 rfl (lv_room (Nat.le_of_ble_eq_true rfl)) dX3_lead_60 ⟨Nat.le_refl _, Nat.le_refl _⟩) C0 hP hD hS [1, 3] [0, 2] [0, 2, 1, 3] rfl rfl (by decide) (by decide) (fun _ => rfl) (by decide) (fun r_9 _u H locs hw hP hD hS => ?_)
    have hP : va_P E.1 vwCl [(aO, o3 aLy aLg aDa aKs (nI lst)), (aLy, o0 (nI n) aK aX aY aF aS aL), (aK, ia E nI 16 kd), (aL, ia E cL 32 (va_up le ((tN xp) * 2 + (tN xo)) ((tN xq) * 2 + (tN xi) + 1)))] H := hP
    have hD : va_D A [(aO, o3 aLy aLg aDa aKs (nI lst)), (aLy, o0 (nI n) aK aX aY aF aS aL), (aK, ia E nI 16 kd), (aL, ia E cL 32 (va_up le ((tN xp) * 2 + (tN xo)) ((tN xq) * 2 + (tN xi) + 1)))] := hD
    have hw : r_9 = cL (ledF (le ((tN xp) * 2 + (tN xo)))) := hw
    subst hw
    have q_2 : (cL (ledF (le ((tN xp) * 2 + (tN xo))))) = (cL (ledF (le (tN xp * 2 + tN xo)))) := rfl
    exact exI hx hb hr hlocks hAe hS () q_2 hP hD dX3_lead_63
  · skip
    have c_1 : tkn le ((tN xp) * 2 + (tN xo)) ((tN xq) * 2 + (tN xi)) 32 = true := bI_ne0.mp c_1
    exact absurd h9 (by rw [if_pos c_1]; decide)

set_option maxHeartbeats 4000000 in
set_option maxRecDepth 100000 in
theorem x_lead (l : Launch) (E : EnvT) (sz : Nat) (xp xo xq xi : Int32) (aO aLg aDa aKs lst : Nat) (aLy aK aX aY aF aS aL n : Nat) (kd le : Nat → Nat) (h : ¬ (leaC n kd le xp xo xq xi = 0)) (hn : n ≤ 16) (hk : ∀ j, j < n → kd j ≤ 5) (hL : ∀ j, j < 32 → le j ≤ 32) (hst : l.stackTraces = false) : MX l yX3_lead wsX3_lead ({ frames := 8, cells := 1, slots := 6, locals := 125 }) E sz [.ref aO, .int xp, .int xo, .int xq, .int xi] [(aO, o3 aLy aLg aDa aKs (nI lst)), (aLy, o0 (nI n) aK aX aY aF aS aL), (aK, ia E nI 16 kd), (aL, ia E cL 32 le)] (xM xI xS xS (leaC n kd le xp xo xq xi)) := by
  refine enX (cc := cX3_lead) (maxL := 7) (ret := (some .int)) (by decide +kernel) rfl (Nat.le_of_ble_eq_true rfl) ?_
  intro p e s m below meth c A ls hx hb hr hml hts hown hlocks hAe C0 hP hD hS hl
  have hown : s.vm.findClass RX3 = some m.cls := hown
  have hl : lv_has ls 7 [(0, .ref aO), (1, .int xp), (2, .int xo), (3, .int xq), (4, .int xi)] := hl
  have iX3 : ∀ w ∈ u_ws RX3 TX3 5, w ∈ wsX3_lead := by decide +kernel
  obtain ⟨H, hHe⟩ : ∃ z, z = s.heap := ⟨_, rfl⟩
  obtain ⟨locs, hLe⟩ : ∃ z : List Loc, z = [] := ⟨_, rfl⟩
  have hP : va_P E.1 vwCl [(aO, o3 aLy aLg aDa aKs (nI lst)), (aLy, o0 (nI n) aK aX aY aF aS aL), (aK, ia E nI 16 kd), (aL, ia E cL 32 le)] H := by rw [hHe]; exact hP
  have hD : va_D A [(aO, o3 aLy aLg aDa aKs (nI lst)), (aLy, o0 (nI n) aK aX aY aF aS aL), (aK, ia E nI 16 kd), (aL, ia E cL 32 le)] := hD
  have hS : va_S A s.heap H locs := by rw [hHe, hLe]; exact hS
  suffices hgo : W p l e _ s m _ below meth c H locs 0 0 _ (F0 m 0 ls []) by rw [hHe, hLe] at hgo; exact hgo
  clear hHe hLe
  refine lv_aload_n hx hb dX3_lead_0 rfl (lv_at hl 0 rfl) ?_
  refine lv_iload_n hx hb dX3_lead_1 rfl (lv_at hl 1 rfl) ?_
  refine lv_iload_n hx hb dX3_lead_2 rfl (lv_at hl 2 rfl) ?_
  by_cases hO9 : (nI 0 ≤ xp ∧ xp ≤ cL n) ∧ (nI 0 ≤ xo ∧ xo ≤ cL (stV 1 (kd (tN xp))))
  · skip
    have htp := cL_le (by omega) hO9.1
    have hkp := stV1_le (hk _ htp)
    have hto := cL_le (by omega) hO9.2
    have hPc := hP.pick (ws' := [(aO, o3 aLy aLg aDa aKs (nI lst)), (aLy, o0 (nI n) aK aX aY aF aS aL), (aK, ia E nI 16 kd)]) [0, 1, 2] rfl
    have hDc := hD.sub (ws' := [(aO, o3 aLy aLg aDa aKs (nI lst)), (aLy, o0 (nI n) aK aX aY aF aS aL), (aK, ia E nI 16 kd)]) [0, 1, 2] (by decide) rfl
    refine kcV (wr := [(aL, ia E cL 32 le)]) (w1 := fun _ : Unit => [(aO, o3 aLy aLg aDa aKs (nI lst)), (aLy, o0 (nI n) aK aX aY aF aS aL), (aK, ia E nI 16 kd)]) (w2 := fun _ => [(aO, o3 aLy aLg aDa aKs (nI lst)), (aLy, o0 (nI n) aK aX aY aF aS aL), (aK, ia E nI 16 kd), (aL, ia E cL 32 le)]) (va_runV (As := [.int xp, .int xo]) (rest := []) ⟨hx, hb, hml, hown, hts⟩ (c_needOutput l E H.size xp xo aO aLg aDa aKs lst aLy aK aX aY aF aS aL n kd hO9 (hn) (hk)) (cwV 2 hts gX3_lead_X3_needOutput rfl rfl rfl (by decide +kernel) ⟨Nat.le_of_ble_eq_true rfl, Nat.le_of_ble_eq_true rfl⟩) (preV C0 hPc hDc hS 0 rfl rfl) rfl rfl hl.1 rfl (lv_room (Nat.le_of_ble_eq_true rfl)) dX3_lead_3 ⟨Nat.le_of_ble_eq_true rfl, Nat.le_of_ble_eq_true rfl⟩) C0 hP hD hS [0, 1, 2] [3] [1, 2, 3, 0] rfl rfl (by decide) (by decide) (fun _ => rfl) (by decide) (fun _u H locs _hw hP hD hS => ?_)
    have hP : va_P E.1 vwCl [(aO, o3 aLy aLg aDa aKs (nI lst)), (aLy, o0 (nI n) aK aX aY aF aS aL), (aK, ia E nI 16 kd), (aL, ia E cL 32 le)] H := hP
    have hD : va_D A [(aO, o3 aLy aLg aDa aKs (nI lst)), (aLy, o0 (nI n) aK aX aY aF aS aL), (aK, ia E nI 16 kd), (aL, ia E cL 32 le)] := hD
    refine lv_aload_n hx hb dX3_lead_6 rfl (lv_at hl 0 rfl) ?_
    refine lv_iload_n hx hb dX3_lead_7 rfl (lv_at hl 3 rfl) ?_
    refine lv_iload hx hb dX3_lead_8 (lv_at hl 4 rfl) ?_
    by_cases hI9 : (nI 0 ≤ xq ∧ xq ≤ cL n) ∧ (nI 0 ≤ xi ∧ xi ≤ cL (stV 0 (kd (tN xq))))
    · skip
      have htq := cL_le (by omega) hI9.1
      have hkq := stV0_le (hk _ htq)
      have hti := cL_le (by omega) hI9.2
      have hPc := hP.pick (ws' := [(aO, o3 aLy aLg aDa aKs (nI lst)), (aLy, o0 (nI n) aK aX aY aF aS aL), (aK, ia E nI 16 kd)]) [0, 1, 2] rfl
      have hDc := hD.sub (ws' := [(aO, o3 aLy aLg aDa aKs (nI lst)), (aLy, o0 (nI n) aK aX aY aF aS aL), (aK, ia E nI 16 kd)]) [0, 1, 2] (by decide) rfl
      refine kcV (wr := [(aL, ia E cL 32 le)]) (w1 := fun _ : Unit => [(aO, o3 aLy aLg aDa aKs (nI lst)), (aLy, o0 (nI n) aK aX aY aF aS aL), (aK, ia E nI 16 kd)]) (w2 := fun _ => [(aO, o3 aLy aLg aDa aKs (nI lst)), (aLy, o0 (nI n) aK aX aY aF aS aL), (aK, ia E nI 16 kd), (aL, ia E cL 32 le)]) (va_runV (As := [.int xq, .int xi]) (rest := []) ⟨hx, hb, hml, hown, hts⟩ (c_needInput l E H.size xq xi aO aLg aDa aKs lst aLy aK aX aY aF aS aL n kd hI9 (hn) (hk)) (cwV 2 hts gX3_lead_X3_needInput rfl rfl rfl (by decide +kernel) ⟨Nat.le_of_ble_eq_true rfl, Nat.le_of_ble_eq_true rfl⟩) (preV C0 hPc hDc hS 0 rfl rfl) rfl rfl hl.1 rfl (lv_room (Nat.le_of_ble_eq_true rfl)) dX3_lead_10 ⟨Nat.le_of_ble_eq_true rfl, Nat.le_of_ble_eq_true rfl⟩) C0 hP hD hS [0, 1, 2] [3] [1, 2, 3, 0] rfl rfl (by decide) (by decide) (fun _ => rfl) (by decide) (fun _u H locs _hw hP hD hS => ?_)
      have hP : va_P E.1 vwCl [(aO, o3 aLy aLg aDa aKs (nI lst)), (aLy, o0 (nI n) aK aX aY aF aS aL), (aK, ia E nI 16 kd), (aL, ia E cL 32 le)] H := hP
      have hD : va_D A [(aO, o3 aLy aLg aDa aKs (nI lst)), (aLy, o0 (nI n) aK aX aY aF aS aL), (aK, ia E nI 16 kd), (aL, ia E cL 32 le)] := hD
      refine lv_iload_n hx hb dX3_lead_13 rfl (lv_at hl 1 rfl) ?_
      refine lv_ri (y := (nI (tN xp))) (tN_eq hO9.1) ?_
      refine lv_iload_n hx hb dX3_lead_14 rfl (lv_at hl 2 rfl) ?_
      refine lv_ri (y := (nI (tN xo))) (tN_eq hO9.2) ?_
      have hPc := hP.pick (ws' := []) [] rfl
      have hDc := hD.sub (ws' := []) [] (by decide) rfl
      refine kcI (wr := [(aO, o3 aLy aLg aDa aKs (nI lst)), (aLy, o0 (nI n) aK aX aY aF aS aL), (aK, ia E nI 16 kd), (aL, ia E cL 32 le)]) (w1 := fun _ : Unit => []) (w2 := fun _ => [(aO, o3 aLy aLg aDa aKs (nI lst)), (aLy, o0 (nI n) aK aX aY aF aS aL), (aK, ia E nI 16 kd), (aL, ia E cL 32 le)]) (va_runS (As := [.int (nI (tN xp)), .int (nI (tN xo))]) (rest := []) ⟨hx, hb, hml, hown, hts⟩ (c_portOf l E H.size (tN xp) (tN xo) ) (va_cwS 2 hts gX3_lead_X3_portOf rfl rfl rfl (by decide +kernel) ⟨Nat.le_of_ble_eq_true rfl, Nat.le_of_ble_eq_true rfl⟩) (preS C0 hPc hDc hS) rfl rfl hl.1 rfl (lv_room (Nat.le_of_ble_eq_true rfl)) dX3_lead_15 ⟨Nat.le_of_ble_eq_true rfl, Nat.le_of_ble_eq_true rfl⟩) C0 hP hD hS [] [0, 1, 2, 3] [0, 1, 2, 3] rfl rfl (by decide) (by decide) (fun _ => rfl) (by decide) (fun r_9 _u H locs hw hP hD hS => ?_)
      have hP : va_P E.1 vwCl [(aO, o3 aLy aLg aDa aKs (nI lst)), (aLy, o0 (nI n) aK aX aY aF aS aL), (aK, ia E nI 16 kd), (aL, ia E cL 32 le)] H := hP
      have hD : va_D A [(aO, o3 aLy aLg aDa aKs (nI lst)), (aLy, o0 (nI n) aK aX aY aF aS aL), (aK, ia E nI 16 kd), (aL, ia E cL 32 le)] := hD
      have hw : r_9 = nI ((tN xp) * 2 + (tN xo)) := hw
      subst hw
      refine lv_istore (lv' := [(5, .int (nI ((tN xp) * 2 + (tN xo)))), (0, .ref aO), (1, .int xp), (2, .int xo), (3, .int xq), (4, .int xi)]) hx hb dX3_lead_18 hl (by decide) rfl (fun ls hl => ?_)
      refine lv_iload_n hx hb dX3_lead_20 rfl (lv_at hl 4 rfl) ?_
      refine lv_ri (y := (nI (tN xq))) (tN_eq hI9.1) ?_
      refine lv_iload hx hb dX3_lead_21 (lv_at hl 5 rfl) ?_
      refine lv_ri (y := (nI (tN xi))) (tN_eq hI9.2) ?_
      have hPc := hP.pick (ws' := []) [] rfl
      have hDc := hD.sub (ws' := []) [] (by decide) rfl
      refine kcI (wr := [(aO, o3 aLy aLg aDa aKs (nI lst)), (aLy, o0 (nI n) aK aX aY aF aS aL), (aK, ia E nI 16 kd), (aL, ia E cL 32 le)]) (w1 := fun _ : Unit => []) (w2 := fun _ => [(aO, o3 aLy aLg aDa aKs (nI lst)), (aLy, o0 (nI n) aK aX aY aF aS aL), (aK, ia E nI 16 kd), (aL, ia E cL 32 le)]) (va_runS (As := [.int (nI (tN xq)), .int (nI (tN xi))]) (rest := []) ⟨hx, hb, hml, hown, hts⟩ (c_portOf l E H.size (tN xq) (tN xi) ) (va_cwS 2 hts gX3_lead_X3_portOf rfl rfl rfl (by decide +kernel) ⟨Nat.le_of_ble_eq_true rfl, Nat.le_of_ble_eq_true rfl⟩) (preS C0 hPc hDc hS) rfl rfl hl.1 rfl (lv_room (Nat.le_of_ble_eq_true rfl)) dX3_lead_23 ⟨Nat.le_of_ble_eq_true rfl, Nat.le_of_ble_eq_true rfl⟩) C0 hP hD hS [] [0, 1, 2, 3] [0, 1, 2, 3] rfl rfl (by decide) (by decide) (fun _ => rfl) (by decide) (fun r_9 _u H locs hw hP hD hS => ?_)
      have hP : va_P E.1 vwCl [(aO, o3 aLy aLg aDa aKs (nI lst)), (aLy, o0 (nI n) aK aX aY aF aS aL), (aK, ia E nI 16 kd), (aL, ia E cL 32 le)] H := hP
      have hD : va_D A [(aO, o3 aLy aLg aDa aKs (nI lst)), (aLy, o0 (nI n) aK aX aY aF aS aL), (aK, ia E nI 16 kd), (aL, ia E cL 32 le)] := hD
      have hw : r_9 = nI ((tN xq) * 2 + (tN xi)) := hw
      subst hw
      refine lv_istore (lv' := [(6, .int (nI ((tN xq) * 2 + (tN xi)))), (5, .int (nI ((tN xp) * 2 + (tN xo)))), (0, .ref aO), (1, .int xp), (2, .int xo), (3, .int xq), (4, .int xi)]) hx hb dX3_lead_26 hl (by decide) rfl (fun ls hl => ?_)
      refine lv_aload_n hx hb dX3_lead_28 rfl (lv_at hl 2 rfl) ?_
      refine va_get (D := E.1) (ci := 3) (v := .ref aLy) (C := RX3) (T := TX3) (N := 5) hx hb hts iX3 hown C0.1 hP 0 rfl rfl 0 (by decide) (hts (.fieldLink RX3 10 "Ringresonance" "layout" "LRingresonance$Layout;") (by decide +kernel)) (fun _ h9 => h9) rfl dX3_lead_29 ?_
      refine lv_iload hx hb dX3_lead_32 (lv_at hl 1 rfl) ?_
      refine lv_iload hx hb dX3_lead_34 (lv_at hl 0 rfl) ?_
      have hPc := hP.pick (ws' := [(aLy, o0 (nI n) aK aX aY aF aS aL), (aL, ia E cL 32 le)]) [1, 3] rfl
      have hDc := hD.sub (ws' := [(aLy, o0 (nI n) aK aX aY aF aS aL), (aL, ia E cL 32 le)]) [1, 3] (by decide) rfl
      refine kcI (wr := [(aO, o3 aLy aLg aDa aKs (nI lst)), (aK, ia E nI 16 kd)]) (w1 := fun _ : Unit => [(aLy, o0 (nI n) aK aX aY aF aS aL), (aL, ia E cL 32 le)]) (w2 := fun _ => [(aO, o3 aLy aLg aDa aKs (nI lst)), (aLy, o0 (nI n) aK aX aY aF aS aL), (aK, ia E nI 16 kd), (aL, ia E cL 32 le)]) (va_runV (As := [.int (nI ((tN xp) * 2 + (tN xo))), .int (nI ((tN xq) * 2 + (tN xi)))]) (rest := []) ⟨hx, hb, hml, hown, hts⟩ (c_isTaken l E H.size ((tN xp) * 2 + (tN xo)) ((tN xq) * 2 + (tN xi)) aLy aK aX aY aF aS aL n le (by omega) (by omega) (by first | exact hL | exact hL _ (by omega))) (cwV 2 hts gX3_lead_X0_isTaken rfl rfl rfl (by decide +kernel) ⟨Nat.le_of_ble_eq_true rfl, Nat.le_of_ble_eq_true rfl⟩) (preV C0 hPc hDc hS 0 rfl rfl) rfl rfl hl.1 rfl (lv_room (Nat.le_of_ble_eq_true rfl)) dX3_lead_36 ⟨Nat.le_of_ble_eq_true rfl, Nat.le_of_ble_eq_true rfl⟩) C0 hP hD hS [1, 3] [0, 2] [0, 2, 1, 3] rfl rfl (by decide) (by decide) (fun _ => rfl) (by decide) (fun r_9 _u H locs hw hP hD hS => ?_)
      have hP : va_P E.1 vwCl [(aO, o3 aLy aLg aDa aKs (nI lst)), (aLy, o0 (nI n) aK aX aY aF aS aL), (aK, ia E nI 16 kd), (aL, ia E cL 32 le)] H := hP
      have hD : va_D A [(aO, o3 aLy aLg aDa aKs (nI lst)), (aLy, o0 (nI n) aK aX aY aF aS aL), (aK, ia E nI 16 kd), (aL, ia E cL 32 le)] := hD
      have hw : r_9 = bI (tkn le ((tN xp) * 2 + (tN xo)) ((tN xq) * 2 + (tN xi)) 32 = true) := hw
      subst hw
      refine lv_if_eq (tgt := 52) hx hb dX3_lead_39 (by decide) (fun c_1 => ?_) (fun c_1 => ?_)
      · skip
        have c_1 : ¬ (tkn le ((tN xp) * 2 + (tN xo)) ((tN xq) * 2 + (tN xi)) 32 = true) := bI_eq0.mp c_1
        exact absurd (show leaC n kd le xp xo xq xi = 0 from (by rw [(leaC_A (le := le) (show leaA n kd xp xo xq xi = 0 from if_pos ⟨hO9, hI9⟩)), tk_link, Nat.mul_comm 2 (tN xp), Nat.mul_comm 2 (tN xq)]; exact if_neg c_1)) h
      · skip
        have c_1 : tkn le ((tN xp) * 2 + (tN xo)) ((tN xq) * 2 + (tN xi)) 32 = true := bI_ne0.mp c_1
        exact thX (ik := 62) (is := 98) (ic := 66) (xn := xS) (text := "another output leads to that input") ((congrArg (xM xI xS xS) (show leaC n kd le xp xo xq xi = 2 from (by rw [(leaC_A (le := le) (show leaA n kd xp xo xq xi = 0 from if_pos ⟨hO9, hI9⟩)), tk_link, Nat.mul_comm 2 (tN xp), Nat.mul_comm 2 (tN xq)]; exact if_pos c_1))).trans rfl) hx hb hst hown (hts (.classLink RX3 62 xS) (by decide +kernel)) (hts (.initialized xS) (by decide +kernel)) (fun w h => hts w (List.mem_cons_of_mem _ (List.mem_append_left _ (List.mem_append_right _ h)))) (by decide +kernel) (by decide +kernel) (by decide +kernel) (by decide +kernel) (by decide +kernel) (C0.2.2.2.1.2.2.2.1 (98, "another output leads to that input") (by decide +kernel)) hr hlocks hAe C0 hP hD hS (hl.1.trans hml.symm) dX3_lead_42 dX3_lead_45 dX3_lead_46 dX3_lead_48 dX3_lead_51 (Nat.le_of_ble_eq_true rfl) (Nat.le_of_ble_eq_true rfl) (Nat.le_of_ble_eq_true rfl) (Nat.le_of_ble_eq_true rfl)
    · skip
      have hPc := hP.pick (ws' := [(aO, o3 aLy aLg aDa aKs (nI lst)), (aLy, o0 (nI n) aK aX aY aF aS aL), (aK, ia E nI 16 kd)]) [0, 1, 2] rfl
      have hDc := hD.sub (ws' := [(aO, o3 aLy aLg aDa aKs (nI lst)), (aLy, o0 (nI n) aK aX aY aF aS aL), (aK, ia E nI 16 kd)]) [0, 1, 2] (by decide) rfl
      exact kcX (wr := [(aL, ia E cL 32 le)]) ((congrArg (xM xI xS xS) (show leaC n kd le xp xo xq xi = 1 from if_neg (fun h => hI9 h.2))).trans rfl) (vx_runV (As := [.int xq, .int xi]) (rest := []) ⟨hx, hb, hml, hown, hts⟩ (x_needInput l E H.size xq xi aO aLg aDa aKs lst aLy aK aX aY aF aS aL n kd hI9 (hn) (hk) hst) (cwV 2 hts gX3_lead_X3_needInput rfl rfl rfl (by decide +kernel) ⟨Nat.le_of_ble_eq_true rfl, Nat.le_of_ble_eq_true rfl⟩) (preV C0 hPc hDc hS 0 rfl rfl) rfl rfl hl.1 rfl (lv_room (Nat.le_of_ble_eq_true rfl)) dX3_lead_10 ⟨Nat.le_of_ble_eq_true rfl, Nat.le_of_ble_eq_true rfl⟩) hr hlocks hAe C0 hP hD hS [0, 1, 2] [3] [1, 2, 3, 0] rfl rfl (by decide) (by decide) rfl (by decide)
  · skip
    have hPc := hP.pick (ws' := [(aO, o3 aLy aLg aDa aKs (nI lst)), (aLy, o0 (nI n) aK aX aY aF aS aL), (aK, ia E nI 16 kd)]) [0, 1, 2] rfl
    have hDc := hD.sub (ws' := [(aO, o3 aLy aLg aDa aKs (nI lst)), (aLy, o0 (nI n) aK aX aY aF aS aL), (aK, ia E nI 16 kd)]) [0, 1, 2] (by decide) rfl
    exact kcX (wr := [(aL, ia E cL 32 le)]) ((congrArg (xM xI xS xS) (show leaC n kd le xp xo xq xi = 1 from if_neg (fun h => hO9 h.1))).trans rfl) (vx_runV (As := [.int xp, .int xo]) (rest := []) ⟨hx, hb, hml, hown, hts⟩ (x_needOutput l E H.size xp xo aO aLg aDa aKs lst aLy aK aX aY aF aS aL n kd hO9 (hn) (hk) hst) (cwV 2 hts gX3_lead_X3_needOutput rfl rfl rfl (by decide +kernel) ⟨Nat.le_of_ble_eq_true rfl, Nat.le_of_ble_eq_true rfl⟩) (preV C0 hPc hDc hS 0 rfl rfl) rfl rfl hl.1 rfl (lv_room (Nat.le_of_ble_eq_true rfl)) dX3_lead_3 ⟨Nat.le_of_ble_eq_true rfl, Nat.le_of_ble_eq_true rfl⟩) hr hlocks hAe C0 hP hD hS [0, 1, 2] [3] [1, 2, 3, 0] rfl rfl (by decide) (by decide) rfl (by decide)

set_option maxHeartbeats 4000000 in
set_option maxRecDepth 100000 in
theorem c_cut (l : Launch) (E : EnvT) (sz : Nat) (xp xo : Int32) (aO aLg aDa aKs lst : Nat) (aLy aK aX aY aF aS aL n : Nat) (kd le : Nat → Nat) (h : cutC n kd xp xo = 0) (hn : n ≤ 16) (hk : ∀ j, j < n → kd j ≤ 5) (hL : ∀ j, j < 32 → le j ≤ 32) : MI l yX3_cut wsX3_cut ({ frames := 2, cells := 0, slots := 0, locals := 43 }) E sz [.ref aO, .int xp, .int xo] [(aO, o3 aLy aLg aDa aKs (nI lst)), (aLy, o0 (nI n) aK aX aY aF aS aL), (aK, ia E nI 16 kd), (aL, ia E cL 32 le)] (fun (r : Int32) (_ : Unit) => r = cL (ledF (le (tN xp * 2 + tN xo)))) (fun _ => [(aO, o3 aLy aLg aDa aKs (nI lst)), (aLy, o0 (nI n) aK aX aY aF aS aL), (aK, ia E nI 16 kd), (aL, ia E cL 32 (va_up le (tN xp * 2 + tN xo) 0))]) := by
  refine enI (cc := cX3_cut) (maxL := 3) (ret := .int) (by decide +kernel) rfl (Nat.le_of_ble_eq_true rfl) ?_
  intro p e s m below meth c A ls hx hb hr hml hts hown hlocks hAe C0 hP hD hS hl
  have hown : s.vm.findClass RX3 = some m.cls := hown
  have hl : lv_has ls 3 [(0, .ref aO), (1, .int xp), (2, .int xo)] := hl
  have iX3 : ∀ w ∈ u_ws RX3 TX3 5, w ∈ wsX3_cut := by decide +kernel
  obtain ⟨H, hHe⟩ : ∃ z, z = s.heap := ⟨_, rfl⟩
  obtain ⟨locs, hLe⟩ : ∃ z : List Loc, z = [] := ⟨_, rfl⟩
  have hP : va_P E.1 vwCl [(aO, o3 aLy aLg aDa aKs (nI lst)), (aLy, o0 (nI n) aK aX aY aF aS aL), (aK, ia E nI 16 kd), (aL, ia E cL 32 le)] H := by rw [hHe]; exact hP
  have hD : va_D A [(aO, o3 aLy aLg aDa aKs (nI lst)), (aLy, o0 (nI n) aK aX aY aF aS aL), (aK, ia E nI 16 kd), (aL, ia E cL 32 le)] := hD
  have hS : va_S A s.heap H locs := by rw [hHe, hLe]; exact hS
  suffices hgo : W p l e _ s m _ below meth c H locs 0 0 _ (F0 m 0 ls []) by rw [hHe, hLe] at hgo; exact hgo
  clear hHe hLe
  have hO9 := cutC_0 h
  have htp := cL_le (by omega) hO9.1
  have hkp := stV1_le (hk _ htp)
  have hto := cL_le (by omega) hO9.2
  refine lv_aload_n hx hb dX3_cut_0 rfl (lv_at hl 0 rfl) ?_
  refine lv_iload_n hx hb dX3_cut_1 rfl (lv_at hl 1 rfl) ?_
  refine lv_iload_n hx hb dX3_cut_2 rfl (lv_at hl 2 rfl) ?_
  have hPc := hP.pick (ws' := [(aO, o3 aLy aLg aDa aKs (nI lst)), (aLy, o0 (nI n) aK aX aY aF aS aL), (aK, ia E nI 16 kd)]) [0, 1, 2] rfl
  have hDc := hD.sub (ws' := [(aO, o3 aLy aLg aDa aKs (nI lst)), (aLy, o0 (nI n) aK aX aY aF aS aL), (aK, ia E nI 16 kd)]) [0, 1, 2] (by decide) rfl
  refine kcV (wr := [(aL, ia E cL 32 le)]) (w1 := fun _ : Unit => [(aO, o3 aLy aLg aDa aKs (nI lst)), (aLy, o0 (nI n) aK aX aY aF aS aL), (aK, ia E nI 16 kd)]) (w2 := fun _ => [(aO, o3 aLy aLg aDa aKs (nI lst)), (aLy, o0 (nI n) aK aX aY aF aS aL), (aK, ia E nI 16 kd), (aL, ia E cL 32 le)]) (va_runV (As := [.int xp, .int xo]) (rest := []) ⟨hx, hb, hml, hown, hts⟩ (c_needOutput l E H.size xp xo aO aLg aDa aKs lst aLy aK aX aY aF aS aL n kd hO9 (hn) (hk)) (cwV 2 hts gX3_cut_X3_needOutput rfl rfl rfl (by decide +kernel) ⟨Nat.le_of_ble_eq_true rfl, Nat.le_of_ble_eq_true rfl⟩) (preV C0 hPc hDc hS 0 rfl rfl) rfl rfl hl.1 rfl (lv_room (Nat.le_of_ble_eq_true rfl)) dX3_cut_3 ⟨Nat.le_refl _, Nat.le_refl _⟩) C0 hP hD hS [0, 1, 2] [3] [1, 2, 3, 0] rfl rfl (by decide) (by decide) (fun _ => rfl) (by decide) (fun _u H locs _hw hP hD hS => ?_)
  have hP : va_P E.1 vwCl [(aO, o3 aLy aLg aDa aKs (nI lst)), (aLy, o0 (nI n) aK aX aY aF aS aL), (aK, ia E nI 16 kd), (aL, ia E cL 32 le)] H := hP
  have hD : va_D A [(aO, o3 aLy aLg aDa aKs (nI lst)), (aLy, o0 (nI n) aK aX aY aF aS aL), (aK, ia E nI 16 kd), (aL, ia E cL 32 le)] := hD
  refine lv_aload_n hx hb dX3_cut_6 rfl (lv_at hl 0 rfl) ?_
  refine va_get (D := E.1) (ci := 3) (v := .ref aLy) (C := RX3) (T := TX3) (N := 5) hx hb hts iX3 hown C0.1 hP 0 rfl rfl 0 (by decide) (hts (.fieldLink RX3 10 "Ringresonance" "layout" "LRingresonance$Layout;") (by decide +kernel)) (fun _ h9 => h9) rfl dX3_cut_7 ?_
  refine lv_iload_n hx hb dX3_cut_10 rfl (lv_at hl 1 rfl) ?_
  refine lv_ri (y := (nI (tN xp))) (tN_eq hO9.1) ?_
  refine lv_iload_n hx hb dX3_cut_11 rfl (lv_at hl 2 rfl) ?_
  refine lv_ri (y := (nI (tN xo))) (tN_eq hO9.2) ?_
  have hPc := hP.pick (ws' := []) [] rfl
  have hDc := hD.sub (ws' := []) [] (by decide) rfl
  refine kcI (wr := [(aO, o3 aLy aLg aDa aKs (nI lst)), (aLy, o0 (nI n) aK aX aY aF aS aL), (aK, ia E nI 16 kd), (aL, ia E cL 32 le)]) (w1 := fun _ : Unit => []) (w2 := fun _ => [(aO, o3 aLy aLg aDa aKs (nI lst)), (aLy, o0 (nI n) aK aX aY aF aS aL), (aK, ia E nI 16 kd), (aL, ia E cL 32 le)]) (va_runS (As := [.int (nI (tN xp)), .int (nI (tN xo))]) (rest := [.ref aLy]) ⟨hx, hb, hml, hown, hts⟩ (c_portOf l E H.size (tN xp) (tN xo) ) (va_cwS 2 hts gX3_cut_X3_portOf rfl rfl rfl (by decide +kernel) ⟨Nat.le_of_ble_eq_true rfl, Nat.le_of_ble_eq_true rfl⟩) (preS C0 hPc hDc hS) rfl rfl hl.1 rfl (lv_room (Nat.le_of_ble_eq_true rfl)) dX3_cut_12 ⟨Nat.le_refl _, Nat.le_refl _⟩) C0 hP hD hS [] [0, 1, 2, 3] [0, 1, 2, 3] rfl rfl (by decide) (by decide) (fun _ => rfl) (by decide) (fun r_9 _u H locs hw hP hD hS => ?_)
  have hP : va_P E.1 vwCl [(aO, o3 aLy aLg aDa aKs (nI lst)), (aLy, o0 (nI n) aK aX aY aF aS aL), (aK, ia E nI 16 kd), (aL, ia E cL 32 le)] H := hP
  have hD : va_D A [(aO, o3 aLy aLg aDa aKs (nI lst)), (aLy, o0 (nI n) aK aX aY aF aS aL), (aK, ia E nI 16 kd), (aL, ia E cL 32 le)] := hD
  have hw : r_9 = nI ((tN xp) * 2 + (tN xo)) := hw
  subst hw
  refine lv_iconst (v := -1) hx hb dX3_cut_15 (by decide) ?_
  refine lv_ri (y := (cL 0)) (by decide) ?_
  have hPc := hP.pick (ws' := [(aLy, o0 (nI n) aK aX aY aF aS aL), (aL, ia E cL 32 le)]) [1, 3] rfl
  have hDc := hD.sub (ws' := [(aLy, o0 (nI n) aK aX aY aF aS aL), (aL, ia E cL 32 le)]) [1, 3] (by decide) rfl
  refine kcI (wr := [(aO, o3 aLy aLg aDa aKs (nI lst)), (aK, ia E nI 16 kd)]) (w1 := fun _ : Unit => [(aLy, o0 (nI n) aK aX aY aF aS aL), (aL, ia E cL 32 (va_up le ((tN xp) * 2 + (tN xo)) 0))]) (w2 := fun _ => [(aO, o3 aLy aLg aDa aKs (nI lst)), (aLy, o0 (nI n) aK aX aY aF aS aL), (aK, ia E nI 16 kd), (aL, ia E cL 32 (va_up le ((tN xp) * 2 + (tN xo)) 0))]) (va_runV (As := [.int (nI ((tN xp) * 2 + (tN xo))), .int (cL 0)]) (rest := []) ⟨hx, hb, hml, hown, hts⟩ (c_turn l E H.size ((tN xp) * 2 + (tN xo)) 0 aLy aK aX aY aF aS aL n le (by omega) (hL _ (by omega))) (cwV 2 hts gX3_cut_X0_turn rfl rfl rfl (by decide +kernel) ⟨Nat.le_of_ble_eq_true rfl, Nat.le_of_ble_eq_true rfl⟩) (preV C0 hPc hDc hS 0 rfl rfl) rfl rfl hl.1 rfl (lv_room (Nat.le_of_ble_eq_true rfl)) dX3_cut_16 ⟨Nat.le_refl _, Nat.le_refl _⟩) C0 hP hD hS [1, 3] [0, 2] [0, 2, 1, 3] rfl rfl (by decide) (by decide) (fun _ => rfl) (by decide) (fun r_9 _u H locs hw hP hD hS => ?_)
  have hP : va_P E.1 vwCl [(aO, o3 aLy aLg aDa aKs (nI lst)), (aLy, o0 (nI n) aK aX aY aF aS aL), (aK, ia E nI 16 kd), (aL, ia E cL 32 (va_up le ((tN xp) * 2 + (tN xo)) 0))] H := hP
  have hD : va_D A [(aO, o3 aLy aLg aDa aKs (nI lst)), (aLy, o0 (nI n) aK aX aY aF aS aL), (aK, ia E nI 16 kd), (aL, ia E cL 32 (va_up le ((tN xp) * 2 + (tN xo)) 0))] := hD
  have hw : r_9 = cL (ledF (le ((tN xp) * 2 + (tN xo)))) := hw
  subst hw
  have q_1 : (cL (ledF (le ((tN xp) * 2 + (tN xo))))) = (cL (ledF (le (tN xp * 2 + tN xo)))) := rfl
  exact exI hx hb hr hlocks hAe hS () q_1 hP hD dX3_cut_19

set_option maxHeartbeats 4000000 in
set_option maxRecDepth 100000 in
theorem x_cut (l : Launch) (E : EnvT) (sz : Nat) (xp xo : Int32) (aO aLg aDa aKs lst : Nat) (aLy aK aX aY aF aS aL n : Nat) (kd le : Nat → Nat) (h : ¬ (cutC n kd xp xo = 0)) (hn : n ≤ 16) (hk : ∀ j, j < n → kd j ≤ 5) (hL : ∀ j, j < 32 → le j ≤ 32) (hst : l.stackTraces = false) : MX l yX3_cut wsX3_cut ({ frames := 8, cells := 1, slots := 6, locals := 125 }) E sz [.ref aO, .int xp, .int xo] [(aO, o3 aLy aLg aDa aKs (nI lst)), (aLy, o0 (nI n) aK aX aY aF aS aL), (aK, ia E nI 16 kd), (aL, ia E cL 32 le)] (xM xI xI xI (cutC n kd xp xo)) := by
  refine enX (cc := cX3_cut) (maxL := 3) (ret := (some .int)) (by decide +kernel) rfl (Nat.le_of_ble_eq_true rfl) ?_
  intro p e s m below meth c A ls hx hb hr hml hts hown hlocks hAe C0 hP hD hS hl
  have hown : s.vm.findClass RX3 = some m.cls := hown
  have hl : lv_has ls 3 [(0, .ref aO), (1, .int xp), (2, .int xo)] := hl
  obtain ⟨H, hHe⟩ : ∃ z, z = s.heap := ⟨_, rfl⟩
  obtain ⟨locs, hLe⟩ : ∃ z : List Loc, z = [] := ⟨_, rfl⟩
  have hP : va_P E.1 vwCl [(aO, o3 aLy aLg aDa aKs (nI lst)), (aLy, o0 (nI n) aK aX aY aF aS aL), (aK, ia E nI 16 kd), (aL, ia E cL 32 le)] H := by rw [hHe]; exact hP
  have hD : va_D A [(aO, o3 aLy aLg aDa aKs (nI lst)), (aLy, o0 (nI n) aK aX aY aF aS aL), (aK, ia E nI 16 kd), (aL, ia E cL 32 le)] := hD
  have hS : va_S A s.heap H locs := by rw [hHe, hLe]; exact hS
  suffices hgo : W p l e _ s m _ below meth c H locs 0 0 _ (F0 m 0 ls []) by rw [hHe, hLe] at hgo; exact hgo
  clear hHe hLe
  refine lv_aload_n hx hb dX3_cut_0 rfl (lv_at hl 0 rfl) ?_
  refine lv_iload_n hx hb dX3_cut_1 rfl (lv_at hl 1 rfl) ?_
  refine lv_iload_n hx hb dX3_cut_2 rfl (lv_at hl 2 rfl) ?_
  by_cases hO9 : (nI 0 ≤ xp ∧ xp ≤ cL n) ∧ (nI 0 ≤ xo ∧ xo ≤ cL (stV 1 (kd (tN xp))))
  · skip
    exact absurd (show cutC n kd xp xo = 0 from if_pos hO9) h
  · skip
    have hPc := hP.pick (ws' := [(aO, o3 aLy aLg aDa aKs (nI lst)), (aLy, o0 (nI n) aK aX aY aF aS aL), (aK, ia E nI 16 kd)]) [0, 1, 2] rfl
    have hDc := hD.sub (ws' := [(aO, o3 aLy aLg aDa aKs (nI lst)), (aLy, o0 (nI n) aK aX aY aF aS aL), (aK, ia E nI 16 kd)]) [0, 1, 2] (by decide) rfl
    exact kcX (wr := [(aL, ia E cL 32 le)]) ((congrArg (xM xI xI xI) (show cutC n kd xp xo = 1 from if_neg hO9)).trans rfl) (vx_runV (As := [.int xp, .int xo]) (rest := []) ⟨hx, hb, hml, hown, hts⟩ (x_needOutput l E H.size xp xo aO aLg aDa aKs lst aLy aK aX aY aF aS aL n kd hO9 (hn) (hk) hst) (cwV 2 hts gX3_cut_X3_needOutput rfl rfl rfl (by decide +kernel) ⟨Nat.le_of_ble_eq_true rfl, Nat.le_of_ble_eq_true rfl⟩) (preV C0 hPc hDc hS 0 rfl rfl) rfl rfl hl.1 rfl (lv_room (Nat.le_of_ble_eq_true rfl)) dX3_cut_3 ⟨Nat.le_of_ble_eq_true rfl, Nat.le_of_ble_eq_true rfl⟩) hr hlocks hAe C0 hP hD hS [0, 1, 2] [3] [1, 2, 3, 0] rfl rfl (by decide) (by decide) rfl (by decide)

set_option maxHeartbeats 4000000 in
set_option maxRecDepth 100000 in
theorem c_lock (l : Launch) (E : EnvT) (sz : Nat) (xp xc : Int32) (aO aLi aDa lst : Nat) (aLy aK aX aY aF aS aL n : Nat) (aLk aCh aLo aDi aDk aBe : Nat) (kd chn dir dkt : Nat → Nat) (bef : Nat → Int64) (h : locC n kd xp xc = 0) (hn : n ≤ 16) (hk : ∀ j, j < n → kd j ≤ 5) : MI l yX3_lock wsX3_lock ({ frames := 1, cells := 0, slots := 0, locals := 22 }) E sz [.ref aO, .int xp, .int xc] [(aO, o3 aLy aLi aDa aLk (nI lst)), (aLk, o2 aLy aLi aCh aLo aDi aDk aBe), (aLy, o0 (nI n) aK aX aY aF aS aL), (aK, ia E nI 16 kd), (aCh, ia E cL 16 chn), (aDi, ia E cD 16 dir), (aDk, ia E nI 16 dkt), (aBe, ja E 16 bef)] (fun (r : Int32) (_ : Unit) => r = cL (chn (tN xp))) (fun _ => [(aO, o3 aLy aLi aDa aLk (nI lst)), (aLk, o2 aLy aLi aCh aLo aDi aDk aBe), (aLy, o0 (nI n) aK aX aY aF aS aL), (aK, ia E nI 16 kd), (aCh, ia E cL 16 (va_up chn (tN xp) (tC xc))), (aDi, ia E cD 16 (va_up dir (tN xp) 1)), (aDk, ia E nI 16 (va_up dkt (tN xp) 0)), (aBe, ja E 16 (va_up bef (tN xp) 0))]) := by
  refine enI (cc := cX3_lock) (maxL := 4) (ret := .int) (by decide +kernel) rfl (Nat.le_of_ble_eq_true rfl) ?_
  intro p e s m below meth c A ls hx hb hr hml hts hown hlocks hAe C0 hP hD hS hl
  have hown : s.vm.findClass RX3 = some m.cls := hown
  have hl : lv_has ls 4 [(0, .ref aO), (1, .int xp), (2, .int xc)] := hl
  have iX2 : ∀ w ∈ u_ws RX2 TX2 7, w ∈ wsX3_lock := by decide +kernel
  have iX3 : ∀ w ∈ u_ws RX3 TX3 5, w ∈ wsX3_lock := by decide +kernel
  obtain ⟨H, hHe⟩ : ∃ z, z = s.heap := ⟨_, rfl⟩
  obtain ⟨locs, hLe⟩ : ∃ z : List Loc, z = [] := ⟨_, rfl⟩
  have hP : va_P E.1 vwCl [(aO, o3 aLy aLi aDa aLk (nI lst)), (aLk, o2 aLy aLi aCh aLo aDi aDk aBe), (aLy, o0 (nI n) aK aX aY aF aS aL), (aK, ia E nI 16 kd), (aCh, ia E cL 16 chn), (aDi, ia E cD 16 dir), (aDk, ia E nI 16 dkt), (aBe, ja E 16 bef)] H := by rw [hHe]; exact hP
  have hD : va_D A [(aO, o3 aLy aLi aDa aLk (nI lst)), (aLk, o2 aLy aLi aCh aLo aDi aDk aBe), (aLy, o0 (nI n) aK aX aY aF aS aL), (aK, ia E nI 16 kd), (aCh, ia E cL 16 chn), (aDi, ia E cD 16 dir), (aDk, ia E nI 16 dkt), (aBe, ja E 16 bef)] := hD
  have hS : va_S A s.heap H locs := by rw [hHe, hLe]; exact hS
  suffices hgo : W p l e _ s m _ below meth c H locs 0 0 _ (F0 m 0 ls []) by rw [hHe, hLe] at hgo; exact hgo
  clear hHe hLe
  obtain ⟨hP9, hC9, hk3⟩ := locC_0 h
  have htn := cL_le (by omega) hP9
  have hkk := hk _ htn
  refine lv_aload_n hx hb dX3_lock_0 rfl (lv_at hl 0 rfl) ?_
  refine lv_iload_n hx hb dX3_lock_1 rfl (lv_at hl 1 rfl) ?_
  have hPc := hP.pick (ws' := [(aO, o3 aLy aLi aDa aLk (nI lst)), (aLy, o0 (nI n) aK aX aY aF aS aL)]) [0, 2] rfl
  have hDc := hD.sub (ws' := [(aO, o3 aLy aLi aDa aLk (nI lst)), (aLy, o0 (nI n) aK aX aY aF aS aL)]) [0, 2] (by decide) rfl
  refine kcV (wr := [(aLk, o2 aLy aLi aCh aLo aDi aDk aBe), (aK, ia E nI 16 kd), (aCh, ia E cL 16 chn), (aDi, ia E cD 16 dir), (aDk, ia E nI 16 dkt), (aBe, ja E 16 bef)]) (w1 := fun _ : Unit => [(aO, o3 aLy aLi aDa aLk (nI lst)), (aLy, o0 (nI n) aK aX aY aF aS aL)]) (w2 := fun _ => [(aO, o3 aLy aLi aDa aLk (nI lst)), (aLk, o2 aLy aLi aCh aLo aDi aDk aBe), (aLy, o0 (nI n) aK aX aY aF aS aL), (aK, ia E nI 16 kd), (aCh, ia E cL 16 chn), (aDi, ia E cD 16 dir), (aDk, ia E nI 16 dkt), (aBe, ja E 16 bef)]) (va_runV (As := [.int xp]) (rest := []) ⟨hx, hb, hml, hown, hts⟩ (c_needPart l E H.size xp aO aLi aDa aLk lst aLy aK aX aY aF aS aL n hP9 (hn)) (cwV 1 hts gX3_lock_X3_needPart rfl rfl rfl (by decide +kernel) ⟨Nat.le_of_ble_eq_true rfl, Nat.le_of_ble_eq_true rfl⟩) (preV C0 hPc hDc hS 0 rfl rfl) rfl rfl hl.1 rfl (lv_room (Nat.le_of_ble_eq_true rfl)) dX3_lock_2 ⟨Nat.le_refl _, Nat.le_refl _⟩) C0 hP hD hS [0, 2] [1, 3, 4, 5, 6, 7] [6, 0, 7, 1, 2, 3, 4, 5] rfl rfl (by decide) (by decide) (fun _ => rfl) (by decide) (fun _u H locs _hw hP hD hS => ?_)
  have hP : va_P E.1 vwCl [(aO, o3 aLy aLi aDa aLk (nI lst)), (aLk, o2 aLy aLi aCh aLo aDi aDk aBe), (aLy, o0 (nI n) aK aX aY aF aS aL), (aK, ia E nI 16 kd), (aCh, ia E cL 16 chn), (aDi, ia E cD 16 dir), (aDk, ia E nI 16 dkt), (aBe, ja E 16 bef)] H := hP
  have hD : va_D A [(aO, o3 aLy aLi aDa aLk (nI lst)), (aLk, o2 aLy aLi aCh aLo aDi aDk aBe), (aLy, o0 (nI n) aK aX aY aF aS aL), (aK, ia E nI 16 kd), (aCh, ia E cL 16 chn), (aDi, ia E cD 16 dir), (aDk, ia E nI 16 dkt), (aBe, ja E 16 bef)] := hD
  refine lv_iload_n hx hb dX3_lock_5 rfl (lv_at hl 2 rfl) ?_
  refine lv_iconst (v := -1) hx hb dX3_lock_6 (by decide) ?_
  refine lv_bipush (v := nI 7) hx hb dX3_lock_7 (by decide) ?_
  have hPc := hP.pick (ws' := []) [] rfl
  have hDc := hD.sub (ws' := []) [] (by decide) rfl
  refine kcV (wr := [(aO, o3 aLy aLi aDa aLk (nI lst)), (aLk, o2 aLy aLi aCh aLo aDi aDk aBe), (aLy, o0 (nI n) aK aX aY aF aS aL), (aK, ia E nI 16 kd), (aCh, ia E cL 16 chn), (aDi, ia E cD 16 dir), (aDk, ia E nI 16 dkt), (aBe, ja E 16 bef)]) (w1 := fun _ : Unit => []) (w2 := fun _ => [(aO, o3 aLy aLi aDa aLk (nI lst)), (aLk, o2 aLy aLi aCh aLo aDi aDk aBe), (aLy, o0 (nI n) aK aX aY aF aS aL), (aK, ia E nI 16 kd), (aCh, ia E cL 16 chn), (aDi, ia E cD 16 dir), (aDk, ia E nI 16 dkt), (aBe, ja E 16 bef)]) (va_runS (As := [.int xc, .int (-1), .int (nI 7)]) (rest := []) ⟨hx, hb, hml, hown, hts⟩ (c_needRange l E H.size xc (-1) (nI 7) hC9) (va_cwS 3 hts gX3_lock_X3_needRange rfl rfl rfl (by decide +kernel) ⟨Nat.le_of_ble_eq_true rfl, Nat.le_of_ble_eq_true rfl⟩) (preS C0 hPc hDc hS) rfl rfl hl.1 rfl (lv_room (Nat.le_of_ble_eq_true rfl)) dX3_lock_9 ⟨Nat.le_refl _, Nat.le_refl _⟩) C0 hP hD hS [] [0, 1, 2, 3, 4, 5, 6, 7] [0, 1, 2, 3, 4, 5, 6, 7] rfl rfl (by decide) (by decide) (fun _ => rfl) (by decide) (fun _u H locs _hw hP hD hS => ?_)
  have hP : va_P E.1 vwCl [(aO, o3 aLy aLi aDa aLk (nI lst)), (aLk, o2 aLy aLi aCh aLo aDi aDk aBe), (aLy, o0 (nI n) aK aX aY aF aS aL), (aK, ia E nI 16 kd), (aCh, ia E cL 16 chn), (aDi, ia E cD 16 dir), (aDk, ia E nI 16 dkt), (aBe, ja E 16 bef)] H := hP
  have hD : va_D A [(aO, o3 aLy aLi aDa aLk (nI lst)), (aLk, o2 aLy aLi aCh aLo aDi aDk aBe), (aLy, o0 (nI n) aK aX aY aF aS aL), (aK, ia E nI 16 kd), (aCh, ia E cL 16 chn), (aDi, ia E cD 16 dir), (aDk, ia E nI 16 dkt), (aBe, ja E 16 bef)] := hD
  refine lv_aload_n hx hb dX3_lock_12 rfl (lv_at hl 0 rfl) ?_
  refine lv_iload_n hx hb dX3_lock_13 rfl (lv_at hl 1 rfl) ?_
  refine lv_ri (y := (nI (tN xp))) (tN_eq hP9) ?_
  refine lv_iconst (v := nI 3) hx hb dX3_lock_14 (by decide) ?_
  have hPc := hP.pick (ws' := [(aO, o3 aLy aLi aDa aLk (nI lst)), (aLy, o0 (nI n) aK aX aY aF aS aL), (aK, ia E nI 16 kd)]) [0, 2, 3] rfl
  have hDc := hD.sub (ws' := [(aO, o3 aLy aLi aDa aLk (nI lst)), (aLy, o0 (nI n) aK aX aY aF aS aL), (aK, ia E nI 16 kd)]) [0, 2, 3] (by decide) rfl
  refine kcV (wr := [(aLk, o2 aLy aLi aCh aLo aDi aDk aBe), (aCh, ia E cL 16 chn), (aDi, ia E cD 16 dir), (aDk, ia E nI 16 dkt), (aBe, ja E 16 bef)]) (w1 := fun _ : Unit => [(aO, o3 aLy aLi aDa aLk (nI lst)), (aLy, o0 (nI n) aK aX aY aF aS aL), (aK, ia E nI 16 kd)]) (w2 := fun _ => [(aO, o3 aLy aLi aDa aLk (nI lst)), (aLk, o2 aLy aLi aCh aLo aDi aDk aBe), (aLy, o0 (nI n) aK aX aY aF aS aL), (aK, ia E nI 16 kd), (aCh, ia E cL 16 chn), (aDi, ia E cD 16 dir), (aDk, ia E nI 16 dkt), (aBe, ja E 16 bef)]) (va_runV (As := [.int (nI (tN xp)), .int (nI 3)]) (rest := []) ⟨hx, hb, hml, hown, hts⟩ (c_needKind l E H.size (tN xp) 3 aO aLi aDa aLk lst aLy aK aX aY aF aS aL n kd hk3 (by omega) (by first | exact hkk | exact hk) (by omega)) (cwV 2 hts gX3_lock_X3_needKind rfl rfl rfl (by decide +kernel) ⟨Nat.le_of_ble_eq_true rfl, Nat.le_of_ble_eq_true rfl⟩) (preV C0 hPc hDc hS 0 rfl rfl) rfl rfl hl.1 rfl (lv_room (Nat.le_of_ble_eq_true rfl)) dX3_lock_15 ⟨Nat.le_refl _, Nat.le_refl _⟩) C0 hP hD hS [0, 2, 3] [1, 4, 5, 6, 7] [5, 0, 6, 7, 1, 2, 3, 4] rfl rfl (by decide) (by decide) (fun _ => rfl) (by decide) (fun _u H locs _hw hP hD hS => ?_)
  have hP : va_P E.1 vwCl [(aO, o3 aLy aLi aDa aLk (nI lst)), (aLk, o2 aLy aLi aCh aLo aDi aDk aBe), (aLy, o0 (nI n) aK aX aY aF aS aL), (aK, ia E nI 16 kd), (aCh, ia E cL 16 chn), (aDi, ia E cD 16 dir), (aDk, ia E nI 16 dkt), (aBe, ja E 16 bef)] H := hP
  have hD : va_D A [(aO, o3 aLy aLi aDa aLk (nI lst)), (aLk, o2 aLy aLi aCh aLo aDi aDk aBe), (aLy, o0 (nI n) aK aX aY aF aS aL), (aK, ia E nI 16 kd), (aCh, ia E cL 16 chn), (aDi, ia E cD 16 dir), (aDk, ia E nI 16 dkt), (aBe, ja E 16 bef)] := hD
  refine lv_aload_n hx hb dX3_lock_18 rfl (lv_at hl 0 rfl) ?_
  refine va_get (D := E.1) (ci := 3) (v := .ref aLk) (C := RX3) (T := TX3) (N := 5) hx hb hts iX3 hown C0.1 hP 0 rfl rfl 3 (by decide) (hts (.fieldLink RX3 33 "Ringresonance" "locks" "LRingresonance$Locks;") (by decide +kernel)) (fun _ h9 => h9) rfl dX3_lock_19 ?_
  refine va_get (D := E.1) (ci := 2) (v := .ref aCh) (C := RX2) (T := TX2) (N := 7) hx hb hts iX2 hown C0.1 hP 1 rfl rfl 2 (by decide) (hts (.fieldLink RX3 106 "Ringresonance$Locks" "channels" "[I") (by decide +kernel)) (fun _ h9 => h9) rfl dX3_lock_22 ?_
  refine lv_iload_n hx hb dX3_lock_25 rfl (lv_at hl 1 rfl) ?_
  refine lv_ri (y := (nI (tN xp))) (tN_eq hP9) ?_
  refine k_iald (e := (tN xp)) (g := cL) (n := 16) hx hb C0 hP 4 rfl (by omega) (by omega) dX3_lock_26 ?_
  refine lv_istore_n (lv' := [(3, .int (cL (chn (tN xp)))), (0, .ref aO), (1, .int xp), (2, .int xc)]) hx hb dX3_lock_27 rfl hl (by decide) rfl (fun ls hl => ?_)
  refine lv_aload_n hx hb dX3_lock_28 rfl (lv_at hl 1 rfl) ?_
  refine va_get (D := E.1) (ci := 3) (v := .ref aLk) (C := RX3) (T := TX3) (N := 5) hx hb hts iX3 hown C0.1 hP 0 rfl rfl 3 (by decide) (hts (.fieldLink RX3 33 "Ringresonance" "locks" "LRingresonance$Locks;") (by decide +kernel)) (fun _ h9 => h9) rfl dX3_lock_29 ?_
  refine lv_iload_n hx hb dX3_lock_32 rfl (lv_at hl 2 rfl) ?_
  refine lv_ri (y := (nI (tN xp))) (tN_eq hP9) ?_
  refine lv_iload_n hx hb dX3_lock_33 rfl (lv_at hl 3 rfl) ?_
  refine lv_ri (y := (cL (tC xc))) (tC_eq hC9) ?_
  have hPc := hP.pick (ws' := [(aLk, o2 aLy aLi aCh aLo aDi aDk aBe), (aCh, ia E cL 16 chn), (aDi, ia E cD 16 dir), (aDk, ia E nI 16 dkt), (aBe, ja E 16 bef)]) [1, 4, 5, 6, 7] rfl
  have hDc := hD.sub (ws' := [(aLk, o2 aLy aLi aCh aLo aDi aDk aBe), (aCh, ia E cL 16 chn), (aDi, ia E cD 16 dir), (aDk, ia E nI 16 dkt), (aBe, ja E 16 bef)]) [1, 4, 5, 6, 7] (by decide) rfl
  refine kcV (wr := [(aO, o3 aLy aLi aDa aLk (nI lst)), (aLy, o0 (nI n) aK aX aY aF aS aL), (aK, ia E nI 16 kd)]) (w1 := fun _ : Unit => [(aLk, o2 aLy aLi aCh aLo aDi aDk aBe), (aCh, ia E cL 16 (va_up chn (tN xp) (tC xc))), (aDi, ia E cD 16 (va_up dir (tN xp) 1)), (aDk, ia E nI 16 (va_up dkt (tN xp) 0)), (aBe, ja E 16 (va_up bef (tN xp) 0))]) (w2 := fun _ => [(aO, o3 aLy aLi aDa aLk (nI lst)), (aLk, o2 aLy aLi aCh aLo aDi aDk aBe), (aLy, o0 (nI n) aK aX aY aF aS aL), (aK, ia E nI 16 kd), (aCh, ia E cL 16 (va_up chn (tN xp) (tC xc))), (aDi, ia E cD 16 (va_up dir (tN xp) 1)), (aDk, ia E nI 16 (va_up dkt (tN xp) 0)), (aBe, ja E 16 (va_up bef (tN xp) 0))]) (va_runV (As := [.int (nI (tN xp)), .int (cL (tC xc))]) (rest := []) ⟨hx, hb, hml, hown, hts⟩ (c_begin l E H.size (tN xp) (tC xc) aLy aLi aLk aCh aLo aDi aDk aBe chn dir dkt bef (by omega)) (cwV 2 hts gX3_lock_X2_begin rfl rfl rfl (by decide +kernel) ⟨Nat.le_of_ble_eq_true rfl, Nat.le_of_ble_eq_true rfl⟩) (preV C0 hPc hDc hS 0 rfl rfl) rfl rfl hl.1 rfl (lv_room (Nat.le_of_ble_eq_true rfl)) dX3_lock_34 ⟨Nat.le_refl _, Nat.le_refl _⟩) C0 hP hD hS [1, 4, 5, 6, 7] [0, 2, 3] [0, 3, 1, 2, 4, 5, 6, 7] rfl rfl (by decide) (by decide) (fun _ => rfl) (by decide) (fun _u H locs _hw hP hD hS => ?_)
  have hP : va_P E.1 vwCl [(aO, o3 aLy aLi aDa aLk (nI lst)), (aLk, o2 aLy aLi aCh aLo aDi aDk aBe), (aLy, o0 (nI n) aK aX aY aF aS aL), (aK, ia E nI 16 kd), (aCh, ia E cL 16 (va_up chn (tN xp) (tC xc))), (aDi, ia E cD 16 (va_up dir (tN xp) 1)), (aDk, ia E nI 16 (va_up dkt (tN xp) 0)), (aBe, ja E 16 (va_up bef (tN xp) 0))] H := hP
  have hD : va_D A [(aO, o3 aLy aLi aDa aLk (nI lst)), (aLk, o2 aLy aLi aCh aLo aDi aDk aBe), (aLy, o0 (nI n) aK aX aY aF aS aL), (aK, ia E nI 16 kd), (aCh, ia E cL 16 (va_up chn (tN xp) (tC xc))), (aDi, ia E cD 16 (va_up dir (tN xp) 1)), (aDk, ia E nI 16 (va_up dkt (tN xp) 0)), (aBe, ja E 16 (va_up bef (tN xp) 0))] := hD
  refine lv_iload_n hx hb dX3_lock_37 rfl (lv_at hl 0 rfl) ?_
  have q_1 : (cL (chn (tN xp))) = (cL (chn (tN xp))) := rfl
  exact exI hx hb hr hlocks hAe hS () q_1 hP hD dX3_lock_38

set_option maxHeartbeats 4000000 in
set_option maxRecDepth 100000 in
theorem x_lock (l : Launch) (E : EnvT) (sz : Nat) (xp xc : Int32) (aO aLi aDa lst : Nat) (aLy aK aX aY aF aS aL n : Nat) (aLk aCh aLo aDi aDk aBe : Nat) (kd chn dir dkt : Nat → Nat) (bef : Nat → Int64) (h : ¬ (locC n kd xp xc = 0)) (hn : n ≤ 16) (hk : ∀ j, j < n → kd j ≤ 5) (hst : l.stackTraces = false) : MX l yX3_lock wsX3_lock ({ frames := 7, cells := 1, slots := 6, locals := 104 }) E sz [.ref aO, .int xp, .int xc] [(aO, o3 aLy aLi aDa aLk (nI lst)), (aLk, o2 aLy aLi aCh aLo aDi aDk aBe), (aLy, o0 (nI n) aK aX aY aF aS aL), (aK, ia E nI 16 kd), (aCh, ia E cL 16 chn), (aDi, ia E cD 16 dir), (aDk, ia E nI 16 dkt), (aBe, ja E 16 bef)] (xM xI xA xS (locC n kd xp xc)) := by
  refine enX (cc := cX3_lock) (maxL := 4) (ret := (some .int)) (by decide +kernel) rfl (Nat.le_of_ble_eq_true rfl) ?_
  intro p e s m below meth c A ls hx hb hr hml hts hown hlocks hAe C0 hP hD hS hl
  have hown : s.vm.findClass RX3 = some m.cls := hown
  have hl : lv_has ls 4 [(0, .ref aO), (1, .int xp), (2, .int xc)] := hl
  obtain ⟨H, hHe⟩ : ∃ z, z = s.heap := ⟨_, rfl⟩
  obtain ⟨locs, hLe⟩ : ∃ z : List Loc, z = [] := ⟨_, rfl⟩
  have hP : va_P E.1 vwCl [(aO, o3 aLy aLi aDa aLk (nI lst)), (aLk, o2 aLy aLi aCh aLo aDi aDk aBe), (aLy, o0 (nI n) aK aX aY aF aS aL), (aK, ia E nI 16 kd), (aCh, ia E cL 16 chn), (aDi, ia E cD 16 dir), (aDk, ia E nI 16 dkt), (aBe, ja E 16 bef)] H := by rw [hHe]; exact hP
  have hD : va_D A [(aO, o3 aLy aLi aDa aLk (nI lst)), (aLk, o2 aLy aLi aCh aLo aDi aDk aBe), (aLy, o0 (nI n) aK aX aY aF aS aL), (aK, ia E nI 16 kd), (aCh, ia E cL 16 chn), (aDi, ia E cD 16 dir), (aDk, ia E nI 16 dkt), (aBe, ja E 16 bef)] := hD
  have hS : va_S A s.heap H locs := by rw [hHe, hLe]; exact hS
  suffices hgo : W p l e _ s m _ below meth c H locs 0 0 _ (F0 m 0 ls []) by rw [hHe, hLe] at hgo; exact hgo
  clear hHe hLe
  refine lv_aload_n hx hb dX3_lock_0 rfl (lv_at hl 0 rfl) ?_
  refine lv_iload_n hx hb dX3_lock_1 rfl (lv_at hl 1 rfl) ?_
  by_cases hP9 : nI 0 ≤ xp ∧ xp ≤ cL n
  · skip
    have htn := cL_le (by omega) hP9
    have hkk := hk _ htn
    have hPc := hP.pick (ws' := [(aO, o3 aLy aLi aDa aLk (nI lst)), (aLy, o0 (nI n) aK aX aY aF aS aL)]) [0, 2] rfl
    have hDc := hD.sub (ws' := [(aO, o3 aLy aLi aDa aLk (nI lst)), (aLy, o0 (nI n) aK aX aY aF aS aL)]) [0, 2] (by decide) rfl
    refine kcV (wr := [(aLk, o2 aLy aLi aCh aLo aDi aDk aBe), (aK, ia E nI 16 kd), (aCh, ia E cL 16 chn), (aDi, ia E cD 16 dir), (aDk, ia E nI 16 dkt), (aBe, ja E 16 bef)]) (w1 := fun _ : Unit => [(aO, o3 aLy aLi aDa aLk (nI lst)), (aLy, o0 (nI n) aK aX aY aF aS aL)]) (w2 := fun _ => [(aO, o3 aLy aLi aDa aLk (nI lst)), (aLk, o2 aLy aLi aCh aLo aDi aDk aBe), (aLy, o0 (nI n) aK aX aY aF aS aL), (aK, ia E nI 16 kd), (aCh, ia E cL 16 chn), (aDi, ia E cD 16 dir), (aDk, ia E nI 16 dkt), (aBe, ja E 16 bef)]) (va_runV (As := [.int xp]) (rest := []) ⟨hx, hb, hml, hown, hts⟩ (c_needPart l E H.size xp aO aLi aDa aLk lst aLy aK aX aY aF aS aL n hP9 (hn)) (cwV 1 hts gX3_lock_X3_needPart rfl rfl rfl (by decide +kernel) ⟨Nat.le_of_ble_eq_true rfl, Nat.le_of_ble_eq_true rfl⟩) (preV C0 hPc hDc hS 0 rfl rfl) rfl rfl hl.1 rfl (lv_room (Nat.le_of_ble_eq_true rfl)) dX3_lock_2 ⟨Nat.le_of_ble_eq_true rfl, Nat.le_of_ble_eq_true rfl⟩) C0 hP hD hS [0, 2] [1, 3, 4, 5, 6, 7] [6, 0, 7, 1, 2, 3, 4, 5] rfl rfl (by decide) (by decide) (fun _ => rfl) (by decide) (fun _u H locs _hw hP hD hS => ?_)
    have hP : va_P E.1 vwCl [(aO, o3 aLy aLi aDa aLk (nI lst)), (aLk, o2 aLy aLi aCh aLo aDi aDk aBe), (aLy, o0 (nI n) aK aX aY aF aS aL), (aK, ia E nI 16 kd), (aCh, ia E cL 16 chn), (aDi, ia E cD 16 dir), (aDk, ia E nI 16 dkt), (aBe, ja E 16 bef)] H := hP
    have hD : va_D A [(aO, o3 aLy aLi aDa aLk (nI lst)), (aLk, o2 aLy aLi aCh aLo aDi aDk aBe), (aLy, o0 (nI n) aK aX aY aF aS aL), (aK, ia E nI 16 kd), (aCh, ia E cL 16 chn), (aDi, ia E cD 16 dir), (aDk, ia E nI 16 dkt), (aBe, ja E 16 bef)] := hD
    refine lv_iload_n hx hb dX3_lock_5 rfl (lv_at hl 2 rfl) ?_
    refine lv_iconst (v := -1) hx hb dX3_lock_6 (by decide) ?_
    refine lv_bipush (v := nI 7) hx hb dX3_lock_7 (by decide) ?_
    by_cases hC9 : (-1) ≤ xc ∧ xc ≤ (nI 7)
    · skip
      have hPc := hP.pick (ws' := []) [] rfl
      have hDc := hD.sub (ws' := []) [] (by decide) rfl
      refine kcV (wr := [(aO, o3 aLy aLi aDa aLk (nI lst)), (aLk, o2 aLy aLi aCh aLo aDi aDk aBe), (aLy, o0 (nI n) aK aX aY aF aS aL), (aK, ia E nI 16 kd), (aCh, ia E cL 16 chn), (aDi, ia E cD 16 dir), (aDk, ia E nI 16 dkt), (aBe, ja E 16 bef)]) (w1 := fun _ : Unit => []) (w2 := fun _ => [(aO, o3 aLy aLi aDa aLk (nI lst)), (aLk, o2 aLy aLi aCh aLo aDi aDk aBe), (aLy, o0 (nI n) aK aX aY aF aS aL), (aK, ia E nI 16 kd), (aCh, ia E cL 16 chn), (aDi, ia E cD 16 dir), (aDk, ia E nI 16 dkt), (aBe, ja E 16 bef)]) (va_runS (As := [.int xc, .int (-1), .int (nI 7)]) (rest := []) ⟨hx, hb, hml, hown, hts⟩ (c_needRange l E H.size xc (-1) (nI 7) hC9) (va_cwS 3 hts gX3_lock_X3_needRange rfl rfl rfl (by decide +kernel) ⟨Nat.le_of_ble_eq_true rfl, Nat.le_of_ble_eq_true rfl⟩) (preS C0 hPc hDc hS) rfl rfl hl.1 rfl (lv_room (Nat.le_of_ble_eq_true rfl)) dX3_lock_9 ⟨Nat.le_of_ble_eq_true rfl, Nat.le_of_ble_eq_true rfl⟩) C0 hP hD hS [] [0, 1, 2, 3, 4, 5, 6, 7] [0, 1, 2, 3, 4, 5, 6, 7] rfl rfl (by decide) (by decide) (fun _ => rfl) (by decide) (fun _u H locs _hw hP hD hS => ?_)
      have hP : va_P E.1 vwCl [(aO, o3 aLy aLi aDa aLk (nI lst)), (aLk, o2 aLy aLi aCh aLo aDi aDk aBe), (aLy, o0 (nI n) aK aX aY aF aS aL), (aK, ia E nI 16 kd), (aCh, ia E cL 16 chn), (aDi, ia E cD 16 dir), (aDk, ia E nI 16 dkt), (aBe, ja E 16 bef)] H := hP
      have hD : va_D A [(aO, o3 aLy aLi aDa aLk (nI lst)), (aLk, o2 aLy aLi aCh aLo aDi aDk aBe), (aLy, o0 (nI n) aK aX aY aF aS aL), (aK, ia E nI 16 kd), (aCh, ia E cL 16 chn), (aDi, ia E cD 16 dir), (aDk, ia E nI 16 dkt), (aBe, ja E 16 bef)] := hD
      refine lv_aload_n hx hb dX3_lock_12 rfl (lv_at hl 0 rfl) ?_
      refine lv_iload_n hx hb dX3_lock_13 rfl (lv_at hl 1 rfl) ?_
      refine lv_ri (y := (nI (tN xp))) (tN_eq hP9) ?_
      refine lv_iconst (v := nI 3) hx hb dX3_lock_14 (by decide) ?_
      by_cases hk3 : kd (tN xp) = 3
      · skip
        exact absurd (show locC n kd xp xc = 0 from (if_pos hP9).trans ((if_pos hC9).trans (if_pos hk3))) h
      · skip
        have hPc := hP.pick (ws' := [(aO, o3 aLy aLi aDa aLk (nI lst)), (aLy, o0 (nI n) aK aX aY aF aS aL), (aK, ia E nI 16 kd)]) [0, 2, 3] rfl
        have hDc := hD.sub (ws' := [(aO, o3 aLy aLi aDa aLk (nI lst)), (aLy, o0 (nI n) aK aX aY aF aS aL), (aK, ia E nI 16 kd)]) [0, 2, 3] (by decide) rfl
        exact kcX (wr := [(aLk, o2 aLy aLi aCh aLo aDi aDk aBe), (aCh, ia E cL 16 chn), (aDi, ia E cD 16 dir), (aDk, ia E nI 16 dkt), (aBe, ja E 16 bef)]) ((congrArg (xM xI xA xS) (show locC n kd xp xc = 3 from (if_pos hP9).trans ((if_pos hC9).trans (if_neg hk3)))).trans rfl) (vx_runV (As := [.int (nI (tN xp)), .int (nI 3)]) (rest := []) ⟨hx, hb, hml, hown, hts⟩ (x_needKind l E H.size (tN xp) 3 aO aLi aDa aLk lst aLy aK aX aY aF aS aL n kd hk3 (by omega) (by first | exact hkk | exact hk) (by omega) hst) (cwV 2 hts gX3_lock_X3_needKind rfl rfl rfl (by decide +kernel) ⟨Nat.le_of_ble_eq_true rfl, Nat.le_of_ble_eq_true rfl⟩) (preV C0 hPc hDc hS 0 rfl rfl) rfl rfl hl.1 rfl (lv_room (Nat.le_of_ble_eq_true rfl)) dX3_lock_15 ⟨Nat.le_of_ble_eq_true rfl, Nat.le_of_ble_eq_true rfl⟩) hr hlocks hAe C0 hP hD hS [0, 2, 3] [1, 4, 5, 6, 7] [5, 0, 6, 7, 1, 2, 3, 4] rfl rfl (by decide) (by decide) rfl (by decide)
    · skip
      have hPc := hP.pick (ws' := []) [] rfl
      have hDc := hD.sub (ws' := []) [] (by decide) rfl
      exact kcX (wr := [(aO, o3 aLy aLi aDa aLk (nI lst)), (aLk, o2 aLy aLi aCh aLo aDi aDk aBe), (aLy, o0 (nI n) aK aX aY aF aS aL), (aK, ia E nI 16 kd), (aCh, ia E cL 16 chn), (aDi, ia E cD 16 dir), (aDk, ia E nI 16 dkt), (aBe, ja E 16 bef)]) ((congrArg (xM xI xA xS) (show locC n kd xp xc = 2 from (if_pos hP9).trans (if_neg hC9))).trans rfl) (vx_runS (As := [.int xc, .int (-1), .int (nI 7)]) (rest := []) ⟨hx, hb, hml, hown, hts⟩ (x_needRange l E H.size xc (-1) (nI 7) hC9 hst) (va_cwS 3 hts gX3_lock_X3_needRange rfl rfl rfl (by decide +kernel) ⟨Nat.le_of_ble_eq_true rfl, Nat.le_of_ble_eq_true rfl⟩) (preS C0 hPc hDc hS) rfl rfl hl.1 rfl (lv_room (Nat.le_of_ble_eq_true rfl)) dX3_lock_9 ⟨Nat.le_of_ble_eq_true rfl, Nat.le_of_ble_eq_true rfl⟩) hr hlocks hAe C0 hP hD hS [] [0, 1, 2, 3, 4, 5, 6, 7] [0, 1, 2, 3, 4, 5, 6, 7] rfl rfl (by decide) (by decide) rfl (by decide)
  · skip
    have hPc := hP.pick (ws' := [(aO, o3 aLy aLi aDa aLk (nI lst)), (aLy, o0 (nI n) aK aX aY aF aS aL)]) [0, 2] rfl
    have hDc := hD.sub (ws' := [(aO, o3 aLy aLi aDa aLk (nI lst)), (aLy, o0 (nI n) aK aX aY aF aS aL)]) [0, 2] (by decide) rfl
    exact kcX (wr := [(aLk, o2 aLy aLi aCh aLo aDi aDk aBe), (aK, ia E nI 16 kd), (aCh, ia E cL 16 chn), (aDi, ia E cD 16 dir), (aDk, ia E nI 16 dkt), (aBe, ja E 16 bef)]) ((congrArg (xM xI xA xS) (show locC n kd xp xc = 1 from if_neg hP9)).trans rfl) (vx_runV (As := [.int xp]) (rest := []) ⟨hx, hb, hml, hown, hts⟩ (x_needPart l E H.size xp aO aLi aDa aLk lst aLy aK aX aY aF aS aL n hP9 (hn) hst) (cwV 1 hts gX3_lock_X3_needPart rfl rfl rfl (by decide +kernel) ⟨Nat.le_of_ble_eq_true rfl, Nat.le_of_ble_eq_true rfl⟩) (preV C0 hPc hDc hS 0 rfl rfl) rfl rfl hl.1 rfl (lv_room (Nat.le_of_ble_eq_true rfl)) dX3_lock_2 ⟨Nat.le_of_ble_eq_true rfl, Nat.le_of_ble_eq_true rfl⟩) hr hlocks hAe C0 hP hD hS [0, 2] [1, 3, 4, 5, 6, 7] [6, 0, 7, 1, 2, 3, 4, 5] rfl rfl (by decide) (by decide) rfl (by decide)
