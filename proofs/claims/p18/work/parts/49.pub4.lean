set_option maxHeartbeats 4000000 in
set_option maxRecDepth 100000 in
theorem c_comes (l : Launch) (E : EnvT) (sz : Nat) (xq xi xc : Int32) (aO aDa aKs lst : Nat) (aLy aK aX aY aF aS aL n : Nat) (aLi aC aG aU aR aN aW o tk : Nat) (em lo lk de : Int64) (kd : Nat → Nat) (co : Nat → Int64) (h : comC n kd xq xi xc = 0) (hn : n ≤ 16) (hk : ∀ j, j < n → kd j ≤ 5) : ML l yX3_comes wsX3_comes ({ frames := 2, cells := 0, slots := 0, locals := 43 }) E sz [.ref aO, .int xq, .int xi, .int xc] [(aO, o3 aLy aLi aDa aKs (nI lst)), (aLi, o1 aLy aC aG aU aR aN aW (cO o) (nI tk) em lo lk de), (aLy, o0 (nI n) aK aX aY aF aS aL), (aK, ia E nI 16 kd), (aC, ja E 256 co)] (fun (r : Int64) (_ : Unit) => r = co ((tN xq * 2 + tN xi) * 8 + tN xc)) (fun _ => [(aO, o3 aLy aLi aDa aKs (nI lst)), (aLi, o1 aLy aC aG aU aR aN aW (cO o) (nI tk) em lo lk de), (aLy, o0 (nI n) aK aX aY aF aS aL), (aK, ia E nI 16 kd), (aC, ja E 256 co)]) := by
  refine enL (cc := cX3_comes) (maxL := 4) (by decide +kernel) rfl (Nat.le_of_ble_eq_true rfl) ?_
  intro p e s m below meth c A ls hx hb hr hml hts hown hlocks hAe C0 hP hD hS hl
  have hown : s.vm.findClass RX3 = some m.cls := hown
  have hl : lv_has ls 4 [(0, .ref aO), (1, .int xq), (2, .int xi), (3, .int xc)] := hl
  have iX1 : ∀ w ∈ u_ws RX1 TX1 13, w ∈ wsX3_comes := by decide +kernel
  have iX3 : ∀ w ∈ u_ws RX3 TX3 5, w ∈ wsX3_comes := by decide +kernel
  obtain ⟨H, hHe⟩ : ∃ z, z = s.heap := ⟨_, rfl⟩
  obtain ⟨locs, hLe⟩ : ∃ z : List Loc, z = [] := ⟨_, rfl⟩
  have hP : va_P E.1 vwCl [(aO, o3 aLy aLi aDa aKs (nI lst)), (aLi, o1 aLy aC aG aU aR aN aW (cO o) (nI tk) em lo lk de), (aLy, o0 (nI n) aK aX aY aF aS aL), (aK, ia E nI 16 kd), (aC, ja E 256 co)] H := by rw [hHe]; exact hP
  have hD : va_D A [(aO, o3 aLy aLi aDa aKs (nI lst)), (aLi, o1 aLy aC aG aU aR aN aW (cO o) (nI tk) em lo lk de), (aLy, o0 (nI n) aK aX aY aF aS aL), (aK, ia E nI 16 kd), (aC, ja E 256 co)] := hD
  have hS : va_S A s.heap H locs := by rw [hHe, hLe]; exact hS
  suffices hgo : W p l e _ s m _ below meth c H locs 0 0 _ (F0 m 0 ls []) by rw [hHe, hLe] at hgo; exact hgo
  clear hHe hLe
  obtain ⟨hI9, hC9⟩ := comC_0 h
  have htq := cL_le (by omega) hI9.1
  have hkq := stV0_le (hk _ htq)
  have hti := cL_le (by omega) hI9.2
  have htc := tN_le (by omega) hC9.2
  refine lv_aload_n hx hb dX3_comes_0 rfl (lv_at hl 0 rfl) ?_
  refine lv_iload_n hx hb dX3_comes_1 rfl (lv_at hl 1 rfl) ?_
  refine lv_iload_n hx hb dX3_comes_2 rfl (lv_at hl 2 rfl) ?_
  have hPc := hP.pick (ws' := [(aO, o3 aLy aLi aDa aKs (nI lst)), (aLy, o0 (nI n) aK aX aY aF aS aL), (aK, ia E nI 16 kd)]) [0, 2, 3] rfl
  have hDc := hD.sub (ws' := [(aO, o3 aLy aLi aDa aKs (nI lst)), (aLy, o0 (nI n) aK aX aY aF aS aL), (aK, ia E nI 16 kd)]) [0, 2, 3] (by decide) rfl
  refine kcV (wr := [(aLi, o1 aLy aC aG aU aR aN aW (cO o) (nI tk) em lo lk de), (aC, ja E 256 co)]) (w1 := fun _ : Unit => [(aO, o3 aLy aLi aDa aKs (nI lst)), (aLy, o0 (nI n) aK aX aY aF aS aL), (aK, ia E nI 16 kd)]) (w2 := fun _ => [(aO, o3 aLy aLi aDa aKs (nI lst)), (aLi, o1 aLy aC aG aU aR aN aW (cO o) (nI tk) em lo lk de), (aLy, o0 (nI n) aK aX aY aF aS aL), (aK, ia E nI 16 kd), (aC, ja E 256 co)]) (va_runV (As := [.int xq, .int xi]) (rest := []) ⟨hx, hb, hml, hown, hts⟩ (c_needInput l E H.size xq xi aO aLi aDa aKs lst aLy aK aX aY aF aS aL n kd hI9 (hn) (hk)) (cwV 2 hts gX3_comes_X3_needInput rfl rfl rfl (by decide +kernel) ⟨Nat.le_of_ble_eq_true rfl, Nat.le_of_ble_eq_true rfl⟩) (preV C0 hPc hDc hS 0 rfl rfl) rfl rfl hl.1 rfl (lv_room (Nat.le_of_ble_eq_true rfl)) dX3_comes_3 ⟨Nat.le_refl _, Nat.le_refl _⟩) C0 hP hD hS [0, 2, 3] [1, 4] [2, 0, 3, 4, 1] rfl rfl (by decide) (by decide) (fun _ => rfl) (by decide) (fun _u H locs _hw hP hD hS => ?_)
  have hP : va_P E.1 vwCl [(aO, o3 aLy aLi aDa aKs (nI lst)), (aLi, o1 aLy aC aG aU aR aN aW (cO o) (nI tk) em lo lk de), (aLy, o0 (nI n) aK aX aY aF aS aL), (aK, ia E nI 16 kd), (aC, ja E 256 co)] H := hP
  have hD : va_D A [(aO, o3 aLy aLi aDa aKs (nI lst)), (aLi, o1 aLy aC aG aU aR aN aW (cO o) (nI tk) em lo lk de), (aLy, o0 (nI n) aK aX aY aF aS aL), (aK, ia E nI 16 kd), (aC, ja E 256 co)] := hD
  refine lv_iload_n hx hb dX3_comes_6 rfl (lv_at hl 3 rfl) ?_
  refine lv_iconst (v := nI 0) hx hb dX3_comes_7 (by decide) ?_
  refine lv_bipush (v := nI 7) hx hb dX3_comes_8 (by decide) ?_
  have hPc := hP.pick (ws' := []) [] rfl
  have hDc := hD.sub (ws' := []) [] (by decide) rfl
  refine kcV (wr := [(aO, o3 aLy aLi aDa aKs (nI lst)), (aLi, o1 aLy aC aG aU aR aN aW (cO o) (nI tk) em lo lk de), (aLy, o0 (nI n) aK aX aY aF aS aL), (aK, ia E nI 16 kd), (aC, ja E 256 co)]) (w1 := fun _ : Unit => []) (w2 := fun _ => [(aO, o3 aLy aLi aDa aKs (nI lst)), (aLi, o1 aLy aC aG aU aR aN aW (cO o) (nI tk) em lo lk de), (aLy, o0 (nI n) aK aX aY aF aS aL), (aK, ia E nI 16 kd), (aC, ja E 256 co)]) (va_runS (As := [.int xc, .int (nI 0), .int (nI 7)]) (rest := []) ⟨hx, hb, hml, hown, hts⟩ (c_needRange l E H.size xc (nI 0) (nI 7) hC9) (va_cwS 3 hts gX3_comes_X3_needRange rfl rfl rfl (by decide +kernel) ⟨Nat.le_of_ble_eq_true rfl, Nat.le_of_ble_eq_true rfl⟩) (preS C0 hPc hDc hS) rfl rfl hl.1 rfl (lv_room (Nat.le_of_ble_eq_true rfl)) dX3_comes_10 ⟨Nat.le_refl _, Nat.le_refl _⟩) C0 hP hD hS [] [0, 1, 2, 3, 4] [0, 1, 2, 3, 4] rfl rfl (by decide) (by decide) (fun _ => rfl) (by decide) (fun _u H locs _hw hP hD hS => ?_)
  have hP : va_P E.1 vwCl [(aO, o3 aLy aLi aDa aKs (nI lst)), (aLi, o1 aLy aC aG aU aR aN aW (cO o) (nI tk) em lo lk de), (aLy, o0 (nI n) aK aX aY aF aS aL), (aK, ia E nI 16 kd), (aC, ja E 256 co)] H := hP
  have hD : va_D A [(aO, o3 aLy aLi aDa aKs (nI lst)), (aLi, o1 aLy aC aG aU aR aN aW (cO o) (nI tk) em lo lk de), (aLy, o0 (nI n) aK aX aY aF aS aL), (aK, ia E nI 16 kd), (aC, ja E 256 co)] := hD
  refine lv_aload_n hx hb dX3_comes_13 rfl (lv_at hl 0 rfl) ?_
  refine va_get (D := E.1) (ci := 3) (v := .ref aLi) (C := RX3) (T := TX3) (N := 5) hx hb hts iX3 hown C0.1 hP 0 rfl rfl 1 (by decide) (hts (.fieldLink RX3 21 "Ringresonance" "light" "LRingresonance$Light;") (by decide +kernel)) (fun _ h9 => h9) rfl dX3_comes_14 ?_
  refine va_get (D := E.1) (ci := 1) (v := .ref aC) (C := RX1) (T := TX1) (N := 13) hx hb hts iX1 hown C0.1 hP 1 rfl rfl 1 (by decide) (hts (.fieldLink RX3 148 "Ringresonance$Light" "coming" "[J") (by decide +kernel)) (fun _ h9 => h9) rfl dX3_comes_17 ?_
  refine lv_iload_n hx hb dX3_comes_20 rfl (lv_at hl 1 rfl) ?_
  refine lv_ri (y := (nI (tN xq))) (tN_eq hI9.1) ?_
  refine lv_iload_n hx hb dX3_comes_21 rfl (lv_at hl 2 rfl) ?_
  refine lv_ri (y := (nI (tN xi))) (tN_eq hI9.2) ?_
  have hPc := hP.pick (ws' := []) [] rfl
  have hDc := hD.sub (ws' := []) [] (by decide) rfl
  refine kcI (wr := [(aO, o3 aLy aLi aDa aKs (nI lst)), (aLi, o1 aLy aC aG aU aR aN aW (cO o) (nI tk) em lo lk de), (aLy, o0 (nI n) aK aX aY aF aS aL), (aK, ia E nI 16 kd), (aC, ja E 256 co)]) (w1 := fun _ : Unit => []) (w2 := fun _ => [(aO, o3 aLy aLi aDa aKs (nI lst)), (aLi, o1 aLy aC aG aU aR aN aW (cO o) (nI tk) em lo lk de), (aLy, o0 (nI n) aK aX aY aF aS aL), (aK, ia E nI 16 kd), (aC, ja E 256 co)]) (va_runS (As := [.int (nI (tN xq)), .int (nI (tN xi))]) (rest := [.ref aC]) ⟨hx, hb, hml, hown, hts⟩ (c_portOf l E H.size (tN xq) (tN xi) ) (va_cwS 2 hts gX3_comes_X3_portOf rfl rfl rfl (by decide +kernel) ⟨Nat.le_of_ble_eq_true rfl, Nat.le_of_ble_eq_true rfl⟩) (preS C0 hPc hDc hS) rfl rfl hl.1 rfl (lv_room (Nat.le_of_ble_eq_true rfl)) dX3_comes_22 ⟨Nat.le_refl _, Nat.le_refl _⟩) C0 hP hD hS [] [0, 1, 2, 3, 4] [0, 1, 2, 3, 4] rfl rfl (by decide) (by decide) (fun _ => rfl) (by decide) (fun r_9 _u H locs hw hP hD hS => ?_)
  have hP : va_P E.1 vwCl [(aO, o3 aLy aLi aDa aKs (nI lst)), (aLi, o1 aLy aC aG aU aR aN aW (cO o) (nI tk) em lo lk de), (aLy, o0 (nI n) aK aX aY aF aS aL), (aK, ia E nI 16 kd), (aC, ja E 256 co)] H := hP
  have hD : va_D A [(aO, o3 aLy aLi aDa aKs (nI lst)), (aLi, o1 aLy aC aG aU aR aN aW (cO o) (nI tk) em lo lk de), (aLy, o0 (nI n) aK aX aY aF aS aL), (aK, ia E nI 16 kd), (aC, ja E 256 co)] := hD
  have hw : r_9 = nI ((tN xq) * 2 + (tN xi)) := hw
  subst hw
  refine lv_bipush (v := nI 8) hx hb dX3_comes_25 (by decide) ?_
  refine lv_imul hx hb dX3_comes_27 ?_
  refine lv_ri (y := (nI (((tN xq) * 2 + (tN xi)) * 8))) (pk_mul ((tN xq) * 2 + (tN xi)) 8) ?_
  refine lv_iload_n hx hb dX3_comes_28 rfl (lv_at hl 3 rfl) ?_
  refine lv_ri (y := (nI (tN xc))) (tN_eq hC9) ?_
  refine lv_iadd hx hb dX3_comes_29 ?_
  refine lv_ri (y := (nI ((((tN xq) * 2 + (tN xi)) * 8) + (tN xc)))) (nI_add (((tN xq) * 2 + (tN xi)) * 8) (tN xc)) ?_
  refine k_lald (e := ((((tN xq) * 2 + (tN xi)) * 8) + (tN xc))) (n := 256) hx hb C0 hP 4 rfl (by omega) (by omega) dX3_comes_30 ?_
  have q_1 : (co ((((tN xq) * 2 + (tN xi)) * 8) + (tN xc))) = (co ((tN xq * 2 + tN xi) * 8 + tN xc)) := rfl
  exact exL hx hb hr hlocks hAe hS () q_1 hP hD dX3_comes_31

set_option maxHeartbeats 4000000 in
set_option maxRecDepth 100000 in
theorem x_comes (l : Launch) (E : EnvT) (sz : Nat) (xq xi xc : Int32) (aO aDa aKs lst : Nat) (aLy aK aX aY aF aS aL n : Nat) (aLi aC aG aU aR aN aW o tk : Nat) (em lo lk de : Int64) (kd : Nat → Nat) (co : Nat → Int64) (h : ¬ (comC n kd xq xi xc = 0)) (hn : n ≤ 16) (hk : ∀ j, j < n → kd j ≤ 5) (hst : l.stackTraces = false) : MX l yX3_comes wsX3_comes ({ frames := 8, cells := 1, slots := 6, locals := 125 }) E sz [.ref aO, .int xq, .int xi, .int xc] [(aO, o3 aLy aLi aDa aKs (nI lst)), (aLi, o1 aLy aC aG aU aR aN aW (cO o) (nI tk) em lo lk de), (aLy, o0 (nI n) aK aX aY aF aS aL), (aK, ia E nI 16 kd), (aC, ja E 256 co)] (xM xI xA xA (comC n kd xq xi xc)) := by
  refine enX (cc := cX3_comes) (maxL := 4) (ret := (some .long)) (by decide +kernel) rfl (Nat.le_of_ble_eq_true rfl) ?_
  intro p e s m below meth c A ls hx hb hr hml hts hown hlocks hAe C0 hP hD hS hl
  have hown : s.vm.findClass RX3 = some m.cls := hown
  have hl : lv_has ls 4 [(0, .ref aO), (1, .int xq), (2, .int xi), (3, .int xc)] := hl
  obtain ⟨H, hHe⟩ : ∃ z, z = s.heap := ⟨_, rfl⟩
  obtain ⟨locs, hLe⟩ : ∃ z : List Loc, z = [] := ⟨_, rfl⟩
  have hP : va_P E.1 vwCl [(aO, o3 aLy aLi aDa aKs (nI lst)), (aLi, o1 aLy aC aG aU aR aN aW (cO o) (nI tk) em lo lk de), (aLy, o0 (nI n) aK aX aY aF aS aL), (aK, ia E nI 16 kd), (aC, ja E 256 co)] H := by rw [hHe]; exact hP
  have hD : va_D A [(aO, o3 aLy aLi aDa aKs (nI lst)), (aLi, o1 aLy aC aG aU aR aN aW (cO o) (nI tk) em lo lk de), (aLy, o0 (nI n) aK aX aY aF aS aL), (aK, ia E nI 16 kd), (aC, ja E 256 co)] := hD
  have hS : va_S A s.heap H locs := by rw [hHe, hLe]; exact hS
  suffices hgo : W p l e _ s m _ below meth c H locs 0 0 _ (F0 m 0 ls []) by rw [hHe, hLe] at hgo; exact hgo
  clear hHe hLe
  refine lv_aload_n hx hb dX3_comes_0 rfl (lv_at hl 0 rfl) ?_
  refine lv_iload_n hx hb dX3_comes_1 rfl (lv_at hl 1 rfl) ?_
  refine lv_iload_n hx hb dX3_comes_2 rfl (lv_at hl 2 rfl) ?_
  by_cases hI9 : (nI 0 ≤ xq ∧ xq ≤ cL n) ∧ (nI 0 ≤ xi ∧ xi ≤ cL (stV 0 (kd (tN xq))))
  · skip
    have htq := cL_le (by omega) hI9.1
    have hkq := stV0_le (hk _ htq)
    have hti := cL_le (by omega) hI9.2
    have hPc := hP.pick (ws' := [(aO, o3 aLy aLi aDa aKs (nI lst)), (aLy, o0 (nI n) aK aX aY aF aS aL), (aK, ia E nI 16 kd)]) [0, 2, 3] rfl
    have hDc := hD.sub (ws' := [(aO, o3 aLy aLi aDa aKs (nI lst)), (aLy, o0 (nI n) aK aX aY aF aS aL), (aK, ia E nI 16 kd)]) [0, 2, 3] (by decide) rfl
    refine kcV (wr := [(aLi, o1 aLy aC aG aU aR aN aW (cO o) (nI tk) em lo lk de), (aC, ja E 256 co)]) (w1 := fun _ : Unit => [(aO, o3 aLy aLi aDa aKs (nI lst)), (aLy, o0 (nI n) aK aX aY aF aS aL), (aK, ia E nI 16 kd)]) (w2 := fun _ => [(aO, o3 aLy aLi aDa aKs (nI lst)), (aLi, o1 aLy aC aG aU aR aN aW (cO o) (nI tk) em lo lk de), (aLy, o0 (nI n) aK aX aY aF aS aL), (aK, ia E nI 16 kd), (aC, ja E 256 co)]) (va_runV (As := [.int xq, .int xi]) (rest := []) ⟨hx, hb, hml, hown, hts⟩ (c_needInput l E H.size xq xi aO aLi aDa aKs lst aLy aK aX aY aF aS aL n kd hI9 (hn) (hk)) (cwV 2 hts gX3_comes_X3_needInput rfl rfl rfl (by decide +kernel) ⟨Nat.le_of_ble_eq_true rfl, Nat.le_of_ble_eq_true rfl⟩) (preV C0 hPc hDc hS 0 rfl rfl) rfl rfl hl.1 rfl (lv_room (Nat.le_of_ble_eq_true rfl)) dX3_comes_3 ⟨Nat.le_of_ble_eq_true rfl, Nat.le_of_ble_eq_true rfl⟩) C0 hP hD hS [0, 2, 3] [1, 4] [2, 0, 3, 4, 1] rfl rfl (by decide) (by decide) (fun _ => rfl) (by decide) (fun _u H locs _hw hP hD hS => ?_)
    have hP : va_P E.1 vwCl [(aO, o3 aLy aLi aDa aKs (nI lst)), (aLi, o1 aLy aC aG aU aR aN aW (cO o) (nI tk) em lo lk de), (aLy, o0 (nI n) aK aX aY aF aS aL), (aK, ia E nI 16 kd), (aC, ja E 256 co)] H := hP
    have hD : va_D A [(aO, o3 aLy aLi aDa aKs (nI lst)), (aLi, o1 aLy aC aG aU aR aN aW (cO o) (nI tk) em lo lk de), (aLy, o0 (nI n) aK aX aY aF aS aL), (aK, ia E nI 16 kd), (aC, ja E 256 co)] := hD
    refine lv_iload_n hx hb dX3_comes_6 rfl (lv_at hl 3 rfl) ?_
    refine lv_iconst (v := nI 0) hx hb dX3_comes_7 (by decide) ?_
    refine lv_bipush (v := nI 7) hx hb dX3_comes_8 (by decide) ?_
    by_cases hC9 : (nI 0) ≤ xc ∧ xc ≤ (nI 7)
    · skip
      exact absurd (show comC n kd xq xi xc = 0 from (if_pos hI9).trans (if_pos hC9)) h
    · skip
      have hPc := hP.pick (ws' := []) [] rfl
      have hDc := hD.sub (ws' := []) [] (by decide) rfl
      exact kcX (wr := [(aO, o3 aLy aLi aDa aKs (nI lst)), (aLi, o1 aLy aC aG aU aR aN aW (cO o) (nI tk) em lo lk de), (aLy, o0 (nI n) aK aX aY aF aS aL), (aK, ia E nI 16 kd), (aC, ja E 256 co)]) ((congrArg (xM xI xA xA) (show comC n kd xq xi xc = 2 from (if_pos hI9).trans (if_neg hC9))).trans rfl) (vx_runS (As := [.int xc, .int (nI 0), .int (nI 7)]) (rest := []) ⟨hx, hb, hml, hown, hts⟩ (x_needRange l E H.size xc (nI 0) (nI 7) hC9 hst) (va_cwS 3 hts gX3_comes_X3_needRange rfl rfl rfl (by decide +kernel) ⟨Nat.le_of_ble_eq_true rfl, Nat.le_of_ble_eq_true rfl⟩) (preS C0 hPc hDc hS) rfl rfl hl.1 rfl (lv_room (Nat.le_of_ble_eq_true rfl)) dX3_comes_10 ⟨Nat.le_of_ble_eq_true rfl, Nat.le_of_ble_eq_true rfl⟩) hr hlocks hAe C0 hP hD hS [] [0, 1, 2, 3, 4] [0, 1, 2, 3, 4] rfl rfl (by decide) (by decide) rfl (by decide)
  · skip
    have hPc := hP.pick (ws' := [(aO, o3 aLy aLi aDa aKs (nI lst)), (aLy, o0 (nI n) aK aX aY aF aS aL), (aK, ia E nI 16 kd)]) [0, 2, 3] rfl
    have hDc := hD.sub (ws' := [(aO, o3 aLy aLi aDa aKs (nI lst)), (aLy, o0 (nI n) aK aX aY aF aS aL), (aK, ia E nI 16 kd)]) [0, 2, 3] (by decide) rfl
    exact kcX (wr := [(aLi, o1 aLy aC aG aU aR aN aW (cO o) (nI tk) em lo lk de), (aC, ja E 256 co)]) ((congrArg (xM xI xA xA) (show comC n kd xq xi xc = 1 from if_neg hI9)).trans rfl) (vx_runV (As := [.int xq, .int xi]) (rest := []) ⟨hx, hb, hml, hown, hts⟩ (x_needInput l E H.size xq xi aO aLi aDa aKs lst aLy aK aX aY aF aS aL n kd hI9 (hn) (hk) hst) (cwV 2 hts gX3_comes_X3_needInput rfl rfl rfl (by decide +kernel) ⟨Nat.le_of_ble_eq_true rfl, Nat.le_of_ble_eq_true rfl⟩) (preV C0 hPc hDc hS 0 rfl rfl) rfl rfl hl.1 rfl (lv_room (Nat.le_of_ble_eq_true rfl)) dX3_comes_3 ⟨Nat.le_of_ble_eq_true rfl, Nat.le_of_ble_eq_true rfl⟩) hr hlocks hAe C0 hP hD hS [0, 2, 3] [1, 4] [2, 0, 3, 4, 1] rfl rfl (by decide) (by decide) rfl (by decide)

set_option maxHeartbeats 4000000 in
set_option maxRecDepth 100000 in
theorem c_seen (l : Launch) (E : EnvT) (sz : Nat) (xp xc : Int32) (aO aDa aKs lst : Nat) (aLy aK aX aY aF aS aL n : Nat) (aLi aC aG aU aR aN aW o tk : Nat) (em lo lk de : Int64) (kd : Nat → Nat) (sn : Nat → Int64) (h : seeC n kd xp xc = 0) (hn : n ≤ 16) (hk : ∀ j, j < n → kd j ≤ 5) : ML l yX3_seen wsX3_seen ({ frames := 1, cells := 0, slots := 0, locals := 24 }) E sz [.ref aO, .int xp, .int xc] [(aO, o3 aLy aLi aDa aKs (nI lst)), (aLi, o1 aLy aC aG aU aR aN aW (cO o) (nI tk) em lo lk de), (aLy, o0 (nI n) aK aX aY aF aS aL), (aK, ia E nI 16 kd), (aN, ja E 128 sn)] (fun (r : Int64) (_ : Unit) => r = if tC xc = 0 then sAll sn (tN xp) 8 else sn (tN xp * 8 + (tC xc - 1))) (fun _ => [(aO, o3 aLy aLi aDa aKs (nI lst)), (aLi, o1 aLy aC aG aU aR aN aW (cO o) (nI tk) em lo lk de), (aLy, o0 (nI n) aK aX aY aF aS aL), (aK, ia E nI 16 kd), (aN, ja E 128 sn)]) := by
  refine enL (cc := cX3_seen) (maxL := 3) (by decide +kernel) rfl (Nat.le_of_ble_eq_true rfl) ?_
  intro p e s m below meth c A ls hx hb hr hml hts hown hlocks hAe C0 hP hD hS hl
  have hown : s.vm.findClass RX3 = some m.cls := hown
  have hl : lv_has ls 3 [(0, .ref aO), (1, .int xp), (2, .int xc)] := hl
  have iX1 : ∀ w ∈ u_ws RX1 TX1 13, w ∈ wsX3_seen := by decide +kernel
  have iX3 : ∀ w ∈ u_ws RX3 TX3 5, w ∈ wsX3_seen := by decide +kernel
  obtain ⟨H, hHe⟩ : ∃ z, z = s.heap := ⟨_, rfl⟩
  obtain ⟨locs, hLe⟩ : ∃ z : List Loc, z = [] := ⟨_, rfl⟩
  have hP : va_P E.1 vwCl [(aO, o3 aLy aLi aDa aKs (nI lst)), (aLi, o1 aLy aC aG aU aR aN aW (cO o) (nI tk) em lo lk de), (aLy, o0 (nI n) aK aX aY aF aS aL), (aK, ia E nI 16 kd), (aN, ja E 128 sn)] H := by rw [hHe]; exact hP
  have hD : va_D A [(aO, o3 aLy aLi aDa aKs (nI lst)), (aLi, o1 aLy aC aG aU aR aN aW (cO o) (nI tk) em lo lk de), (aLy, o0 (nI n) aK aX aY aF aS aL), (aK, ia E nI 16 kd), (aN, ja E 128 sn)] := hD
  have hS : va_S A s.heap H locs := by rw [hHe, hLe]; exact hS
  suffices hgo : W p l e _ s m _ below meth c H locs 0 0 _ (F0 m 0 ls []) by rw [hHe, hLe] at hgo; exact hgo
  clear hHe hLe
  obtain ⟨hP9, hC9, hk5⟩ := seeC_0 h
  have htn := cL_le (by omega) hP9
  have hkk := hk _ htn
  have htc := tC_le (by omega) hC9.2
  refine lv_aload_n hx hb dX3_seen_0 rfl (lv_at hl 0 rfl) ?_
  refine lv_iload_n hx hb dX3_seen_1 rfl (lv_at hl 1 rfl) ?_
  have hPc := hP.pick (ws' := [(aO, o3 aLy aLi aDa aKs (nI lst)), (aLy, o0 (nI n) aK aX aY aF aS aL)]) [0, 2] rfl
  have hDc := hD.sub (ws' := [(aO, o3 aLy aLi aDa aKs (nI lst)), (aLy, o0 (nI n) aK aX aY aF aS aL)]) [0, 2] (by decide) rfl
  refine kcV (wr := [(aLi, o1 aLy aC aG aU aR aN aW (cO o) (nI tk) em lo lk de), (aK, ia E nI 16 kd), (aN, ja E 128 sn)]) (w1 := fun _ : Unit => [(aO, o3 aLy aLi aDa aKs (nI lst)), (aLy, o0 (nI n) aK aX aY aF aS aL)]) (w2 := fun _ => [(aO, o3 aLy aLi aDa aKs (nI lst)), (aLi, o1 aLy aC aG aU aR aN aW (cO o) (nI tk) em lo lk de), (aLy, o0 (nI n) aK aX aY aF aS aL), (aK, ia E nI 16 kd), (aN, ja E 128 sn)]) (va_runV (As := [.int xp]) (rest := []) ⟨hx, hb, hml, hown, hts⟩ (c_needPart l E H.size xp aO aLi aDa aKs lst aLy aK aX aY aF aS aL n hP9 (hn)) (cwV 1 hts gX3_seen_X3_needPart rfl rfl rfl (by decide +kernel) ⟨Nat.le_of_ble_eq_true rfl, Nat.le_of_ble_eq_true rfl⟩) (preV C0 hPc hDc hS 0 rfl rfl) rfl rfl hl.1 rfl (lv_room (Nat.le_of_ble_eq_true rfl)) dX3_seen_2 ⟨Nat.le_refl _, Nat.le_refl _⟩) C0 hP hD hS [0, 2] [1, 3, 4] [3, 0, 4, 1, 2] rfl rfl (by decide) (by decide) (fun _ => rfl) (by decide) (fun _u H locs _hw hP hD hS => ?_)
  have hP : va_P E.1 vwCl [(aO, o3 aLy aLi aDa aKs (nI lst)), (aLi, o1 aLy aC aG aU aR aN aW (cO o) (nI tk) em lo lk de), (aLy, o0 (nI n) aK aX aY aF aS aL), (aK, ia E nI 16 kd), (aN, ja E 128 sn)] H := hP
  have hD : va_D A [(aO, o3 aLy aLi aDa aKs (nI lst)), (aLi, o1 aLy aC aG aU aR aN aW (cO o) (nI tk) em lo lk de), (aLy, o0 (nI n) aK aX aY aF aS aL), (aK, ia E nI 16 kd), (aN, ja E 128 sn)] := hD
  refine lv_iload_n hx hb dX3_seen_5 rfl (lv_at hl 2 rfl) ?_
  refine lv_iconst (v := -1) hx hb dX3_seen_6 (by decide) ?_
  refine lv_bipush (v := nI 7) hx hb dX3_seen_7 (by decide) ?_
  have hPc := hP.pick (ws' := []) [] rfl
  have hDc := hD.sub (ws' := []) [] (by decide) rfl
  refine kcV (wr := [(aO, o3 aLy aLi aDa aKs (nI lst)), (aLi, o1 aLy aC aG aU aR aN aW (cO o) (nI tk) em lo lk de), (aLy, o0 (nI n) aK aX aY aF aS aL), (aK, ia E nI 16 kd), (aN, ja E 128 sn)]) (w1 := fun _ : Unit => []) (w2 := fun _ => [(aO, o3 aLy aLi aDa aKs (nI lst)), (aLi, o1 aLy aC aG aU aR aN aW (cO o) (nI tk) em lo lk de), (aLy, o0 (nI n) aK aX aY aF aS aL), (aK, ia E nI 16 kd), (aN, ja E 128 sn)]) (va_runS (As := [.int xc, .int (-1), .int (nI 7)]) (rest := []) ⟨hx, hb, hml, hown, hts⟩ (c_needRange l E H.size xc (-1) (nI 7) hC9) (va_cwS 3 hts gX3_seen_X3_needRange rfl rfl rfl (by decide +kernel) ⟨Nat.le_of_ble_eq_true rfl, Nat.le_of_ble_eq_true rfl⟩) (preS C0 hPc hDc hS) rfl rfl hl.1 rfl (lv_room (Nat.le_of_ble_eq_true rfl)) dX3_seen_9 ⟨Nat.le_refl _, Nat.le_refl _⟩) C0 hP hD hS [] [0, 1, 2, 3, 4] [0, 1, 2, 3, 4] rfl rfl (by decide) (by decide) (fun _ => rfl) (by decide) (fun _u H locs _hw hP hD hS => ?_)
  have hP : va_P E.1 vwCl [(aO, o3 aLy aLi aDa aKs (nI lst)), (aLi, o1 aLy aC aG aU aR aN aW (cO o) (nI tk) em lo lk de), (aLy, o0 (nI n) aK aX aY aF aS aL), (aK, ia E nI 16 kd), (aN, ja E 128 sn)] H := hP
  have hD : va_D A [(aO, o3 aLy aLi aDa aKs (nI lst)), (aLi, o1 aLy aC aG aU aR aN aW (cO o) (nI tk) em lo lk de), (aLy, o0 (nI n) aK aX aY aF aS aL), (aK, ia E nI 16 kd), (aN, ja E 128 sn)] := hD
  refine lv_aload_n hx hb dX3_seen_12 rfl (lv_at hl 0 rfl) ?_
  refine lv_iload_n hx hb dX3_seen_13 rfl (lv_at hl 1 rfl) ?_
  refine lv_ri (y := (nI (tN xp))) (tN_eq hP9) ?_
  refine lv_iconst (v := nI 5) hx hb dX3_seen_14 (by decide) ?_
  have hPc := hP.pick (ws' := [(aO, o3 aLy aLi aDa aKs (nI lst)), (aLy, o0 (nI n) aK aX aY aF aS aL), (aK, ia E nI 16 kd)]) [0, 2, 3] rfl
  have hDc := hD.sub (ws' := [(aO, o3 aLy aLi aDa aKs (nI lst)), (aLy, o0 (nI n) aK aX aY aF aS aL), (aK, ia E nI 16 kd)]) [0, 2, 3] (by decide) rfl
  refine kcV (wr := [(aLi, o1 aLy aC aG aU aR aN aW (cO o) (nI tk) em lo lk de), (aN, ja E 128 sn)]) (w1 := fun _ : Unit => [(aO, o3 aLy aLi aDa aKs (nI lst)), (aLy, o0 (nI n) aK aX aY aF aS aL), (aK, ia E nI 16 kd)]) (w2 := fun _ => [(aO, o3 aLy aLi aDa aKs (nI lst)), (aLi, o1 aLy aC aG aU aR aN aW (cO o) (nI tk) em lo lk de), (aLy, o0 (nI n) aK aX aY aF aS aL), (aK, ia E nI 16 kd), (aN, ja E 128 sn)]) (va_runV (As := [.int (nI (tN xp)), .int (nI 5)]) (rest := []) ⟨hx, hb, hml, hown, hts⟩ (c_needKind l E H.size (tN xp) 5 aO aLi aDa aKs lst aLy aK aX aY aF aS aL n kd hk5 (by omega) (by first | exact hkk | exact hk) (by omega)) (cwV 2 hts gX3_seen_X3_needKind rfl rfl rfl (by decide +kernel) ⟨Nat.le_of_ble_eq_true rfl, Nat.le_of_ble_eq_true rfl⟩) (preV C0 hPc hDc hS 0 rfl rfl) rfl rfl hl.1 rfl (lv_room (Nat.le_of_ble_eq_true rfl)) dX3_seen_15 ⟨Nat.le_refl _, Nat.le_refl _⟩) C0 hP hD hS [0, 2, 3] [1, 4] [2, 0, 3, 4, 1] rfl rfl (by decide) (by decide) (fun _ => rfl) (by decide) (fun _u H locs _hw hP hD hS => ?_)
  have hP : va_P E.1 vwCl [(aO, o3 aLy aLi aDa aKs (nI lst)), (aLi, o1 aLy aC aG aU aR aN aW (cO o) (nI tk) em lo lk de), (aLy, o0 (nI n) aK aX aY aF aS aL), (aK, ia E nI 16 kd), (aN, ja E 128 sn)] H := hP
  have hD : va_D A [(aO, o3 aLy aLi aDa aKs (nI lst)), (aLi, o1 aLy aC aG aU aR aN aW (cO o) (nI tk) em lo lk de), (aLy, o0 (nI n) aK aX aY aF aS aL), (aK, ia E nI 16 kd), (aN, ja E 128 sn)] := hD
  rw [show xc = cL (tC xc) from tC_eq hC9] at hl
  refine lv_iload_n hx hb dX3_seen_18 rfl (lv_at hl 2 rfl) ?_
  refine lv_iconst (v := -1) hx hb dX3_seen_19 (by decide) ?_
  refine lv_icmp_ne (tgt := 34) hx hb dX3_seen_20 (by decide) (fun c_1 => ?_) (fun c_1 => ?_)
  · skip
    have c_1 : ¬ (tC xc = 0) := fun h => c_1 ((cL_m1 (by omega)).mpr h)
    rw [show cL (tC xc) = nI (tC xc - 1) from cL_pos c_1] at hl
    refine lv_aload_n hx hb dX3_seen_34 rfl (lv_at hl 0 rfl) ?_
    refine va_get (D := E.1) (ci := 3) (v := .ref aLi) (C := RX3) (T := TX3) (N := 5) hx hb hts iX3 hown C0.1 hP 0 rfl rfl 1 (by decide) (hts (.fieldLink RX3 21 "Ringresonance" "light" "LRingresonance$Light;") (by decide +kernel)) (fun _ h9 => h9) rfl dX3_seen_35 ?_
    refine va_get (D := E.1) (ci := 1) (v := .ref aN) (C := RX1) (T := TX1) (N := 13) hx hb hts iX1 hown C0.1 hP 1 rfl rfl 5 (by decide) (hts (.fieldLink RX3 156 "Ringresonance$Light" "seenOf" "[J") (by decide +kernel)) (fun _ h9 => h9) rfl dX3_seen_38 ?_
    refine lv_iload_n hx hb dX3_seen_41 rfl (lv_at hl 1 rfl) ?_
    refine lv_ri (y := (nI (tN xp))) (tN_eq hP9) ?_
    refine lv_bipush (v := nI 8) hx hb dX3_seen_42 (by decide) ?_
    refine lv_imul hx hb dX3_seen_44 ?_
    refine lv_ri (y := (nI ((tN xp) * 8))) (pk_mul (tN xp) 8) ?_
    refine lv_iload_n hx hb dX3_seen_45 rfl (lv_at hl 2 rfl) ?_
    refine lv_iadd hx hb dX3_seen_46 ?_
    refine lv_ri (y := (nI (((tN xp) * 8) + (tC xc - 1)))) (nI_add ((tN xp) * 8) (tC xc - 1)) ?_
    refine k_lald (e := (((tN xp) * 8) + (tC xc - 1))) (n := 128) hx hb C0 hP 4 rfl (by omega) (by omega) dX3_seen_47 ?_
    have q_2 : (sn (((tN xp) * 8) + (tC xc - 1))) = (if tC xc = 0 then sAll sn (tN xp) 8 else sn (tN xp * 8 + (tC xc - 1))) := by symm; first | (rw [if_pos c_1]; done) | (rw [if_neg c_1]; done)
    exact exL hx hb hr hlocks hAe hS () q_2 hP hD dX3_seen_48
  · skip
    have c_1 : tC xc = 0 := (cL_m1 (by omega)).mp c_1
    refine lv_aload_n hx hb dX3_seen_23 rfl (lv_at hl 0 rfl) ?_
    refine va_get (D := E.1) (ci := 3) (v := .ref aLi) (C := RX3) (T := TX3) (N := 5) hx hb hts iX3 hown C0.1 hP 0 rfl rfl 1 (by decide) (hts (.fieldLink RX3 21 "Ringresonance" "light" "LRingresonance$Light;") (by decide +kernel)) (fun _ h9 => h9) rfl dX3_seen_24 ?_
    refine lv_iload_n hx hb dX3_seen_27 rfl (lv_at hl 1 rfl) ?_
    refine lv_ri (y := (nI (tN xp))) (tN_eq hP9) ?_
    have hPc := hP.pick (ws' := [(aLi, o1 aLy aC aG aU aR aN aW (cO o) (nI tk) em lo lk de), (aN, ja E 128 sn)]) [1, 4] rfl
    have hDc := hD.sub (ws' := [(aLi, o1 aLy aC aG aU aR aN aW (cO o) (nI tk) em lo lk de), (aN, ja E 128 sn)]) [1, 4] (by decide) rfl
    refine kcL (wr := [(aO, o3 aLy aLi aDa aKs (nI lst)), (aLy, o0 (nI n) aK aX aY aF aS aL), (aK, ia E nI 16 kd)]) (w1 := fun _ : Unit => [(aLi, o1 aLy aC aG aU aR aN aW (cO o) (nI tk) em lo lk de), (aN, ja E 128 sn)]) (w2 := fun _ => [(aO, o3 aLy aLi aDa aKs (nI lst)), (aLi, o1 aLy aC aG aU aR aN aW (cO o) (nI tk) em lo lk de), (aLy, o0 (nI n) aK aX aY aF aS aL), (aK, ia E nI 16 kd), (aN, ja E 128 sn)]) (va_runV (As := [.int (nI (tN xp))]) (rest := []) ⟨hx, hb, hml, hown, hts⟩ (c_seenInAll l E H.size (tN xp) aLy aLi aC aG aU aR aN aW o tk em lo lk de sn (by omega)) (cwV 1 hts gX3_seen_X1_seenInAll rfl rfl rfl (by decide +kernel) ⟨Nat.le_of_ble_eq_true rfl, Nat.le_of_ble_eq_true rfl⟩) (preV C0 hPc hDc hS 0 rfl rfl) rfl rfl hl.1 rfl (lv_room (Nat.le_of_ble_eq_true rfl)) dX3_seen_28 ⟨Nat.le_refl _, Nat.le_refl _⟩) C0 hP hD hS [1, 4] [0, 2, 3] [0, 3, 1, 2, 4] rfl rfl (by decide) (by decide) (fun _ => rfl) (by decide) (fun r_9 _u H locs hw hP hD hS => ?_)
    have hP : va_P E.1 vwCl [(aO, o3 aLy aLi aDa aKs (nI lst)), (aLi, o1 aLy aC aG aU aR aN aW (cO o) (nI tk) em lo lk de), (aLy, o0 (nI n) aK aX aY aF aS aL), (aK, ia E nI 16 kd), (aN, ja E 128 sn)] H := hP
    have hD : va_D A [(aO, o3 aLy aLi aDa aKs (nI lst)), (aLi, o1 aLy aC aG aU aR aN aW (cO o) (nI tk) em lo lk de), (aLy, o0 (nI n) aK aX aY aF aS aL), (aK, ia E nI 16 kd), (aN, ja E 128 sn)] := hD
    have hw : r_9 = sAll sn (tN xp) 8 := hw
    subst hw
    refine lv_goto (tgt := 48) hx hb dX3_seen_31 (by decide) ?_
    have q_3 : (sAll sn (tN xp) 8) = (if tC xc = 0 then sAll sn (tN xp) 8 else sn (tN xp * 8 + (tC xc - 1))) := by symm; first | (rw [if_pos c_1]; done) | (rw [if_neg c_1]; done)
    exact exL hx hb hr hlocks hAe hS () q_3 hP hD dX3_seen_48

set_option maxHeartbeats 4000000 in
set_option maxRecDepth 100000 in
theorem x_seen (l : Launch) (E : EnvT) (sz : Nat) (xp xc : Int32) (aO aDa aKs lst : Nat) (aLy aK aX aY aF aS aL n : Nat) (aLi aC aG aU aR aN aW o tk : Nat) (em lo lk de : Int64) (kd : Nat → Nat) (sn : Nat → Int64) (h : ¬ (seeC n kd xp xc = 0)) (hn : n ≤ 16) (hk : ∀ j, j < n → kd j ≤ 5) (hst : l.stackTraces = false) : MX l yX3_seen wsX3_seen ({ frames := 7, cells := 1, slots := 6, locals := 104 }) E sz [.ref aO, .int xp, .int xc] [(aO, o3 aLy aLi aDa aKs (nI lst)), (aLi, o1 aLy aC aG aU aR aN aW (cO o) (nI tk) em lo lk de), (aLy, o0 (nI n) aK aX aY aF aS aL), (aK, ia E nI 16 kd), (aN, ja E 128 sn)] (xM xI xA xS (seeC n kd xp xc)) := by
  refine enX (cc := cX3_seen) (maxL := 3) (ret := (some .long)) (by decide +kernel) rfl (Nat.le_of_ble_eq_true rfl) ?_
  intro p e s m below meth c A ls hx hb hr hml hts hown hlocks hAe C0 hP hD hS hl
  have hown : s.vm.findClass RX3 = some m.cls := hown
  have hl : lv_has ls 3 [(0, .ref aO), (1, .int xp), (2, .int xc)] := hl
  obtain ⟨H, hHe⟩ : ∃ z, z = s.heap := ⟨_, rfl⟩
  obtain ⟨locs, hLe⟩ : ∃ z : List Loc, z = [] := ⟨_, rfl⟩
  have hP : va_P E.1 vwCl [(aO, o3 aLy aLi aDa aKs (nI lst)), (aLi, o1 aLy aC aG aU aR aN aW (cO o) (nI tk) em lo lk de), (aLy, o0 (nI n) aK aX aY aF aS aL), (aK, ia E nI 16 kd), (aN, ja E 128 sn)] H := by rw [hHe]; exact hP
  have hD : va_D A [(aO, o3 aLy aLi aDa aKs (nI lst)), (aLi, o1 aLy aC aG aU aR aN aW (cO o) (nI tk) em lo lk de), (aLy, o0 (nI n) aK aX aY aF aS aL), (aK, ia E nI 16 kd), (aN, ja E 128 sn)] := hD
  have hS : va_S A s.heap H locs := by rw [hHe, hLe]; exact hS
  suffices hgo : W p l e _ s m _ below meth c H locs 0 0 _ (F0 m 0 ls []) by rw [hHe, hLe] at hgo; exact hgo
  clear hHe hLe
  refine lv_aload_n hx hb dX3_seen_0 rfl (lv_at hl 0 rfl) ?_
  refine lv_iload_n hx hb dX3_seen_1 rfl (lv_at hl 1 rfl) ?_
  by_cases hP9 : nI 0 ≤ xp ∧ xp ≤ cL n
  · skip
    have htn := cL_le (by omega) hP9
    have hkk := hk _ htn
    have hPc := hP.pick (ws' := [(aO, o3 aLy aLi aDa aKs (nI lst)), (aLy, o0 (nI n) aK aX aY aF aS aL)]) [0, 2] rfl
    have hDc := hD.sub (ws' := [(aO, o3 aLy aLi aDa aKs (nI lst)), (aLy, o0 (nI n) aK aX aY aF aS aL)]) [0, 2] (by decide) rfl
    refine kcV (wr := [(aLi, o1 aLy aC aG aU aR aN aW (cO o) (nI tk) em lo lk de), (aK, ia E nI 16 kd), (aN, ja E 128 sn)]) (w1 := fun _ : Unit => [(aO, o3 aLy aLi aDa aKs (nI lst)), (aLy, o0 (nI n) aK aX aY aF aS aL)]) (w2 := fun _ => [(aO, o3 aLy aLi aDa aKs (nI lst)), (aLi, o1 aLy aC aG aU aR aN aW (cO o) (nI tk) em lo lk de), (aLy, o0 (nI n) aK aX aY aF aS aL), (aK, ia E nI 16 kd), (aN, ja E 128 sn)]) (va_runV (As := [.int xp]) (rest := []) ⟨hx, hb, hml, hown, hts⟩ (c_needPart l E H.size xp aO aLi aDa aKs lst aLy aK aX aY aF aS aL n hP9 (hn)) (cwV 1 hts gX3_seen_X3_needPart rfl rfl rfl (by decide +kernel) ⟨Nat.le_of_ble_eq_true rfl, Nat.le_of_ble_eq_true rfl⟩) (preV C0 hPc hDc hS 0 rfl rfl) rfl rfl hl.1 rfl (lv_room (Nat.le_of_ble_eq_true rfl)) dX3_seen_2 ⟨Nat.le_of_ble_eq_true rfl, Nat.le_of_ble_eq_true rfl⟩) C0 hP hD hS [0, 2] [1, 3, 4] [3, 0, 4, 1, 2] rfl rfl (by decide) (by decide) (fun _ => rfl) (by decide) (fun _u H locs _hw hP hD hS => ?_)
    have hP : va_P E.1 vwCl [(aO, o3 aLy aLi aDa aKs (nI lst)), (aLi, o1 aLy aC aG aU aR aN aW (cO o) (nI tk) em lo lk de), (aLy, o0 (nI n) aK aX aY aF aS aL), (aK, ia E nI 16 kd), (aN, ja E 128 sn)] H := hP
    have hD : va_D A [(aO, o3 aLy aLi aDa aKs (nI lst)), (aLi, o1 aLy aC aG aU aR aN aW (cO o) (nI tk) em lo lk de), (aLy, o0 (nI n) aK aX aY aF aS aL), (aK, ia E nI 16 kd), (aN, ja E 128 sn)] := hD
    refine lv_iload_n hx hb dX3_seen_5 rfl (lv_at hl 2 rfl) ?_
    refine lv_iconst (v := -1) hx hb dX3_seen_6 (by decide) ?_
    refine lv_bipush (v := nI 7) hx hb dX3_seen_7 (by decide) ?_
    by_cases hC9 : (-1) ≤ xc ∧ xc ≤ (nI 7)
    · skip
      have hPc := hP.pick (ws' := []) [] rfl
      have hDc := hD.sub (ws' := []) [] (by decide) rfl
      refine kcV (wr := [(aO, o3 aLy aLi aDa aKs (nI lst)), (aLi, o1 aLy aC aG aU aR aN aW (cO o) (nI tk) em lo lk de), (aLy, o0 (nI n) aK aX aY aF aS aL), (aK, ia E nI 16 kd), (aN, ja E 128 sn)]) (w1 := fun _ : Unit => []) (w2 := fun _ => [(aO, o3 aLy aLi aDa aKs (nI lst)), (aLi, o1 aLy aC aG aU aR aN aW (cO o) (nI tk) em lo lk de), (aLy, o0 (nI n) aK aX aY aF aS aL), (aK, ia E nI 16 kd), (aN, ja E 128 sn)]) (va_runS (As := [.int xc, .int (-1), .int (nI 7)]) (rest := []) ⟨hx, hb, hml, hown, hts⟩ (c_needRange l E H.size xc (-1) (nI 7) hC9) (va_cwS 3 hts gX3_seen_X3_needRange rfl rfl rfl (by decide +kernel) ⟨Nat.le_of_ble_eq_true rfl, Nat.le_of_ble_eq_true rfl⟩) (preS C0 hPc hDc hS) rfl rfl hl.1 rfl (lv_room (Nat.le_of_ble_eq_true rfl)) dX3_seen_9 ⟨Nat.le_of_ble_eq_true rfl, Nat.le_of_ble_eq_true rfl⟩) C0 hP hD hS [] [0, 1, 2, 3, 4] [0, 1, 2, 3, 4] rfl rfl (by decide) (by decide) (fun _ => rfl) (by decide) (fun _u H locs _hw hP hD hS => ?_)
      have hP : va_P E.1 vwCl [(aO, o3 aLy aLi aDa aKs (nI lst)), (aLi, o1 aLy aC aG aU aR aN aW (cO o) (nI tk) em lo lk de), (aLy, o0 (nI n) aK aX aY aF aS aL), (aK, ia E nI 16 kd), (aN, ja E 128 sn)] H := hP
      have hD : va_D A [(aO, o3 aLy aLi aDa aKs (nI lst)), (aLi, o1 aLy aC aG aU aR aN aW (cO o) (nI tk) em lo lk de), (aLy, o0 (nI n) aK aX aY aF aS aL), (aK, ia E nI 16 kd), (aN, ja E 128 sn)] := hD
      refine lv_aload_n hx hb dX3_seen_12 rfl (lv_at hl 0 rfl) ?_
      refine lv_iload_n hx hb dX3_seen_13 rfl (lv_at hl 1 rfl) ?_
      refine lv_ri (y := (nI (tN xp))) (tN_eq hP9) ?_
      refine lv_iconst (v := nI 5) hx hb dX3_seen_14 (by decide) ?_
      by_cases hk5 : kd (tN xp) = 5
      · skip
        exact absurd (show seeC n kd xp xc = 0 from (if_pos hP9).trans ((if_pos hC9).trans (if_pos hk5))) h
      · skip
        have hPc := hP.pick (ws' := [(aO, o3 aLy aLi aDa aKs (nI lst)), (aLy, o0 (nI n) aK aX aY aF aS aL), (aK, ia E nI 16 kd)]) [0, 2, 3] rfl
        have hDc := hD.sub (ws' := [(aO, o3 aLy aLi aDa aKs (nI lst)), (aLy, o0 (nI n) aK aX aY aF aS aL), (aK, ia E nI 16 kd)]) [0, 2, 3] (by decide) rfl
        exact kcX (wr := [(aLi, o1 aLy aC aG aU aR aN aW (cO o) (nI tk) em lo lk de), (aN, ja E 128 sn)]) ((congrArg (xM xI xA xS) (show seeC n kd xp xc = 3 from (if_pos hP9).trans ((if_pos hC9).trans (if_neg hk5)))).trans rfl) (vx_runV (As := [.int (nI (tN xp)), .int (nI 5)]) (rest := []) ⟨hx, hb, hml, hown, hts⟩ (x_needKind l E H.size (tN xp) 5 aO aLi aDa aKs lst aLy aK aX aY aF aS aL n kd hk5 (by omega) (by first | exact hkk | exact hk) (by omega) hst) (cwV 2 hts gX3_seen_X3_needKind rfl rfl rfl (by decide +kernel) ⟨Nat.le_of_ble_eq_true rfl, Nat.le_of_ble_eq_true rfl⟩) (preV C0 hPc hDc hS 0 rfl rfl) rfl rfl hl.1 rfl (lv_room (Nat.le_of_ble_eq_true rfl)) dX3_seen_15 ⟨Nat.le_of_ble_eq_true rfl, Nat.le_of_ble_eq_true rfl⟩) hr hlocks hAe C0 hP hD hS [0, 2, 3] [1, 4] [2, 0, 3, 4, 1] rfl rfl (by decide) (by decide) rfl (by decide)
    · skip
      have hPc := hP.pick (ws' := []) [] rfl
      have hDc := hD.sub (ws' := []) [] (by decide) rfl
      exact kcX (wr := [(aO, o3 aLy aLi aDa aKs (nI lst)), (aLi, o1 aLy aC aG aU aR aN aW (cO o) (nI tk) em lo lk de), (aLy, o0 (nI n) aK aX aY aF aS aL), (aK, ia E nI 16 kd), (aN, ja E 128 sn)]) ((congrArg (xM xI xA xS) (show seeC n kd xp xc = 2 from (if_pos hP9).trans (if_neg hC9))).trans rfl) (vx_runS (As := [.int xc, .int (-1), .int (nI 7)]) (rest := []) ⟨hx, hb, hml, hown, hts⟩ (x_needRange l E H.size xc (-1) (nI 7) hC9 hst) (va_cwS 3 hts gX3_seen_X3_needRange rfl rfl rfl (by decide +kernel) ⟨Nat.le_of_ble_eq_true rfl, Nat.le_of_ble_eq_true rfl⟩) (preS C0 hPc hDc hS) rfl rfl hl.1 rfl (lv_room (Nat.le_of_ble_eq_true rfl)) dX3_seen_9 ⟨Nat.le_of_ble_eq_true rfl, Nat.le_of_ble_eq_true rfl⟩) hr hlocks hAe C0 hP hD hS [] [0, 1, 2, 3, 4] [0, 1, 2, 3, 4] rfl rfl (by decide) (by decide) rfl (by decide)
  · skip
    have hPc := hP.pick (ws' := [(aO, o3 aLy aLi aDa aKs (nI lst)), (aLy, o0 (nI n) aK aX aY aF aS aL)]) [0, 2] rfl
    have hDc := hD.sub (ws' := [(aO, o3 aLy aLi aDa aKs (nI lst)), (aLy, o0 (nI n) aK aX aY aF aS aL)]) [0, 2] (by decide) rfl
    exact kcX (wr := [(aLi, o1 aLy aC aG aU aR aN aW (cO o) (nI tk) em lo lk de), (aK, ia E nI 16 kd), (aN, ja E 128 sn)]) ((congrArg (xM xI xA xS) (show seeC n kd xp xc = 1 from if_neg hP9)).trans rfl) (vx_runV (As := [.int xp]) (rest := []) ⟨hx, hb, hml, hown, hts⟩ (x_needPart l E H.size xp aO aLi aDa aKs lst aLy aK aX aY aF aS aL n hP9 (hn) hst) (cwV 1 hts gX3_seen_X3_needPart rfl rfl rfl (by decide +kernel) ⟨Nat.le_of_ble_eq_true rfl, Nat.le_of_ble_eq_true rfl⟩) (preV C0 hPc hDc hS 0 rfl rfl) rfl rfl hl.1 rfl (lv_room (Nat.le_of_ble_eq_true rfl)) dX3_seen_2 ⟨Nat.le_of_ble_eq_true rfl, Nat.le_of_ble_eq_true rfl⟩) hr hlocks hAe C0 hP hD hS [0, 2] [1, 3, 4] [3, 0, 4, 1, 2] rfl rfl (by decide) (by decide) rfl (by decide)

def acK (em lo lk de : Int64) (w : Nat) : Int64 := if w = 0 then em else if w = 1 then lo else if w = 2 then lk else if w = 3 then de else em - lo - lk - de

set_option maxHeartbeats 4000000 in
set_option maxRecDepth 100000 in
theorem c_account (l : Launch) (E : EnvT) (sz : Nat) (xw : Int32) (aO aDa aKs lst : Nat) (aLy : Nat) (aLi aC aG aU aR aN aW o tk : Nat) (em lo lk de : Int64) (h : accC xw = 0) : ML l yX3_account wsX3_account ({ frames := 1, cells := 0, slots := 0, locals := 22 }) E sz [.ref aO, .int xw] [(aO, o3 aLy aLi aDa aKs (nI lst)), (aLi, o1 aLy aC aG aU aR aN aW (cO o) (nI tk) em lo lk de)] (fun (r : Int64) (_ : Unit) => r = acK em lo lk de (tN xw)) (fun _ => [(aO, o3 aLy aLi aDa aKs (nI lst)), (aLi, o1 aLy aC aG aU aR aN aW (cO o) (nI tk) em lo lk de)]) := by
  refine enL (cc := cX3_account) (maxL := 2) (by decide +kernel) rfl (Nat.le_of_ble_eq_true rfl) ?_
  intro p e s m below meth c A ls hx hb hr hml hts hown hlocks hAe C0 hP hD hS hl
  have hown : s.vm.findClass RX3 = some m.cls := hown
  have hl : lv_has ls 2 [(0, .ref aO), (1, .int xw)] := hl
  have iX1 : ∀ w ∈ u_ws RX1 TX1 13, w ∈ wsX3_account := by decide +kernel
  have iX3 : ∀ w ∈ u_ws RX3 TX3 5, w ∈ wsX3_account := by decide +kernel
  obtain ⟨H, hHe⟩ : ∃ z, z = s.heap := ⟨_, rfl⟩
  obtain ⟨locs, hLe⟩ : ∃ z : List Loc, z = [] := ⟨_, rfl⟩
  have hP : va_P E.1 vwCl [(aO, o3 aLy aLi aDa aKs (nI lst)), (aLi, o1 aLy aC aG aU aR aN aW (cO o) (nI tk) em lo lk de)] H := by rw [hHe]; exact hP
  have hD : va_D A [(aO, o3 aLy aLi aDa aKs (nI lst)), (aLi, o1 aLy aC aG aU aR aN aW (cO o) (nI tk) em lo lk de)] := hD
  have hS : va_S A s.heap H locs := by rw [hHe, hLe]; exact hS
  suffices hgo : W p l e _ s m _ below meth c H locs 0 0 _ (F0 m 0 ls []) by rw [hHe, hLe] at hgo; exact hgo
  clear hHe hLe
  have hW9 := accC_0 h
  have hw5 := tN_le (by omega) hW9.2
  refine lv_iload_n hx hb dX3_account_0 rfl (lv_at hl 1 rfl) ?_
  refine lv_iconst (v := nI 0) hx hb dX3_account_1 (by decide) ?_
  refine lv_iconst (v := nI 4) hx hb dX3_account_2 (by decide) ?_
  have hPc := hP.pick (ws' := []) [] rfl
  have hDc := hD.sub (ws' := []) [] (by decide) rfl
  refine kcV (wr := [(aO, o3 aLy aLi aDa aKs (nI lst)), (aLi, o1 aLy aC aG aU aR aN aW (cO o) (nI tk) em lo lk de)]) (w1 := fun _ : Unit => []) (w2 := fun _ => [(aO, o3 aLy aLi aDa aKs (nI lst)), (aLi, o1 aLy aC aG aU aR aN aW (cO o) (nI tk) em lo lk de)]) (va_runS (As := [.int xw, .int (nI 0), .int (nI 4)]) (rest := []) ⟨hx, hb, hml, hown, hts⟩ (c_needRange l E H.size xw (nI 0) (nI 4) hW9) (va_cwS 3 hts gX3_account_X3_needRange rfl rfl rfl (by decide +kernel) ⟨Nat.le_of_ble_eq_true rfl, Nat.le_of_ble_eq_true rfl⟩) (preS C0 hPc hDc hS) rfl rfl hl.1 rfl (lv_room (Nat.le_of_ble_eq_true rfl)) dX3_account_3 ⟨Nat.le_refl _, Nat.le_refl _⟩) C0 hP hD hS [] [0, 1] [0, 1] rfl rfl (by decide) (by decide) (fun _ => rfl) (by decide) (fun _u H locs _hw hP hD hS => ?_)
  have hP : va_P E.1 vwCl [(aO, o3 aLy aLi aDa aKs (nI lst)), (aLi, o1 aLy aC aG aU aR aN aW (cO o) (nI tk) em lo lk de)] H := hP
  have hD : va_D A [(aO, o3 aLy aLi aDa aKs (nI lst)), (aLi, o1 aLy aC aG aU aR aN aW (cO o) (nI tk) em lo lk de)] := hD
  rw [show xw = nI (tN xw) from tN_eq hW9] at hl
  refine lv_iload_n hx hb dX3_account_6 rfl (lv_at hl 1 rfl) ?_
  have w_1 : tN xw = 0 ∨ tN xw = 1 ∨ tN xw = 2 ∨ tN xw = 3 ∨ 3 < tN xw := by omega
  rcases w_1 with w_1 | w_1 | w_1 | w_1 | w_1
  · skip
    refine lv_tableIn (tgt := 36) (off := 29) hx hb dX3_account_7 (by rw [nI_toInt (by omega)]; omega) (by rw [nI_toInt (by omega)]; omega) (by rw [nI_toInt (by omega), w_1]; rfl) (by decide) ?_
    refine lv_aload_n hx hb dX3_account_36 rfl (lv_at hl 0 rfl) ?_
    refine va_get (D := E.1) (ci := 3) (v := .ref aLi) (C := RX3) (T := TX3) (N := 5) hx hb hts iX3 hown C0.1 hP 0 rfl rfl 1 (by decide) (hts (.fieldLink RX3 21 "Ringresonance" "light" "LRingresonance$Light;") (by decide +kernel)) (fun _ h9 => h9) rfl dX3_account_37 ?_
    refine va_get (D := E.1) (ci := 1) (v := .long em) (C := RX1) (T := TX1) (N := 13) hx hb hts iX1 hown C0.1 hP 1 rfl rfl 9 (by decide) (hts (.fieldLink RX3 159 "Ringresonance$Light" "emitted" "J") (by decide +kernel)) (fun _ h9 => h9) rfl dX3_account_40 ?_
    have q_2 : em = (acK em lo lk de (tN xw)) := by symm; simp [acK, w_1]
    exact exL hx hb hr hlocks hAe hS () q_2 hP hD dX3_account_43
  · skip
    refine lv_tableIn (tgt := 44) (off := 37) hx hb dX3_account_7 (by rw [nI_toInt (by omega)]; omega) (by rw [nI_toInt (by omega)]; omega) (by rw [nI_toInt (by omega), w_1]; rfl) (by decide) ?_
    refine lv_aload_n hx hb dX3_account_44 rfl (lv_at hl 0 rfl) ?_
    refine va_get (D := E.1) (ci := 3) (v := .ref aLi) (C := RX3) (T := TX3) (N := 5) hx hb hts iX3 hown C0.1 hP 0 rfl rfl 1 (by decide) (hts (.fieldLink RX3 21 "Ringresonance" "light" "LRingresonance$Light;") (by decide +kernel)) (fun _ h9 => h9) rfl dX3_account_45 ?_
    refine va_get (D := E.1) (ci := 1) (v := .long lo) (C := RX1) (T := TX1) (N := 13) hx hb hts iX1 hown C0.1 hP 1 rfl rfl 10 (by decide) (hts (.fieldLink RX3 163 "Ringresonance$Light" "lost" "J") (by decide +kernel)) (fun _ h9 => h9) rfl dX3_account_48 ?_
    have q_3 : lo = (acK em lo lk de (tN xw)) := by symm; simp [acK, w_1]
    exact exL hx hb hr hlocks hAe hS () q_3 hP hD dX3_account_51
  · skip
    refine lv_tableIn (tgt := 52) (off := 45) hx hb dX3_account_7 (by rw [nI_toInt (by omega)]; omega) (by rw [nI_toInt (by omega)]; omega) (by rw [nI_toInt (by omega), w_1]; rfl) (by decide) ?_
    refine lv_aload_n hx hb dX3_account_52 rfl (lv_at hl 0 rfl) ?_
    refine va_get (D := E.1) (ci := 3) (v := .ref aLi) (C := RX3) (T := TX3) (N := 5) hx hb hts iX3 hown C0.1 hP 0 rfl rfl 1 (by decide) (hts (.fieldLink RX3 21 "Ringresonance" "light" "LRingresonance$Light;") (by decide +kernel)) (fun _ h9 => h9) rfl dX3_account_53 ?_
    refine va_get (D := E.1) (ci := 1) (v := .long lk) (C := RX1) (T := TX1) (N := 13) hx hb hts iX1 hown C0.1 hP 1 rfl rfl 11 (by decide) (hts (.fieldLink RX3 166 "Ringresonance$Light" "leaked" "J") (by decide +kernel)) (fun _ h9 => h9) rfl dX3_account_56 ?_
    have q_4 : lk = (acK em lo lk de (tN xw)) := by symm; simp [acK, w_1]
    exact exL hx hb hr hlocks hAe hS () q_4 hP hD dX3_account_59
  · skip
    refine lv_tableIn (tgt := 60) (off := 53) hx hb dX3_account_7 (by rw [nI_toInt (by omega)]; omega) (by rw [nI_toInt (by omega)]; omega) (by rw [nI_toInt (by omega), w_1]; rfl) (by decide) ?_
    refine lv_aload_n hx hb dX3_account_60 rfl (lv_at hl 0 rfl) ?_
    refine va_get (D := E.1) (ci := 3) (v := .ref aLi) (C := RX3) (T := TX3) (N := 5) hx hb hts iX3 hown C0.1 hP 0 rfl rfl 1 (by decide) (hts (.fieldLink RX3 21 "Ringresonance" "light" "LRingresonance$Light;") (by decide +kernel)) (fun _ h9 => h9) rfl dX3_account_61 ?_
    refine va_get (D := E.1) (ci := 1) (v := .long de) (C := RX1) (T := TX1) (N := 13) hx hb hts iX1 hown C0.1 hP 1 rfl rfl 12 (by decide) (hts (.fieldLink RX3 169 "Ringresonance$Light" "detected" "J") (by decide +kernel)) (fun _ h9 => h9) rfl dX3_account_64 ?_
    have q_5 : de = (acK em lo lk de (tN xw)) := by symm; simp [acK, w_1]
    exact exL hx hb hr hlocks hAe hS () q_5 hP hD dX3_account_67
  · skip
    refine lv_tableOut (tgt := 68) hx hb dX3_account_7 (Or.inr (by rw [nI_toInt (by omega)]; omega)) (by decide) ?_
    refine lv_aload_n hx hb dX3_account_68 rfl (lv_at hl 0 rfl) ?_
    refine va_get (D := E.1) (ci := 3) (v := .ref aLi) (C := RX3) (T := TX3) (N := 5) hx hb hts iX3 hown C0.1 hP 0 rfl rfl 1 (by decide) (hts (.fieldLink RX3 21 "Ringresonance" "light" "LRingresonance$Light;") (by decide +kernel)) (fun _ h9 => h9) rfl dX3_account_69 ?_
    refine va_get (D := E.1) (ci := 1) (v := .long em) (C := RX1) (T := TX1) (N := 13) hx hb hts iX1 hown C0.1 hP 1 rfl rfl 9 (by decide) (hts (.fieldLink RX3 159 "Ringresonance$Light" "emitted" "J") (by decide +kernel)) (fun _ h9 => h9) rfl dX3_account_72 ?_
    refine lv_aload_n hx hb dX3_account_75 rfl (lv_at hl 0 rfl) ?_
    refine va_get (D := E.1) (ci := 3) (v := .ref aLi) (C := RX3) (T := TX3) (N := 5) hx hb hts iX3 hown C0.1 hP 0 rfl rfl 1 (by decide) (hts (.fieldLink RX3 21 "Ringresonance" "light" "LRingresonance$Light;") (by decide +kernel)) (fun _ h9 => h9) rfl dX3_account_76 ?_
    refine va_get (D := E.1) (ci := 1) (v := .long lo) (C := RX1) (T := TX1) (N := 13) hx hb hts iX1 hown C0.1 hP 1 rfl rfl 10 (by decide) (hts (.fieldLink RX3 163 "Ringresonance$Light" "lost" "J") (by decide +kernel)) (fun _ h9 => h9) rfl dX3_account_79 ?_
    refine lv_lsub hx hb dX3_account_82 ?_
    refine lv_aload_n hx hb dX3_account_83 rfl (lv_at hl 0 rfl) ?_
    refine va_get (D := E.1) (ci := 3) (v := .ref aLi) (C := RX3) (T := TX3) (N := 5) hx hb hts iX3 hown C0.1 hP 0 rfl rfl 1 (by decide) (hts (.fieldLink RX3 21 "Ringresonance" "light" "LRingresonance$Light;") (by decide +kernel)) (fun _ h9 => h9) rfl dX3_account_84 ?_
    refine va_get (D := E.1) (ci := 1) (v := .long lk) (C := RX1) (T := TX1) (N := 13) hx hb hts iX1 hown C0.1 hP 1 rfl rfl 11 (by decide) (hts (.fieldLink RX3 166 "Ringresonance$Light" "leaked" "J") (by decide +kernel)) (fun _ h9 => h9) rfl dX3_account_87 ?_
    refine lv_lsub hx hb dX3_account_90 ?_
    refine lv_aload_n hx hb dX3_account_91 rfl (lv_at hl 0 rfl) ?_
    refine va_get (D := E.1) (ci := 3) (v := .ref aLi) (C := RX3) (T := TX3) (N := 5) hx hb hts iX3 hown C0.1 hP 0 rfl rfl 1 (by decide) (hts (.fieldLink RX3 21 "Ringresonance" "light" "LRingresonance$Light;") (by decide +kernel)) (fun _ h9 => h9) rfl dX3_account_92 ?_
    refine va_get (D := E.1) (ci := 1) (v := .long de) (C := RX1) (T := TX1) (N := 13) hx hb hts iX1 hown C0.1 hP 1 rfl rfl 12 (by decide) (hts (.fieldLink RX3 169 "Ringresonance$Light" "detected" "J") (by decide +kernel)) (fun _ h9 => h9) rfl dX3_account_95 ?_
    refine lv_lsub hx hb dX3_account_98 ?_
    have q_6 : (((em - lo) - lk) - de) = (acK em lo lk de (tN xw)) := by symm; simp [acK, show tN xw = 4 by omega]
    exact exL hx hb hr hlocks hAe hS () q_6 hP hD dX3_account_99

set_option maxHeartbeats 4000000 in
set_option maxRecDepth 100000 in
theorem x_account (l : Launch) (E : EnvT) (sz : Nat) (xw : Int32) (aO aDa aKs lst : Nat) (aLy : Nat) (aLi aC aG aU aR aN aW o tk : Nat) (em lo lk de : Int64) (h : ¬ (accC xw = 0)) (hst : l.stackTraces = false) : MX l yX3_account wsX3_account ({ frames := 7, cells := 1, slots := 6, locals := 104 }) E sz [.ref aO, .int xw] [(aO, o3 aLy aLi aDa aKs (nI lst)), (aLi, o1 aLy aC aG aU aR aN aW (cO o) (nI tk) em lo lk de)] (xM xA xA xA (accC xw)) := by
  refine enX (cc := cX3_account) (maxL := 2) (ret := (some .long)) (by decide +kernel) rfl (Nat.le_of_ble_eq_true rfl) ?_
  intro p e s m below meth c A ls hx hb hr hml hts hown hlocks hAe C0 hP hD hS hl
  have hown : s.vm.findClass RX3 = some m.cls := hown
  have hl : lv_has ls 2 [(0, .ref aO), (1, .int xw)] := hl
  obtain ⟨H, hHe⟩ : ∃ z, z = s.heap := ⟨_, rfl⟩
  obtain ⟨locs, hLe⟩ : ∃ z : List Loc, z = [] := ⟨_, rfl⟩
  have hP : va_P E.1 vwCl [(aO, o3 aLy aLi aDa aKs (nI lst)), (aLi, o1 aLy aC aG aU aR aN aW (cO o) (nI tk) em lo lk de)] H := by rw [hHe]; exact hP
  have hD : va_D A [(aO, o3 aLy aLi aDa aKs (nI lst)), (aLi, o1 aLy aC aG aU aR aN aW (cO o) (nI tk) em lo lk de)] := hD
  have hS : va_S A s.heap H locs := by rw [hHe, hLe]; exact hS
  suffices hgo : W p l e _ s m _ below meth c H locs 0 0 _ (F0 m 0 ls []) by rw [hHe, hLe] at hgo; exact hgo
  clear hHe hLe
  refine lv_iload_n hx hb dX3_account_0 rfl (lv_at hl 1 rfl) ?_
  refine lv_iconst (v := nI 0) hx hb dX3_account_1 (by decide) ?_
  refine lv_iconst (v := nI 4) hx hb dX3_account_2 (by decide) ?_
  by_cases hW9 : (nI 0) ≤ xw ∧ xw ≤ (nI 4)
  · skip
    exact absurd (show accC xw = 0 from if_pos hW9) h
  · skip
    have hPc := hP.pick (ws' := []) [] rfl
    have hDc := hD.sub (ws' := []) [] (by decide) rfl
    exact kcX (wr := [(aO, o3 aLy aLi aDa aKs (nI lst)), (aLi, o1 aLy aC aG aU aR aN aW (cO o) (nI tk) em lo lk de)]) ((congrArg (xM xA xA xA) (show accC xw = 1 from if_neg hW9)).trans rfl) (vx_runS (As := [.int xw, .int (nI 0), .int (nI 4)]) (rest := []) ⟨hx, hb, hml, hown, hts⟩ (x_needRange l E H.size xw (nI 0) (nI 4) hW9 hst) (va_cwS 3 hts gX3_account_X3_needRange rfl rfl rfl (by decide +kernel) ⟨Nat.le_of_ble_eq_true rfl, Nat.le_of_ble_eq_true rfl⟩) (preS C0 hPc hDc hS) rfl rfl hl.1 rfl (lv_room (Nat.le_of_ble_eq_true rfl)) dX3_account_3 ⟨Nat.le_of_ble_eq_true rfl, Nat.le_of_ble_eq_true rfl⟩) hr hlocks hAe C0 hP hD hS [] [0, 1] [0, 1] rfl rfl (by decide) (by decide) rfl (by decide)
