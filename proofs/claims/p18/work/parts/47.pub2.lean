set_option maxHeartbeats 4000000 in
set_option maxRecDepth 100000 in
theorem c_tick (l : Launch) (E : EnvT) (sz : Nat) (aO aDa aKs lst : Nat) (aLy : Nat) (aLi aC aG aU aR aN aW o tk : Nat) (em lo lk de : Int64) : MI l yX3_tick wsX3_tick ({ frames := 0, cells := 0, slots := 0, locals := 0 }) E sz [.ref aO] [(aO, o3 aLy aLi aDa aKs (nI lst)), (aLi, o1 aLy aC aG aU aR aN aW (cO o) (nI tk) em lo lk de)] (fun (r : Int32) (_ : Unit) => r = nI tk) (fun _ => [(aO, o3 aLy aLi aDa aKs (nI lst)), (aLi, o1 aLy aC aG aU aR aN aW (cO o) (nI tk) em lo lk de)]) := by
  refine enI (cc := cX3_tick) (maxL := 1) (ret := .int) (by decide +kernel) rfl (Nat.le_of_ble_eq_true rfl) ?_
  intro p e s m below meth c A ls hx hb hr hml hts hown hlocks hAe C0 hP hD hS hl
  have hown : s.vm.findClass RX3 = some m.cls := hown
  have hl : lv_has ls 1 [(0, .ref aO)] := hl
  have iX1 : ∀ w ∈ u_ws RX1 TX1 13, w ∈ wsX3_tick := by decide +kernel
  have iX3 : ∀ w ∈ u_ws RX3 TX3 5, w ∈ wsX3_tick := by decide +kernel
  obtain ⟨H, hHe⟩ : ∃ z, z = s.heap := ⟨_, rfl⟩
  obtain ⟨locs, hLe⟩ : ∃ z : List Loc, z = [] := ⟨_, rfl⟩
  have hP : va_P E.1 vwCl [(aO, o3 aLy aLi aDa aKs (nI lst)), (aLi, o1 aLy aC aG aU aR aN aW (cO o) (nI tk) em lo lk de)] H := by rw [hHe]; exact hP
  have hD : va_D A [(aO, o3 aLy aLi aDa aKs (nI lst)), (aLi, o1 aLy aC aG aU aR aN aW (cO o) (nI tk) em lo lk de)] := hD
  have hS : va_S A s.heap H locs := by rw [hHe, hLe]; exact hS
  suffices hgo : W p l e _ s m _ below meth c H locs 0 0 _ (F0 m 0 ls []) by rw [hHe, hLe] at hgo; exact hgo
  clear hHe hLe
  refine lv_aload_n hx hb dX3_tick_0 rfl (lv_at hl 0 rfl) ?_
  refine va_get (D := E.1) (ci := 3) (v := .ref aLi) (C := RX3) (T := TX3) (N := 5) hx hb hts iX3 hown C0.1 hP 0 rfl rfl 1 (by decide) (hts (.fieldLink RX3 21 "Ringresonance" "light" "LRingresonance$Light;") (by decide +kernel)) (fun _ h9 => h9) rfl dX3_tick_1 ?_
  refine va_get (D := E.1) (ci := 1) (v := .int (nI tk)) (C := RX1) (T := TX1) (N := 13) hx hb hts iX1 hown C0.1 hP 1 rfl rfl 8 (by decide) (hts (.fieldLink RX3 112 "Ringresonance$Light" "ticks" "I") (by decide +kernel)) (fun _ h9 => h9) rfl dX3_tick_4 ?_
  have q_1 : (nI tk) = (nI tk) := rfl
  exact exI hx hb hr hlocks hAe hS () q_1 hP hD dX3_tick_7

set_option maxHeartbeats 4000000 in
set_option maxRecDepth 100000 in
theorem c_conflicts (l : Launch) (E : EnvT) (sz : Nat) (aO aLg aDa aKs lst : Nat) (aLy aK aX aY aF aS aL n : Nat) (xs ys : Nat → Nat) (hn : n ≤ 16) (hl9 : lst ≤ 15) (hx9 : ∀ j, j < 16 → xs j ≤ 15 ∧ ys j ≤ 15) : MI l yX3_conflicts wsX3_conflicts ({ frames := 2, cells := 0, slots := 0, locals := 43 }) E sz [.ref aO] [(aO, o3 aLy aLg aDa aKs (nI lst)), (aLy, o0 (nI n) aK aX aY aF aS aL), (aX, ia E nI 16 xs), (aY, ia E nI 16 ys)] (fun (r : Int32) (_ : Unit) => r = nI (cfA xs ys lst n)) (fun _ => [(aO, o3 aLy aLg aDa aKs (nI lst)), (aLy, o0 (nI n) aK aX aY aF aS aL), (aX, ia E nI 16 xs), (aY, ia E nI 16 ys)]) := by
  refine enI (cc := cX3_conflicts) (maxL := 4) (ret := .int) (by decide +kernel) rfl (Nat.le_of_ble_eq_true rfl) ?_
  intro p e s m below meth c A ls hx hb hr hml hts hown hlocks hAe C0 hP hD hS hl
  have hown : s.vm.findClass RX3 = some m.cls := hown
  have hl : lv_has ls 4 [(0, .ref aO)] := hl
  have iX0 : ∀ w ∈ u_ws RX0 TX0 7, w ∈ wsX3_conflicts := by decide +kernel
  have iX3 : ∀ w ∈ u_ws RX3 TX3 5, w ∈ wsX3_conflicts := by decide +kernel
  obtain ⟨H, hHe⟩ : ∃ z, z = s.heap := ⟨_, rfl⟩
  obtain ⟨locs, hLe⟩ : ∃ z : List Loc, z = [] := ⟨_, rfl⟩
  have hP : va_P E.1 vwCl [(aO, o3 aLy aLg aDa aKs (nI lst)), (aLy, o0 (nI n) aK aX aY aF aS aL), (aX, ia E nI 16 xs), (aY, ia E nI 16 ys)] H := by rw [hHe]; exact hP
  have hD : va_D A [(aO, o3 aLy aLg aDa aKs (nI lst)), (aLy, o0 (nI n) aK aX aY aF aS aL), (aX, ia E nI 16 xs), (aY, ia E nI 16 ys)] := hD
  have hS : va_S A s.heap H locs := by rw [hHe, hLe]; exact hS
  suffices hgo : W p l e _ s m _ below meth c H locs 0 0 _ (F0 m 0 ls []) by rw [hHe, hLe] at hgo; exact hgo
  clear hHe hLe
  refine lv_iconst (v := nI 0) hx hb dX3_conflicts_0 (by decide) ?_
  refine lv_istore_n (lv' := [(1, .int (nI 0)), (0, .ref aO)]) hx hb dX3_conflicts_1 rfl hl (by decide) rfl (fun ls hl => ?_)
  refine lv_iconst (v := nI 0) hx hb dX3_conflicts_2 (by decide) ?_
  refine lv_istore_n (lv' := [(2, .int (nI 0)), (1, .int (nI 0)), (0, .ref aO)]) hx hb dX3_conflicts_3 rfl hl (by decide) rfl (fun ls hl => ?_)
  have LP_1 : ∀ (nz i_3 : Nat), i_3 ≤ n → n < i_3 + nz → ∀ (H : Heap) (locs : List Loc), va_P E.1 vwCl [(aO, o3 aLy aLg aDa aKs (nI lst)), (aLy, o0 (nI n) aK aX aY aF aS aL), (aX, ia E nI 16 xs), (aY, ia E nI 16 ys)] H → va_D A [(aO, o3 aLy aLg aDa aKs (nI lst)), (aLy, o0 (nI n) aK aX aY aF aS aL), (aX, ia E nI 16 xs), (aY, ia E nI 16 ys)] → va_S A s.heap H locs → ∀ (ls : Array Slot), lv_has ls 4 [(0, .ref aO), (1, .int (nI (rp (cfP xs ys lst) (i_3) 0))), (2, .int (nI i_3))] → W p l e ({ frames := 2, cells := 0, slots := 0, locals := 43 }) s m (([.ref aO] : List Value).toArray) below meth c H locs 0 0 (MQ below (va_Qi (fun (r : Int32) (_ : Unit) => r = nI (cfA xs ys lst n)) (Wd E [(aO, o3 aLy aLg aDa aKs (nI lst)), (aLy, o0 (nI n) aK aX aY aF aS aL), (aX, ia E nI 16 xs), (aY, ia E nI 16 ys)] s.heap.size (fun _ => [(aO, o3 aLy aLg aDa aKs (nI lst)), (aLy, o0 (nI n) aK aX aY aF aS aL), (aX, ia E nI 16 xs), (aY, ia E nI 16 ys)])) A) (([.ref aO] : List Value).toArray) s 0 0 A) (F0 m 4 ls []) := by
    intro nz
    induction nz with
    | zero =>
      intro i_3 h1 h2
      exact absurd h2 (by omega)
    | succ nz ih_2 =>
      intro i_3 hi_i_3 hn_i_3 H locs hP hD hS ls hl
      refine lv_iload_n hx hb dX3_conflicts_4 rfl (lv_at hl 2 rfl) ?_
      refine lv_aload_n hx hb dX3_conflicts_5 rfl (lv_at hl 0 rfl) ?_
      refine va_get (D := E.1) (ci := 3) (v := .ref aLy) (C := RX3) (T := TX3) (N := 5) hx hb hts iX3 hown C0.1 hP 0 rfl rfl 0 (by decide) (hts (.fieldLink RX3 10 "Ringresonance" "layout" "LRingresonance$Layout;") (by decide +kernel)) (fun _ h9 => h9) rfl dX3_conflicts_6 ?_
      refine va_get (D := E.1) (ci := 0) (v := .int (nI n)) (C := RX0) (T := TX0) (N := 7) hx hb hts iX0 hown C0.1 hP 1 rfl rfl 0 (by decide) (hts (.fieldLink RX3 59 "Ringresonance$Layout" "count" "I") (by decide +kernel)) (fun _ h9 => h9) rfl dX3_conflicts_9 ?_
      refine lv_icmp_ge (tgt := 53) hx hb dX3_conflicts_12 (by decide) (fun c_4 => ?_) (fun c_4 => ?_)
      · skip
        have c_4 : n ≤ i_3 := (ci_ge (by omega) (by omega)).mp c_4
        obtain rfl : n = i_3 := by omega
        refine lv_iload_n hx hb dX3_conflicts_53 rfl (lv_at hl 1 rfl) ?_
        have q_5 : (nI (rp (cfP xs ys lst) (n) 0)) = (nI (cfA xs ys lst n)) := by symm; first | rfl | (simp only [rp_s, cfP, cfB, if_true, if_false, Nat.add_zero, c_4, if_true, if_false, not_true_eq_false, not_false_eq_true, ite_true, ite_false]; done) | (simp only [rp_s, cfP, cfB, if_true, if_false, Nat.add_zero, c_4, if_true, if_false]; rfl) | (simp [rp_s, cfP, cfB, if_true, if_false, Nat.add_zero, c_4]; done)
        exact exI hx hb hr hlocks hAe hS () q_5 hP hD dX3_conflicts_54
      · skip
        have c_4 : ¬ (n ≤ i_3) := fun h => c_4 ((ci_ge (by omega) (by omega)).mpr h)
        refine lv_iconst (v := nI 0) hx hb dX3_conflicts_15 (by decide) ?_
        refine lv_istore_n (lv' := [(3, .int (nI 0)), (0, .ref aO), (1, .int (nI (rp (cfP xs ys lst) (i_3) 0))), (2, .int (nI i_3))]) hx hb dX3_conflicts_16 rfl hl (by decide) rfl (fun ls hl => ?_)
        have LP_6 : ∀ (nz i_8 : Nat), i_8 ≤ i_3 → i_3 < i_8 + nz → ∀ (H : Heap) (locs : List Loc), va_P E.1 vwCl [(aO, o3 aLy aLg aDa aKs (nI lst)), (aLy, o0 (nI n) aK aX aY aF aS aL), (aX, ia E nI 16 xs), (aY, ia E nI 16 ys)] H → va_D A [(aO, o3 aLy aLg aDa aKs (nI lst)), (aLy, o0 (nI n) aK aX aY aF aS aL), (aX, ia E nI 16 xs), (aY, ia E nI 16 ys)] → va_S A s.heap H locs → ∀ (ls : Array Slot), lv_has ls 4 [(0, .ref aO), (1, .int (nI (rp (cfB xs ys lst i_3) (i_8) (rp (cfP xs ys lst) (i_3) 0)))), (2, .int (nI i_3)), (3, .int (nI i_8))] → W p l e ({ frames := 2, cells := 0, slots := 0, locals := 43 }) s m (([.ref aO] : List Value).toArray) below meth c H locs 0 0 (MQ below (va_Qi (fun (r : Int32) (_ : Unit) => r = nI (cfA xs ys lst n)) (Wd E [(aO, o3 aLy aLg aDa aKs (nI lst)), (aLy, o0 (nI n) aK aX aY aF aS aL), (aX, ia E nI 16 xs), (aY, ia E nI 16 ys)] s.heap.size (fun _ => [(aO, o3 aLy aLg aDa aKs (nI lst)), (aLy, o0 (nI n) aK aX aY aF aS aL), (aX, ia E nI 16 xs), (aY, ia E nI 16 ys)])) A) (([.ref aO] : List Value).toArray) s 0 0 A) (F0 m 17 ls []) := by
          intro nz
          induction nz with
          | zero =>
            intro i_8 h1 h2
            exact absurd h2 (by omega)
          | succ nz ih_7 =>
            intro i_8 hi_i_8 hn_i_8 H locs hP hD hS ls hl
            refine lv_iload_n hx hb dX3_conflicts_17 rfl (lv_at hl 3 rfl) ?_
            refine lv_iload_n hx hb dX3_conflicts_18 rfl (lv_at hl 2 rfl) ?_
            refine lv_icmp_ge (tgt := 47) hx hb dX3_conflicts_19 (by decide) (fun c_9 => ?_) (fun c_9 => ?_)
            · skip
              have c_9 : i_3 ≤ i_8 := (ci_ge (by omega) (by omega)).mp c_9
              obtain rfl : i_3 = i_8 := by omega
              refine lv_iinc (v := nI (i_3 + 1)) (lv' := [(2, .int (nI (i_3 + 1))), (0, .ref aO), (1, .int (nI (rp (cfB xs ys lst i_3) (i_3) (rp (cfP xs ys lst) (i_3) 0)))), (3, .int (nI i_3))]) hx hb dX3_conflicts_47 hl (k := 2) rfl (nI_add i_3 1) (by decide) rfl (fun ls hl => ?_)
              refine lv_goto (tgt := 4) hx hb dX3_conflicts_50 (by decide) ?_
              have hP : va_P E.1 vwCl [(aO, o3 aLy aLg aDa aKs (nI lst)), (aLy, o0 (nI n) aK aX aY aF aS aL), (aX, ia E nI 16 xs), (aY, ia E nI 16 ys)] H := hP
              have hD : va_D A [(aO, o3 aLy aLg aDa aKs (nI lst)), (aLy, o0 (nI n) aK aX aY aF aS aL), (aX, ia E nI 16 xs), (aY, ia E nI 16 ys)] := hD
              have q_10 : nI (rp (cfB xs ys lst i_3) (i_3) (rp (cfP xs ys lst) (i_3) 0)) = nI (rp (cfP xs ys lst) (i_3 + 1) 0) := by first | rfl | (congr 1; omega) | (simp only [rp_s, cfP, cfB, if_true, if_false, Nat.add_zero, c_4, c_9, if_true]; done) | (simp [rp_s, cfP, cfB, if_true, if_false, Nat.add_zero, c_4, c_9]; done)
              rw [q_10] at hl
              have hl : lv_has ls 4 [(0, .ref aO), (1, .int (nI (rp (cfP xs ys lst) (i_3 + 1) 0))), (2, .int (nI (i_3 + 1)))] := lv_sub hl [1, 2, 0] rfl
              exact ih_2 (i_3 + 1) (by omega) (by omega) _ _ hP hD hS _ hl
            · skip
              have c_9 : ¬ (i_3 ≤ i_8) := fun h => c_9 ((ci_ge (by omega) (by omega)).mpr h)
              refine lv_aload_n hx hb dX3_conflicts_22 rfl (lv_at hl 0 rfl) ?_
              refine va_get (D := E.1) (ci := 3) (v := .ref aLy) (C := RX3) (T := TX3) (N := 5) hx hb hts iX3 hown C0.1 hP 0 rfl rfl 0 (by decide) (hts (.fieldLink RX3 10 "Ringresonance" "layout" "LRingresonance$Layout;") (by decide +kernel)) (fun _ h9 => h9) rfl dX3_conflicts_23 ?_
              refine lv_iload_n hx hb dX3_conflicts_26 rfl (lv_at hl 2 rfl) ?_
              refine lv_iload_n hx hb dX3_conflicts_27 rfl (lv_at hl 3 rfl) ?_
              have hPc := hP.pick (ws' := [(aLy, o0 (nI n) aK aX aY aF aS aL), (aX, ia E nI 16 xs), (aY, ia E nI 16 ys)]) [1, 2, 3] rfl
              have hDc := hD.sub (ws' := [(aLy, o0 (nI n) aK aX aY aF aS aL), (aX, ia E nI 16 xs), (aY, ia E nI 16 ys)]) [1, 2, 3] (by decide) rfl
              refine kcI (wr := [(aO, o3 aLy aLg aDa aKs (nI lst))]) (w1 := fun _ : Unit => [(aLy, o0 (nI n) aK aX aY aF aS aL), (aX, ia E nI 16 xs), (aY, ia E nI 16 ys)]) (w2 := fun _ => [(aO, o3 aLy aLg aDa aKs (nI lst)), (aLy, o0 (nI n) aK aX aY aF aS aL), (aX, ia E nI 16 xs), (aY, ia E nI 16 ys)]) (va_runV (As := [.int (nI i_3), .int (nI i_8)]) (rest := []) ⟨hx, hb, hml, hown, hts⟩ (c_distance l E H.size i_3 i_8 aLy aK aX aY aF aS aL n xs ys (by omega) (by omega) (hx9)) (cwV 2 hts gX3_conflicts_X0_distance rfl rfl rfl (by decide +kernel) ⟨Nat.le_of_ble_eq_true rfl, Nat.le_of_ble_eq_true rfl⟩) (preV C0 hPc hDc hS 0 rfl rfl) rfl rfl hl.1 rfl (lv_room (Nat.le_of_ble_eq_true rfl)) dX3_conflicts_28 ⟨Nat.le_refl _, Nat.le_refl _⟩) C0 hP hD hS [1, 2, 3] [0] [0, 1, 2, 3] rfl rfl (by decide) (by decide) (fun _ => rfl) (by decide) (fun r_9 _u H locs hw hP hD hS => ?_)
              have hP : va_P E.1 vwCl [(aO, o3 aLy aLg aDa aKs (nI lst)), (aLy, o0 (nI n) aK aX aY aF aS aL), (aX, ia E nI 16 xs), (aY, ia E nI 16 ys)] H := hP
              have hD : va_D A [(aO, o3 aLy aLg aDa aKs (nI lst)), (aLy, o0 (nI n) aK aX aY aF aS aL), (aX, ia E nI 16 xs), (aY, ia E nI 16 ys)] := hD
              have hw : r_9 = nI (dst xs ys i_3 i_8) := hw
              subst hw
              have hdl := dst_le (xs := xs) (ys := ys) (a := i_3) (b := i_8) (by omega) (by omega) hx9
              refine lv_aload_n hx hb dX3_conflicts_31 rfl (lv_at hl 0 rfl) ?_
              refine va_get (D := E.1) (ci := 3) (v := .int (nI lst)) (C := RX3) (T := TX3) (N := 5) hx hb hts iX3 hown C0.1 hP 0 rfl rfl 4 (by decide) (hts (.fieldLink RX3 37 "Ringresonance" "least" "I") (by decide +kernel)) (fun _ h9 => h9) rfl dX3_conflicts_32 ?_
              refine lv_icmp_ge (tgt := 41) hx hb dX3_conflicts_35 (by decide) (fun c_11 => ?_) (fun c_11 => ?_)
              · skip
                have c_11 : lst ≤ (dst xs ys i_3 i_8) := (ci_ge (by omega) (by omega)).mp c_11
                have hd9 : ¬ dst xs ys i_3 i_8 < lst := by omega
                refine lv_iinc (v := nI (i_8 + 1)) (lv' := [(3, .int (nI (i_8 + 1))), (0, .ref aO), (1, .int (nI (rp (cfB xs ys lst i_3) (i_8) (rp (cfP xs ys lst) (i_3) 0)))), (2, .int (nI i_3))]) hx hb dX3_conflicts_41 hl (k := 3) rfl (nI_add i_8 1) (by decide) rfl (fun ls hl => ?_)
                refine lv_goto (tgt := 17) hx hb dX3_conflicts_44 (by decide) ?_
                have hP : va_P E.1 vwCl [(aO, o3 aLy aLg aDa aKs (nI lst)), (aLy, o0 (nI n) aK aX aY aF aS aL), (aX, ia E nI 16 xs), (aY, ia E nI 16 ys)] H := hP
                have hD : va_D A [(aO, o3 aLy aLg aDa aKs (nI lst)), (aLy, o0 (nI n) aK aX aY aF aS aL), (aX, ia E nI 16 xs), (aY, ia E nI 16 ys)] := hD
                have q_12 : nI (rp (cfB xs ys lst i_3) (i_8) (rp (cfP xs ys lst) (i_3) 0)) = nI (rp (cfB xs ys lst i_3) (i_8 + 1) (rp (cfP xs ys lst) (i_3) 0)) := by first | rfl | (congr 1; omega) | (simp only [rp_s, cfP, cfB, if_true, if_false, Nat.add_zero, c_4, c_9, c_11, hd9, if_true]; done) | (simp [rp_s, cfP, cfB, if_true, if_false, Nat.add_zero, c_4, c_9, c_11, hd9]; done)
                rw [q_12] at hl
                have hl : lv_has ls 4 [(0, .ref aO), (1, .int (nI (rp (cfB xs ys lst i_3) (i_8 + 1) (rp (cfP xs ys lst) (i_3) 0)))), (2, .int (nI i_3)), (3, .int (nI (i_8 + 1)))] := lv_sub hl [1, 2, 3, 0] rfl
                exact ih_7 (i_8 + 1) (by omega) (by omega) _ _ hP hD hS _ hl
              · skip
                have c_11 : ¬ (lst ≤ (dst xs ys i_3 i_8)) := fun h => c_11 ((ci_ge (by omega) (by omega)).mpr h)
                have hd9 : dst xs ys i_3 i_8 < lst := by omega
                refine lv_iinc (v := nI ((rp (cfB xs ys lst i_3) (i_8) (rp (cfP xs ys lst) (i_3) 0)) + 1)) (lv' := [(1, .int (nI ((rp (cfB xs ys lst i_3) (i_8) (rp (cfP xs ys lst) (i_3) 0)) + 1))), (0, .ref aO), (2, .int (nI i_3)), (3, .int (nI i_8))]) hx hb dX3_conflicts_38 hl (k := 1) rfl (nI_add (rp (cfB xs ys lst i_3) (i_8) (rp (cfP xs ys lst) (i_3) 0)) 1) (by decide) rfl (fun ls hl => ?_)
                refine lv_iinc (v := nI (i_8 + 1)) (lv' := [(3, .int (nI (i_8 + 1))), (1, .int (nI ((rp (cfB xs ys lst i_3) (i_8) (rp (cfP xs ys lst) (i_3) 0)) + 1))), (0, .ref aO), (2, .int (nI i_3))]) hx hb dX3_conflicts_41 hl (k := 3) rfl (nI_add i_8 1) (by decide) rfl (fun ls hl => ?_)
                refine lv_goto (tgt := 17) hx hb dX3_conflicts_44 (by decide) ?_
                have hP : va_P E.1 vwCl [(aO, o3 aLy aLg aDa aKs (nI lst)), (aLy, o0 (nI n) aK aX aY aF aS aL), (aX, ia E nI 16 xs), (aY, ia E nI 16 ys)] H := hP
                have hD : va_D A [(aO, o3 aLy aLg aDa aKs (nI lst)), (aLy, o0 (nI n) aK aX aY aF aS aL), (aX, ia E nI 16 xs), (aY, ia E nI 16 ys)] := hD
                have q_13 : nI ((rp (cfB xs ys lst i_3) (i_8) (rp (cfP xs ys lst) (i_3) 0)) + 1) = nI (rp (cfB xs ys lst i_3) (i_8 + 1) (rp (cfP xs ys lst) (i_3) 0)) := by first | rfl | (congr 1; omega) | (simp only [rp_s, cfP, cfB, if_true, if_false, Nat.add_zero, c_4, c_9, c_11, hd9, if_true]; done) | (simp [rp_s, cfP, cfB, if_true, if_false, Nat.add_zero, c_4, c_9, c_11, hd9]; done)
                rw [q_13] at hl
                have hl : lv_has ls 4 [(0, .ref aO), (1, .int (nI (rp (cfB xs ys lst i_3) (i_8 + 1) (rp (cfP xs ys lst) (i_3) 0)))), (2, .int (nI i_3)), (3, .int (nI (i_8 + 1)))] := lv_sub hl [2, 1, 3, 0] rfl
                exact ih_7 (i_8 + 1) (by omega) (by omega) _ _ hP hD hS _ hl
        have hP : va_P E.1 vwCl [(aO, o3 aLy aLg aDa aKs (nI lst)), (aLy, o0 (nI n) aK aX aY aF aS aL), (aX, ia E nI 16 xs), (aY, ia E nI 16 ys)] H := hP
        have hD : va_D A [(aO, o3 aLy aLg aDa aKs (nI lst)), (aLy, o0 (nI n) aK aX aY aF aS aL), (aX, ia E nI 16 xs), (aY, ia E nI 16 ys)] := hD
        have q_14 : nI (rp (cfP xs ys lst) (i_3) 0) = nI (rp (cfB xs ys lst i_3) (0) (rp (cfP xs ys lst) (i_3) 0)) := by first | rfl | (congr 1; omega) | (simp only [rp_s, cfP, cfB, if_true, if_false, Nat.add_zero, c_4, if_true]; done) | (simp [rp_s, cfP, cfB, if_true, if_false, Nat.add_zero, c_4]; done)
        rw [q_14] at hl
        have hl : lv_has ls 4 [(0, .ref aO), (1, .int (nI (rp (cfB xs ys lst i_3) (0) (rp (cfP xs ys lst) (i_3) 0)))), (2, .int (nI i_3)), (3, .int (nI 0))] := lv_sub hl [1, 2, 3, 0] rfl
        exact LP_6 (i_3 + 1) 0 (by omega) (by omega) _ _ hP hD hS _ hl
  have hP : va_P E.1 vwCl [(aO, o3 aLy aLg aDa aKs (nI lst)), (aLy, o0 (nI n) aK aX aY aF aS aL), (aX, ia E nI 16 xs), (aY, ia E nI 16 ys)] H := hP
  have hD : va_D A [(aO, o3 aLy aLg aDa aKs (nI lst)), (aLy, o0 (nI n) aK aX aY aF aS aL), (aX, ia E nI 16 xs), (aY, ia E nI 16 ys)] := hD
  have q_15 : nI 0 = nI (rp (cfP xs ys lst) (0) 0) := by first | rfl | (congr 1; omega) | (simp only [rp_s, cfP, cfB, if_true, if_false, Nat.add_zero, if_true]; done) | (simp [rp_s, cfP, cfB, if_true, if_false, Nat.add_zero]; done)
  rw [q_15] at hl
  have hl : lv_has ls 4 [(0, .ref aO), (1, .int (nI (rp (cfP xs ys lst) (0) 0))), (2, .int (nI 0))] := lv_sub hl [2, 1, 0] rfl
  exact LP_1 (n + 1) 0 (by omega) (by omega) _ _ hP hD hS _ hl
