def ofK (w k s c v h l : Nat) : Int32 := if w = 0 then nI k else if w = 1 then nI s else if w = 2 then (if k = 3 then nI c else -1) else if w = 3 then (if k = 3 then nI v else nI 0) else if w = 4 then cL h else nI l

set_option maxHeartbeats 4000000 in
set_option maxRecDepth 100000 in
theorem c_ofPart (l : Launch) (E : EnvT) (sz : Nat) (xp xw : Int32) (aO aDa lst : Nat) (aLy aK aX aY aF aS aL n : Nat) (aLi aC aG aU aR aN aW o tk : Nat) (em lo lk de : Int64) (aLk aCh aLo aDi aDk aBe : Nat) (kd fi se wa chn los : Nat → Nat) (h : ofpC n xp xw = 0) (hn : n ≤ 16) (hk : ∀ j, j < n → kd j ≤ 5) (hf : ∀ j, j < n → fi j ≤ 8) (ho : o ≤ 16) (hw : ∀ j, j < 16 → wa j ≤ 20000) : MI l yX3_ofPart wsX3_ofPart ({ frames := 2, cells := 0, slots := 0, locals := 43 }) E sz [.ref aO, .int xp, .int xw] [(aO, o3 aLy aLi aDa aLk (nI lst)), (aLi, o1 aLy aC aG aU aR aN aW (cO o) (nI tk) em lo lk de), (aLk, o2 aLy aLi aCh aLo aDi aDk aBe), (aLy, o0 (nI n) aK aX aY aF aS aL), (aK, ia E nI 16 kd), (aF, ia E nI 16 fi), (aS, ia E nI 16 se), (aW, ia E nI 16 wa), (aCh, ia E cL 16 chn), (aLo, ia E nI 16 los)] (fun (r : Int32) (_ : Unit) => r = ofK (tN xw) (kd (tN xp)) (se (tN xp)) (cnt fi wa o (tN xp)) (wa (tN xp)) (chn (tN xp)) (los (tN xp))) (fun _ => [(aO, o3 aLy aLi aDa aLk (nI lst)), (aLi, o1 aLy aC aG aU aR aN aW (cO o) (nI tk) em lo lk de), (aLk, o2 aLy aLi aCh aLo aDi aDk aBe), (aLy, o0 (nI n) aK aX aY aF aS aL), (aK, ia E nI 16 kd), (aF, ia E nI 16 fi), (aS, ia E nI 16 se), (aW, ia E nI 16 wa), (aCh, ia E cL 16 chn), (aLo, ia E nI 16 los)]) := by
  refine enI (cc := cX3_ofPart) (maxL := 4) (ret := .int) (by decide +kernel) rfl (Nat.le_of_ble_eq_true rfl) ?_
  intro p e s m below meth c A ls hx hb hr hml hts hown hlocks hAe C0 hP hD hS hl
  have hown : s.vm.findClass RX3 = some m.cls := hown
  have hl : lv_has ls 4 [(0, .ref aO), (1, .int xp), (2, .int xw)] := hl
  have iX0 : ∀ w ∈ u_ws RX0 TX0 7, w ∈ wsX3_ofPart := by decide +kernel
  have iX1 : ∀ w ∈ u_ws RX1 TX1 13, w ∈ wsX3_ofPart := by decide +kernel
  have iX2 : ∀ w ∈ u_ws RX2 TX2 7, w ∈ wsX3_ofPart := by decide +kernel
  have iX3 : ∀ w ∈ u_ws RX3 TX3 5, w ∈ wsX3_ofPart := by decide +kernel
  obtain ⟨H, hHe⟩ : ∃ z, z = s.heap := ⟨_, rfl⟩
  obtain ⟨locs, hLe⟩ : ∃ z : List Loc, z = [] := ⟨_, rfl⟩
  have hP : va_P E.1 vwCl [(aO, o3 aLy aLi aDa aLk (nI lst)), (aLi, o1 aLy aC aG aU aR aN aW (cO o) (nI tk) em lo lk de), (aLk, o2 aLy aLi aCh aLo aDi aDk aBe), (aLy, o0 (nI n) aK aX aY aF aS aL), (aK, ia E nI 16 kd), (aF, ia E nI 16 fi), (aS, ia E nI 16 se), (aW, ia E nI 16 wa), (aCh, ia E cL 16 chn), (aLo, ia E nI 16 los)] H := by rw [hHe]; exact hP
  have hD : va_D A [(aO, o3 aLy aLi aDa aLk (nI lst)), (aLi, o1 aLy aC aG aU aR aN aW (cO o) (nI tk) em lo lk de), (aLk, o2 aLy aLi aCh aLo aDi aDk aBe), (aLy, o0 (nI n) aK aX aY aF aS aL), (aK, ia E nI 16 kd), (aF, ia E nI 16 fi), (aS, ia E nI 16 se), (aW, ia E nI 16 wa), (aCh, ia E cL 16 chn), (aLo, ia E nI 16 los)] := hD
  have hS : va_S A s.heap H locs := by rw [hHe, hLe]; exact hS
  suffices hgo : W p l e _ s m _ below meth c H locs 0 0 _ (F0 m 0 ls []) by rw [hHe, hLe] at hgo; exact hgo
  clear hHe hLe
  obtain ⟨hP9, hW9⟩ := ofpC_0 h
  have htn := cL_le (by omega) hP9
  have hkk := hk _ htn
  have hw5 := tN_le (by omega) hW9.2
  refine lv_aload_n hx hb dX3_ofPart_0 rfl (lv_at hl 0 rfl) ?_
  refine lv_iload_n hx hb dX3_ofPart_1 rfl (lv_at hl 1 rfl) ?_
  have hPc := hP.pick (ws' := [(aO, o3 aLy aLi aDa aLk (nI lst)), (aLy, o0 (nI n) aK aX aY aF aS aL)]) [0, 3] rfl
  have hDc := hD.sub (ws' := [(aO, o3 aLy aLi aDa aLk (nI lst)), (aLy, o0 (nI n) aK aX aY aF aS aL)]) [0, 3] (by decide) rfl
  refine kcV (wr := [(aLi, o1 aLy aC aG aU aR aN aW (cO o) (nI tk) em lo lk de), (aLk, o2 aLy aLi aCh aLo aDi aDk aBe), (aK, ia E nI 16 kd), (aF, ia E nI 16 fi), (aS, ia E nI 16 se), (aW, ia E nI 16 wa), (aCh, ia E cL 16 chn), (aLo, ia E nI 16 los)]) (w1 := fun _ : Unit => [(aO, o3 aLy aLi aDa aLk (nI lst)), (aLy, o0 (nI n) aK aX aY aF aS aL)]) (w2 := fun _ => [(aO, o3 aLy aLi aDa aLk (nI lst)), (aLi, o1 aLy aC aG aU aR aN aW (cO o) (nI tk) em lo lk de), (aLk, o2 aLy aLi aCh aLo aDi aDk aBe), (aLy, o0 (nI n) aK aX aY aF aS aL), (aK, ia E nI 16 kd), (aF, ia E nI 16 fi), (aS, ia E nI 16 se), (aW, ia E nI 16 wa), (aCh, ia E cL 16 chn), (aLo, ia E nI 16 los)]) (va_runV (As := [.int xp]) (rest := []) ⟨hx, hb, hml, hown, hts⟩ (c_needPart l E H.size xp aO aLi aDa aLk lst aLy aK aX aY aF aS aL n hP9 (hn)) (cwV 1 hts gX3_ofPart_X3_needPart rfl rfl rfl (by decide +kernel) ⟨Nat.le_of_ble_eq_true rfl, Nat.le_of_ble_eq_true rfl⟩) (preV C0 hPc hDc hS 0 rfl rfl) rfl rfl hl.1 rfl (lv_room (Nat.le_of_ble_eq_true rfl)) dX3_ofPart_2 ⟨Nat.le_refl _, Nat.le_refl _⟩) C0 hP hD hS [0, 3] [1, 2, 4, 5, 6, 7, 8, 9] [8, 0, 1, 9, 2, 3, 4, 5, 6, 7] rfl rfl (by decide) (by decide) (fun _ => rfl) (by decide) (fun _u H locs _hw hP hD hS => ?_)
  have hP : va_P E.1 vwCl [(aO, o3 aLy aLi aDa aLk (nI lst)), (aLi, o1 aLy aC aG aU aR aN aW (cO o) (nI tk) em lo lk de), (aLk, o2 aLy aLi aCh aLo aDi aDk aBe), (aLy, o0 (nI n) aK aX aY aF aS aL), (aK, ia E nI 16 kd), (aF, ia E nI 16 fi), (aS, ia E nI 16 se), (aW, ia E nI 16 wa), (aCh, ia E cL 16 chn), (aLo, ia E nI 16 los)] H := hP
  have hD : va_D A [(aO, o3 aLy aLi aDa aLk (nI lst)), (aLi, o1 aLy aC aG aU aR aN aW (cO o) (nI tk) em lo lk de), (aLk, o2 aLy aLi aCh aLo aDi aDk aBe), (aLy, o0 (nI n) aK aX aY aF aS aL), (aK, ia E nI 16 kd), (aF, ia E nI 16 fi), (aS, ia E nI 16 se), (aW, ia E nI 16 wa), (aCh, ia E cL 16 chn), (aLo, ia E nI 16 los)] := hD
  refine lv_iload_n hx hb dX3_ofPart_5 rfl (lv_at hl 2 rfl) ?_
  refine lv_iconst (v := nI 0) hx hb dX3_ofPart_6 (by decide) ?_
  refine lv_iconst (v := nI 5) hx hb dX3_ofPart_7 (by decide) ?_
  have hPc := hP.pick (ws' := []) [] rfl
  have hDc := hD.sub (ws' := []) [] (by decide) rfl
  refine kcV (wr := [(aO, o3 aLy aLi aDa aLk (nI lst)), (aLi, o1 aLy aC aG aU aR aN aW (cO o) (nI tk) em lo lk de), (aLk, o2 aLy aLi aCh aLo aDi aDk aBe), (aLy, o0 (nI n) aK aX aY aF aS aL), (aK, ia E nI 16 kd), (aF, ia E nI 16 fi), (aS, ia E nI 16 se), (aW, ia E nI 16 wa), (aCh, ia E cL 16 chn), (aLo, ia E nI 16 los)]) (w1 := fun _ : Unit => []) (w2 := fun _ => [(aO, o3 aLy aLi aDa aLk (nI lst)), (aLi, o1 aLy aC aG aU aR aN aW (cO o) (nI tk) em lo lk de), (aLk, o2 aLy aLi aCh aLo aDi aDk aBe), (aLy, o0 (nI n) aK aX aY aF aS aL), (aK, ia E nI 16 kd), (aF, ia E nI 16 fi), (aS, ia E nI 16 se), (aW, ia E nI 16 wa), (aCh, ia E cL 16 chn), (aLo, ia E nI 16 los)]) (va_runS (As := [.int xw, .int (nI 0), .int (nI 5)]) (rest := []) ⟨hx, hb, hml, hown, hts⟩ (c_needRange l E H.size xw (nI 0) (nI 5) hW9) (va_cwS 3 hts gX3_ofPart_X3_needRange rfl rfl rfl (by decide +kernel) ⟨Nat.le_of_ble_eq_true rfl, Nat.le_of_ble_eq_true rfl⟩) (preS C0 hPc hDc hS) rfl rfl hl.1 rfl (lv_room (Nat.le_of_ble_eq_true rfl)) dX3_ofPart_8 ⟨Nat.le_refl _, Nat.le_refl _⟩) C0 hP hD hS [] [0, 1, 2, 3, 4, 5, 6, 7, 8, 9] [0, 1, 2, 3, 4, 5, 6, 7, 8, 9] rfl rfl (by decide) (by decide) (fun _ => rfl) (by decide) (fun _u H locs _hw hP hD hS => ?_)
  have hP : va_P E.1 vwCl [(aO, o3 aLy aLi aDa aLk (nI lst)), (aLi, o1 aLy aC aG aU aR aN aW (cO o) (nI tk) em lo lk de), (aLk, o2 aLy aLi aCh aLo aDi aDk aBe), (aLy, o0 (nI n) aK aX aY aF aS aL), (aK, ia E nI 16 kd), (aF, ia E nI 16 fi), (aS, ia E nI 16 se), (aW, ia E nI 16 wa), (aCh, ia E cL 16 chn), (aLo, ia E nI 16 los)] H := hP
  have hD : va_D A [(aO, o3 aLy aLi aDa aLk (nI lst)), (aLi, o1 aLy aC aG aU aR aN aW (cO o) (nI tk) em lo lk de), (aLk, o2 aLy aLi aCh aLo aDi aDk aBe), (aLy, o0 (nI n) aK aX aY aF aS aL), (aK, ia E nI 16 kd), (aF, ia E nI 16 fi), (aS, ia E nI 16 se), (aW, ia E nI 16 wa), (aCh, ia E cL 16 chn), (aLo, ia E nI 16 los)] := hD
  have JN_1 : ∀ (bz : Nat), (bz = 1 ↔ kd (tN xp) = 3) ∧ bz ≤ 1 → ∀ (H : Heap) (locs : List Loc), va_P E.1 vwCl [(aO, o3 aLy aLi aDa aLk (nI lst)), (aLi, o1 aLy aC aG aU aR aN aW (cO o) (nI tk) em lo lk de), (aLk, o2 aLy aLi aCh aLo aDi aDk aBe), (aLy, o0 (nI n) aK aX aY aF aS aL), (aK, ia E nI 16 kd), (aF, ia E nI 16 fi), (aS, ia E nI 16 se), (aW, ia E nI 16 wa), (aCh, ia E cL 16 chn), (aLo, ia E nI 16 los)] H → va_D A [(aO, o3 aLy aLi aDa aLk (nI lst)), (aLi, o1 aLy aC aG aU aR aN aW (cO o) (nI tk) em lo lk de), (aLk, o2 aLy aLi aCh aLo aDi aDk aBe), (aLy, o0 (nI n) aK aX aY aF aS aL), (aK, ia E nI 16 kd), (aF, ia E nI 16 fi), (aS, ia E nI 16 se), (aW, ia E nI 16 wa), (aCh, ia E cL 16 chn), (aLo, ia E nI 16 los)] → va_S A s.heap H locs → ∀ (ls : Array Slot), lv_has ls 4 [(0, .ref aO), (1, .int xp), (2, .int xw)] → W p l e ({ frames := 2, cells := 0, slots := 0, locals := 43 }) s m (([.ref aO, .int xp, .int xw] : List Value).toArray) below meth c H locs 0 0 (MQ below (va_Qi (fun (r : Int32) (_ : Unit) => r = ofK (tN xw) (kd (tN xp)) (se (tN xp)) (cnt fi wa o (tN xp)) (wa (tN xp)) (chn (tN xp)) (los (tN xp))) (Wd E [(aO, o3 aLy aLi aDa aLk (nI lst)), (aLi, o1 aLy aC aG aU aR aN aW (cO o) (nI tk) em lo lk de), (aLk, o2 aLy aLi aCh aLo aDi aDk aBe), (aLy, o0 (nI n) aK aX aY aF aS aL), (aK, ia E nI 16 kd), (aF, ia E nI 16 fi), (aS, ia E nI 16 se), (aW, ia E nI 16 wa), (aCh, ia E cL 16 chn), (aLo, ia E nI 16 los)] s.heap.size (fun _ => [(aO, o3 aLy aLi aDa aLk (nI lst)), (aLi, o1 aLy aC aG aU aR aN aW (cO o) (nI tk) em lo lk de), (aLk, o2 aLy aLi aCh aLo aDi aDk aBe), (aLy, o0 (nI n) aK aX aY aF aS aL), (aK, ia E nI 16 kd), (aF, ia E nI 16 fi), (aS, ia E nI 16 se), (aW, ia E nI 16 wa), (aCh, ia E cL 16 chn), (aLo, ia E nI 16 los)])) A) (([.ref aO, .int xp, .int xw] : List Value).toArray) s 0 0 A) (F0 m 29 ls [.int (nI bz)]) := by
    intro bz  hbz H locs hP hD hS ls hl
    rw [show xw = nI (tN xw) from tN_eq hW9] at hl
    refine lv_istore_n (lv' := [(3, .int (nI bz)), (0, .ref aO), (1, .int xp), (2, .int (nI (tN xw)))]) hx hb dX3_ofPart_29 rfl hl (by decide) rfl (fun ls hl => ?_)
    refine lv_iload_n hx hb dX3_ofPart_30 rfl (lv_at hl 3 rfl) ?_
    have w_2 : tN xw = 0 ∨ tN xw = 1 ∨ tN xw = 2 ∨ tN xw = 3 ∨ tN xw = 4 ∨ 4 < tN xw := by omega
    rcases w_2 with w_2 | w_2 | w_2 | w_2 | w_2 | w_2
    · skip
      refine lv_tableIn (tgt := 64) (off := 33) hx hb dX3_ofPart_31 (by rw [nI_toInt (by omega)]; omega) (by rw [nI_toInt (by omega)]; omega) (by rw [nI_toInt (by omega), w_2]; rfl) (by decide) ?_
      refine lv_aload_n hx hb dX3_ofPart_64 rfl (lv_at hl 1 rfl) ?_
      refine va_get (D := E.1) (ci := 3) (v := .ref aLy) (C := RX3) (T := TX3) (N := 5) hx hb hts iX3 hown C0.1 hP 0 rfl rfl 0 (by decide) (hts (.fieldLink RX3 10 "Ringresonance" "layout" "LRingresonance$Layout;") (by decide +kernel)) (fun _ h9 => h9) rfl dX3_ofPart_65 ?_
      refine va_get (D := E.1) (ci := 0) (v := .ref aK) (C := RX0) (T := TX0) (N := 7) hx hb hts iX0 hown C0.1 hP 3 rfl rfl 1 (by decide) (hts (.fieldLink RX3 77 "Ringresonance$Layout" "kinds" "[I") (by decide +kernel)) (fun _ h9 => h9) rfl dX3_ofPart_68 ?_
      refine lv_iload_n hx hb dX3_ofPart_71 rfl (lv_at hl 2 rfl) ?_
      refine lv_ri (y := (nI (tN xp))) (tN_eq hP9) ?_
      refine k_iald (e := (tN xp)) (g := nI) (n := 16) hx hb C0 hP 4 rfl (by omega) (by omega) dX3_ofPart_72 ?_
      have q_3 : (nI (kd (tN xp))) = (ofK (tN xw) (kd (tN xp)) (se (tN xp)) (cnt fi wa o (tN xp)) (wa (tN xp)) (chn (tN xp)) (los (tN xp))) := by symm; simp [ofK, w_2]
      exact exI hx hb hr hlocks hAe hS () q_3 hP hD dX3_ofPart_73
    · skip
      refine lv_tableIn (tgt := 74) (off := 43) hx hb dX3_ofPart_31 (by rw [nI_toInt (by omega)]; omega) (by rw [nI_toInt (by omega)]; omega) (by rw [nI_toInt (by omega), w_2]; rfl) (by decide) ?_
      refine lv_aload_n hx hb dX3_ofPart_74 rfl (lv_at hl 1 rfl) ?_
      refine va_get (D := E.1) (ci := 3) (v := .ref aLy) (C := RX3) (T := TX3) (N := 5) hx hb hts iX3 hown C0.1 hP 0 rfl rfl 0 (by decide) (hts (.fieldLink RX3 10 "Ringresonance" "layout" "LRingresonance$Layout;") (by decide +kernel)) (fun _ h9 => h9) rfl dX3_ofPart_75 ?_
      refine va_get (D := E.1) (ci := 0) (v := .ref aS) (C := RX0) (T := TX0) (N := 7) hx hb hts iX0 hown C0.1 hP 3 rfl rfl 5 (by decide) (hts (.fieldLink RX3 80 "Ringresonance$Layout" "seconds" "[I") (by decide +kernel)) (fun _ h9 => h9) rfl dX3_ofPart_78 ?_
      refine lv_iload_n hx hb dX3_ofPart_81 rfl (lv_at hl 2 rfl) ?_
      refine lv_ri (y := (nI (tN xp))) (tN_eq hP9) ?_
      refine k_iald (e := (tN xp)) (g := nI) (n := 16) hx hb C0 hP 6 rfl (by omega) (by omega) dX3_ofPart_82 ?_
      have q_4 : (nI (se (tN xp))) = (ofK (tN xw) (kd (tN xp)) (se (tN xp)) (cnt fi wa o (tN xp)) (wa (tN xp)) (chn (tN xp)) (los (tN xp))) := by symm; simp [ofK, w_2]
      exact exI hx hb hr hlocks hAe hS () q_4 hP hD dX3_ofPart_83
    · skip
      refine lv_tableIn (tgt := 84) (off := 53) hx hb dX3_ofPart_31 (by rw [nI_toInt (by omega)]; omega) (by rw [nI_toInt (by omega)]; omega) (by rw [nI_toInt (by omega), w_2]; rfl) (by decide) ?_
      refine lv_iload_n hx hb dX3_ofPart_84 rfl (lv_at hl 0 rfl) ?_
      refine lv_if_eq (tgt := 99) hx hb dX3_ofPart_85 (by decide) (fun c_5 => ?_) (fun c_5 => ?_)
      · skip
        have c_5 : bz = 0 := (ci0_eq (by omega)).mp c_5
        have hk9 : ¬ kd (tN xp) = 3 := by omega
        refine lv_iconst (v := -1) hx hb dX3_ofPart_99 (by decide) ?_
        have q_6 : (-1) = (ofK (tN xw) (kd (tN xp)) (se (tN xp)) (cnt fi wa o (tN xp)) (wa (tN xp)) (chn (tN xp)) (los (tN xp))) := by symm; simp [ofK, cnt, w_2, c_5, hk9]
        exact exI hx hb hr hlocks hAe hS () q_6 hP hD dX3_ofPart_100
      · skip
        have c_5 : ¬ (bz = 0) := fun h => c_5 ((ci0_eq (by omega)).mpr h)
        have hk9 : kd (tN xp) = 3 := by omega
        refine lv_aload_n hx hb dX3_ofPart_88 rfl (lv_at hl 1 rfl) ?_
        refine va_get (D := E.1) (ci := 3) (v := .ref aLi) (C := RX3) (T := TX3) (N := 5) hx hb hts iX3 hown C0.1 hP 0 rfl rfl 1 (by decide) (hts (.fieldLink RX3 21 "Ringresonance" "light" "LRingresonance$Light;") (by decide +kernel)) (fun _ h9 => h9) rfl dX3_ofPart_89 ?_
        refine lv_iload_n hx hb dX3_ofPart_92 rfl (lv_at hl 2 rfl) ?_
        refine lv_ri (y := (nI (tN xp))) (tN_eq hP9) ?_
        have hPc := hP.pick (ws' := [(aLi, o1 aLy aC aG aU aR aN aW (cO o) (nI tk) em lo lk de), (aLy, o0 (nI n) aK aX aY aF aS aL), (aF, ia E nI 16 fi), (aW, ia E nI 16 wa)]) [1, 3, 5, 7] rfl
        have hDc := hD.sub (ws' := [(aLi, o1 aLy aC aG aU aR aN aW (cO o) (nI tk) em lo lk de), (aLy, o0 (nI n) aK aX aY aF aS aL), (aF, ia E nI 16 fi), (aW, ia E nI 16 wa)]) [1, 3, 5, 7] (by decide) rfl
        refine kcI (wr := [(aO, o3 aLy aLi aDa aLk (nI lst)), (aLk, o2 aLy aLi aCh aLo aDi aDk aBe), (aK, ia E nI 16 kd), (aS, ia E nI 16 se), (aCh, ia E cL 16 chn), (aLo, ia E nI 16 los)]) (w1 := fun _ : Unit => [(aLi, o1 aLy aC aG aU aR aN aW (cO o) (nI tk) em lo lk de), (aLy, o0 (nI n) aK aX aY aF aS aL), (aF, ia E nI 16 fi), (aW, ia E nI 16 wa)]) (w2 := fun _ => [(aO, o3 aLy aLi aDa aLk (nI lst)), (aLi, o1 aLy aC aG aU aR aN aW (cO o) (nI tk) em lo lk de), (aLk, o2 aLy aLi aCh aLo aDi aDk aBe), (aLy, o0 (nI n) aK aX aY aF aS aL), (aK, ia E nI 16 kd), (aF, ia E nI 16 fi), (aS, ia E nI 16 se), (aW, ia E nI 16 wa), (aCh, ia E cL 16 chn), (aLo, ia E nI 16 los)]) (va_runV (As := [.int (nI (tN xp))]) (rest := []) ⟨hx, hb, hml, hown, hts⟩ (c_center l E H.size (tN xp) aLy aK aX aY aF aS aL n aLi aC aG aU aR aN aW o tk em lo lk de fi wa (by omega) (by have := hf _ htn; have := hw (tN xp) (by omega); omega)) (cwV 1 hts gX3_ofPart_X1_center rfl rfl rfl (by decide +kernel) ⟨Nat.le_of_ble_eq_true rfl, Nat.le_of_ble_eq_true rfl⟩) (preV C0 hPc hDc hS 0 rfl rfl) rfl rfl hl.1 rfl (lv_room (Nat.le_of_ble_eq_true rfl)) dX3_ofPart_93 ⟨Nat.le_refl _, Nat.le_refl _⟩) C0 hP hD hS [1, 3, 5, 7] [0, 2, 4, 6, 8, 9] [0, 6, 1, 7, 2, 8, 3, 9, 4, 5] rfl rfl (by decide) (by decide) (fun _ => rfl) (by decide) (fun r_9 _u H locs hw hP hD hS => ?_)
        have hP : va_P E.1 vwCl [(aO, o3 aLy aLi aDa aLk (nI lst)), (aLi, o1 aLy aC aG aU aR aN aW (cO o) (nI tk) em lo lk de), (aLk, o2 aLy aLi aCh aLo aDi aDk aBe), (aLy, o0 (nI n) aK aX aY aF aS aL), (aK, ia E nI 16 kd), (aF, ia E nI 16 fi), (aS, ia E nI 16 se), (aW, ia E nI 16 wa), (aCh, ia E cL 16 chn), (aLo, ia E nI 16 los)] H := hP
        have hD : va_D A [(aO, o3 aLy aLi aDa aLk (nI lst)), (aLi, o1 aLy aC aG aU aR aN aW (cO o) (nI tk) em lo lk de), (aLk, o2 aLy aLi aCh aLo aDi aDk aBe), (aLy, o0 (nI n) aK aX aY aF aS aL), (aK, ia E nI 16 kd), (aF, ia E nI 16 fi), (aS, ia E nI 16 se), (aW, ia E nI 16 wa), (aCh, ia E cL 16 chn), (aLo, ia E nI 16 los)] := hD
        have hw : r_9 = nI ((fi (tN xp) + o + wa (tN xp) / 16) % 8) := hw
        subst hw
        refine lv_goto (tgt := 100) hx hb dX3_ofPart_96 (by decide) ?_
        have q_7 : (nI ((fi (tN xp) + o + wa (tN xp) / 16) % 8)) = (ofK (tN xw) (kd (tN xp)) (se (tN xp)) (cnt fi wa o (tN xp)) (wa (tN xp)) (chn (tN xp)) (los (tN xp))) := by symm; simp [ofK, cnt, w_2, c_5, hk9]
        exact exI hx hb hr hlocks hAe hS () q_7 hP hD dX3_ofPart_100
    · skip
      refine lv_tableIn (tgt := 101) (off := 70) hx hb dX3_ofPart_31 (by rw [nI_toInt (by omega)]; omega) (by rw [nI_toInt (by omega)]; omega) (by rw [nI_toInt (by omega), w_2]; rfl) (by decide) ?_
      refine lv_iload_n hx hb dX3_ofPart_101 rfl (lv_at hl 0 rfl) ?_
      refine lv_if_eq (tgt := 117) hx hb dX3_ofPart_102 (by decide) (fun c_8 => ?_) (fun c_8 => ?_)
      · skip
        have c_8 : bz = 0 := (ci0_eq (by omega)).mp c_8
        have hk9 : ¬ kd (tN xp) = 3 := by omega
        refine lv_iconst (v := nI 0) hx hb dX3_ofPart_117 (by decide) ?_
        have q_9 : (nI 0) = (ofK (tN xw) (kd (tN xp)) (se (tN xp)) (cnt fi wa o (tN xp)) (wa (tN xp)) (chn (tN xp)) (los (tN xp))) := by symm; simp [ofK, w_2, c_8, hk9]
        exact exI hx hb hr hlocks hAe hS () q_9 hP hD dX3_ofPart_118
      · skip
        have c_8 : ¬ (bz = 0) := fun h => c_8 ((ci0_eq (by omega)).mpr h)
        have hk9 : kd (tN xp) = 3 := by omega
        refine lv_aload_n hx hb dX3_ofPart_105 rfl (lv_at hl 1 rfl) ?_
        refine va_get (D := E.1) (ci := 3) (v := .ref aLi) (C := RX3) (T := TX3) (N := 5) hx hb hts iX3 hown C0.1 hP 0 rfl rfl 1 (by decide) (hts (.fieldLink RX3 21 "Ringresonance" "light" "LRingresonance$Light;") (by decide +kernel)) (fun _ h9 => h9) rfl dX3_ofPart_106 ?_
        refine va_get (D := E.1) (ci := 1) (v := .ref aW) (C := RX1) (T := TX1) (N := 13) hx hb hts iX1 hown C0.1 hP 1 rfl rfl 6 (by decide) (hts (.fieldLink RX3 142 "Ringresonance$Light" "warmths" "[I") (by decide +kernel)) (fun _ h9 => h9) rfl dX3_ofPart_109 ?_
        refine lv_iload_n hx hb dX3_ofPart_112 rfl (lv_at hl 2 rfl) ?_
        refine lv_ri (y := (nI (tN xp))) (tN_eq hP9) ?_
        refine k_iald (e := (tN xp)) (g := nI) (n := 16) hx hb C0 hP 7 rfl (by omega) (by omega) dX3_ofPart_113 ?_
        refine lv_goto (tgt := 118) hx hb dX3_ofPart_114 (by decide) ?_
        have q_10 : (nI (wa (tN xp))) = (ofK (tN xw) (kd (tN xp)) (se (tN xp)) (cnt fi wa o (tN xp)) (wa (tN xp)) (chn (tN xp)) (los (tN xp))) := by symm; simp [ofK, w_2, c_8, hk9]
        exact exI hx hb hr hlocks hAe hS () q_10 hP hD dX3_ofPart_118
    · skip
      refine lv_tableIn (tgt := 119) (off := 88) hx hb dX3_ofPart_31 (by rw [nI_toInt (by omega)]; omega) (by rw [nI_toInt (by omega)]; omega) (by rw [nI_toInt (by omega), w_2]; rfl) (by decide) ?_
      refine lv_aload_n hx hb dX3_ofPart_119 rfl (lv_at hl 1 rfl) ?_
      refine va_get (D := E.1) (ci := 3) (v := .ref aLk) (C := RX3) (T := TX3) (N := 5) hx hb hts iX3 hown C0.1 hP 0 rfl rfl 3 (by decide) (hts (.fieldLink RX3 33 "Ringresonance" "locks" "LRingresonance$Locks;") (by decide +kernel)) (fun _ h9 => h9) rfl dX3_ofPart_120 ?_
      refine va_get (D := E.1) (ci := 2) (v := .ref aCh) (C := RX2) (T := TX2) (N := 7) hx hb hts iX2 hown C0.1 hP 2 rfl rfl 2 (by decide) (hts (.fieldLink RX3 106 "Ringresonance$Locks" "channels" "[I") (by decide +kernel)) (fun _ h9 => h9) rfl dX3_ofPart_123 ?_
      refine lv_iload_n hx hb dX3_ofPart_126 rfl (lv_at hl 2 rfl) ?_
      refine lv_ri (y := (nI (tN xp))) (tN_eq hP9) ?_
      refine k_iald (e := (tN xp)) (g := cL) (n := 16) hx hb C0 hP 8 rfl (by omega) (by omega) dX3_ofPart_127 ?_
      have q_11 : (cL (chn (tN xp))) = (ofK (tN xw) (kd (tN xp)) (se (tN xp)) (cnt fi wa o (tN xp)) (wa (tN xp)) (chn (tN xp)) (los (tN xp))) := by symm; simp [ofK, w_2]
      exact exI hx hb hr hlocks hAe hS () q_11 hP hD dX3_ofPart_128
    · skip
      refine lv_tableOut (tgt := 129) hx hb dX3_ofPart_31 (Or.inr (by rw [nI_toInt (by omega)]; omega)) (by decide) ?_
      refine lv_aload_n hx hb dX3_ofPart_129 rfl (lv_at hl 1 rfl) ?_
      refine va_get (D := E.1) (ci := 3) (v := .ref aLk) (C := RX3) (T := TX3) (N := 5) hx hb hts iX3 hown C0.1 hP 0 rfl rfl 3 (by decide) (hts (.fieldLink RX3 33 "Ringresonance" "locks" "LRingresonance$Locks;") (by decide +kernel)) (fun _ h9 => h9) rfl dX3_ofPart_130 ?_
      refine va_get (D := E.1) (ci := 2) (v := .ref aLo) (C := RX2) (T := TX2) (N := 7) hx hb hts iX2 hown C0.1 hP 2 rfl rfl 3 (by decide) (hts (.fieldLink RX3 145 "Ringresonance$Locks" "losts" "[I") (by decide +kernel)) (fun _ h9 => h9) rfl dX3_ofPart_133 ?_
      refine lv_iload_n hx hb dX3_ofPart_136 rfl (lv_at hl 2 rfl) ?_
      refine lv_ri (y := (nI (tN xp))) (tN_eq hP9) ?_
      refine k_iald (e := (tN xp)) (g := nI) (n := 16) hx hb C0 hP 9 rfl (by omega) (by omega) dX3_ofPart_137 ?_
      have q_12 : (nI (los (tN xp))) = (ofK (tN xw) (kd (tN xp)) (se (tN xp)) (cnt fi wa o (tN xp)) (wa (tN xp)) (chn (tN xp)) (los (tN xp))) := by symm; simp [ofK, show tN xw = 5 by omega]
      exact exI hx hb hr hlocks hAe hS () q_12 hP hD dX3_ofPart_138
  refine lv_aload_n hx hb dX3_ofPart_11 rfl (lv_at hl 0 rfl) ?_
  refine va_get (D := E.1) (ci := 3) (v := .ref aLy) (C := RX3) (T := TX3) (N := 5) hx hb hts iX3 hown C0.1 hP 0 rfl rfl 0 (by decide) (hts (.fieldLink RX3 10 "Ringresonance" "layout" "LRingresonance$Layout;") (by decide +kernel)) (fun _ h9 => h9) rfl dX3_ofPart_12 ?_
  refine va_get (D := E.1) (ci := 0) (v := .ref aK) (C := RX0) (T := TX0) (N := 7) hx hb hts iX0 hown C0.1 hP 3 rfl rfl 1 (by decide) (hts (.fieldLink RX3 77 "Ringresonance$Layout" "kinds" "[I") (by decide +kernel)) (fun _ h9 => h9) rfl dX3_ofPart_15 ?_
  refine lv_iload_n hx hb dX3_ofPart_18 rfl (lv_at hl 1 rfl) ?_
  refine lv_ri (y := (nI (tN xp))) (tN_eq hP9) ?_
  refine k_iald (e := (tN xp)) (g := nI) (n := 16) hx hb C0 hP 4 rfl (by omega) (by omega) dX3_ofPart_19 ?_
  refine lv_iconst (v := nI 3) hx hb dX3_ofPart_20 (by decide) ?_
  refine lv_icmp_ne (tgt := 28) hx hb dX3_ofPart_21 (by decide) (fun c_13 => ?_) (fun c_13 => ?_)
  · skip
    have c_13 : ¬ ((kd (tN xp)) = 3) := fun h => c_13 ((ci_eq (by omega) (by omega)).mpr h)
    refine lv_iconst (v := nI 0) hx hb dX3_ofPart_28 (by decide) ?_
    have hl : lv_has ls 4 [(0, .ref aO), (1, .int xp), (2, .int xw)] := lv_sub hl [0, 1, 2] rfl
    exact JN_1 0 (by omega) _ _ hP hD hS _ hl
  · skip
    have c_13 : (kd (tN xp)) = 3 := (ci_eq (by omega) (by omega)).mp c_13
    refine lv_iconst (v := nI 1) hx hb dX3_ofPart_24 (by decide) ?_
    refine lv_goto (tgt := 29) hx hb dX3_ofPart_25 (by decide) ?_
    have hl : lv_has ls 4 [(0, .ref aO), (1, .int xp), (2, .int xw)] := lv_sub hl [0, 1, 2] rfl
    exact JN_1 1 (by omega) _ _ hP hD hS _ hl

set_option maxHeartbeats 4000000 in
set_option maxRecDepth 100000 in
theorem x_ofPart (l : Launch) (E : EnvT) (sz : Nat) (xp xw : Int32) (aO aDa lst : Nat) (aLy aK aX aY aF aS aL n : Nat) (aLi aC aG aU aR aN aW o tk : Nat) (em lo lk de : Int64) (aLk aCh aLo aDi aDk aBe : Nat) (kd fi se wa chn los : Nat → Nat) (h : ¬ (ofpC n xp xw = 0)) (hn : n ≤ 16) (hk : ∀ j, j < n → kd j ≤ 5) (hf : ∀ j, j < n → fi j ≤ 8) (ho : o ≤ 16) (hw : ∀ j, j < 16 → wa j ≤ 20000) (hst : l.stackTraces = false) : MX l yX3_ofPart wsX3_ofPart ({ frames := 7, cells := 1, slots := 6, locals := 104 }) E sz [.ref aO, .int xp, .int xw] [(aO, o3 aLy aLi aDa aLk (nI lst)), (aLi, o1 aLy aC aG aU aR aN aW (cO o) (nI tk) em lo lk de), (aLk, o2 aLy aLi aCh aLo aDi aDk aBe), (aLy, o0 (nI n) aK aX aY aF aS aL), (aK, ia E nI 16 kd), (aF, ia E nI 16 fi), (aS, ia E nI 16 se), (aW, ia E nI 16 wa), (aCh, ia E cL 16 chn), (aLo, ia E nI 16 los)] (xM xI xA xA (ofpC n xp xw)) := by
  refine enX (cc := cX3_ofPart) (maxL := 4) (ret := (some .int)) (by decide +kernel) rfl (Nat.le_of_ble_eq_true rfl) ?_
  intro p e s m below meth c A ls hx hb hr hml hts hown hlocks hAe C0 hP hD hS hl
  have hown : s.vm.findClass RX3 = some m.cls := hown
  have hl : lv_has ls 4 [(0, .ref aO), (1, .int xp), (2, .int xw)] := hl
  obtain ⟨H, hHe⟩ : ∃ z, z = s.heap := ⟨_, rfl⟩
  obtain ⟨locs, hLe⟩ : ∃ z : List Loc, z = [] := ⟨_, rfl⟩
  have hP : va_P E.1 vwCl [(aO, o3 aLy aLi aDa aLk (nI lst)), (aLi, o1 aLy aC aG aU aR aN aW (cO o) (nI tk) em lo lk de), (aLk, o2 aLy aLi aCh aLo aDi aDk aBe), (aLy, o0 (nI n) aK aX aY aF aS aL), (aK, ia E nI 16 kd), (aF, ia E nI 16 fi), (aS, ia E nI 16 se), (aW, ia E nI 16 wa), (aCh, ia E cL 16 chn), (aLo, ia E nI 16 los)] H := by rw [hHe]; exact hP
  have hD : va_D A [(aO, o3 aLy aLi aDa aLk (nI lst)), (aLi, o1 aLy aC aG aU aR aN aW (cO o) (nI tk) em lo lk de), (aLk, o2 aLy aLi aCh aLo aDi aDk aBe), (aLy, o0 (nI n) aK aX aY aF aS aL), (aK, ia E nI 16 kd), (aF, ia E nI 16 fi), (aS, ia E nI 16 se), (aW, ia E nI 16 wa), (aCh, ia E cL 16 chn), (aLo, ia E nI 16 los)] := hD
  have hS : va_S A s.heap H locs := by rw [hHe, hLe]; exact hS
  suffices hgo : W p l e _ s m _ below meth c H locs 0 0 _ (F0 m 0 ls []) by rw [hHe, hLe] at hgo; exact hgo
  clear hHe hLe
  refine lv_aload_n hx hb dX3_ofPart_0 rfl (lv_at hl 0 rfl) ?_
  refine lv_iload_n hx hb dX3_ofPart_1 rfl (lv_at hl 1 rfl) ?_
  by_cases hP9 : nI 0 ≤ xp ∧ xp ≤ cL n
  · skip
    have htn := cL_le (by omega) hP9
    have hkk := hk _ htn
    have hPc := hP.pick (ws' := [(aO, o3 aLy aLi aDa aLk (nI lst)), (aLy, o0 (nI n) aK aX aY aF aS aL)]) [0, 3] rfl
    have hDc := hD.sub (ws' := [(aO, o3 aLy aLi aDa aLk (nI lst)), (aLy, o0 (nI n) aK aX aY aF aS aL)]) [0, 3] (by decide) rfl
    refine kcV (wr := [(aLi, o1 aLy aC aG aU aR aN aW (cO o) (nI tk) em lo lk de), (aLk, o2 aLy aLi aCh aLo aDi aDk aBe), (aK, ia E nI 16 kd), (aF, ia E nI 16 fi), (aS, ia E nI 16 se), (aW, ia E nI 16 wa), (aCh, ia E cL 16 chn), (aLo, ia E nI 16 los)]) (w1 := fun _ : Unit => [(aO, o3 aLy aLi aDa aLk (nI lst)), (aLy, o0 (nI n) aK aX aY aF aS aL)]) (w2 := fun _ => [(aO, o3 aLy aLi aDa aLk (nI lst)), (aLi, o1 aLy aC aG aU aR aN aW (cO o) (nI tk) em lo lk de), (aLk, o2 aLy aLi aCh aLo aDi aDk aBe), (aLy, o0 (nI n) aK aX aY aF aS aL), (aK, ia E nI 16 kd), (aF, ia E nI 16 fi), (aS, ia E nI 16 se), (aW, ia E nI 16 wa), (aCh, ia E cL 16 chn), (aLo, ia E nI 16 los)]) (va_runV (As := [.int xp]) (rest := []) ⟨hx, hb, hml, hown, hts⟩ (c_needPart l E H.size xp aO aLi aDa aLk lst aLy aK aX aY aF aS aL n hP9 (hn)) (cwV 1 hts gX3_ofPart_X3_needPart rfl rfl rfl (by decide +kernel) ⟨Nat.le_of_ble_eq_true rfl, Nat.le_of_ble_eq_true rfl⟩) (preV C0 hPc hDc hS 0 rfl rfl) rfl rfl hl.1 rfl (lv_room (Nat.le_of_ble_eq_true rfl)) dX3_ofPart_2 ⟨Nat.le_of_ble_eq_true rfl, Nat.le_of_ble_eq_true rfl⟩) C0 hP hD hS [0, 3] [1, 2, 4, 5, 6, 7, 8, 9] [8, 0, 1, 9, 2, 3, 4, 5, 6, 7] rfl rfl (by decide) (by decide) (fun _ => rfl) (by decide) (fun _u H locs _hw hP hD hS => ?_)
    have hP : va_P E.1 vwCl [(aO, o3 aLy aLi aDa aLk (nI lst)), (aLi, o1 aLy aC aG aU aR aN aW (cO o) (nI tk) em lo lk de), (aLk, o2 aLy aLi aCh aLo aDi aDk aBe), (aLy, o0 (nI n) aK aX aY aF aS aL), (aK, ia E nI 16 kd), (aF, ia E nI 16 fi), (aS, ia E nI 16 se), (aW, ia E nI 16 wa), (aCh, ia E cL 16 chn), (aLo, ia E nI 16 los)] H := hP
    have hD : va_D A [(aO, o3 aLy aLi aDa aLk (nI lst)), (aLi, o1 aLy aC aG aU aR aN aW (cO o) (nI tk) em lo lk de), (aLk, o2 aLy aLi aCh aLo aDi aDk aBe), (aLy, o0 (nI n) aK aX aY aF aS aL), (aK, ia E nI 16 kd), (aF, ia E nI 16 fi), (aS, ia E nI 16 se), (aW, ia E nI 16 wa), (aCh, ia E cL 16 chn), (aLo, ia E nI 16 los)] := hD
    refine lv_iload_n hx hb dX3_ofPart_5 rfl (lv_at hl 2 rfl) ?_
    refine lv_iconst (v := nI 0) hx hb dX3_ofPart_6 (by decide) ?_
    refine lv_iconst (v := nI 5) hx hb dX3_ofPart_7 (by decide) ?_
    by_cases hW9 : (nI 0) ≤ xw ∧ xw ≤ (nI 5)
    · skip
      exact absurd (show ofpC n xp xw = 0 from (if_pos hP9).trans (if_pos hW9)) h
    · skip
      have hPc := hP.pick (ws' := []) [] rfl
      have hDc := hD.sub (ws' := []) [] (by decide) rfl
      exact kcX (wr := [(aO, o3 aLy aLi aDa aLk (nI lst)), (aLi, o1 aLy aC aG aU aR aN aW (cO o) (nI tk) em lo lk de), (aLk, o2 aLy aLi aCh aLo aDi aDk aBe), (aLy, o0 (nI n) aK aX aY aF aS aL), (aK, ia E nI 16 kd), (aF, ia E nI 16 fi), (aS, ia E nI 16 se), (aW, ia E nI 16 wa), (aCh, ia E cL 16 chn), (aLo, ia E nI 16 los)]) ((congrArg (xM xI xA xA) (show ofpC n xp xw = 2 from (if_pos hP9).trans (if_neg hW9))).trans rfl) (vx_runS (As := [.int xw, .int (nI 0), .int (nI 5)]) (rest := []) ⟨hx, hb, hml, hown, hts⟩ (x_needRange l E H.size xw (nI 0) (nI 5) hW9 hst) (va_cwS 3 hts gX3_ofPart_X3_needRange rfl rfl rfl (by decide +kernel) ⟨Nat.le_of_ble_eq_true rfl, Nat.le_of_ble_eq_true rfl⟩) (preS C0 hPc hDc hS) rfl rfl hl.1 rfl (lv_room (Nat.le_of_ble_eq_true rfl)) dX3_ofPart_8 ⟨Nat.le_of_ble_eq_true rfl, Nat.le_of_ble_eq_true rfl⟩) hr hlocks hAe C0 hP hD hS [] [0, 1, 2, 3, 4, 5, 6, 7, 8, 9] [0, 1, 2, 3, 4, 5, 6, 7, 8, 9] rfl rfl (by decide) (by decide) rfl (by decide)
  · skip
    have hPc := hP.pick (ws' := [(aO, o3 aLy aLi aDa aLk (nI lst)), (aLy, o0 (nI n) aK aX aY aF aS aL)]) [0, 3] rfl
    have hDc := hD.sub (ws' := [(aO, o3 aLy aLi aDa aLk (nI lst)), (aLy, o0 (nI n) aK aX aY aF aS aL)]) [0, 3] (by decide) rfl
    exact kcX (wr := [(aLi, o1 aLy aC aG aU aR aN aW (cO o) (nI tk) em lo lk de), (aLk, o2 aLy aLi aCh aLo aDi aDk aBe), (aK, ia E nI 16 kd), (aF, ia E nI 16 fi), (aS, ia E nI 16 se), (aW, ia E nI 16 wa), (aCh, ia E cL 16 chn), (aLo, ia E nI 16 los)]) ((congrArg (xM xI xA xA) (show ofpC n xp xw = 1 from if_neg hP9)).trans rfl) (vx_runV (As := [.int xp]) (rest := []) ⟨hx, hb, hml, hown, hts⟩ (x_needPart l E H.size xp aO aLi aDa aLk lst aLy aK aX aY aF aS aL n hP9 (hn) hst) (cwV 1 hts gX3_ofPart_X3_needPart rfl rfl rfl (by decide +kernel) ⟨Nat.le_of_ble_eq_true rfl, Nat.le_of_ble_eq_true rfl⟩) (preV C0 hPc hDc hS 0 rfl rfl) rfl rfl hl.1 rfl (lv_room (Nat.le_of_ble_eq_true rfl)) dX3_ofPart_2 ⟨Nat.le_of_ble_eq_true rfl, Nat.le_of_ble_eq_true rfl⟩) hr hlocks hAe C0 hP hD hS [0, 3] [1, 2, 4, 5, 6, 7, 8, 9] [8, 0, 1, 9, 2, 3, 4, 5, 6, 7] rfl rfl (by decide) (by decide) rfl (by decide)
