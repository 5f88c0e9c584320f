
theorem cO_add (a b : Nat) : nI a + cO b = cO (a + b) := by
  show nI a + (nI b - nI 8) = nI (a + b) - nI 8
  rw [← nI_add]
  grind
theorem cO_addr (a b : Nat) : cO a + nI b = cO (a + b) := by
  rw [Int32.add_comm, cO_add, Nat.add_comm]
theorem cO_sub {a b : Nat} (h : b ≤ a + 8) : nI a - nI b = cO (a + 8 - b) := by
  show _ = nI (a + 8 - b) - nI 8
  rw [← pk_sub h, ← nI_add]
  grind
theorem nI_cO (a : Nat) : nI a = cO (a + 8) := by
  show _ = nI (a + 8) - nI 8
  rw [← nI_add]
  grind
def rp {α : Type} (f : Nat → α → α) : Nat → α → α
  | 0, s => s
  | n + 1, s => f n (rp f n s)

set_option maxHeartbeats 4000000 in
set_option maxRecDepth 100000 in
theorem c_center (l : Launch) (E : EnvT) (sz : Nat) (pt : Nat) (aLy aK aX aY aF aS aL n : Nat) (aLi aC aG aU aR aN aW o tk : Nat) (em lo lk de : Int64) (fi wa : Nat → Nat) (hp : pt < 16) (hb : fi pt + o + wa pt / 16 < 2 ^ 20) : MI l yX1_center wsX1_center ({ frames := 1, cells := 0, slots := 0, locals := 22 }) E sz [.ref aLi, .int (nI pt)] [(aLi, o1 aLy aC aG aU aR aN aW (cO o) (nI tk) em lo lk de), (aLy, o0 (nI n) aK aX aY aF aS aL), (aF, ia E nI 16 fi), (aW, ia E nI 16 wa)] (fun (r : Int32) (_ : Unit) => r = nI ((fi pt + o + wa pt / 16) % 8)) (fun _ => [(aLi, o1 aLy aC aG aU aR aN aW (cO o) (nI tk) em lo lk de), (aLy, o0 (nI n) aK aX aY aF aS aL), (aF, ia E nI 16 fi), (aW, ia E nI 16 wa)]) := by
  refine enI (cc := cX1_center) (maxL := 2) (ret := .int) (by decide +kernel) rfl (Nat.le_of_ble_eq_true rfl) ?_
  intro p e s m below meth c A ls hx hb hr hml hts hown hlocks hAe C0 hP hD hS hl
  have hown : s.vm.findClass RX1 = some m.cls := hown
  have hl : lv_has ls 2 [(0, .ref aLi), (1, .int (nI pt))] := hl
  have iX0 : ∀ w ∈ u_ws RX0 TX0 7, w ∈ wsX1_center := by decide +kernel
  have iX1 : ∀ w ∈ u_ws RX1 TX1 13, w ∈ wsX1_center := by decide +kernel
  obtain ⟨H, hHe⟩ : ∃ z, z = s.heap := ⟨_, rfl⟩
  obtain ⟨locs, hLe⟩ : ∃ z : List Loc, z = [] := ⟨_, rfl⟩
  have hP : va_P E.1 vwCl [(aLi, o1 aLy aC aG aU aR aN aW (cO o) (nI tk) em lo lk de), (aLy, o0 (nI n) aK aX aY aF aS aL), (aF, ia E nI 16 fi), (aW, ia E nI 16 wa)] H := by rw [hHe]; exact hP
  have hD : va_D A [(aLi, o1 aLy aC aG aU aR aN aW (cO o) (nI tk) em lo lk de), (aLy, o0 (nI n) aK aX aY aF aS aL), (aF, ia E nI 16 fi), (aW, ia E nI 16 wa)] := hD
  have hS : va_S A s.heap H locs := by rw [hHe, hLe]; exact hS
  suffices hgo : W p l e _ s m _ below meth c H locs 0 0 _ (F0 m 0 ls []) by rw [hHe, hLe] at hgo; exact hgo
  clear hHe hLe
  refine lv_aload_n hx hb dX1_center_0 rfl (lv_at hl 0 rfl) ?_
  refine va_get (D := E.1) (ci := 1) (v := .ref aLy) (C := RX1) (T := TX1) (N := 13) hx hb hts iX1 hown C0.1 hP 0 rfl rfl 0 (by decide) (hts (.fieldLink RX1 31 "Ringresonance$Light" "layout" "LRingresonance$Layout;") (by decide +kernel)) (fun _ h9 => h9) rfl dX1_center_1 ?_
  refine va_get (D := E.1) (ci := 0) (v := .ref aF) (C := RX0) (T := TX0) (N := 7) hx hb hts iX0 hown C0.1 hP 1 rfl rfl 4 (by decide) (hts (.fieldLink RX1 95 "Ringresonance$Layout" "firsts" "[I") (by decide +kernel)) (fun _ h9 => h9) rfl dX1_center_4 ?_
  refine lv_iload_n hx hb dX1_center_7 rfl (lv_at hl 1 rfl) ?_
  refine k_iald (e := pt) (g := nI) (n := 16) hx hb C0 hP 2 rfl (by omega) (by omega) dX1_center_8 ?_
  refine lv_aload_n hx hb dX1_center_9 rfl (lv_at hl 0 rfl) ?_
  refine va_get (D := E.1) (ci := 1) (v := .int (cO o)) (C := RX1) (T := TX1) (N := 13) hx hb hts iX1 hown C0.1 hP 0 rfl rfl 7 (by decide) (hts (.fieldLink RX1 41 "Ringresonance$Light" "offset" "I") (by decide +kernel)) (fun _ h9 => h9) rfl dX1_center_10 ?_
  refine lv_iadd hx hb dX1_center_13 ?_
  refine lv_ri (y := (cO (fi pt + o))) (cO_add _ _) ?_
  refine lv_aload_n hx hb dX1_center_14 rfl (lv_at hl 0 rfl) ?_
  refine va_get (D := E.1) (ci := 1) (v := .ref aW) (C := RX1) (T := TX1) (N := 13) hx hb hts iX1 hown C0.1 hP 0 rfl rfl 6 (by decide) (hts (.fieldLink RX1 27 "Ringresonance$Light" "warmths" "[I") (by decide +kernel)) (fun _ h9 => h9) rfl dX1_center_15 ?_
  refine lv_iload_n hx hb dX1_center_18 rfl (lv_at hl 1 rfl) ?_
  refine k_iald (e := pt) (g := nI) (n := 16) hx hb C0 hP 3 rfl (by omega) (by omega) dX1_center_19 ?_
  refine lv_bipush (v := nI 16) hx hb dX1_center_20 (by decide) ?_
  refine lv_idiv hx hb dX1_center_22 (by decide) ?_
  refine lv_ri (y := (nI ((wa pt) / 16))) (pk_div (by omega) (by omega) (by omega)) ?_
  refine lv_iadd hx hb dX1_center_23 ?_
  refine lv_ri (y := (cO (fi pt + o + wa pt / 16))) (cO_addr _ _) ?_
  refine lv_bipush (v := nI 8) hx hb dX1_center_24 (by decide) ?_
  have hPc := hP.pick (ws' := []) [] rfl
  have hDc := hD.sub (ws' := []) [] (by decide) rfl
  refine kcI (wr := [(aLi, o1 aLy aC aG aU aR aN aW (cO o) (nI tk) em lo lk de), (aLy, o0 (nI n) aK aX aY aF aS aL), (aF, ia E nI 16 fi), (aW, ia E nI 16 wa)]) (w1 := fun _ : Unit => []) (w2 := fun _ => [(aLi, o1 aLy aC aG aU aR aN aW (cO o) (nI tk) em lo lk de), (aLy, o0 (nI n) aK aX aY aF aS aL), (aF, ia E nI 16 fi), (aW, ia E nI 16 wa)]) (va_runS (As := [.int (cO (fi pt + o + wa pt / 16)), .int (nI 8)]) (rest := []) ⟨hx, hb, hml, hown, hts⟩ (c_floorMod l E H.size (fi pt + o + wa pt / 16) (by omega)) (va_cwS 2 hts gX1_center_J9_floorMod_7cf53 rfl rfl rfl (by decide +kernel) ⟨Nat.le_of_ble_eq_true rfl, Nat.le_of_ble_eq_true rfl⟩) (preS C0 hPc hDc hS) rfl rfl hl.1 rfl (lv_room (Nat.le_of_ble_eq_true rfl)) dX1_center_26 ⟨Nat.le_refl _, Nat.le_refl _⟩) C0 hP hD hS [] [0, 1, 2, 3] [0, 1, 2, 3] rfl rfl (by decide) (by decide) (fun _ => rfl) (by decide) (fun r_9 _u H locs hw hP hD hS => ?_)
  have hP : va_P E.1 vwCl [(aLi, o1 aLy aC aG aU aR aN aW (cO o) (nI tk) em lo lk de), (aLy, o0 (nI n) aK aX aY aF aS aL), (aF, ia E nI 16 fi), (aW, ia E nI 16 wa)] H := hP
  have hD : va_D A [(aLi, o1 aLy aC aG aU aR aN aW (cO o) (nI tk) em lo lk de), (aLy, o0 (nI n) aK aX aY aF aS aL), (aF, ia E nI 16 fi), (aW, ia E nI 16 wa)] := hD
  have hw : r_9 = nI ((fi pt + o + wa pt / 16) % 8) := hw
  subst hw
  have q_1 : (nI ((fi pt + o + wa pt / 16) % 8)) = (nI ((fi pt + o + wa pt / 16) % 8)) := rfl
  exact exI hx hb hr hlocks hAe hS () q_1 hP hD dX1_center_29

set_option maxHeartbeats 4000000 in
set_option maxRecDepth 100000 in
theorem c_take (l : Launch) (E : EnvT) (sz : Nat) (pt sd ch : Nat) (aLy : Nat) (aLi aC aG aU aR aN aW o tk : Nat) (em lo lk de : Int64) (co : Nat → Int64) (hp : pt < 16) (hs : sd < 2) (hc : ch < 8) : ML l yX1_take wsX1_take ({ frames := 1, cells := 0, slots := 0, locals := 21 }) E sz [.ref aLi, .int (nI pt), .int (nI sd), .int (nI ch)] [(aLi, o1 aLy aC aG aU aR aN aW (cO o) (nI tk) em lo lk de), (aC, ja E 256 co)] (fun (r : Int64) (_ : Unit) => r = co ((pt * 2 + sd) * 8 + ch)) (fun _ => [(aLi, o1 aLy aC aG aU aR aN aW (cO o) (nI tk) em lo lk de), (aC, ja E 256 (va_up co ((pt * 2 + sd) * 8 + ch) 0))]) := by
  refine enL (cc := cX1_take) (maxL := 7) (by decide +kernel) rfl (Nat.le_of_ble_eq_true rfl) ?_
  intro p e s m below meth c A ls hx hb hr hml hts hown hlocks hAe C0 hP hD hS hl
  have hown : s.vm.findClass RX1 = some m.cls := hown
  have hl : lv_has ls 7 [(0, .ref aLi), (1, .int (nI pt)), (2, .int (nI sd)), (3, .int (nI ch))] := hl
  have iX1 : ∀ w ∈ u_ws RX1 TX1 13, w ∈ wsX1_take := by decide +kernel
  obtain ⟨H, hHe⟩ : ∃ z, z = s.heap := ⟨_, rfl⟩
  obtain ⟨locs, hLe⟩ : ∃ z : List Loc, z = [] := ⟨_, rfl⟩
  have hP : va_P E.1 vwCl [(aLi, o1 aLy aC aG aU aR aN aW (cO o) (nI tk) em lo lk de), (aC, ja E 256 co)] H := by rw [hHe]; exact hP
  have hD : va_D A [(aLi, o1 aLy aC aG aU aR aN aW (cO o) (nI tk) em lo lk de), (aC, ja E 256 co)] := hD
  have hS : va_S A s.heap H locs := by rw [hHe, hLe]; exact hS
  suffices hgo : W p l e _ s m _ below meth c H locs 0 0 _ (F0 m 0 ls []) by rw [hHe, hLe] at hgo; exact hgo
  clear hHe hLe
  refine lv_iload_n hx hb dX1_take_0 rfl (lv_at hl 1 rfl) ?_
  refine lv_iload_n hx hb dX1_take_1 rfl (lv_at hl 2 rfl) ?_
  have hPc := hP.pick (ws' := []) [] rfl
  have hDc := hD.sub (ws' := []) [] (by decide) rfl
  refine kcI (wr := [(aLi, o1 aLy aC aG aU aR aN aW (cO o) (nI tk) em lo lk de), (aC, ja E 256 co)]) (w1 := fun _ : Unit => []) (w2 := fun _ => [(aLi, o1 aLy aC aG aU aR aN aW (cO o) (nI tk) em lo lk de), (aC, ja E 256 co)]) (va_runSN (As := [.int (nI pt), .int (nI sd)]) (rest := []) ⟨hx, hb, hml, hown, hts⟩ (c_portOf l E H.size pt sd ) ⟨va_cnB 2 hts gX1_take_X3_portOf_n123 rfl rfl rfl C0.2.2.2.1.2.1 (hts (.initialized RX3) (by decide +kernel)) (by decide +kernel) ⟨Nat.le_of_ble_eq_true rfl, Nat.le_of_ble_eq_true rfl⟩, (hts (.static yX3_portOf) (by decide +kernel)), trivial⟩ (preS C0 hPc hDc hS) rfl rfl hl.1 rfl (lv_room (Nat.le_of_ble_eq_true rfl)) dX1_take_2 ⟨Nat.le_refl _, Nat.le_refl _⟩) C0 hP hD hS [] [0, 1] [0, 1] rfl rfl (by decide) (by decide) (fun _ => rfl) (by decide) (fun r_9 _u H locs hw hP hD hS => ?_)
  have hP : va_P E.1 vwCl [(aLi, o1 aLy aC aG aU aR aN aW (cO o) (nI tk) em lo lk de), (aC, ja E 256 co)] H := hP
  have hD : va_D A [(aLi, o1 aLy aC aG aU aR aN aW (cO o) (nI tk) em lo lk de), (aC, ja E 256 co)] := hD
  have hw : r_9 = nI (pt * 2 + sd) := hw
  subst hw
  refine lv_bipush (v := nI 8) hx hb dX1_take_5 (by decide) ?_
  refine lv_imul hx hb dX1_take_7 ?_
  refine lv_ri (y := (nI ((pt * 2 + sd) * 8))) (pk_mul (pt * 2 + sd) 8) ?_
  refine lv_iload_n hx hb dX1_take_8 rfl (lv_at hl 3 rfl) ?_
  refine lv_iadd hx hb dX1_take_9 ?_
  refine lv_ri (y := (nI (((pt * 2 + sd) * 8) + ch))) (nI_add ((pt * 2 + sd) * 8) ch) ?_
  refine lv_istore (lv' := [(4, .int (nI (((pt * 2 + sd) * 8) + ch))), (0, .ref aLi), (1, .int (nI pt)), (2, .int (nI sd)), (3, .int (nI ch))]) hx hb dX1_take_10 hl (by decide) rfl (fun ls hl => ?_)
  refine lv_iload hx hb dX1_take_12 (lv_at hl 0 rfl) ?_
  refine lv_if_lt (tgt := 27) hx hb dX1_take_14 (by decide) (fun c_1 => ?_) (fun c_1 => ?_)
  · skip
    have c_1 : (((pt * 2 + sd) * 8) + ch) < 0 := (ci0_lt (by omega)).mp c_1
    exact absurd c_1 (by omega)
  · skip
    have c_1 : ¬ ((((pt * 2 + sd) * 8) + ch) < 0) := fun h => c_1 ((ci0_lt (by omega)).mpr h)
    refine lv_iload hx hb dX1_take_17 (lv_at hl 0 rfl) ?_
    refine lv_aload_n hx hb dX1_take_19 rfl (lv_at hl 1 rfl) ?_
    refine va_get (D := E.1) (ci := 1) (v := .ref aC) (C := RX1) (T := TX1) (N := 13) hx hb hts iX1 hown C0.1 hP 0 rfl rfl 1 (by decide) (hts (.fieldLink RX1 9 "Ringresonance$Light" "coming" "[J") (by decide +kernel)) (fun _ h9 => h9) rfl dX1_take_20 ?_
    refine va_alen (v := nI 256) (ty := .long) hx hb C0.1 hP 1 1 rfl rfl rfl dX1_take_23 ?_
    refine lv_icmp_lt (tgt := 29) hx hb dX1_take_24 (by decide) (fun c_2 => ?_) (fun c_2 => ?_)
    · skip
      have c_2 : (((pt * 2 + sd) * 8) + ch) < 256 := (ci_lt (by omega) (by omega)).mp c_2
      refine lv_aload_n hx hb dX1_take_29 rfl (lv_at hl 1 rfl) ?_
      refine va_get (D := E.1) (ci := 1) (v := .ref aC) (C := RX1) (T := TX1) (N := 13) hx hb hts iX1 hown C0.1 hP 0 rfl rfl 1 (by decide) (hts (.fieldLink RX1 9 "Ringresonance$Light" "coming" "[J") (by decide +kernel)) (fun _ h9 => h9) rfl dX1_take_30 ?_
      refine lv_iload hx hb dX1_take_33 (lv_at hl 0 rfl) ?_
      refine k_lald (e := (((pt * 2 + sd) * 8) + ch)) (n := 256) hx hb C0 hP 1 rfl (by omega) (by omega) dX1_take_35 ?_
      refine lv_lstore (lv' := [(5, .long (co (((pt * 2 + sd) * 8) + ch))), (4, .int (nI (((pt * 2 + sd) * 8) + ch))), (0, .ref aLi), (1, .int (nI pt)), (2, .int (nI sd)), (3, .int (nI ch))]) hx hb dX1_take_36 hl (by decide) rfl (fun ls hl => ?_)
      refine lv_aload_n hx hb dX1_take_38 rfl (lv_at hl 2 rfl) ?_
      refine va_get (D := E.1) (ci := 1) (v := .ref aC) (C := RX1) (T := TX1) (N := 13) hx hb hts iX1 hown C0.1 hP 0 rfl rfl 1 (by decide) (hts (.fieldLink RX1 9 "Ringresonance$Light" "coming" "[J") (by decide +kernel)) (fun _ h9 => h9) rfl dX1_take_39 ?_
      refine lv_iload hx hb dX1_take_42 (lv_at hl 1 rfl) ?_
      refine lv_lconst (v := 0) hx hb dX1_take_44 (by decide) ?_
      refine k_last (e := (((pt * 2 + sd) * 8) + ch)) (n := 256) hx hb C0 hP hD hS 1 rfl (by omega) (by omega) dX1_take_45 (fun H locs hP hD hS => ?_)
      have hP : va_P E.1 vwCl [(aLi, o1 aLy aC aG aU aR aN aW (cO o) (nI tk) em lo lk de), (aC, ja E 256 (va_up co (((pt * 2 + sd) * 8) + ch) 0))] H := hP
      have hD : va_D A [(aLi, o1 aLy aC aG aU aR aN aW (cO o) (nI tk) em lo lk de), (aC, ja E 256 (va_up co (((pt * 2 + sd) * 8) + ch) 0))] := hD
      refine lv_lload hx hb dX1_take_46 (lv_at hl 0 rfl) ?_
      have q_3 : (co (((pt * 2 + sd) * 8) + ch)) = (co ((pt * 2 + sd) * 8 + ch)) := rfl
      exact exL hx hb hr hlocks hAe hS () q_3 hP hD dX1_take_48
    · skip
      have c_2 : ¬ ((((pt * 2 + sd) * 8) + ch) < 256) := fun h => c_2 ((ci_lt (by omega) (by omega)).mpr h)
      exact absurd c_2 (by omega)

def gvL (L : Nat) (ph lk : Int64) : Int64 := if L = 0 then lk + ph else lk
def gvG (L ch : Nat) (ph : Int64) (gi : Nat → Int64) : Nat → Int64 := if L = 0 then gi else va_up gi ((L - 1) * 8 + ch) (gi ((L - 1) * 8 + ch) + ph)

set_option maxHeartbeats 4000000 in
set_option maxRecDepth 100000 in
theorem c_give (l : Launch) (E : EnvT) (sz : Nat) (pt sd ch : Nat) (ph : Int64) (aLy aK aX aY aF aS aL n : Nat) (aLi aC aG aU aR aN aW o tk : Nat) (em lo lk de : Int64) (le : Nat → Nat) (gi : Nat → Int64) (hp : pt < 16) (hs : sd < 2) (hc : ch < 8) (hL : le (pt * 2 + sd) ≤ 32) : MV l yX1_give wsX1_give ({ frames := 1, cells := 0, slots := 0, locals := 21 }) E sz [.ref aLi, .int (nI pt), .int (nI sd), .int (nI ch), .long ph] [(aLi, o1 aLy aC aG aU aR aN aW (cO o) (nI tk) em lo lk de), (aLy, o0 (nI n) aK aX aY aF aS aL), (aL, ia E cL 32 le), (aG, ja E 256 gi)] (fun _ : Unit => True) (fun _ => [(aLi, o1 aLy aC aG aU aR aN aW (cO o) (nI tk) em lo (gvL (le (pt * 2 + sd)) ph lk) de), (aLy, o0 (nI n) aK aX aY aF aS aL), (aL, ia E cL 32 le), (aG, ja E 256 (gvG (le (pt * 2 + sd)) ch ph gi))]) := by
  refine enV (cc := cX1_give) (maxL := 7) (by decide +kernel) rfl (Nat.le_of_ble_eq_true rfl) ?_
  intro p e s m below meth c A ls hx hb hr hml hts hown hlocks hAe C0 hP hD hS hl
  have hown : s.vm.findClass RX1 = some m.cls := hown
  have hl : lv_has ls 7 [(0, .ref aLi), (1, .int (nI pt)), (2, .int (nI sd)), (3, .int (nI ch)), (4, .long ph)] := hl
  have iX0 : ∀ w ∈ u_ws RX0 TX0 7, w ∈ wsX1_give := by decide +kernel
  have iX1 : ∀ w ∈ u_ws RX1 TX1 13, w ∈ wsX1_give := by decide +kernel
  obtain ⟨H, hHe⟩ : ∃ z, z = s.heap := ⟨_, rfl⟩
  obtain ⟨locs, hLe⟩ : ∃ z : List Loc, z = [] := ⟨_, rfl⟩
  have hP : va_P E.1 vwCl [(aLi, o1 aLy aC aG aU aR aN aW (cO o) (nI tk) em lo lk de), (aLy, o0 (nI n) aK aX aY aF aS aL), (aL, ia E cL 32 le), (aG, ja E 256 gi)] H := by rw [hHe]; exact hP
  have hD : va_D A [(aLi, o1 aLy aC aG aU aR aN aW (cO o) (nI tk) em lo lk de), (aLy, o0 (nI n) aK aX aY aF aS aL), (aL, ia E cL 32 le), (aG, ja E 256 gi)] := hD
  have hS : va_S A s.heap H locs := by rw [hHe, hLe]; exact hS
  suffices hgo : W p l e _ s m _ below meth c H locs 0 0 _ (F0 m 0 ls []) by rw [hHe, hLe] at hgo; exact hgo
  clear hHe hLe
  refine lv_aload_n hx hb dX1_give_0 rfl (lv_at hl 0 rfl) ?_
  refine va_get (D := E.1) (ci := 1) (v := .ref aLy) (C := RX1) (T := TX1) (N := 13) hx hb hts iX1 hown C0.1 hP 0 rfl rfl 0 (by decide) (hts (.fieldLink RX1 31 "Ringresonance$Light" "layout" "LRingresonance$Layout;") (by decide +kernel)) (fun _ h9 => h9) rfl dX1_give_1 ?_
  refine va_get (D := E.1) (ci := 0) (v := .ref aL) (C := RX0) (T := TX0) (N := 7) hx hb hts iX0 hown C0.1 hP 1 rfl rfl 6 (by decide) (hts (.fieldLink RX1 126 "Ringresonance$Layout" "leads" "[I") (by decide +kernel)) (fun _ h9 => h9) rfl dX1_give_4 ?_
  refine lv_iload_n hx hb dX1_give_7 rfl (lv_at hl 1 rfl) ?_
  refine lv_iload_n hx hb dX1_give_8 rfl (lv_at hl 2 rfl) ?_
  have hPc := hP.pick (ws' := []) [] rfl
  have hDc := hD.sub (ws' := []) [] (by decide) rfl
  refine kcI (wr := [(aLi, o1 aLy aC aG aU aR aN aW (cO o) (nI tk) em lo lk de), (aLy, o0 (nI n) aK aX aY aF aS aL), (aL, ia E cL 32 le), (aG, ja E 256 gi)]) (w1 := fun _ : Unit => []) (w2 := fun _ => [(aLi, o1 aLy aC aG aU aR aN aW (cO o) (nI tk) em lo lk de), (aLy, o0 (nI n) aK aX aY aF aS aL), (aL, ia E cL 32 le), (aG, ja E 256 gi)]) (va_runSN (As := [.int (nI pt), .int (nI sd)]) (rest := [.ref aL]) ⟨hx, hb, hml, hown, hts⟩ (c_portOf l E H.size pt sd ) ⟨va_cnB 2 hts gX1_give_X3_portOf_n123 rfl rfl rfl C0.2.2.2.1.2.1 (hts (.initialized RX3) (by decide +kernel)) (by decide +kernel) ⟨Nat.le_of_ble_eq_true rfl, Nat.le_of_ble_eq_true rfl⟩, (hts (.static yX3_portOf) (by decide +kernel)), trivial⟩ (preS C0 hPc hDc hS) rfl rfl hl.1 rfl (lv_room (Nat.le_of_ble_eq_true rfl)) dX1_give_9 ⟨Nat.le_refl _, Nat.le_refl _⟩) C0 hP hD hS [] [0, 1, 2, 3] [0, 1, 2, 3] rfl rfl (by decide) (by decide) (fun _ => rfl) (by decide) (fun r_9 _u H locs hw hP hD hS => ?_)
  have hP : va_P E.1 vwCl [(aLi, o1 aLy aC aG aU aR aN aW (cO o) (nI tk) em lo lk de), (aLy, o0 (nI n) aK aX aY aF aS aL), (aL, ia E cL 32 le), (aG, ja E 256 gi)] H := hP
  have hD : va_D A [(aLi, o1 aLy aC aG aU aR aN aW (cO o) (nI tk) em lo lk de), (aLy, o0 (nI n) aK aX aY aF aS aL), (aL, ia E cL 32 le), (aG, ja E 256 gi)] := hD
  have hw : r_9 = nI (pt * 2 + sd) := hw
  subst hw
  refine k_iald (e := (pt * 2 + sd)) (g := cL) (n := 32) hx hb C0 hP 2 rfl (by omega) (by omega) dX1_give_12 ?_
  refine lv_istore (lv' := [(6, .int (cL (le (pt * 2 + sd)))), (0, .ref aLi), (1, .int (nI pt)), (2, .int (nI sd)), (3, .int (nI ch)), (4, .long ph)]) hx hb dX1_give_13 hl (by decide) rfl (fun ls hl => ?_)
  refine lv_iload hx hb dX1_give_15 (lv_at hl 0 rfl) ?_
  refine lv_if_lt (tgt := 27) hx hb dX1_give_17 (by decide) (fun c_1 => ?_) (fun c_1 => ?_)
  · skip
    have c_1 : le (pt * 2 + sd) = 0 := (cL_neg (by omega)).mp c_1
    refine lv_aload_n hx hb dX1_give_27 rfl (lv_at hl 1 rfl) ?_
    refine lv_dup hx hb dX1_give_28 rfl ?_
    refine va_get (D := E.1) (ci := 1) (v := .long lk) (C := RX1) (T := TX1) (N := 13) hx hb hts iX1 hown C0.1 hP 0 rfl rfl 11 (by decide) (hts (.fieldLink RX1 55 "Ringresonance$Light" "leaked" "J") (by decide +kernel)) (fun _ h9 => h9) rfl dX1_give_29 ?_
    refine lv_lload hx hb dX1_give_32 (lv_at hl 5 rfl) ?_
    refine lv_ladd hx hb dX1_give_34 ?_
    refine va_put (D := E.1) (ci := 1) (v := .long (lk + ph)) (ty := .long) (C := RX1) (T := TX1) (N := 13) hx hb hts iX1 tyX1 tyX1_ok nmX1 hown C0.1 hP hD hS 0 rfl rfl 11 (by decide) (hts (.fieldLink RX1 55 "Ringresonance$Light" "leaked" "J") (by decide +kernel)) (fun _ h9 => h9) rfl (by decide +kernel) rfl rfl (Nat.le_of_ble_eq_true rfl) dX1_give_35 (fun H locs hP hD hS => ?_)
    have hP : va_P E.1 vwCl [(aLi, o1 aLy aC aG aU aR aN aW (cO o) (nI tk) em lo (lk + ph) de), (aLy, o0 (nI n) aK aX aY aF aS aL), (aL, ia E cL 32 le), (aG, ja E 256 gi)] H := hP
    have hD : va_D A [(aLi, o1 aLy aC aG aU aR aN aW (cO o) (nI tk) em lo (lk + ph) de), (aLy, o0 (nI n) aK aX aY aF aS aL), (aL, ia E cL 32 le), (aG, ja E 256 gi)] := hD
    refine lv_goto (tgt := 58) hx hb dX1_give_38 (by decide) ?_
    have q_2 : (gvL (le (pt * 2 + sd)) ph lk) = (lk + ph) := by first | rfl | (simp only [gvL, gvG, c_1, if_true, if_false, not_true_eq_false, not_false_eq_true, ite_true, ite_false]; done) | (simp only [gvL, gvG, c_1, if_true, if_false]; rfl) | (simp [gvL, gvG, c_1]; done)
    have q_3 : (gvG (le (pt * 2 + sd)) ch ph gi) = gi := by first | rfl | (simp only [gvL, gvG, c_1, if_true, if_false, not_true_eq_false, not_false_eq_true, ite_true, ite_false]; done) | (simp only [gvL, gvG, c_1, if_true, if_false]; rfl) | (simp [gvL, gvG, c_1]; done)
    have hP : va_P E.1 vwCl [(aLi, o1 aLy aC aG aU aR aN aW (cO o) (nI tk) em lo (gvL (le (pt * 2 + sd)) ph lk) de), (aLy, o0 (nI n) aK aX aY aF aS aL), (aL, ia E cL 32 le), (aG, ja E 256 (gvG (le (pt * 2 + sd)) ch ph gi))] H := by rw [q_2, q_3]; exact hP
    have hD : va_D A [(aLi, o1 aLy aC aG aU aR aN aW (cO o) (nI tk) em lo (gvL (le (pt * 2 + sd)) ph lk) de), (aLy, o0 (nI n) aK aX aY aF aS aL), (aL, ia E cL 32 le), (aG, ja E 256 (gvG (le (pt * 2 + sd)) ch ph gi))] := by rw [q_2, q_3]; exact hD
    exact exV hx hb hr hlocks hAe hS () trivial hP hD dX1_give_58
  · skip
    have c_1 : ¬ (le (pt * 2 + sd) = 0) := fun h => c_1 ((cL_neg (by omega)).mpr h)
    rw [show cL (le (pt * 2 + sd)) = nI (le (pt * 2 + sd) - 1) from cL_pos c_1] at hl
    refine lv_iload hx hb dX1_give_20 (lv_at hl 0 rfl) ?_
    refine lv_bipush (v := nI 32) hx hb dX1_give_22 (by decide) ?_
    refine lv_icmp_lt (tgt := 41) hx hb dX1_give_24 (by decide) (fun c_4 => ?_) (fun c_4 => ?_)
    · skip
      have c_4 : (le (pt * 2 + sd) - 1) < 32 := (ci_lt (by omega) (by omega)).mp c_4
      refine lv_aload_n hx hb dX1_give_41 rfl (lv_at hl 1 rfl) ?_
      refine va_get (D := E.1) (ci := 1) (v := .ref aG) (C := RX1) (T := TX1) (N := 13) hx hb hts iX1 hown C0.1 hP 0 rfl rfl 2 (by decide) (hts (.fieldLink RX1 15 "Ringresonance$Light" "given" "[J") (by decide +kernel)) (fun _ h9 => h9) rfl dX1_give_42 ?_
      refine lv_iload hx hb dX1_give_45 (lv_at hl 0 rfl) ?_
      refine lv_bipush (v := nI 8) hx hb dX1_give_47 (by decide) ?_
      refine lv_imul hx hb dX1_give_49 ?_
      refine lv_ri (y := (nI ((le (pt * 2 + sd) - 1) * 8))) (pk_mul (le (pt * 2 + sd) - 1) 8) ?_
      refine lv_iload_n hx hb dX1_give_50 rfl (lv_at hl 4 rfl) ?_
      refine lv_iadd hx hb dX1_give_51 ?_
      refine lv_ri (y := (nI (((le (pt * 2 + sd) - 1) * 8) + ch))) (nI_add ((le (pt * 2 + sd) - 1) * 8) ch) ?_
      refine lv_dup2_11 hx hb dX1_give_52 rfl rfl ?_
      refine k_lald (e := (((le (pt * 2 + sd) - 1) * 8) + ch)) (n := 256) hx hb C0 hP 3 rfl (by omega) (by omega) dX1_give_53 ?_
      refine lv_lload hx hb dX1_give_54 (lv_at hl 5 rfl) ?_
      refine lv_ladd hx hb dX1_give_56 ?_
      refine k_last (e := (((le (pt * 2 + sd) - 1) * 8) + ch)) (n := 256) hx hb C0 hP hD hS 3 rfl (by omega) (by omega) dX1_give_57 (fun H locs hP hD hS => ?_)
      have hP : va_P E.1 vwCl [(aLi, o1 aLy aC aG aU aR aN aW (cO o) (nI tk) em lo lk de), (aLy, o0 (nI n) aK aX aY aF aS aL), (aL, ia E cL 32 le), (aG, ja E 256 (va_up gi (((le (pt * 2 + sd) - 1) * 8) + ch) ((gi (((le (pt * 2 + sd) - 1) * 8) + ch)) + ph)))] H := hP
      have hD : va_D A [(aLi, o1 aLy aC aG aU aR aN aW (cO o) (nI tk) em lo lk de), (aLy, o0 (nI n) aK aX aY aF aS aL), (aL, ia E cL 32 le), (aG, ja E 256 (va_up gi (((le (pt * 2 + sd) - 1) * 8) + ch) ((gi (((le (pt * 2 + sd) - 1) * 8) + ch)) + ph)))] := hD
      have q_5 : (gvL (le (pt * 2 + sd)) ph lk) = lk := by first | rfl | (simp only [gvL, gvG, c_1, c_4, if_true, if_false, not_true_eq_false, not_false_eq_true, ite_true, ite_false]; done) | (simp only [gvL, gvG, c_1, c_4, if_true, if_false]; rfl) | (simp [gvL, gvG, c_1, c_4]; done)
      have q_6 : (gvG (le (pt * 2 + sd)) ch ph gi) = (va_up gi (((le (pt * 2 + sd) - 1) * 8) + ch) ((gi (((le (pt * 2 + sd) - 1) * 8) + ch)) + ph)) := by first | rfl | (simp only [gvL, gvG, c_1, c_4, if_true, if_false, not_true_eq_false, not_false_eq_true, ite_true, ite_false]; done) | (simp only [gvL, gvG, c_1, c_4, if_true, if_false]; rfl) | (simp [gvL, gvG, c_1, c_4]; done)
      have hP : va_P E.1 vwCl [(aLi, o1 aLy aC aG aU aR aN aW (cO o) (nI tk) em lo (gvL (le (pt * 2 + sd)) ph lk) de), (aLy, o0 (nI n) aK aX aY aF aS aL), (aL, ia E cL 32 le), (aG, ja E 256 (gvG (le (pt * 2 + sd)) ch ph gi))] H := by rw [q_5, q_6]; exact hP
      have hD : va_D A [(aLi, o1 aLy aC aG aU aR aN aW (cO o) (nI tk) em lo (gvL (le (pt * 2 + sd)) ph lk) de), (aLy, o0 (nI n) aK aX aY aF aS aL), (aL, ia E cL 32 le), (aG, ja E 256 (gvG (le (pt * 2 + sd)) ch ph gi))] := by rw [q_5, q_6]; exact hD
      exact exV hx hb hr hlocks hAe hS () trivial hP hD dX1_give_58
    · skip
      have c_4 : ¬ ((le (pt * 2 + sd) - 1) < 32) := fun h => c_4 ((ci_lt (by omega) (by omega)).mpr h)
      exact absurd c_4 (by omega)

def sAll (sn : Nat → Int64) (pt : Nat) (k : Nat) : Int64 := rp (fun i x => x + sn (pt * 8 + i)) k 0

set_option maxHeartbeats 4000000 in
set_option maxRecDepth 100000 in
theorem c_seenInAll (l : Launch) (E : EnvT) (sz : Nat) (pt : Nat) (aLy : Nat) (aLi aC aG aU aR aN aW o tk : Nat) (em lo lk de : Int64) (sn : Nat → Int64) (hp : pt < 16) : ML l yX1_seenInAll wsX1_seenInAll ({ frames := 0, cells := 0, slots := 0, locals := 0 }) E sz [.ref aLi, .int (nI pt)] [(aLi, o1 aLy aC aG aU aR aN aW (cO o) (nI tk) em lo lk de), (aN, ja E 128 sn)] (fun (r : Int64) (_ : Unit) => r = sAll sn pt 8) (fun _ => [(aLi, o1 aLy aC aG aU aR aN aW (cO o) (nI tk) em lo lk de), (aN, ja E 128 sn)]) := by
  refine enL (cc := cX1_seenInAll) (maxL := 5) (by decide +kernel) rfl (Nat.le_of_ble_eq_true rfl) ?_
  intro p e s m below meth c A ls hx hb hr hml hts hown hlocks hAe C0 hP hD hS hl
  have hown : s.vm.findClass RX1 = some m.cls := hown
  have hl : lv_has ls 5 [(0, .ref aLi), (1, .int (nI pt))] := hl
  have iX1 : ∀ w ∈ u_ws RX1 TX1 13, w ∈ wsX1_seenInAll := by decide +kernel
  obtain ⟨H, hHe⟩ : ∃ z, z = s.heap := ⟨_, rfl⟩
  obtain ⟨locs, hLe⟩ : ∃ z : List Loc, z = [] := ⟨_, rfl⟩
  have hP : va_P E.1 vwCl [(aLi, o1 aLy aC aG aU aR aN aW (cO o) (nI tk) em lo lk de), (aN, ja E 128 sn)] H := by rw [hHe]; exact hP
  have hD : va_D A [(aLi, o1 aLy aC aG aU aR aN aW (cO o) (nI tk) em lo lk de), (aN, ja E 128 sn)] := hD
  have hS : va_S A s.heap H locs := by rw [hHe, hLe]; exact hS
  suffices hgo : W p l e _ s m _ below meth c H locs 0 0 _ (F0 m 0 ls []) by rw [hHe, hLe] at hgo; exact hgo
  clear hHe hLe
  refine lv_lconst (v := 0) hx hb dX1_seenInAll_0 (by decide) ?_
  refine lv_lstore_n (lv' := [(2, .long 0), (0, .ref aLi), (1, .int (nI pt))]) hx hb dX1_seenInAll_1 rfl hl (by decide) rfl (fun ls hl => ?_)
  refine lv_iconst (v := nI 0) hx hb dX1_seenInAll_2 (by decide) ?_
  refine lv_istore (lv' := [(4, .int (nI 0)), (2, .long 0), (0, .ref aLi), (1, .int (nI pt))]) hx hb dX1_seenInAll_3 hl (by decide) rfl (fun ls hl => ?_)
  have LP_1 : ∀ (nz i_3 : Nat), i_3 ≤ 8 → 8 < i_3 + nz → ∀ (H : Heap) (locs : List Loc), va_P E.1 vwCl [(aLi, o1 aLy aC aG aU aR aN aW (cO o) (nI tk) em lo lk de), (aN, ja E 128 sn)] H → va_D A [(aLi, o1 aLy aC aG aU aR aN aW (cO o) (nI tk) em lo lk de), (aN, ja E 128 sn)] → va_S A s.heap H locs → ∀ (ls : Array Slot), lv_has ls 5 [(0, .ref aLi), (1, .int (nI pt)), (2, .long (sAll sn pt (i_3))), (4, .int (nI i_3))] → W p l e ({ frames := 0, cells := 0, slots := 0, locals := 0 }) s m (([.ref aLi, .int (nI pt)] : List Value).toArray) below meth c H locs 0 0 (MQ below (va_Ql (fun (r : Int64) (_ : Unit) => r = sAll sn pt 8) (Wd E [(aLi, o1 aLy aC aG aU aR aN aW (cO o) (nI tk) em lo lk de), (aN, ja E 128 sn)] s.heap.size (fun _ => [(aLi, o1 aLy aC aG aU aR aN aW (cO o) (nI tk) em lo lk de), (aN, ja E 128 sn)])) A) (([.ref aLi, .int (nI pt)] : List Value).toArray) s 0 0 A) (F0 m 5 ls []) := by
    intro nz
    induction nz with
    | zero =>
      intro i_3 h1 h2
      exact absurd h2 (by omega)
    | succ nz ih_2 =>
      intro i_3 hi_i_3 hn_i_3 H locs hP hD hS ls hl
      refine lv_iload hx hb dX1_seenInAll_5 (lv_at hl 3 rfl) ?_
      refine lv_bipush (v := nI 8) hx hb dX1_seenInAll_7 (by decide) ?_
      refine lv_icmp_ge (tgt := 33) hx hb dX1_seenInAll_9 (by decide) (fun c_4 => ?_) (fun c_4 => ?_)
      · skip
        have c_4 : 8 ≤ i_3 := (ci_ge (by omega) (by omega)).mp c_4
        obtain rfl : 8 = i_3 := by omega
        refine lv_lload_n hx hb dX1_seenInAll_33 rfl (lv_at hl 2 rfl) ?_
        have q_5 : (sAll sn pt (8)) = (sAll sn pt 8) := rfl
        exact exL hx hb hr hlocks hAe hS () q_5 hP hD dX1_seenInAll_34
      · skip
        have c_4 : ¬ (8 ≤ i_3) := fun h => c_4 ((ci_ge (by omega) (by omega)).mpr h)
        refine lv_lload_n hx hb dX1_seenInAll_12 rfl (lv_at hl 2 rfl) ?_
        refine lv_aload_n hx hb dX1_seenInAll_13 rfl (lv_at hl 0 rfl) ?_
        refine va_get (D := E.1) (ci := 1) (v := .ref aN) (C := RX1) (T := TX1) (N := 13) hx hb hts iX1 hown C0.1 hP 0 rfl rfl 5 (by decide) (hts (.fieldLink RX1 24 "Ringresonance$Light" "seenOf" "[J") (by decide +kernel)) (fun _ h9 => h9) rfl dX1_seenInAll_14 ?_
        refine lv_iload_n hx hb dX1_seenInAll_17 rfl (lv_at hl 1 rfl) ?_
        refine lv_bipush (v := nI 8) hx hb dX1_seenInAll_18 (by decide) ?_
        refine lv_imul hx hb dX1_seenInAll_20 ?_
        refine lv_ri (y := (nI (pt * 8))) (pk_mul pt 8) ?_
        refine lv_iload hx hb dX1_seenInAll_21 (lv_at hl 3 rfl) ?_
        refine lv_iadd hx hb dX1_seenInAll_23 ?_
        refine lv_ri (y := (nI ((pt * 8) + i_3))) (nI_add (pt * 8) i_3) ?_
        refine k_lald (e := ((pt * 8) + i_3)) (n := 128) hx hb C0 hP 1 rfl (by omega) (by omega) dX1_seenInAll_24 ?_
        refine lv_ladd hx hb dX1_seenInAll_25 ?_
        refine lv_lstore_n (lv' := [(2, .long ((sAll sn pt (i_3)) + (sn ((pt * 8) + i_3)))), (0, .ref aLi), (1, .int (nI pt)), (4, .int (nI i_3))]) hx hb dX1_seenInAll_26 rfl hl (by decide) rfl (fun ls hl => ?_)
        refine lv_iinc (v := nI (i_3 + 1)) (lv' := [(4, .int (nI (i_3 + 1))), (2, .long ((sAll sn pt (i_3)) + (sn ((pt * 8) + i_3)))), (0, .ref aLi), (1, .int (nI pt))]) hx hb dX1_seenInAll_27 hl (k := 3) rfl (nI_add i_3 1) (by decide) rfl (fun ls hl => ?_)
        refine lv_goto (tgt := 5) hx hb dX1_seenInAll_30 (by decide) ?_
        have hP : va_P E.1 vwCl [(aLi, o1 aLy aC aG aU aR aN aW (cO o) (nI tk) em lo lk de), (aN, ja E 128 sn)] H := hP
        have hD : va_D A [(aLi, o1 aLy aC aG aU aR aN aW (cO o) (nI tk) em lo lk de), (aN, ja E 128 sn)] := hD
        have q_6 : (sAll sn pt (i_3)) + (sn ((pt * 8) + i_3)) = sAll sn pt (i_3 + 1) := by first | rfl | (simp; done)
        rw [q_6] at hl
        have hl : lv_has ls 5 [(0, .ref aLi), (1, .int (nI pt)), (2, .long (sAll sn pt (i_3 + 1))), (4, .int (nI (i_3 + 1)))] := lv_sub hl [2, 3, 1, 0] rfl
        exact ih_2 (i_3 + 1) (by omega) (by omega) _ _ hP hD hS _ hl
  have hP : va_P E.1 vwCl [(aLi, o1 aLy aC aG aU aR aN aW (cO o) (nI tk) em lo lk de), (aN, ja E 128 sn)] H := hP
  have hD : va_D A [(aLi, o1 aLy aC aG aU aR aN aW (cO o) (nI tk) em lo lk de), (aN, ja E 128 sn)] := hD
  have q_7 : 0 = sAll sn pt (0) := by first | rfl | (simp; done)
  rw [q_7] at hl
  have hl : lv_has ls 5 [(0, .ref aLi), (1, .int (nI pt)), (2, .long (sAll sn pt (0))), (4, .int (nI 0))] := lv_sub hl [2, 3, 1, 0] rfl
  exact LP_1 (8 + 1) 0 (by omega) (by omega) _ _ hP hD hS _ hl

set_option maxHeartbeats 4000000 in
set_option maxRecDepth 100000 in
theorem c_emit (l : Launch) (E : EnvT) (sz : Nat) (pt : Nat) (aLy aK aX aY aF aS aL n : Nat) (aLi aC aG aU aR aN aW o tk : Nat) (em lo lk de : Int64) (fi se le : Nat → Nat) (gi : Nat → Int64) (hp : pt < 16) (hf : fi pt < 8) (hL : le (pt * 2 + 0) ≤ 32) : MV l yX1_emit wsX1_emit ({ frames := 2, cells := 0, slots := 0, locals := 47 }) E sz [.ref aLi, .int (nI pt)] [(aLi, o1 aLy aC aG aU aR aN aW (cO o) (nI tk) em lo lk de), (aLy, o0 (nI n) aK aX aY aF aS aL), (aF, ia E nI 16 fi), (aS, ia E nI 16 se), (aL, ia E cL 32 le), (aG, ja E 256 gi)] (fun _ : Unit => True) (fun _ => [(aLi, o1 aLy aC aG aU aR aN aW (cO o) (nI tk) (em + iL (se pt)) lo (gvL (le (pt * 2 + 0)) (iL (se pt)) lk) de), (aLy, o0 (nI n) aK aX aY aF aS aL), (aF, ia E nI 16 fi), (aS, ia E nI 16 se), (aL, ia E cL 32 le), (aG, ja E 256 (gvG (le (pt * 2 + 0)) (fi pt) (iL (se pt)) gi))]) := by
  refine enV (cc := cX1_emit) (maxL := 3) (by decide +kernel) rfl (Nat.le_of_ble_eq_true rfl) ?_
  intro p e s m below meth c A ls hx hb hr hml hts hown hlocks hAe C0 hP hD hS hl
  have hown : s.vm.findClass RX1 = some m.cls := hown
  have hl : lv_has ls 3 [(0, .ref aLi), (1, .int (nI pt))] := hl
  have iX0 : ∀ w ∈ u_ws RX0 TX0 7, w ∈ wsX1_emit := by decide +kernel
  have iX1 : ∀ w ∈ u_ws RX1 TX1 13, w ∈ wsX1_emit := by decide +kernel
  obtain ⟨H, hHe⟩ : ∃ z, z = s.heap := ⟨_, rfl⟩
  obtain ⟨locs, hLe⟩ : ∃ z : List Loc, z = [] := ⟨_, rfl⟩
  have hP : va_P E.1 vwCl [(aLi, o1 aLy aC aG aU aR aN aW (cO o) (nI tk) em lo lk de), (aLy, o0 (nI n) aK aX aY aF aS aL), (aF, ia E nI 16 fi), (aS, ia E nI 16 se), (aL, ia E cL 32 le), (aG, ja E 256 gi)] H := by rw [hHe]; exact hP
  have hD : va_D A [(aLi, o1 aLy aC aG aU aR aN aW (cO o) (nI tk) em lo lk de), (aLy, o0 (nI n) aK aX aY aF aS aL), (aF, ia E nI 16 fi), (aS, ia E nI 16 se), (aL, ia E cL 32 le), (aG, ja E 256 gi)] := hD
  have hS : va_S A s.heap H locs := by rw [hHe, hLe]; exact hS
  suffices hgo : W p l e _ s m _ below meth c H locs 0 0 _ (F0 m 0 ls []) by rw [hHe, hLe] at hgo; exact hgo
  clear hHe hLe
  refine lv_aload_n hx hb dX1_emit_0 rfl (lv_at hl 0 rfl) ?_
  refine va_get (D := E.1) (ci := 1) (v := .ref aLy) (C := RX1) (T := TX1) (N := 13) hx hb hts iX1 hown C0.1 hP 0 rfl rfl 0 (by decide) (hts (.fieldLink RX1 31 "Ringresonance$Light" "layout" "LRingresonance$Layout;") (by decide +kernel)) (fun _ h9 => h9) rfl dX1_emit_1 ?_
  refine va_get (D := E.1) (ci := 0) (v := .ref aS) (C := RX0) (T := TX0) (N := 7) hx hb hts iX0 hown C0.1 hP 1 rfl rfl 5 (by decide) (hts (.fieldLink RX1 92 "Ringresonance$Layout" "seconds" "[I") (by decide +kernel)) (fun _ h9 => h9) rfl dX1_emit_4 ?_
  refine lv_iload_n hx hb dX1_emit_7 rfl (lv_at hl 1 rfl) ?_
  refine k_iald (e := pt) (g := nI) (n := 16) hx hb C0 hP 3 rfl (by omega) (by omega) dX1_emit_8 ?_
  refine lv_istore_n (lv' := [(2, .int (nI (se pt))), (0, .ref aLi), (1, .int (nI pt))]) hx hb dX1_emit_9 rfl hl (by decide) rfl (fun ls hl => ?_)
  refine lv_aload_n hx hb dX1_emit_10 rfl (lv_at hl 1 rfl) ?_
  refine lv_dup hx hb dX1_emit_11 rfl ?_
  refine va_get (D := E.1) (ci := 1) (v := .long em) (C := RX1) (T := TX1) (N := 13) hx hb hts iX1 hown C0.1 hP 0 rfl rfl 9 (by decide) (hts (.fieldLink RX1 48 "Ringresonance$Light" "emitted" "J") (by decide +kernel)) (fun _ h9 => h9) rfl dX1_emit_12 ?_
  refine lv_iload_n hx hb dX1_emit_15 rfl (lv_at hl 0 rfl) ?_
  refine lv_i2l (v := iL (se pt)) hx hb dX1_emit_16 rfl ?_
  refine lv_ladd hx hb dX1_emit_17 ?_
  refine va_put (D := E.1) (ci := 1) (v := .long (em + (iL (se pt)))) (ty := .long) (C := RX1) (T := TX1) (N := 13) hx hb hts iX1 tyX1 tyX1_ok nmX1 hown C0.1 hP hD hS 0 rfl rfl 9 (by decide) (hts (.fieldLink RX1 48 "Ringresonance$Light" "emitted" "J") (by decide +kernel)) (fun _ h9 => h9) rfl (by decide +kernel) rfl rfl (Nat.le_of_ble_eq_true rfl) dX1_emit_18 (fun H locs hP hD hS => ?_)
  have hP : va_P E.1 vwCl [(aLi, o1 aLy aC aG aU aR aN aW (cO o) (nI tk) (em + (iL (se pt))) lo lk de), (aLy, o0 (nI n) aK aX aY aF aS aL), (aF, ia E nI 16 fi), (aS, ia E nI 16 se), (aL, ia E cL 32 le), (aG, ja E 256 gi)] H := hP
  have hD : va_D A [(aLi, o1 aLy aC aG aU aR aN aW (cO o) (nI tk) (em + (iL (se pt))) lo lk de), (aLy, o0 (nI n) aK aX aY aF aS aL), (aF, ia E nI 16 fi), (aS, ia E nI 16 se), (aL, ia E cL 32 le), (aG, ja E 256 gi)] := hD
  refine lv_aload_n hx hb dX1_emit_21 rfl (lv_at hl 1 rfl) ?_
  refine lv_iload_n hx hb dX1_emit_22 rfl (lv_at hl 2 rfl) ?_
  refine lv_iconst (v := nI 0) hx hb dX1_emit_23 (by decide) ?_
  refine lv_aload_n hx hb dX1_emit_24 rfl (lv_at hl 1 rfl) ?_
  refine va_get (D := E.1) (ci := 1) (v := .ref aLy) (C := RX1) (T := TX1) (N := 13) hx hb hts iX1 hown C0.1 hP 0 rfl rfl 0 (by decide) (hts (.fieldLink RX1 31 "Ringresonance$Light" "layout" "LRingresonance$Layout;") (by decide +kernel)) (fun _ h9 => h9) rfl dX1_emit_25 ?_
  refine va_get (D := E.1) (ci := 0) (v := .ref aF) (C := RX0) (T := TX0) (N := 7) hx hb hts iX0 hown C0.1 hP 1 rfl rfl 4 (by decide) (hts (.fieldLink RX1 95 "Ringresonance$Layout" "firsts" "[I") (by decide +kernel)) (fun _ h9 => h9) rfl dX1_emit_28 ?_
  refine lv_iload_n hx hb dX1_emit_31 rfl (lv_at hl 2 rfl) ?_
  refine k_iald (e := pt) (g := nI) (n := 16) hx hb C0 hP 2 rfl (by omega) (by omega) dX1_emit_32 ?_
  refine lv_iload_n hx hb dX1_emit_33 rfl (lv_at hl 0 rfl) ?_
  refine lv_i2l (v := iL (se pt)) hx hb dX1_emit_34 rfl ?_
  have hPc := hP.pick (ws' := [(aLi, o1 aLy aC aG aU aR aN aW (cO o) (nI tk) (em + (iL (se pt))) lo lk de), (aLy, o0 (nI n) aK aX aY aF aS aL), (aL, ia E cL 32 le), (aG, ja E 256 gi)]) [0, 1, 4, 5] rfl
  have hDc := hD.sub (ws' := [(aLi, o1 aLy aC aG aU aR aN aW (cO o) (nI tk) (em + (iL (se pt))) lo lk de), (aLy, o0 (nI n) aK aX aY aF aS aL), (aL, ia E cL 32 le), (aG, ja E 256 gi)]) [0, 1, 4, 5] (by decide) rfl
  refine kcV (wr := [(aF, ia E nI 16 fi), (aS, ia E nI 16 se)]) (w1 := fun _ : Unit => [(aLi, o1 aLy aC aG aU aR aN aW (cO o) (nI tk) (em + (iL (se pt))) lo (gvL (le (pt * 2 + 0)) (iL (se pt)) lk) de), (aLy, o0 (nI n) aK aX aY aF aS aL), (aL, ia E cL 32 le), (aG, ja E 256 (gvG (le (pt * 2 + 0)) (fi pt) (iL (se pt)) gi))]) (w2 := fun _ => [(aLi, o1 aLy aC aG aU aR aN aW (cO o) (nI tk) (em + (iL (se pt))) lo (gvL (le (pt * 2 + 0)) (iL (se pt)) lk) de), (aLy, o0 (nI n) aK aX aY aF aS aL), (aF, ia E nI 16 fi), (aS, ia E nI 16 se), (aL, ia E cL 32 le), (aG, ja E 256 (gvG (le (pt * 2 + 0)) (fi pt) (iL (se pt)) gi))]) (va_runV (As := [.int (nI pt), .int (nI 0), .int (nI (fi pt)), .long (iL (se pt))]) (rest := []) ⟨hx, hb, hml, hown, hts⟩ (c_give l E H.size pt 0 (fi pt) (iL (se pt)) aLy aK aX aY aF aS aL n aLi aC aG aU aR aN aW o tk (em + (iL (se pt))) lo lk de le gi (by omega) (by omega) (by omega) (hL)) (cwV 4 hts gX1_emit_X1_give rfl rfl rfl (by decide +kernel) ⟨Nat.le_of_ble_eq_true rfl, Nat.le_of_ble_eq_true rfl⟩) (preV C0 hPc hDc hS 0 rfl rfl) rfl rfl hl.1 rfl (lv_room (Nat.le_of_ble_eq_true rfl)) dX1_emit_35 ⟨Nat.le_refl _, Nat.le_refl _⟩) C0 hP hD hS [0, 1, 4, 5] [2, 3] [2, 3, 0, 1, 4, 5] rfl rfl (by decide) (by decide) (fun _ => rfl) (by decide) (fun _u H locs _hw hP hD hS => ?_)
  have hP : va_P E.1 vwCl [(aLi, o1 aLy aC aG aU aR aN aW (cO o) (nI tk) (em + (iL (se pt))) lo (gvL (le (pt * 2 + 0)) (iL (se pt)) lk) de), (aLy, o0 (nI n) aK aX aY aF aS aL), (aF, ia E nI 16 fi), (aS, ia E nI 16 se), (aL, ia E cL 32 le), (aG, ja E 256 (gvG (le (pt * 2 + 0)) (fi pt) (iL (se pt)) gi))] H := hP
  have hD : va_D A [(aLi, o1 aLy aC aG aU aR aN aW (cO o) (nI tk) (em + (iL (se pt))) lo (gvL (le (pt * 2 + 0)) (iL (se pt)) lk) de), (aLy, o0 (nI n) aK aX aY aF aS aL), (aF, ia E nI 16 fi), (aS, ia E nI 16 se), (aL, ia E cL 32 le), (aG, ja E 256 (gvG (le (pt * 2 + 0)) (fi pt) (iL (se pt)) gi))] := hD
  exact exV hx hb hr hlocks hAe hS () trivial hP hD dX1_emit_38

/-- a guide in a tick, channel ch: what comes, what is given, what is under way, what is lost and leaked -/
def gdB (le se fi : Nat → Nat) (tk pt : Nat) (ch : Nat) (S : (Nat → Int64) × (Nat → Int64) × (Nat → Int64) × Int64 × Int64) : (Nat → Int64) × (Nat → Int64) × (Nat → Int64) × Int64 × Int64 :=
  let ph := S.1 ((pt * 2 + 0) * 8 + ch)
  let ls := ph * iL (se pt) / 100
  let un := va_up S.2.2.1 (((pt * 8 + (tk + 8) % 8) * 8) + ch) (ph - ls)
  (va_up S.1 ((pt * 2 + 0) * 8 + ch) 0, gvG (le (pt * 2 + 0)) ch (un (((pt * 8 + (tk + 8 - (fi pt - 1)) % 8) * 8) + ch)) S.2.1, un, S.2.2.2.1 + ls, gvL (le (pt * 2 + 0)) (un (((pt * 8 + (tk + 8 - (fi pt - 1)) % 8) * 8) + ch)) S.2.2.2.2)

set_option maxHeartbeats 4000000 in
set_option maxRecDepth 100000 in
theorem c_guide (l : Launch) (E : EnvT) (sz : Nat) (pt : Nat) (aLy aK aX aY aF aS aL n : Nat) (aLi aC aG aU aR aN aW o tk : Nat) (em lo lk de : Int64) (fi se le : Nat → Nat) (co gi un : Nat → Int64) (hp : pt < 16) (h1 : 1 ≤ fi pt) (h8 : fi pt ≤ 8) (ht : tk < 30000) (hL : le (pt * 2 + 0) ≤ 32) : MV l yX1_guide wsX1_guide ({ frames := 2, cells := 0, slots := 0, locals := 47 }) E sz [.ref aLi, .int (nI pt)] [(aLi, o1 aLy aC aG aU aR aN aW (cO o) (nI tk) em lo lk de), (aLy, o0 (nI n) aK aX aY aF aS aL), (aF, ia E nI 16 fi), (aS, ia E nI 16 se), (aL, ia E cL 32 le), (aC, ja E 256 co), (aG, ja E 256 gi), (aU, ja E 1024 un)] (fun _ : Unit => True) (fun _ => [(aLi, o1 aLy aC aG aU aR aN aW (cO o) (nI tk) em ((rp (gdB le se fi tk pt) (8) (co, gi, un, lo, lk)).2.2.2.1) ((rp (gdB le se fi tk pt) (8) (co, gi, un, lo, lk)).2.2.2.2) de), (aLy, o0 (nI n) aK aX aY aF aS aL), (aF, ia E nI 16 fi), (aS, ia E nI 16 se), (aL, ia E cL 32 le), (aC, ja E 256 ((rp (gdB le se fi tk pt) (8) (co, gi, un, lo, lk)).1)), (aG, ja E 256 ((rp (gdB le se fi tk pt) (8) (co, gi, un, lo, lk)).2.1)), (aU, ja E 1024 ((rp (gdB le se fi tk pt) (8) (co, gi, un, lo, lk)).2.2.1))]) := by
  refine enV (cc := cX1_guide) (maxL := 11) (by decide +kernel) rfl (Nat.le_of_ble_eq_true rfl) ?_
  intro p e s m below meth c A ls hx hb hr hml hts hown hlocks hAe C0 hP hD hS hl
  have hown : s.vm.findClass RX1 = some m.cls := hown
  have hl : lv_has ls 11 [(0, .ref aLi), (1, .int (nI pt))] := hl
  have iX0 : ∀ w ∈ u_ws RX0 TX0 7, w ∈ wsX1_guide := by decide +kernel
  have iX1 : ∀ w ∈ u_ws RX1 TX1 13, w ∈ wsX1_guide := by decide +kernel
  obtain ⟨H, hHe⟩ : ∃ z, z = s.heap := ⟨_, rfl⟩
  obtain ⟨locs, hLe⟩ : ∃ z : List Loc, z = [] := ⟨_, rfl⟩
  have hP : va_P E.1 vwCl [(aLi, o1 aLy aC aG aU aR aN aW (cO o) (nI tk) em lo lk de), (aLy, o0 (nI n) aK aX aY aF aS aL), (aF, ia E nI 16 fi), (aS, ia E nI 16 se), (aL, ia E cL 32 le), (aC, ja E 256 co), (aG, ja E 256 gi), (aU, ja E 1024 un)] H := by rw [hHe]; exact hP
  have hD : va_D A [(aLi, o1 aLy aC aG aU aR aN aW (cO o) (nI tk) em lo lk de), (aLy, o0 (nI n) aK aX aY aF aS aL), (aF, ia E nI 16 fi), (aS, ia E nI 16 se), (aL, ia E cL 32 le), (aC, ja E 256 co), (aG, ja E 256 gi), (aU, ja E 1024 un)] := hD
  have hS : va_S A s.heap H locs := by rw [hHe, hLe]; exact hS
  suffices hgo : W p l e _ s m _ below meth c H locs 0 0 _ (F0 m 0 ls []) by rw [hHe, hLe] at hgo; exact hgo
  clear hHe hLe
  refine lv_aload_n hx hb dX1_guide_0 rfl (lv_at hl 0 rfl) ?_
  refine va_get (D := E.1) (ci := 1) (v := .ref aLy) (C := RX1) (T := TX1) (N := 13) hx hb hts iX1 hown C0.1 hP 0 rfl rfl 0 (by decide) (hts (.fieldLink RX1 31 "Ringresonance$Light" "layout" "LRingresonance$Layout;") (by decide +kernel)) (fun _ h9 => h9) rfl dX1_guide_1 ?_
  refine va_get (D := E.1) (ci := 0) (v := .ref aS) (C := RX0) (T := TX0) (N := 7) hx hb hts iX0 hown C0.1 hP 1 rfl rfl 5 (by decide) (hts (.fieldLink RX1 92 "Ringresonance$Layout" "seconds" "[I") (by decide +kernel)) (fun _ h9 => h9) rfl dX1_guide_4 ?_
  refine lv_iload_n hx hb dX1_guide_7 rfl (lv_at hl 1 rfl) ?_
  refine k_iald (e := pt) (g := nI) (n := 16) hx hb C0 hP 3 rfl (by omega) (by omega) dX1_guide_8 ?_
  refine lv_istore_n (lv' := [(2, .int (nI (se pt))), (0, .ref aLi), (1, .int (nI pt))]) hx hb dX1_guide_9 rfl hl (by decide) rfl (fun ls hl => ?_)
  refine lv_aload_n hx hb dX1_guide_10 rfl (lv_at hl 1 rfl) ?_
  refine va_get (D := E.1) (ci := 1) (v := .ref aLy) (C := RX1) (T := TX1) (N := 13) hx hb hts iX1 hown C0.1 hP 0 rfl rfl 0 (by decide) (hts (.fieldLink RX1 31 "Ringresonance$Light" "layout" "LRingresonance$Layout;") (by decide +kernel)) (fun _ h9 => h9) rfl dX1_guide_11 ?_
  refine va_get (D := E.1) (ci := 0) (v := .ref aF) (C := RX0) (T := TX0) (N := 7) hx hb hts iX0 hown C0.1 hP 1 rfl rfl 4 (by decide) (hts (.fieldLink RX1 95 "Ringresonance$Layout" "firsts" "[I") (by decide +kernel)) (fun _ h9 => h9) rfl dX1_guide_14 ?_
  refine lv_iload_n hx hb dX1_guide_17 rfl (lv_at hl 2 rfl) ?_
  refine k_iald (e := pt) (g := nI) (n := 16) hx hb C0 hP 2 rfl (by omega) (by omega) dX1_guide_18 ?_
  refine lv_iconst (v := nI 1) hx hb dX1_guide_19 (by decide) ?_
  refine lv_isub hx hb dX1_guide_20 ?_
  refine lv_ri (y := (nI ((fi pt) - 1))) (pk_sub (by omega)) ?_
  refine lv_istore_n (lv' := [(3, .int (nI ((fi pt) - 1))), (2, .int (nI (se pt))), (0, .ref aLi), (1, .int (nI pt))]) hx hb dX1_guide_21 rfl hl (by decide) rfl (fun ls hl => ?_)
  refine lv_iload_n hx hb dX1_guide_22 rfl (lv_at hl 3 rfl) ?_
  refine lv_aload_n hx hb dX1_guide_23 rfl (lv_at hl 2 rfl) ?_
  refine va_get (D := E.1) (ci := 1) (v := .int (nI tk)) (C := RX1) (T := TX1) (N := 13) hx hb hts iX1 hown C0.1 hP 0 rfl rfl 8 (by decide) (hts (.fieldLink RX1 45 "Ringresonance$Light" "ticks" "I") (by decide +kernel)) (fun _ h9 => h9) rfl dX1_guide_24 ?_
  refine lv_ri (y := (cO (tk + 8))) (nI_cO _) ?_
  have hPc := hP.pick (ws' := []) [] rfl
  have hDc := hD.sub (ws' := []) [] (by decide) rfl
  refine kcI (wr := [(aLi, o1 aLy aC aG aU aR aN aW (cO o) (nI tk) em lo lk de), (aLy, o0 (nI n) aK aX aY aF aS aL), (aF, ia E nI 16 fi), (aS, ia E nI 16 se), (aL, ia E cL 32 le), (aC, ja E 256 co), (aG, ja E 256 gi), (aU, ja E 1024 un)]) (w1 := fun _ : Unit => []) (w2 := fun _ => [(aLi, o1 aLy aC aG aU aR aN aW (cO o) (nI tk) em lo lk de), (aLy, o0 (nI n) aK aX aY aF aS aL), (aF, ia E nI 16 fi), (aS, ia E nI 16 se), (aL, ia E cL 32 le), (aC, ja E 256 co), (aG, ja E 256 gi), (aU, ja E 1024 un)]) (va_runS (As := [.int (nI pt), .int (cO (tk + 8))]) (rest := []) ⟨hx, hb, hml, hown, hts⟩ (c_slotOf l E H.size pt (tk + 8) (by omega) (by omega)) (va_cwS 2 hts gX1_guide_X1_slotOf rfl rfl rfl (by decide +kernel) ⟨Nat.le_of_ble_eq_true rfl, Nat.le_of_ble_eq_true rfl⟩) (preS C0 hPc hDc hS) rfl rfl hl.1 rfl (lv_room (Nat.le_of_ble_eq_true rfl)) dX1_guide_27 ⟨Nat.le_refl _, Nat.le_refl _⟩) C0 hP hD hS [] [0, 1, 2, 3, 4, 5, 6, 7] [0, 1, 2, 3, 4, 5, 6, 7] rfl rfl (by decide) (by decide) (fun _ => rfl) (by decide) (fun r_9 _u H locs hw hP hD hS => ?_)
  have hP : va_P E.1 vwCl [(aLi, o1 aLy aC aG aU aR aN aW (cO o) (nI tk) em lo lk de), (aLy, o0 (nI n) aK aX aY aF aS aL), (aF, ia E nI 16 fi), (aS, ia E nI 16 se), (aL, ia E cL 32 le), (aC, ja E 256 co), (aG, ja E 256 gi), (aU, ja E 1024 un)] H := hP
  have hD : va_D A [(aLi, o1 aLy aC aG aU aR aN aW (cO o) (nI tk) em lo lk de), (aLy, o0 (nI n) aK aX aY aF aS aL), (aF, ia E nI 16 fi), (aS, ia E nI 16 se), (aL, ia E cL 32 le), (aC, ja E 256 co), (aG, ja E 256 gi), (aU, ja E 1024 un)] := hD
  have hw : r_9 = nI ((pt * 8 + (tk + 8) % 8) * 8) := hw
  subst hw
  refine lv_istore (lv' := [(4, .int (nI ((pt * 8 + (tk + 8) % 8) * 8))), (3, .int (nI ((fi pt) - 1))), (2, .int (nI (se pt))), (0, .ref aLi), (1, .int (nI pt))]) hx hb dX1_guide_30 hl (by decide) rfl (fun ls hl => ?_)
  refine lv_iload_n hx hb dX1_guide_32 rfl (lv_at hl 4 rfl) ?_
  refine lv_aload_n hx hb dX1_guide_33 rfl (lv_at hl 3 rfl) ?_
  refine va_get (D := E.1) (ci := 1) (v := .int (nI tk)) (C := RX1) (T := TX1) (N := 13) hx hb hts iX1 hown C0.1 hP 0 rfl rfl 8 (by decide) (hts (.fieldLink RX1 45 "Ringresonance$Light" "ticks" "I") (by decide +kernel)) (fun _ h9 => h9) rfl dX1_guide_34 ?_
  refine lv_iload_n hx hb dX1_guide_37 rfl (lv_at hl 1 rfl) ?_
  refine lv_isub hx hb dX1_guide_38 ?_
  refine lv_ri (y := (cO (tk + 8 - (fi pt - 1)))) (cO_sub (by omega)) ?_
  have hPc := hP.pick (ws' := []) [] rfl
  have hDc := hD.sub (ws' := []) [] (by decide) rfl
  refine kcI (wr := [(aLi, o1 aLy aC aG aU aR aN aW (cO o) (nI tk) em lo lk de), (aLy, o0 (nI n) aK aX aY aF aS aL), (aF, ia E nI 16 fi), (aS, ia E nI 16 se), (aL, ia E cL 32 le), (aC, ja E 256 co), (aG, ja E 256 gi), (aU, ja E 1024 un)]) (w1 := fun _ : Unit => []) (w2 := fun _ => [(aLi, o1 aLy aC aG aU aR aN aW (cO o) (nI tk) em lo lk de), (aLy, o0 (nI n) aK aX aY aF aS aL), (aF, ia E nI 16 fi), (aS, ia E nI 16 se), (aL, ia E cL 32 le), (aC, ja E 256 co), (aG, ja E 256 gi), (aU, ja E 1024 un)]) (va_runS (As := [.int (nI pt), .int (cO (tk + 8 - (fi pt - 1)))]) (rest := []) ⟨hx, hb, hml, hown, hts⟩ (c_slotOf l E H.size pt (tk + 8 - (fi pt - 1)) (by omega) (by omega)) (va_cwS 2 hts gX1_guide_X1_slotOf rfl rfl rfl (by decide +kernel) ⟨Nat.le_of_ble_eq_true rfl, Nat.le_of_ble_eq_true rfl⟩) (preS C0 hPc hDc hS) rfl rfl hl.1 rfl (lv_room (Nat.le_of_ble_eq_true rfl)) dX1_guide_39 ⟨Nat.le_refl _, Nat.le_refl _⟩) C0 hP hD hS [] [0, 1, 2, 3, 4, 5, 6, 7] [0, 1, 2, 3, 4, 5, 6, 7] rfl rfl (by decide) (by decide) (fun _ => rfl) (by decide) (fun r_9 _u H locs hw hP hD hS => ?_)
  have hP : va_P E.1 vwCl [(aLi, o1 aLy aC aG aU aR aN aW (cO o) (nI tk) em lo lk de), (aLy, o0 (nI n) aK aX aY aF aS aL), (aF, ia E nI 16 fi), (aS, ia E nI 16 se), (aL, ia E cL 32 le), (aC, ja E 256 co), (aG, ja E 256 gi), (aU, ja E 1024 un)] H := hP
  have hD : va_D A [(aLi, o1 aLy aC aG aU aR aN aW (cO o) (nI tk) em lo lk de), (aLy, o0 (nI n) aK aX aY aF aS aL), (aF, ia E nI 16 fi), (aS, ia E nI 16 se), (aL, ia E cL 32 le), (aC, ja E 256 co), (aG, ja E 256 gi), (aU, ja E 1024 un)] := hD
  have hw : r_9 = nI ((pt * 8 + (tk + 8 - (fi pt - 1)) % 8) * 8) := hw
  subst hw
  refine lv_istore (lv' := [(5, .int (nI ((pt * 8 + (tk + 8 - (fi pt - 1)) % 8) * 8))), (4, .int (nI ((pt * 8 + (tk + 8) % 8) * 8))), (3, .int (nI ((fi pt) - 1))), (2, .int (nI (se pt))), (0, .ref aLi), (1, .int (nI pt))]) hx hb dX1_guide_42 hl (by decide) rfl (fun ls hl => ?_)
  refine lv_iconst (v := nI 0) hx hb dX1_guide_44 (by decide) ?_
  refine lv_istore (lv' := [(6, .int (nI 0)), (5, .int (nI ((pt * 8 + (tk + 8 - (fi pt - 1)) % 8) * 8))), (4, .int (nI ((pt * 8 + (tk + 8) % 8) * 8))), (3, .int (nI ((fi pt) - 1))), (2, .int (nI (se pt))), (0, .ref aLi), (1, .int (nI pt))]) hx hb dX1_guide_45 hl (by decide) rfl (fun ls hl => ?_)
  have LP_1 : ∀ (nz i_3 : Nat), i_3 ≤ 8 → 8 < i_3 + nz → ∀ (H : Heap) (locs : List Loc), va_P E.1 vwCl [(aLi, o1 aLy aC aG aU aR aN aW (cO o) (nI tk) em ((rp (gdB le se fi tk pt) (i_3) (co, gi, un, lo, lk)).2.2.2.1) ((rp (gdB le se fi tk pt) (i_3) (co, gi, un, lo, lk)).2.2.2.2) de), (aLy, o0 (nI n) aK aX aY aF aS aL), (aF, ia E nI 16 fi), (aS, ia E nI 16 se), (aL, ia E cL 32 le), (aC, ja E 256 ((rp (gdB le se fi tk pt) (i_3) (co, gi, un, lo, lk)).1)), (aG, ja E 256 ((rp (gdB le se fi tk pt) (i_3) (co, gi, un, lo, lk)).2.1)), (aU, ja E 1024 ((rp (gdB le se fi tk pt) (i_3) (co, gi, un, lo, lk)).2.2.1))] H → va_D A [(aLi, o1 aLy aC aG aU aR aN aW (cO o) (nI tk) em ((rp (gdB le se fi tk pt) (i_3) (co, gi, un, lo, lk)).2.2.2.1) ((rp (gdB le se fi tk pt) (i_3) (co, gi, un, lo, lk)).2.2.2.2) de), (aLy, o0 (nI n) aK aX aY aF aS aL), (aF, ia E nI 16 fi), (aS, ia E nI 16 se), (aL, ia E cL 32 le), (aC, ja E 256 ((rp (gdB le se fi tk pt) (i_3) (co, gi, un, lo, lk)).1)), (aG, ja E 256 ((rp (gdB le se fi tk pt) (i_3) (co, gi, un, lo, lk)).2.1)), (aU, ja E 1024 ((rp (gdB le se fi tk pt) (i_3) (co, gi, un, lo, lk)).2.2.1))] → va_S A s.heap H locs → ∀ (ls : Array Slot), lv_has ls 11 [(0, .ref aLi), (1, .int (nI pt)), (2, .int (nI (se pt))), (3, .int (nI (fi pt - 1))), (4, .int (nI ((pt * 8 + (tk + 8) % 8) * 8))), (5, .int (nI ((pt * 8 + (tk + 8 - (fi pt - 1)) % 8) * 8))), (6, .int (nI i_3))] → W p l e ({ frames := 2, cells := 0, slots := 0, locals := 47 }) s m (([.ref aLi, .int (nI pt)] : List Value).toArray) below meth c H locs 0 0 (MQ below (va_Qv (fun _ : Unit => True) (Wd E [(aLi, o1 aLy aC aG aU aR aN aW (cO o) (nI tk) em lo lk de), (aLy, o0 (nI n) aK aX aY aF aS aL), (aF, ia E nI 16 fi), (aS, ia E nI 16 se), (aL, ia E cL 32 le), (aC, ja E 256 co), (aG, ja E 256 gi), (aU, ja E 1024 un)] s.heap.size (fun _ => [(aLi, o1 aLy aC aG aU aR aN aW (cO o) (nI tk) em ((rp (gdB le se fi tk pt) (8) (co, gi, un, lo, lk)).2.2.2.1) ((rp (gdB le se fi tk pt) (8) (co, gi, un, lo, lk)).2.2.2.2) de), (aLy, o0 (nI n) aK aX aY aF aS aL), (aF, ia E nI 16 fi), (aS, ia E nI 16 se), (aL, ia E cL 32 le), (aC, ja E 256 ((rp (gdB le se fi tk pt) (8) (co, gi, un, lo, lk)).1)), (aG, ja E 256 ((rp (gdB le se fi tk pt) (8) (co, gi, un, lo, lk)).2.1)), (aU, ja E 1024 ((rp (gdB le se fi tk pt) (8) (co, gi, un, lo, lk)).2.2.1))])) A) (([.ref aLi, .int (nI pt)] : List Value).toArray) s 0 0 A) (F0 m 47 ls []) := by
    intro nz
    induction nz with
    | zero =>
      intro i_3 h1 h2
      exact absurd h2 (by omega)
    | succ nz ih_2 =>
      intro i_3 hi_i_3 hn_i_3 H locs hP hD hS ls hl
      refine lv_iload hx hb dX1_guide_47 (lv_at hl 6 rfl) ?_
      refine lv_bipush (v := nI 8) hx hb dX1_guide_49 (by decide) ?_
      refine lv_icmp_ge (tgt := 125) hx hb dX1_guide_51 (by decide) (fun c_4 => ?_) (fun c_4 => ?_)
      · skip
        have c_4 : 8 ≤ i_3 := (ci_ge (by omega) (by omega)).mp c_4
        obtain rfl : 8 = i_3 := by omega
        exact exV hx hb hr hlocks hAe hS () trivial hP hD dX1_guide_125
      · skip
        have c_4 : ¬ (8 ≤ i_3) := fun h => c_4 ((ci_ge (by omega) (by omega)).mpr h)
        refine lv_aload_n hx hb dX1_guide_54 rfl (lv_at hl 0 rfl) ?_
        refine lv_iload_n hx hb dX1_guide_55 rfl (lv_at hl 1 rfl) ?_
        refine lv_iconst (v := nI 0) hx hb dX1_guide_56 (by decide) ?_
        refine lv_iload hx hb dX1_guide_57 (lv_at hl 6 rfl) ?_
        have hPc := hP.pick (ws' := [(aLi, o1 aLy aC aG aU aR aN aW (cO o) (nI tk) em ((rp (gdB le se fi tk pt) (i_3) (co, gi, un, lo, lk)).2.2.2.1) ((rp (gdB le se fi tk pt) (i_3) (co, gi, un, lo, lk)).2.2.2.2) de), (aC, ja E 256 ((rp (gdB le se fi tk pt) (i_3) (co, gi, un, lo, lk)).1))]) [0, 5] rfl
        have hDc := hD.sub (ws' := [(aLi, o1 aLy aC aG aU aR aN aW (cO o) (nI tk) em ((rp (gdB le se fi tk pt) (i_3) (co, gi, un, lo, lk)).2.2.2.1) ((rp (gdB le se fi tk pt) (i_3) (co, gi, un, lo, lk)).2.2.2.2) de), (aC, ja E 256 ((rp (gdB le se fi tk pt) (i_3) (co, gi, un, lo, lk)).1))]) [0, 5] (by decide) rfl
        refine kcL (wr := [(aLy, o0 (nI n) aK aX aY aF aS aL), (aF, ia E nI 16 fi), (aS, ia E nI 16 se), (aL, ia E cL 32 le), (aG, ja E 256 ((rp (gdB le se fi tk pt) (i_3) (co, gi, un, lo, lk)).2.1)), (aU, ja E 1024 ((rp (gdB le se fi tk pt) (i_3) (co, gi, un, lo, lk)).2.2.1))]) (w1 := fun _ : Unit => [(aLi, o1 aLy aC aG aU aR aN aW (cO o) (nI tk) em ((rp (gdB le se fi tk pt) (i_3) (co, gi, un, lo, lk)).2.2.2.1) ((rp (gdB le se fi tk pt) (i_3) (co, gi, un, lo, lk)).2.2.2.2) de), (aC, ja E 256 (va_up ((rp (gdB le se fi tk pt) (i_3) (co, gi, un, lo, lk)).1) ((pt * 2 + 0) * 8 + i_3) 0))]) (w2 := fun _ => [(aLi, o1 aLy aC aG aU aR aN aW (cO o) (nI tk) em ((rp (gdB le se fi tk pt) (i_3) (co, gi, un, lo, lk)).2.2.2.1) ((rp (gdB le se fi tk pt) (i_3) (co, gi, un, lo, lk)).2.2.2.2) de), (aLy, o0 (nI n) aK aX aY aF aS aL), (aF, ia E nI 16 fi), (aS, ia E nI 16 se), (aL, ia E cL 32 le), (aC, ja E 256 (va_up ((rp (gdB le se fi tk pt) (i_3) (co, gi, un, lo, lk)).1) ((pt * 2 + 0) * 8 + i_3) 0)), (aG, ja E 256 ((rp (gdB le se fi tk pt) (i_3) (co, gi, un, lo, lk)).2.1)), (aU, ja E 1024 ((rp (gdB le se fi tk pt) (i_3) (co, gi, un, lo, lk)).2.2.1))]) (va_runV (As := [.int (nI pt), .int (nI 0), .int (nI i_3)]) (rest := []) ⟨hx, hb, hml, hown, hts⟩ (c_take l E H.size pt 0 i_3 aLy aLi aC aG aU aR aN aW o tk em ((rp (gdB le se fi tk pt) (i_3) (co, gi, un, lo, lk)).2.2.2.1) ((rp (gdB le se fi tk pt) (i_3) (co, gi, un, lo, lk)).2.2.2.2) de ((rp (gdB le se fi tk pt) (i_3) (co, gi, un, lo, lk)).1) (by omega) (by omega) (by omega)) (cwV 3 hts gX1_guide_X1_take rfl rfl rfl (by decide +kernel) ⟨Nat.le_of_ble_eq_true rfl, Nat.le_of_ble_eq_true rfl⟩) (preV C0 hPc hDc hS 0 rfl rfl) rfl rfl hl.1 rfl (lv_room (Nat.le_of_ble_eq_true rfl)) dX1_guide_59 ⟨Nat.le_refl _, Nat.le_refl _⟩) C0 hP hD hS [0, 5] [1, 2, 3, 4, 6, 7] [6, 0, 1, 2, 3, 7, 4, 5] rfl rfl (by decide) (by decide) (fun _ => rfl) (by decide) (fun r_9 _u H locs hw hP hD hS => ?_)
        have hP : va_P E.1 vwCl [(aLi, o1 aLy aC aG aU aR aN aW (cO o) (nI tk) em ((rp (gdB le se fi tk pt) (i_3) (co, gi, un, lo, lk)).2.2.2.1) ((rp (gdB le se fi tk pt) (i_3) (co, gi, un, lo, lk)).2.2.2.2) de), (aLy, o0 (nI n) aK aX aY aF aS aL), (aF, ia E nI 16 fi), (aS, ia E nI 16 se), (aL, ia E cL 32 le), (aC, ja E 256 (va_up ((rp (gdB le se fi tk pt) (i_3) (co, gi, un, lo, lk)).1) ((pt * 2 + 0) * 8 + i_3) 0)), (aG, ja E 256 ((rp (gdB le se fi tk pt) (i_3) (co, gi, un, lo, lk)).2.1)), (aU, ja E 1024 ((rp (gdB le se fi tk pt) (i_3) (co, gi, un, lo, lk)).2.2.1))] H := hP
        have hD : va_D A [(aLi, o1 aLy aC aG aU aR aN aW (cO o) (nI tk) em ((rp (gdB le se fi tk pt) (i_3) (co, gi, un, lo, lk)).2.2.2.1) ((rp (gdB le se fi tk pt) (i_3) (co, gi, un, lo, lk)).2.2.2.2) de), (aLy, o0 (nI n) aK aX aY aF aS aL), (aF, ia E nI 16 fi), (aS, ia E nI 16 se), (aL, ia E cL 32 le), (aC, ja E 256 (va_up ((rp (gdB le se fi tk pt) (i_3) (co, gi, un, lo, lk)).1) ((pt * 2 + 0) * 8 + i_3) 0)), (aG, ja E 256 ((rp (gdB le se fi tk pt) (i_3) (co, gi, un, lo, lk)).2.1)), (aU, ja E 1024 ((rp (gdB le se fi tk pt) (i_3) (co, gi, un, lo, lk)).2.2.1))] := hD
        have hw : r_9 = ((rp (gdB le se fi tk pt) (i_3) (co, gi, un, lo, lk)).1) ((pt * 2 + 0) * 8 + i_3) := hw
        subst hw
        refine lv_lstore (lv' := [(7, .long (((rp (gdB le se fi tk pt) (i_3) (co, gi, un, lo, lk)).1) ((pt * 2 + 0) * 8 + i_3))), (0, .ref aLi), (1, .int (nI pt)), (2, .int (nI (se pt))), (3, .int (nI (fi pt - 1))), (4, .int (nI ((pt * 8 + (tk + 8) % 8) * 8))), (5, .int (nI ((pt * 8 + (tk + 8 - (fi pt - 1)) % 8) * 8))), (6, .int (nI i_3))]) hx hb dX1_guide_62 hl (by decide) rfl (fun ls hl => ?_)
        refine lv_lload hx hb dX1_guide_64 (lv_at hl 0 rfl) ?_
        refine lv_iload_n hx hb dX1_guide_66 rfl (lv_at hl 3 rfl) ?_
        refine lv_i2l (v := iL (se pt)) hx hb dX1_guide_67 rfl ?_
        refine lv_lmul hx hb dX1_guide_68 ?_
        refine lv_ldc2 (v := 100) hx hb hown (hts (.constantLong RX1 110 (100)) (by decide +kernel)) dX1_guide_69 ?_
        refine lv_ldiv hx hb dX1_guide_72 (by decide) ?_
        refine lv_lstore (lv' := [(9, .long (((((rp (gdB le se fi tk pt) (i_3) (co, gi, un, lo, lk)).1) ((pt * 2 + 0) * 8 + i_3)) * (iL (se pt))) / 100)), (7, .long (((rp (gdB le se fi tk pt) (i_3) (co, gi, un, lo, lk)).1) ((pt * 2 + 0) * 8 + i_3))), (0, .ref aLi), (1, .int (nI pt)), (2, .int (nI (se pt))), (3, .int (nI (fi pt - 1))), (4, .int (nI ((pt * 8 + (tk + 8) % 8) * 8))), (5, .int (nI ((pt * 8 + (tk + 8 - (fi pt - 1)) % 8) * 8))), (6, .int (nI i_3))]) hx hb dX1_guide_73 hl (by decide) rfl (fun ls hl => ?_)
        refine lv_aload_n hx hb dX1_guide_75 rfl (lv_at hl 2 rfl) ?_
        refine lv_dup hx hb dX1_guide_76 rfl ?_
        refine va_get (D := E.1) (ci := 1) (v := .long ((rp (gdB le se fi tk pt) (i_3) (co, gi, un, lo, lk)).2.2.2.1)) (C := RX1) (T := TX1) (N := 13) hx hb hts iX1 hown C0.1 hP 0 rfl rfl 10 (by decide) (hts (.fieldLink RX1 52 "Ringresonance$Light" "lost" "J") (by decide +kernel)) (fun _ h9 => h9) rfl dX1_guide_77 ?_
        refine lv_lload hx hb dX1_guide_80 (lv_at hl 0 rfl) ?_
        refine lv_ladd hx hb dX1_guide_82 ?_
        refine va_put (D := E.1) (ci := 1) (v := .long (((rp (gdB le se fi tk pt) (i_3) (co, gi, un, lo, lk)).2.2.2.1) + (((((rp (gdB le se fi tk pt) (i_3) (co, gi, un, lo, lk)).1) ((pt * 2 + 0) * 8 + i_3)) * (iL (se pt))) / 100))) (ty := .long) (C := RX1) (T := TX1) (N := 13) hx hb hts iX1 tyX1 tyX1_ok nmX1 hown C0.1 hP hD hS 0 rfl rfl 10 (by decide) (hts (.fieldLink RX1 52 "Ringresonance$Light" "lost" "J") (by decide +kernel)) (fun _ h9 => h9) rfl (by decide +kernel) rfl rfl (Nat.le_of_ble_eq_true rfl) dX1_guide_83 (fun H locs hP hD hS => ?_)
        have hP : va_P E.1 vwCl [(aLi, o1 aLy aC aG aU aR aN aW (cO o) (nI tk) em (((rp (gdB le se fi tk pt) (i_3) (co, gi, un, lo, lk)).2.2.2.1) + (((((rp (gdB le se fi tk pt) (i_3) (co, gi, un, lo, lk)).1) ((pt * 2 + 0) * 8 + i_3)) * (iL (se pt))) / 100)) ((rp (gdB le se fi tk pt) (i_3) (co, gi, un, lo, lk)).2.2.2.2) de), (aLy, o0 (nI n) aK aX aY aF aS aL), (aF, ia E nI 16 fi), (aS, ia E nI 16 se), (aL, ia E cL 32 le), (aC, ja E 256 (va_up ((rp (gdB le se fi tk pt) (i_3) (co, gi, un, lo, lk)).1) ((pt * 2 + 0) * 8 + i_3) 0)), (aG, ja E 256 ((rp (gdB le se fi tk pt) (i_3) (co, gi, un, lo, lk)).2.1)), (aU, ja E 1024 ((rp (gdB le se fi tk pt) (i_3) (co, gi, un, lo, lk)).2.2.1))] H := hP
        have hD : va_D A [(aLi, o1 aLy aC aG aU aR aN aW (cO o) (nI tk) em (((rp (gdB le se fi tk pt) (i_3) (co, gi, un, lo, lk)).2.2.2.1) + (((((rp (gdB le se fi tk pt) (i_3) (co, gi, un, lo, lk)).1) ((pt * 2 + 0) * 8 + i_3)) * (iL (se pt))) / 100)) ((rp (gdB le se fi tk pt) (i_3) (co, gi, un, lo, lk)).2.2.2.2) de), (aLy, o0 (nI n) aK aX aY aF aS aL), (aF, ia E nI 16 fi), (aS, ia E nI 16 se), (aL, ia E cL 32 le), (aC, ja E 256 (va_up ((rp (gdB le se fi tk pt) (i_3) (co, gi, un, lo, lk)).1) ((pt * 2 + 0) * 8 + i_3) 0)), (aG, ja E 256 ((rp (gdB le se fi tk pt) (i_3) (co, gi, un, lo, lk)).2.1)), (aU, ja E 1024 ((rp (gdB le se fi tk pt) (i_3) (co, gi, un, lo, lk)).2.2.1))] := hD
        refine lv_aload_n hx hb dX1_guide_86 rfl (lv_at hl 2 rfl) ?_
        refine va_get (D := E.1) (ci := 1) (v := .ref aU) (C := RX1) (T := TX1) (N := 13) hx hb hts iX1 hown C0.1 hP 0 rfl rfl 3 (by decide) (hts (.fieldLink RX1 18 "Ringresonance$Light" "underWay" "[J") (by decide +kernel)) (fun _ h9 => h9) rfl dX1_guide_87 ?_
        refine lv_iload hx hb dX1_guide_90 (lv_at hl 6 rfl) ?_
        refine lv_iload hx hb dX1_guide_92 (lv_at hl 8 rfl) ?_
        refine lv_iadd hx hb dX1_guide_94 ?_
        refine lv_ri (y := (nI (((pt * 8 + (tk + 8) % 8) * 8) + i_3))) (nI_add ((pt * 8 + (tk + 8) % 8) * 8) i_3) ?_
        refine lv_lload hx hb dX1_guide_95 (lv_at hl 1 rfl) ?_
        refine lv_lload hx hb dX1_guide_97 (lv_at hl 0 rfl) ?_
        refine lv_lsub hx hb dX1_guide_99 ?_
        refine k_last (e := (((pt * 8 + (tk + 8) % 8) * 8) + i_3)) (n := 1024) hx hb C0 hP hD hS 7 rfl (by omega) (by omega) dX1_guide_100 (fun H locs hP hD hS => ?_)
        have hP : va_P E.1 vwCl [(aLi, o1 aLy aC aG aU aR aN aW (cO o) (nI tk) em (((rp (gdB le se fi tk pt) (i_3) (co, gi, un, lo, lk)).2.2.2.1) + (((((rp (gdB le se fi tk pt) (i_3) (co, gi, un, lo, lk)).1) ((pt * 2 + 0) * 8 + i_3)) * (iL (se pt))) / 100)) ((rp (gdB le se fi tk pt) (i_3) (co, gi, un, lo, lk)).2.2.2.2) de), (aLy, o0 (nI n) aK aX aY aF aS aL), (aF, ia E nI 16 fi), (aS, ia E nI 16 se), (aL, ia E cL 32 le), (aC, ja E 256 (va_up ((rp (gdB le se fi tk pt) (i_3) (co, gi, un, lo, lk)).1) ((pt * 2 + 0) * 8 + i_3) 0)), (aG, ja E 256 ((rp (gdB le se fi tk pt) (i_3) (co, gi, un, lo, lk)).2.1)), (aU, ja E 1024 (va_up ((rp (gdB le se fi tk pt) (i_3) (co, gi, un, lo, lk)).2.2.1) (((pt * 8 + (tk + 8) % 8) * 8) + i_3) ((((rp (gdB le se fi tk pt) (i_3) (co, gi, un, lo, lk)).1) ((pt * 2 + 0) * 8 + i_3)) - (((((rp (gdB le se fi tk pt) (i_3) (co, gi, un, lo, lk)).1) ((pt * 2 + 0) * 8 + i_3)) * (iL (se pt))) / 100))))] H := hP
        have hD : va_D A [(aLi, o1 aLy aC aG aU aR aN aW (cO o) (nI tk) em (((rp (gdB le se fi tk pt) (i_3) (co, gi, un, lo, lk)).2.2.2.1) + (((((rp (gdB le se fi tk pt) (i_3) (co, gi, un, lo, lk)).1) ((pt * 2 + 0) * 8 + i_3)) * (iL (se pt))) / 100)) ((rp (gdB le se fi tk pt) (i_3) (co, gi, un, lo, lk)).2.2.2.2) de), (aLy, o0 (nI n) aK aX aY aF aS aL), (aF, ia E nI 16 fi), (aS, ia E nI 16 se), (aL, ia E cL 32 le), (aC, ja E 256 (va_up ((rp (gdB le se fi tk pt) (i_3) (co, gi, un, lo, lk)).1) ((pt * 2 + 0) * 8 + i_3) 0)), (aG, ja E 256 ((rp (gdB le se fi tk pt) (i_3) (co, gi, un, lo, lk)).2.1)), (aU, ja E 1024 (va_up ((rp (gdB le se fi tk pt) (i_3) (co, gi, un, lo, lk)).2.2.1) (((pt * 8 + (tk + 8) % 8) * 8) + i_3) ((((rp (gdB le se fi tk pt) (i_3) (co, gi, un, lo, lk)).1) ((pt * 2 + 0) * 8 + i_3)) - (((((rp (gdB le se fi tk pt) (i_3) (co, gi, un, lo, lk)).1) ((pt * 2 + 0) * 8 + i_3)) * (iL (se pt))) / 100))))] := hD
        refine lv_aload_n hx hb dX1_guide_101 rfl (lv_at hl 2 rfl) ?_
        refine lv_iload_n hx hb dX1_guide_102 rfl (lv_at hl 3 rfl) ?_
        refine lv_iconst (v := nI 0) hx hb dX1_guide_103 (by decide) ?_
        refine lv_iload hx hb dX1_guide_104 (lv_at hl 8 rfl) ?_
        refine lv_aload_n hx hb dX1_guide_106 rfl (lv_at hl 2 rfl) ?_
        refine va_get (D := E.1) (ci := 1) (v := .ref aU) (C := RX1) (T := TX1) (N := 13) hx hb hts iX1 hown C0.1 hP 0 rfl rfl 3 (by decide) (hts (.fieldLink RX1 18 "Ringresonance$Light" "underWay" "[J") (by decide +kernel)) (fun _ h9 => h9) rfl dX1_guide_107 ?_
        refine lv_iload hx hb dX1_guide_110 (lv_at hl 7 rfl) ?_
        refine lv_iload hx hb dX1_guide_112 (lv_at hl 8 rfl) ?_
        refine lv_iadd hx hb dX1_guide_114 ?_
        refine lv_ri (y := (nI (((pt * 8 + (tk + 8 - (fi pt - 1)) % 8) * 8) + i_3))) (nI_add ((pt * 8 + (tk + 8 - (fi pt - 1)) % 8) * 8) i_3) ?_
        refine k_lald (e := (((pt * 8 + (tk + 8 - (fi pt - 1)) % 8) * 8) + i_3)) (n := 1024) hx hb C0 hP 7 rfl (by omega) (by omega) dX1_guide_115 ?_
        have hPc := hP.pick (ws' := [(aLi, o1 aLy aC aG aU aR aN aW (cO o) (nI tk) em (((rp (gdB le se fi tk pt) (i_3) (co, gi, un, lo, lk)).2.2.2.1) + (((((rp (gdB le se fi tk pt) (i_3) (co, gi, un, lo, lk)).1) ((pt * 2 + 0) * 8 + i_3)) * (iL (se pt))) / 100)) ((rp (gdB le se fi tk pt) (i_3) (co, gi, un, lo, lk)).2.2.2.2) de), (aLy, o0 (nI n) aK aX aY aF aS aL), (aL, ia E cL 32 le), (aG, ja E 256 ((rp (gdB le se fi tk pt) (i_3) (co, gi, un, lo, lk)).2.1))]) [0, 1, 4, 6] rfl
        have hDc := hD.sub (ws' := [(aLi, o1 aLy aC aG aU aR aN aW (cO o) (nI tk) em (((rp (gdB le se fi tk pt) (i_3) (co, gi, un, lo, lk)).2.2.2.1) + (((((rp (gdB le se fi tk pt) (i_3) (co, gi, un, lo, lk)).1) ((pt * 2 + 0) * 8 + i_3)) * (iL (se pt))) / 100)) ((rp (gdB le se fi tk pt) (i_3) (co, gi, un, lo, lk)).2.2.2.2) de), (aLy, o0 (nI n) aK aX aY aF aS aL), (aL, ia E cL 32 le), (aG, ja E 256 ((rp (gdB le se fi tk pt) (i_3) (co, gi, un, lo, lk)).2.1))]) [0, 1, 4, 6] (by decide) rfl
        refine kcV (wr := [(aF, ia E nI 16 fi), (aS, ia E nI 16 se), (aC, ja E 256 (va_up ((rp (gdB le se fi tk pt) (i_3) (co, gi, un, lo, lk)).1) ((pt * 2 + 0) * 8 + i_3) 0)), (aU, ja E 1024 (va_up ((rp (gdB le se fi tk pt) (i_3) (co, gi, un, lo, lk)).2.2.1) (((pt * 8 + (tk + 8) % 8) * 8) + i_3) ((((rp (gdB le se fi tk pt) (i_3) (co, gi, un, lo, lk)).1) ((pt * 2 + 0) * 8 + i_3)) - (((((rp (gdB le se fi tk pt) (i_3) (co, gi, un, lo, lk)).1) ((pt * 2 + 0) * 8 + i_3)) * (iL (se pt))) / 100))))]) (w1 := fun _ : Unit => [(aLi, o1 aLy aC aG aU aR aN aW (cO o) (nI tk) em (((rp (gdB le se fi tk pt) (i_3) (co, gi, un, lo, lk)).2.2.2.1) + (((((rp (gdB le se fi tk pt) (i_3) (co, gi, un, lo, lk)).1) ((pt * 2 + 0) * 8 + i_3)) * (iL (se pt))) / 100)) (gvL (le (pt * 2 + 0)) ((va_up ((rp (gdB le se fi tk pt) (i_3) (co, gi, un, lo, lk)).2.2.1) (((pt * 8 + (tk + 8) % 8) * 8) + i_3) ((((rp (gdB le se fi tk pt) (i_3) (co, gi, un, lo, lk)).1) ((pt * 2 + 0) * 8 + i_3)) - (((((rp (gdB le se fi tk pt) (i_3) (co, gi, un, lo, lk)).1) ((pt * 2 + 0) * 8 + i_3)) * (iL (se pt))) / 100))) (((pt * 8 + (tk + 8 - (fi pt - 1)) % 8) * 8) + i_3)) ((rp (gdB le se fi tk pt) (i_3) (co, gi, un, lo, lk)).2.2.2.2)) de), (aLy, o0 (nI n) aK aX aY aF aS aL), (aL, ia E cL 32 le), (aG, ja E 256 (gvG (le (pt * 2 + 0)) i_3 ((va_up ((rp (gdB le se fi tk pt) (i_3) (co, gi, un, lo, lk)).2.2.1) (((pt * 8 + (tk + 8) % 8) * 8) + i_3) ((((rp (gdB le se fi tk pt) (i_3) (co, gi, un, lo, lk)).1) ((pt * 2 + 0) * 8 + i_3)) - (((((rp (gdB le se fi tk pt) (i_3) (co, gi, un, lo, lk)).1) ((pt * 2 + 0) * 8 + i_3)) * (iL (se pt))) / 100))) (((pt * 8 + (tk + 8 - (fi pt - 1)) % 8) * 8) + i_3)) ((rp (gdB le se fi tk pt) (i_3) (co, gi, un, lo, lk)).2.1)))]) (w2 := fun _ => [(aLi, o1 aLy aC aG aU aR aN aW (cO o) (nI tk) em (((rp (gdB le se fi tk pt) (i_3) (co, gi, un, lo, lk)).2.2.2.1) + (((((rp (gdB le se fi tk pt) (i_3) (co, gi, un, lo, lk)).1) ((pt * 2 + 0) * 8 + i_3)) * (iL (se pt))) / 100)) (gvL (le (pt * 2 + 0)) ((va_up ((rp (gdB le se fi tk pt) (i_3) (co, gi, un, lo, lk)).2.2.1) (((pt * 8 + (tk + 8) % 8) * 8) + i_3) ((((rp (gdB le se fi tk pt) (i_3) (co, gi, un, lo, lk)).1) ((pt * 2 + 0) * 8 + i_3)) - (((((rp (gdB le se fi tk pt) (i_3) (co, gi, un, lo, lk)).1) ((pt * 2 + 0) * 8 + i_3)) * (iL (se pt))) / 100))) (((pt * 8 + (tk + 8 - (fi pt - 1)) % 8) * 8) + i_3)) ((rp (gdB le se fi tk pt) (i_3) (co, gi, un, lo, lk)).2.2.2.2)) de), (aLy, o0 (nI n) aK aX aY aF aS aL), (aF, ia E nI 16 fi), (aS, ia E nI 16 se), (aL, ia E cL 32 le), (aC, ja E 256 (va_up ((rp (gdB le se fi tk pt) (i_3) (co, gi, un, lo, lk)).1) ((pt * 2 + 0) * 8 + i_3) 0)), (aG, ja E 256 (gvG (le (pt * 2 + 0)) i_3 ((va_up ((rp (gdB le se fi tk pt) (i_3) (co, gi, un, lo, lk)).2.2.1) (((pt * 8 + (tk + 8) % 8) * 8) + i_3) ((((rp (gdB le se fi tk pt) (i_3) (co, gi, un, lo, lk)).1) ((pt * 2 + 0) * 8 + i_3)) - (((((rp (gdB le se fi tk pt) (i_3) (co, gi, un, lo, lk)).1) ((pt * 2 + 0) * 8 + i_3)) * (iL (se pt))) / 100))) (((pt * 8 + (tk + 8 - (fi pt - 1)) % 8) * 8) + i_3)) ((rp (gdB le se fi tk pt) (i_3) (co, gi, un, lo, lk)).2.1))), (aU, ja E 1024 (va_up ((rp (gdB le se fi tk pt) (i_3) (co, gi, un, lo, lk)).2.2.1) (((pt * 8 + (tk + 8) % 8) * 8) + i_3) ((((rp (gdB le se fi tk pt) (i_3) (co, gi, un, lo, lk)).1) ((pt * 2 + 0) * 8 + i_3)) - (((((rp (gdB le se fi tk pt) (i_3) (co, gi, un, lo, lk)).1) ((pt * 2 + 0) * 8 + i_3)) * (iL (se pt))) / 100))))]) (va_runV (As := [.int (nI pt), .int (nI 0), .int (nI i_3), .long ((va_up ((rp (gdB le se fi tk pt) (i_3) (co, gi, un, lo, lk)).2.2.1) (((pt * 8 + (tk + 8) % 8) * 8) + i_3) ((((rp (gdB le se fi tk pt) (i_3) (co, gi, un, lo, lk)).1) ((pt * 2 + 0) * 8 + i_3)) - (((((rp (gdB le se fi tk pt) (i_3) (co, gi, un, lo, lk)).1) ((pt * 2 + 0) * 8 + i_3)) * (iL (se pt))) / 100))) (((pt * 8 + (tk + 8 - (fi pt - 1)) % 8) * 8) + i_3))]) (rest := []) ⟨hx, hb, hml, hown, hts⟩ (c_give l E H.size pt 0 i_3 ((va_up ((rp (gdB le se fi tk pt) (i_3) (co, gi, un, lo, lk)).2.2.1) (((pt * 8 + (tk + 8) % 8) * 8) + i_3) ((((rp (gdB le se fi tk pt) (i_3) (co, gi, un, lo, lk)).1) ((pt * 2 + 0) * 8 + i_3)) - (((((rp (gdB le se fi tk pt) (i_3) (co, gi, un, lo, lk)).1) ((pt * 2 + 0) * 8 + i_3)) * (iL (se pt))) / 100))) (((pt * 8 + (tk + 8 - (fi pt - 1)) % 8) * 8) + i_3)) aLy aK aX aY aF aS aL n aLi aC aG aU aR aN aW o tk em (((rp (gdB le se fi tk pt) (i_3) (co, gi, un, lo, lk)).2.2.2.1) + (((((rp (gdB le se fi tk pt) (i_3) (co, gi, un, lo, lk)).1) ((pt * 2 + 0) * 8 + i_3)) * (iL (se pt))) / 100)) ((rp (gdB le se fi tk pt) (i_3) (co, gi, un, lo, lk)).2.2.2.2) de le ((rp (gdB le se fi tk pt) (i_3) (co, gi, un, lo, lk)).2.1) (by omega) (by omega) (by omega) (hL)) (cwV 4 hts gX1_guide_X1_give rfl rfl rfl (by decide +kernel) ⟨Nat.le_of_ble_eq_true rfl, Nat.le_of_ble_eq_true rfl⟩) (preV C0 hPc hDc hS 0 rfl rfl) rfl rfl hl.1 rfl (lv_room (Nat.le_of_ble_eq_true rfl)) dX1_guide_116 ⟨Nat.le_refl _, Nat.le_refl _⟩) C0 hP hD hS [0, 1, 4, 6] [2, 3, 5, 7] [4, 5, 0, 1, 6, 2, 7, 3] rfl rfl (by decide) (by decide) (fun _ => rfl) (by decide) (fun _u H locs _hw hP hD hS => ?_)
        have hP : va_P E.1 vwCl [(aLi, o1 aLy aC aG aU aR aN aW (cO o) (nI tk) em (((rp (gdB le se fi tk pt) (i_3) (co, gi, un, lo, lk)).2.2.2.1) + (((((rp (gdB le se fi tk pt) (i_3) (co, gi, un, lo, lk)).1) ((pt * 2 + 0) * 8 + i_3)) * (iL (se pt))) / 100)) (gvL (le (pt * 2 + 0)) ((va_up ((rp (gdB le se fi tk pt) (i_3) (co, gi, un, lo, lk)).2.2.1) (((pt * 8 + (tk + 8) % 8) * 8) + i_3) ((((rp (gdB le se fi tk pt) (i_3) (co, gi, un, lo, lk)).1) ((pt * 2 + 0) * 8 + i_3)) - (((((rp (gdB le se fi tk pt) (i_3) (co, gi, un, lo, lk)).1) ((pt * 2 + 0) * 8 + i_3)) * (iL (se pt))) / 100))) (((pt * 8 + (tk + 8 - (fi pt - 1)) % 8) * 8) + i_3)) ((rp (gdB le se fi tk pt) (i_3) (co, gi, un, lo, lk)).2.2.2.2)) de), (aLy, o0 (nI n) aK aX aY aF aS aL), (aF, ia E nI 16 fi), (aS, ia E nI 16 se), (aL, ia E cL 32 le), (aC, ja E 256 (va_up ((rp (gdB le se fi tk pt) (i_3) (co, gi, un, lo, lk)).1) ((pt * 2 + 0) * 8 + i_3) 0)), (aG, ja E 256 (gvG (le (pt * 2 + 0)) i_3 ((va_up ((rp (gdB le se fi tk pt) (i_3) (co, gi, un, lo, lk)).2.2.1) (((pt * 8 + (tk + 8) % 8) * 8) + i_3) ((((rp (gdB le se fi tk pt) (i_3) (co, gi, un, lo, lk)).1) ((pt * 2 + 0) * 8 + i_3)) - (((((rp (gdB le se fi tk pt) (i_3) (co, gi, un, lo, lk)).1) ((pt * 2 + 0) * 8 + i_3)) * (iL (se pt))) / 100))) (((pt * 8 + (tk + 8 - (fi pt - 1)) % 8) * 8) + i_3)) ((rp (gdB le se fi tk pt) (i_3) (co, gi, un, lo, lk)).2.1))), (aU, ja E 1024 (va_up ((rp (gdB le se fi tk pt) (i_3) (co, gi, un, lo, lk)).2.2.1) (((pt * 8 + (tk + 8) % 8) * 8) + i_3) ((((rp (gdB le se fi tk pt) (i_3) (co, gi, un, lo, lk)).1) ((pt * 2 + 0) * 8 + i_3)) - (((((rp (gdB le se fi tk pt) (i_3) (co, gi, un, lo, lk)).1) ((pt * 2 + 0) * 8 + i_3)) * (iL (se pt))) / 100))))] H := hP
        have hD : va_D A [(aLi, o1 aLy aC aG aU aR aN aW (cO o) (nI tk) em (((rp (gdB le se fi tk pt) (i_3) (co, gi, un, lo, lk)).2.2.2.1) + (((((rp (gdB le se fi tk pt) (i_3) (co, gi, un, lo, lk)).1) ((pt * 2 + 0) * 8 + i_3)) * (iL (se pt))) / 100)) (gvL (le (pt * 2 + 0)) ((va_up ((rp (gdB le se fi tk pt) (i_3) (co, gi, un, lo, lk)).2.2.1) (((pt * 8 + (tk + 8) % 8) * 8) + i_3) ((((rp (gdB le se fi tk pt) (i_3) (co, gi, un, lo, lk)).1) ((pt * 2 + 0) * 8 + i_3)) - (((((rp (gdB le se fi tk pt) (i_3) (co, gi, un, lo, lk)).1) ((pt * 2 + 0) * 8 + i_3)) * (iL (se pt))) / 100))) (((pt * 8 + (tk + 8 - (fi pt - 1)) % 8) * 8) + i_3)) ((rp (gdB le se fi tk pt) (i_3) (co, gi, un, lo, lk)).2.2.2.2)) de), (aLy, o0 (nI n) aK aX aY aF aS aL), (aF, ia E nI 16 fi), (aS, ia E nI 16 se), (aL, ia E cL 32 le), (aC, ja E 256 (va_up ((rp (gdB le se fi tk pt) (i_3) (co, gi, un, lo, lk)).1) ((pt * 2 + 0) * 8 + i_3) 0)), (aG, ja E 256 (gvG (le (pt * 2 + 0)) i_3 ((va_up ((rp (gdB le se fi tk pt) (i_3) (co, gi, un, lo, lk)).2.2.1) (((pt * 8 + (tk + 8) % 8) * 8) + i_3) ((((rp (gdB le se fi tk pt) (i_3) (co, gi, un, lo, lk)).1) ((pt * 2 + 0) * 8 + i_3)) - (((((rp (gdB le se fi tk pt) (i_3) (co, gi, un, lo, lk)).1) ((pt * 2 + 0) * 8 + i_3)) * (iL (se pt))) / 100))) (((pt * 8 + (tk + 8 - (fi pt - 1)) % 8) * 8) + i_3)) ((rp (gdB le se fi tk pt) (i_3) (co, gi, un, lo, lk)).2.1))), (aU, ja E 1024 (va_up ((rp (gdB le se fi tk pt) (i_3) (co, gi, un, lo, lk)).2.2.1) (((pt * 8 + (tk + 8) % 8) * 8) + i_3) ((((rp (gdB le se fi tk pt) (i_3) (co, gi, un, lo, lk)).1) ((pt * 2 + 0) * 8 + i_3)) - (((((rp (gdB le se fi tk pt) (i_3) (co, gi, un, lo, lk)).1) ((pt * 2 + 0) * 8 + i_3)) * (iL (se pt))) / 100))))] := hD
        refine lv_iinc (v := nI (i_3 + 1)) (lv' := [(6, .int (nI (i_3 + 1))), (9, .long (((((rp (gdB le se fi tk pt) (i_3) (co, gi, un, lo, lk)).1) ((pt * 2 + 0) * 8 + i_3)) * (iL (se pt))) / 100)), (7, .long (((rp (gdB le se fi tk pt) (i_3) (co, gi, un, lo, lk)).1) ((pt * 2 + 0) * 8 + i_3))), (0, .ref aLi), (1, .int (nI pt)), (2, .int (nI (se pt))), (3, .int (nI (fi pt - 1))), (4, .int (nI ((pt * 8 + (tk + 8) % 8) * 8))), (5, .int (nI ((pt * 8 + (tk + 8 - (fi pt - 1)) % 8) * 8)))]) hx hb dX1_guide_119 hl (k := 8) rfl (nI_add i_3 1) (by decide) rfl (fun ls hl => ?_)
        refine lv_goto (tgt := 47) hx hb dX1_guide_122 (by decide) ?_
        have q_5 : ((rp (gdB le se fi tk pt) (i_3 + 1) (co, gi, un, lo, lk)).2.2.2.1) = (((rp (gdB le se fi tk pt) (i_3) (co, gi, un, lo, lk)).2.2.2.1) + (((((rp (gdB le se fi tk pt) (i_3) (co, gi, un, lo, lk)).1) ((pt * 2 + 0) * 8 + i_3)) * (iL (se pt))) / 100)) := by first | rfl | (simp only [c_4, if_true, if_false, not_true_eq_false, not_false_eq_true]; done) | (simp only [c_4]; rfl) | (simp [c_4]; done)
        have q_6 : ((rp (gdB le se fi tk pt) (i_3 + 1) (co, gi, un, lo, lk)).2.2.2.2) = (gvL (le (pt * 2 + 0)) ((va_up ((rp (gdB le se fi tk pt) (i_3) (co, gi, un, lo, lk)).2.2.1) (((pt * 8 + (tk + 8) % 8) * 8) + i_3) ((((rp (gdB le se fi tk pt) (i_3) (co, gi, un, lo, lk)).1) ((pt * 2 + 0) * 8 + i_3)) - (((((rp (gdB le se fi tk pt) (i_3) (co, gi, un, lo, lk)).1) ((pt * 2 + 0) * 8 + i_3)) * (iL (se pt))) / 100))) (((pt * 8 + (tk + 8 - (fi pt - 1)) % 8) * 8) + i_3)) ((rp (gdB le se fi tk pt) (i_3) (co, gi, un, lo, lk)).2.2.2.2)) := by first | rfl | (simp only [c_4, if_true, if_false, not_true_eq_false, not_false_eq_true]; done) | (simp only [c_4]; rfl) | (simp [c_4]; done)
        have q_7 : ((rp (gdB le se fi tk pt) (i_3 + 1) (co, gi, un, lo, lk)).1) = (va_up ((rp (gdB le se fi tk pt) (i_3) (co, gi, un, lo, lk)).1) ((pt * 2 + 0) * 8 + i_3) 0) := by first | rfl | (simp only [c_4, if_true, if_false, not_true_eq_false, not_false_eq_true]; done) | (simp only [c_4]; rfl) | (simp [c_4]; done)
        have q_8 : ((rp (gdB le se fi tk pt) (i_3 + 1) (co, gi, un, lo, lk)).2.1) = (gvG (le (pt * 2 + 0)) i_3 ((va_up ((rp (gdB le se fi tk pt) (i_3) (co, gi, un, lo, lk)).2.2.1) (((pt * 8 + (tk + 8) % 8) * 8) + i_3) ((((rp (gdB le se fi tk pt) (i_3) (co, gi, un, lo, lk)).1) ((pt * 2 + 0) * 8 + i_3)) - (((((rp (gdB le se fi tk pt) (i_3) (co, gi, un, lo, lk)).1) ((pt * 2 + 0) * 8 + i_3)) * (iL (se pt))) / 100))) (((pt * 8 + (tk + 8 - (fi pt - 1)) % 8) * 8) + i_3)) ((rp (gdB le se fi tk pt) (i_3) (co, gi, un, lo, lk)).2.1)) := by first | rfl | (simp only [c_4, if_true, if_false, not_true_eq_false, not_false_eq_true]; done) | (simp only [c_4]; rfl) | (simp [c_4]; done)
        have q_9 : ((rp (gdB le se fi tk pt) (i_3 + 1) (co, gi, un, lo, lk)).2.2.1) = (va_up ((rp (gdB le se fi tk pt) (i_3) (co, gi, un, lo, lk)).2.2.1) (((pt * 8 + (tk + 8) % 8) * 8) + i_3) ((((rp (gdB le se fi tk pt) (i_3) (co, gi, un, lo, lk)).1) ((pt * 2 + 0) * 8 + i_3)) - (((((rp (gdB le se fi tk pt) (i_3) (co, gi, un, lo, lk)).1) ((pt * 2 + 0) * 8 + i_3)) * (iL (se pt))) / 100))) := by first | rfl | (simp only [c_4, if_true, if_false, not_true_eq_false, not_false_eq_true]; done) | (simp only [c_4]; rfl) | (simp [c_4]; done)
        have hP : va_P E.1 vwCl [(aLi, o1 aLy aC aG aU aR aN aW (cO o) (nI tk) em ((rp (gdB le se fi tk pt) (i_3 + 1) (co, gi, un, lo, lk)).2.2.2.1) ((rp (gdB le se fi tk pt) (i_3 + 1) (co, gi, un, lo, lk)).2.2.2.2) de), (aLy, o0 (nI n) aK aX aY aF aS aL), (aF, ia E nI 16 fi), (aS, ia E nI 16 se), (aL, ia E cL 32 le), (aC, ja E 256 ((rp (gdB le se fi tk pt) (i_3 + 1) (co, gi, un, lo, lk)).1)), (aG, ja E 256 ((rp (gdB le se fi tk pt) (i_3 + 1) (co, gi, un, lo, lk)).2.1)), (aU, ja E 1024 ((rp (gdB le se fi tk pt) (i_3 + 1) (co, gi, un, lo, lk)).2.2.1))] H := by rw [q_5, q_6, q_7, q_8, q_9]; exact hP
        have hD : va_D A [(aLi, o1 aLy aC aG aU aR aN aW (cO o) (nI tk) em ((rp (gdB le se fi tk pt) (i_3 + 1) (co, gi, un, lo, lk)).2.2.2.1) ((rp (gdB le se fi tk pt) (i_3 + 1) (co, gi, un, lo, lk)).2.2.2.2) de), (aLy, o0 (nI n) aK aX aY aF aS aL), (aF, ia E nI 16 fi), (aS, ia E nI 16 se), (aL, ia E cL 32 le), (aC, ja E 256 ((rp (gdB le se fi tk pt) (i_3 + 1) (co, gi, un, lo, lk)).1)), (aG, ja E 256 ((rp (gdB le se fi tk pt) (i_3 + 1) (co, gi, un, lo, lk)).2.1)), (aU, ja E 1024 ((rp (gdB le se fi tk pt) (i_3 + 1) (co, gi, un, lo, lk)).2.2.1))] := by rw [q_5, q_6, q_7, q_8, q_9]; exact hD
        have hl : lv_has ls 11 [(0, .ref aLi), (1, .int (nI pt)), (2, .int (nI (se pt))), (3, .int (nI (fi pt - 1))), (4, .int (nI ((pt * 8 + (tk + 8) % 8) * 8))), (5, .int (nI ((pt * 8 + (tk + 8 - (fi pt - 1)) % 8) * 8))), (6, .int (nI (i_3 + 1)))] := lv_sub hl [3, 4, 5, 6, 7, 8, 0] rfl
        exact ih_2 (i_3 + 1) (by omega) (by omega) _ _ hP hD hS _ hl
  have q_10 : ((rp (gdB le se fi tk pt) (0) (co, gi, un, lo, lk)).2.2.2.1) = lo := by first | rfl | (simp only [if_true, if_false, not_true_eq_false, not_false_eq_true]; done) | (simp only [if_true]; rfl) | (simp []; done)
  have q_11 : ((rp (gdB le se fi tk pt) (0) (co, gi, un, lo, lk)).2.2.2.2) = lk := by first | rfl | (simp only [if_true, if_false, not_true_eq_false, not_false_eq_true]; done) | (simp only [if_true]; rfl) | (simp []; done)
  have q_12 : ((rp (gdB le se fi tk pt) (0) (co, gi, un, lo, lk)).1) = co := by first | rfl | (simp only [if_true, if_false, not_true_eq_false, not_false_eq_true]; done) | (simp only [if_true]; rfl) | (simp []; done)
  have q_13 : ((rp (gdB le se fi tk pt) (0) (co, gi, un, lo, lk)).2.1) = gi := by first | rfl | (simp only [if_true, if_false, not_true_eq_false, not_false_eq_true]; done) | (simp only [if_true]; rfl) | (simp []; done)
  have q_14 : ((rp (gdB le se fi tk pt) (0) (co, gi, un, lo, lk)).2.2.1) = un := by first | rfl | (simp only [if_true, if_false, not_true_eq_false, not_false_eq_true]; done) | (simp only [if_true]; rfl) | (simp []; done)
  have hP : va_P E.1 vwCl [(aLi, o1 aLy aC aG aU aR aN aW (cO o) (nI tk) em ((rp (gdB le se fi tk pt) (0) (co, gi, un, lo, lk)).2.2.2.1) ((rp (gdB le se fi tk pt) (0) (co, gi, un, lo, lk)).2.2.2.2) de), (aLy, o0 (nI n) aK aX aY aF aS aL), (aF, ia E nI 16 fi), (aS, ia E nI 16 se), (aL, ia E cL 32 le), (aC, ja E 256 ((rp (gdB le se fi tk pt) (0) (co, gi, un, lo, lk)).1)), (aG, ja E 256 ((rp (gdB le se fi tk pt) (0) (co, gi, un, lo, lk)).2.1)), (aU, ja E 1024 ((rp (gdB le se fi tk pt) (0) (co, gi, un, lo, lk)).2.2.1))] H := by rw [q_10, q_11, q_12, q_13, q_14]; exact hP
  have hD : va_D A [(aLi, o1 aLy aC aG aU aR aN aW (cO o) (nI tk) em ((rp (gdB le se fi tk pt) (0) (co, gi, un, lo, lk)).2.2.2.1) ((rp (gdB le se fi tk pt) (0) (co, gi, un, lo, lk)).2.2.2.2) de), (aLy, o0 (nI n) aK aX aY aF aS aL), (aF, ia E nI 16 fi), (aS, ia E nI 16 se), (aL, ia E cL 32 le), (aC, ja E 256 ((rp (gdB le se fi tk pt) (0) (co, gi, un, lo, lk)).1)), (aG, ja E 256 ((rp (gdB le se fi tk pt) (0) (co, gi, un, lo, lk)).2.1)), (aU, ja E 1024 ((rp (gdB le se fi tk pt) (0) (co, gi, un, lo, lk)).2.2.1))] := by rw [q_10, q_11, q_12, q_13, q_14]; exact hD
  have hl : lv_has ls 11 [(0, .ref aLi), (1, .int (nI pt)), (2, .int (nI (se pt))), (3, .int (nI (fi pt - 1))), (4, .int (nI ((pt * 8 + (tk + 8) % 8) * 8))), (5, .int (nI ((pt * 8 + (tk + 8 - (fi pt - 1)) % 8) * 8))), (6, .int (nI 0))] := lv_sub hl [5, 6, 4, 3, 2, 1, 0] rfl
  exact LP_1 (8 + 1) 0 (by omega) (by omega) _ _ hP hD hS _ hl

theorem sh_l : ∀ n, n < 32 → ((nI n &&& 31).toBitVec.smod 32).toNat = n := by decide +kernel
def opn (s t : Nat) : Nat := s / 2 ^ (t % 8) % 2
theorem opn_row {s t : Nat} (hs : s < 2 ^ 20) : (nI s >>> (nI (t % 8) &&& 31)) &&& nI 1 = nI (opn s t) := by
  have h8 : t % 8 < 8 := Nat.mod_lt _ (by omega)
  rw [pk_shrN (by omega) _ (t % 8) (sh_l _ (by omega)), pk_andN (n := s / 2 ^ (t % 8)) (Nat.lt_of_le_of_lt (Nat.div_le_self _ _) (by omega)) 1 (by decide)]
  rfl
theorem opn_lt (s t : Nat) : opn s t < 2 := Nat.mod_lt _ (by omega)
/-- a switch in a tick, channel ch -/
def psB (le se : Nat → Nat) (tk pt : Nat) (ch : Nat) (S : (Nat → Int64) × (Nat → Int64) × Int64 × Int64) : (Nat → Int64) × (Nat → Int64) × Int64 × Int64 :=
  let ph := S.1 ((pt * 2 + 0) * 8 + ch)
  (va_up S.1 ((pt * 2 + 0) * 8 + ch) 0, if opn (se pt) tk = 1 then gvG (le (pt * 2 + 0)) ch ph S.2.1 else S.2.1, if opn (se pt) tk = 1 then S.2.2.1 else S.2.2.1 + ph, if opn (se pt) tk = 1 then gvL (le (pt * 2 + 0)) ph S.2.2.2 else S.2.2.2)

set_option maxHeartbeats 4000000 in
set_option maxRecDepth 100000 in
theorem c_pass (l : Launch) (E : EnvT) (sz : Nat) (pt : Nat) (aLy aK aX aY aF aS aL n : Nat) (aLi aC aG aU aR aN aW o tk : Nat) (em lo lk de : Int64) (se le : Nat → Nat) (co gi : Nat → Int64) (hp : pt < 16) (hse : se pt < 1000) (ht : tk < 30000) (hL : le (pt * 2 + 0) ≤ 32) : MV l yX1_pass wsX1_pass ({ frames := 2, cells := 0, slots := 0, locals := 47 }) E sz [.ref aLi, .int (nI pt)] [(aLi, o1 aLy aC aG aU aR aN aW (cO o) (nI tk) em lo lk de), (aLy, o0 (nI n) aK aX aY aF aS aL), (aS, ia E nI 16 se), (aL, ia E cL 32 le), (aC, ja E 256 co), (aG, ja E 256 gi)] (fun _ : Unit => True) (fun _ => [(aLi, o1 aLy aC aG aU aR aN aW (cO o) (nI tk) em ((rp (psB le se tk pt) (8) (co, gi, lo, lk)).2.2.1) ((rp (psB le se tk pt) (8) (co, gi, lo, lk)).2.2.2) de), (aLy, o0 (nI n) aK aX aY aF aS aL), (aS, ia E nI 16 se), (aL, ia E cL 32 le), (aC, ja E 256 ((rp (psB le se tk pt) (8) (co, gi, lo, lk)).1)), (aG, ja E 256 ((rp (psB le se tk pt) (8) (co, gi, lo, lk)).2.1))]) := by
  refine enV (cc := cX1_pass) (maxL := 6) (by decide +kernel) rfl (Nat.le_of_ble_eq_true rfl) ?_
  intro p e s m below meth c A ls hx hb hr hml hts hown hlocks hAe C0 hP hD hS hl
  have hown : s.vm.findClass RX1 = some m.cls := hown
  have hl : lv_has ls 6 [(0, .ref aLi), (1, .int (nI pt))] := hl
  have iX0 : ∀ w ∈ u_ws RX0 TX0 7, w ∈ wsX1_pass := by decide +kernel
  have iX1 : ∀ w ∈ u_ws RX1 TX1 13, w ∈ wsX1_pass := by decide +kernel
  obtain ⟨H, hHe⟩ : ∃ z, z = s.heap := ⟨_, rfl⟩
  obtain ⟨locs, hLe⟩ : ∃ z : List Loc, z = [] := ⟨_, rfl⟩
  have hP : va_P E.1 vwCl [(aLi, o1 aLy aC aG aU aR aN aW (cO o) (nI tk) em lo lk de), (aLy, o0 (nI n) aK aX aY aF aS aL), (aS, ia E nI 16 se), (aL, ia E cL 32 le), (aC, ja E 256 co), (aG, ja E 256 gi)] H := by rw [hHe]; exact hP
  have hD : va_D A [(aLi, o1 aLy aC aG aU aR aN aW (cO o) (nI tk) em lo lk de), (aLy, o0 (nI n) aK aX aY aF aS aL), (aS, ia E nI 16 se), (aL, ia E cL 32 le), (aC, ja E 256 co), (aG, ja E 256 gi)] := hD
  have hS : va_S A s.heap H locs := by rw [hHe, hLe]; exact hS
  suffices hgo : W p l e _ s m _ below meth c H locs 0 0 _ (F0 m 0 ls []) by rw [hHe, hLe] at hgo; exact hgo
  clear hHe hLe
  refine lv_aload_n hx hb dX1_pass_0 rfl (lv_at hl 0 rfl) ?_
  refine va_get (D := E.1) (ci := 1) (v := .ref aLy) (C := RX1) (T := TX1) (N := 13) hx hb hts iX1 hown C0.1 hP 0 rfl rfl 0 (by decide) (hts (.fieldLink RX1 31 "Ringresonance$Light" "layout" "LRingresonance$Layout;") (by decide +kernel)) (fun _ h9 => h9) rfl dX1_pass_1 ?_
  refine va_get (D := E.1) (ci := 0) (v := .ref aS) (C := RX0) (T := TX0) (N := 7) hx hb hts iX0 hown C0.1 hP 1 rfl rfl 5 (by decide) (hts (.fieldLink RX1 92 "Ringresonance$Layout" "seconds" "[I") (by decide +kernel)) (fun _ h9 => h9) rfl dX1_pass_4 ?_
  refine lv_iload_n hx hb dX1_pass_7 rfl (lv_at hl 1 rfl) ?_
  refine k_iald (e := pt) (g := nI) (n := 16) hx hb C0 hP 2 rfl (by omega) (by omega) dX1_pass_8 ?_
  have JN_1 : ∀ (bz : Nat), (bz = 1 ↔ opn (se pt) tk = 1) ∧ bz ≤ 1 → ∀ (H : Heap) (locs : List Loc), va_P E.1 vwCl [(aLi, o1 aLy aC aG aU aR aN aW (cO o) (nI tk) em lo lk de), (aLy, o0 (nI n) aK aX aY aF aS aL), (aS, ia E nI 16 se), (aL, ia E cL 32 le), (aC, ja E 256 co), (aG, ja E 256 gi)] H → va_D A [(aLi, o1 aLy aC aG aU aR aN aW (cO o) (nI tk) em lo lk de), (aLy, o0 (nI n) aK aX aY aF aS aL), (aS, ia E nI 16 se), (aL, ia E cL 32 le), (aC, ja E 256 co), (aG, ja E 256 gi)] → va_S A s.heap H locs → ∀ (ls : Array Slot), lv_has ls 6 [(0, .ref aLi), (1, .int (nI pt))] → W p l e ({ frames := 2, cells := 0, slots := 0, locals := 47 }) s m (([.ref aLi, .int (nI pt)] : List Value).toArray) below meth c H locs 0 0 (MQ below (va_Qv (fun _ : Unit => True) (Wd E [(aLi, o1 aLy aC aG aU aR aN aW (cO o) (nI tk) em lo lk de), (aLy, o0 (nI n) aK aX aY aF aS aL), (aS, ia E nI 16 se), (aL, ia E cL 32 le), (aC, ja E 256 co), (aG, ja E 256 gi)] s.heap.size (fun _ => [(aLi, o1 aLy aC aG aU aR aN aW (cO o) (nI tk) em ((rp (psB le se tk pt) (8) (co, gi, lo, lk)).2.2.1) ((rp (psB le se tk pt) (8) (co, gi, lo, lk)).2.2.2) de), (aLy, o0 (nI n) aK aX aY aF aS aL), (aS, ia E nI 16 se), (aL, ia E cL 32 le), (aC, ja E 256 ((rp (psB le se tk pt) (8) (co, gi, lo, lk)).1)), (aG, ja E 256 ((rp (psB le se tk pt) (8) (co, gi, lo, lk)).2.1))])) A) (([.ref aLi, .int (nI pt)] : List Value).toArray) s 0 0 A) (F0 m 28 ls [.int (nI bz)]) := by
    intro bz  hbz H locs hP hD hS ls hl
    refine lv_istore_n (lv' := [(2, .int (nI bz)), (0, .ref aLi), (1, .int (nI pt))]) hx hb dX1_pass_28 rfl hl (by decide) rfl (fun ls hl => ?_)
    refine lv_iconst (v := nI 0) hx hb dX1_pass_29 (by decide) ?_
    refine lv_istore_n (lv' := [(3, .int (nI 0)), (2, .int (nI bz)), (0, .ref aLi), (1, .int (nI pt))]) hx hb dX1_pass_30 rfl hl (by decide) rfl (fun ls hl => ?_)
    have LP_2 : ∀ (nz i_4 : Nat), i_4 ≤ 8 → 8 < i_4 + nz → ∀ (H : Heap) (locs : List Loc), va_P E.1 vwCl [(aLi, o1 aLy aC aG aU aR aN aW (cO o) (nI tk) em ((rp (psB le se tk pt) (i_4) (co, gi, lo, lk)).2.2.1) ((rp (psB le se tk pt) (i_4) (co, gi, lo, lk)).2.2.2) de), (aLy, o0 (nI n) aK aX aY aF aS aL), (aS, ia E nI 16 se), (aL, ia E cL 32 le), (aC, ja E 256 ((rp (psB le se tk pt) (i_4) (co, gi, lo, lk)).1)), (aG, ja E 256 ((rp (psB le se tk pt) (i_4) (co, gi, lo, lk)).2.1))] H → va_D A [(aLi, o1 aLy aC aG aU aR aN aW (cO o) (nI tk) em ((rp (psB le se tk pt) (i_4) (co, gi, lo, lk)).2.2.1) ((rp (psB le se tk pt) (i_4) (co, gi, lo, lk)).2.2.2) de), (aLy, o0 (nI n) aK aX aY aF aS aL), (aS, ia E nI 16 se), (aL, ia E cL 32 le), (aC, ja E 256 ((rp (psB le se tk pt) (i_4) (co, gi, lo, lk)).1)), (aG, ja E 256 ((rp (psB le se tk pt) (i_4) (co, gi, lo, lk)).2.1))] → va_S A s.heap H locs → ∀ (ls : Array Slot), lv_has ls 6 [(0, .ref aLi), (1, .int (nI pt)), (2, .int (nI bz)), (3, .int (nI i_4))] → W p l e ({ frames := 2, cells := 0, slots := 0, locals := 47 }) s m (([.ref aLi, .int (nI pt)] : List Value).toArray) below meth c H locs 0 0 (MQ below (va_Qv (fun _ : Unit => True) (Wd E [(aLi, o1 aLy aC aG aU aR aN aW (cO o) (nI tk) em lo lk de), (aLy, o0 (nI n) aK aX aY aF aS aL), (aS, ia E nI 16 se), (aL, ia E cL 32 le), (aC, ja E 256 co), (aG, ja E 256 gi)] s.heap.size (fun _ => [(aLi, o1 aLy aC aG aU aR aN aW (cO o) (nI tk) em ((rp (psB le se tk pt) (8) (co, gi, lo, lk)).2.2.1) ((rp (psB le se tk pt) (8) (co, gi, lo, lk)).2.2.2) de), (aLy, o0 (nI n) aK aX aY aF aS aL), (aS, ia E nI 16 se), (aL, ia E cL 32 le), (aC, ja E 256 ((rp (psB le se tk pt) (8) (co, gi, lo, lk)).1)), (aG, ja E 256 ((rp (psB le se tk pt) (8) (co, gi, lo, lk)).2.1))])) A) (([.ref aLi, .int (nI pt)] : List Value).toArray) s 0 0 A) (F0 m 31 ls []) := by
      intro nz
      induction nz with
      | zero =>
        intro i_4 h1 h2
        exact absurd h2 (by omega)
      | succ nz ih_3 =>
        intro i_4 hi_i_4 hn_i_4 H locs hP hD hS ls hl
        refine lv_iload_n hx hb dX1_pass_31 rfl (lv_at hl 3 rfl) ?_
        refine lv_bipush (v := nI 8) hx hb dX1_pass_32 (by decide) ?_
        refine lv_icmp_ge (tgt := 79) hx hb dX1_pass_34 (by decide) (fun c_5 => ?_) (fun c_5 => ?_)
        · skip
          have c_5 : 8 ≤ i_4 := (ci_ge (by omega) (by omega)).mp c_5
          obtain rfl : 8 = i_4 := by omega
          exact exV hx hb hr hlocks hAe hS () trivial hP hD dX1_pass_79
        · skip
          have c_5 : ¬ (8 ≤ i_4) := fun h => c_5 ((ci_ge (by omega) (by omega)).mpr h)
          refine lv_aload_n hx hb dX1_pass_37 rfl (lv_at hl 0 rfl) ?_
          refine lv_iload_n hx hb dX1_pass_38 rfl (lv_at hl 1 rfl) ?_
          refine lv_iconst (v := nI 0) hx hb dX1_pass_39 (by decide) ?_
          refine lv_iload_n hx hb dX1_pass_40 rfl (lv_at hl 3 rfl) ?_
          have hPc := hP.pick (ws' := [(aLi, o1 aLy aC aG aU aR aN aW (cO o) (nI tk) em ((rp (psB le se tk pt) (i_4) (co, gi, lo, lk)).2.2.1) ((rp (psB le se tk pt) (i_4) (co, gi, lo, lk)).2.2.2) de), (aC, ja E 256 ((rp (psB le se tk pt) (i_4) (co, gi, lo, lk)).1))]) [0, 4] rfl
          have hDc := hD.sub (ws' := [(aLi, o1 aLy aC aG aU aR aN aW (cO o) (nI tk) em ((rp (psB le se tk pt) (i_4) (co, gi, lo, lk)).2.2.1) ((rp (psB le se tk pt) (i_4) (co, gi, lo, lk)).2.2.2) de), (aC, ja E 256 ((rp (psB le se tk pt) (i_4) (co, gi, lo, lk)).1))]) [0, 4] (by decide) rfl
          refine kcL (wr := [(aLy, o0 (nI n) aK aX aY aF aS aL), (aS, ia E nI 16 se), (aL, ia E cL 32 le), (aG, ja E 256 ((rp (psB le se tk pt) (i_4) (co, gi, lo, lk)).2.1))]) (w1 := fun _ : Unit => [(aLi, o1 aLy aC aG aU aR aN aW (cO o) (nI tk) em ((rp (psB le se tk pt) (i_4) (co, gi, lo, lk)).2.2.1) ((rp (psB le se tk pt) (i_4) (co, gi, lo, lk)).2.2.2) de), (aC, ja E 256 (va_up ((rp (psB le se tk pt) (i_4) (co, gi, lo, lk)).1) ((pt * 2 + 0) * 8 + i_4) 0))]) (w2 := fun _ => [(aLi, o1 aLy aC aG aU aR aN aW (cO o) (nI tk) em ((rp (psB le se tk pt) (i_4) (co, gi, lo, lk)).2.2.1) ((rp (psB le se tk pt) (i_4) (co, gi, lo, lk)).2.2.2) de), (aLy, o0 (nI n) aK aX aY aF aS aL), (aS, ia E nI 16 se), (aL, ia E cL 32 le), (aC, ja E 256 (va_up ((rp (psB le se tk pt) (i_4) (co, gi, lo, lk)).1) ((pt * 2 + 0) * 8 + i_4) 0)), (aG, ja E 256 ((rp (psB le se tk pt) (i_4) (co, gi, lo, lk)).2.1))]) (va_runV (As := [.int (nI pt), .int (nI 0), .int (nI i_4)]) (rest := []) ⟨hx, hb, hml, hown, hts⟩ (c_take l E H.size pt 0 i_4 aLy aLi aC aG aU aR aN aW o tk em ((rp (psB le se tk pt) (i_4) (co, gi, lo, lk)).2.2.1) ((rp (psB le se tk pt) (i_4) (co, gi, lo, lk)).2.2.2) de ((rp (psB le se tk pt) (i_4) (co, gi, lo, lk)).1) (by omega) (by omega) (by omega)) (cwV 3 hts gX1_pass_X1_take rfl rfl rfl (by decide +kernel) ⟨Nat.le_of_ble_eq_true rfl, Nat.le_of_ble_eq_true rfl⟩) (preV C0 hPc hDc hS 0 rfl rfl) rfl rfl hl.1 rfl (lv_room (Nat.le_of_ble_eq_true rfl)) dX1_pass_41 ⟨Nat.le_refl _, Nat.le_refl _⟩) C0 hP hD hS [0, 4] [1, 2, 3, 5] [4, 0, 1, 2, 5, 3] rfl rfl (by decide) (by decide) (fun _ => rfl) (by decide) (fun r_9 _u H locs hw hP hD hS => ?_)
          have hP : va_P E.1 vwCl [(aLi, o1 aLy aC aG aU aR aN aW (cO o) (nI tk) em ((rp (psB le se tk pt) (i_4) (co, gi, lo, lk)).2.2.1) ((rp (psB le se tk pt) (i_4) (co, gi, lo, lk)).2.2.2) de), (aLy, o0 (nI n) aK aX aY aF aS aL), (aS, ia E nI 16 se), (aL, ia E cL 32 le), (aC, ja E 256 (va_up ((rp (psB le se tk pt) (i_4) (co, gi, lo, lk)).1) ((pt * 2 + 0) * 8 + i_4) 0)), (aG, ja E 256 ((rp (psB le se tk pt) (i_4) (co, gi, lo, lk)).2.1))] H := hP
          have hD : va_D A [(aLi, o1 aLy aC aG aU aR aN aW (cO o) (nI tk) em ((rp (psB le se tk pt) (i_4) (co, gi, lo, lk)).2.2.1) ((rp (psB le se tk pt) (i_4) (co, gi, lo, lk)).2.2.2) de), (aLy, o0 (nI n) aK aX aY aF aS aL), (aS, ia E nI 16 se), (aL, ia E cL 32 le), (aC, ja E 256 (va_up ((rp (psB le se tk pt) (i_4) (co, gi, lo, lk)).1) ((pt * 2 + 0) * 8 + i_4) 0)), (aG, ja E 256 ((rp (psB le se tk pt) (i_4) (co, gi, lo, lk)).2.1))] := hD
          have hw : r_9 = ((rp (psB le se tk pt) (i_4) (co, gi, lo, lk)).1) ((pt * 2 + 0) * 8 + i_4) := hw
          subst hw
          refine lv_lstore (lv' := [(4, .long (((rp (psB le se tk pt) (i_4) (co, gi, lo, lk)).1) ((pt * 2 + 0) * 8 + i_4))), (0, .ref aLi), (1, .int (nI pt)), (2, .int (nI bz)), (3, .int (nI i_4))]) hx hb dX1_pass_44 hl (by decide) rfl (fun ls hl => ?_)
          refine lv_iload_n hx hb dX1_pass_46 rfl (lv_at hl 3 rfl) ?_
          refine lv_if_eq (tgt := 62) hx hb dX1_pass_47 (by decide) (fun c_6 => ?_) (fun c_6 => ?_)
          · skip
            have c_6 : bz = 0 := (ci0_eq (by omega)).mp c_6
            have hoz : ¬ opn (se pt) tk = 1 := by omega
            refine lv_aload_n hx hb dX1_pass_62 rfl (lv_at hl 1 rfl) ?_
            refine lv_dup hx hb dX1_pass_63 rfl ?_
            refine va_get (D := E.1) (ci := 1) (v := .long ((rp (psB le se tk pt) (i_4) (co, gi, lo, lk)).2.2.1)) (C := RX1) (T := TX1) (N := 13) hx hb hts iX1 hown C0.1 hP 0 rfl rfl 10 (by decide) (hts (.fieldLink RX1 52 "Ringresonance$Light" "lost" "J") (by decide +kernel)) (fun _ h9 => h9) rfl dX1_pass_64 ?_
            refine lv_lload hx hb dX1_pass_67 (lv_at hl 0 rfl) ?_
            refine lv_ladd hx hb dX1_pass_69 ?_
            refine va_put (D := E.1) (ci := 1) (v := .long (((rp (psB le se tk pt) (i_4) (co, gi, lo, lk)).2.2.1) + (((rp (psB le se tk pt) (i_4) (co, gi, lo, lk)).1) ((pt * 2 + 0) * 8 + i_4)))) (ty := .long) (C := RX1) (T := TX1) (N := 13) hx hb hts iX1 tyX1 tyX1_ok nmX1 hown C0.1 hP hD hS 0 rfl rfl 10 (by decide) (hts (.fieldLink RX1 52 "Ringresonance$Light" "lost" "J") (by decide +kernel)) (fun _ h9 => h9) rfl (by decide +kernel) rfl rfl (Nat.le_of_ble_eq_true rfl) dX1_pass_70 (fun H locs hP hD hS => ?_)
            have hP : va_P E.1 vwCl [(aLi, o1 aLy aC aG aU aR aN aW (cO o) (nI tk) em (((rp (psB le se tk pt) (i_4) (co, gi, lo, lk)).2.2.1) + (((rp (psB le se tk pt) (i_4) (co, gi, lo, lk)).1) ((pt * 2 + 0) * 8 + i_4))) ((rp (psB le se tk pt) (i_4) (co, gi, lo, lk)).2.2.2) de), (aLy, o0 (nI n) aK aX aY aF aS aL), (aS, ia E nI 16 se), (aL, ia E cL 32 le), (aC, ja E 256 (va_up ((rp (psB le se tk pt) (i_4) (co, gi, lo, lk)).1) ((pt * 2 + 0) * 8 + i_4) 0)), (aG, ja E 256 ((rp (psB le se tk pt) (i_4) (co, gi, lo, lk)).2.1))] H := hP
            have hD : va_D A [(aLi, o1 aLy aC aG aU aR aN aW (cO o) (nI tk) em (((rp (psB le se tk pt) (i_4) (co, gi, lo, lk)).2.2.1) + (((rp (psB le se tk pt) (i_4) (co, gi, lo, lk)).1) ((pt * 2 + 0) * 8 + i_4))) ((rp (psB le se tk pt) (i_4) (co, gi, lo, lk)).2.2.2) de), (aLy, o0 (nI n) aK aX aY aF aS aL), (aS, ia E nI 16 se), (aL, ia E cL 32 le), (aC, ja E 256 (va_up ((rp (psB le se tk pt) (i_4) (co, gi, lo, lk)).1) ((pt * 2 + 0) * 8 + i_4) 0)), (aG, ja E 256 ((rp (psB le se tk pt) (i_4) (co, gi, lo, lk)).2.1))] := hD
            refine lv_iinc (v := nI (i_4 + 1)) (lv' := [(3, .int (nI (i_4 + 1))), (4, .long (((rp (psB le se tk pt) (i_4) (co, gi, lo, lk)).1) ((pt * 2 + 0) * 8 + i_4))), (0, .ref aLi), (1, .int (nI pt)), (2, .int (nI bz))]) hx hb dX1_pass_73 hl (k := 4) rfl (nI_add i_4 1) (by decide) rfl (fun ls hl => ?_)
            refine lv_goto (tgt := 31) hx hb dX1_pass_76 (by decide) ?_
            have q_7 : ((rp (psB le se tk pt) (i_4 + 1) (co, gi, lo, lk)).2.2.1) = (((rp (psB le se tk pt) (i_4) (co, gi, lo, lk)).2.2.1) + (((rp (psB le se tk pt) (i_4) (co, gi, lo, lk)).1) ((pt * 2 + 0) * 8 + i_4))) := by first | rfl | (simp only [psB, rp, psB, rp, c_5, c_6, hoz, if_true, if_false, not_true_eq_false, not_false_eq_true]; done) | (simp only [psB, rp, psB, rp, c_5, c_6, hoz]; rfl) | (simp [psB, rp, psB, rp, c_5, c_6, hoz]; done)
            have q_8 : ((rp (psB le se tk pt) (i_4 + 1) (co, gi, lo, lk)).2.2.2) = ((rp (psB le se tk pt) (i_4) (co, gi, lo, lk)).2.2.2) := by first | rfl | (simp only [psB, rp, psB, rp, c_5, c_6, hoz, if_true, if_false, not_true_eq_false, not_false_eq_true]; done) | (simp only [psB, rp, psB, rp, c_5, c_6, hoz]; rfl) | (simp [psB, rp, psB, rp, c_5, c_6, hoz]; done)
            have q_9 : ((rp (psB le se tk pt) (i_4 + 1) (co, gi, lo, lk)).1) = (va_up ((rp (psB le se tk pt) (i_4) (co, gi, lo, lk)).1) ((pt * 2 + 0) * 8 + i_4) 0) := by first | rfl | (simp only [psB, rp, psB, rp, c_5, c_6, hoz, if_true, if_false, not_true_eq_false, not_false_eq_true]; done) | (simp only [psB, rp, psB, rp, c_5, c_6, hoz]; rfl) | (simp [psB, rp, psB, rp, c_5, c_6, hoz]; done)
            have q_10 : ((rp (psB le se tk pt) (i_4 + 1) (co, gi, lo, lk)).2.1) = ((rp (psB le se tk pt) (i_4) (co, gi, lo, lk)).2.1) := by first | rfl | (simp only [psB, rp, psB, rp, c_5, c_6, hoz, if_true, if_false, not_true_eq_false, not_false_eq_true]; done) | (simp only [psB, rp, psB, rp, c_5, c_6, hoz]; rfl) | (simp [psB, rp, psB, rp, c_5, c_6, hoz]; done)
            have hP : va_P E.1 vwCl [(aLi, o1 aLy aC aG aU aR aN aW (cO o) (nI tk) em ((rp (psB le se tk pt) (i_4 + 1) (co, gi, lo, lk)).2.2.1) ((rp (psB le se tk pt) (i_4 + 1) (co, gi, lo, lk)).2.2.2) de), (aLy, o0 (nI n) aK aX aY aF aS aL), (aS, ia E nI 16 se), (aL, ia E cL 32 le), (aC, ja E 256 ((rp (psB le se tk pt) (i_4 + 1) (co, gi, lo, lk)).1)), (aG, ja E 256 ((rp (psB le se tk pt) (i_4 + 1) (co, gi, lo, lk)).2.1))] H := by rw [q_7, q_8, q_9, q_10]; exact hP
            have hD : va_D A [(aLi, o1 aLy aC aG aU aR aN aW (cO o) (nI tk) em ((rp (psB le se tk pt) (i_4 + 1) (co, gi, lo, lk)).2.2.1) ((rp (psB le se tk pt) (i_4 + 1) (co, gi, lo, lk)).2.2.2) de), (aLy, o0 (nI n) aK aX aY aF aS aL), (aS, ia E nI 16 se), (aL, ia E cL 32 le), (aC, ja E 256 ((rp (psB le se tk pt) (i_4 + 1) (co, gi, lo, lk)).1)), (aG, ja E 256 ((rp (psB le se tk pt) (i_4 + 1) (co, gi, lo, lk)).2.1))] := by rw [q_7, q_8, q_9, q_10]; exact hD
            have hl : lv_has ls 6 [(0, .ref aLi), (1, .int (nI pt)), (2, .int (nI bz)), (3, .int (nI (i_4 + 1)))] := lv_sub hl [2, 3, 4, 0] rfl
            exact ih_3 (i_4 + 1) (by omega) (by omega) _ _ hP hD hS _ hl
          · skip
            have c_6 : ¬ (bz = 0) := fun h => c_6 ((ci0_eq (by omega)).mpr h)
            have hoz : opn (se pt) tk = 1 := by omega
            refine lv_aload_n hx hb dX1_pass_50 rfl (lv_at hl 1 rfl) ?_
            refine lv_iload_n hx hb dX1_pass_51 rfl (lv_at hl 2 rfl) ?_
            refine lv_iconst (v := nI 0) hx hb dX1_pass_52 (by decide) ?_
            refine lv_iload_n hx hb dX1_pass_53 rfl (lv_at hl 4 rfl) ?_
            refine lv_lload hx hb dX1_pass_54 (lv_at hl 0 rfl) ?_
            have hPc := hP.pick (ws' := [(aLi, o1 aLy aC aG aU aR aN aW (cO o) (nI tk) em ((rp (psB le se tk pt) (i_4) (co, gi, lo, lk)).2.2.1) ((rp (psB le se tk pt) (i_4) (co, gi, lo, lk)).2.2.2) de), (aLy, o0 (nI n) aK aX aY aF aS aL), (aL, ia E cL 32 le), (aG, ja E 256 ((rp (psB le se tk pt) (i_4) (co, gi, lo, lk)).2.1))]) [0, 1, 3, 5] rfl
            have hDc := hD.sub (ws' := [(aLi, o1 aLy aC aG aU aR aN aW (cO o) (nI tk) em ((rp (psB le se tk pt) (i_4) (co, gi, lo, lk)).2.2.1) ((rp (psB le se tk pt) (i_4) (co, gi, lo, lk)).2.2.2) de), (aLy, o0 (nI n) aK aX aY aF aS aL), (aL, ia E cL 32 le), (aG, ja E 256 ((rp (psB le se tk pt) (i_4) (co, gi, lo, lk)).2.1))]) [0, 1, 3, 5] (by decide) rfl
            refine kcV (wr := [(aS, ia E nI 16 se), (aC, ja E 256 (va_up ((rp (psB le se tk pt) (i_4) (co, gi, lo, lk)).1) ((pt * 2 + 0) * 8 + i_4) 0))]) (w1 := fun _ : Unit => [(aLi, o1 aLy aC aG aU aR aN aW (cO o) (nI tk) em ((rp (psB le se tk pt) (i_4) (co, gi, lo, lk)).2.2.1) (gvL (le (pt * 2 + 0)) (((rp (psB le se tk pt) (i_4) (co, gi, lo, lk)).1) ((pt * 2 + 0) * 8 + i_4)) ((rp (psB le se tk pt) (i_4) (co, gi, lo, lk)).2.2.2)) de), (aLy, o0 (nI n) aK aX aY aF aS aL), (aL, ia E cL 32 le), (aG, ja E 256 (gvG (le (pt * 2 + 0)) i_4 (((rp (psB le se tk pt) (i_4) (co, gi, lo, lk)).1) ((pt * 2 + 0) * 8 + i_4)) ((rp (psB le se tk pt) (i_4) (co, gi, lo, lk)).2.1)))]) (w2 := fun _ => [(aLi, o1 aLy aC aG aU aR aN aW (cO o) (nI tk) em ((rp (psB le se tk pt) (i_4) (co, gi, lo, lk)).2.2.1) (gvL (le (pt * 2 + 0)) (((rp (psB le se tk pt) (i_4) (co, gi, lo, lk)).1) ((pt * 2 + 0) * 8 + i_4)) ((rp (psB le se tk pt) (i_4) (co, gi, lo, lk)).2.2.2)) de), (aLy, o0 (nI n) aK aX aY aF aS aL), (aS, ia E nI 16 se), (aL, ia E cL 32 le), (aC, ja E 256 (va_up ((rp (psB le se tk pt) (i_4) (co, gi, lo, lk)).1) ((pt * 2 + 0) * 8 + i_4) 0)), (aG, ja E 256 (gvG (le (pt * 2 + 0)) i_4 (((rp (psB le se tk pt) (i_4) (co, gi, lo, lk)).1) ((pt * 2 + 0) * 8 + i_4)) ((rp (psB le se tk pt) (i_4) (co, gi, lo, lk)).2.1)))]) (va_runV (As := [.int (nI pt), .int (nI 0), .int (nI i_4), .long (((rp (psB le se tk pt) (i_4) (co, gi, lo, lk)).1) ((pt * 2 + 0) * 8 + i_4))]) (rest := []) ⟨hx, hb, hml, hown, hts⟩ (c_give l E H.size pt 0 i_4 (((rp (psB le se tk pt) (i_4) (co, gi, lo, lk)).1) ((pt * 2 + 0) * 8 + i_4)) aLy aK aX aY aF aS aL n aLi aC aG aU aR aN aW o tk em ((rp (psB le se tk pt) (i_4) (co, gi, lo, lk)).2.2.1) ((rp (psB le se tk pt) (i_4) (co, gi, lo, lk)).2.2.2) de le ((rp (psB le se tk pt) (i_4) (co, gi, lo, lk)).2.1) (by omega) (by omega) (by omega) (hL)) (cwV 4 hts gX1_pass_X1_give rfl rfl rfl (by decide +kernel) ⟨Nat.le_of_ble_eq_true rfl, Nat.le_of_ble_eq_true rfl⟩) (preV C0 hPc hDc hS 0 rfl rfl) rfl rfl hl.1 rfl (lv_room (Nat.le_of_ble_eq_true rfl)) dX1_pass_56 ⟨Nat.le_refl _, Nat.le_refl _⟩) C0 hP hD hS [0, 1, 3, 5] [2, 4] [2, 3, 0, 4, 1, 5] rfl rfl (by decide) (by decide) (fun _ => rfl) (by decide) (fun _u H locs _hw hP hD hS => ?_)
            have hP : va_P E.1 vwCl [(aLi, o1 aLy aC aG aU aR aN aW (cO o) (nI tk) em ((rp (psB le se tk pt) (i_4) (co, gi, lo, lk)).2.2.1) (gvL (le (pt * 2 + 0)) (((rp (psB le se tk pt) (i_4) (co, gi, lo, lk)).1) ((pt * 2 + 0) * 8 + i_4)) ((rp (psB le se tk pt) (i_4) (co, gi, lo, lk)).2.2.2)) de), (aLy, o0 (nI n) aK aX aY aF aS aL), (aS, ia E nI 16 se), (aL, ia E cL 32 le), (aC, ja E 256 (va_up ((rp (psB le se tk pt) (i_4) (co, gi, lo, lk)).1) ((pt * 2 + 0) * 8 + i_4) 0)), (aG, ja E 256 (gvG (le (pt * 2 + 0)) i_4 (((rp (psB le se tk pt) (i_4) (co, gi, lo, lk)).1) ((pt * 2 + 0) * 8 + i_4)) ((rp (psB le se tk pt) (i_4) (co, gi, lo, lk)).2.1)))] H := hP
            have hD : va_D A [(aLi, o1 aLy aC aG aU aR aN aW (cO o) (nI tk) em ((rp (psB le se tk pt) (i_4) (co, gi, lo, lk)).2.2.1) (gvL (le (pt * 2 + 0)) (((rp (psB le se tk pt) (i_4) (co, gi, lo, lk)).1) ((pt * 2 + 0) * 8 + i_4)) ((rp (psB le se tk pt) (i_4) (co, gi, lo, lk)).2.2.2)) de), (aLy, o0 (nI n) aK aX aY aF aS aL), (aS, ia E nI 16 se), (aL, ia E cL 32 le), (aC, ja E 256 (va_up ((rp (psB le se tk pt) (i_4) (co, gi, lo, lk)).1) ((pt * 2 + 0) * 8 + i_4) 0)), (aG, ja E 256 (gvG (le (pt * 2 + 0)) i_4 (((rp (psB le se tk pt) (i_4) (co, gi, lo, lk)).1) ((pt * 2 + 0) * 8 + i_4)) ((rp (psB le se tk pt) (i_4) (co, gi, lo, lk)).2.1)))] := hD
            refine lv_goto (tgt := 73) hx hb dX1_pass_59 (by decide) ?_
            refine lv_iinc (v := nI (i_4 + 1)) (lv' := [(3, .int (nI (i_4 + 1))), (4, .long (((rp (psB le se tk pt) (i_4) (co, gi, lo, lk)).1) ((pt * 2 + 0) * 8 + i_4))), (0, .ref aLi), (1, .int (nI pt)), (2, .int (nI bz))]) hx hb dX1_pass_73 hl (k := 4) rfl (nI_add i_4 1) (by decide) rfl (fun ls hl => ?_)
            refine lv_goto (tgt := 31) hx hb dX1_pass_76 (by decide) ?_
            have q_11 : ((rp (psB le se tk pt) (i_4 + 1) (co, gi, lo, lk)).2.2.1) = ((rp (psB le se tk pt) (i_4) (co, gi, lo, lk)).2.2.1) := by first | rfl | (simp only [psB, rp, psB, rp, c_5, c_6, hoz, if_true, if_false, not_true_eq_false, not_false_eq_true]; done) | (simp only [psB, rp, psB, rp, c_5, c_6, hoz]; rfl) | (simp [psB, rp, psB, rp, c_5, c_6, hoz]; done)
            have q_12 : ((rp (psB le se tk pt) (i_4 + 1) (co, gi, lo, lk)).2.2.2) = (gvL (le (pt * 2 + 0)) (((rp (psB le se tk pt) (i_4) (co, gi, lo, lk)).1) ((pt * 2 + 0) * 8 + i_4)) ((rp (psB le se tk pt) (i_4) (co, gi, lo, lk)).2.2.2)) := by first | rfl | (simp only [psB, rp, psB, rp, c_5, c_6, hoz, if_true, if_false, not_true_eq_false, not_false_eq_true]; done) | (simp only [psB, rp, psB, rp, c_5, c_6, hoz]; rfl) | (simp [psB, rp, psB, rp, c_5, c_6, hoz]; done)
            have q_13 : ((rp (psB le se tk pt) (i_4 + 1) (co, gi, lo, lk)).1) = (va_up ((rp (psB le se tk pt) (i_4) (co, gi, lo, lk)).1) ((pt * 2 + 0) * 8 + i_4) 0) := by first | rfl | (simp only [psB, rp, psB, rp, c_5, c_6, hoz, if_true, if_false, not_true_eq_false, not_false_eq_true]; done) | (simp only [psB, rp, psB, rp, c_5, c_6, hoz]; rfl) | (simp [psB, rp, psB, rp, c_5, c_6, hoz]; done)
            have q_14 : ((rp (psB le se tk pt) (i_4 + 1) (co, gi, lo, lk)).2.1) = (gvG (le (pt * 2 + 0)) i_4 (((rp (psB le se tk pt) (i_4) (co, gi, lo, lk)).1) ((pt * 2 + 0) * 8 + i_4)) ((rp (psB le se tk pt) (i_4) (co, gi, lo, lk)).2.1)) := by first | rfl | (simp only [psB, rp, psB, rp, c_5, c_6, hoz, if_true, if_false, not_true_eq_false, not_false_eq_true]; done) | (simp only [psB, rp, psB, rp, c_5, c_6, hoz]; rfl) | (simp [psB, rp, psB, rp, c_5, c_6, hoz]; done)
            have hP : va_P E.1 vwCl [(aLi, o1 aLy aC aG aU aR aN aW (cO o) (nI tk) em ((rp (psB le se tk pt) (i_4 + 1) (co, gi, lo, lk)).2.2.1) ((rp (psB le se tk pt) (i_4 + 1) (co, gi, lo, lk)).2.2.2) de), (aLy, o0 (nI n) aK aX aY aF aS aL), (aS, ia E nI 16 se), (aL, ia E cL 32 le), (aC, ja E 256 ((rp (psB le se tk pt) (i_4 + 1) (co, gi, lo, lk)).1)), (aG, ja E 256 ((rp (psB le se tk pt) (i_4 + 1) (co, gi, lo, lk)).2.1))] H := by rw [q_11, q_12, q_13, q_14]; exact hP
            have hD : va_D A [(aLi, o1 aLy aC aG aU aR aN aW (cO o) (nI tk) em ((rp (psB le se tk pt) (i_4 + 1) (co, gi, lo, lk)).2.2.1) ((rp (psB le se tk pt) (i_4 + 1) (co, gi, lo, lk)).2.2.2) de), (aLy, o0 (nI n) aK aX aY aF aS aL), (aS, ia E nI 16 se), (aL, ia E cL 32 le), (aC, ja E 256 ((rp (psB le se tk pt) (i_4 + 1) (co, gi, lo, lk)).1)), (aG, ja E 256 ((rp (psB le se tk pt) (i_4 + 1) (co, gi, lo, lk)).2.1))] := by rw [q_11, q_12, q_13, q_14]; exact hD
            have hl : lv_has ls 6 [(0, .ref aLi), (1, .int (nI pt)), (2, .int (nI bz)), (3, .int (nI (i_4 + 1)))] := lv_sub hl [2, 3, 4, 0] rfl
            exact ih_3 (i_4 + 1) (by omega) (by omega) _ _ hP hD hS _ hl
    have q_15 : ((rp (psB le se tk pt) (0) (co, gi, lo, lk)).2.2.1) = lo := by first | rfl | (simp only [psB, rp, psB, rp, if_true, if_false, not_true_eq_false, not_false_eq_true]; done) | (simp only [psB, rp, psB, rp]; rfl) | (simp [psB, rp, psB, rp]; done)
    have q_16 : ((rp (psB le se tk pt) (0) (co, gi, lo, lk)).2.2.2) = lk := by first | rfl | (simp only [psB, rp, psB, rp, if_true, if_false, not_true_eq_false, not_false_eq_true]; done) | (simp only [psB, rp, psB, rp]; rfl) | (simp [psB, rp, psB, rp]; done)
    have q_17 : ((rp (psB le se tk pt) (0) (co, gi, lo, lk)).1) = co := by first | rfl | (simp only [psB, rp, psB, rp, if_true, if_false, not_true_eq_false, not_false_eq_true]; done) | (simp only [psB, rp, psB, rp]; rfl) | (simp [psB, rp, psB, rp]; done)
    have q_18 : ((rp (psB le se tk pt) (0) (co, gi, lo, lk)).2.1) = gi := by first | rfl | (simp only [psB, rp, psB, rp, if_true, if_false, not_true_eq_false, not_false_eq_true]; done) | (simp only [psB, rp, psB, rp]; rfl) | (simp [psB, rp, psB, rp]; done)
    have hP : va_P E.1 vwCl [(aLi, o1 aLy aC aG aU aR aN aW (cO o) (nI tk) em ((rp (psB le se tk pt) (0) (co, gi, lo, lk)).2.2.1) ((rp (psB le se tk pt) (0) (co, gi, lo, lk)).2.2.2) de), (aLy, o0 (nI n) aK aX aY aF aS aL), (aS, ia E nI 16 se), (aL, ia E cL 32 le), (aC, ja E 256 ((rp (psB le se tk pt) (0) (co, gi, lo, lk)).1)), (aG, ja E 256 ((rp (psB le se tk pt) (0) (co, gi, lo, lk)).2.1))] H := by rw [q_15, q_16, q_17, q_18]; exact hP
    have hD : va_D A [(aLi, o1 aLy aC aG aU aR aN aW (cO o) (nI tk) em ((rp (psB le se tk pt) (0) (co, gi, lo, lk)).2.2.1) ((rp (psB le se tk pt) (0) (co, gi, lo, lk)).2.2.2) de), (aLy, o0 (nI n) aK aX aY aF aS aL), (aS, ia E nI 16 se), (aL, ia E cL 32 le), (aC, ja E 256 ((rp (psB le se tk pt) (0) (co, gi, lo, lk)).1)), (aG, ja E 256 ((rp (psB le se tk pt) (0) (co, gi, lo, lk)).2.1))] := by rw [q_15, q_16, q_17, q_18]; exact hD
    have hl : lv_has ls 6 [(0, .ref aLi), (1, .int (nI pt)), (2, .int (nI bz)), (3, .int (nI 0))] := lv_sub hl [2, 3, 1, 0] rfl
    exact LP_2 (8 + 1) 0 (by omega) (by omega) _ _ hP hD hS _ hl
  refine lv_aload_n hx hb dX1_pass_9 rfl (lv_at hl 0 rfl) ?_
  refine va_get (D := E.1) (ci := 1) (v := .int (nI tk)) (C := RX1) (T := TX1) (N := 13) hx hb hts iX1 hown C0.1 hP 0 rfl rfl 8 (by decide) (hts (.fieldLink RX1 45 "Ringresonance$Light" "ticks" "I") (by decide +kernel)) (fun _ h9 => h9) rfl dX1_pass_10 ?_
  refine lv_bipush (v := nI 8) hx hb dX1_pass_13 (by decide) ?_
  refine lv_irem hx hb dX1_pass_15 (by decide) ?_
  refine lv_ri (y := (nI (tk % 8))) (pk_rem (by omega) (by omega) (by omega)) ?_
  refine lv_ishr hx hb dX1_pass_16 ?_
  refine lv_iconst (v := nI 1) hx hb dX1_pass_17 (by decide) ?_
  refine lv_iand hx hb dX1_pass_18 ?_
  refine lv_ri (y := (nI (opn (se pt) tk))) (opn_row (by omega)) ?_
  have hopn := opn_lt (se pt) tk
  refine lv_iconst (v := nI 1) hx hb dX1_pass_19 (by decide) ?_
  refine lv_icmp_ne (tgt := 27) hx hb dX1_pass_20 (by decide) (fun c_19 => ?_) (fun c_19 => ?_)
  · skip
    have c_19 : ¬ ((opn (se pt) tk) = 1) := fun h => c_19 ((ci_eq (by omega) (by omega)).mpr h)
    refine lv_iconst (v := nI 0) hx hb dX1_pass_27 (by decide) ?_
    have hl : lv_has ls 6 [(0, .ref aLi), (1, .int (nI pt))] := lv_sub hl [0, 1] rfl
    exact JN_1 0 (by omega) _ _ hP hD hS _ hl
  · skip
    have c_19 : (opn (se pt) tk) = 1 := (ci_eq (by omega) (by omega)).mp c_19
    refine lv_iconst (v := nI 1) hx hb dX1_pass_23 (by decide) ?_
    refine lv_goto (tgt := 28) hx hb dX1_pass_24 (by decide) ?_
    have hl : lv_has ls 6 [(0, .ref aLi), (1, .int (nI pt))] := lv_sub hl [0, 1] rfl
    exact JN_1 1 (by omega) _ _ hP hD hS _ hl

/-- a detector in a tick, channel ch -/
def dtB (pt : Nat) (ch : Nat) (S : (Nat → Int64) × (Nat → Int64) × Int64) : (Nat → Int64) × (Nat → Int64) × Int64 :=
  let ph := S.1 ((pt * 2 + 0) * 8 + ch)
  (va_up S.1 ((pt * 2 + 0) * 8 + ch) 0, va_up S.2.1 (pt * 8 + ch) (S.2.1 (pt * 8 + ch) + ph), S.2.2 + ph)

set_option maxHeartbeats 4000000 in
set_option maxRecDepth 100000 in
theorem c_detect (l : Launch) (E : EnvT) (sz : Nat) (pt : Nat) (aLy : Nat) (aLi aC aG aU aR aN aW o tk : Nat) (em lo lk de : Int64) (co sn : Nat → Int64) (hp : pt < 16) : MV l yX1_detect wsX1_detect ({ frames := 2, cells := 0, slots := 0, locals := 47 }) E sz [.ref aLi, .int (nI pt)] [(aLi, o1 aLy aC aG aU aR aN aW (cO o) (nI tk) em lo lk de), (aC, ja E 256 co), (aN, ja E 128 sn)] (fun _ : Unit => True) (fun _ => [(aLi, o1 aLy aC aG aU aR aN aW (cO o) (nI tk) em lo lk ((rp (dtB pt) (8) (co, sn, de)).2.2)), (aC, ja E 256 ((rp (dtB pt) (8) (co, sn, de)).1)), (aN, ja E 128 ((rp (dtB pt) (8) (co, sn, de)).2.1))]) := by
  refine enV (cc := cX1_detect) (maxL := 5) (by decide +kernel) rfl (Nat.le_of_ble_eq_true rfl) ?_
  intro p e s m below meth c A ls hx hb hr hml hts hown hlocks hAe C0 hP hD hS hl
  have hown : s.vm.findClass RX1 = some m.cls := hown
  have hl : lv_has ls 5 [(0, .ref aLi), (1, .int (nI pt))] := hl
  have iX1 : ∀ w ∈ u_ws RX1 TX1 13, w ∈ wsX1_detect := by decide +kernel
  obtain ⟨H, hHe⟩ : ∃ z, z = s.heap := ⟨_, rfl⟩
  obtain ⟨locs, hLe⟩ : ∃ z : List Loc, z = [] := ⟨_, rfl⟩
  have hP : va_P E.1 vwCl [(aLi, o1 aLy aC aG aU aR aN aW (cO o) (nI tk) em lo lk de), (aC, ja E 256 co), (aN, ja E 128 sn)] H := by rw [hHe]; exact hP
  have hD : va_D A [(aLi, o1 aLy aC aG aU aR aN aW (cO o) (nI tk) em lo lk de), (aC, ja E 256 co), (aN, ja E 128 sn)] := hD
  have hS : va_S A s.heap H locs := by rw [hHe, hLe]; exact hS
  suffices hgo : W p l e _ s m _ below meth c H locs 0 0 _ (F0 m 0 ls []) by rw [hHe, hLe] at hgo; exact hgo
  clear hHe hLe
  refine lv_iconst (v := nI 0) hx hb dX1_detect_0 (by decide) ?_
  refine lv_istore_n (lv' := [(2, .int (nI 0)), (0, .ref aLi), (1, .int (nI pt))]) hx hb dX1_detect_1 rfl hl (by decide) rfl (fun ls hl => ?_)
  have LP_1 : ∀ (nz i_3 : Nat), i_3 ≤ 8 → 8 < i_3 + nz → ∀ (H : Heap) (locs : List Loc), va_P E.1 vwCl [(aLi, o1 aLy aC aG aU aR aN aW (cO o) (nI tk) em lo lk ((rp (dtB pt) (i_3) (co, sn, de)).2.2)), (aC, ja E 256 ((rp (dtB pt) (i_3) (co, sn, de)).1)), (aN, ja E 128 ((rp (dtB pt) (i_3) (co, sn, de)).2.1))] H → va_D A [(aLi, o1 aLy aC aG aU aR aN aW (cO o) (nI tk) em lo lk ((rp (dtB pt) (i_3) (co, sn, de)).2.2)), (aC, ja E 256 ((rp (dtB pt) (i_3) (co, sn, de)).1)), (aN, ja E 128 ((rp (dtB pt) (i_3) (co, sn, de)).2.1))] → va_S A s.heap H locs → ∀ (ls : Array Slot), lv_has ls 5 [(0, .ref aLi), (1, .int (nI pt)), (2, .int (nI i_3))] → W p l e ({ frames := 2, cells := 0, slots := 0, locals := 47 }) s m (([.ref aLi, .int (nI pt)] : List Value).toArray) below meth c H locs 0 0 (MQ below (va_Qv (fun _ : Unit => True) (Wd E [(aLi, o1 aLy aC aG aU aR aN aW (cO o) (nI tk) em lo lk de), (aC, ja E 256 co), (aN, ja E 128 sn)] s.heap.size (fun _ => [(aLi, o1 aLy aC aG aU aR aN aW (cO o) (nI tk) em lo lk ((rp (dtB pt) (8) (co, sn, de)).2.2)), (aC, ja E 256 ((rp (dtB pt) (8) (co, sn, de)).1)), (aN, ja E 128 ((rp (dtB pt) (8) (co, sn, de)).2.1))])) A) (([.ref aLi, .int (nI pt)] : List Value).toArray) s 0 0 A) (F0 m 2 ls []) := by
    intro nz
    induction nz with
    | zero =>
      intro i_3 h1 h2
      exact absurd h2 (by omega)
    | succ nz ih_2 =>
      intro i_3 hi_i_3 hn_i_3 H locs hP hD hS ls hl
      refine lv_iload_n hx hb dX1_detect_2 rfl (lv_at hl 2 rfl) ?_
      refine lv_bipush (v := nI 8) hx hb dX1_detect_3 (by decide) ?_
      refine lv_icmp_ge (tgt := 47) hx hb dX1_detect_5 (by decide) (fun c_4 => ?_) (fun c_4 => ?_)
      · skip
        have c_4 : 8 ≤ i_3 := (ci_ge (by omega) (by omega)).mp c_4
        obtain rfl : 8 = i_3 := by omega
        exact exV hx hb hr hlocks hAe hS () trivial hP hD dX1_detect_47
      · skip
        have c_4 : ¬ (8 ≤ i_3) := fun h => c_4 ((ci_ge (by omega) (by omega)).mpr h)
        refine lv_aload_n hx hb dX1_detect_8 rfl (lv_at hl 0 rfl) ?_
        refine lv_iload_n hx hb dX1_detect_9 rfl (lv_at hl 1 rfl) ?_
        refine lv_iconst (v := nI 0) hx hb dX1_detect_10 (by decide) ?_
        refine lv_iload_n hx hb dX1_detect_11 rfl (lv_at hl 2 rfl) ?_
        have hPc := hP.pick (ws' := [(aLi, o1 aLy aC aG aU aR aN aW (cO o) (nI tk) em lo lk ((rp (dtB pt) (i_3) (co, sn, de)).2.2)), (aC, ja E 256 ((rp (dtB pt) (i_3) (co, sn, de)).1))]) [0, 1] rfl
        have hDc := hD.sub (ws' := [(aLi, o1 aLy aC aG aU aR aN aW (cO o) (nI tk) em lo lk ((rp (dtB pt) (i_3) (co, sn, de)).2.2)), (aC, ja E 256 ((rp (dtB pt) (i_3) (co, sn, de)).1))]) [0, 1] (by decide) rfl
        refine kcL (wr := [(aN, ja E 128 ((rp (dtB pt) (i_3) (co, sn, de)).2.1))]) (w1 := fun _ : Unit => [(aLi, o1 aLy aC aG aU aR aN aW (cO o) (nI tk) em lo lk ((rp (dtB pt) (i_3) (co, sn, de)).2.2)), (aC, ja E 256 (va_up ((rp (dtB pt) (i_3) (co, sn, de)).1) ((pt * 2 + 0) * 8 + i_3) 0))]) (w2 := fun _ => [(aLi, o1 aLy aC aG aU aR aN aW (cO o) (nI tk) em lo lk ((rp (dtB pt) (i_3) (co, sn, de)).2.2)), (aC, ja E 256 (va_up ((rp (dtB pt) (i_3) (co, sn, de)).1) ((pt * 2 + 0) * 8 + i_3) 0)), (aN, ja E 128 ((rp (dtB pt) (i_3) (co, sn, de)).2.1))]) (va_runV (As := [.int (nI pt), .int (nI 0), .int (nI i_3)]) (rest := []) ⟨hx, hb, hml, hown, hts⟩ (c_take l E H.size pt 0 i_3 aLy aLi aC aG aU aR aN aW o tk em lo lk ((rp (dtB pt) (i_3) (co, sn, de)).2.2) ((rp (dtB pt) (i_3) (co, sn, de)).1) (by omega) (by omega) (by omega)) (cwV 3 hts gX1_detect_X1_take rfl rfl rfl (by decide +kernel) ⟨Nat.le_of_ble_eq_true rfl, Nat.le_of_ble_eq_true rfl⟩) (preV C0 hPc hDc hS 0 rfl rfl) rfl rfl hl.1 rfl (lv_room (Nat.le_of_ble_eq_true rfl)) dX1_detect_12 ⟨Nat.le_refl _, Nat.le_refl _⟩) C0 hP hD hS [0, 1] [2] [1, 2, 0] rfl rfl (by decide) (by decide) (fun _ => rfl) (by decide) (fun r_9 _u H locs hw hP hD hS => ?_)
        have hP : va_P E.1 vwCl [(aLi, o1 aLy aC aG aU aR aN aW (cO o) (nI tk) em lo lk ((rp (dtB pt) (i_3) (co, sn, de)).2.2)), (aC, ja E 256 (va_up ((rp (dtB pt) (i_3) (co, sn, de)).1) ((pt * 2 + 0) * 8 + i_3) 0)), (aN, ja E 128 ((rp (dtB pt) (i_3) (co, sn, de)).2.1))] H := hP
        have hD : va_D A [(aLi, o1 aLy aC aG aU aR aN aW (cO o) (nI tk) em lo lk ((rp (dtB pt) (i_3) (co, sn, de)).2.2)), (aC, ja E 256 (va_up ((rp (dtB pt) (i_3) (co, sn, de)).1) ((pt * 2 + 0) * 8 + i_3) 0)), (aN, ja E 128 ((rp (dtB pt) (i_3) (co, sn, de)).2.1))] := hD
        have hw : r_9 = ((rp (dtB pt) (i_3) (co, sn, de)).1) ((pt * 2 + 0) * 8 + i_3) := hw
        subst hw
        refine lv_lstore_n (lv' := [(3, .long (((rp (dtB pt) (i_3) (co, sn, de)).1) ((pt * 2 + 0) * 8 + i_3))), (0, .ref aLi), (1, .int (nI pt)), (2, .int (nI i_3))]) hx hb dX1_detect_15 rfl hl (by decide) rfl (fun ls hl => ?_)
        refine lv_aload_n hx hb dX1_detect_16 rfl (lv_at hl 1 rfl) ?_
        refine lv_dup hx hb dX1_detect_17 rfl ?_
        refine va_get (D := E.1) (ci := 1) (v := .long ((rp (dtB pt) (i_3) (co, sn, de)).2.2)) (C := RX1) (T := TX1) (N := 13) hx hb hts iX1 hown C0.1 hP 0 rfl rfl 12 (by decide) (hts (.fieldLink RX1 58 "Ringresonance$Light" "detected" "J") (by decide +kernel)) (fun _ h9 => h9) rfl dX1_detect_18 ?_
        refine lv_lload_n hx hb dX1_detect_21 rfl (lv_at hl 0 rfl) ?_
        refine lv_ladd hx hb dX1_detect_22 ?_
        refine va_put (D := E.1) (ci := 1) (v := .long (((rp (dtB pt) (i_3) (co, sn, de)).2.2) + (((rp (dtB pt) (i_3) (co, sn, de)).1) ((pt * 2 + 0) * 8 + i_3)))) (ty := .long) (C := RX1) (T := TX1) (N := 13) hx hb hts iX1 tyX1 tyX1_ok nmX1 hown C0.1 hP hD hS 0 rfl rfl 12 (by decide) (hts (.fieldLink RX1 58 "Ringresonance$Light" "detected" "J") (by decide +kernel)) (fun _ h9 => h9) rfl (by decide +kernel) rfl rfl (Nat.le_of_ble_eq_true rfl) dX1_detect_23 (fun H locs hP hD hS => ?_)
        have hP : va_P E.1 vwCl [(aLi, o1 aLy aC aG aU aR aN aW (cO o) (nI tk) em lo lk (((rp (dtB pt) (i_3) (co, sn, de)).2.2) + (((rp (dtB pt) (i_3) (co, sn, de)).1) ((pt * 2 + 0) * 8 + i_3)))), (aC, ja E 256 (va_up ((rp (dtB pt) (i_3) (co, sn, de)).1) ((pt * 2 + 0) * 8 + i_3) 0)), (aN, ja E 128 ((rp (dtB pt) (i_3) (co, sn, de)).2.1))] H := hP
        have hD : va_D A [(aLi, o1 aLy aC aG aU aR aN aW (cO o) (nI tk) em lo lk (((rp (dtB pt) (i_3) (co, sn, de)).2.2) + (((rp (dtB pt) (i_3) (co, sn, de)).1) ((pt * 2 + 0) * 8 + i_3)))), (aC, ja E 256 (va_up ((rp (dtB pt) (i_3) (co, sn, de)).1) ((pt * 2 + 0) * 8 + i_3) 0)), (aN, ja E 128 ((rp (dtB pt) (i_3) (co, sn, de)).2.1))] := hD
        refine lv_aload_n hx hb dX1_detect_26 rfl (lv_at hl 1 rfl) ?_
        refine va_get (D := E.1) (ci := 1) (v := .ref aN) (C := RX1) (T := TX1) (N := 13) hx hb hts iX1 hown C0.1 hP 0 rfl rfl 5 (by decide) (hts (.fieldLink RX1 24 "Ringresonance$Light" "seenOf" "[J") (by decide +kernel)) (fun _ h9 => h9) rfl dX1_detect_27 ?_
        refine lv_iload_n hx hb dX1_detect_30 rfl (lv_at hl 2 rfl) ?_
        refine lv_bipush (v := nI 8) hx hb dX1_detect_31 (by decide) ?_
        refine lv_imul hx hb dX1_detect_33 ?_
        refine lv_ri (y := (nI (pt * 8))) (pk_mul pt 8) ?_
        refine lv_iload_n hx hb dX1_detect_34 rfl (lv_at hl 3 rfl) ?_
        refine lv_iadd hx hb dX1_detect_35 ?_
        refine lv_ri (y := (nI ((pt * 8) + i_3))) (nI_add (pt * 8) i_3) ?_
        refine lv_dup2_11 hx hb dX1_detect_36 rfl rfl ?_
        refine k_lald (e := ((pt * 8) + i_3)) (n := 128) hx hb C0 hP 2 rfl (by omega) (by omega) dX1_detect_37 ?_
        refine lv_lload_n hx hb dX1_detect_38 rfl (lv_at hl 0 rfl) ?_
        refine lv_ladd hx hb dX1_detect_39 ?_
        refine k_last (e := ((pt * 8) + i_3)) (n := 128) hx hb C0 hP hD hS 2 rfl (by omega) (by omega) dX1_detect_40 (fun H locs hP hD hS => ?_)
        have hP : va_P E.1 vwCl [(aLi, o1 aLy aC aG aU aR aN aW (cO o) (nI tk) em lo lk (((rp (dtB pt) (i_3) (co, sn, de)).2.2) + (((rp (dtB pt) (i_3) (co, sn, de)).1) ((pt * 2 + 0) * 8 + i_3)))), (aC, ja E 256 (va_up ((rp (dtB pt) (i_3) (co, sn, de)).1) ((pt * 2 + 0) * 8 + i_3) 0)), (aN, ja E 128 (va_up ((rp (dtB pt) (i_3) (co, sn, de)).2.1) ((pt * 8) + i_3) ((((rp (dtB pt) (i_3) (co, sn, de)).2.1) ((pt * 8) + i_3)) + (((rp (dtB pt) (i_3) (co, sn, de)).1) ((pt * 2 + 0) * 8 + i_3)))))] H := hP
        have hD : va_D A [(aLi, o1 aLy aC aG aU aR aN aW (cO o) (nI tk) em lo lk (((rp (dtB pt) (i_3) (co, sn, de)).2.2) + (((rp (dtB pt) (i_3) (co, sn, de)).1) ((pt * 2 + 0) * 8 + i_3)))), (aC, ja E 256 (va_up ((rp (dtB pt) (i_3) (co, sn, de)).1) ((pt * 2 + 0) * 8 + i_3) 0)), (aN, ja E 128 (va_up ((rp (dtB pt) (i_3) (co, sn, de)).2.1) ((pt * 8) + i_3) ((((rp (dtB pt) (i_3) (co, sn, de)).2.1) ((pt * 8) + i_3)) + (((rp (dtB pt) (i_3) (co, sn, de)).1) ((pt * 2 + 0) * 8 + i_3)))))] := hD
        refine lv_iinc (v := nI (i_3 + 1)) (lv' := [(2, .int (nI (i_3 + 1))), (3, .long (((rp (dtB pt) (i_3) (co, sn, de)).1) ((pt * 2 + 0) * 8 + i_3))), (0, .ref aLi), (1, .int (nI pt))]) hx hb dX1_detect_41 hl (k := 3) rfl (nI_add i_3 1) (by decide) rfl (fun ls hl => ?_)
        refine lv_goto (tgt := 2) hx hb dX1_detect_44 (by decide) ?_
        have q_5 : ((rp (dtB pt) (i_3 + 1) (co, sn, de)).2.2) = (((rp (dtB pt) (i_3) (co, sn, de)).2.2) + (((rp (dtB pt) (i_3) (co, sn, de)).1) ((pt * 2 + 0) * 8 + i_3))) := by first | rfl | (simp only [c_4, if_true, if_false, not_true_eq_false, not_false_eq_true]; done) | (simp only [c_4]; rfl) | (simp [c_4]; done)
        have q_6 : ((rp (dtB pt) (i_3 + 1) (co, sn, de)).1) = (va_up ((rp (dtB pt) (i_3) (co, sn, de)).1) ((pt * 2 + 0) * 8 + i_3) 0) := by first | rfl | (simp only [c_4, if_true, if_false, not_true_eq_false, not_false_eq_true]; done) | (simp only [c_4]; rfl) | (simp [c_4]; done)
        have q_7 : ((rp (dtB pt) (i_3 + 1) (co, sn, de)).2.1) = (va_up ((rp (dtB pt) (i_3) (co, sn, de)).2.1) ((pt * 8) + i_3) ((((rp (dtB pt) (i_3) (co, sn, de)).2.1) ((pt * 8) + i_3)) + (((rp (dtB pt) (i_3) (co, sn, de)).1) ((pt * 2 + 0) * 8 + i_3)))) := by first | rfl | (simp only [c_4, if_true, if_false, not_true_eq_false, not_false_eq_true]; done) | (simp only [c_4]; rfl) | (simp [c_4]; done)
        have hP : va_P E.1 vwCl [(aLi, o1 aLy aC aG aU aR aN aW (cO o) (nI tk) em lo lk ((rp (dtB pt) (i_3 + 1) (co, sn, de)).2.2)), (aC, ja E 256 ((rp (dtB pt) (i_3 + 1) (co, sn, de)).1)), (aN, ja E 128 ((rp (dtB pt) (i_3 + 1) (co, sn, de)).2.1))] H := by rw [q_5, q_6, q_7]; exact hP
        have hD : va_D A [(aLi, o1 aLy aC aG aU aR aN aW (cO o) (nI tk) em lo lk ((rp (dtB pt) (i_3 + 1) (co, sn, de)).2.2)), (aC, ja E 256 ((rp (dtB pt) (i_3 + 1) (co, sn, de)).1)), (aN, ja E 128 ((rp (dtB pt) (i_3 + 1) (co, sn, de)).2.1))] := by rw [q_5, q_6, q_7]; exact hD
        have hl : lv_has ls 5 [(0, .ref aLi), (1, .int (nI pt)), (2, .int (nI (i_3 + 1)))] := lv_sub hl [2, 3, 0] rfl
        exact ih_2 (i_3 + 1) (by omega) (by omega) _ _ hP hD hS _ hl
  have q_8 : ((rp (dtB pt) (0) (co, sn, de)).2.2) = de := by first | rfl | (simp only [if_true, if_false, not_true_eq_false, not_false_eq_true]; done) | (simp only [if_true]; rfl) | (simp []; done)
  have q_9 : ((rp (dtB pt) (0) (co, sn, de)).1) = co := by first | rfl | (simp only [if_true, if_false, not_true_eq_false, not_false_eq_true]; done) | (simp only [if_true]; rfl) | (simp []; done)
  have q_10 : ((rp (dtB pt) (0) (co, sn, de)).2.1) = sn := by first | rfl | (simp only [if_true, if_false, not_true_eq_false, not_false_eq_true]; done) | (simp only [if_true]; rfl) | (simp []; done)
  have hP : va_P E.1 vwCl [(aLi, o1 aLy aC aG aU aR aN aW (cO o) (nI tk) em lo lk ((rp (dtB pt) (0) (co, sn, de)).2.2)), (aC, ja E 256 ((rp (dtB pt) (0) (co, sn, de)).1)), (aN, ja E 128 ((rp (dtB pt) (0) (co, sn, de)).2.1))] H := by rw [q_8, q_9, q_10]; exact hP
  have hD : va_D A [(aLi, o1 aLy aC aG aU aR aN aW (cO o) (nI tk) em lo lk ((rp (dtB pt) (0) (co, sn, de)).2.2)), (aC, ja E 256 ((rp (dtB pt) (0) (co, sn, de)).1)), (aN, ja E 128 ((rp (dtB pt) (0) (co, sn, de)).2.1))] := by rw [q_8, q_9, q_10]; exact hD
  have hl : lv_has ls 5 [(0, .ref aLi), (1, .int (nI pt)), (2, .int (nI 0))] := lv_sub hl [1, 2, 0] rfl
  exact LP_1 (8 + 1) 0 (by omega) (by omega) _ _ hP hD hS _ hl
