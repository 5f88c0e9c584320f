set_option maxHeartbeats 4000000 in
set_option maxRecDepth 100000 in
theorem c_place (l : Launch) (E : EnvT) (sz : Nat) (kk kx ky kf ks : Nat) (aLy aK aX aY aF aS aL n : Nat) (kd xs ys fi se : Nat → Nat) (hn : n < 16) : MI l yX0_place wsX0_place ({ frames := 0, cells := 0, slots := 0, locals := 0 }) E sz [.ref aLy, .int (nI kk), .int (nI kx), .int (nI ky), .int (nI kf), .int (nI ks)] [(aLy, o0 (nI n) aK aX aY aF aS aL), (aK, ia E nI 16 kd), (aX, ia E nI 16 xs), (aY, ia E nI 16 ys), (aF, ia E nI 16 fi), (aS, ia E nI 16 se)] (fun (r : Int32) (_ : Unit) => r = nI n) (fun _ => [(aLy, o0 (nI (n + 1)) aK aX aY aF aS aL), (aK, ia E nI 16 (va_up kd n kk)), (aX, ia E nI 16 (va_up xs n kx)), (aY, ia E nI 16 (va_up ys n ky)), (aF, ia E nI 16 (va_up fi n kf)), (aS, ia E nI 16 (va_up se n ks))]) := by
  refine enI (cc := cX0_place) (maxL := 7) (ret := .int) (by decide +kernel) rfl (Nat.le_of_ble_eq_true rfl) ?_
  intro p e s m below meth c A ls hx hb hr hml hts hown hlocks hAe C0 hP hD hS hl
  have hown : s.vm.findClass RX0 = some m.cls := hown
  have hl : lv_has ls 7 [(0, .ref aLy), (1, .int (nI kk)), (2, .int (nI kx)), (3, .int (nI ky)), (4, .int (nI kf)), (5, .int (nI ks))] := hl
  have iX0 : ∀ w ∈ u_ws RX0 TX0 7, w ∈ wsX0_place := by decide +kernel
  obtain ⟨H, hHe⟩ : ∃ z, z = s.heap := ⟨_, rfl⟩
  obtain ⟨locs, hLe⟩ : ∃ z : List Loc, z = [] := ⟨_, rfl⟩
  have hP : va_P E.1 vwCl [(aLy, o0 (nI n) aK aX aY aF aS aL), (aK, ia E nI 16 kd), (aX, ia E nI 16 xs), (aY, ia E nI 16 ys), (aF, ia E nI 16 fi), (aS, ia E nI 16 se)] H := by rw [hHe]; exact hP
  have hD : va_D A [(aLy, o0 (nI n) aK aX aY aF aS aL), (aK, ia E nI 16 kd), (aX, ia E nI 16 xs), (aY, ia E nI 16 ys), (aF, ia E nI 16 fi), (aS, ia E nI 16 se)] := hD
  have hS : va_S A s.heap H locs := by rw [hHe, hLe]; exact hS
  suffices hgo : W p l e _ s m _ below meth c H locs 0 0 _ (F0 m 0 ls []) by rw [hHe, hLe] at hgo; exact hgo
  clear hHe hLe
  refine lv_aload_n hx hb dX0_place_0 rfl (lv_at hl 0 rfl) ?_
  refine va_get (D := E.1) (ci := 0) (v := .int (nI n)) (C := RX0) (T := TX0) (N := 7) hx hb hts iX0 hown C0.1 hP 0 rfl rfl 0 (by decide) (hts (.fieldLink RX0 36 "Ringresonance$Layout" "count" "I") (by decide +kernel)) (fun _ h9 => h9) rfl dX0_place_1 ?_
  refine lv_istore (lv' := [(6, .int (nI n)), (0, .ref aLy), (1, .int (nI kk)), (2, .int (nI kx)), (3, .int (nI ky)), (4, .int (nI kf)), (5, .int (nI ks))]) hx hb dX0_place_4 hl (by decide) rfl (fun ls hl => ?_)
  refine lv_iload hx hb dX0_place_6 (lv_at hl 0 rfl) ?_
  refine lv_if_lt (tgt := 18) hx hb dX0_place_8 (by decide) (fun c_1 => ?_) (fun c_1 => ?_)
  · skip
    have c_1 : n < 0 := (ci0_lt (by omega)).mp c_1
    exact absurd c_1 (by omega)
  · skip
    have c_1 : ¬ (n < 0) := fun h => c_1 ((ci0_lt (by omega)).mpr h)
    refine lv_iload hx hb dX0_place_11 (lv_at hl 0 rfl) ?_
    refine lv_bipush (v := nI 16) hx hb dX0_place_13 (by decide) ?_
    refine lv_icmp_lt (tgt := 20) hx hb dX0_place_15 (by decide) (fun c_2 => ?_) (fun c_2 => ?_)
    · skip
      have c_2 : n < 16 := (ci_lt (by omega) (by omega)).mp c_2
      refine lv_aload_n hx hb dX0_place_20 rfl (lv_at hl 1 rfl) ?_
      refine va_get (D := E.1) (ci := 0) (v := .ref aK) (C := RX0) (T := TX0) (N := 7) hx hb hts iX0 hown C0.1 hP 0 rfl rfl 1 (by decide) (hts (.fieldLink RX0 9 "Ringresonance$Layout" "kinds" "[I") (by decide +kernel)) (fun _ h9 => h9) rfl dX0_place_21 ?_
      refine lv_iload hx hb dX0_place_24 (lv_at hl 0 rfl) ?_
      refine lv_iload_n hx hb dX0_place_26 rfl (lv_at hl 2 rfl) ?_
      refine k_iast (e := n) (v := kk) (g := nI) (n := 16) hx hb C0 hP hD hS 1 rfl rfl (by omega) (by omega) dX0_place_27 (fun H locs hP hD hS => ?_)
      have hP : va_P E.1 vwCl [(aLy, o0 (nI n) aK aX aY aF aS aL), (aK, ia E nI 16 (va_up kd n kk)), (aX, ia E nI 16 xs), (aY, ia E nI 16 ys), (aF, ia E nI 16 fi), (aS, ia E nI 16 se)] H := hP
      have hD : va_D A [(aLy, o0 (nI n) aK aX aY aF aS aL), (aK, ia E nI 16 (va_up kd n kk)), (aX, ia E nI 16 xs), (aY, ia E nI 16 ys), (aF, ia E nI 16 fi), (aS, ia E nI 16 se)] := hD
      refine lv_aload_n hx hb dX0_place_28 rfl (lv_at hl 1 rfl) ?_
      refine va_get (D := E.1) (ci := 0) (v := .ref aX) (C := RX0) (T := TX0) (N := 7) hx hb hts iX0 hown C0.1 hP 0 rfl rfl 2 (by decide) (hts (.fieldLink RX0 15 "Ringresonance$Layout" "xs" "[I") (by decide +kernel)) (fun _ h9 => h9) rfl dX0_place_29 ?_
      refine lv_iload hx hb dX0_place_32 (lv_at hl 0 rfl) ?_
      refine lv_iload_n hx hb dX0_place_34 rfl (lv_at hl 3 rfl) ?_
      refine k_iast (e := n) (v := kx) (g := nI) (n := 16) hx hb C0 hP hD hS 2 rfl rfl (by omega) (by omega) dX0_place_35 (fun H locs hP hD hS => ?_)
      have hP : va_P E.1 vwCl [(aLy, o0 (nI n) aK aX aY aF aS aL), (aK, ia E nI 16 (va_up kd n kk)), (aX, ia E nI 16 (va_up xs n kx)), (aY, ia E nI 16 ys), (aF, ia E nI 16 fi), (aS, ia E nI 16 se)] H := hP
      have hD : va_D A [(aLy, o0 (nI n) aK aX aY aF aS aL), (aK, ia E nI 16 (va_up kd n kk)), (aX, ia E nI 16 (va_up xs n kx)), (aY, ia E nI 16 ys), (aF, ia E nI 16 fi), (aS, ia E nI 16 se)] := hD
      refine lv_aload_n hx hb dX0_place_36 rfl (lv_at hl 1 rfl) ?_
      refine va_get (D := E.1) (ci := 0) (v := .ref aY) (C := RX0) (T := TX0) (N := 7) hx hb hts iX0 hown C0.1 hP 0 rfl rfl 3 (by decide) (hts (.fieldLink RX0 18 "Ringresonance$Layout" "ys" "[I") (by decide +kernel)) (fun _ h9 => h9) rfl dX0_place_37 ?_
      refine lv_iload hx hb dX0_place_40 (lv_at hl 0 rfl) ?_
      refine lv_iload_n hx hb dX0_place_42 rfl (lv_at hl 4 rfl) ?_
      refine k_iast (e := n) (v := ky) (g := nI) (n := 16) hx hb C0 hP hD hS 3 rfl rfl (by omega) (by omega) dX0_place_43 (fun H locs hP hD hS => ?_)
      have hP : va_P E.1 vwCl [(aLy, o0 (nI n) aK aX aY aF aS aL), (aK, ia E nI 16 (va_up kd n kk)), (aX, ia E nI 16 (va_up xs n kx)), (aY, ia E nI 16 (va_up ys n ky)), (aF, ia E nI 16 fi), (aS, ia E nI 16 se)] H := hP
      have hD : va_D A [(aLy, o0 (nI n) aK aX aY aF aS aL), (aK, ia E nI 16 (va_up kd n kk)), (aX, ia E nI 16 (va_up xs n kx)), (aY, ia E nI 16 (va_up ys n ky)), (aF, ia E nI 16 fi), (aS, ia E nI 16 se)] := hD
      refine lv_aload_n hx hb dX0_place_44 rfl (lv_at hl 1 rfl) ?_
      refine va_get (D := E.1) (ci := 0) (v := .ref aF) (C := RX0) (T := TX0) (N := 7) hx hb hts iX0 hown C0.1 hP 0 rfl rfl 4 (by decide) (hts (.fieldLink RX0 21 "Ringresonance$Layout" "firsts" "[I") (by decide +kernel)) (fun _ h9 => h9) rfl dX0_place_45 ?_
      refine lv_iload hx hb dX0_place_48 (lv_at hl 0 rfl) ?_
      refine lv_iload hx hb dX0_place_50 (lv_at hl 5 rfl) ?_
      refine k_iast (e := n) (v := kf) (g := nI) (n := 16) hx hb C0 hP hD hS 4 rfl rfl (by omega) (by omega) dX0_place_52 (fun H locs hP hD hS => ?_)
      have hP : va_P E.1 vwCl [(aLy, o0 (nI n) aK aX aY aF aS aL), (aK, ia E nI 16 (va_up kd n kk)), (aX, ia E nI 16 (va_up xs n kx)), (aY, ia E nI 16 (va_up ys n ky)), (aF, ia E nI 16 (va_up fi n kf)), (aS, ia E nI 16 se)] H := hP
      have hD : va_D A [(aLy, o0 (nI n) aK aX aY aF aS aL), (aK, ia E nI 16 (va_up kd n kk)), (aX, ia E nI 16 (va_up xs n kx)), (aY, ia E nI 16 (va_up ys n ky)), (aF, ia E nI 16 (va_up fi n kf)), (aS, ia E nI 16 se)] := hD
      refine lv_aload_n hx hb dX0_place_53 rfl (lv_at hl 1 rfl) ?_
      refine va_get (D := E.1) (ci := 0) (v := .ref aS) (C := RX0) (T := TX0) (N := 7) hx hb hts iX0 hown C0.1 hP 0 rfl rfl 5 (by decide) (hts (.fieldLink RX0 24 "Ringresonance$Layout" "seconds" "[I") (by decide +kernel)) (fun _ h9 => h9) rfl dX0_place_54 ?_
      refine lv_iload hx hb dX0_place_57 (lv_at hl 0 rfl) ?_
      refine lv_iload hx hb dX0_place_59 (lv_at hl 6 rfl) ?_
      refine k_iast (e := n) (v := ks) (g := nI) (n := 16) hx hb C0 hP hD hS 5 rfl rfl (by omega) (by omega) dX0_place_61 (fun H locs hP hD hS => ?_)
      have hP : va_P E.1 vwCl [(aLy, o0 (nI n) aK aX aY aF aS aL), (aK, ia E nI 16 (va_up kd n kk)), (aX, ia E nI 16 (va_up xs n kx)), (aY, ia E nI 16 (va_up ys n ky)), (aF, ia E nI 16 (va_up fi n kf)), (aS, ia E nI 16 (va_up se n ks))] H := hP
      have hD : va_D A [(aLy, o0 (nI n) aK aX aY aF aS aL), (aK, ia E nI 16 (va_up kd n kk)), (aX, ia E nI 16 (va_up xs n kx)), (aY, ia E nI 16 (va_up ys n ky)), (aF, ia E nI 16 (va_up fi n kf)), (aS, ia E nI 16 (va_up se n ks))] := hD
      refine lv_aload_n hx hb dX0_place_62 rfl (lv_at hl 1 rfl) ?_
      refine lv_iload hx hb dX0_place_63 (lv_at hl 0 rfl) ?_
      refine lv_iconst (v := nI 1) hx hb dX0_place_65 (by decide) ?_
      refine lv_iadd hx hb dX0_place_66 ?_
      refine lv_ri (y := (nI (n + 1))) (nI_add n 1) ?_
      refine va_put (D := E.1) (ci := 0) (v := .int (nI (n + 1))) (ty := .int) (C := RX0) (T := TX0) (N := 7) hx hb hts iX0 tyX0 tyX0_ok nmX0 hown C0.1 hP hD hS 0 rfl rfl 0 (by decide) (hts (.fieldLink RX0 36 "Ringresonance$Layout" "count" "I") (by decide +kernel)) (fun _ h9 => h9) rfl (by decide +kernel) rfl rfl (Nat.le_of_ble_eq_true rfl) dX0_place_67 (fun H locs hP hD hS => ?_)
      have hP : va_P E.1 vwCl [(aLy, o0 (nI (n + 1)) aK aX aY aF aS aL), (aK, ia E nI 16 (va_up kd n kk)), (aX, ia E nI 16 (va_up xs n kx)), (aY, ia E nI 16 (va_up ys n ky)), (aF, ia E nI 16 (va_up fi n kf)), (aS, ia E nI 16 (va_up se n ks))] H := hP
      have hD : va_D A [(aLy, o0 (nI (n + 1)) aK aX aY aF aS aL), (aK, ia E nI 16 (va_up kd n kk)), (aX, ia E nI 16 (va_up xs n kx)), (aY, ia E nI 16 (va_up ys n ky)), (aF, ia E nI 16 (va_up fi n kf)), (aS, ia E nI 16 (va_up se n ks))] := hD
      refine lv_iload hx hb dX0_place_70 (lv_at hl 0 rfl) ?_
      have q_3 : (nI n) = (nI n) := rfl
      exact exI hx hb hr hlocks hAe hS () q_3 hP hD dX0_place_72
    · skip
      have c_2 : ¬ (n < 16) := fun h => c_2 ((ci_lt (by omega) (by omega)).mpr h)
      exact absurd c_2 (by omega)

def tkn (le : Nat → Nat) (fr t : Nat) : Nat → Bool
  | 0 => false
  | k + 1 => tkn le fr t k || (decide (¬ k = fr) && decide (le k = t + 1))
theorem tkn_s (le : Nat → Nat) (fr t k : Nat) : tkn le fr t (k + 1) = (tkn le fr t k || (decide (¬ k = fr) && decide (le k = t + 1))) := rfl
theorem tkn_up {le : Nat → Nat} {fr t i : Nat} (h : tkn le fr t i = true) : ∀ k, i ≤ k → tkn le fr t k = true := by
  intro k hk
  induction k with
  | zero =>
    have : i = 0 := by omega
    subst this; exact h
  | succ k ih =>
    rcases Nat.lt_or_ge k i with q | q
    · have : i = k + 1 := by omega
      subst this; exact h
    · rw [tkn_s, ih q]; rfl
theorem cL_eq {a b : Nat} (ha : a < 2 ^ 31) (hb : b < 2 ^ 30) : cL a = nI b ↔ a = b + 1 := by
  cases a with
  | zero =>
    refine ⟨fun q => ?_, fun q => absurd q (by omega)⟩
    have h1 := nI_toInt (n := b) (by omega)
    rw [← q] at h1
    have h2 : (cL 0).toInt = -1 := by decide
    omega
  | succ a => rw [cL_s, nI_eq (by omega) (by omega)]; omega

set_option maxHeartbeats 4000000 in
set_option maxRecDepth 100000 in
theorem c_isTaken (l : Launch) (E : EnvT) (sz : Nat) (fr tt : Nat) (aLy aK aX aY aF aS aL n : Nat) (le : Nat → Nat) (hf : fr < 32) (ht : tt < 32) (hL : ∀ j, j < 32 → le j ≤ 32) : MI l yX0_isTaken wsX0_isTaken ({ frames := 0, cells := 0, slots := 0, locals := 0 }) E sz [.ref aLy, .int (nI fr), .int (nI tt)] [(aLy, o0 (nI n) aK aX aY aF aS aL), (aL, ia E cL 32 le)] (fun (r : Int32) (_ : Unit) => r = bI (tkn le fr tt 32 = true)) (fun _ => [(aLy, o0 (nI n) aK aX aY aF aS aL), (aL, ia E cL 32 le)]) := by
  refine enI (cc := cX0_isTaken) (maxL := 4) (ret := .boolean) (by decide +kernel) rfl (Nat.le_of_ble_eq_true rfl) ?_
  intro p e s m below meth c A ls hx hb hr hml hts hown hlocks hAe C0 hP hD hS hl
  have hown : s.vm.findClass RX0 = some m.cls := hown
  have hl : lv_has ls 4 [(0, .ref aLy), (1, .int (nI fr)), (2, .int (nI tt))] := hl
  have iX0 : ∀ w ∈ u_ws RX0 TX0 7, w ∈ wsX0_isTaken := by decide +kernel
  obtain ⟨H, hHe⟩ : ∃ z, z = s.heap := ⟨_, rfl⟩
  obtain ⟨locs, hLe⟩ : ∃ z : List Loc, z = [] := ⟨_, rfl⟩
  have hP : va_P E.1 vwCl [(aLy, o0 (nI n) aK aX aY aF aS aL), (aL, ia E cL 32 le)] H := by rw [hHe]; exact hP
  have hD : va_D A [(aLy, o0 (nI n) aK aX aY aF aS aL), (aL, ia E cL 32 le)] := hD
  have hS : va_S A s.heap H locs := by rw [hHe, hLe]; exact hS
  suffices hgo : W p l e _ s m _ below meth c H locs 0 0 _ (F0 m 0 ls []) by rw [hHe, hLe] at hgo; exact hgo
  clear hHe hLe
  refine lv_iconst (v := nI 0) hx hb dX0_isTaken_0 (by decide) ?_
  refine lv_istore_n (lv' := [(3, .int (nI 0)), (0, .ref aLy), (1, .int (nI fr)), (2, .int (nI tt))]) hx hb dX0_isTaken_1 rfl hl (by decide) rfl (fun ls hl => ?_)
  have LP_1 : ∀ (nz i_3 : Nat), i_3 ≤ 32 → 32 < i_3 + nz → tkn le fr tt (i_3) = false → ∀ (H : Heap) (locs : List Loc), va_P E.1 vwCl [(aLy, o0 (nI n) aK aX aY aF aS aL), (aL, ia E cL 32 le)] H → va_D A [(aLy, o0 (nI n) aK aX aY aF aS aL), (aL, ia E cL 32 le)] → va_S A s.heap H locs → ∀ (ls : Array Slot), lv_has ls 4 [(0, .ref aLy), (1, .int (nI fr)), (2, .int (nI tt)), (3, .int (nI i_3))] → W p l e ({ frames := 0, cells := 0, slots := 0, locals := 0 }) s m (([.ref aLy, .int (nI fr), .int (nI tt)] : List Value).toArray) below meth c H locs 0 0 (MQ below (va_Qi (fun (r : Int32) (_ : Unit) => r = bI (tkn le fr tt 32 = true)) (Wd E [(aLy, o0 (nI n) aK aX aY aF aS aL), (aL, ia E cL 32 le)] s.heap.size (fun _ => [(aLy, o0 (nI n) aK aX aY aF aS aL), (aL, ia E cL 32 le)])) A) (([.ref aLy, .int (nI fr), .int (nI tt)] : List Value).toArray) s 0 0 A) (F0 m 2 ls []) := by
    intro nz
    induction nz with
    | zero =>
      intro i_3 h1 h2
      exact absurd h2 (by omega)
    | succ nz ih_2 =>
      intro i_3 hi_i_3 hn_i_3 hv_i_3 H locs hP hD hS ls hl
      refine lv_iload_n hx hb dX0_isTaken_2 rfl (lv_at hl 3 rfl) ?_
      refine lv_aload_n hx hb dX0_isTaken_3 rfl (lv_at hl 0 rfl) ?_
      refine va_get (D := E.1) (ci := 0) (v := .ref aL) (C := RX0) (T := TX0) (N := 7) hx hb hts iX0 hown C0.1 hP 0 rfl rfl 6 (by decide) (hts (.fieldLink RX0 27 "Ringresonance$Layout" "leads" "[I") (by decide +kernel)) (fun _ h9 => h9) rfl dX0_isTaken_4 ?_
      refine va_alen (v := nI 32) (ty := .int) hx hb C0.1 hP 1 0 rfl rfl rfl dX0_isTaken_7 ?_
      refine lv_icmp_ge (tgt := 34) hx hb dX0_isTaken_8 (by decide) (fun c_4 => ?_) (fun c_4 => ?_)
      · skip
        have c_4 : 32 ≤ i_3 := (ci_ge (by omega) (by omega)).mp c_4
        obtain rfl : 32 = i_3 := by omega
        refine lv_iconst (v := nI 0) hx hb dX0_isTaken_34 (by decide) ?_
        have q_5 : (nI 0) = (bI (tkn le fr tt 32 = true)) := by symm; rw [show tkn le fr tt 32 = false from hv_i_3]; decide
        exact exZ hx hb hr hlocks hAe hS () (by decide) q_5 hP hD dX0_isTaken_35
      · skip
        have c_4 : ¬ (32 ≤ i_3) := fun h => c_4 ((ci_ge (by omega) (by omega)).mpr h)
        refine lv_iload_n hx hb dX0_isTaken_11 rfl (lv_at hl 3 rfl) ?_
        refine lv_iload_n hx hb dX0_isTaken_12 rfl (lv_at hl 1 rfl) ?_
        refine lv_icmp_eq (tgt := 28) hx hb dX0_isTaken_13 (by decide) (fun c_6 => ?_) (fun c_6 => ?_)
        · skip
          have c_6 : i_3 = fr := (ci_eq (by omega) (by omega)).mp c_6
          refine lv_iinc (v := nI (i_3 + 1)) (lv' := [(3, .int (nI (i_3 + 1))), (0, .ref aLy), (1, .int (nI fr)), (2, .int (nI tt))]) hx hb dX0_isTaken_28 hl (k := 3) rfl (nI_add i_3 1) (by decide) rfl (fun ls hl => ?_)
          refine lv_goto (tgt := 2) hx hb dX0_isTaken_31 (by decide) ?_
          have hP : va_P E.1 vwCl [(aLy, o0 (nI n) aK aX aY aF aS aL), (aL, ia E cL 32 le)] H := hP
          have hD : va_D A [(aLy, o0 (nI n) aK aX aY aF aS aL), (aL, ia E cL 32 le)] := hD
          have hl : lv_has ls 4 [(0, .ref aLy), (1, .int (nI fr)), (2, .int (nI tt)), (3, .int (nI (i_3 + 1)))] := lv_sub hl [1, 2, 3, 0] rfl
          exact ih_2 (i_3 + 1) (by omega) (by omega) (by rw [tkn_s, hv_i_3]; simp [c_6]) _ _ hP hD hS _ hl
        · skip
          have c_6 : ¬ (i_3 = fr) := fun h => c_6 ((ci_eq (by omega) (by omega)).mpr h)
          refine lv_aload_n hx hb dX0_isTaken_16 rfl (lv_at hl 0 rfl) ?_
          refine va_get (D := E.1) (ci := 0) (v := .ref aL) (C := RX0) (T := TX0) (N := 7) hx hb hts iX0 hown C0.1 hP 0 rfl rfl 6 (by decide) (hts (.fieldLink RX0 27 "Ringresonance$Layout" "leads" "[I") (by decide +kernel)) (fun _ h9 => h9) rfl dX0_isTaken_17 ?_
          refine lv_iload_n hx hb dX0_isTaken_20 rfl (lv_at hl 3 rfl) ?_
          refine k_iald (e := i_3) (g := cL) (n := 32) hx hb C0 hP 1 rfl (by omega) (by omega) dX0_isTaken_21 ?_
          refine lv_iload_n hx hb dX0_isTaken_22 rfl (lv_at hl 2 rfl) ?_
          refine lv_icmp_ne (tgt := 28) hx hb dX0_isTaken_23 (by decide) (fun c_7 => ?_) (fun c_7 => ?_)
          · skip
            have c_7 : ¬ (le i_3 = tt + 1) := fun h => c_7 ((cL_eq (by have := hL i_3 (by omega); omega) (by omega)).mpr h)
            refine lv_iinc (v := nI (i_3 + 1)) (lv' := [(3, .int (nI (i_3 + 1))), (0, .ref aLy), (1, .int (nI fr)), (2, .int (nI tt))]) hx hb dX0_isTaken_28 hl (k := 3) rfl (nI_add i_3 1) (by decide) rfl (fun ls hl => ?_)
            refine lv_goto (tgt := 2) hx hb dX0_isTaken_31 (by decide) ?_
            have hP : va_P E.1 vwCl [(aLy, o0 (nI n) aK aX aY aF aS aL), (aL, ia E cL 32 le)] H := hP
            have hD : va_D A [(aLy, o0 (nI n) aK aX aY aF aS aL), (aL, ia E cL 32 le)] := hD
            have hl : lv_has ls 4 [(0, .ref aLy), (1, .int (nI fr)), (2, .int (nI tt)), (3, .int (nI (i_3 + 1)))] := lv_sub hl [1, 2, 3, 0] rfl
            exact ih_2 (i_3 + 1) (by omega) (by omega) (by rw [tkn_s, hv_i_3]; simp [c_7]) _ _ hP hD hS _ hl
          · skip
            have c_7 : le i_3 = tt + 1 := (cL_eq (by have := hL i_3 (by omega); omega) (by omega)).mp c_7
            refine lv_iconst (v := nI 1) hx hb dX0_isTaken_26 (by decide) ?_
            have q_8 : (nI 1) = (bI (tkn le fr tt 32 = true)) := by symm; (have h9 := tkn_up (le := le) (fr := fr) (t := tt) (i := i_3 + 1) (by rw [tkn_s]; simp [c_6, c_7]) 32 (by omega)); simp only [bI, h9, if_true]; rfl
            exact exZ hx hb hr hlocks hAe hS () (by decide) q_8 hP hD dX0_isTaken_27
  have hP : va_P E.1 vwCl [(aLy, o0 (nI n) aK aX aY aF aS aL), (aL, ia E cL 32 le)] H := hP
  have hD : va_D A [(aLy, o0 (nI n) aK aX aY aF aS aL), (aL, ia E cL 32 le)] := hD
  have hl : lv_has ls 4 [(0, .ref aLy), (1, .int (nI fr)), (2, .int (nI tt)), (3, .int (nI 0))] := lv_sub hl [1, 2, 3, 0] rfl
  exact LP_1 (32 + 1) 0 (by omega) (by omega) (rfl) _ _ hP hD hS _ hl

def ledF (L : Nat) : Nat := if L = 0 then 0 else (L - 1) / 2 + 1

set_option maxHeartbeats 4000000 in
set_option maxRecDepth 100000 in
theorem c_turn (l : Launch) (E : EnvT) (sz : Nat) (fr tt : Nat) (aLy aK aX aY aF aS aL n : Nat) (le : Nat → Nat) (hf : fr < 32) (hL : le fr ≤ 32) : MI l yX0_turn wsX0_turn ({ frames := 0, cells := 0, slots := 0, locals := 0 }) E sz [.ref aLy, .int (nI fr), .int (cL tt)] [(aLy, o0 (nI n) aK aX aY aF aS aL), (aL, ia E cL 32 le)] (fun (r : Int32) (_ : Unit) => r = cL (ledF (le fr))) (fun _ => [(aLy, o0 (nI n) aK aX aY aF aS aL), (aL, ia E cL 32 (va_up le fr tt))]) := by
  refine enI (cc := cX0_turn) (maxL := 4) (ret := .int) (by decide +kernel) rfl (Nat.le_of_ble_eq_true rfl) ?_
  intro p e s m below meth c A ls hx hb hr hml hts hown hlocks hAe C0 hP hD hS hl
  have hown : s.vm.findClass RX0 = some m.cls := hown
  have hl : lv_has ls 4 [(0, .ref aLy), (1, .int (nI fr)), (2, .int (cL tt))] := hl
  have iX0 : ∀ w ∈ u_ws RX0 TX0 7, w ∈ wsX0_turn := by decide +kernel
  obtain ⟨H, hHe⟩ : ∃ z, z = s.heap := ⟨_, rfl⟩
  obtain ⟨locs, hLe⟩ : ∃ z : List Loc, z = [] := ⟨_, rfl⟩
  have hP : va_P E.1 vwCl [(aLy, o0 (nI n) aK aX aY aF aS aL), (aL, ia E cL 32 le)] H := by rw [hHe]; exact hP
  have hD : va_D A [(aLy, o0 (nI n) aK aX aY aF aS aL), (aL, ia E cL 32 le)] := hD
  have hS : va_S A s.heap H locs := by rw [hHe, hLe]; exact hS
  suffices hgo : W p l e _ s m _ below meth c H locs 0 0 _ (F0 m 0 ls []) by rw [hHe, hLe] at hgo; exact hgo
  clear hHe hLe
  refine lv_iload_n hx hb dX0_turn_0 rfl (lv_at hl 1 rfl) ?_
  refine lv_if_lt (tgt := 13) hx hb dX0_turn_1 (by decide) (fun c_1 => ?_) (fun c_1 => ?_)
  · skip
    have c_1 : fr < 0 := (ci0_lt (by omega)).mp c_1
    exact absurd c_1 (by omega)
  · skip
    have c_1 : ¬ (fr < 0) := fun h => c_1 ((ci0_lt (by omega)).mpr h)
    refine lv_iload_n hx hb dX0_turn_4 rfl (lv_at hl 1 rfl) ?_
    refine lv_aload_n hx hb dX0_turn_5 rfl (lv_at hl 0 rfl) ?_
    refine va_get (D := E.1) (ci := 0) (v := .ref aL) (C := RX0) (T := TX0) (N := 7) hx hb hts iX0 hown C0.1 hP 0 rfl rfl 6 (by decide) (hts (.fieldLink RX0 27 "Ringresonance$Layout" "leads" "[I") (by decide +kernel)) (fun _ h9 => h9) rfl dX0_turn_6 ?_
    refine va_alen (v := nI 32) (ty := .int) hx hb C0.1 hP 1 0 rfl rfl rfl dX0_turn_9 ?_
    refine lv_icmp_lt (tgt := 15) hx hb dX0_turn_10 (by decide) (fun c_2 => ?_) (fun c_2 => ?_)
    · skip
      have c_2 : fr < 32 := (ci_lt (by omega) (by omega)).mp c_2
      refine lv_aload_n hx hb dX0_turn_15 rfl (lv_at hl 0 rfl) ?_
      refine va_get (D := E.1) (ci := 0) (v := .ref aL) (C := RX0) (T := TX0) (N := 7) hx hb hts iX0 hown C0.1 hP 0 rfl rfl 6 (by decide) (hts (.fieldLink RX0 27 "Ringresonance$Layout" "leads" "[I") (by decide +kernel)) (fun _ h9 => h9) rfl dX0_turn_16 ?_
      refine lv_iload_n hx hb dX0_turn_19 rfl (lv_at hl 1 rfl) ?_
      refine k_iald (e := fr) (g := cL) (n := 32) hx hb C0 hP 1 rfl (by omega) (by omega) dX0_turn_20 ?_
      refine lv_istore_n (lv' := [(3, .int (cL (le fr))), (0, .ref aLy), (1, .int (nI fr)), (2, .int (cL tt))]) hx hb dX0_turn_21 rfl hl (by decide) rfl (fun ls hl => ?_)
      refine lv_aload_n hx hb dX0_turn_22 rfl (lv_at hl 1 rfl) ?_
      refine va_get (D := E.1) (ci := 0) (v := .ref aL) (C := RX0) (T := TX0) (N := 7) hx hb hts iX0 hown C0.1 hP 0 rfl rfl 6 (by decide) (hts (.fieldLink RX0 27 "Ringresonance$Layout" "leads" "[I") (by decide +kernel)) (fun _ h9 => h9) rfl dX0_turn_23 ?_
      refine lv_iload_n hx hb dX0_turn_26 rfl (lv_at hl 2 rfl) ?_
      refine lv_iload_n hx hb dX0_turn_27 rfl (lv_at hl 3 rfl) ?_
      refine k_iast (e := fr) (v := tt) (g := cL) (n := 32) hx hb C0 hP hD hS 1 rfl rfl (by omega) (by omega) dX0_turn_28 (fun H locs hP hD hS => ?_)
      have hP : va_P E.1 vwCl [(aLy, o0 (nI n) aK aX aY aF aS aL), (aL, ia E cL 32 (va_up le fr tt))] H := hP
      have hD : va_D A [(aLy, o0 (nI n) aK aX aY aF aS aL), (aL, ia E cL 32 (va_up le fr tt))] := hD
      refine lv_iload_n hx hb dX0_turn_29 rfl (lv_at hl 0 rfl) ?_
      refine lv_iconst (v := -1) hx hb dX0_turn_30 (by decide) ?_
      refine lv_icmp_ne (tgt := 38) hx hb dX0_turn_31 (by decide) (fun c_3 => ?_) (fun c_3 => ?_)
      · skip
        have c_3 : ¬ (le fr = 0) := fun h => c_3 ((cL_m1 (by omega)).mpr h)
        rw [show cL (le fr) = nI (le fr - 1) from cL_pos c_3] at hl
        refine lv_iload_n hx hb dX0_turn_38 rfl (lv_at hl 0 rfl) ?_
        refine lv_iconst (v := nI 2) hx hb dX0_turn_39 (by decide) ?_
        refine lv_idiv hx hb dX0_turn_40 (by decide) ?_
        refine lv_ri (y := (nI ((le fr - 1) / 2))) (pk_div (by omega) (by omega) (by omega)) ?_
        have q_4 : (nI ((le fr - 1) / 2)) = (cL (ledF (le fr))) := by symm; first | (rw [ledF, if_pos c_3]; decide) | (rw [ledF, if_neg c_3, cL_s])
        exact exI hx hb hr hlocks hAe hS () q_4 hP hD dX0_turn_41
      · skip
        have c_3 : le fr = 0 := (cL_m1 (by omega)).mp c_3
        refine lv_iconst (v := -1) hx hb dX0_turn_34 (by decide) ?_
        refine lv_goto (tgt := 41) hx hb dX0_turn_35 (by decide) ?_
        have q_5 : (-1) = (cL (ledF (le fr))) := by symm; first | (rw [ledF, if_pos c_3]; decide) | (rw [ledF, if_neg c_3, cL_s])
        exact exI hx hb hr hlocks hAe hS () q_5 hP hD dX0_turn_41
    · skip
      have c_2 : ¬ (fr < 32) := fun h => c_2 ((ci_lt (by omega) (by omega)).mpr h)
      exact absurd c_2 (by omega)

def adf (a b : Nat) : Nat := if a ≤ b then b - a else a - b
theorem adf_row {a b : Nat} (ha : a < 2 ^ 20) (hb : b < 2 ^ 20) : (if 0 ≤ nI a - nI b then nI a - nI b else 0 - (nI a - nI b)) = nI (adf a b) := by
  unfold adf
  by_cases h : b ≤ a
  · rw [pk_sub h, if_pos (nI_pos' (by omega))]
    split
    · congr 1; omega
    · rfl
  · have h1 := pk_sneg (a := a) (b := b) (by omega) (by omega)
    have h2 : ¬ 0 ≤ nI a - nI b := fun q => by
      have := Int32.le_iff_toInt_le.mp q
      have h3 := Int32.lt_iff_toInt_lt.mp h1
      omega
    rw [if_neg h2, if_pos (by omega), ← pk_sub (by omega)]
    grind
theorem adf_le {a b k : Nat} (ha : a ≤ k) (hb : b ≤ k) : adf a b ≤ k := by unfold adf; split <;> omega
def dst (xs ys : Nat → Nat) (a b : Nat) : Nat := adf (xs a) (xs b) + adf (ys a) (ys b)

set_option maxHeartbeats 4000000 in
set_option maxRecDepth 100000 in
theorem c_distance (l : Launch) (E : EnvT) (sz : Nat) (ja jb : Nat) (aLy aK aX aY aF aS aL n : Nat) (xs ys : Nat → Nat) (hja : ja < 16) (hjb : jb < 16) (hx9 : ∀ j, j < 16 → xs j ≤ 15 ∧ ys j ≤ 15) : MI l yX0_distance wsX0_distance ({ frames := 1, cells := 0, slots := 0, locals := 21 }) E sz [.ref aLy, .int (nI ja), .int (nI jb)] [(aLy, o0 (nI n) aK aX aY aF aS aL), (aX, ia E nI 16 xs), (aY, ia E nI 16 ys)] (fun (r : Int32) (_ : Unit) => r = nI (dst xs ys ja jb)) (fun _ => [(aLy, o0 (nI n) aK aX aY aF aS aL), (aX, ia E nI 16 xs), (aY, ia E nI 16 ys)]) := by
  refine enI (cc := cX0_distance) (maxL := 3) (ret := .int) (by decide +kernel) rfl (Nat.le_of_ble_eq_true rfl) ?_
  intro p e s m below meth c A ls hx hb hr hml hts hown hlocks hAe C0 hP hD hS hl
  have hown : s.vm.findClass RX0 = some m.cls := hown
  have hl : lv_has ls 3 [(0, .ref aLy), (1, .int (nI ja)), (2, .int (nI jb))] := hl
  have iX0 : ∀ w ∈ u_ws RX0 TX0 7, w ∈ wsX0_distance := by decide +kernel
  obtain ⟨H, hHe⟩ : ∃ z, z = s.heap := ⟨_, rfl⟩
  obtain ⟨locs, hLe⟩ : ∃ z : List Loc, z = [] := ⟨_, rfl⟩
  have hP : va_P E.1 vwCl [(aLy, o0 (nI n) aK aX aY aF aS aL), (aX, ia E nI 16 xs), (aY, ia E nI 16 ys)] H := by rw [hHe]; exact hP
  have hD : va_D A [(aLy, o0 (nI n) aK aX aY aF aS aL), (aX, ia E nI 16 xs), (aY, ia E nI 16 ys)] := hD
  have hS : va_S A s.heap H locs := by rw [hHe, hLe]; exact hS
  suffices hgo : W p l e _ s m _ below meth c H locs 0 0 _ (F0 m 0 ls []) by rw [hHe, hLe] at hgo; exact hgo
  clear hHe hLe
  have hxa := hx9 ja hja
  have hxb := hx9 jb hjb
  refine lv_aload_n hx hb dX0_distance_0 rfl (lv_at hl 0 rfl) ?_
  refine va_get (D := E.1) (ci := 0) (v := .ref aX) (C := RX0) (T := TX0) (N := 7) hx hb hts iX0 hown C0.1 hP 0 rfl rfl 2 (by decide) (hts (.fieldLink RX0 15 "Ringresonance$Layout" "xs" "[I") (by decide +kernel)) (fun _ h9 => h9) rfl dX0_distance_1 ?_
  refine lv_iload_n hx hb dX0_distance_4 rfl (lv_at hl 1 rfl) ?_
  refine k_iald (e := ja) (g := nI) (n := 16) hx hb C0 hP 1 rfl (by omega) (by omega) dX0_distance_5 ?_
  refine lv_aload_n hx hb dX0_distance_6 rfl (lv_at hl 0 rfl) ?_
  refine va_get (D := E.1) (ci := 0) (v := .ref aX) (C := RX0) (T := TX0) (N := 7) hx hb hts iX0 hown C0.1 hP 0 rfl rfl 2 (by decide) (hts (.fieldLink RX0 15 "Ringresonance$Layout" "xs" "[I") (by decide +kernel)) (fun _ h9 => h9) rfl dX0_distance_7 ?_
  refine lv_iload_n hx hb dX0_distance_10 rfl (lv_at hl 2 rfl) ?_
  refine k_iald (e := jb) (g := nI) (n := 16) hx hb C0 hP 1 rfl (by omega) (by omega) dX0_distance_11 ?_
  refine lv_isub hx hb dX0_distance_12 ?_
  refine va_mabs hx hb (hml.trans hl.1.symm) hown (hts (.methodLink RX0 40 Lib.Math.abs.name) (by decide +kernel)) (hts (.static Lib.Math.abs.name) (by decide +kernel)) (hts (.initialized "java/lang/Math") (by decide +kernel)) (hts (.code Lib.Math.abs.name Lib.Math.abs.code 1 (some .int)) (by decide +kernel)) (Nat.le_of_ble_eq_true rfl) (Nat.le_of_ble_eq_true rfl) (Nat.le_refl _) (Nat.le_refl _) dX0_distance_13 ?_
  refine lv_ri (y := (nI (adf (xs ja) (xs jb)))) (adf_row (by omega) (by omega)) ?_
  refine lv_aload_n hx hb dX0_distance_16 rfl (lv_at hl 0 rfl) ?_
  refine va_get (D := E.1) (ci := 0) (v := .ref aY) (C := RX0) (T := TX0) (N := 7) hx hb hts iX0 hown C0.1 hP 0 rfl rfl 3 (by decide) (hts (.fieldLink RX0 18 "Ringresonance$Layout" "ys" "[I") (by decide +kernel)) (fun _ h9 => h9) rfl dX0_distance_17 ?_
  refine lv_iload_n hx hb dX0_distance_20 rfl (lv_at hl 1 rfl) ?_
  refine k_iald (e := ja) (g := nI) (n := 16) hx hb C0 hP 2 rfl (by omega) (by omega) dX0_distance_21 ?_
  refine lv_aload_n hx hb dX0_distance_22 rfl (lv_at hl 0 rfl) ?_
  refine va_get (D := E.1) (ci := 0) (v := .ref aY) (C := RX0) (T := TX0) (N := 7) hx hb hts iX0 hown C0.1 hP 0 rfl rfl 3 (by decide) (hts (.fieldLink RX0 18 "Ringresonance$Layout" "ys" "[I") (by decide +kernel)) (fun _ h9 => h9) rfl dX0_distance_23 ?_
  refine lv_iload_n hx hb dX0_distance_26 rfl (lv_at hl 2 rfl) ?_
  refine k_iald (e := jb) (g := nI) (n := 16) hx hb C0 hP 2 rfl (by omega) (by omega) dX0_distance_27 ?_
  refine lv_isub hx hb dX0_distance_28 ?_
  refine va_mabs hx hb (hml.trans hl.1.symm) hown (hts (.methodLink RX0 40 Lib.Math.abs.name) (by decide +kernel)) (hts (.static Lib.Math.abs.name) (by decide +kernel)) (hts (.initialized "java/lang/Math") (by decide +kernel)) (hts (.code Lib.Math.abs.name Lib.Math.abs.code 1 (some .int)) (by decide +kernel)) (Nat.le_of_ble_eq_true rfl) (Nat.le_of_ble_eq_true rfl) (Nat.le_refl _) (Nat.le_refl _) dX0_distance_29 ?_
  refine lv_ri (y := (nI (adf (ys ja) (ys jb)))) (adf_row (by omega) (by omega)) ?_
  refine lv_iadd hx hb dX0_distance_32 ?_
  refine lv_ri (y := (nI ((adf (xs ja) (xs jb)) + (adf (ys ja) (ys jb))))) (nI_add (adf (xs ja) (xs jb)) (adf (ys ja) (ys jb))) ?_
  have q_1 : (nI ((adf (xs ja) (xs jb)) + (adf (ys ja) (ys jb)))) = (nI (dst xs ys ja jb)) := by symm; first | rfl | (simp only [if_true, if_false, not_true_eq_false, not_false_eq_true, ite_true, ite_false]; done) | (simp only [if_true, if_false]; rfl) | (simp []; done)
  exact exI hx hb hr hlocks hAe hS () q_1 hP hD dX0_distance_33

def mx1 (d : Nat) : Nat := if 1 < d then d else 1
theorem mx1_row {d : Nat} (h : d < 2 ^ 31) : (if nI 1 < nI d then nI d else nI 1) = nI (mx1 d) := by
  unfold mx1
  by_cases q : 1 < d
  · rw [if_pos q, if_pos (nI_lt q h)]
  · rw [if_neg q, if_neg (nI_nlt (by omega) (by omega))]
theorem mx1_pos (d : Nat) : 0 < mx1 d := by unfold mx1; split <;> omega
theorem mx1_le {d k : Nat} (h : d ≤ k) (hk : 1 ≤ k) : mx1 d ≤ k := by unfold mx1; split <;> omega
theorem dst_le {xs ys : Nat → Nat} {a b : Nat} (ha : a < 16) (hb : b < 16) (h : ∀ j, j < 16 → xs j ≤ 15 ∧ ys j ≤ 15) : dst xs ys a b ≤ 30 := by
  have h1 := adf_le (h a ha).1 (h b hb).1
  have h2 := adf_le (h a ha).2 (h b hb).2
  unfold dst; omega
def tgB (kd xs ys se : Nat → Nat) (pt : Nat) (q : Nat) (acc : Nat) : Nat := if ¬ q = pt ∧ kd q = 3 then acc + se q / mx1 (dst xs ys pt q) else acc
def tgt (n : Nat) (kd xs ys se : Nat → Nat) (pt : Nat) : Nat := rp (tgB kd xs ys se pt) n (4 * se pt)

set_option maxHeartbeats 4000000 in
set_option maxRecDepth 100000 in
theorem c_target (l : Launch) (E : EnvT) (sz : Nat) (pt : Nat) (aLy aK aX aY aF aS aL n : Nat) (kd xs ys se : Nat → Nat) (hp : pt < 16) (hn : n ≤ 16) (hk : ∀ j, j < n → kd j ≤ 5 ∧ se j < 1000) (hx9 : ∀ j, j < 16 → xs j ≤ 15 ∧ ys j ≤ 15) : MI l yX0_target wsX0_target ({ frames := 2, cells := 0, slots := 0, locals := 43 }) E sz [.ref aLy, .int (nI pt)] [(aLy, o0 (nI n) aK aX aY aF aS aL), (aK, ia E nI 16 kd), (aX, ia E nI 16 xs), (aY, ia E nI 16 ys), (aS, ia E nI 16 se)] (fun (r : Int32) (_ : Unit) => r = nI (tgt n kd xs ys se pt)) (fun _ => [(aLy, o0 (nI n) aK aX aY aF aS aL), (aK, ia E nI 16 kd), (aX, ia E nI 16 xs), (aY, ia E nI 16 ys), (aS, ia E nI 16 se)]) := by
  refine enI (cc := cX0_target) (maxL := 4) (ret := .int) (by decide +kernel) rfl (Nat.le_of_ble_eq_true rfl) ?_
  intro p e s m below meth c A ls hx hb hr hml hts hown hlocks hAe C0 hP hD hS hl
  have hown : s.vm.findClass RX0 = some m.cls := hown
  have hl : lv_has ls 4 [(0, .ref aLy), (1, .int (nI pt))] := hl
  have iX0 : ∀ w ∈ u_ws RX0 TX0 7, w ∈ wsX0_target := by decide +kernel
  obtain ⟨H, hHe⟩ : ∃ z, z = s.heap := ⟨_, rfl⟩
  obtain ⟨locs, hLe⟩ : ∃ z : List Loc, z = [] := ⟨_, rfl⟩
  have hP : va_P E.1 vwCl [(aLy, o0 (nI n) aK aX aY aF aS aL), (aK, ia E nI 16 kd), (aX, ia E nI 16 xs), (aY, ia E nI 16 ys), (aS, ia E nI 16 se)] H := by rw [hHe]; exact hP
  have hD : va_D A [(aLy, o0 (nI n) aK aX aY aF aS aL), (aK, ia E nI 16 kd), (aX, ia E nI 16 xs), (aY, ia E nI 16 ys), (aS, ia E nI 16 se)] := hD
  have hS : va_S A s.heap H locs := by rw [hHe, hLe]; exact hS
  suffices hgo : W p l e _ s m _ below meth c H locs 0 0 _ (F0 m 0 ls []) by rw [hHe, hLe] at hgo; exact hgo
  clear hHe hLe
  refine lv_iconst (v := nI 4) hx hb dX0_target_0 (by decide) ?_
  refine lv_aload_n hx hb dX0_target_1 rfl (lv_at hl 0 rfl) ?_
  refine va_get (D := E.1) (ci := 0) (v := .ref aS) (C := RX0) (T := TX0) (N := 7) hx hb hts iX0 hown C0.1 hP 0 rfl rfl 5 (by decide) (hts (.fieldLink RX0 24 "Ringresonance$Layout" "seconds" "[I") (by decide +kernel)) (fun _ h9 => h9) rfl dX0_target_2 ?_
  refine lv_iload_n hx hb dX0_target_5 rfl (lv_at hl 1 rfl) ?_
  refine k_iald (e := pt) (g := nI) (n := 16) hx hb C0 hP 4 rfl (by omega) (by omega) dX0_target_6 ?_
  refine lv_imul hx hb dX0_target_7 ?_
  refine lv_ri (y := (nI (4 * (se pt)))) (pk_mul 4 (se pt)) ?_
  refine lv_istore_n (lv' := [(2, .int (nI (4 * (se pt)))), (0, .ref aLy), (1, .int (nI pt))]) hx hb dX0_target_8 rfl hl (by decide) rfl (fun ls hl => ?_)
  refine lv_iconst (v := nI 0) hx hb dX0_target_9 (by decide) ?_
  refine lv_istore_n (lv' := [(3, .int (nI 0)), (2, .int (nI (4 * (se pt)))), (0, .ref aLy), (1, .int (nI pt))]) hx hb dX0_target_10 rfl hl (by decide) rfl (fun ls hl => ?_)
  have LP_1 : ∀ (nz i_3 : Nat), i_3 ≤ n → n < i_3 + nz → ∀ (H : Heap) (locs : List Loc), va_P E.1 vwCl [(aLy, o0 (nI n) aK aX aY aF aS aL), (aK, ia E nI 16 kd), (aX, ia E nI 16 xs), (aY, ia E nI 16 ys), (aS, ia E nI 16 se)] H → va_D A [(aLy, o0 (nI n) aK aX aY aF aS aL), (aK, ia E nI 16 kd), (aX, ia E nI 16 xs), (aY, ia E nI 16 ys), (aS, ia E nI 16 se)] → va_S A s.heap H locs → ∀ (ls : Array Slot), lv_has ls 4 [(0, .ref aLy), (1, .int (nI pt)), (2, .int (nI (rp (tgB kd xs ys se pt) (i_3) (4 * se pt)))), (3, .int (nI i_3))] → W p l e ({ frames := 2, cells := 0, slots := 0, locals := 43 }) s m (([.ref aLy, .int (nI pt)] : List Value).toArray) below meth c H locs 0 0 (MQ below (va_Qi (fun (r : Int32) (_ : Unit) => r = nI (tgt n kd xs ys se pt)) (Wd E [(aLy, o0 (nI n) aK aX aY aF aS aL), (aK, ia E nI 16 kd), (aX, ia E nI 16 xs), (aY, ia E nI 16 ys), (aS, ia E nI 16 se)] s.heap.size (fun _ => [(aLy, o0 (nI n) aK aX aY aF aS aL), (aK, ia E nI 16 kd), (aX, ia E nI 16 xs), (aY, ia E nI 16 ys), (aS, ia E nI 16 se)])) A) (([.ref aLy, .int (nI pt)] : List Value).toArray) s 0 0 A) (F0 m 11 ls []) := by
    intro nz
    induction nz with
    | zero =>
      intro i_3 h1 h2
      exact absurd h2 (by omega)
    | succ nz ih_2 =>
      intro i_3 hi_i_3 hn_i_3 H locs hP hD hS ls hl
      refine lv_iload_n hx hb dX0_target_11 rfl (lv_at hl 3 rfl) ?_
      refine lv_aload_n hx hb dX0_target_12 rfl (lv_at hl 0 rfl) ?_
      refine va_get (D := E.1) (ci := 0) (v := .int (nI n)) (C := RX0) (T := TX0) (N := 7) hx hb hts iX0 hown C0.1 hP 0 rfl rfl 0 (by decide) (hts (.fieldLink RX0 36 "Ringresonance$Layout" "count" "I") (by decide +kernel)) (fun _ h9 => h9) rfl dX0_target_13 ?_
      refine lv_icmp_ge (tgt := 60) hx hb dX0_target_16 (by decide) (fun c_4 => ?_) (fun c_4 => ?_)
      · skip
        have c_4 : n ≤ i_3 := (ci_ge (by omega) (by omega)).mp c_4
        obtain rfl : n = i_3 := by omega
        refine lv_iload_n hx hb dX0_target_60 rfl (lv_at hl 2 rfl) ?_
        have q_5 : (nI (rp (tgB kd xs ys se pt) (n) (4 * se pt))) = (nI (tgt n kd xs ys se pt)) := by symm; first | rfl | (simp only [c_4, if_true, if_false, not_true_eq_false, not_false_eq_true, ite_true, ite_false]; done) | (simp only [c_4, if_true, if_false]; rfl) | (simp [c_4]; done)
        exact exI hx hb hr hlocks hAe hS () q_5 hP hD dX0_target_61
      · skip
        have c_4 : ¬ (n ≤ i_3) := fun h => c_4 ((ci_ge (by omega) (by omega)).mpr h)
        have hkj := hk i_3 (by omega)
        have hdl := dst_le (xs := xs) (ys := ys) (a := pt) (b := i_3) (by omega) (by omega) hx9
        have hml1 := mx1_le hdl (by omega)
        have hmp := mx1_pos (dst xs ys pt i_3)
        refine lv_iload_n hx hb dX0_target_19 rfl (lv_at hl 3 rfl) ?_
        refine lv_iload_n hx hb dX0_target_20 rfl (lv_at hl 1 rfl) ?_
        refine lv_icmp_eq (tgt := 54) hx hb dX0_target_21 (by decide) (fun c_6 => ?_) (fun c_6 => ?_)
        · skip
          have c_6 : i_3 = pt := (ci_eq (by omega) (by omega)).mp c_6
          refine lv_iinc (v := nI (i_3 + 1)) (lv' := [(3, .int (nI (i_3 + 1))), (0, .ref aLy), (1, .int (nI pt)), (2, .int (nI (rp (tgB kd xs ys se pt) (i_3) (4 * se pt))))]) hx hb dX0_target_54 hl (k := 3) rfl (nI_add i_3 1) (by decide) rfl (fun ls hl => ?_)
          refine lv_goto (tgt := 11) hx hb dX0_target_57 (by decide) ?_
          have hP : va_P E.1 vwCl [(aLy, o0 (nI n) aK aX aY aF aS aL), (aK, ia E nI 16 kd), (aX, ia E nI 16 xs), (aY, ia E nI 16 ys), (aS, ia E nI 16 se)] H := hP
          have hD : va_D A [(aLy, o0 (nI n) aK aX aY aF aS aL), (aK, ia E nI 16 kd), (aX, ia E nI 16 xs), (aY, ia E nI 16 ys), (aS, ia E nI 16 se)] := hD
          have q_7 : nI (rp (tgB kd xs ys se pt) (i_3) (4 * se pt)) = nI (rp (tgB kd xs ys se pt) (i_3 + 1) (4 * se pt)) := by first | rfl | (congr 1; omega) | (simp only [rp, tgB, c_4, c_6, if_true]; done) | (simp [rp, tgB, c_4, c_6]; done)
          rw [q_7] at hl
          have hl : lv_has ls 4 [(0, .ref aLy), (1, .int (nI pt)), (2, .int (nI (rp (tgB kd xs ys se pt) (i_3 + 1) (4 * se pt)))), (3, .int (nI (i_3 + 1)))] := lv_sub hl [1, 2, 3, 0] rfl
          exact ih_2 (i_3 + 1) (by omega) (by omega) _ _ hP hD hS _ hl
        · skip
          have c_6 : ¬ (i_3 = pt) := fun h => c_6 ((ci_eq (by omega) (by omega)).mpr h)
          refine lv_aload_n hx hb dX0_target_24 rfl (lv_at hl 0 rfl) ?_
          refine va_get (D := E.1) (ci := 0) (v := .ref aK) (C := RX0) (T := TX0) (N := 7) hx hb hts iX0 hown C0.1 hP 0 rfl rfl 1 (by decide) (hts (.fieldLink RX0 9 "Ringresonance$Layout" "kinds" "[I") (by decide +kernel)) (fun _ h9 => h9) rfl dX0_target_25 ?_
          refine lv_iload_n hx hb dX0_target_28 rfl (lv_at hl 3 rfl) ?_
          refine k_iald (e := i_3) (g := nI) (n := 16) hx hb C0 hP 1 rfl (by omega) (by omega) dX0_target_29 ?_
          refine lv_iconst (v := nI 3) hx hb dX0_target_30 (by decide) ?_
          refine lv_icmp_ne (tgt := 54) hx hb dX0_target_31 (by decide) (fun c_8 => ?_) (fun c_8 => ?_)
          · skip
            have c_8 : ¬ ((kd i_3) = 3) := fun h => c_8 ((ci_eq (by omega) (by omega)).mpr h)
            refine lv_iinc (v := nI (i_3 + 1)) (lv' := [(3, .int (nI (i_3 + 1))), (0, .ref aLy), (1, .int (nI pt)), (2, .int (nI (rp (tgB kd xs ys se pt) (i_3) (4 * se pt))))]) hx hb dX0_target_54 hl (k := 3) rfl (nI_add i_3 1) (by decide) rfl (fun ls hl => ?_)
            refine lv_goto (tgt := 11) hx hb dX0_target_57 (by decide) ?_
            have hP : va_P E.1 vwCl [(aLy, o0 (nI n) aK aX aY aF aS aL), (aK, ia E nI 16 kd), (aX, ia E nI 16 xs), (aY, ia E nI 16 ys), (aS, ia E nI 16 se)] H := hP
            have hD : va_D A [(aLy, o0 (nI n) aK aX aY aF aS aL), (aK, ia E nI 16 kd), (aX, ia E nI 16 xs), (aY, ia E nI 16 ys), (aS, ia E nI 16 se)] := hD
            have q_9 : nI (rp (tgB kd xs ys se pt) (i_3) (4 * se pt)) = nI (rp (tgB kd xs ys se pt) (i_3 + 1) (4 * se pt)) := by first | rfl | (congr 1; omega) | (simp only [rp, tgB, c_4, c_6, c_8, if_true]; done) | (simp [rp, tgB, c_4, c_6, c_8]; done)
            rw [q_9] at hl
            have hl : lv_has ls 4 [(0, .ref aLy), (1, .int (nI pt)), (2, .int (nI (rp (tgB kd xs ys se pt) (i_3 + 1) (4 * se pt)))), (3, .int (nI (i_3 + 1)))] := lv_sub hl [1, 2, 3, 0] rfl
            exact ih_2 (i_3 + 1) (by omega) (by omega) _ _ hP hD hS _ hl
          · skip
            have c_8 : (kd i_3) = 3 := (ci_eq (by omega) (by omega)).mp c_8
            refine lv_iload_n hx hb dX0_target_34 rfl (lv_at hl 2 rfl) ?_
            refine lv_aload_n hx hb dX0_target_35 rfl (lv_at hl 0 rfl) ?_
            refine va_get (D := E.1) (ci := 0) (v := .ref aS) (C := RX0) (T := TX0) (N := 7) hx hb hts iX0 hown C0.1 hP 0 rfl rfl 5 (by decide) (hts (.fieldLink RX0 24 "Ringresonance$Layout" "seconds" "[I") (by decide +kernel)) (fun _ h9 => h9) rfl dX0_target_36 ?_
            refine lv_iload_n hx hb dX0_target_39 rfl (lv_at hl 3 rfl) ?_
            refine k_iald (e := i_3) (g := nI) (n := 16) hx hb C0 hP 4 rfl (by omega) (by omega) dX0_target_40 ?_
            refine lv_iconst (v := nI 1) hx hb dX0_target_41 (by decide) ?_
            refine lv_aload_n hx hb dX0_target_42 rfl (lv_at hl 0 rfl) ?_
            refine lv_iload_n hx hb dX0_target_43 rfl (lv_at hl 1 rfl) ?_
            refine lv_iload_n hx hb dX0_target_44 rfl (lv_at hl 3 rfl) ?_
            have hPc := hP.pick (ws' := [(aLy, o0 (nI n) aK aX aY aF aS aL), (aX, ia E nI 16 xs), (aY, ia E nI 16 ys)]) [0, 2, 3] rfl
            have hDc := hD.sub (ws' := [(aLy, o0 (nI n) aK aX aY aF aS aL), (aX, ia E nI 16 xs), (aY, ia E nI 16 ys)]) [0, 2, 3] (by decide) rfl
            refine kcI (wr := [(aK, ia E nI 16 kd), (aS, ia E nI 16 se)]) (w1 := fun _ : Unit => [(aLy, o0 (nI n) aK aX aY aF aS aL), (aX, ia E nI 16 xs), (aY, ia E nI 16 ys)]) (w2 := fun _ => [(aLy, o0 (nI n) aK aX aY aF aS aL), (aK, ia E nI 16 kd), (aX, ia E nI 16 xs), (aY, ia E nI 16 ys), (aS, ia E nI 16 se)]) (va_runV (As := [.int (nI pt), .int (nI i_3)]) (rest := [.int (nI 1), .int (nI (se i_3)), .int (nI (rp (tgB kd xs ys se pt) (i_3) (4 * se pt)))]) ⟨hx, hb, hml, hown, hts⟩ (c_distance l E H.size pt i_3 aLy aK aX aY aF aS aL n xs ys (by omega) (by omega) (hx9)) (cwV 2 hts gX0_target_X0_distance rfl rfl rfl (by decide +kernel) ⟨Nat.le_of_ble_eq_true rfl, Nat.le_of_ble_eq_true rfl⟩) (preV C0 hPc hDc hS 0 rfl rfl) rfl rfl hl.1 rfl (lv_room (Nat.le_of_ble_eq_true rfl)) dX0_target_45 ⟨Nat.le_refl _, Nat.le_refl _⟩) C0 hP hD hS [0, 2, 3] [1, 4] [2, 0, 3, 4, 1] rfl rfl (by decide) (by decide) (fun _ => rfl) (by decide) (fun r_9 _u H locs hw hP hD hS => ?_)
            have hP : va_P E.1 vwCl [(aLy, o0 (nI n) aK aX aY aF aS aL), (aK, ia E nI 16 kd), (aX, ia E nI 16 xs), (aY, ia E nI 16 ys), (aS, ia E nI 16 se)] H := hP
            have hD : va_D A [(aLy, o0 (nI n) aK aX aY aF aS aL), (aK, ia E nI 16 kd), (aX, ia E nI 16 xs), (aY, ia E nI 16 ys), (aS, ia E nI 16 se)] := hD
            have hw : r_9 = nI (dst xs ys pt i_3) := hw
            subst hw
            refine va_mmax hx hb (hml.trans hl.1.symm) hown (hts (.methodLink RX0 50 Lib.Math.max.name) (by decide +kernel)) (hts (.static Lib.Math.max.name) (by decide +kernel)) (hts (.initialized "java/lang/Math") (by decide +kernel)) (hts (.code Lib.Math.max.name Lib.Math.max.code 2 (some .int)) (by decide +kernel)) (Nat.le_of_ble_eq_true rfl) (Nat.le_of_ble_eq_true rfl) (Nat.le_refl _) (Nat.le_refl _) dX0_target_48 ?_
            refine lv_ri (y := (nI (mx1 (dst xs ys pt i_3)))) (mx1_row (by omega)) ?_
            refine lv_idiv hx hb dX0_target_51 (nI_ne0 (by omega) (by omega)) ?_
            refine lv_ri (y := (nI ((se i_3) / (mx1 (dst xs ys pt i_3))))) (pk_div (by omega) (by omega) (by omega)) ?_
            refine lv_iadd hx hb dX0_target_52 ?_
            refine lv_ri (y := (nI ((rp (tgB kd xs ys se pt) (i_3) (4 * se pt)) + ((se i_3) / (mx1 (dst xs ys pt i_3)))))) (nI_add (rp (tgB kd xs ys se pt) (i_3) (4 * se pt)) ((se i_3) / (mx1 (dst xs ys pt i_3)))) ?_
            refine lv_istore_n (lv' := [(2, .int (nI ((rp (tgB kd xs ys se pt) (i_3) (4 * se pt)) + ((se i_3) / (mx1 (dst xs ys pt i_3)))))), (0, .ref aLy), (1, .int (nI pt)), (3, .int (nI i_3))]) hx hb dX0_target_53 rfl hl (by decide) rfl (fun ls hl => ?_)
            refine lv_iinc (v := nI (i_3 + 1)) (lv' := [(3, .int (nI (i_3 + 1))), (2, .int (nI ((rp (tgB kd xs ys se pt) (i_3) (4 * se pt)) + ((se i_3) / (mx1 (dst xs ys pt i_3)))))), (0, .ref aLy), (1, .int (nI pt))]) hx hb dX0_target_54 hl (k := 3) rfl (nI_add i_3 1) (by decide) rfl (fun ls hl => ?_)
            refine lv_goto (tgt := 11) hx hb dX0_target_57 (by decide) ?_
            have hP : va_P E.1 vwCl [(aLy, o0 (nI n) aK aX aY aF aS aL), (aK, ia E nI 16 kd), (aX, ia E nI 16 xs), (aY, ia E nI 16 ys), (aS, ia E nI 16 se)] H := hP
            have hD : va_D A [(aLy, o0 (nI n) aK aX aY aF aS aL), (aK, ia E nI 16 kd), (aX, ia E nI 16 xs), (aY, ia E nI 16 ys), (aS, ia E nI 16 se)] := hD
            have q_10 : nI ((rp (tgB kd xs ys se pt) (i_3) (4 * se pt)) + ((se i_3) / (mx1 (dst xs ys pt i_3)))) = nI (rp (tgB kd xs ys se pt) (i_3 + 1) (4 * se pt)) := by first | rfl | (congr 1; omega) | (simp only [rp, tgB, c_4, c_6, c_8, if_true]; done) | (simp [rp, tgB, c_4, c_6, c_8]; done)
            rw [q_10] at hl
            have hl : lv_has ls 4 [(0, .ref aLy), (1, .int (nI pt)), (2, .int (nI (rp (tgB kd xs ys se pt) (i_3 + 1) (4 * se pt)))), (3, .int (nI (i_3 + 1)))] := lv_sub hl [2, 3, 1, 0] rfl
            exact ih_2 (i_3 + 1) (by omega) (by omega) _ _ hP hD hS _ hl
  have hP : va_P E.1 vwCl [(aLy, o0 (nI n) aK aX aY aF aS aL), (aK, ia E nI 16 kd), (aX, ia E nI 16 xs), (aY, ia E nI 16 ys), (aS, ia E nI 16 se)] H := hP
  have hD : va_D A [(aLy, o0 (nI n) aK aX aY aF aS aL), (aK, ia E nI 16 kd), (aX, ia E nI 16 xs), (aY, ia E nI 16 ys), (aS, ia E nI 16 se)] := hD
  have q_11 : nI (4 * (se pt)) = nI (rp (tgB kd xs ys se pt) (0) (4 * se pt)) := by first | rfl | (congr 1; omega) | (simp only [rp, tgB, if_true]; done) | (simp [rp, tgB]; done)
  rw [q_11] at hl
  have hl : lv_has ls 4 [(0, .ref aLy), (1, .int (nI pt)), (2, .int (nI (rp (tgB kd xs ys se pt) (0) (4 * se pt)))), (3, .int (nI 0))] := lv_sub hl [2, 3, 1, 0] rfl
  exact LP_1 (n + 1) 0 (by omega) (by omega) _ _ hP hD hS _ hl
