theorem arrV_ext {cA : ClassId} {N : Nat} {f g : Nat → Value} (h : ∀ j, j < N → f j = g j) : arrV cA N f = arrV cA N g := by
  unfold arrV
  congr 1
  exact congrArg Array.ofFn (funext fun j => h j.1 j.2)
theorem P_re {D : va_G} {cl : List vw_C} {ws : va_W} {H : Heap} {a : Nat} {e e' : va_E} (hP : va_P D cl ws H) (q0 : Nat) (ha : ws[q0]? = some (a, e)) (he : va_at D cl (a, e) H → va_at D cl (a, e') H) : va_P D cl (ws.set q0 (a, e')) H := by
  intro k q hk
  have hl := (List.getElem?_eq_some_iff.mp ha).1
  by_cases hkq : k = q0
  · subst hkq
    rw [List.getElem?_set_self hl] at hk
    cases hk
    exact he (hP k _ ha)
  · rw [List.getElem?_set_ne (Ne.symm hkq)] at hk
    exact hP k q hk
theorem ja_re {E : EnvT} {cl : List vw_C} {ws : va_W} {H : Heap} {a n : Nat} {F G : Nat → Int64} (hP : va_P E.1 cl ws H) (q0 : Nat) (ha : ws[q0]? = some (a, ja E n F)) (h : ∀ j, j < n → F j = G j) : va_P E.1 cl (ws.set q0 (a, ja E n G)) H :=
  P_re hP q0 ha (fun h1 => by
    have h2 : H[a]? = some (arrV E.2.2.1 n (fun j => .long (F j))) := h1
    have h3 : arrV E.2.2.1 n (fun j => Value.long (F j)) = arrV E.2.2.1 n (fun j => Value.long (G j)) := arrV_ext (fun j hj => by rw [h j hj])
    rw [h3] at h2
    exact h2)
theorem ia_re {E : EnvT} {cl : List vw_C} {ws : va_W} {H : Heap} {g : Nat → Int32} {a n : Nat} {F G : Nat → Nat} (hP : va_P E.1 cl ws H) (q0 : Nat) (ha : ws[q0]? = some (a, ia E g n F)) (h : ∀ j, j < n → F j = G j) : va_P E.1 cl (ws.set q0 (a, ia E g n G)) H :=
  P_re hP q0 ha (fun h1 => by
    have h2 : H[a]? = some (arrV E.2.1 n (fun j => .int (g (F j)))) := h1
    have h3 : arrV E.2.1 n (fun j => Value.int (g (F j))) = arrV E.2.1 n (fun j => Value.int (g (G j))) := arrV_ext (fun j hj => by rw [h j hj])
    rw [h3] at h2
    exact h2)
def flF {α : Type} (f : Nat → α) (v : α) (i : Nat) : Nat → α := fun j => if j < i then v else f j
theorem fl_s {α : Type} (f : Nat → α) (v : α) (i : Nat) : flF f v (i + 1) = va_up (flF f v i) i v := by
  funext j
  show (if j < i + 1 then v else f j) = (if j = i then v else (if j < i then v else f j))
  by_cases h : j = i
  · subst h; simp
  · rw [if_neg h]
    by_cases h2 : j < i
    · rw [if_pos h2, if_pos (by omega)]
    · rw [if_neg h2, if_neg (by omega)]
theorem fl_0 {α : Type} (f : Nat → α) (v : α) : flF f v 0 = f := by
  funext j
  exact if_neg (by omega)
theorem fl_n {α : Type} {f : Nat → α} {v : α} {n j : Nat} (h : j < n) : flF f v n j = v := if_pos h

set_option maxHeartbeats 4000000 in
set_option maxRecDepth 100000 in
theorem c_fillJ256 (l : Launch) (E : EnvT) (sz : Nat) (aZ : Nat) (vv : Int64) (f : Nat → Int64) : MV l yJ7_fill_d0a16 wsJ7_fill_d0a16 ({ frames := 0, cells := 0, slots := 0, locals := 0 }) E sz [.ref aZ, .long vv] [(aZ, ja E 256 f)] (fun _ : Unit => True) (fun _ => [(aZ, ja E 256 (fun _ => vv))]) := by
  refine enV (cc := cJ7_fill_d0a16) (maxL := 5) (by decide +kernel) rfl (Nat.le_of_ble_eq_true rfl) ?_
  intro p e s m below meth c A ls hx hb hr hml hts hown hlocks hAe C0 hP hD hS hl
  have hown : s.vm.findClass RJ7 = some m.cls := hown
  have hl : lv_has ls 5 [(0, .ref aZ), (1, .long vv)] := hl
  obtain ⟨H, hHe⟩ : ∃ z, z = s.heap := ⟨_, rfl⟩
  obtain ⟨locs, hLe⟩ : ∃ z : List Loc, z = [] := ⟨_, rfl⟩
  have hP : va_P E.1 vwCl [(aZ, ja E 256 f)] H := by rw [hHe]; exact hP
  have hD : va_D A [(aZ, ja E 256 f)] := hD
  have hS : va_S A s.heap H locs := by rw [hHe, hLe]; exact hS
  suffices hgo : W p l e _ s m _ below meth c H locs 0 0 _ (F0 m 0 ls []) by rw [hHe, hLe] at hgo; exact hgo
  clear hHe hLe
  refine lv_iconst (v := nI 0) hx hb dJ7_fill_d0a16_0 (by decide) ?_
  refine lv_istore_n (lv' := [(3, .int (nI 0)), (0, .ref aZ), (1, .long vv)]) hx hb dJ7_fill_d0a16_1 rfl hl (by decide) rfl (fun ls hl => ?_)
  refine lv_aload_n hx hb dJ7_fill_d0a16_2 rfl (lv_at hl 1 rfl) ?_
  refine va_alen (v := nI 256) (ty := .long) hx hb C0.1 hP 0 1 rfl rfl rfl dJ7_fill_d0a16_3 ?_
  refine lv_istore (lv' := [(4, .int (nI 256)), (3, .int (nI 0)), (0, .ref aZ), (1, .long vv)]) hx hb dJ7_fill_d0a16_4 hl (by decide) rfl (fun ls hl => ?_)
  have LP_1 : ∀ (nz i_3 : Nat), i_3 ≤ 256 → 256 < i_3 + nz → ∀ (H : Heap) (locs : List Loc), va_P E.1 vwCl [(aZ, ja E 256 (flF f vv (i_3)))] H → va_D A [(aZ, ja E 256 (flF f vv (i_3)))] → va_S A s.heap H locs → ∀ (ls : Array Slot), lv_has ls 5 [(0, .ref aZ), (1, .long vv), (3, .int (nI i_3)), (4, .int (nI 256))] → W p l e ({ frames := 0, cells := 0, slots := 0, locals := 0 }) s m (([.ref aZ, .long vv] : List Value).toArray) below meth c H locs 0 0 (MQ below (va_Qv (fun _ : Unit => True) (Wd E [(aZ, ja E 256 f)] s.heap.size (fun _ => [(aZ, ja E 256 (fun _ => vv))])) A) (([.ref aZ, .long vv] : List Value).toArray) s 0 0 A) (F0 m 6 ls []) := by
    intro nz
    induction nz with
    | zero =>
      intro i_3 h1 h2
      exact absurd h2 (by omega)
    | succ nz ih_2 =>
      intro i_3 hi_i_3 hn_i_3 H locs hP hD hS ls hl
      refine lv_iload_n hx hb dJ7_fill_d0a16_6 rfl (lv_at hl 2 rfl) ?_
      refine lv_iload hx hb dJ7_fill_d0a16_7 (lv_at hl 3 rfl) ?_
      refine lv_icmp_ge (tgt := 22) hx hb dJ7_fill_d0a16_9 (by decide) (fun c_4 => ?_) (fun c_4 => ?_)
      · skip
        have c_4 : 256 ≤ i_3 := (ci_ge (by omega) (by omega)).mp c_4
        obtain rfl : 256 = i_3 := by omega
        have hP := ja_re (G := fun _ => vv) hP 0 rfl (fun j hj => fl_n hj)
        have hD := hD.set (e := ja E 256 (fun _ => vv)) (p := 0) rfl
        have hP : va_P E.1 vwCl [(aZ, ja E 256 (fun _ => vv))] H := hP
        have hD : va_D A [(aZ, ja E 256 (fun _ => vv))] := hD
        exact exV hx hb hr hlocks hAe hS () trivial hP hD dJ7_fill_d0a16_22
      · skip
        have c_4 : ¬ (256 ≤ i_3) := fun h => c_4 ((ci_ge (by omega) (by omega)).mpr h)
        refine lv_aload_n hx hb dJ7_fill_d0a16_12 rfl (lv_at hl 0 rfl) ?_
        refine lv_iload_n hx hb dJ7_fill_d0a16_13 rfl (lv_at hl 2 rfl) ?_
        refine lv_lload_n hx hb dJ7_fill_d0a16_14 rfl (lv_at hl 1 rfl) ?_
        refine k_last (e := i_3) (n := 256) hx hb C0 hP hD hS 0 rfl (by omega) (by omega) dJ7_fill_d0a16_15 (fun H locs hP hD hS => ?_)
        have hP : va_P E.1 vwCl [(aZ, ja E 256 (va_up (flF f vv (i_3)) i_3 vv))] H := hP
        have hD : va_D A [(aZ, ja E 256 (va_up (flF f vv (i_3)) i_3 vv))] := hD
        refine lv_iinc (v := nI (i_3 + 1)) (lv' := [(3, .int (nI (i_3 + 1))), (0, .ref aZ), (1, .long vv), (4, .int (nI 256))]) hx hb dJ7_fill_d0a16_16 hl (k := 2) rfl (nI_add i_3 1) (by decide) rfl (fun ls hl => ?_)
        refine lv_goto (tgt := 6) hx hb dJ7_fill_d0a16_19 (by decide) ?_
        have q_5 : (flF f vv (i_3 + 1)) = (va_up (flF f vv (i_3)) i_3 vv) := by exact fl_s _ _ _
        have hP : va_P E.1 vwCl [(aZ, ja E 256 (flF f vv (i_3 + 1)))] H := by rw [q_5]; exact hP
        have hD : va_D A [(aZ, ja E 256 (flF f vv (i_3 + 1)))] := by rw [q_5]; exact hD
        have hl : lv_has ls 5 [(0, .ref aZ), (1, .long vv), (3, .int (nI (i_3 + 1))), (4, .int (nI 256))] := lv_sub hl [1, 2, 0, 3] rfl
        exact ih_2 (i_3 + 1) (by omega) (by omega) _ _ hP hD hS _ hl
  have q_6 : (flF f vv (0)) = f := by exact fl_0 _ _
  have hP : va_P E.1 vwCl [(aZ, ja E 256 (flF f vv (0)))] H := by rw [q_6]; exact hP
  have hD : va_D A [(aZ, ja E 256 (flF f vv (0)))] := by rw [q_6]; exact hD
  have hl : lv_has ls 5 [(0, .ref aZ), (1, .long vv), (3, .int (nI 0)), (4, .int (nI 256))] := lv_sub hl [2, 3, 1, 0] rfl
  exact LP_1 (256 + 1) 0 (by omega) (by omega) _ _ hP hD hS _ hl

set_option maxHeartbeats 4000000 in
set_option maxRecDepth 100000 in
theorem c_fillJ1024 (l : Launch) (E : EnvT) (sz : Nat) (aZ : Nat) (vv : Int64) (f : Nat → Int64) : MV l yJ7_fill_d0a16 wsJ7_fill_d0a16 ({ frames := 0, cells := 0, slots := 0, locals := 0 }) E sz [.ref aZ, .long vv] [(aZ, ja E 1024 f)] (fun _ : Unit => True) (fun _ => [(aZ, ja E 1024 (fun _ => vv))]) := by
  refine enV (cc := cJ7_fill_d0a16) (maxL := 5) (by decide +kernel) rfl (Nat.le_of_ble_eq_true rfl) ?_
  intro p e s m below meth c A ls hx hb hr hml hts hown hlocks hAe C0 hP hD hS hl
  have hown : s.vm.findClass RJ7 = some m.cls := hown
  have hl : lv_has ls 5 [(0, .ref aZ), (1, .long vv)] := hl
  obtain ⟨H, hHe⟩ : ∃ z, z = s.heap := ⟨_, rfl⟩
  obtain ⟨locs, hLe⟩ : ∃ z : List Loc, z = [] := ⟨_, rfl⟩
  have hP : va_P E.1 vwCl [(aZ, ja E 1024 f)] H := by rw [hHe]; exact hP
  have hD : va_D A [(aZ, ja E 1024 f)] := hD
  have hS : va_S A s.heap H locs := by rw [hHe, hLe]; exact hS
  suffices hgo : W p l e _ s m _ below meth c H locs 0 0 _ (F0 m 0 ls []) by rw [hHe, hLe] at hgo; exact hgo
  clear hHe hLe
  refine lv_iconst (v := nI 0) hx hb dJ7_fill_d0a16_0 (by decide) ?_
  refine lv_istore_n (lv' := [(3, .int (nI 0)), (0, .ref aZ), (1, .long vv)]) hx hb dJ7_fill_d0a16_1 rfl hl (by decide) rfl (fun ls hl => ?_)
  refine lv_aload_n hx hb dJ7_fill_d0a16_2 rfl (lv_at hl 1 rfl) ?_
  refine va_alen (v := nI 1024) (ty := .long) hx hb C0.1 hP 0 1 rfl rfl rfl dJ7_fill_d0a16_3 ?_
  refine lv_istore (lv' := [(4, .int (nI 1024)), (3, .int (nI 0)), (0, .ref aZ), (1, .long vv)]) hx hb dJ7_fill_d0a16_4 hl (by decide) rfl (fun ls hl => ?_)
  have LP_1 : ∀ (nz i_3 : Nat), i_3 ≤ 1024 → 1024 < i_3 + nz → ∀ (H : Heap) (locs : List Loc), va_P E.1 vwCl [(aZ, ja E 1024 (flF f vv (i_3)))] H → va_D A [(aZ, ja E 1024 (flF f vv (i_3)))] → va_S A s.heap H locs → ∀ (ls : Array Slot), lv_has ls 5 [(0, .ref aZ), (1, .long vv), (3, .int (nI i_3)), (4, .int (nI 1024))] → W p l e ({ frames := 0, cells := 0, slots := 0, locals := 0 }) s m (([.ref aZ, .long vv] : List Value).toArray) below meth c H locs 0 0 (MQ below (va_Qv (fun _ : Unit => True) (Wd E [(aZ, ja E 1024 f)] s.heap.size (fun _ => [(aZ, ja E 1024 (fun _ => vv))])) A) (([.ref aZ, .long vv] : List Value).toArray) s 0 0 A) (F0 m 6 ls []) := by
    intro nz
    induction nz with
    | zero =>
      intro i_3 h1 h2
      exact absurd h2 (by omega)
    | succ nz ih_2 =>
      intro i_3 hi_i_3 hn_i_3 H locs hP hD hS ls hl
      refine lv_iload_n hx hb dJ7_fill_d0a16_6 rfl (lv_at hl 2 rfl) ?_
      refine lv_iload hx hb dJ7_fill_d0a16_7 (lv_at hl 3 rfl) ?_
      refine lv_icmp_ge (tgt := 22) hx hb dJ7_fill_d0a16_9 (by decide) (fun c_4 => ?_) (fun c_4 => ?_)
      · skip
        have c_4 : 1024 ≤ i_3 := (ci_ge (by omega) (by omega)).mp c_4
        obtain rfl : 1024 = i_3 := by omega
        have hP := ja_re (G := fun _ => vv) hP 0 rfl (fun j hj => fl_n hj)
        have hD := hD.set (e := ja E 1024 (fun _ => vv)) (p := 0) rfl
        have hP : va_P E.1 vwCl [(aZ, ja E 1024 (fun _ => vv))] H := hP
        have hD : va_D A [(aZ, ja E 1024 (fun _ => vv))] := hD
        exact exV hx hb hr hlocks hAe hS () trivial hP hD dJ7_fill_d0a16_22
      · skip
        have c_4 : ¬ (1024 ≤ i_3) := fun h => c_4 ((ci_ge (by omega) (by omega)).mpr h)
        refine lv_aload_n hx hb dJ7_fill_d0a16_12 rfl (lv_at hl 0 rfl) ?_
        refine lv_iload_n hx hb dJ7_fill_d0a16_13 rfl (lv_at hl 2 rfl) ?_
        refine lv_lload_n hx hb dJ7_fill_d0a16_14 rfl (lv_at hl 1 rfl) ?_
        refine k_last (e := i_3) (n := 1024) hx hb C0 hP hD hS 0 rfl (by omega) (by omega) dJ7_fill_d0a16_15 (fun H locs hP hD hS => ?_)
        have hP : va_P E.1 vwCl [(aZ, ja E 1024 (va_up (flF f vv (i_3)) i_3 vv))] H := hP
        have hD : va_D A [(aZ, ja E 1024 (va_up (flF f vv (i_3)) i_3 vv))] := hD
        refine lv_iinc (v := nI (i_3 + 1)) (lv' := [(3, .int (nI (i_3 + 1))), (0, .ref aZ), (1, .long vv), (4, .int (nI 1024))]) hx hb dJ7_fill_d0a16_16 hl (k := 2) rfl (nI_add i_3 1) (by decide) rfl (fun ls hl => ?_)
        refine lv_goto (tgt := 6) hx hb dJ7_fill_d0a16_19 (by decide) ?_
        have q_5 : (flF f vv (i_3 + 1)) = (va_up (flF f vv (i_3)) i_3 vv) := by exact fl_s _ _ _
        have hP : va_P E.1 vwCl [(aZ, ja E 1024 (flF f vv (i_3 + 1)))] H := by rw [q_5]; exact hP
        have hD : va_D A [(aZ, ja E 1024 (flF f vv (i_3 + 1)))] := by rw [q_5]; exact hD
        have hl : lv_has ls 5 [(0, .ref aZ), (1, .long vv), (3, .int (nI (i_3 + 1))), (4, .int (nI 1024))] := lv_sub hl [1, 2, 0, 3] rfl
        exact ih_2 (i_3 + 1) (by omega) (by omega) _ _ hP hD hS _ hl
  have q_6 : (flF f vv (0)) = f := by exact fl_0 _ _
  have hP : va_P E.1 vwCl [(aZ, ja E 1024 (flF f vv (0)))] H := by rw [q_6]; exact hP
  have hD : va_D A [(aZ, ja E 1024 (flF f vv (0)))] := by rw [q_6]; exact hD
  have hl : lv_has ls 5 [(0, .ref aZ), (1, .long vv), (3, .int (nI 0)), (4, .int (nI 1024))] := lv_sub hl [2, 3, 1, 0] rfl
  exact LP_1 (1024 + 1) 0 (by omega) (by omega) _ _ hP hD hS _ hl

set_option maxHeartbeats 4000000 in
set_option maxRecDepth 100000 in
theorem c_fillJ128 (l : Launch) (E : EnvT) (sz : Nat) (aZ : Nat) (vv : Int64) (f : Nat → Int64) : MV l yJ7_fill_d0a16 wsJ7_fill_d0a16 ({ frames := 0, cells := 0, slots := 0, locals := 0 }) E sz [.ref aZ, .long vv] [(aZ, ja E 128 f)] (fun _ : Unit => True) (fun _ => [(aZ, ja E 128 (fun _ => vv))]) := by
  refine enV (cc := cJ7_fill_d0a16) (maxL := 5) (by decide +kernel) rfl (Nat.le_of_ble_eq_true rfl) ?_
  intro p e s m below meth c A ls hx hb hr hml hts hown hlocks hAe C0 hP hD hS hl
  have hown : s.vm.findClass RJ7 = some m.cls := hown
  have hl : lv_has ls 5 [(0, .ref aZ), (1, .long vv)] := hl
  obtain ⟨H, hHe⟩ : ∃ z, z = s.heap := ⟨_, rfl⟩
  obtain ⟨locs, hLe⟩ : ∃ z : List Loc, z = [] := ⟨_, rfl⟩
  have hP : va_P E.1 vwCl [(aZ, ja E 128 f)] H := by rw [hHe]; exact hP
  have hD : va_D A [(aZ, ja E 128 f)] := hD
  have hS : va_S A s.heap H locs := by rw [hHe, hLe]; exact hS
  suffices hgo : W p l e _ s m _ below meth c H locs 0 0 _ (F0 m 0 ls []) by rw [hHe, hLe] at hgo; exact hgo
  clear hHe hLe
  refine lv_iconst (v := nI 0) hx hb dJ7_fill_d0a16_0 (by decide) ?_
  refine lv_istore_n (lv' := [(3, .int (nI 0)), (0, .ref aZ), (1, .long vv)]) hx hb dJ7_fill_d0a16_1 rfl hl (by decide) rfl (fun ls hl => ?_)
  refine lv_aload_n hx hb dJ7_fill_d0a16_2 rfl (lv_at hl 1 rfl) ?_
  refine va_alen (v := nI 128) (ty := .long) hx hb C0.1 hP 0 1 rfl rfl rfl dJ7_fill_d0a16_3 ?_
  refine lv_istore (lv' := [(4, .int (nI 128)), (3, .int (nI 0)), (0, .ref aZ), (1, .long vv)]) hx hb dJ7_fill_d0a16_4 hl (by decide) rfl (fun ls hl => ?_)
  have LP_1 : ∀ (nz i_3 : Nat), i_3 ≤ 128 → 128 < i_3 + nz → ∀ (H : Heap) (locs : List Loc), va_P E.1 vwCl [(aZ, ja E 128 (flF f vv (i_3)))] H → va_D A [(aZ, ja E 128 (flF f vv (i_3)))] → va_S A s.heap H locs → ∀ (ls : Array Slot), lv_has ls 5 [(0, .ref aZ), (1, .long vv), (3, .int (nI i_3)), (4, .int (nI 128))] → W p l e ({ frames := 0, cells := 0, slots := 0, locals := 0 }) s m (([.ref aZ, .long vv] : List Value).toArray) below meth c H locs 0 0 (MQ below (va_Qv (fun _ : Unit => True) (Wd E [(aZ, ja E 128 f)] s.heap.size (fun _ => [(aZ, ja E 128 (fun _ => vv))])) A) (([.ref aZ, .long vv] : List Value).toArray) s 0 0 A) (F0 m 6 ls []) := by
    intro nz
    induction nz with
    | zero =>
      intro i_3 h1 h2
      exact absurd h2 (by omega)
    | succ nz ih_2 =>
      intro i_3 hi_i_3 hn_i_3 H locs hP hD hS ls hl
      refine lv_iload_n hx hb dJ7_fill_d0a16_6 rfl (lv_at hl 2 rfl) ?_
      refine lv_iload hx hb dJ7_fill_d0a16_7 (lv_at hl 3 rfl) ?_
      refine lv_icmp_ge (tgt := 22) hx hb dJ7_fill_d0a16_9 (by decide) (fun c_4 => ?_) (fun c_4 => ?_)
      · skip
        have c_4 : 128 ≤ i_3 := (ci_ge (by omega) (by omega)).mp c_4
        obtain rfl : 128 = i_3 := by omega
        have hP := ja_re (G := fun _ => vv) hP 0 rfl (fun j hj => fl_n hj)
        have hD := hD.set (e := ja E 128 (fun _ => vv)) (p := 0) rfl
        have hP : va_P E.1 vwCl [(aZ, ja E 128 (fun _ => vv))] H := hP
        have hD : va_D A [(aZ, ja E 128 (fun _ => vv))] := hD
        exact exV hx hb hr hlocks hAe hS () trivial hP hD dJ7_fill_d0a16_22
      · skip
        have c_4 : ¬ (128 ≤ i_3) := fun h => c_4 ((ci_ge (by omega) (by omega)).mpr h)
        refine lv_aload_n hx hb dJ7_fill_d0a16_12 rfl (lv_at hl 0 rfl) ?_
        refine lv_iload_n hx hb dJ7_fill_d0a16_13 rfl (lv_at hl 2 rfl) ?_
        refine lv_lload_n hx hb dJ7_fill_d0a16_14 rfl (lv_at hl 1 rfl) ?_
        refine k_last (e := i_3) (n := 128) hx hb C0 hP hD hS 0 rfl (by omega) (by omega) dJ7_fill_d0a16_15 (fun H locs hP hD hS => ?_)
        have hP : va_P E.1 vwCl [(aZ, ja E 128 (va_up (flF f vv (i_3)) i_3 vv))] H := hP
        have hD : va_D A [(aZ, ja E 128 (va_up (flF f vv (i_3)) i_3 vv))] := hD
        refine lv_iinc (v := nI (i_3 + 1)) (lv' := [(3, .int (nI (i_3 + 1))), (0, .ref aZ), (1, .long vv), (4, .int (nI 128))]) hx hb dJ7_fill_d0a16_16 hl (k := 2) rfl (nI_add i_3 1) (by decide) rfl (fun ls hl => ?_)
        refine lv_goto (tgt := 6) hx hb dJ7_fill_d0a16_19 (by decide) ?_
        have q_5 : (flF f vv (i_3 + 1)) = (va_up (flF f vv (i_3)) i_3 vv) := by exact fl_s _ _ _
        have hP : va_P E.1 vwCl [(aZ, ja E 128 (flF f vv (i_3 + 1)))] H := by rw [q_5]; exact hP
        have hD : va_D A [(aZ, ja E 128 (flF f vv (i_3 + 1)))] := by rw [q_5]; exact hD
        have hl : lv_has ls 5 [(0, .ref aZ), (1, .long vv), (3, .int (nI (i_3 + 1))), (4, .int (nI 128))] := lv_sub hl [1, 2, 0, 3] rfl
        exact ih_2 (i_3 + 1) (by omega) (by omega) _ _ hP hD hS _ hl
  have q_6 : (flF f vv (0)) = f := by exact fl_0 _ _
  have hP : va_P E.1 vwCl [(aZ, ja E 128 (flF f vv (0)))] H := by rw [q_6]; exact hP
  have hD : va_D A [(aZ, ja E 128 (flF f vv (0)))] := by rw [q_6]; exact hD
  have hl : lv_has ls 5 [(0, .ref aZ), (1, .long vv), (3, .int (nI 0)), (4, .int (nI 128))] := lv_sub hl [2, 3, 1, 0] rfl
  exact LP_1 (128 + 1) 0 (by omega) (by omega) _ _ hP hD hS _ hl

set_option maxHeartbeats 4000000 in
set_option maxRecDepth 100000 in
theorem c_fillI32 (l : Launch) (E : EnvT) (sz : Nat) (aZ vv : Nat) (f : Nat → Nat) : MV l yJ7_fill_53178 wsJ7_fill_53178 ({ frames := 0, cells := 0, slots := 0, locals := 0 }) E sz [.ref aZ, .int (cL vv)] [(aZ, ia E cL 32 f)] (fun _ : Unit => True) (fun _ => [(aZ, ia E cL 32 (fun _ => vv))]) := by
  refine enV (cc := cJ7_fill_53178) (maxL := 4) (by decide +kernel) rfl (Nat.le_of_ble_eq_true rfl) ?_
  intro p e s m below meth c A ls hx hb hr hml hts hown hlocks hAe C0 hP hD hS hl
  have hown : s.vm.findClass RJ7 = some m.cls := hown
  have hl : lv_has ls 4 [(0, .ref aZ), (1, .int (cL vv))] := hl
  obtain ⟨H, hHe⟩ : ∃ z, z = s.heap := ⟨_, rfl⟩
  obtain ⟨locs, hLe⟩ : ∃ z : List Loc, z = [] := ⟨_, rfl⟩
  have hP : va_P E.1 vwCl [(aZ, ia E cL 32 f)] H := by rw [hHe]; exact hP
  have hD : va_D A [(aZ, ia E cL 32 f)] := hD
  have hS : va_S A s.heap H locs := by rw [hHe, hLe]; exact hS
  suffices hgo : W p l e _ s m _ below meth c H locs 0 0 _ (F0 m 0 ls []) by rw [hHe, hLe] at hgo; exact hgo
  clear hHe hLe
  refine lv_iconst (v := nI 0) hx hb dJ7_fill_53178_0 (by decide) ?_
  refine lv_istore_n (lv' := [(2, .int (nI 0)), (0, .ref aZ), (1, .int (cL vv))]) hx hb dJ7_fill_53178_1 rfl hl (by decide) rfl (fun ls hl => ?_)
  refine lv_aload_n hx hb dJ7_fill_53178_2 rfl (lv_at hl 1 rfl) ?_
  refine va_alen (v := nI 32) (ty := .int) hx hb C0.1 hP 0 0 rfl rfl rfl dJ7_fill_53178_3 ?_
  refine lv_istore_n (lv' := [(3, .int (nI 32)), (2, .int (nI 0)), (0, .ref aZ), (1, .int (cL vv))]) hx hb dJ7_fill_53178_4 rfl hl (by decide) rfl (fun ls hl => ?_)
  have LP_1 : ∀ (nz i_3 : Nat), i_3 ≤ 32 → 32 < i_3 + nz → ∀ (H : Heap) (locs : List Loc), va_P E.1 vwCl [(aZ, ia E cL 32 (flF f vv (i_3)))] H → va_D A [(aZ, ia E cL 32 (flF f vv (i_3)))] → va_S A s.heap H locs → ∀ (ls : Array Slot), lv_has ls 4 [(0, .ref aZ), (1, .int (cL vv)), (2, .int (nI i_3)), (3, .int (nI 32))] → W p l e ({ frames := 0, cells := 0, slots := 0, locals := 0 }) s m (([.ref aZ, .int (cL vv)] : List Value).toArray) below meth c H locs 0 0 (MQ below (va_Qv (fun _ : Unit => True) (Wd E [(aZ, ia E cL 32 f)] s.heap.size (fun _ => [(aZ, ia E cL 32 (fun _ => vv))])) A) (([.ref aZ, .int (cL vv)] : List Value).toArray) s 0 0 A) (F0 m 5 ls []) := by
    intro nz
    induction nz with
    | zero =>
      intro i_3 h1 h2
      exact absurd h2 (by omega)
    | succ nz ih_2 =>
      intro i_3 hi_i_3 hn_i_3 H locs hP hD hS ls hl
      refine lv_iload_n hx hb dJ7_fill_53178_5 rfl (lv_at hl 2 rfl) ?_
      refine lv_iload_n hx hb dJ7_fill_53178_6 rfl (lv_at hl 3 rfl) ?_
      refine lv_icmp_ge (tgt := 20) hx hb dJ7_fill_53178_7 (by decide) (fun c_4 => ?_) (fun c_4 => ?_)
      · skip
        have c_4 : 32 ≤ i_3 := (ci_ge (by omega) (by omega)).mp c_4
        obtain rfl : 32 = i_3 := by omega
        have hP := ia_re (G := fun _ => vv) hP 0 rfl (fun j hj => fl_n hj)
        have hD := hD.set (e := ia E cL 32 (fun _ => vv)) (p := 0) rfl
        have hP : va_P E.1 vwCl [(aZ, ia E cL 32 (fun _ => vv))] H := hP
        have hD : va_D A [(aZ, ia E cL 32 (fun _ => vv))] := hD
        exact exV hx hb hr hlocks hAe hS () trivial hP hD dJ7_fill_53178_20
      · skip
        have c_4 : ¬ (32 ≤ i_3) := fun h => c_4 ((ci_ge (by omega) (by omega)).mpr h)
        refine lv_aload_n hx hb dJ7_fill_53178_10 rfl (lv_at hl 0 rfl) ?_
        refine lv_iload_n hx hb dJ7_fill_53178_11 rfl (lv_at hl 2 rfl) ?_
        refine lv_iload_n hx hb dJ7_fill_53178_12 rfl (lv_at hl 1 rfl) ?_
        refine k_iast (e := i_3) (v := vv) (g := cL) (n := 32) hx hb C0 hP hD hS 0 rfl rfl (by omega) (by omega) dJ7_fill_53178_13 (fun H locs hP hD hS => ?_)
        have hP : va_P E.1 vwCl [(aZ, ia E cL 32 (va_up (flF f vv (i_3)) i_3 vv))] H := hP
        have hD : va_D A [(aZ, ia E cL 32 (va_up (flF f vv (i_3)) i_3 vv))] := hD
        refine lv_iinc (v := nI (i_3 + 1)) (lv' := [(2, .int (nI (i_3 + 1))), (0, .ref aZ), (1, .int (cL vv)), (3, .int (nI 32))]) hx hb dJ7_fill_53178_14 hl (k := 2) rfl (nI_add i_3 1) (by decide) rfl (fun ls hl => ?_)
        refine lv_goto (tgt := 5) hx hb dJ7_fill_53178_17 (by decide) ?_
        have q_5 : (flF f vv (i_3 + 1)) = (va_up (flF f vv (i_3)) i_3 vv) := by exact fl_s _ _ _
        have hP : va_P E.1 vwCl [(aZ, ia E cL 32 (flF f vv (i_3 + 1)))] H := by rw [q_5]; exact hP
        have hD : va_D A [(aZ, ia E cL 32 (flF f vv (i_3 + 1)))] := by rw [q_5]; exact hD
        have hl : lv_has ls 4 [(0, .ref aZ), (1, .int (cL vv)), (2, .int (nI (i_3 + 1))), (3, .int (nI 32))] := lv_sub hl [1, 2, 0, 3] rfl
        exact ih_2 (i_3 + 1) (by omega) (by omega) _ _ hP hD hS _ hl
  have q_6 : (flF f vv (0)) = f := by exact fl_0 _ _
  have hP : va_P E.1 vwCl [(aZ, ia E cL 32 (flF f vv (0)))] H := by rw [q_6]; exact hP
  have hD : va_D A [(aZ, ia E cL 32 (flF f vv (0)))] := by rw [q_6]; exact hD
  have hl : lv_has ls 4 [(0, .ref aZ), (1, .int (cL vv)), (2, .int (nI 0)), (3, .int (nI 32))] := lv_sub hl [2, 3, 1, 0] rfl
  exact LP_1 (32 + 1) 0 (by omega) (by omega) _ _ hP hD hS _ hl

set_option maxHeartbeats 4000000 in
set_option maxRecDepth 100000 in
theorem c_fillI16 (l : Launch) (E : EnvT) (sz : Nat) (aZ vv : Nat) (f : Nat → Nat) : MV l yJ7_fill_53178 wsJ7_fill_53178 ({ frames := 0, cells := 0, slots := 0, locals := 0 }) E sz [.ref aZ, .int (cL vv)] [(aZ, ia E cL 16 f)] (fun _ : Unit => True) (fun _ => [(aZ, ia E cL 16 (fun _ => vv))]) := by
  refine enV (cc := cJ7_fill_53178) (maxL := 4) (by decide +kernel) rfl (Nat.le_of_ble_eq_true rfl) ?_
  intro p e s m below meth c A ls hx hb hr hml hts hown hlocks hAe C0 hP hD hS hl
  have hown : s.vm.findClass RJ7 = some m.cls := hown
  have hl : lv_has ls 4 [(0, .ref aZ), (1, .int (cL vv))] := hl
  obtain ⟨H, hHe⟩ : ∃ z, z = s.heap := ⟨_, rfl⟩
  obtain ⟨locs, hLe⟩ : ∃ z : List Loc, z = [] := ⟨_, rfl⟩
  have hP : va_P E.1 vwCl [(aZ, ia E cL 16 f)] H := by rw [hHe]; exact hP
  have hD : va_D A [(aZ, ia E cL 16 f)] := hD
  have hS : va_S A s.heap H locs := by rw [hHe, hLe]; exact hS
  suffices hgo : W p l e _ s m _ below meth c H locs 0 0 _ (F0 m 0 ls []) by rw [hHe, hLe] at hgo; exact hgo
  clear hHe hLe
  refine lv_iconst (v := nI 0) hx hb dJ7_fill_53178_0 (by decide) ?_
  refine lv_istore_n (lv' := [(2, .int (nI 0)), (0, .ref aZ), (1, .int (cL vv))]) hx hb dJ7_fill_53178_1 rfl hl (by decide) rfl (fun ls hl => ?_)
  refine lv_aload_n hx hb dJ7_fill_53178_2 rfl (lv_at hl 1 rfl) ?_
  refine va_alen (v := nI 16) (ty := .int) hx hb C0.1 hP 0 0 rfl rfl rfl dJ7_fill_53178_3 ?_
  refine lv_istore_n (lv' := [(3, .int (nI 16)), (2, .int (nI 0)), (0, .ref aZ), (1, .int (cL vv))]) hx hb dJ7_fill_53178_4 rfl hl (by decide) rfl (fun ls hl => ?_)
  have LP_1 : ∀ (nz i_3 : Nat), i_3 ≤ 16 → 16 < i_3 + nz → ∀ (H : Heap) (locs : List Loc), va_P E.1 vwCl [(aZ, ia E cL 16 (flF f vv (i_3)))] H → va_D A [(aZ, ia E cL 16 (flF f vv (i_3)))] → va_S A s.heap H locs → ∀ (ls : Array Slot), lv_has ls 4 [(0, .ref aZ), (1, .int (cL vv)), (2, .int (nI i_3)), (3, .int (nI 16))] → W p l e ({ frames := 0, cells := 0, slots := 0, locals := 0 }) s m (([.ref aZ, .int (cL vv)] : List Value).toArray) below meth c H locs 0 0 (MQ below (va_Qv (fun _ : Unit => True) (Wd E [(aZ, ia E cL 16 f)] s.heap.size (fun _ => [(aZ, ia E cL 16 (fun _ => vv))])) A) (([.ref aZ, .int (cL vv)] : List Value).toArray) s 0 0 A) (F0 m 5 ls []) := by
    intro nz
    induction nz with
    | zero =>
      intro i_3 h1 h2
      exact absurd h2 (by omega)
    | succ nz ih_2 =>
      intro i_3 hi_i_3 hn_i_3 H locs hP hD hS ls hl
      refine lv_iload_n hx hb dJ7_fill_53178_5 rfl (lv_at hl 2 rfl) ?_
      refine lv_iload_n hx hb dJ7_fill_53178_6 rfl (lv_at hl 3 rfl) ?_
      refine lv_icmp_ge (tgt := 20) hx hb dJ7_fill_53178_7 (by decide) (fun c_4 => ?_) (fun c_4 => ?_)
      · skip
        have c_4 : 16 ≤ i_3 := (ci_ge (by omega) (by omega)).mp c_4
        obtain rfl : 16 = i_3 := by omega
        have hP := ia_re (G := fun _ => vv) hP 0 rfl (fun j hj => fl_n hj)
        have hD := hD.set (e := ia E cL 16 (fun _ => vv)) (p := 0) rfl
        have hP : va_P E.1 vwCl [(aZ, ia E cL 16 (fun _ => vv))] H := hP
        have hD : va_D A [(aZ, ia E cL 16 (fun _ => vv))] := hD
        exact exV hx hb hr hlocks hAe hS () trivial hP hD dJ7_fill_53178_20
      · skip
        have c_4 : ¬ (16 ≤ i_3) := fun h => c_4 ((ci_ge (by omega) (by omega)).mpr h)
        refine lv_aload_n hx hb dJ7_fill_53178_10 rfl (lv_at hl 0 rfl) ?_
        refine lv_iload_n hx hb dJ7_fill_53178_11 rfl (lv_at hl 2 rfl) ?_
        refine lv_iload_n hx hb dJ7_fill_53178_12 rfl (lv_at hl 1 rfl) ?_
        refine k_iast (e := i_3) (v := vv) (g := cL) (n := 16) hx hb C0 hP hD hS 0 rfl rfl (by omega) (by omega) dJ7_fill_53178_13 (fun H locs hP hD hS => ?_)
        have hP : va_P E.1 vwCl [(aZ, ia E cL 16 (va_up (flF f vv (i_3)) i_3 vv))] H := hP
        have hD : va_D A [(aZ, ia E cL 16 (va_up (flF f vv (i_3)) i_3 vv))] := hD
        refine lv_iinc (v := nI (i_3 + 1)) (lv' := [(2, .int (nI (i_3 + 1))), (0, .ref aZ), (1, .int (cL vv)), (3, .int (nI 16))]) hx hb dJ7_fill_53178_14 hl (k := 2) rfl (nI_add i_3 1) (by decide) rfl (fun ls hl => ?_)
        refine lv_goto (tgt := 5) hx hb dJ7_fill_53178_17 (by decide) ?_
        have q_5 : (flF f vv (i_3 + 1)) = (va_up (flF f vv (i_3)) i_3 vv) := by exact fl_s _ _ _
        have hP : va_P E.1 vwCl [(aZ, ia E cL 16 (flF f vv (i_3 + 1)))] H := by rw [q_5]; exact hP
        have hD : va_D A [(aZ, ia E cL 16 (flF f vv (i_3 + 1)))] := by rw [q_5]; exact hD
        have hl : lv_has ls 4 [(0, .ref aZ), (1, .int (cL vv)), (2, .int (nI (i_3 + 1))), (3, .int (nI 16))] := lv_sub hl [1, 2, 0, 3] rfl
        exact ih_2 (i_3 + 1) (by omega) (by omega) _ _ hP hD hS _ hl
  have q_6 : (flF f vv (0)) = f := by exact fl_0 _ _
  have hP : va_P E.1 vwCl [(aZ, ia E cL 16 (flF f vv (0)))] H := by rw [q_6]; exact hP
  have hD : va_D A [(aZ, ia E cL 16 (flF f vv (0)))] := by rw [q_6]; exact hD
  have hl : lv_has ls 4 [(0, .ref aZ), (1, .int (cL vv)), (2, .int (nI 0)), (3, .int (nI 16))] := lv_sub hl [2, 3, 1, 0] rfl
  exact LP_1 (16 + 1) 0 (by omega) (by omega) _ _ hP hD hS _ hl

def rsB (n : Nat) (kd xs ys se : Nat → Nat) (j : Nat) (w : Nat → Nat) : Nat → Nat := va_up w j (if kd j = 3 then tgt n kd xs ys se j else 0)
theorem tgt_le {n : Nat} {kd xs ys se : Nat → Nat} {pt : Nat} (hn : n ≤ 16) (hp : pt < n) (h : ∀ j, j < n → kd j ≤ 5 ∧ se j < 1000) : tgt n kd xs ys se pt ≤ 20000 := by
  have key : ∀ k, k ≤ n → rp (tgB kd xs ys se pt) k (4 * se pt) ≤ 4 * se pt + 999 * k := by
    intro k
    induction k with
    | zero => intro _; exact Nat.le_refl _
    | succ k ih =>
      intro hk
      have h1 := ih (by omega)
      have h2 := (h k (by omega)).2
      rw [rp_s]
      generalize rp (tgB kd xs ys se pt) k (4 * se pt) = X at h1 ⊢
      unfold tgB
      have h3 : se k / mx1 (dst xs ys pt k) ≤ se k := Nat.div_le_self _ _
      split <;> omega
  have h1 := key n (Nat.le_refl n)
  have h2 := (h pt hp).2
  unfold tgt; omega

set_option maxHeartbeats 4000000 in
set_option maxRecDepth 100000 in
theorem c_restart (l : Launch) (E : EnvT) (sz : Nat) (oo : Nat) (aLy aK aX aY aF aS aL n : Nat) (aLi aC aG aU aR aN aW o tk : Nat) (em lo lk de : Int64) (kd xs ys se wa : Nat → Nat) (co un sn : Nat → Int64) (hn : n ≤ 16) (hk : ∀ j, j < n → kd j ≤ 5 ∧ se j < 1000) (hx9 : ∀ j, j < 16 → xs j ≤ 15 ∧ ys j ≤ 15) : MV l yX1_restart wsX1_restart ({ frames := 3, cells := 0, slots := 0, locals := 66 }) E sz [.ref aLi, .int (cO oo)] [(aLi, o1 aLy aC aG aU aR aN aW (cO o) (nI tk) em lo lk de), (aLy, o0 (nI n) aK aX aY aF aS aL), (aK, ia E nI 16 kd), (aX, ia E nI 16 xs), (aY, ia E nI 16 ys), (aS, ia E nI 16 se), (aC, ja E 256 co), (aU, ja E 1024 un), (aN, ja E 128 sn), (aW, ia E nI 16 wa)] (fun _ : Unit => True) (fun _ => [(aLi, o1 aLy aC aG aU aR aN aW (cO oo) (nI 0) 0 0 0 0), (aLy, o0 (nI n) aK aX aY aF aS aL), (aK, ia E nI 16 kd), (aX, ia E nI 16 xs), (aY, ia E nI 16 ys), (aS, ia E nI 16 se), (aC, ja E 256 (fun _ => 0)), (aU, ja E 1024 (fun _ => 0)), (aN, ja E 128 (fun _ => 0)), (aW, ia E nI 16 (rp (rsB n kd xs ys se) (n) wa))]) := by
  refine enV (cc := cX1_restart) (maxL := 3) (by decide +kernel) rfl (Nat.le_of_ble_eq_true rfl) ?_
  intro p e s m below meth c A ls hx hb hr hml hts hown hlocks hAe C0 hP hD hS hl
  have hown : s.vm.findClass RX1 = some m.cls := hown
  have hl : lv_has ls 3 [(0, .ref aLi), (1, .int (cO oo))] := hl
  have iX0 : ∀ w ∈ u_ws RX0 TX0 7, w ∈ wsX1_restart := by decide +kernel
  have iX1 : ∀ w ∈ u_ws RX1 TX1 13, w ∈ wsX1_restart := by decide +kernel
  obtain ⟨H, hHe⟩ : ∃ z, z = s.heap := ⟨_, rfl⟩
  obtain ⟨locs, hLe⟩ : ∃ z : List Loc, z = [] := ⟨_, rfl⟩
  have hP : va_P E.1 vwCl [(aLi, o1 aLy aC aG aU aR aN aW (cO o) (nI tk) em lo lk de), (aLy, o0 (nI n) aK aX aY aF aS aL), (aK, ia E nI 16 kd), (aX, ia E nI 16 xs), (aY, ia E nI 16 ys), (aS, ia E nI 16 se), (aC, ja E 256 co), (aU, ja E 1024 un), (aN, ja E 128 sn), (aW, ia E nI 16 wa)] H := by rw [hHe]; exact hP
  have hD : va_D A [(aLi, o1 aLy aC aG aU aR aN aW (cO o) (nI tk) em lo lk de), (aLy, o0 (nI n) aK aX aY aF aS aL), (aK, ia E nI 16 kd), (aX, ia E nI 16 xs), (aY, ia E nI 16 ys), (aS, ia E nI 16 se), (aC, ja E 256 co), (aU, ja E 1024 un), (aN, ja E 128 sn), (aW, ia E nI 16 wa)] := hD
  have hS : va_S A s.heap H locs := by rw [hHe, hLe]; exact hS
  suffices hgo : W p l e _ s m _ below meth c H locs 0 0 _ (F0 m 0 ls []) by rw [hHe, hLe] at hgo; exact hgo
  clear hHe hLe
  refine lv_aload_n hx hb dX1_restart_0 rfl (lv_at hl 0 rfl) ?_
  refine va_get (D := E.1) (ci := 1) (v := .ref aC) (C := RX1) (T := TX1) (N := 13) hx hb hts iX1 hown C0.1 hP 0 rfl rfl 1 (by decide) (hts (.fieldLink RX1 9 "Ringresonance$Light" "coming" "[J") (by decide +kernel)) (fun _ h9 => h9) rfl dX1_restart_1 ?_
  refine lv_lconst (v := 0) hx hb dX1_restart_4 (by decide) ?_
  have hPc := hP.pick (ws' := [(aC, ja E 256 co)]) [6] rfl
  have hDc := hD.sub (ws' := [(aC, ja E 256 co)]) [6] (by decide) rfl
  refine kcV (wr := [(aLi, o1 aLy aC aG aU aR aN aW (cO o) (nI tk) em lo lk de), (aLy, o0 (nI n) aK aX aY aF aS aL), (aK, ia E nI 16 kd), (aX, ia E nI 16 xs), (aY, ia E nI 16 ys), (aS, ia E nI 16 se), (aU, ja E 1024 un), (aN, ja E 128 sn), (aW, ia E nI 16 wa)]) (w1 := fun _ : Unit => [(aC, ja E 256 (fun _ => 0))]) (w2 := fun _ => [(aLi, o1 aLy aC aG aU aR aN aW (cO o) (nI tk) em lo lk de), (aLy, o0 (nI n) aK aX aY aF aS aL), (aK, ia E nI 16 kd), (aX, ia E nI 16 xs), (aY, ia E nI 16 ys), (aS, ia E nI 16 se), (aC, ja E 256 (fun _ => 0)), (aU, ja E 1024 un), (aN, ja E 128 sn), (aW, ia E nI 16 wa)]) (va_runS (As := [.ref aC, .long 0]) (rest := []) ⟨hx, hb, hml, hown, hts⟩ (c_fillJ256 l E H.size aC 0 co ) (va_cwS 2 hts gX1_restart_J7_fill_d0a16 rfl rfl rfl (by decide +kernel) ⟨Nat.le_of_ble_eq_true rfl, Nat.le_of_ble_eq_true rfl⟩) (preS C0 hPc hDc hS) rfl rfl hl.1 rfl (lv_room (Nat.le_of_ble_eq_true rfl)) dX1_restart_5 ⟨Nat.le_refl _, Nat.le_refl _⟩) C0 hP hD hS [6] [0, 1, 2, 3, 4, 5, 7, 8, 9] [0, 1, 2, 3, 4, 5, 9, 6, 7, 8] rfl rfl (by decide) (by decide) (fun _ => rfl) (by decide) (fun _u H locs _hw hP hD hS => ?_)
  have hP : va_P E.1 vwCl [(aLi, o1 aLy aC aG aU aR aN aW (cO o) (nI tk) em lo lk de), (aLy, o0 (nI n) aK aX aY aF aS aL), (aK, ia E nI 16 kd), (aX, ia E nI 16 xs), (aY, ia E nI 16 ys), (aS, ia E nI 16 se), (aC, ja E 256 (fun _ => 0)), (aU, ja E 1024 un), (aN, ja E 128 sn), (aW, ia E nI 16 wa)] H := hP
  have hD : va_D A [(aLi, o1 aLy aC aG aU aR aN aW (cO o) (nI tk) em lo lk de), (aLy, o0 (nI n) aK aX aY aF aS aL), (aK, ia E nI 16 kd), (aX, ia E nI 16 xs), (aY, ia E nI 16 ys), (aS, ia E nI 16 se), (aC, ja E 256 (fun _ => 0)), (aU, ja E 1024 un), (aN, ja E 128 sn), (aW, ia E nI 16 wa)] := hD
  refine lv_aload_n hx hb dX1_restart_8 rfl (lv_at hl 0 rfl) ?_
  refine va_get (D := E.1) (ci := 1) (v := .ref aU) (C := RX1) (T := TX1) (N := 13) hx hb hts iX1 hown C0.1 hP 0 rfl rfl 3 (by decide) (hts (.fieldLink RX1 18 "Ringresonance$Light" "underWay" "[J") (by decide +kernel)) (fun _ h9 => h9) rfl dX1_restart_9 ?_
  refine lv_lconst (v := 0) hx hb dX1_restart_12 (by decide) ?_
  have hPc := hP.pick (ws' := [(aU, ja E 1024 un)]) [7] rfl
  have hDc := hD.sub (ws' := [(aU, ja E 1024 un)]) [7] (by decide) rfl
  refine kcV (wr := [(aLi, o1 aLy aC aG aU aR aN aW (cO o) (nI tk) em lo lk de), (aLy, o0 (nI n) aK aX aY aF aS aL), (aK, ia E nI 16 kd), (aX, ia E nI 16 xs), (aY, ia E nI 16 ys), (aS, ia E nI 16 se), (aC, ja E 256 (fun _ => 0)), (aN, ja E 128 sn), (aW, ia E nI 16 wa)]) (w1 := fun _ : Unit => [(aU, ja E 1024 (fun _ => 0))]) (w2 := fun _ => [(aLi, o1 aLy aC aG aU aR aN aW (cO o) (nI tk) em lo lk de), (aLy, o0 (nI n) aK aX aY aF aS aL), (aK, ia E nI 16 kd), (aX, ia E nI 16 xs), (aY, ia E nI 16 ys), (aS, ia E nI 16 se), (aC, ja E 256 (fun _ => 0)), (aU, ja E 1024 (fun _ => 0)), (aN, ja E 128 sn), (aW, ia E nI 16 wa)]) (va_runS (As := [.ref aU, .long 0]) (rest := []) ⟨hx, hb, hml, hown, hts⟩ (c_fillJ1024 l E H.size aU 0 un ) (va_cwS 2 hts gX1_restart_J7_fill_d0a16 rfl rfl rfl (by decide +kernel) ⟨Nat.le_of_ble_eq_true rfl, Nat.le_of_ble_eq_true rfl⟩) (preS C0 hPc hDc hS) rfl rfl hl.1 rfl (lv_room (Nat.le_of_ble_eq_true rfl)) dX1_restart_13 ⟨Nat.le_refl _, Nat.le_refl _⟩) C0 hP hD hS [7] [0, 1, 2, 3, 4, 5, 6, 8, 9] [0, 1, 2, 3, 4, 5, 6, 9, 7, 8] rfl rfl (by decide) (by decide) (fun _ => rfl) (by decide) (fun _u H locs _hw hP hD hS => ?_)
  have hP : va_P E.1 vwCl [(aLi, o1 aLy aC aG aU aR aN aW (cO o) (nI tk) em lo lk de), (aLy, o0 (nI n) aK aX aY aF aS aL), (aK, ia E nI 16 kd), (aX, ia E nI 16 xs), (aY, ia E nI 16 ys), (aS, ia E nI 16 se), (aC, ja E 256 (fun _ => 0)), (aU, ja E 1024 (fun _ => 0)), (aN, ja E 128 sn), (aW, ia E nI 16 wa)] H := hP
  have hD : va_D A [(aLi, o1 aLy aC aG aU aR aN aW (cO o) (nI tk) em lo lk de), (aLy, o0 (nI n) aK aX aY aF aS aL), (aK, ia E nI 16 kd), (aX, ia E nI 16 xs), (aY, ia E nI 16 ys), (aS, ia E nI 16 se), (aC, ja E 256 (fun _ => 0)), (aU, ja E 1024 (fun _ => 0)), (aN, ja E 128 sn), (aW, ia E nI 16 wa)] := hD
  refine lv_aload_n hx hb dX1_restart_16 rfl (lv_at hl 0 rfl) ?_
  refine va_get (D := E.1) (ci := 1) (v := .ref aN) (C := RX1) (T := TX1) (N := 13) hx hb hts iX1 hown C0.1 hP 0 rfl rfl 5 (by decide) (hts (.fieldLink RX1 24 "Ringresonance$Light" "seenOf" "[J") (by decide +kernel)) (fun _ h9 => h9) rfl dX1_restart_17 ?_
  refine lv_lconst (v := 0) hx hb dX1_restart_20 (by decide) ?_
  have hPc := hP.pick (ws' := [(aN, ja E 128 sn)]) [8] rfl
  have hDc := hD.sub (ws' := [(aN, ja E 128 sn)]) [8] (by decide) rfl
  refine kcV (wr := [(aLi, o1 aLy aC aG aU aR aN aW (cO o) (nI tk) em lo lk de), (aLy, o0 (nI n) aK aX aY aF aS aL), (aK, ia E nI 16 kd), (aX, ia E nI 16 xs), (aY, ia E nI 16 ys), (aS, ia E nI 16 se), (aC, ja E 256 (fun _ => 0)), (aU, ja E 1024 (fun _ => 0)), (aW, ia E nI 16 wa)]) (w1 := fun _ : Unit => [(aN, ja E 128 (fun _ => 0))]) (w2 := fun _ => [(aLi, o1 aLy aC aG aU aR aN aW (cO o) (nI tk) em lo lk de), (aLy, o0 (nI n) aK aX aY aF aS aL), (aK, ia E nI 16 kd), (aX, ia E nI 16 xs), (aY, ia E nI 16 ys), (aS, ia E nI 16 se), (aC, ja E 256 (fun _ => 0)), (aU, ja E 1024 (fun _ => 0)), (aN, ja E 128 (fun _ => 0)), (aW, ia E nI 16 wa)]) (va_runS (As := [.ref aN, .long 0]) (rest := []) ⟨hx, hb, hml, hown, hts⟩ (c_fillJ128 l E H.size aN 0 sn ) (va_cwS 2 hts gX1_restart_J7_fill_d0a16 rfl rfl rfl (by decide +kernel) ⟨Nat.le_of_ble_eq_true rfl, Nat.le_of_ble_eq_true rfl⟩) (preS C0 hPc hDc hS) rfl rfl hl.1 rfl (lv_room (Nat.le_of_ble_eq_true rfl)) dX1_restart_21 ⟨Nat.le_refl _, Nat.le_refl _⟩) C0 hP hD hS [8] [0, 1, 2, 3, 4, 5, 6, 7, 9] [0, 1, 2, 3, 4, 5, 6, 7, 9, 8] rfl rfl (by decide) (by decide) (fun _ => rfl) (by decide) (fun _u H locs _hw hP hD hS => ?_)
  have hP : va_P E.1 vwCl [(aLi, o1 aLy aC aG aU aR aN aW (cO o) (nI tk) em lo lk de), (aLy, o0 (nI n) aK aX aY aF aS aL), (aK, ia E nI 16 kd), (aX, ia E nI 16 xs), (aY, ia E nI 16 ys), (aS, ia E nI 16 se), (aC, ja E 256 (fun _ => 0)), (aU, ja E 1024 (fun _ => 0)), (aN, ja E 128 (fun _ => 0)), (aW, ia E nI 16 wa)] H := hP
  have hD : va_D A [(aLi, o1 aLy aC aG aU aR aN aW (cO o) (nI tk) em lo lk de), (aLy, o0 (nI n) aK aX aY aF aS aL), (aK, ia E nI 16 kd), (aX, ia E nI 16 xs), (aY, ia E nI 16 ys), (aS, ia E nI 16 se), (aC, ja E 256 (fun _ => 0)), (aU, ja E 1024 (fun _ => 0)), (aN, ja E 128 (fun _ => 0)), (aW, ia E nI 16 wa)] := hD
  refine lv_aload_n hx hb dX1_restart_24 rfl (lv_at hl 0 rfl) ?_
  refine lv_iload_n hx hb dX1_restart_25 rfl (lv_at hl 1 rfl) ?_
  refine va_put (D := E.1) (ci := 1) (v := .int (cO oo)) (ty := .int) (C := RX1) (T := TX1) (N := 13) hx hb hts iX1 tyX1 tyX1_ok nmX1 hown C0.1 hP hD hS 0 rfl rfl 7 (by decide) (hts (.fieldLink RX1 41 "Ringresonance$Light" "offset" "I") (by decide +kernel)) (fun _ h9 => h9) rfl (by decide +kernel) rfl rfl (Nat.le_of_ble_eq_true rfl) dX1_restart_26 (fun H locs hP hD hS => ?_)
  have hP : va_P E.1 vwCl [(aLi, o1 aLy aC aG aU aR aN aW (cO oo) (nI tk) em lo lk de), (aLy, o0 (nI n) aK aX aY aF aS aL), (aK, ia E nI 16 kd), (aX, ia E nI 16 xs), (aY, ia E nI 16 ys), (aS, ia E nI 16 se), (aC, ja E 256 (fun _ => 0)), (aU, ja E 1024 (fun _ => 0)), (aN, ja E 128 (fun _ => 0)), (aW, ia E nI 16 wa)] H := hP
  have hD : va_D A [(aLi, o1 aLy aC aG aU aR aN aW (cO oo) (nI tk) em lo lk de), (aLy, o0 (nI n) aK aX aY aF aS aL), (aK, ia E nI 16 kd), (aX, ia E nI 16 xs), (aY, ia E nI 16 ys), (aS, ia E nI 16 se), (aC, ja E 256 (fun _ => 0)), (aU, ja E 1024 (fun _ => 0)), (aN, ja E 128 (fun _ => 0)), (aW, ia E nI 16 wa)] := hD
  refine lv_aload_n hx hb dX1_restart_29 rfl (lv_at hl 0 rfl) ?_
  refine lv_iconst (v := nI 0) hx hb dX1_restart_30 (by decide) ?_
  refine va_put (D := E.1) (ci := 1) (v := .int (nI 0)) (ty := .int) (C := RX1) (T := TX1) (N := 13) hx hb hts iX1 tyX1 tyX1_ok nmX1 hown C0.1 hP hD hS 0 rfl rfl 8 (by decide) (hts (.fieldLink RX1 45 "Ringresonance$Light" "ticks" "I") (by decide +kernel)) (fun _ h9 => h9) rfl (by decide +kernel) rfl rfl (Nat.le_of_ble_eq_true rfl) dX1_restart_31 (fun H locs hP hD hS => ?_)
  have hP : va_P E.1 vwCl [(aLi, o1 aLy aC aG aU aR aN aW (cO oo) (nI 0) em lo lk de), (aLy, o0 (nI n) aK aX aY aF aS aL), (aK, ia E nI 16 kd), (aX, ia E nI 16 xs), (aY, ia E nI 16 ys), (aS, ia E nI 16 se), (aC, ja E 256 (fun _ => 0)), (aU, ja E 1024 (fun _ => 0)), (aN, ja E 128 (fun _ => 0)), (aW, ia E nI 16 wa)] H := hP
  have hD : va_D A [(aLi, o1 aLy aC aG aU aR aN aW (cO oo) (nI 0) em lo lk de), (aLy, o0 (nI n) aK aX aY aF aS aL), (aK, ia E nI 16 kd), (aX, ia E nI 16 xs), (aY, ia E nI 16 ys), (aS, ia E nI 16 se), (aC, ja E 256 (fun _ => 0)), (aU, ja E 1024 (fun _ => 0)), (aN, ja E 128 (fun _ => 0)), (aW, ia E nI 16 wa)] := hD
  refine lv_aload_n hx hb dX1_restart_34 rfl (lv_at hl 0 rfl) ?_
  refine lv_lconst (v := 0) hx hb dX1_restart_35 (by decide) ?_
  refine va_put (D := E.1) (ci := 1) (v := .long 0) (ty := .long) (C := RX1) (T := TX1) (N := 13) hx hb hts iX1 tyX1 tyX1_ok nmX1 hown C0.1 hP hD hS 0 rfl rfl 9 (by decide) (hts (.fieldLink RX1 48 "Ringresonance$Light" "emitted" "J") (by decide +kernel)) (fun _ h9 => h9) rfl (by decide +kernel) rfl rfl (Nat.le_of_ble_eq_true rfl) dX1_restart_36 (fun H locs hP hD hS => ?_)
  have hP : va_P E.1 vwCl [(aLi, o1 aLy aC aG aU aR aN aW (cO oo) (nI 0) 0 lo lk de), (aLy, o0 (nI n) aK aX aY aF aS aL), (aK, ia E nI 16 kd), (aX, ia E nI 16 xs), (aY, ia E nI 16 ys), (aS, ia E nI 16 se), (aC, ja E 256 (fun _ => 0)), (aU, ja E 1024 (fun _ => 0)), (aN, ja E 128 (fun _ => 0)), (aW, ia E nI 16 wa)] H := hP
  have hD : va_D A [(aLi, o1 aLy aC aG aU aR aN aW (cO oo) (nI 0) 0 lo lk de), (aLy, o0 (nI n) aK aX aY aF aS aL), (aK, ia E nI 16 kd), (aX, ia E nI 16 xs), (aY, ia E nI 16 ys), (aS, ia E nI 16 se), (aC, ja E 256 (fun _ => 0)), (aU, ja E 1024 (fun _ => 0)), (aN, ja E 128 (fun _ => 0)), (aW, ia E nI 16 wa)] := hD
  refine lv_aload_n hx hb dX1_restart_39 rfl (lv_at hl 0 rfl) ?_
  refine lv_lconst (v := 0) hx hb dX1_restart_40 (by decide) ?_
  refine va_put (D := E.1) (ci := 1) (v := .long 0) (ty := .long) (C := RX1) (T := TX1) (N := 13) hx hb hts iX1 tyX1 tyX1_ok nmX1 hown C0.1 hP hD hS 0 rfl rfl 10 (by decide) (hts (.fieldLink RX1 52 "Ringresonance$Light" "lost" "J") (by decide +kernel)) (fun _ h9 => h9) rfl (by decide +kernel) rfl rfl (Nat.le_of_ble_eq_true rfl) dX1_restart_41 (fun H locs hP hD hS => ?_)
  have hP : va_P E.1 vwCl [(aLi, o1 aLy aC aG aU aR aN aW (cO oo) (nI 0) 0 0 lk de), (aLy, o0 (nI n) aK aX aY aF aS aL), (aK, ia E nI 16 kd), (aX, ia E nI 16 xs), (aY, ia E nI 16 ys), (aS, ia E nI 16 se), (aC, ja E 256 (fun _ => 0)), (aU, ja E 1024 (fun _ => 0)), (aN, ja E 128 (fun _ => 0)), (aW, ia E nI 16 wa)] H := hP
  have hD : va_D A [(aLi, o1 aLy aC aG aU aR aN aW (cO oo) (nI 0) 0 0 lk de), (aLy, o0 (nI n) aK aX aY aF aS aL), (aK, ia E nI 16 kd), (aX, ia E nI 16 xs), (aY, ia E nI 16 ys), (aS, ia E nI 16 se), (aC, ja E 256 (fun _ => 0)), (aU, ja E 1024 (fun _ => 0)), (aN, ja E 128 (fun _ => 0)), (aW, ia E nI 16 wa)] := hD
  refine lv_aload_n hx hb dX1_restart_44 rfl (lv_at hl 0 rfl) ?_
  refine lv_lconst (v := 0) hx hb dX1_restart_45 (by decide) ?_
  refine va_put (D := E.1) (ci := 1) (v := .long 0) (ty := .long) (C := RX1) (T := TX1) (N := 13) hx hb hts iX1 tyX1 tyX1_ok nmX1 hown C0.1 hP hD hS 0 rfl rfl 11 (by decide) (hts (.fieldLink RX1 55 "Ringresonance$Light" "leaked" "J") (by decide +kernel)) (fun _ h9 => h9) rfl (by decide +kernel) rfl rfl (Nat.le_of_ble_eq_true rfl) dX1_restart_46 (fun H locs hP hD hS => ?_)
  have hP : va_P E.1 vwCl [(aLi, o1 aLy aC aG aU aR aN aW (cO oo) (nI 0) 0 0 0 de), (aLy, o0 (nI n) aK aX aY aF aS aL), (aK, ia E nI 16 kd), (aX, ia E nI 16 xs), (aY, ia E nI 16 ys), (aS, ia E nI 16 se), (aC, ja E 256 (fun _ => 0)), (aU, ja E 1024 (fun _ => 0)), (aN, ja E 128 (fun _ => 0)), (aW, ia E nI 16 wa)] H := hP
  have hD : va_D A [(aLi, o1 aLy aC aG aU aR aN aW (cO oo) (nI 0) 0 0 0 de), (aLy, o0 (nI n) aK aX aY aF aS aL), (aK, ia E nI 16 kd), (aX, ia E nI 16 xs), (aY, ia E nI 16 ys), (aS, ia E nI 16 se), (aC, ja E 256 (fun _ => 0)), (aU, ja E 1024 (fun _ => 0)), (aN, ja E 128 (fun _ => 0)), (aW, ia E nI 16 wa)] := hD
  refine lv_aload_n hx hb dX1_restart_49 rfl (lv_at hl 0 rfl) ?_
  refine lv_lconst (v := 0) hx hb dX1_restart_50 (by decide) ?_
  refine va_put (D := E.1) (ci := 1) (v := .long 0) (ty := .long) (C := RX1) (T := TX1) (N := 13) hx hb hts iX1 tyX1 tyX1_ok nmX1 hown C0.1 hP hD hS 0 rfl rfl 12 (by decide) (hts (.fieldLink RX1 58 "Ringresonance$Light" "detected" "J") (by decide +kernel)) (fun _ h9 => h9) rfl (by decide +kernel) rfl rfl (Nat.le_of_ble_eq_true rfl) dX1_restart_51 (fun H locs hP hD hS => ?_)
  have hP : va_P E.1 vwCl [(aLi, o1 aLy aC aG aU aR aN aW (cO oo) (nI 0) 0 0 0 0), (aLy, o0 (nI n) aK aX aY aF aS aL), (aK, ia E nI 16 kd), (aX, ia E nI 16 xs), (aY, ia E nI 16 ys), (aS, ia E nI 16 se), (aC, ja E 256 (fun _ => 0)), (aU, ja E 1024 (fun _ => 0)), (aN, ja E 128 (fun _ => 0)), (aW, ia E nI 16 wa)] H := hP
  have hD : va_D A [(aLi, o1 aLy aC aG aU aR aN aW (cO oo) (nI 0) 0 0 0 0), (aLy, o0 (nI n) aK aX aY aF aS aL), (aK, ia E nI 16 kd), (aX, ia E nI 16 xs), (aY, ia E nI 16 ys), (aS, ia E nI 16 se), (aC, ja E 256 (fun _ => 0)), (aU, ja E 1024 (fun _ => 0)), (aN, ja E 128 (fun _ => 0)), (aW, ia E nI 16 wa)] := hD
  refine lv_iconst (v := nI 0) hx hb dX1_restart_54 (by decide) ?_
  refine lv_istore_n (lv' := [(2, .int (nI 0)), (0, .ref aLi), (1, .int (cO oo))]) hx hb dX1_restart_55 rfl hl (by decide) rfl (fun ls hl => ?_)
  have LP_1 : ∀ (nz i_3 : Nat), i_3 ≤ n → n < i_3 + nz → ∀ (H : Heap) (locs : List Loc), va_P E.1 vwCl [(aLi, o1 aLy aC aG aU aR aN aW (cO oo) (nI 0) 0 0 0 0), (aLy, o0 (nI n) aK aX aY aF aS aL), (aK, ia E nI 16 kd), (aX, ia E nI 16 xs), (aY, ia E nI 16 ys), (aS, ia E nI 16 se), (aC, ja E 256 (fun _ => 0)), (aU, ja E 1024 (fun _ => 0)), (aN, ja E 128 (fun _ => 0)), (aW, ia E nI 16 (rp (rsB n kd xs ys se) (i_3) wa))] H → va_D A [(aLi, o1 aLy aC aG aU aR aN aW (cO oo) (nI 0) 0 0 0 0), (aLy, o0 (nI n) aK aX aY aF aS aL), (aK, ia E nI 16 kd), (aX, ia E nI 16 xs), (aY, ia E nI 16 ys), (aS, ia E nI 16 se), (aC, ja E 256 (fun _ => 0)), (aU, ja E 1024 (fun _ => 0)), (aN, ja E 128 (fun _ => 0)), (aW, ia E nI 16 (rp (rsB n kd xs ys se) (i_3) wa))] → va_S A s.heap H locs → ∀ (ls : Array Slot), lv_has ls 3 [(0, .ref aLi), (1, .int (cO oo)), (2, .int (nI i_3))] → W p l e ({ frames := 3, cells := 0, slots := 0, locals := 66 }) s m (([.ref aLi, .int (cO oo)] : List Value).toArray) below meth c H locs 0 0 (MQ below (va_Qv (fun _ : Unit => True) (Wd E [(aLi, o1 aLy aC aG aU aR aN aW (cO o) (nI tk) em lo lk de), (aLy, o0 (nI n) aK aX aY aF aS aL), (aK, ia E nI 16 kd), (aX, ia E nI 16 xs), (aY, ia E nI 16 ys), (aS, ia E nI 16 se), (aC, ja E 256 co), (aU, ja E 1024 un), (aN, ja E 128 sn), (aW, ia E nI 16 wa)] s.heap.size (fun _ => [(aLi, o1 aLy aC aG aU aR aN aW (cO oo) (nI 0) 0 0 0 0), (aLy, o0 (nI n) aK aX aY aF aS aL), (aK, ia E nI 16 kd), (aX, ia E nI 16 xs), (aY, ia E nI 16 ys), (aS, ia E nI 16 se), (aC, ja E 256 (fun _ => 0)), (aU, ja E 1024 (fun _ => 0)), (aN, ja E 128 (fun _ => 0)), (aW, ia E nI 16 (rp (rsB n kd xs ys se) (n) wa))])) A) (([.ref aLi, .int (cO oo)] : List Value).toArray) s 0 0 A) (F0 m 56 ls []) := by
    intro nz
    induction nz with
    | zero =>
      intro i_3 h1 h2
      exact absurd h2 (by omega)
    | succ nz ih_2 =>
      intro i_3 hi_i_3 hn_i_3 H locs hP hD hS ls hl
      refine lv_iload_n hx hb dX1_restart_56 rfl (lv_at hl 2 rfl) ?_
      refine lv_aload_n hx hb dX1_restart_57 rfl (lv_at hl 0 rfl) ?_
      refine va_get (D := E.1) (ci := 1) (v := .ref aLy) (C := RX1) (T := TX1) (N := 13) hx hb hts iX1 hown C0.1 hP 0 rfl rfl 0 (by decide) (hts (.fieldLink RX1 31 "Ringresonance$Light" "layout" "LRingresonance$Layout;") (by decide +kernel)) (fun _ h9 => h9) rfl dX1_restart_58 ?_
      refine va_get (D := E.1) (ci := 0) (v := .int (nI n)) (C := RX0) (T := TX0) (N := 7) hx hb hts iX0 hown C0.1 hP 1 rfl rfl 0 (by decide) (hts (.fieldLink RX1 61 "Ringresonance$Layout" "count" "I") (by decide +kernel)) (fun _ h9 => h9) rfl dX1_restart_61 ?_
      refine lv_icmp_ge (tgt := 104) hx hb dX1_restart_64 (by decide) (fun c_4 => ?_) (fun c_4 => ?_)
      · skip
        have c_4 : n ≤ i_3 := (ci_ge (by omega) (by omega)).mp c_4
        obtain rfl : n = i_3 := by omega
        exact exV hx hb hr hlocks hAe hS () trivial hP hD dX1_restart_104
      · skip
        have c_4 : ¬ (n ≤ i_3) := fun h => c_4 ((ci_ge (by omega) (by omega)).mpr h)
        have hkj := hk i_3 (by omega)
        refine lv_aload_n hx hb dX1_restart_67 rfl (lv_at hl 0 rfl) ?_
        refine va_get (D := E.1) (ci := 1) (v := .ref aW) (C := RX1) (T := TX1) (N := 13) hx hb hts iX1 hown C0.1 hP 0 rfl rfl 6 (by decide) (hts (.fieldLink RX1 27 "Ringresonance$Light" "warmths" "[I") (by decide +kernel)) (fun _ h9 => h9) rfl dX1_restart_68 ?_
        refine lv_iload_n hx hb dX1_restart_71 rfl (lv_at hl 2 rfl) ?_
        refine lv_aload_n hx hb dX1_restart_72 rfl (lv_at hl 0 rfl) ?_
        refine va_get (D := E.1) (ci := 1) (v := .ref aLy) (C := RX1) (T := TX1) (N := 13) hx hb hts iX1 hown C0.1 hP 0 rfl rfl 0 (by decide) (hts (.fieldLink RX1 31 "Ringresonance$Light" "layout" "LRingresonance$Layout;") (by decide +kernel)) (fun _ h9 => h9) rfl dX1_restart_73 ?_
        refine va_get (D := E.1) (ci := 0) (v := .ref aK) (C := RX0) (T := TX0) (N := 7) hx hb hts iX0 hown C0.1 hP 1 rfl rfl 1 (by decide) (hts (.fieldLink RX1 66 "Ringresonance$Layout" "kinds" "[I") (by decide +kernel)) (fun _ h9 => h9) rfl dX1_restart_76 ?_
        refine lv_iload_n hx hb dX1_restart_79 rfl (lv_at hl 2 rfl) ?_
        refine k_iald (e := i_3) (g := nI) (n := 16) hx hb C0 hP 2 rfl (by omega) (by omega) dX1_restart_80 ?_
        refine lv_iconst (v := nI 3) hx hb dX1_restart_81 (by decide) ?_
        refine lv_icmp_ne (tgt := 96) hx hb dX1_restart_82 (by decide) (fun c_5 => ?_) (fun c_5 => ?_)
        · skip
          have c_5 : ¬ ((kd i_3) = 3) := fun h => c_5 ((ci_eq (by omega) (by omega)).mpr h)
          refine lv_iconst (v := nI 0) hx hb dX1_restart_96 (by decide) ?_
          refine k_iast (e := i_3) (v := 0) (g := nI) (n := 16) hx hb C0 hP hD hS 9 rfl rfl (by omega) (by omega) dX1_restart_97 (fun H locs hP hD hS => ?_)
          have hP : va_P E.1 vwCl [(aLi, o1 aLy aC aG aU aR aN aW (cO oo) (nI 0) 0 0 0 0), (aLy, o0 (nI n) aK aX aY aF aS aL), (aK, ia E nI 16 kd), (aX, ia E nI 16 xs), (aY, ia E nI 16 ys), (aS, ia E nI 16 se), (aC, ja E 256 (fun _ => 0)), (aU, ja E 1024 (fun _ => 0)), (aN, ja E 128 (fun _ => 0)), (aW, ia E nI 16 (va_up (rp (rsB n kd xs ys se) (i_3) wa) i_3 0))] H := hP
          have hD : va_D A [(aLi, o1 aLy aC aG aU aR aN aW (cO oo) (nI 0) 0 0 0 0), (aLy, o0 (nI n) aK aX aY aF aS aL), (aK, ia E nI 16 kd), (aX, ia E nI 16 xs), (aY, ia E nI 16 ys), (aS, ia E nI 16 se), (aC, ja E 256 (fun _ => 0)), (aU, ja E 1024 (fun _ => 0)), (aN, ja E 128 (fun _ => 0)), (aW, ia E nI 16 (va_up (rp (rsB n kd xs ys se) (i_3) wa) i_3 0))] := hD
          refine lv_iinc (v := nI (i_3 + 1)) (lv' := [(2, .int (nI (i_3 + 1))), (0, .ref aLi), (1, .int (cO oo))]) hx hb dX1_restart_98 hl (k := 2) rfl (nI_add i_3 1) (by decide) rfl (fun ls hl => ?_)
          refine lv_goto (tgt := 56) hx hb dX1_restart_101 (by decide) ?_
          have q_6 : (rp (rsB n kd xs ys se) (i_3 + 1) wa) = (va_up (rp (rsB n kd xs ys se) (i_3) wa) i_3 0) := by first | (rw [rp_s]; unfold rsB; rw [if_pos c_5]; done) | (rw [rp_s]; unfold rsB; rw [if_neg c_5]; done)
          have hP : va_P E.1 vwCl [(aLi, o1 aLy aC aG aU aR aN aW (cO oo) (nI 0) 0 0 0 0), (aLy, o0 (nI n) aK aX aY aF aS aL), (aK, ia E nI 16 kd), (aX, ia E nI 16 xs), (aY, ia E nI 16 ys), (aS, ia E nI 16 se), (aC, ja E 256 (fun _ => 0)), (aU, ja E 1024 (fun _ => 0)), (aN, ja E 128 (fun _ => 0)), (aW, ia E nI 16 (rp (rsB n kd xs ys se) (i_3 + 1) wa))] H := by rw [q_6]; exact hP
          have hD : va_D A [(aLi, o1 aLy aC aG aU aR aN aW (cO oo) (nI 0) 0 0 0 0), (aLy, o0 (nI n) aK aX aY aF aS aL), (aK, ia E nI 16 kd), (aX, ia E nI 16 xs), (aY, ia E nI 16 ys), (aS, ia E nI 16 se), (aC, ja E 256 (fun _ => 0)), (aU, ja E 1024 (fun _ => 0)), (aN, ja E 128 (fun _ => 0)), (aW, ia E nI 16 (rp (rsB n kd xs ys se) (i_3 + 1) wa))] := by rw [q_6]; exact hD
          have hl : lv_has ls 3 [(0, .ref aLi), (1, .int (cO oo)), (2, .int (nI (i_3 + 1)))] := lv_sub hl [1, 2, 0] rfl
          exact ih_2 (i_3 + 1) (by omega) (by omega) _ _ hP hD hS _ hl
        · skip
          have c_5 : (kd i_3) = 3 := (ci_eq (by omega) (by omega)).mp c_5
          refine lv_aload_n hx hb dX1_restart_85 rfl (lv_at hl 0 rfl) ?_
          refine va_get (D := E.1) (ci := 1) (v := .ref aLy) (C := RX1) (T := TX1) (N := 13) hx hb hts iX1 hown C0.1 hP 0 rfl rfl 0 (by decide) (hts (.fieldLink RX1 31 "Ringresonance$Light" "layout" "LRingresonance$Layout;") (by decide +kernel)) (fun _ h9 => h9) rfl dX1_restart_86 ?_
          refine lv_iload_n hx hb dX1_restart_89 rfl (lv_at hl 2 rfl) ?_
          have hPc := hP.pick (ws' := [(aLy, o0 (nI n) aK aX aY aF aS aL), (aK, ia E nI 16 kd), (aX, ia E nI 16 xs), (aY, ia E nI 16 ys), (aS, ia E nI 16 se)]) [1, 2, 3, 4, 5] rfl
          have hDc := hD.sub (ws' := [(aLy, o0 (nI n) aK aX aY aF aS aL), (aK, ia E nI 16 kd), (aX, ia E nI 16 xs), (aY, ia E nI 16 ys), (aS, ia E nI 16 se)]) [1, 2, 3, 4, 5] (by decide) rfl
          refine kcI (wr := [(aLi, o1 aLy aC aG aU aR aN aW (cO oo) (nI 0) 0 0 0 0), (aC, ja E 256 (fun _ => 0)), (aU, ja E 1024 (fun _ => 0)), (aN, ja E 128 (fun _ => 0)), (aW, ia E nI 16 (rp (rsB n kd xs ys se) (i_3) wa))]) (w1 := fun _ : Unit => [(aLy, o0 (nI n) aK aX aY aF aS aL), (aK, ia E nI 16 kd), (aX, ia E nI 16 xs), (aY, ia E nI 16 ys), (aS, ia E nI 16 se)]) (w2 := fun _ => [(aLi, o1 aLy aC aG aU aR aN aW (cO oo) (nI 0) 0 0 0 0), (aLy, o0 (nI n) aK aX aY aF aS aL), (aK, ia E nI 16 kd), (aX, ia E nI 16 xs), (aY, ia E nI 16 ys), (aS, ia E nI 16 se), (aC, ja E 256 (fun _ => 0)), (aU, ja E 1024 (fun _ => 0)), (aN, ja E 128 (fun _ => 0)), (aW, ia E nI 16 (rp (rsB n kd xs ys se) (i_3) wa))]) (va_runV (As := [.int (nI i_3)]) (rest := [.int (nI i_3), .ref aW]) ⟨hx, hb, hml, hown, hts⟩ (c_target l E H.size i_3 aLy aK aX aY aF aS aL n kd xs ys se (by omega) (hn) (hk) (hx9)) (cwV 1 hts gX1_restart_X0_target rfl rfl rfl (by decide +kernel) ⟨Nat.le_of_ble_eq_true rfl, Nat.le_of_ble_eq_true rfl⟩) (preV C0 hPc hDc hS 0 rfl rfl) rfl rfl hl.1 rfl (lv_room (Nat.le_of_ble_eq_true rfl)) dX1_restart_90 ⟨Nat.le_refl _, Nat.le_refl _⟩) C0 hP hD hS [1, 2, 3, 4, 5] [0, 6, 7, 8, 9] [0, 5, 6, 7, 8, 9, 1, 2, 3, 4] rfl rfl (by decide) (by decide) (fun _ => rfl) (by decide) (fun r_9 _u H locs hw hP hD hS => ?_)
          have hP : va_P E.1 vwCl [(aLi, o1 aLy aC aG aU aR aN aW (cO oo) (nI 0) 0 0 0 0), (aLy, o0 (nI n) aK aX aY aF aS aL), (aK, ia E nI 16 kd), (aX, ia E nI 16 xs), (aY, ia E nI 16 ys), (aS, ia E nI 16 se), (aC, ja E 256 (fun _ => 0)), (aU, ja E 1024 (fun _ => 0)), (aN, ja E 128 (fun _ => 0)), (aW, ia E nI 16 (rp (rsB n kd xs ys se) (i_3) wa))] H := hP
          have hD : va_D A [(aLi, o1 aLy aC aG aU aR aN aW (cO oo) (nI 0) 0 0 0 0), (aLy, o0 (nI n) aK aX aY aF aS aL), (aK, ia E nI 16 kd), (aX, ia E nI 16 xs), (aY, ia E nI 16 ys), (aS, ia E nI 16 se), (aC, ja E 256 (fun _ => 0)), (aU, ja E 1024 (fun _ => 0)), (aN, ja E 128 (fun _ => 0)), (aW, ia E nI 16 (rp (rsB n kd xs ys se) (i_3) wa))] := hD
          have hw : r_9 = nI (tgt n kd xs ys se i_3) := hw
          subst hw
          refine lv_goto (tgt := 97) hx hb dX1_restart_93 (by decide) ?_
          refine k_iast (e := i_3) (v := (tgt n kd xs ys se i_3)) (g := nI) (n := 16) hx hb C0 hP hD hS 9 rfl rfl (by omega) (by omega) dX1_restart_97 (fun H locs hP hD hS => ?_)
          have hP : va_P E.1 vwCl [(aLi, o1 aLy aC aG aU aR aN aW (cO oo) (nI 0) 0 0 0 0), (aLy, o0 (nI n) aK aX aY aF aS aL), (aK, ia E nI 16 kd), (aX, ia E nI 16 xs), (aY, ia E nI 16 ys), (aS, ia E nI 16 se), (aC, ja E 256 (fun _ => 0)), (aU, ja E 1024 (fun _ => 0)), (aN, ja E 128 (fun _ => 0)), (aW, ia E nI 16 (va_up (rp (rsB n kd xs ys se) (i_3) wa) i_3 (tgt n kd xs ys se i_3)))] H := hP
          have hD : va_D A [(aLi, o1 aLy aC aG aU aR aN aW (cO oo) (nI 0) 0 0 0 0), (aLy, o0 (nI n) aK aX aY aF aS aL), (aK, ia E nI 16 kd), (aX, ia E nI 16 xs), (aY, ia E nI 16 ys), (aS, ia E nI 16 se), (aC, ja E 256 (fun _ => 0)), (aU, ja E 1024 (fun _ => 0)), (aN, ja E 128 (fun _ => 0)), (aW, ia E nI 16 (va_up (rp (rsB n kd xs ys se) (i_3) wa) i_3 (tgt n kd xs ys se i_3)))] := hD
          refine lv_iinc (v := nI (i_3 + 1)) (lv' := [(2, .int (nI (i_3 + 1))), (0, .ref aLi), (1, .int (cO oo))]) hx hb dX1_restart_98 hl (k := 2) rfl (nI_add i_3 1) (by decide) rfl (fun ls hl => ?_)
          refine lv_goto (tgt := 56) hx hb dX1_restart_101 (by decide) ?_
          have q_7 : (rp (rsB n kd xs ys se) (i_3 + 1) wa) = (va_up (rp (rsB n kd xs ys se) (i_3) wa) i_3 (tgt n kd xs ys se i_3)) := by first | (rw [rp_s]; unfold rsB; rw [if_pos c_5]; done) | (rw [rp_s]; unfold rsB; rw [if_neg c_5]; done)
          have hP : va_P E.1 vwCl [(aLi, o1 aLy aC aG aU aR aN aW (cO oo) (nI 0) 0 0 0 0), (aLy, o0 (nI n) aK aX aY aF aS aL), (aK, ia E nI 16 kd), (aX, ia E nI 16 xs), (aY, ia E nI 16 ys), (aS, ia E nI 16 se), (aC, ja E 256 (fun _ => 0)), (aU, ja E 1024 (fun _ => 0)), (aN, ja E 128 (fun _ => 0)), (aW, ia E nI 16 (rp (rsB n kd xs ys se) (i_3 + 1) wa))] H := by rw [q_7]; exact hP
          have hD : va_D A [(aLi, o1 aLy aC aG aU aR aN aW (cO oo) (nI 0) 0 0 0 0), (aLy, o0 (nI n) aK aX aY aF aS aL), (aK, ia E nI 16 kd), (aX, ia E nI 16 xs), (aY, ia E nI 16 ys), (aS, ia E nI 16 se), (aC, ja E 256 (fun _ => 0)), (aU, ja E 1024 (fun _ => 0)), (aN, ja E 128 (fun _ => 0)), (aW, ia E nI 16 (rp (rsB n kd xs ys se) (i_3 + 1) wa))] := by rw [q_7]; exact hD
          have hl : lv_has ls 3 [(0, .ref aLi), (1, .int (cO oo)), (2, .int (nI (i_3 + 1)))] := lv_sub hl [1, 2, 0] rfl
          exact ih_2 (i_3 + 1) (by omega) (by omega) _ _ hP hD hS _ hl
  have q_8 : (rp (rsB n kd xs ys se) (0) wa) = wa := by rfl
  have hP : va_P E.1 vwCl [(aLi, o1 aLy aC aG aU aR aN aW (cO oo) (nI 0) 0 0 0 0), (aLy, o0 (nI n) aK aX aY aF aS aL), (aK, ia E nI 16 kd), (aX, ia E nI 16 xs), (aY, ia E nI 16 ys), (aS, ia E nI 16 se), (aC, ja E 256 (fun _ => 0)), (aU, ja E 1024 (fun _ => 0)), (aN, ja E 128 (fun _ => 0)), (aW, ia E nI 16 (rp (rsB n kd xs ys se) (0) wa))] H := by rw [q_8]; exact hP
  have hD : va_D A [(aLi, o1 aLy aC aG aU aR aN aW (cO oo) (nI 0) 0 0 0 0), (aLy, o0 (nI n) aK aX aY aF aS aL), (aK, ia E nI 16 kd), (aX, ia E nI 16 xs), (aY, ia E nI 16 ys), (aS, ia E nI 16 se), (aC, ja E 256 (fun _ => 0)), (aU, ja E 1024 (fun _ => 0)), (aN, ja E 128 (fun _ => 0)), (aW, ia E nI 16 (rp (rsB n kd xs ys se) (0) wa))] := by rw [q_8]; exact hD
  have hl : lv_has ls 3 [(0, .ref aLi), (1, .int (cO oo)), (2, .int (nI 0))] := lv_sub hl [1, 2, 0] rfl
  exact LP_1 (n + 1) 0 (by omega) (by omega) _ _ hP hD hS _ hl

def stR (x : Int32) : Int32 := if ¬ x / nI 4 = 0 then x / nI 4 else if x = 0 then x / nI 4 else if x ≤ 0 then -1 else nI 1
def wst (T w : Nat) : Nat := if w ≤ T then w + (if (T - w) / 4 = 0 then (if T = w then 0 else 1) else (T - w) / 4) else w - (if (w - T) / 4 = 0 then 1 else (w - T) / 4)
theorem wst_le {T w k : Nat} (hT : T ≤ k) (hw : w ≤ k) : wst T w ≤ k := by
  unfold wst
  split
  · split
    · split <;> omega
    · omega
  · split <;> omega
theorem nI_negdiv {d : Nat} (hd : d < 2 ^ 20) : (-nI d) / nI 4 = -nI (d / 4) := by
  apply Int32.toInt_inj.mp
  have h1 := nI_toInt (n := d) (by omega)
  have h2 := nI_toInt (n := d / 4) (by omega)
  have h3 := sb_negT (w := d) (by omega)
  have h4 := sb_negT (w := d / 4) (by omega)
  have h5 : (nI 4).toInt = 4 := by decide
  rw [h4, Int32.toInt_div_of_ne_right _ _ (by decide), h3, h5]
  rw [Int.neg_tdiv]
  congr 1
theorem wst_row {T w : Nat} (hT : T < 2 ^ 20) (hw : w < 2 ^ 20) : nI w + stR (nI T - nI w) = nI (wst T w) := by
  unfold stR wst
  by_cases h : w ≤ T
  · rw [pk_sub h, pk_div (d := 4) (by omega) (by omega) (by omega), if_pos h]
    by_cases h1 : (T - w) / 4 = 0
    · rw [if_neg (by rw [h1]; decide), if_pos h1]
      by_cases h2 : T = w
      · subst h2
        rw [Nat.sub_self, if_pos (by decide), if_pos rfl]
        exact Int32.add_zero _
      · rw [if_neg (nI_ne0 (by omega) (by omega)), if_neg (nI_nle (by omega) (by omega)), if_neg h2]
        exact nI_add w 1
    · rw [if_pos (nI_ne0 (by omega) (by omega)), if_neg h1, nI_add]
  · have h0 : nI T - nI w = -nI (w - T) := by
      rw [← pk_sub (by omega)]
      grind
    rw [h0, nI_negdiv (by omega), if_neg h]
    by_cases h1 : (w - T) / 4 = 0
    · rw [if_pos h1, if_neg (by rw [h1]; decide), if_neg, if_pos]
      · rw [← pk_sub (by omega)]
        show nI w + -1 = nI w - 1
        grind
      · have h2 := sb_negT (w := w - T) (by omega)
        exact Int32.le_iff_toInt_le.mpr (by rw [h2]; show -(↑(w - T)) ≤ (0 : Int); omega)
      · intro q
        have h2 := sb_negT (w := w - T) (by omega)
        rw [q] at h2
        have h3 : (0 : Int32).toInt = 0 := by decide
        omega
    · rw [if_neg h1, if_pos, ← pk_sub (by omega)]
      · grind
      · intro q
        have h2 := sb_negT (w := (w - T) / 4) (by omega)
        rw [q] at h2
        have h3 : (0 : Int32).toInt = 0 := by decide
        omega
def wmB (n : Nat) (kd xs ys se : Nat → Nat) (j : Nat) (w : Nat → Nat) : Nat → Nat := if kd j = 3 then va_up w j (wst (tgt n kd xs ys se j) (w j)) else w
theorem wm_le {n : Nat} {kd xs ys se w : Nat → Nat} {i : Nat} (hn : n ≤ 16) (hi : i < n) (h : ∀ j, j < n → kd j ≤ 5 ∧ se j < 1000) (hw : ∀ j, j < 16 → w j ≤ 20000) : ∀ j, j < 16 → wmB n kd xs ys se i w j ≤ 20000 := by
  intro j hj
  unfold wmB
  split
  · unfold va_up
    split
    · exact wst_le (tgt_le hn hi h) (hw i (by omega))
    · exact hw j hj
  · exact hw j hj

set_option maxHeartbeats 4000000 in
set_option maxRecDepth 100000 in
theorem c_step (l : Launch) (E : EnvT) (sz : Nat) (xv : Int32) : MI l yX1_step wsX1_step ({ frames := 0, cells := 0, slots := 0, locals := 0 }) E sz [.int xv] [] (fun (r : Int32) (_ : Unit) => r = stR xv) (fun _ => []) := by
  refine enI (cc := cX1_step) (maxL := 2) (ret := .int) (by decide +kernel) rfl (Nat.le_of_ble_eq_true rfl) ?_
  intro p e s m below meth c A ls hx hb hr hml hts hown hlocks hAe C0 hP hD hS hl
  have hown : s.vm.findClass RX1 = some m.cls := hown
  have hl : lv_has ls 2 [(0, .int xv)] := hl
  obtain ⟨H, hHe⟩ : ∃ z, z = s.heap := ⟨_, rfl⟩
  obtain ⟨locs, hLe⟩ : ∃ z : List Loc, z = [] := ⟨_, rfl⟩
  have hP : va_P E.1 vwCl [] H := by rw [hHe]; exact hP
  have hD : va_D A [] := hD
  have hS : va_S A s.heap H locs := by rw [hHe, hLe]; exact hS
  suffices hgo : W p l e _ s m _ below meth c H locs 0 0 _ (F0 m 0 ls []) by rw [hHe, hLe] at hgo; exact hgo
  clear hHe hLe
  refine lv_iload_n hx hb dX1_step_0 rfl (lv_at hl 0 rfl) ?_
  refine lv_iconst (v := nI 4) hx hb dX1_step_1 (by decide) ?_
  refine lv_idiv hx hb dX1_step_2 (by decide) ?_
  refine lv_istore_n (lv' := [(1, .int (xv / (nI 4))), (0, .int xv)]) hx hb dX1_step_3 rfl hl (by decide) rfl (fun ls hl => ?_)
  refine lv_iload_n hx hb dX1_step_4 rfl (lv_at hl 0 rfl) ?_
  refine lv_if_ne (tgt := 22) hx hb dX1_step_5 (by decide) (fun c_1 => ?_) (fun c_1 => ?_)
  · skip
    refine lv_iload_n hx hb dX1_step_22 rfl (lv_at hl 0 rfl) ?_
    have q_2 : (xv / (nI 4)) = (stR xv) := by symm; first | (simp only [stR, c_1, trivial, not_true_eq_false, if_true, if_false, not_false_eq_true]; done) | (simp only [stR, c_1, not_true_eq_false, if_true, if_false, not_false_eq_true]; done) | (simp [stR, c_1, trivial]; done)
    exact exI hx hb hr hlocks hAe hS () q_2 hP hD dX1_step_23
  · skip
    refine lv_iload_n hx hb dX1_step_8 rfl (lv_at hl 1 rfl) ?_
    refine lv_if_eq (tgt := 22) hx hb dX1_step_9 (by decide) (fun c_3 => ?_) (fun c_3 => ?_)
    · skip
      refine lv_iload_n hx hb dX1_step_22 rfl (lv_at hl 0 rfl) ?_
      have q_4 : (xv / (nI 4)) = (stR xv) := by symm; first | (simp only [stR, c_1, c_3, not_true_eq_false, if_true, if_false, not_false_eq_true]; done) | (simp only [stR, c_1, not_true_eq_false, if_true, if_false, not_false_eq_true]; done) | (simp [stR, c_1, c_3]; done)
      exact exI hx hb hr hlocks hAe hS () q_4 hP hD dX1_step_23
    · skip
      refine lv_iload_n hx hb dX1_step_12 rfl (lv_at hl 1 rfl) ?_
      refine lv_if_le (tgt := 20) hx hb dX1_step_13 (by decide) (fun c_5 => ?_) (fun c_5 => ?_)
      · skip
        refine lv_iconst (v := -1) hx hb dX1_step_20 (by decide) ?_
        have q_6 : (-1) = (stR xv) := by symm; simp only [stR, c_1, c_3, c_5, not_true_eq_false, if_true, if_false, not_false_eq_true]
        exact exI hx hb hr hlocks hAe hS () q_6 hP hD dX1_step_21
      · skip
        refine lv_iconst (v := nI 1) hx hb dX1_step_16 (by decide) ?_
        refine lv_goto (tgt := 21) hx hb dX1_step_17 (by decide) ?_
        have q_7 : (nI 1) = (stR xv) := by symm; simp only [stR, c_1, c_3, c_5, not_true_eq_false, if_true, if_false, not_false_eq_true]
        exact exI hx hb hr hlocks hAe hS () q_7 hP hD dX1_step_21

set_option maxHeartbeats 4000000 in
set_option maxRecDepth 100000 in
theorem c_warm (l : Launch) (E : EnvT) (sz : Nat) (aLy aK aX aY aF aS aL n : Nat) (aLi aC aG aU aR aN aW o tk : Nat) (em lo lk de : Int64) (kd xs ys se wa : Nat → Nat) (hn : n ≤ 16) (hk : ∀ j, j < n → kd j ≤ 5 ∧ se j < 1000) (hx9 : ∀ j, j < 16 → xs j ≤ 15 ∧ ys j ≤ 15) (hw : ∀ j, j < 16 → wa j ≤ 20000) : MV l yX1_warm wsX1_warm ({ frames := 3, cells := 0, slots := 0, locals := 66 }) E sz [.ref aLi] [(aLi, o1 aLy aC aG aU aR aN aW (cO o) (nI tk) em lo lk de), (aLy, o0 (nI n) aK aX aY aF aS aL), (aK, ia E nI 16 kd), (aX, ia E nI 16 xs), (aY, ia E nI 16 ys), (aS, ia E nI 16 se), (aW, ia E nI 16 wa)] (fun _ : Unit => True) (fun _ => [(aLi, o1 aLy aC aG aU aR aN aW (cO o) (nI tk) em lo lk de), (aLy, o0 (nI n) aK aX aY aF aS aL), (aK, ia E nI 16 kd), (aX, ia E nI 16 xs), (aY, ia E nI 16 ys), (aS, ia E nI 16 se), (aW, ia E nI 16 (rp (wmB n kd xs ys se) (n) wa))]) := by
  refine enV (cc := cX1_warm) (maxL := 2) (by decide +kernel) rfl (Nat.le_of_ble_eq_true rfl) ?_
  intro p e s m below meth c A ls hx hb hr hml hts hown hlocks hAe C0 hP hD hS hl
  have hown : s.vm.findClass RX1 = some m.cls := hown
  have hl : lv_has ls 2 [(0, .ref aLi)] := hl
  have iX0 : ∀ w ∈ u_ws RX0 TX0 7, w ∈ wsX1_warm := by decide +kernel
  have iX1 : ∀ w ∈ u_ws RX1 TX1 13, w ∈ wsX1_warm := by decide +kernel
  obtain ⟨H, hHe⟩ : ∃ z, z = s.heap := ⟨_, rfl⟩
  obtain ⟨locs, hLe⟩ : ∃ z : List Loc, z = [] := ⟨_, rfl⟩
  have hP : va_P E.1 vwCl [(aLi, o1 aLy aC aG aU aR aN aW (cO o) (nI tk) em lo lk de), (aLy, o0 (nI n) aK aX aY aF aS aL), (aK, ia E nI 16 kd), (aX, ia E nI 16 xs), (aY, ia E nI 16 ys), (aS, ia E nI 16 se), (aW, ia E nI 16 wa)] H := by rw [hHe]; exact hP
  have hD : va_D A [(aLi, o1 aLy aC aG aU aR aN aW (cO o) (nI tk) em lo lk de), (aLy, o0 (nI n) aK aX aY aF aS aL), (aK, ia E nI 16 kd), (aX, ia E nI 16 xs), (aY, ia E nI 16 ys), (aS, ia E nI 16 se), (aW, ia E nI 16 wa)] := hD
  have hS : va_S A s.heap H locs := by rw [hHe, hLe]; exact hS
  suffices hgo : W p l e _ s m _ below meth c H locs 0 0 _ (F0 m 0 ls []) by rw [hHe, hLe] at hgo; exact hgo
  clear hHe hLe
  refine lv_iconst (v := nI 0) hx hb dX1_warm_0 (by decide) ?_
  refine lv_istore_n (lv' := [(1, .int (nI 0)), (0, .ref aLi)]) hx hb dX1_warm_1 rfl hl (by decide) rfl (fun ls hl => ?_)
  have LP_1 : ∀ (nz i_3 : Nat), i_3 ≤ n → n < i_3 + nz → (∀ j, j < 16 → (rp (wmB n kd xs ys se) (i_3) wa) j ≤ 20000) → ∀ (H : Heap) (locs : List Loc), va_P E.1 vwCl [(aLi, o1 aLy aC aG aU aR aN aW (cO o) (nI tk) em lo lk de), (aLy, o0 (nI n) aK aX aY aF aS aL), (aK, ia E nI 16 kd), (aX, ia E nI 16 xs), (aY, ia E nI 16 ys), (aS, ia E nI 16 se), (aW, ia E nI 16 (rp (wmB n kd xs ys se) (i_3) wa))] H → va_D A [(aLi, o1 aLy aC aG aU aR aN aW (cO o) (nI tk) em lo lk de), (aLy, o0 (nI n) aK aX aY aF aS aL), (aK, ia E nI 16 kd), (aX, ia E nI 16 xs), (aY, ia E nI 16 ys), (aS, ia E nI 16 se), (aW, ia E nI 16 (rp (wmB n kd xs ys se) (i_3) wa))] → va_S A s.heap H locs → ∀ (ls : Array Slot), lv_has ls 2 [(0, .ref aLi), (1, .int (nI i_3))] → W p l e ({ frames := 3, cells := 0, slots := 0, locals := 66 }) s m (([.ref aLi] : List Value).toArray) below meth c H locs 0 0 (MQ below (va_Qv (fun _ : Unit => True) (Wd E [(aLi, o1 aLy aC aG aU aR aN aW (cO o) (nI tk) em lo lk de), (aLy, o0 (nI n) aK aX aY aF aS aL), (aK, ia E nI 16 kd), (aX, ia E nI 16 xs), (aY, ia E nI 16 ys), (aS, ia E nI 16 se), (aW, ia E nI 16 wa)] s.heap.size (fun _ => [(aLi, o1 aLy aC aG aU aR aN aW (cO o) (nI tk) em lo lk de), (aLy, o0 (nI n) aK aX aY aF aS aL), (aK, ia E nI 16 kd), (aX, ia E nI 16 xs), (aY, ia E nI 16 ys), (aS, ia E nI 16 se), (aW, ia E nI 16 (rp (wmB n kd xs ys se) (n) wa))])) A) (([.ref aLi] : List Value).toArray) s 0 0 A) (F0 m 2 ls []) := by
    intro nz
    induction nz with
    | zero =>
      intro i_3 h1 h2
      exact absurd h2 (by omega)
    | succ nz ih_2 =>
      intro i_3 hi_i_3 hn_i_3 hv_i_3 H locs hP hD hS ls hl
      refine lv_iload_n hx hb dX1_warm_2 rfl (lv_at hl 1 rfl) ?_
      refine lv_aload_n hx hb dX1_warm_3 rfl (lv_at hl 0 rfl) ?_
      refine va_get (D := E.1) (ci := 1) (v := .ref aLy) (C := RX1) (T := TX1) (N := 13) hx hb hts iX1 hown C0.1 hP 0 rfl rfl 0 (by decide) (hts (.fieldLink RX1 31 "Ringresonance$Light" "layout" "LRingresonance$Layout;") (by decide +kernel)) (fun _ h9 => h9) rfl dX1_warm_4 ?_
      refine va_get (D := E.1) (ci := 0) (v := .int (nI n)) (C := RX0) (T := TX0) (N := 7) hx hb hts iX0 hown C0.1 hP 1 rfl rfl 0 (by decide) (hts (.fieldLink RX1 61 "Ringresonance$Layout" "count" "I") (by decide +kernel)) (fun _ h9 => h9) rfl dX1_warm_7 ?_
      refine lv_icmp_ge (tgt := 59) hx hb dX1_warm_10 (by decide) (fun c_4 => ?_) (fun c_4 => ?_)
      · skip
        have c_4 : n ≤ i_3 := (ci_ge (by omega) (by omega)).mp c_4
        obtain rfl : n = i_3 := by omega
        exact exV hx hb hr hlocks hAe hS () trivial hP hD dX1_warm_59
      · skip
        have c_4 : ¬ (n ≤ i_3) := fun h => c_4 ((ci_ge (by omega) (by omega)).mpr h)
        have hkj := hk i_3 (by omega)
        have hwj := hv_i_3 i_3 (by omega)
        have htj := tgt_le (xs := xs) (ys := ys) (pt := i_3) hn (by omega) hk
        refine lv_aload_n hx hb dX1_warm_13 rfl (lv_at hl 0 rfl) ?_
        refine va_get (D := E.1) (ci := 1) (v := .ref aLy) (C := RX1) (T := TX1) (N := 13) hx hb hts iX1 hown C0.1 hP 0 rfl rfl 0 (by decide) (hts (.fieldLink RX1 31 "Ringresonance$Light" "layout" "LRingresonance$Layout;") (by decide +kernel)) (fun _ h9 => h9) rfl dX1_warm_14 ?_
        refine va_get (D := E.1) (ci := 0) (v := .ref aK) (C := RX0) (T := TX0) (N := 7) hx hb hts iX0 hown C0.1 hP 1 rfl rfl 1 (by decide) (hts (.fieldLink RX1 66 "Ringresonance$Layout" "kinds" "[I") (by decide +kernel)) (fun _ h9 => h9) rfl dX1_warm_17 ?_
        refine lv_iload_n hx hb dX1_warm_20 rfl (lv_at hl 1 rfl) ?_
        refine k_iald (e := i_3) (g := nI) (n := 16) hx hb C0 hP 2 rfl (by omega) (by omega) dX1_warm_21 ?_
        refine lv_iconst (v := nI 3) hx hb dX1_warm_22 (by decide) ?_
        refine lv_icmp_ne (tgt := 53) hx hb dX1_warm_23 (by decide) (fun c_5 => ?_) (fun c_5 => ?_)
        · skip
          have c_5 : ¬ ((kd i_3) = 3) := fun h => c_5 ((ci_eq (by omega) (by omega)).mpr h)
          refine lv_iinc (v := nI (i_3 + 1)) (lv' := [(1, .int (nI (i_3 + 1))), (0, .ref aLi)]) hx hb dX1_warm_53 hl (k := 1) rfl (nI_add i_3 1) (by decide) rfl (fun ls hl => ?_)
          refine lv_goto (tgt := 2) hx hb dX1_warm_56 (by decide) ?_
          have q_6 : (rp (wmB n kd xs ys se) (i_3 + 1) wa) = (rp (wmB n kd xs ys se) (i_3) wa) := by first | (rw [rp_s]; unfold wmB; rw [if_pos c_5]; done) | (rw [rp_s]; unfold wmB; rw [if_neg c_5]; done)
          have hP : va_P E.1 vwCl [(aLi, o1 aLy aC aG aU aR aN aW (cO o) (nI tk) em lo lk de), (aLy, o0 (nI n) aK aX aY aF aS aL), (aK, ia E nI 16 kd), (aX, ia E nI 16 xs), (aY, ia E nI 16 ys), (aS, ia E nI 16 se), (aW, ia E nI 16 (rp (wmB n kd xs ys se) (i_3 + 1) wa))] H := by rw [q_6]; exact hP
          have hD : va_D A [(aLi, o1 aLy aC aG aU aR aN aW (cO o) (nI tk) em lo lk de), (aLy, o0 (nI n) aK aX aY aF aS aL), (aK, ia E nI 16 kd), (aX, ia E nI 16 xs), (aY, ia E nI 16 ys), (aS, ia E nI 16 se), (aW, ia E nI 16 (rp (wmB n kd xs ys se) (i_3 + 1) wa))] := by rw [q_6]; exact hD
          have hl : lv_has ls 2 [(0, .ref aLi), (1, .int (nI (i_3 + 1)))] := lv_sub hl [1, 0] rfl
          exact ih_2 (i_3 + 1) (by omega) (by omega) (by intro j hj; rw [rp_s]; exact wm_le hn (by omega) hk hv_i_3 j hj) _ _ hP hD hS _ hl
        · skip
          have c_5 : (kd i_3) = 3 := (ci_eq (by omega) (by omega)).mp c_5
          refine lv_aload_n hx hb dX1_warm_26 rfl (lv_at hl 0 rfl) ?_
          refine va_get (D := E.1) (ci := 1) (v := .ref aW) (C := RX1) (T := TX1) (N := 13) hx hb hts iX1 hown C0.1 hP 0 rfl rfl 6 (by decide) (hts (.fieldLink RX1 27 "Ringresonance$Light" "warmths" "[I") (by decide +kernel)) (fun _ h9 => h9) rfl dX1_warm_27 ?_
          refine lv_iload_n hx hb dX1_warm_30 rfl (lv_at hl 1 rfl) ?_
          refine lv_dup2_11 hx hb dX1_warm_31 rfl rfl ?_
          refine k_iald (e := i_3) (g := nI) (n := 16) hx hb C0 hP 6 rfl (by omega) (by omega) dX1_warm_32 ?_
          refine lv_aload_n hx hb dX1_warm_33 rfl (lv_at hl 0 rfl) ?_
          refine va_get (D := E.1) (ci := 1) (v := .ref aLy) (C := RX1) (T := TX1) (N := 13) hx hb hts iX1 hown C0.1 hP 0 rfl rfl 0 (by decide) (hts (.fieldLink RX1 31 "Ringresonance$Light" "layout" "LRingresonance$Layout;") (by decide +kernel)) (fun _ h9 => h9) rfl dX1_warm_34 ?_
          refine lv_iload_n hx hb dX1_warm_37 rfl (lv_at hl 1 rfl) ?_
          have hPc := hP.pick (ws' := [(aLy, o0 (nI n) aK aX aY aF aS aL), (aK, ia E nI 16 kd), (aX, ia E nI 16 xs), (aY, ia E nI 16 ys), (aS, ia E nI 16 se)]) [1, 2, 3, 4, 5] rfl
          have hDc := hD.sub (ws' := [(aLy, o0 (nI n) aK aX aY aF aS aL), (aK, ia E nI 16 kd), (aX, ia E nI 16 xs), (aY, ia E nI 16 ys), (aS, ia E nI 16 se)]) [1, 2, 3, 4, 5] (by decide) rfl
          refine kcI (wr := [(aLi, o1 aLy aC aG aU aR aN aW (cO o) (nI tk) em lo lk de), (aW, ia E nI 16 (rp (wmB n kd xs ys se) (i_3) wa))]) (w1 := fun _ : Unit => [(aLy, o0 (nI n) aK aX aY aF aS aL), (aK, ia E nI 16 kd), (aX, ia E nI 16 xs), (aY, ia E nI 16 ys), (aS, ia E nI 16 se)]) (w2 := fun _ => [(aLi, o1 aLy aC aG aU aR aN aW (cO o) (nI tk) em lo lk de), (aLy, o0 (nI n) aK aX aY aF aS aL), (aK, ia E nI 16 kd), (aX, ia E nI 16 xs), (aY, ia E nI 16 ys), (aS, ia E nI 16 se), (aW, ia E nI 16 (rp (wmB n kd xs ys se) (i_3) wa))]) (va_runV (As := [.int (nI i_3)]) (rest := [.int (nI ((rp (wmB n kd xs ys se) (i_3) wa) i_3)), .int (nI i_3), .ref aW]) ⟨hx, hb, hml, hown, hts⟩ (c_target l E H.size i_3 aLy aK aX aY aF aS aL n kd xs ys se (by omega) (hn) (hk) (hx9)) (cwV 1 hts gX1_warm_X0_target rfl rfl rfl (by decide +kernel) ⟨Nat.le_of_ble_eq_true rfl, Nat.le_of_ble_eq_true rfl⟩) (preV C0 hPc hDc hS 0 rfl rfl) rfl rfl hl.1 rfl (lv_room (Nat.le_of_ble_eq_true rfl)) dX1_warm_38 ⟨Nat.le_refl _, Nat.le_refl _⟩) C0 hP hD hS [1, 2, 3, 4, 5] [0, 6] [0, 2, 3, 4, 5, 6, 1] rfl rfl (by decide) (by decide) (fun _ => rfl) (by decide) (fun r_9 _u H locs hw hP hD hS => ?_)
          have hP : va_P E.1 vwCl [(aLi, o1 aLy aC aG aU aR aN aW (cO o) (nI tk) em lo lk de), (aLy, o0 (nI n) aK aX aY aF aS aL), (aK, ia E nI 16 kd), (aX, ia E nI 16 xs), (aY, ia E nI 16 ys), (aS, ia E nI 16 se), (aW, ia E nI 16 (rp (wmB n kd xs ys se) (i_3) wa))] H := hP
          have hD : va_D A [(aLi, o1 aLy aC aG aU aR aN aW (cO o) (nI tk) em lo lk de), (aLy, o0 (nI n) aK aX aY aF aS aL), (aK, ia E nI 16 kd), (aX, ia E nI 16 xs), (aY, ia E nI 16 ys), (aS, ia E nI 16 se), (aW, ia E nI 16 (rp (wmB n kd xs ys se) (i_3) wa))] := hD
          have hw : r_9 = nI (tgt n kd xs ys se i_3) := hw
          subst hw
          refine lv_aload_n hx hb dX1_warm_41 rfl (lv_at hl 0 rfl) ?_
          refine va_get (D := E.1) (ci := 1) (v := .ref aW) (C := RX1) (T := TX1) (N := 13) hx hb hts iX1 hown C0.1 hP 0 rfl rfl 6 (by decide) (hts (.fieldLink RX1 27 "Ringresonance$Light" "warmths" "[I") (by decide +kernel)) (fun _ h9 => h9) rfl dX1_warm_42 ?_
          refine lv_iload_n hx hb dX1_warm_45 rfl (lv_at hl 1 rfl) ?_
          refine k_iald (e := i_3) (g := nI) (n := 16) hx hb C0 hP 6 rfl (by omega) (by omega) dX1_warm_46 ?_
          refine lv_isub hx hb dX1_warm_47 ?_
          have hPc := hP.pick (ws' := []) [] rfl
          have hDc := hD.sub (ws' := []) [] (by decide) rfl
          refine kcI (wr := [(aLi, o1 aLy aC aG aU aR aN aW (cO o) (nI tk) em lo lk de), (aLy, o0 (nI n) aK aX aY aF aS aL), (aK, ia E nI 16 kd), (aX, ia E nI 16 xs), (aY, ia E nI 16 ys), (aS, ia E nI 16 se), (aW, ia E nI 16 (rp (wmB n kd xs ys se) (i_3) wa))]) (w1 := fun _ : Unit => []) (w2 := fun _ => [(aLi, o1 aLy aC aG aU aR aN aW (cO o) (nI tk) em lo lk de), (aLy, o0 (nI n) aK aX aY aF aS aL), (aK, ia E nI 16 kd), (aX, ia E nI 16 xs), (aY, ia E nI 16 ys), (aS, ia E nI 16 se), (aW, ia E nI 16 (rp (wmB n kd xs ys se) (i_3) wa))]) (va_runS (As := [.int ((nI (tgt n kd xs ys se i_3)) - (nI ((rp (wmB n kd xs ys se) (i_3) wa) i_3)))]) (rest := [.int (nI ((rp (wmB n kd xs ys se) (i_3) wa) i_3)), .int (nI i_3), .ref aW]) ⟨hx, hb, hml, hown, hts⟩ (c_step l E H.size ((nI (tgt n kd xs ys se i_3)) - (nI ((rp (wmB n kd xs ys se) (i_3) wa) i_3))) ) (va_cwS 1 hts gX1_warm_X1_step rfl rfl rfl (by decide +kernel) ⟨Nat.le_of_ble_eq_true rfl, Nat.le_of_ble_eq_true rfl⟩) (preS C0 hPc hDc hS) rfl rfl hl.1 rfl (lv_room (Nat.le_of_ble_eq_true rfl)) dX1_warm_48 ⟨Nat.le_refl _, Nat.le_refl _⟩) C0 hP hD hS [] [0, 1, 2, 3, 4, 5, 6] [0, 1, 2, 3, 4, 5, 6] rfl rfl (by decide) (by decide) (fun _ => rfl) (by decide) (fun r_9 _u H locs hw hP hD hS => ?_)
          have hP : va_P E.1 vwCl [(aLi, o1 aLy aC aG aU aR aN aW (cO o) (nI tk) em lo lk de), (aLy, o0 (nI n) aK aX aY aF aS aL), (aK, ia E nI 16 kd), (aX, ia E nI 16 xs), (aY, ia E nI 16 ys), (aS, ia E nI 16 se), (aW, ia E nI 16 (rp (wmB n kd xs ys se) (i_3) wa))] H := hP
          have hD : va_D A [(aLi, o1 aLy aC aG aU aR aN aW (cO o) (nI tk) em lo lk de), (aLy, o0 (nI n) aK aX aY aF aS aL), (aK, ia E nI 16 kd), (aX, ia E nI 16 xs), (aY, ia E nI 16 ys), (aS, ia E nI 16 se), (aW, ia E nI 16 (rp (wmB n kd xs ys se) (i_3) wa))] := hD
          have hw : r_9 = stR ((nI (tgt n kd xs ys se i_3)) - (nI ((rp (wmB n kd xs ys se) (i_3) wa) i_3))) := hw
          subst hw
          refine lv_iadd hx hb dX1_warm_51 ?_
          refine lv_ri (y := (nI (wst (tgt n kd xs ys se i_3) ((rp (wmB n kd xs ys se) (i_3) wa) i_3)))) (wst_row (by omega) (by omega)) ?_
          refine k_iast (e := i_3) (v := (wst (tgt n kd xs ys se i_3) ((rp (wmB n kd xs ys se) (i_3) wa) i_3))) (g := nI) (n := 16) hx hb C0 hP hD hS 6 rfl rfl (by omega) (by omega) dX1_warm_52 (fun H locs hP hD hS => ?_)
          have hP : va_P E.1 vwCl [(aLi, o1 aLy aC aG aU aR aN aW (cO o) (nI tk) em lo lk de), (aLy, o0 (nI n) aK aX aY aF aS aL), (aK, ia E nI 16 kd), (aX, ia E nI 16 xs), (aY, ia E nI 16 ys), (aS, ia E nI 16 se), (aW, ia E nI 16 (va_up (rp (wmB n kd xs ys se) (i_3) wa) i_3 (wst (tgt n kd xs ys se i_3) ((rp (wmB n kd xs ys se) (i_3) wa) i_3))))] H := hP
          have hD : va_D A [(aLi, o1 aLy aC aG aU aR aN aW (cO o) (nI tk) em lo lk de), (aLy, o0 (nI n) aK aX aY aF aS aL), (aK, ia E nI 16 kd), (aX, ia E nI 16 xs), (aY, ia E nI 16 ys), (aS, ia E nI 16 se), (aW, ia E nI 16 (va_up (rp (wmB n kd xs ys se) (i_3) wa) i_3 (wst (tgt n kd xs ys se i_3) ((rp (wmB n kd xs ys se) (i_3) wa) i_3))))] := hD
          refine lv_iinc (v := nI (i_3 + 1)) (lv' := [(1, .int (nI (i_3 + 1))), (0, .ref aLi)]) hx hb dX1_warm_53 hl (k := 1) rfl (nI_add i_3 1) (by decide) rfl (fun ls hl => ?_)
          refine lv_goto (tgt := 2) hx hb dX1_warm_56 (by decide) ?_
          have q_7 : (rp (wmB n kd xs ys se) (i_3 + 1) wa) = (va_up (rp (wmB n kd xs ys se) (i_3) wa) i_3 (wst (tgt n kd xs ys se i_3) ((rp (wmB n kd xs ys se) (i_3) wa) i_3))) := by first | (rw [rp_s]; unfold wmB; rw [if_pos c_5]; done) | (rw [rp_s]; unfold wmB; rw [if_neg c_5]; done)
          have hP : va_P E.1 vwCl [(aLi, o1 aLy aC aG aU aR aN aW (cO o) (nI tk) em lo lk de), (aLy, o0 (nI n) aK aX aY aF aS aL), (aK, ia E nI 16 kd), (aX, ia E nI 16 xs), (aY, ia E nI 16 ys), (aS, ia E nI 16 se), (aW, ia E nI 16 (rp (wmB n kd xs ys se) (i_3 + 1) wa))] H := by rw [q_7]; exact hP
          have hD : va_D A [(aLi, o1 aLy aC aG aU aR aN aW (cO o) (nI tk) em lo lk de), (aLy, o0 (nI n) aK aX aY aF aS aL), (aK, ia E nI 16 kd), (aX, ia E nI 16 xs), (aY, ia E nI 16 ys), (aS, ia E nI 16 se), (aW, ia E nI 16 (rp (wmB n kd xs ys se) (i_3 + 1) wa))] := by rw [q_7]; exact hD
          have hl : lv_has ls 2 [(0, .ref aLi), (1, .int (nI (i_3 + 1)))] := lv_sub hl [1, 0] rfl
          exact ih_2 (i_3 + 1) (by omega) (by omega) (by intro j hj; rw [rp_s]; exact wm_le hn (by omega) hk hv_i_3 j hj) _ _ hP hD hS _ hl
  have q_8 : (rp (wmB n kd xs ys se) (0) wa) = wa := by rfl
  have hP : va_P E.1 vwCl [(aLi, o1 aLy aC aG aU aR aN aW (cO o) (nI tk) em lo lk de), (aLy, o0 (nI n) aK aX aY aF aS aL), (aK, ia E nI 16 kd), (aX, ia E nI 16 xs), (aY, ia E nI 16 ys), (aS, ia E nI 16 se), (aW, ia E nI 16 (rp (wmB n kd xs ys se) (0) wa))] H := by rw [q_8]; exact hP
  have hD : va_D A [(aLi, o1 aLy aC aG aU aR aN aW (cO o) (nI tk) em lo lk de), (aLy, o0 (nI n) aK aX aY aF aS aL), (aK, ia E nI 16 kd), (aX, ia E nI 16 xs), (aY, ia E nI 16 ys), (aS, ia E nI 16 se), (aW, ia E nI 16 (rp (wmB n kd xs ys se) (0) wa))] := by rw [q_8]; exact hD
  have hl : lv_has ls 2 [(0, .ref aLi), (1, .int (nI 0))] := lv_sub hl [1, 0] rfl
  exact LP_1 (n + 1) 0 (by omega) (by omega) (hw) _ _ hP hD hS _ hl
