section KS
variable {p : Program} {l : Launch} {e : Env} {R : Room} {s : State} {m : MethodId} {args : Array Value} {below : List Frame} {meth : Method} {c : Code} {H : Heap} {locs : List Loc} {cells slots : Nat} {Q : State → Prop}
variable {pc : Nat} {ls : Array Slot} {rest : List Value} {cc : ByteArray} {E : EnvT} {A : Nat → Prop}
theorem va_S9 (C0 : Cx E A s) (hS : va_S A s.heap H locs) : va_S (fun q => eB E ≤ q) s.heap H locs := ⟨hS.1, fun q h1 h2 => hS.2.1 q h1 (fun z => h2 (C0.2.1 q z)), fun z hz => C0.2.1 _ (hS.2.2 z hz)⟩
theorem k_gets {k ix : Nat} (hx : p.tables.exec = Jvm.exec) (hb : c.code = cc) (C0 : Cx E A s) (hS : va_S A s.heap H locs) (hown : s.vm.findClass RX3 = some m.cls) (hk : k < 5) (hlink : (Cond.fieldLink RX3 ix RX3 (stN k) "[I").before args s = true) (hdg : decode cc pc = .ok (.getstatic ix, 3))
    (kk : W p l e R s m args below meth c H locs cells slots Q (F0 m (pc + 3) ls (.ref (eT E k) :: rest))) : W p l e R s m args below meth c H locs cells slots Q (F0 m pc ls rest) :=
  va_gets hx hb (C0.2.2.2.1.1 k hk).1 (va_S9 C0 hS) hown hlink (fun _ h => h) hdg kk
theorem k_slen {k : Nat} (hx : p.tables.exec = Jvm.exec) (hb : c.code = cc) (C0 : Cx E A s) (hS : va_S A s.heap H locs) (hk : k < 5) (hdg : decode cc pc = .ok (.arraylength, 1))
    (kk : W p l e R s m args below meth c H locs cells slots Q (F0 m (pc + 1) ls (.int (nI 6) :: rest))) : W p l e R s m args below meth c H locs cells slots Q (F0 m pc ls (.ref (eT E k) :: rest)) :=
  va_tlen (v := nI 6) hx hb (C0.2.2.2.1.1 k hk).2 (va_S9 C0 hS) rfl hdg kk
theorem k_sti {k j : Nat} (hx : p.tables.exec = Jvm.exec) (hb : c.code = cc) (C0 : Cx E A s) (hS : va_S A s.heap H locs) (hk : k < 5) (hj : j < 6) (hdg : decode cc pc = .ok (.iaload, 1))
    (kk : W p l e R s m args below meth c H locs cells slots Q (F0 m (pc + 1) ls (.int (nI (stV k j)) :: rest))) : W p l e R s m args below meth c H locs cells slots Q (F0 m pc ls (.int (nI j) :: .ref (eT E k) :: rest)) := by
  have hc : (nI j).toNatClampNeg = j := nI_clamp (by omega)
  have hn : ¬ nI j < 0 := nI_pos (by omega)
  refine va_ti (v := .int (nI (stV k j))) hx hb (C0.2.2.2.1.1 k hk).2 (va_S9 C0 hS) (fun h => ?_) (by rw [hc]) hdg kk
  rcases h with h | h
  · exact hn h
  · rw [hc] at h; omega
end KS

set_option maxHeartbeats 4000000 in
set_option maxRecDepth 100000 in
theorem c_needRange (l : Launch) (E : EnvT) (sz : Nat) (x9 lo hi : Int32) (h : lo ≤ x9 ∧ x9 ≤ hi) : MV l yX3_needRange wsX3_needRange ({ frames := 0, cells := 0, slots := 0, locals := 0 }) E sz [.int x9, .int lo, .int hi] [] (fun _ : Unit => True) (fun _ => []) := by
  refine enV (cc := cX3_needRange) (maxL := 3) (by decide +kernel) rfl (Nat.le_of_ble_eq_true rfl) ?_
  intro p e s m below meth c A ls hx hb hr hml hts hown hlocks hAe C0 hP hD hS hl
  have hown : s.vm.findClass RX3 = some m.cls := hown
  have hl : lv_has ls 3 [(0, .int x9), (1, .int lo), (2, .int hi)] := hl
  obtain ⟨H, hHe⟩ : ∃ z, z = s.heap := ⟨_, rfl⟩
  obtain ⟨locs, hLe⟩ : ∃ z : List Loc, z = [] := ⟨_, rfl⟩
  have hP : va_P E.1 vwCl [] H := by rw [hHe]; exact hP
  have hD : va_D A [] := hD
  have hS : va_S A s.heap H locs := by rw [hHe, hLe]; exact hS
  suffices hgo : W p l e _ s m _ below meth c H locs 0 0 _ (F0 m 0 ls []) by rw [hHe, hLe] at hgo; exact hgo
  clear hHe hLe
  refine lv_iload_n hx hb dX3_needRange_0 rfl (lv_at hl 0 rfl) ?_
  refine lv_iload_n hx hb dX3_needRange_1 rfl (lv_at hl 1 rfl) ?_
  refine lv_icmp_lt (tgt := 10) hx hb dX3_needRange_2 (by decide) (fun c_1 => ?_) (fun c_1 => ?_)
  · skip
    exact absurd h.1 (Int32.not_le.mpr c_1)
  · skip
    refine lv_iload_n hx hb dX3_needRange_5 rfl (lv_at hl 0 rfl) ?_
    refine lv_iload_n hx hb dX3_needRange_6 rfl (lv_at hl 2 rfl) ?_
    refine lv_icmp_le (tgt := 20) hx hb dX3_needRange_7 (by decide) (fun c_2 => ?_) (fun c_2 => ?_)
    · skip
      exact exV hx hb hr hlocks hAe hS () trivial hP hD dX3_needRange_20
    · skip
      exact absurd h.2 c_2

set_option maxHeartbeats 4000000 in
set_option maxRecDepth 100000 in
theorem x_needRange (l : Launch) (E : EnvT) (sz : Nat) (x9 lo hi : Int32) (h : ¬ (lo ≤ x9 ∧ x9 ≤ hi)) (hst : l.stackTraces = false) : MX l yX3_needRange wsX3_needRange ({ frames := 6, cells := 1, slots := 6, locals := 82 }) E sz [.int x9, .int lo, .int hi] [] xA := by
  refine enX (cc := cX3_needRange) (maxL := 3) (ret := none) (by decide +kernel) rfl (Nat.le_of_ble_eq_true rfl) ?_
  intro p e s m below meth c A ls hx hb hr hml hts hown hlocks hAe C0 hP hD hS hl
  have hown : s.vm.findClass RX3 = some m.cls := hown
  have hl : lv_has ls 3 [(0, .int x9), (1, .int lo), (2, .int hi)] := hl
  obtain ⟨H, hHe⟩ : ∃ z, z = s.heap := ⟨_, rfl⟩
  obtain ⟨locs, hLe⟩ : ∃ z : List Loc, z = [] := ⟨_, rfl⟩
  have hP : va_P E.1 vwCl [] H := by rw [hHe]; exact hP
  have hD : va_D A [] := hD
  have hS : va_S A s.heap H locs := by rw [hHe, hLe]; exact hS
  suffices hgo : W p l e _ s m _ below meth c H locs 0 0 _ (F0 m 0 ls []) by rw [hHe, hLe] at hgo; exact hgo
  clear hHe hLe
  refine lv_iload_n hx hb dX3_needRange_0 rfl (lv_at hl 0 rfl) ?_
  refine lv_iload_n hx hb dX3_needRange_1 rfl (lv_at hl 1 rfl) ?_
  refine lv_icmp_lt (tgt := 10) hx hb dX3_needRange_2 (by decide) (fun c_1 => ?_) (fun c_1 => ?_)
  · skip
    exact thX (ik := 133) (is := 192) (ic := 137) (xn := xA) (text := "an argument out of its range") (rfl) hx hb hst hown (hts (.classLink RX3 133 xA) (by decide +kernel)) (hts (.initialized xA) (by decide +kernel)) (fun w h => hts w (List.mem_cons_of_mem _ (List.mem_append_right _ h))) (by decide +kernel) (by decide +kernel) (by decide +kernel) (by decide +kernel) (by decide +kernel) (C0.2.2.2.1.2.2.2.1 (192, "an argument out of its range") (by decide +kernel)) hr hlocks hAe C0 hP hD hS (hl.1.trans hml.symm) dX3_needRange_10 dX3_needRange_13 dX3_needRange_14 dX3_needRange_16 dX3_needRange_19 (Nat.le_of_ble_eq_true rfl) (Nat.le_of_ble_eq_true rfl) (Nat.le_of_ble_eq_true rfl) (Nat.le_of_ble_eq_true rfl)
  · skip
    refine lv_iload_n hx hb dX3_needRange_5 rfl (lv_at hl 0 rfl) ?_
    refine lv_iload_n hx hb dX3_needRange_6 rfl (lv_at hl 2 rfl) ?_
    refine lv_icmp_le (tgt := 20) hx hb dX3_needRange_7 (by decide) (fun c_2 => ?_) (fun c_2 => ?_)
    · skip
      exact absurd ⟨Int32.not_lt.mp c_1, c_2⟩ h
    · skip
      exact thX (ik := 133) (is := 192) (ic := 137) (xn := xA) (text := "an argument out of its range") (rfl) hx hb hst hown (hts (.classLink RX3 133 xA) (by decide +kernel)) (hts (.initialized xA) (by decide +kernel)) (fun w h => hts w (List.mem_cons_of_mem _ (List.mem_append_right _ h))) (by decide +kernel) (by decide +kernel) (by decide +kernel) (by decide +kernel) (by decide +kernel) (C0.2.2.2.1.2.2.2.1 (192, "an argument out of its range") (by decide +kernel)) hr hlocks hAe C0 hP hD hS (hl.1.trans hml.symm) dX3_needRange_10 dX3_needRange_13 dX3_needRange_14 dX3_needRange_16 dX3_needRange_19 (Nat.le_of_ble_eq_true rfl) (Nat.le_of_ble_eq_true rfl) (Nat.le_of_ble_eq_true rfl) (Nat.le_of_ble_eq_true rfl)

set_option maxHeartbeats 4000000 in
set_option maxRecDepth 100000 in
theorem c_needPart (l : Launch) (E : EnvT) (sz : Nat) (xp : Int32) (aO aLg aDa aKs lst : Nat) (aLy aK aX aY aF aS aL n : Nat) (h : nI 0 ≤ xp ∧ xp ≤ cL n) (hn : n ≤ 16) : MV l yX3_needPart wsX3_needPart ({ frames := 0, cells := 0, slots := 0, locals := 0 }) E sz [.ref aO, .int xp] [(aO, o3 aLy aLg aDa aKs (nI lst)), (aLy, o0 (nI n) aK aX aY aF aS aL)] (fun _ : Unit => True) (fun _ => [(aO, o3 aLy aLg aDa aKs (nI lst)), (aLy, o0 (nI n) aK aX aY aF aS aL)]) := by
  refine enV (cc := cX3_needPart) (maxL := 2) (by decide +kernel) rfl (Nat.le_of_ble_eq_true rfl) ?_
  intro p e s m below meth c A ls hx hb hr hml hts hown hlocks hAe C0 hP hD hS hl
  have hown : s.vm.findClass RX3 = some m.cls := hown
  have hl : lv_has ls 2 [(0, .ref aO), (1, .int xp)] := hl
  have iX0 : ∀ w ∈ u_ws RX0 TX0 7, w ∈ wsX3_needPart := by decide +kernel
  have iX3 : ∀ w ∈ u_ws RX3 TX3 5, w ∈ wsX3_needPart := by decide +kernel
  obtain ⟨H, hHe⟩ : ∃ z, z = s.heap := ⟨_, rfl⟩
  obtain ⟨locs, hLe⟩ : ∃ z : List Loc, z = [] := ⟨_, rfl⟩
  have hP : va_P E.1 vwCl [(aO, o3 aLy aLg aDa aKs (nI lst)), (aLy, o0 (nI n) aK aX aY aF aS aL)] H := by rw [hHe]; exact hP
  have hD : va_D A [(aO, o3 aLy aLg aDa aKs (nI lst)), (aLy, o0 (nI n) aK aX aY aF aS aL)] := hD
  have hS : va_S A s.heap H locs := by rw [hHe, hLe]; exact hS
  suffices hgo : W p l e _ s m _ below meth c H locs 0 0 _ (F0 m 0 ls []) by rw [hHe, hLe] at hgo; exact hgo
  clear hHe hLe
  have hpi := (pI_iff (by omega)).mp h
  refine lv_iload_n hx hb dX3_needPart_0 rfl (lv_at hl 1 rfl) ?_
  refine lv_if_lt (tgt := 15) hx hb dX3_needPart_1 (by decide) (fun c_1 => ?_) (fun c_1 => ?_)
  · skip
    exact absurd c_1 (hpi.1)
  · skip
    refine lv_iload_n hx hb dX3_needPart_4 rfl (lv_at hl 1 rfl) ?_
    refine lv_aload_n hx hb dX3_needPart_5 rfl (lv_at hl 0 rfl) ?_
    refine va_get (D := E.1) (ci := 3) (v := .ref aLy) (C := RX3) (T := TX3) (N := 5) hx hb hts iX3 hown C0.1 hP 0 rfl rfl 0 (by decide) (hts (.fieldLink RX3 10 "Ringresonance" "layout" "LRingresonance$Layout;") (by decide +kernel)) (fun _ h9 => h9) rfl dX3_needPart_6 ?_
    refine va_get (D := E.1) (ci := 0) (v := .int (nI n)) (C := RX0) (T := TX0) (N := 7) hx hb hts iX0 hown C0.1 hP 1 rfl rfl 0 (by decide) (hts (.fieldLink RX3 59 "Ringresonance$Layout" "count" "I") (by decide +kernel)) (fun _ h9 => h9) rfl dX3_needPart_9 ?_
    refine lv_icmp_lt (tgt := 25) hx hb dX3_needPart_12 (by decide) (fun c_2 => ?_) (fun c_2 => ?_)
    · skip
      exact exV hx hb hr hlocks hAe hS () trivial hP hD dX3_needPart_25
    · skip
      exact absurd hpi.2 c_2

set_option maxHeartbeats 4000000 in
set_option maxRecDepth 100000 in
theorem x_needPart (l : Launch) (E : EnvT) (sz : Nat) (xp : Int32) (aO aLg aDa aKs lst : Nat) (aLy aK aX aY aF aS aL n : Nat) (h : ¬ (nI 0 ≤ xp ∧ xp ≤ cL n)) (hn : n ≤ 16) (hst : l.stackTraces = false) : MX l yX3_needPart wsX3_needPart ({ frames := 6, cells := 1, slots := 6, locals := 82 }) E sz [.ref aO, .int xp] [(aO, o3 aLy aLg aDa aKs (nI lst)), (aLy, o0 (nI n) aK aX aY aF aS aL)] xI := by
  refine enX (cc := cX3_needPart) (maxL := 2) (ret := none) (by decide +kernel) rfl (Nat.le_of_ble_eq_true rfl) ?_
  intro p e s m below meth c A ls hx hb hr hml hts hown hlocks hAe C0 hP hD hS hl
  have hown : s.vm.findClass RX3 = some m.cls := hown
  have hl : lv_has ls 2 [(0, .ref aO), (1, .int xp)] := hl
  have iX0 : ∀ w ∈ u_ws RX0 TX0 7, w ∈ wsX3_needPart := by decide +kernel
  have iX3 : ∀ w ∈ u_ws RX3 TX3 5, w ∈ wsX3_needPart := by decide +kernel
  obtain ⟨H, hHe⟩ : ∃ z, z = s.heap := ⟨_, rfl⟩
  obtain ⟨locs, hLe⟩ : ∃ z : List Loc, z = [] := ⟨_, rfl⟩
  have hP : va_P E.1 vwCl [(aO, o3 aLy aLg aDa aKs (nI lst)), (aLy, o0 (nI n) aK aX aY aF aS aL)] H := by rw [hHe]; exact hP
  have hD : va_D A [(aO, o3 aLy aLg aDa aKs (nI lst)), (aLy, o0 (nI n) aK aX aY aF aS aL)] := hD
  have hS : va_S A s.heap H locs := by rw [hHe, hLe]; exact hS
  suffices hgo : W p l e _ s m _ below meth c H locs 0 0 _ (F0 m 0 ls []) by rw [hHe, hLe] at hgo; exact hgo
  clear hHe hLe
  refine lv_iload_n hx hb dX3_needPart_0 rfl (lv_at hl 1 rfl) ?_
  refine lv_if_lt (tgt := 15) hx hb dX3_needPart_1 (by decide) (fun c_1 => ?_) (fun c_1 => ?_)
  · skip
    exact thX (ik := 175) (is := 177) (ic := 179) (xn := xI) (text := "no such part") (rfl) hx hb hst hown (hts (.classLink RX3 175 xI) (by decide +kernel)) (hts (.initialized xI) (by decide +kernel)) (fun w h => hts w (List.mem_cons_of_mem _ (List.mem_append_right _ h))) (by decide +kernel) (by decide +kernel) (by decide +kernel) (by decide +kernel) (by decide +kernel) (C0.2.2.2.1.2.2.2.1 (177, "no such part") (by decide +kernel)) hr hlocks hAe C0 hP hD hS (hl.1.trans hml.symm) dX3_needPart_15 dX3_needPart_18 dX3_needPart_19 dX3_needPart_21 dX3_needPart_24 (Nat.le_of_ble_eq_true rfl) (Nat.le_of_ble_eq_true rfl) (Nat.le_of_ble_eq_true rfl) (Nat.le_of_ble_eq_true rfl)
  · skip
    refine lv_iload_n hx hb dX3_needPart_4 rfl (lv_at hl 1 rfl) ?_
    refine lv_aload_n hx hb dX3_needPart_5 rfl (lv_at hl 0 rfl) ?_
    refine va_get (D := E.1) (ci := 3) (v := .ref aLy) (C := RX3) (T := TX3) (N := 5) hx hb hts iX3 hown C0.1 hP 0 rfl rfl 0 (by decide) (hts (.fieldLink RX3 10 "Ringresonance" "layout" "LRingresonance$Layout;") (by decide +kernel)) (fun _ h9 => h9) rfl dX3_needPart_6 ?_
    refine va_get (D := E.1) (ci := 0) (v := .int (nI n)) (C := RX0) (T := TX0) (N := 7) hx hb hts iX0 hown C0.1 hP 1 rfl rfl 0 (by decide) (hts (.fieldLink RX3 59 "Ringresonance$Layout" "count" "I") (by decide +kernel)) (fun _ h9 => h9) rfl dX3_needPart_9 ?_
    refine lv_icmp_lt (tgt := 25) hx hb dX3_needPart_12 (by decide) (fun c_2 => ?_) (fun c_2 => ?_)
    · skip
      exact absurd ((pI_iff (by omega)).mpr ⟨c_1, c_2⟩) h
    · skip
      exact thX (ik := 175) (is := 177) (ic := 179) (xn := xI) (text := "no such part") (rfl) hx hb hst hown (hts (.classLink RX3 175 xI) (by decide +kernel)) (hts (.initialized xI) (by decide +kernel)) (fun w h => hts w (List.mem_cons_of_mem _ (List.mem_append_right _ h))) (by decide +kernel) (by decide +kernel) (by decide +kernel) (by decide +kernel) (by decide +kernel) (C0.2.2.2.1.2.2.2.1 (177, "no such part") (by decide +kernel)) hr hlocks hAe C0 hP hD hS (hl.1.trans hml.symm) dX3_needPart_15 dX3_needPart_18 dX3_needPart_19 dX3_needPart_21 dX3_needPart_24 (Nat.le_of_ble_eq_true rfl) (Nat.le_of_ble_eq_true rfl) (Nat.le_of_ble_eq_true rfl) (Nat.le_of_ble_eq_true rfl)

set_option maxHeartbeats 4000000 in
set_option maxRecDepth 100000 in
theorem c_needKind (l : Launch) (E : EnvT) (sz : Nat) (pt kq : Nat) (aO aLg aDa aKs lst : Nat) (aLy aK aX aY aF aS aL n : Nat) (kd : Nat → Nat) (h : kd pt = kq) (hp : pt < 16) (hk : kd pt ≤ 5) (hq : kq ≤ 5) : MV l yX3_needKind wsX3_needKind ({ frames := 0, cells := 0, slots := 0, locals := 0 }) E sz [.ref aO, .int (nI pt), .int (nI kq)] [(aO, o3 aLy aLg aDa aKs (nI lst)), (aLy, o0 (nI n) aK aX aY aF aS aL), (aK, ia E nI 16 kd)] (fun _ : Unit => True) (fun _ => [(aO, o3 aLy aLg aDa aKs (nI lst)), (aLy, o0 (nI n) aK aX aY aF aS aL), (aK, ia E nI 16 kd)]) := by
  refine enV (cc := cX3_needKind) (maxL := 3) (by decide +kernel) rfl (Nat.le_of_ble_eq_true rfl) ?_
  intro p e s m below meth c A ls hx hb hr hml hts hown hlocks hAe C0 hP hD hS hl
  have hown : s.vm.findClass RX3 = some m.cls := hown
  have hl : lv_has ls 3 [(0, .ref aO), (1, .int (nI pt)), (2, .int (nI kq))] := hl
  have iX0 : ∀ w ∈ u_ws RX0 TX0 7, w ∈ wsX3_needKind := by decide +kernel
  have iX3 : ∀ w ∈ u_ws RX3 TX3 5, w ∈ wsX3_needKind := by decide +kernel
  obtain ⟨H, hHe⟩ : ∃ z, z = s.heap := ⟨_, rfl⟩
  obtain ⟨locs, hLe⟩ : ∃ z : List Loc, z = [] := ⟨_, rfl⟩
  have hP : va_P E.1 vwCl [(aO, o3 aLy aLg aDa aKs (nI lst)), (aLy, o0 (nI n) aK aX aY aF aS aL), (aK, ia E nI 16 kd)] H := by rw [hHe]; exact hP
  have hD : va_D A [(aO, o3 aLy aLg aDa aKs (nI lst)), (aLy, o0 (nI n) aK aX aY aF aS aL), (aK, ia E nI 16 kd)] := hD
  have hS : va_S A s.heap H locs := by rw [hHe, hLe]; exact hS
  suffices hgo : W p l e _ s m _ below meth c H locs 0 0 _ (F0 m 0 ls []) by rw [hHe, hLe] at hgo; exact hgo
  clear hHe hLe
  refine lv_aload_n hx hb dX3_needKind_0 rfl (lv_at hl 0 rfl) ?_
  refine va_get (D := E.1) (ci := 3) (v := .ref aLy) (C := RX3) (T := TX3) (N := 5) hx hb hts iX3 hown C0.1 hP 0 rfl rfl 0 (by decide) (hts (.fieldLink RX3 10 "Ringresonance" "layout" "LRingresonance$Layout;") (by decide +kernel)) (fun _ h9 => h9) rfl dX3_needKind_1 ?_
  refine va_get (D := E.1) (ci := 0) (v := .ref aK) (C := RX0) (T := TX0) (N := 7) hx hb hts iX0 hown C0.1 hP 1 rfl rfl 1 (by decide) (hts (.fieldLink RX3 77 "Ringresonance$Layout" "kinds" "[I") (by decide +kernel)) (fun _ h9 => h9) rfl dX3_needKind_4 ?_
  refine lv_iload_n hx hb dX3_needKind_7 rfl (lv_at hl 1 rfl) ?_
  refine k_iald (e := pt) (g := nI) (n := 16) hx hb C0 hP 2 rfl (by omega) (by omega) dX3_needKind_8 ?_
  refine lv_iload_n hx hb dX3_needKind_9 rfl (lv_at hl 2 rfl) ?_
  refine lv_icmp_eq (tgt := 23) hx hb dX3_needKind_10 (by decide) (fun c_1 => ?_) (fun c_1 => ?_)
  · skip
    have c_1 : (kd pt) = kq := (ci_eq (by omega) (by omega)).mp c_1
    exact exV hx hb hr hlocks hAe hS () trivial hP hD dX3_needKind_23
  · skip
    have c_1 : ¬ ((kd pt) = kq) := fun h => c_1 ((ci_eq (by omega) (by omega)).mpr h)
    exact absurd h c_1

set_option maxHeartbeats 4000000 in
set_option maxRecDepth 100000 in
theorem x_needKind (l : Launch) (E : EnvT) (sz : Nat) (pt kq : Nat) (aO aLg aDa aKs lst : Nat) (aLy aK aX aY aF aS aL n : Nat) (kd : Nat → Nat) (h : ¬ (kd pt = kq)) (hp : pt < 16) (hk : kd pt ≤ 5) (hq : kq ≤ 5) (hst : l.stackTraces = false) : MX l yX3_needKind wsX3_needKind ({ frames := 6, cells := 1, slots := 6, locals := 82 }) E sz [.ref aO, .int (nI pt), .int (nI kq)] [(aO, o3 aLy aLg aDa aKs (nI lst)), (aLy, o0 (nI n) aK aX aY aF aS aL), (aK, ia E nI 16 kd)] xS := by
  refine enX (cc := cX3_needKind) (maxL := 3) (ret := none) (by decide +kernel) rfl (Nat.le_of_ble_eq_true rfl) ?_
  intro p e s m below meth c A ls hx hb hr hml hts hown hlocks hAe C0 hP hD hS hl
  have hown : s.vm.findClass RX3 = some m.cls := hown
  have hl : lv_has ls 3 [(0, .ref aO), (1, .int (nI pt)), (2, .int (nI kq))] := hl
  have iX0 : ∀ w ∈ u_ws RX0 TX0 7, w ∈ wsX3_needKind := by decide +kernel
  have iX3 : ∀ w ∈ u_ws RX3 TX3 5, w ∈ wsX3_needKind := by decide +kernel
  obtain ⟨H, hHe⟩ : ∃ z, z = s.heap := ⟨_, rfl⟩
  obtain ⟨locs, hLe⟩ : ∃ z : List Loc, z = [] := ⟨_, rfl⟩
  have hP : va_P E.1 vwCl [(aO, o3 aLy aLg aDa aKs (nI lst)), (aLy, o0 (nI n) aK aX aY aF aS aL), (aK, ia E nI 16 kd)] H := by rw [hHe]; exact hP
  have hD : va_D A [(aO, o3 aLy aLg aDa aKs (nI lst)), (aLy, o0 (nI n) aK aX aY aF aS aL), (aK, ia E nI 16 kd)] := hD
  have hS : va_S A s.heap H locs := by rw [hHe, hLe]; exact hS
  suffices hgo : W p l e _ s m _ below meth c H locs 0 0 _ (F0 m 0 ls []) by rw [hHe, hLe] at hgo; exact hgo
  clear hHe hLe
  refine lv_aload_n hx hb dX3_needKind_0 rfl (lv_at hl 0 rfl) ?_
  refine va_get (D := E.1) (ci := 3) (v := .ref aLy) (C := RX3) (T := TX3) (N := 5) hx hb hts iX3 hown C0.1 hP 0 rfl rfl 0 (by decide) (hts (.fieldLink RX3 10 "Ringresonance" "layout" "LRingresonance$Layout;") (by decide +kernel)) (fun _ h9 => h9) rfl dX3_needKind_1 ?_
  refine va_get (D := E.1) (ci := 0) (v := .ref aK) (C := RX0) (T := TX0) (N := 7) hx hb hts iX0 hown C0.1 hP 1 rfl rfl 1 (by decide) (hts (.fieldLink RX3 77 "Ringresonance$Layout" "kinds" "[I") (by decide +kernel)) (fun _ h9 => h9) rfl dX3_needKind_4 ?_
  refine lv_iload_n hx hb dX3_needKind_7 rfl (lv_at hl 1 rfl) ?_
  refine k_iald (e := pt) (g := nI) (n := 16) hx hb C0 hP 2 rfl (by omega) (by omega) dX3_needKind_8 ?_
  refine lv_iload_n hx hb dX3_needKind_9 rfl (lv_at hl 2 rfl) ?_
  refine lv_icmp_eq (tgt := 23) hx hb dX3_needKind_10 (by decide) (fun c_1 => ?_) (fun c_1 => ?_)
  · skip
    have c_1 : (kd pt) = kq := (ci_eq (by omega) (by omega)).mp c_1
    exact absurd c_1 h
  · skip
    have c_1 : ¬ ((kd pt) = kq) := fun h => c_1 ((ci_eq (by omega) (by omega)).mpr h)
    exact thX (ik := 62) (is := 190) (ic := 66) (xn := xS) (text := "a part of another kind") (rfl) hx hb hst hown (hts (.classLink RX3 62 xS) (by decide +kernel)) (hts (.initialized xS) (by decide +kernel)) (fun w h => hts w (List.mem_cons_of_mem _ (List.mem_append_right _ h))) (by decide +kernel) (by decide +kernel) (by decide +kernel) (by decide +kernel) (by decide +kernel) (C0.2.2.2.1.2.2.2.1 (190, "a part of another kind") (by decide +kernel)) hr hlocks hAe C0 hP hD hS (hl.1.trans hml.symm) dX3_needKind_13 dX3_needKind_16 dX3_needKind_17 dX3_needKind_19 dX3_needKind_22 (Nat.le_of_ble_eq_true rfl) (Nat.le_of_ble_eq_true rfl) (Nat.le_of_ble_eq_true rfl) (Nat.le_of_ble_eq_true rfl)

set_option maxHeartbeats 4000000 in
set_option maxRecDepth 100000 in
theorem c_ofKind (l : Launch) (E : EnvT) (sz : Nat) (kt kk : Nat) (ht9 : kt < 5) (hk9 : kk < 6) : MI l yX3_ofKind wsX3_ofKind ({ frames := 0, cells := 0, slots := 0, locals := 0 }) E sz [.ref (eT E kt), .int (nI kk)] [] (fun (r : Int32) (_ : Unit) => r = nI (stV kt kk)) (fun _ => []) := by
  refine enI (cc := cX3_ofKind) (maxL := 2) (ret := .int) (by decide +kernel) rfl (Nat.le_of_ble_eq_true rfl) ?_
  intro p e s m below meth c A ls hx hb hr hml hts hown hlocks hAe C0 hP hD hS hl
  have hown : s.vm.findClass RX3 = some m.cls := hown
  have hl : lv_has ls 2 [(0, .ref (eT E kt)), (1, .int (nI kk))] := hl
  obtain ⟨H, hHe⟩ : ∃ z, z = s.heap := ⟨_, rfl⟩
  obtain ⟨locs, hLe⟩ : ∃ z : List Loc, z = [] := ⟨_, rfl⟩
  have hP : va_P E.1 vwCl [] H := by rw [hHe]; exact hP
  have hD : va_D A [] := hD
  have hS : va_S A s.heap H locs := by rw [hHe, hLe]; exact hS
  suffices hgo : W p l e _ s m _ below meth c H locs 0 0 _ (F0 m 0 ls []) by rw [hHe, hLe] at hgo; exact hgo
  clear hHe hLe
  refine lv_iload_n hx hb dX3_ofKind_0 rfl (lv_at hl 1 rfl) ?_
  refine lv_if_lt (tgt := 16) hx hb dX3_ofKind_1 (by decide) (fun c_1 => ?_) (fun c_1 => ?_)
  · skip
    have c_1 : kk < 0 := (ci0_lt (by omega)).mp c_1
    exact absurd c_1 (by omega)
  · skip
    have c_1 : ¬ (kk < 0) := fun h => c_1 ((ci0_lt (by omega)).mpr h)
    refine lv_iload_n hx hb dX3_ofKind_4 rfl (lv_at hl 1 rfl) ?_
    refine lv_aload_n hx hb dX3_ofKind_5 rfl (lv_at hl 0 rfl) ?_
    refine k_slen (k := kt) hx hb C0 hS (by omega) dX3_ofKind_6 ?_
    refine lv_icmp_ge (tgt := 16) hx hb dX3_ofKind_7 (by decide) (fun c_2 => ?_) (fun c_2 => ?_)
    · skip
      have c_2 : 6 ≤ kk := (ci_ge (by omega) (by omega)).mp c_2
      exact absurd c_2 (by omega)
    · skip
      have c_2 : ¬ (6 ≤ kk) := fun h => c_2 ((ci_ge (by omega) (by omega)).mpr h)
      refine lv_aload_n hx hb dX3_ofKind_10 rfl (lv_at hl 0 rfl) ?_
      refine lv_iload_n hx hb dX3_ofKind_11 rfl (lv_at hl 1 rfl) ?_
      refine k_sti (k := kt) (j := kk) hx hb C0 hS (by omega) (by omega) dX3_ofKind_12 ?_
      refine lv_goto (tgt := 17) hx hb dX3_ofKind_13 (by decide) ?_
      have q_3 : (nI (stV kt kk)) = (nI (stV kt kk)) := rfl
      exact exI hx hb hr hlocks hAe hS () q_3 hP hD dX3_ofKind_17

set_option maxHeartbeats 4000000 in
set_option maxRecDepth 100000 in
theorem c_needOutput (l : Launch) (E : EnvT) (sz : Nat) (xp xo : Int32) (aO aLg aDa aKs lst : Nat) (aLy aK aX aY aF aS aL n : Nat) (kd : Nat → Nat) (h : (nI 0 ≤ xp ∧ xp ≤ cL n) ∧ (nI 0 ≤ xo ∧ xo ≤ cL (stV 1 (kd (tN xp))))) (hn : n ≤ 16) (hk : ∀ j, j < n → kd j ≤ 5) : MV l yX3_needOutput wsX3_needOutput ({ frames := 1, cells := 0, slots := 0, locals := 21 }) E sz [.ref aO, .int xp, .int xo] [(aO, o3 aLy aLg aDa aKs (nI lst)), (aLy, o0 (nI n) aK aX aY aF aS aL), (aK, ia E nI 16 kd)] (fun _ : Unit => True) (fun _ => [(aO, o3 aLy aLg aDa aKs (nI lst)), (aLy, o0 (nI n) aK aX aY aF aS aL), (aK, ia E nI 16 kd)]) := by
  refine enV (cc := cX3_needOutput) (maxL := 3) (by decide +kernel) rfl (Nat.le_of_ble_eq_true rfl) ?_
  intro p e s m below meth c A ls hx hb hr hml hts hown hlocks hAe C0 hP hD hS hl
  have hown : s.vm.findClass RX3 = some m.cls := hown
  have hl : lv_has ls 3 [(0, .ref aO), (1, .int xp), (2, .int xo)] := hl
  have iX0 : ∀ w ∈ u_ws RX0 TX0 7, w ∈ wsX3_needOutput := by decide +kernel
  have iX3 : ∀ w ∈ u_ws RX3 TX3 5, w ∈ wsX3_needOutput := by decide +kernel
  obtain ⟨H, hHe⟩ : ∃ z, z = s.heap := ⟨_, rfl⟩
  obtain ⟨locs, hLe⟩ : ∃ z : List Loc, z = [] := ⟨_, rfl⟩
  have hP : va_P E.1 vwCl [(aO, o3 aLy aLg aDa aKs (nI lst)), (aLy, o0 (nI n) aK aX aY aF aS aL), (aK, ia E nI 16 kd)] H := by rw [hHe]; exact hP
  have hD : va_D A [(aO, o3 aLy aLg aDa aKs (nI lst)), (aLy, o0 (nI n) aK aX aY aF aS aL), (aK, ia E nI 16 kd)] := hD
  have hS : va_S A s.heap H locs := by rw [hHe, hLe]; exact hS
  suffices hgo : W p l e _ s m _ below meth c H locs 0 0 _ (F0 m 0 ls []) by rw [hHe, hLe] at hgo; exact hgo
  clear hHe hLe
  obtain ⟨hP9, hO9⟩ := h
  have htn := cL_le (by omega) hP9
  have hkk := hk _ htn
  have hsv := stV1_le hkk
  have hpi := (pI_iff (by omega)).mp hO9
  refine lv_aload_n hx hb dX3_needOutput_0 rfl (lv_at hl 0 rfl) ?_
  refine lv_iload_n hx hb dX3_needOutput_1 rfl (lv_at hl 1 rfl) ?_
  have hPc := hP.pick (ws' := [(aO, o3 aLy aLg aDa aKs (nI lst)), (aLy, o0 (nI n) aK aX aY aF aS aL)]) [0, 1] rfl
  have hDc := hD.sub (ws' := [(aO, o3 aLy aLg aDa aKs (nI lst)), (aLy, o0 (nI n) aK aX aY aF aS aL)]) [0, 1] (by decide) rfl
  refine kcV (wr := [(aK, ia E nI 16 kd)]) (w1 := fun _ : Unit => [(aO, o3 aLy aLg aDa aKs (nI lst)), (aLy, o0 (nI n) aK aX aY aF aS aL)]) (w2 := fun _ => [(aO, o3 aLy aLg aDa aKs (nI lst)), (aLy, o0 (nI n) aK aX aY aF aS aL), (aK, ia E nI 16 kd)]) (va_runV (As := [.int xp]) (rest := []) ⟨hx, hb, hml, hown, hts⟩ (c_needPart l E H.size xp aO aLg aDa aKs lst aLy aK aX aY aF aS aL n hP9 (hn)) (cwV 1 hts gX3_needOutput_X3_needPart rfl rfl rfl (by decide +kernel) ⟨Nat.le_of_ble_eq_true rfl, Nat.le_of_ble_eq_true rfl⟩) (preV C0 hPc hDc hS 0 rfl rfl) rfl rfl hl.1 rfl (lv_room (Nat.le_of_ble_eq_true rfl)) dX3_needOutput_2 ⟨Nat.le_refl _, Nat.le_refl _⟩) C0 hP hD hS [0, 1] [2] [1, 2, 0] rfl rfl (by decide) (by decide) (fun _ => rfl) (by decide) (fun _u H locs _hw hP hD hS => ?_)
  have hP : va_P E.1 vwCl [(aO, o3 aLy aLg aDa aKs (nI lst)), (aLy, o0 (nI n) aK aX aY aF aS aL), (aK, ia E nI 16 kd)] H := hP
  have hD : va_D A [(aO, o3 aLy aLg aDa aKs (nI lst)), (aLy, o0 (nI n) aK aX aY aF aS aL), (aK, ia E nI 16 kd)] := hD
  refine lv_iload_n hx hb dX3_needOutput_5 rfl (lv_at hl 2 rfl) ?_
  refine lv_if_lt (tgt := 28) hx hb dX3_needOutput_6 (by decide) (fun c_1 => ?_) (fun c_1 => ?_)
  · skip
    exact absurd c_1 (hpi.1)
  · skip
    refine lv_iload_n hx hb dX3_needOutput_9 rfl (lv_at hl 2 rfl) ?_
    refine k_gets (k := 1) hx hb C0 hS hown (by decide) (hts (.fieldLink RX3 180 "Ringresonance" "OUTPUTS" "[I") (by decide +kernel)) dX3_needOutput_10 ?_
    refine lv_aload_n hx hb dX3_needOutput_13 rfl (lv_at hl 0 rfl) ?_
    refine va_get (D := E.1) (ci := 3) (v := .ref aLy) (C := RX3) (T := TX3) (N := 5) hx hb hts iX3 hown C0.1 hP 0 rfl rfl 0 (by decide) (hts (.fieldLink RX3 10 "Ringresonance" "layout" "LRingresonance$Layout;") (by decide +kernel)) (fun _ h9 => h9) rfl dX3_needOutput_14 ?_
    refine va_get (D := E.1) (ci := 0) (v := .ref aK) (C := RX0) (T := TX0) (N := 7) hx hb hts iX0 hown C0.1 hP 1 rfl rfl 1 (by decide) (hts (.fieldLink RX3 77 "Ringresonance$Layout" "kinds" "[I") (by decide +kernel)) (fun _ h9 => h9) rfl dX3_needOutput_17 ?_
    refine lv_iload_n hx hb dX3_needOutput_20 rfl (lv_at hl 1 rfl) ?_
    refine lv_ri (y := (nI (tN xp))) (tN_eq hP9) ?_
    refine k_iald (e := (tN xp)) (g := nI) (n := 16) hx hb C0 hP 2 rfl (by omega) (by omega) dX3_needOutput_21 ?_
    have hPc := hP.pick (ws' := []) [] rfl
    have hDc := hD.sub (ws' := []) [] (by decide) rfl
    refine kcI (wr := [(aO, o3 aLy aLg aDa aKs (nI lst)), (aLy, o0 (nI n) aK aX aY aF aS aL), (aK, ia E nI 16 kd)]) (w1 := fun _ : Unit => []) (w2 := fun _ => [(aO, o3 aLy aLg aDa aKs (nI lst)), (aLy, o0 (nI n) aK aX aY aF aS aL), (aK, ia E nI 16 kd)]) (va_runS (As := [.ref (eT E 1), .int (nI (kd (tN xp)))]) (rest := [.int xo]) ⟨hx, hb, hml, hown, hts⟩ (c_ofKind l E H.size 1 (kd (tN xp)) (by decide) (by omega)) (va_cwS 2 hts gX3_needOutput_X3_ofKind rfl rfl rfl (by decide +kernel) ⟨Nat.le_of_ble_eq_true rfl, Nat.le_of_ble_eq_true rfl⟩) (preS C0 hPc hDc hS) rfl rfl hl.1 rfl (lv_room (Nat.le_of_ble_eq_true rfl)) dX3_needOutput_22 ⟨Nat.le_refl _, Nat.le_refl _⟩) C0 hP hD hS [] [0, 1, 2] [0, 1, 2] rfl rfl (by decide) (by decide) (fun _ => rfl) (by decide) (fun r_9 _u H locs hw hP hD hS => ?_)
    have hP : va_P E.1 vwCl [(aO, o3 aLy aLg aDa aKs (nI lst)), (aLy, o0 (nI n) aK aX aY aF aS aL), (aK, ia E nI 16 kd)] H := hP
    have hD : va_D A [(aO, o3 aLy aLg aDa aKs (nI lst)), (aLy, o0 (nI n) aK aX aY aF aS aL), (aK, ia E nI 16 kd)] := hD
    have hw : r_9 = nI (stV 1 (kd (tN xp))) := hw
    subst hw
    refine lv_icmp_lt (tgt := 38) hx hb dX3_needOutput_25 (by decide) (fun c_2 => ?_) (fun c_2 => ?_)
    · skip
      exact exV hx hb hr hlocks hAe hS () trivial hP hD dX3_needOutput_38
    · skip
      exact absurd hpi.2 c_2

set_option maxHeartbeats 4000000 in
set_option maxRecDepth 100000 in
theorem x_needOutput (l : Launch) (E : EnvT) (sz : Nat) (xp xo : Int32) (aO aLg aDa aKs lst : Nat) (aLy aK aX aY aF aS aL n : Nat) (kd : Nat → Nat) (h : ¬ ((nI 0 ≤ xp ∧ xp ≤ cL n) ∧ (nI 0 ≤ xo ∧ xo ≤ cL (stV 1 (kd (tN xp)))))) (hn : n ≤ 16) (hk : ∀ j, j < n → kd j ≤ 5) (hst : l.stackTraces = false) : MX l yX3_needOutput wsX3_needOutput ({ frames := 7, cells := 1, slots := 6, locals := 103 }) E sz [.ref aO, .int xp, .int xo] [(aO, o3 aLy aLg aDa aKs (nI lst)), (aLy, o0 (nI n) aK aX aY aF aS aL), (aK, ia E nI 16 kd)] xI := by
  refine enX (cc := cX3_needOutput) (maxL := 3) (ret := none) (by decide +kernel) rfl (Nat.le_of_ble_eq_true rfl) ?_
  intro p e s m below meth c A ls hx hb hr hml hts hown hlocks hAe C0 hP hD hS hl
  have hown : s.vm.findClass RX3 = some m.cls := hown
  have hl : lv_has ls 3 [(0, .ref aO), (1, .int xp), (2, .int xo)] := hl
  have iX0 : ∀ w ∈ u_ws RX0 TX0 7, w ∈ wsX3_needOutput := by decide +kernel
  have iX3 : ∀ w ∈ u_ws RX3 TX3 5, w ∈ wsX3_needOutput := by decide +kernel
  obtain ⟨H, hHe⟩ : ∃ z, z = s.heap := ⟨_, rfl⟩
  obtain ⟨locs, hLe⟩ : ∃ z : List Loc, z = [] := ⟨_, rfl⟩
  have hP : va_P E.1 vwCl [(aO, o3 aLy aLg aDa aKs (nI lst)), (aLy, o0 (nI n) aK aX aY aF aS aL), (aK, ia E nI 16 kd)] H := by rw [hHe]; exact hP
  have hD : va_D A [(aO, o3 aLy aLg aDa aKs (nI lst)), (aLy, o0 (nI n) aK aX aY aF aS aL), (aK, ia E nI 16 kd)] := hD
  have hS : va_S A s.heap H locs := by rw [hHe, hLe]; exact hS
  suffices hgo : W p l e _ s m _ below meth c H locs 0 0 _ (F0 m 0 ls []) by rw [hHe, hLe] at hgo; exact hgo
  clear hHe hLe
  refine lv_aload_n hx hb dX3_needOutput_0 rfl (lv_at hl 0 rfl) ?_
  refine lv_iload_n hx hb dX3_needOutput_1 rfl (lv_at hl 1 rfl) ?_
  by_cases hP9 : nI 0 ≤ xp ∧ xp ≤ cL n
  · skip
    have htn := cL_le (by omega) hP9
    have hkk := hk _ htn
    have hsv := stV1_le hkk
    have hPc := hP.pick (ws' := [(aO, o3 aLy aLg aDa aKs (nI lst)), (aLy, o0 (nI n) aK aX aY aF aS aL)]) [0, 1] rfl
    have hDc := hD.sub (ws' := [(aO, o3 aLy aLg aDa aKs (nI lst)), (aLy, o0 (nI n) aK aX aY aF aS aL)]) [0, 1] (by decide) rfl
    refine kcV (wr := [(aK, ia E nI 16 kd)]) (w1 := fun _ : Unit => [(aO, o3 aLy aLg aDa aKs (nI lst)), (aLy, o0 (nI n) aK aX aY aF aS aL)]) (w2 := fun _ => [(aO, o3 aLy aLg aDa aKs (nI lst)), (aLy, o0 (nI n) aK aX aY aF aS aL), (aK, ia E nI 16 kd)]) (va_runV (As := [.int xp]) (rest := []) ⟨hx, hb, hml, hown, hts⟩ (c_needPart l E H.size xp aO aLg aDa aKs lst aLy aK aX aY aF aS aL n hP9 (hn)) (cwV 1 hts gX3_needOutput_X3_needPart rfl rfl rfl (by decide +kernel) ⟨Nat.le_of_ble_eq_true rfl, Nat.le_of_ble_eq_true rfl⟩) (preV C0 hPc hDc hS 0 rfl rfl) rfl rfl hl.1 rfl (lv_room (Nat.le_of_ble_eq_true rfl)) dX3_needOutput_2 ⟨Nat.le_of_ble_eq_true rfl, Nat.le_of_ble_eq_true rfl⟩) C0 hP hD hS [0, 1] [2] [1, 2, 0] rfl rfl (by decide) (by decide) (fun _ => rfl) (by decide) (fun _u H locs _hw hP hD hS => ?_)
    have hP : va_P E.1 vwCl [(aO, o3 aLy aLg aDa aKs (nI lst)), (aLy, o0 (nI n) aK aX aY aF aS aL), (aK, ia E nI 16 kd)] H := hP
    have hD : va_D A [(aO, o3 aLy aLg aDa aKs (nI lst)), (aLy, o0 (nI n) aK aX aY aF aS aL), (aK, ia E nI 16 kd)] := hD
    refine lv_iload_n hx hb dX3_needOutput_5 rfl (lv_at hl 2 rfl) ?_
    refine lv_if_lt (tgt := 28) hx hb dX3_needOutput_6 (by decide) (fun c_1 => ?_) (fun c_1 => ?_)
    · skip
      exact thX (ik := 175) (is := 183) (ic := 179) (xn := xI) (text := "no such output") (rfl) hx hb hst hown (hts (.classLink RX3 175 xI) (by decide +kernel)) (hts (.initialized xI) (by decide +kernel)) (fun w h => hts w (List.mem_cons_of_mem _ (List.mem_append_right _ h))) (by decide +kernel) (by decide +kernel) (by decide +kernel) (by decide +kernel) (by decide +kernel) (C0.2.2.2.1.2.2.2.1 (183, "no such output") (by decide +kernel)) hr hlocks hAe C0 hP hD hS (hl.1.trans hml.symm) dX3_needOutput_28 dX3_needOutput_31 dX3_needOutput_32 dX3_needOutput_34 dX3_needOutput_37 (Nat.le_of_ble_eq_true rfl) (Nat.le_of_ble_eq_true rfl) (Nat.le_of_ble_eq_true rfl) (Nat.le_of_ble_eq_true rfl)
    · skip
      refine lv_iload_n hx hb dX3_needOutput_9 rfl (lv_at hl 2 rfl) ?_
      refine k_gets (k := 1) hx hb C0 hS hown (by decide) (hts (.fieldLink RX3 180 "Ringresonance" "OUTPUTS" "[I") (by decide +kernel)) dX3_needOutput_10 ?_
      refine lv_aload_n hx hb dX3_needOutput_13 rfl (lv_at hl 0 rfl) ?_
      refine va_get (D := E.1) (ci := 3) (v := .ref aLy) (C := RX3) (T := TX3) (N := 5) hx hb hts iX3 hown C0.1 hP 0 rfl rfl 0 (by decide) (hts (.fieldLink RX3 10 "Ringresonance" "layout" "LRingresonance$Layout;") (by decide +kernel)) (fun _ h9 => h9) rfl dX3_needOutput_14 ?_
      refine va_get (D := E.1) (ci := 0) (v := .ref aK) (C := RX0) (T := TX0) (N := 7) hx hb hts iX0 hown C0.1 hP 1 rfl rfl 1 (by decide) (hts (.fieldLink RX3 77 "Ringresonance$Layout" "kinds" "[I") (by decide +kernel)) (fun _ h9 => h9) rfl dX3_needOutput_17 ?_
      refine lv_iload_n hx hb dX3_needOutput_20 rfl (lv_at hl 1 rfl) ?_
      refine lv_ri (y := (nI (tN xp))) (tN_eq hP9) ?_
      refine k_iald (e := (tN xp)) (g := nI) (n := 16) hx hb C0 hP 2 rfl (by omega) (by omega) dX3_needOutput_21 ?_
      have hPc := hP.pick (ws' := []) [] rfl
      have hDc := hD.sub (ws' := []) [] (by decide) rfl
      refine kcI (wr := [(aO, o3 aLy aLg aDa aKs (nI lst)), (aLy, o0 (nI n) aK aX aY aF aS aL), (aK, ia E nI 16 kd)]) (w1 := fun _ : Unit => []) (w2 := fun _ => [(aO, o3 aLy aLg aDa aKs (nI lst)), (aLy, o0 (nI n) aK aX aY aF aS aL), (aK, ia E nI 16 kd)]) (va_runS (As := [.ref (eT E 1), .int (nI (kd (tN xp)))]) (rest := [.int xo]) ⟨hx, hb, hml, hown, hts⟩ (c_ofKind l E H.size 1 (kd (tN xp)) (by decide) (by omega)) (va_cwS 2 hts gX3_needOutput_X3_ofKind rfl rfl rfl (by decide +kernel) ⟨Nat.le_of_ble_eq_true rfl, Nat.le_of_ble_eq_true rfl⟩) (preS C0 hPc hDc hS) rfl rfl hl.1 rfl (lv_room (Nat.le_of_ble_eq_true rfl)) dX3_needOutput_22 ⟨Nat.le_of_ble_eq_true rfl, Nat.le_of_ble_eq_true rfl⟩) C0 hP hD hS [] [0, 1, 2] [0, 1, 2] rfl rfl (by decide) (by decide) (fun _ => rfl) (by decide) (fun r_9 _u H locs hw hP hD hS => ?_)
      have hP : va_P E.1 vwCl [(aO, o3 aLy aLg aDa aKs (nI lst)), (aLy, o0 (nI n) aK aX aY aF aS aL), (aK, ia E nI 16 kd)] H := hP
      have hD : va_D A [(aO, o3 aLy aLg aDa aKs (nI lst)), (aLy, o0 (nI n) aK aX aY aF aS aL), (aK, ia E nI 16 kd)] := hD
      have hw : r_9 = nI (stV 1 (kd (tN xp))) := hw
      subst hw
      refine lv_icmp_lt (tgt := 38) hx hb dX3_needOutput_25 (by decide) (fun c_2 => ?_) (fun c_2 => ?_)
      · skip
        exact absurd ⟨hP9, (pI_iff (by omega)).mpr ⟨c_1, c_2⟩⟩ h
      · skip
        exact thX (ik := 175) (is := 183) (ic := 179) (xn := xI) (text := "no such output") (rfl) hx hb hst hown (hts (.classLink RX3 175 xI) (by decide +kernel)) (hts (.initialized xI) (by decide +kernel)) (fun w h => hts w (List.mem_cons_of_mem _ (List.mem_append_right _ h))) (by decide +kernel) (by decide +kernel) (by decide +kernel) (by decide +kernel) (by decide +kernel) (C0.2.2.2.1.2.2.2.1 (183, "no such output") (by decide +kernel)) hr hlocks hAe C0 hP hD hS (hl.1.trans hml.symm) dX3_needOutput_28 dX3_needOutput_31 dX3_needOutput_32 dX3_needOutput_34 dX3_needOutput_37 (Nat.le_of_ble_eq_true rfl) (Nat.le_of_ble_eq_true rfl) (Nat.le_of_ble_eq_true rfl) (Nat.le_of_ble_eq_true rfl)
  · skip
    have hPc := hP.pick (ws' := [(aO, o3 aLy aLg aDa aKs (nI lst)), (aLy, o0 (nI n) aK aX aY aF aS aL)]) [0, 1] rfl
    have hDc := hD.sub (ws' := [(aO, o3 aLy aLg aDa aKs (nI lst)), (aLy, o0 (nI n) aK aX aY aF aS aL)]) [0, 1] (by decide) rfl
    exact kcX (wr := [(aK, ia E nI 16 kd)]) (rfl) (vx_runV (As := [.int xp]) (rest := []) ⟨hx, hb, hml, hown, hts⟩ (x_needPart l E H.size xp aO aLg aDa aKs lst aLy aK aX aY aF aS aL n hP9 (hn) hst) (cwV 1 hts gX3_needOutput_X3_needPart rfl rfl rfl (by decide +kernel) ⟨Nat.le_of_ble_eq_true rfl, Nat.le_of_ble_eq_true rfl⟩) (preV C0 hPc hDc hS 0 rfl rfl) rfl rfl hl.1 rfl (lv_room (Nat.le_of_ble_eq_true rfl)) dX3_needOutput_2 ⟨Nat.le_of_ble_eq_true rfl, Nat.le_of_ble_eq_true rfl⟩) hr hlocks hAe C0 hP hD hS [0, 1] [2] [1, 2, 0] rfl rfl (by decide) (by decide) rfl (by decide)

set_option maxHeartbeats 4000000 in
set_option maxRecDepth 100000 in
theorem c_needInput (l : Launch) (E : EnvT) (sz : Nat) (xp xo : Int32) (aO aLg aDa aKs lst : Nat) (aLy aK aX aY aF aS aL n : Nat) (kd : Nat → Nat) (h : (nI 0 ≤ xp ∧ xp ≤ cL n) ∧ (nI 0 ≤ xo ∧ xo ≤ cL (stV 0 (kd (tN xp))))) (hn : n ≤ 16) (hk : ∀ j, j < n → kd j ≤ 5) : MV l yX3_needInput wsX3_needInput ({ frames := 1, cells := 0, slots := 0, locals := 21 }) E sz [.ref aO, .int xp, .int xo] [(aO, o3 aLy aLg aDa aKs (nI lst)), (aLy, o0 (nI n) aK aX aY aF aS aL), (aK, ia E nI 16 kd)] (fun _ : Unit => True) (fun _ => [(aO, o3 aLy aLg aDa aKs (nI lst)), (aLy, o0 (nI n) aK aX aY aF aS aL), (aK, ia E nI 16 kd)]) := by
  refine enV (cc := cX3_needInput) (maxL := 3) (by decide +kernel) rfl (Nat.le_of_ble_eq_true rfl) ?_
  intro p e s m below meth c A ls hx hb hr hml hts hown hlocks hAe C0 hP hD hS hl
  have hown : s.vm.findClass RX3 = some m.cls := hown
  have hl : lv_has ls 3 [(0, .ref aO), (1, .int xp), (2, .int xo)] := hl
  have iX0 : ∀ w ∈ u_ws RX0 TX0 7, w ∈ wsX3_needInput := by decide +kernel
  have iX3 : ∀ w ∈ u_ws RX3 TX3 5, w ∈ wsX3_needInput := by decide +kernel
  obtain ⟨H, hHe⟩ : ∃ z, z = s.heap := ⟨_, rfl⟩
  obtain ⟨locs, hLe⟩ : ∃ z : List Loc, z = [] := ⟨_, rfl⟩
  have hP : va_P E.1 vwCl [(aO, o3 aLy aLg aDa aKs (nI lst)), (aLy, o0 (nI n) aK aX aY aF aS aL), (aK, ia E nI 16 kd)] H := by rw [hHe]; exact hP
  have hD : va_D A [(aO, o3 aLy aLg aDa aKs (nI lst)), (aLy, o0 (nI n) aK aX aY aF aS aL), (aK, ia E nI 16 kd)] := hD
  have hS : va_S A s.heap H locs := by rw [hHe, hLe]; exact hS
  suffices hgo : W p l e _ s m _ below meth c H locs 0 0 _ (F0 m 0 ls []) by rw [hHe, hLe] at hgo; exact hgo
  clear hHe hLe
  obtain ⟨hP9, hO9⟩ := h
  have htn := cL_le (by omega) hP9
  have hkk := hk _ htn
  have hsv := stV0_le hkk
  have hpi := (pI_iff (by omega)).mp hO9
  refine lv_aload_n hx hb dX3_needInput_0 rfl (lv_at hl 0 rfl) ?_
  refine lv_iload_n hx hb dX3_needInput_1 rfl (lv_at hl 1 rfl) ?_
  have hPc := hP.pick (ws' := [(aO, o3 aLy aLg aDa aKs (nI lst)), (aLy, o0 (nI n) aK aX aY aF aS aL)]) [0, 1] rfl
  have hDc := hD.sub (ws' := [(aO, o3 aLy aLg aDa aKs (nI lst)), (aLy, o0 (nI n) aK aX aY aF aS aL)]) [0, 1] (by decide) rfl
  refine kcV (wr := [(aK, ia E nI 16 kd)]) (w1 := fun _ : Unit => [(aO, o3 aLy aLg aDa aKs (nI lst)), (aLy, o0 (nI n) aK aX aY aF aS aL)]) (w2 := fun _ => [(aO, o3 aLy aLg aDa aKs (nI lst)), (aLy, o0 (nI n) aK aX aY aF aS aL), (aK, ia E nI 16 kd)]) (va_runV (As := [.int xp]) (rest := []) ⟨hx, hb, hml, hown, hts⟩ (c_needPart l E H.size xp aO aLg aDa aKs lst aLy aK aX aY aF aS aL n hP9 (hn)) (cwV 1 hts gX3_needInput_X3_needPart rfl rfl rfl (by decide +kernel) ⟨Nat.le_of_ble_eq_true rfl, Nat.le_of_ble_eq_true rfl⟩) (preV C0 hPc hDc hS 0 rfl rfl) rfl rfl hl.1 rfl (lv_room (Nat.le_of_ble_eq_true rfl)) dX3_needInput_2 ⟨Nat.le_refl _, Nat.le_refl _⟩) C0 hP hD hS [0, 1] [2] [1, 2, 0] rfl rfl (by decide) (by decide) (fun _ => rfl) (by decide) (fun _u H locs _hw hP hD hS => ?_)
  have hP : va_P E.1 vwCl [(aO, o3 aLy aLg aDa aKs (nI lst)), (aLy, o0 (nI n) aK aX aY aF aS aL), (aK, ia E nI 16 kd)] H := hP
  have hD : va_D A [(aO, o3 aLy aLg aDa aKs (nI lst)), (aLy, o0 (nI n) aK aX aY aF aS aL), (aK, ia E nI 16 kd)] := hD
  refine lv_iload_n hx hb dX3_needInput_5 rfl (lv_at hl 2 rfl) ?_
  refine lv_if_lt (tgt := 28) hx hb dX3_needInput_6 (by decide) (fun c_1 => ?_) (fun c_1 => ?_)
  · skip
    exact absurd c_1 (hpi.1)
  · skip
    refine lv_iload_n hx hb dX3_needInput_9 rfl (lv_at hl 2 rfl) ?_
    refine k_gets (k := 0) hx hb C0 hS hown (by decide) (hts (.fieldLink RX3 185 "Ringresonance" "INPUTS" "[I") (by decide +kernel)) dX3_needInput_10 ?_
    refine lv_aload_n hx hb dX3_needInput_13 rfl (lv_at hl 0 rfl) ?_
    refine va_get (D := E.1) (ci := 3) (v := .ref aLy) (C := RX3) (T := TX3) (N := 5) hx hb hts iX3 hown C0.1 hP 0 rfl rfl 0 (by decide) (hts (.fieldLink RX3 10 "Ringresonance" "layout" "LRingresonance$Layout;") (by decide +kernel)) (fun _ h9 => h9) rfl dX3_needInput_14 ?_
    refine va_get (D := E.1) (ci := 0) (v := .ref aK) (C := RX0) (T := TX0) (N := 7) hx hb hts iX0 hown C0.1 hP 1 rfl rfl 1 (by decide) (hts (.fieldLink RX3 77 "Ringresonance$Layout" "kinds" "[I") (by decide +kernel)) (fun _ h9 => h9) rfl dX3_needInput_17 ?_
    refine lv_iload_n hx hb dX3_needInput_20 rfl (lv_at hl 1 rfl) ?_
    refine lv_ri (y := (nI (tN xp))) (tN_eq hP9) ?_
    refine k_iald (e := (tN xp)) (g := nI) (n := 16) hx hb C0 hP 2 rfl (by omega) (by omega) dX3_needInput_21 ?_
    have hPc := hP.pick (ws' := []) [] rfl
    have hDc := hD.sub (ws' := []) [] (by decide) rfl
    refine kcI (wr := [(aO, o3 aLy aLg aDa aKs (nI lst)), (aLy, o0 (nI n) aK aX aY aF aS aL), (aK, ia E nI 16 kd)]) (w1 := fun _ : Unit => []) (w2 := fun _ => [(aO, o3 aLy aLg aDa aKs (nI lst)), (aLy, o0 (nI n) aK aX aY aF aS aL), (aK, ia E nI 16 kd)]) (va_runS (As := [.ref (eT E 0), .int (nI (kd (tN xp)))]) (rest := [.int xo]) ⟨hx, hb, hml, hown, hts⟩ (c_ofKind l E H.size 0 (kd (tN xp)) (by decide) (by omega)) (va_cwS 2 hts gX3_needInput_X3_ofKind rfl rfl rfl (by decide +kernel) ⟨Nat.le_of_ble_eq_true rfl, Nat.le_of_ble_eq_true rfl⟩) (preS C0 hPc hDc hS) rfl rfl hl.1 rfl (lv_room (Nat.le_of_ble_eq_true rfl)) dX3_needInput_22 ⟨Nat.le_refl _, Nat.le_refl _⟩) C0 hP hD hS [] [0, 1, 2] [0, 1, 2] rfl rfl (by decide) (by decide) (fun _ => rfl) (by decide) (fun r_9 _u H locs hw hP hD hS => ?_)
    have hP : va_P E.1 vwCl [(aO, o3 aLy aLg aDa aKs (nI lst)), (aLy, o0 (nI n) aK aX aY aF aS aL), (aK, ia E nI 16 kd)] H := hP
    have hD : va_D A [(aO, o3 aLy aLg aDa aKs (nI lst)), (aLy, o0 (nI n) aK aX aY aF aS aL), (aK, ia E nI 16 kd)] := hD
    have hw : r_9 = nI (stV 0 (kd (tN xp))) := hw
    subst hw
    refine lv_icmp_lt (tgt := 38) hx hb dX3_needInput_25 (by decide) (fun c_2 => ?_) (fun c_2 => ?_)
    · skip
      exact exV hx hb hr hlocks hAe hS () trivial hP hD dX3_needInput_38
    · skip
      exact absurd hpi.2 c_2

set_option maxHeartbeats 4000000 in
set_option maxRecDepth 100000 in
theorem x_needInput (l : Launch) (E : EnvT) (sz : Nat) (xp xo : Int32) (aO aLg aDa aKs lst : Nat) (aLy aK aX aY aF aS aL n : Nat) (kd : Nat → Nat) (h : ¬ ((nI 0 ≤ xp ∧ xp ≤ cL n) ∧ (nI 0 ≤ xo ∧ xo ≤ cL (stV 0 (kd (tN xp)))))) (hn : n ≤ 16) (hk : ∀ j, j < n → kd j ≤ 5) (hst : l.stackTraces = false) : MX l yX3_needInput wsX3_needInput ({ frames := 7, cells := 1, slots := 6, locals := 103 }) E sz [.ref aO, .int xp, .int xo] [(aO, o3 aLy aLg aDa aKs (nI lst)), (aLy, o0 (nI n) aK aX aY aF aS aL), (aK, ia E nI 16 kd)] xI := by
  refine enX (cc := cX3_needInput) (maxL := 3) (ret := none) (by decide +kernel) rfl (Nat.le_of_ble_eq_true rfl) ?_
  intro p e s m below meth c A ls hx hb hr hml hts hown hlocks hAe C0 hP hD hS hl
  have hown : s.vm.findClass RX3 = some m.cls := hown
  have hl : lv_has ls 3 [(0, .ref aO), (1, .int xp), (2, .int xo)] := hl
  have iX0 : ∀ w ∈ u_ws RX0 TX0 7, w ∈ wsX3_needInput := by decide +kernel
  have iX3 : ∀ w ∈ u_ws RX3 TX3 5, w ∈ wsX3_needInput := by decide +kernel
  obtain ⟨H, hHe⟩ : ∃ z, z = s.heap := ⟨_, rfl⟩
  obtain ⟨locs, hLe⟩ : ∃ z : List Loc, z = [] := ⟨_, rfl⟩
  have hP : va_P E.1 vwCl [(aO, o3 aLy aLg aDa aKs (nI lst)), (aLy, o0 (nI n) aK aX aY aF aS aL), (aK, ia E nI 16 kd)] H := by rw [hHe]; exact hP
  have hD : va_D A [(aO, o3 aLy aLg aDa aKs (nI lst)), (aLy, o0 (nI n) aK aX aY aF aS aL), (aK, ia E nI 16 kd)] := hD
  have hS : va_S A s.heap H locs := by rw [hHe, hLe]; exact hS
  suffices hgo : W p l e _ s m _ below meth c H locs 0 0 _ (F0 m 0 ls []) by rw [hHe, hLe] at hgo; exact hgo
  clear hHe hLe
  refine lv_aload_n hx hb dX3_needInput_0 rfl (lv_at hl 0 rfl) ?_
  refine lv_iload_n hx hb dX3_needInput_1 rfl (lv_at hl 1 rfl) ?_
  by_cases hP9 : nI 0 ≤ xp ∧ xp ≤ cL n
  · skip
    have htn := cL_le (by omega) hP9
    have hkk := hk _ htn
    have hsv := stV0_le hkk
    have hPc := hP.pick (ws' := [(aO, o3 aLy aLg aDa aKs (nI lst)), (aLy, o0 (nI n) aK aX aY aF aS aL)]) [0, 1] rfl
    have hDc := hD.sub (ws' := [(aO, o3 aLy aLg aDa aKs (nI lst)), (aLy, o0 (nI n) aK aX aY aF aS aL)]) [0, 1] (by decide) rfl
    refine kcV (wr := [(aK, ia E nI 16 kd)]) (w1 := fun _ : Unit => [(aO, o3 aLy aLg aDa aKs (nI lst)), (aLy, o0 (nI n) aK aX aY aF aS aL)]) (w2 := fun _ => [(aO, o3 aLy aLg aDa aKs (nI lst)), (aLy, o0 (nI n) aK aX aY aF aS aL), (aK, ia E nI 16 kd)]) (va_runV (As := [.int xp]) (rest := []) ⟨hx, hb, hml, hown, hts⟩ (c_needPart l E H.size xp aO aLg aDa aKs lst aLy aK aX aY aF aS aL n hP9 (hn)) (cwV 1 hts gX3_needInput_X3_needPart rfl rfl rfl (by decide +kernel) ⟨Nat.le_of_ble_eq_true rfl, Nat.le_of_ble_eq_true rfl⟩) (preV C0 hPc hDc hS 0 rfl rfl) rfl rfl hl.1 rfl (lv_room (Nat.le_of_ble_eq_true rfl)) dX3_needInput_2 ⟨Nat.le_of_ble_eq_true rfl, Nat.le_of_ble_eq_true rfl⟩) C0 hP hD hS [0, 1] [2] [1, 2, 0] rfl rfl (by decide) (by decide) (fun _ => rfl) (by decide) (fun _u H locs _hw hP hD hS => ?_)
    have hP : va_P E.1 vwCl [(aO, o3 aLy aLg aDa aKs (nI lst)), (aLy, o0 (nI n) aK aX aY aF aS aL), (aK, ia E nI 16 kd)] H := hP
    have hD : va_D A [(aO, o3 aLy aLg aDa aKs (nI lst)), (aLy, o0 (nI n) aK aX aY aF aS aL), (aK, ia E nI 16 kd)] := hD
    refine lv_iload_n hx hb dX3_needInput_5 rfl (lv_at hl 2 rfl) ?_
    refine lv_if_lt (tgt := 28) hx hb dX3_needInput_6 (by decide) (fun c_1 => ?_) (fun c_1 => ?_)
    · skip
      exact thX (ik := 175) (is := 188) (ic := 179) (xn := xI) (text := "no such input") (rfl) hx hb hst hown (hts (.classLink RX3 175 xI) (by decide +kernel)) (hts (.initialized xI) (by decide +kernel)) (fun w h => hts w (List.mem_cons_of_mem _ (List.mem_append_right _ h))) (by decide +kernel) (by decide +kernel) (by decide +kernel) (by decide +kernel) (by decide +kernel) (C0.2.2.2.1.2.2.2.1 (188, "no such input") (by decide +kernel)) hr hlocks hAe C0 hP hD hS (hl.1.trans hml.symm) dX3_needInput_28 dX3_needInput_31 dX3_needInput_32 dX3_needInput_34 dX3_needInput_37 (Nat.le_of_ble_eq_true rfl) (Nat.le_of_ble_eq_true rfl) (Nat.le_of_ble_eq_true rfl) (Nat.le_of_ble_eq_true rfl)
    · skip
      refine lv_iload_n hx hb dX3_needInput_9 rfl (lv_at hl 2 rfl) ?_
      refine k_gets (k := 0) hx hb C0 hS hown (by decide) (hts (.fieldLink RX3 185 "Ringresonance" "INPUTS" "[I") (by decide +kernel)) dX3_needInput_10 ?_
      refine lv_aload_n hx hb dX3_needInput_13 rfl (lv_at hl 0 rfl) ?_
      refine va_get (D := E.1) (ci := 3) (v := .ref aLy) (C := RX3) (T := TX3) (N := 5) hx hb hts iX3 hown C0.1 hP 0 rfl rfl 0 (by decide) (hts (.fieldLink RX3 10 "Ringresonance" "layout" "LRingresonance$Layout;") (by decide +kernel)) (fun _ h9 => h9) rfl dX3_needInput_14 ?_
      refine va_get (D := E.1) (ci := 0) (v := .ref aK) (C := RX0) (T := TX0) (N := 7) hx hb hts iX0 hown C0.1 hP 1 rfl rfl 1 (by decide) (hts (.fieldLink RX3 77 "Ringresonance$Layout" "kinds" "[I") (by decide +kernel)) (fun _ h9 => h9) rfl dX3_needInput_17 ?_
      refine lv_iload_n hx hb dX3_needInput_20 rfl (lv_at hl 1 rfl) ?_
      refine lv_ri (y := (nI (tN xp))) (tN_eq hP9) ?_
      refine k_iald (e := (tN xp)) (g := nI) (n := 16) hx hb C0 hP 2 rfl (by omega) (by omega) dX3_needInput_21 ?_
      have hPc := hP.pick (ws' := []) [] rfl
      have hDc := hD.sub (ws' := []) [] (by decide) rfl
      refine kcI (wr := [(aO, o3 aLy aLg aDa aKs (nI lst)), (aLy, o0 (nI n) aK aX aY aF aS aL), (aK, ia E nI 16 kd)]) (w1 := fun _ : Unit => []) (w2 := fun _ => [(aO, o3 aLy aLg aDa aKs (nI lst)), (aLy, o0 (nI n) aK aX aY aF aS aL), (aK, ia E nI 16 kd)]) (va_runS (As := [.ref (eT E 0), .int (nI (kd (tN xp)))]) (rest := [.int xo]) ⟨hx, hb, hml, hown, hts⟩ (c_ofKind l E H.size 0 (kd (tN xp)) (by decide) (by omega)) (va_cwS 2 hts gX3_needInput_X3_ofKind rfl rfl rfl (by decide +kernel) ⟨Nat.le_of_ble_eq_true rfl, Nat.le_of_ble_eq_true rfl⟩) (preS C0 hPc hDc hS) rfl rfl hl.1 rfl (lv_room (Nat.le_of_ble_eq_true rfl)) dX3_needInput_22 ⟨Nat.le_of_ble_eq_true rfl, Nat.le_of_ble_eq_true rfl⟩) C0 hP hD hS [] [0, 1, 2] [0, 1, 2] rfl rfl (by decide) (by decide) (fun _ => rfl) (by decide) (fun r_9 _u H locs hw hP hD hS => ?_)
      have hP : va_P E.1 vwCl [(aO, o3 aLy aLg aDa aKs (nI lst)), (aLy, o0 (nI n) aK aX aY aF aS aL), (aK, ia E nI 16 kd)] H := hP
      have hD : va_D A [(aO, o3 aLy aLg aDa aKs (nI lst)), (aLy, o0 (nI n) aK aX aY aF aS aL), (aK, ia E nI 16 kd)] := hD
      have hw : r_9 = nI (stV 0 (kd (tN xp))) := hw
      subst hw
      refine lv_icmp_lt (tgt := 38) hx hb dX3_needInput_25 (by decide) (fun c_2 => ?_) (fun c_2 => ?_)
      · skip
        exact absurd ⟨hP9, (pI_iff (by omega)).mpr ⟨c_1, c_2⟩⟩ h
      · skip
        exact thX (ik := 175) (is := 188) (ic := 179) (xn := xI) (text := "no such input") (rfl) hx hb hst hown (hts (.classLink RX3 175 xI) (by decide +kernel)) (hts (.initialized xI) (by decide +kernel)) (fun w h => hts w (List.mem_cons_of_mem _ (List.mem_append_right _ h))) (by decide +kernel) (by decide +kernel) (by decide +kernel) (by decide +kernel) (by decide +kernel) (C0.2.2.2.1.2.2.2.1 (188, "no such input") (by decide +kernel)) hr hlocks hAe C0 hP hD hS (hl.1.trans hml.symm) dX3_needInput_28 dX3_needInput_31 dX3_needInput_32 dX3_needInput_34 dX3_needInput_37 (Nat.le_of_ble_eq_true rfl) (Nat.le_of_ble_eq_true rfl) (Nat.le_of_ble_eq_true rfl) (Nat.le_of_ble_eq_true rfl)
  · skip
    have hPc := hP.pick (ws' := [(aO, o3 aLy aLg aDa aKs (nI lst)), (aLy, o0 (nI n) aK aX aY aF aS aL)]) [0, 1] rfl
    have hDc := hD.sub (ws' := [(aO, o3 aLy aLg aDa aKs (nI lst)), (aLy, o0 (nI n) aK aX aY aF aS aL)]) [0, 1] (by decide) rfl
    exact kcX (wr := [(aK, ia E nI 16 kd)]) (rfl) (vx_runV (As := [.int xp]) (rest := []) ⟨hx, hb, hml, hown, hts⟩ (x_needPart l E H.size xp aO aLg aDa aKs lst aLy aK aX aY aF aS aL n hP9 (hn) hst) (cwV 1 hts gX3_needInput_X3_needPart rfl rfl rfl (by decide +kernel) ⟨Nat.le_of_ble_eq_true rfl, Nat.le_of_ble_eq_true rfl⟩) (preV C0 hPc hDc hS 0 rfl rfl) rfl rfl hl.1 rfl (lv_room (Nat.le_of_ble_eq_true rfl)) dX3_needInput_2 ⟨Nat.le_of_ble_eq_true rfl, Nat.le_of_ble_eq_true rfl⟩) hr hlocks hAe C0 hP hD hS [0, 1] [2] [1, 2, 0] rfl rfl (by decide) (by decide) rfl (by decide)
