set_option maxHeartbeats 4000000 in
set_option maxRecDepth 100000 in
theorem c_begin (l : Launch) (E : EnvT) (sz : Nat) (pt cc9 : Nat) (aLy aLi : Nat) (aLk aCh aLo aDi aDk aBe : Nat) (chn dir dkt : Nat → Nat) (bef : Nat → Int64) (hp : pt < 16) : MV l yX2_begin wsX2_begin ({ frames := 0, cells := 0, slots := 0, locals := 0 }) E sz [.ref aLk, .int (nI pt), .int (cL cc9)] [(aLk, o2 aLy aLi aCh aLo aDi aDk aBe), (aCh, ia E cL 16 chn), (aDi, ia E cD 16 dir), (aDk, ia E nI 16 dkt), (aBe, ja E 16 bef)] (fun _ : Unit => True) (fun _ => [(aLk, o2 aLy aLi aCh aLo aDi aDk aBe), (aCh, ia E cL 16 (va_up chn pt cc9)), (aDi, ia E cD 16 (va_up dir pt 1)), (aDk, ia E nI 16 (va_up dkt pt 0)), (aBe, ja E 16 (va_up bef pt 0))]) := by
  refine enV (cc := cX2_begin) (maxL := 3) (by decide +kernel) rfl (Nat.le_of_ble_eq_true rfl) ?_
  intro p e s m below meth c A ls hx hb hr hml hts hown hlocks hAe C0 hP hD hS hl
  have hown : s.vm.findClass RX2 = some m.cls := hown
  have hl : lv_has ls 3 [(0, .ref aLk), (1, .int (nI pt)), (2, .int (cL cc9))] := hl
  have iX2 : ∀ w ∈ u_ws RX2 TX2 7, w ∈ wsX2_begin := by decide +kernel
  obtain ⟨H, hHe⟩ : ∃ z, z = s.heap := ⟨_, rfl⟩
  obtain ⟨locs, hLe⟩ : ∃ z : List Loc, z = [] := ⟨_, rfl⟩
  have hP : va_P E.1 vwCl [(aLk, o2 aLy aLi aCh aLo aDi aDk aBe), (aCh, ia E cL 16 chn), (aDi, ia E cD 16 dir), (aDk, ia E nI 16 dkt), (aBe, ja E 16 bef)] H := by rw [hHe]; exact hP
  have hD : va_D A [(aLk, o2 aLy aLi aCh aLo aDi aDk aBe), (aCh, ia E cL 16 chn), (aDi, ia E cD 16 dir), (aDk, ia E nI 16 dkt), (aBe, ja E 16 bef)] := hD
  have hS : va_S A s.heap H locs := by rw [hHe, hLe]; exact hS
  suffices hgo : W p l e _ s m _ below meth c H locs 0 0 _ (F0 m 0 ls []) by rw [hHe, hLe] at hgo; exact hgo
  clear hHe hLe
  refine lv_aload_n hx hb dX2_begin_0 rfl (lv_at hl 0 rfl) ?_
  refine va_get (D := E.1) (ci := 2) (v := .ref aCh) (C := RX2) (T := TX2) (N := 7) hx hb hts iX2 hown C0.1 hP 0 rfl rfl 2 (by decide) (hts (.fieldLink RX2 9 "Ringresonance$Locks" "channels" "[I") (by decide +kernel)) (fun _ h9 => h9) rfl dX2_begin_1 ?_
  refine lv_iload_n hx hb dX2_begin_4 rfl (lv_at hl 1 rfl) ?_
  refine lv_iload_n hx hb dX2_begin_5 rfl (lv_at hl 2 rfl) ?_
  refine k_iast (e := pt) (v := cc9) (g := cL) (n := 16) hx hb C0 hP hD hS 1 rfl rfl (by omega) (by omega) dX2_begin_6 (fun H locs hP hD hS => ?_)
  have hP : va_P E.1 vwCl [(aLk, o2 aLy aLi aCh aLo aDi aDk aBe), (aCh, ia E cL 16 (va_up chn pt cc9)), (aDi, ia E cD 16 dir), (aDk, ia E nI 16 dkt), (aBe, ja E 16 bef)] H := hP
  have hD : va_D A [(aLk, o2 aLy aLi aCh aLo aDi aDk aBe), (aCh, ia E cL 16 (va_up chn pt cc9)), (aDi, ia E cD 16 dir), (aDk, ia E nI 16 dkt), (aBe, ja E 16 bef)] := hD
  refine lv_aload_n hx hb dX2_begin_7 rfl (lv_at hl 0 rfl) ?_
  refine va_get (D := E.1) (ci := 2) (v := .ref aDi) (C := RX2) (T := TX2) (N := 7) hx hb hts iX2 hown C0.1 hP 0 rfl rfl 4 (by decide) (hts (.fieldLink RX2 18 "Ringresonance$Locks" "directions" "[I") (by decide +kernel)) (fun _ h9 => h9) rfl dX2_begin_8 ?_
  refine lv_iload_n hx hb dX2_begin_11 rfl (lv_at hl 1 rfl) ?_
  refine lv_iconst (v := nI 1) hx hb dX2_begin_12 (by decide) ?_
  refine k_iast (e := pt) (v := 1) (g := cD) (n := 16) hx hb C0 hP hD hS 2 rfl (by decide) (by omega) (by omega) dX2_begin_13 (fun H locs hP hD hS => ?_)
  have hP : va_P E.1 vwCl [(aLk, o2 aLy aLi aCh aLo aDi aDk aBe), (aCh, ia E cL 16 (va_up chn pt cc9)), (aDi, ia E cD 16 (va_up dir pt 1)), (aDk, ia E nI 16 dkt), (aBe, ja E 16 bef)] H := hP
  have hD : va_D A [(aLk, o2 aLy aLi aCh aLo aDi aDk aBe), (aCh, ia E cL 16 (va_up chn pt cc9)), (aDi, ia E cD 16 (va_up dir pt 1)), (aDk, ia E nI 16 dkt), (aBe, ja E 16 bef)] := hD
  refine lv_aload_n hx hb dX2_begin_14 rfl (lv_at hl 0 rfl) ?_
  refine va_get (D := E.1) (ci := 2) (v := .ref aDk) (C := RX2) (T := TX2) (N := 7) hx hb hts iX2 hown C0.1 hP 0 rfl rfl 5 (by decide) (hts (.fieldLink RX2 21 "Ringresonance$Locks" "darkTicks" "[I") (by decide +kernel)) (fun _ h9 => h9) rfl dX2_begin_15 ?_
  refine lv_iload_n hx hb dX2_begin_18 rfl (lv_at hl 1 rfl) ?_
  refine lv_iconst (v := nI 0) hx hb dX2_begin_19 (by decide) ?_
  refine k_iast (e := pt) (v := 0) (g := nI) (n := 16) hx hb C0 hP hD hS 3 rfl rfl (by omega) (by omega) dX2_begin_20 (fun H locs hP hD hS => ?_)
  have hP : va_P E.1 vwCl [(aLk, o2 aLy aLi aCh aLo aDi aDk aBe), (aCh, ia E cL 16 (va_up chn pt cc9)), (aDi, ia E cD 16 (va_up dir pt 1)), (aDk, ia E nI 16 (va_up dkt pt 0)), (aBe, ja E 16 bef)] H := hP
  have hD : va_D A [(aLk, o2 aLy aLi aCh aLo aDi aDk aBe), (aCh, ia E cL 16 (va_up chn pt cc9)), (aDi, ia E cD 16 (va_up dir pt 1)), (aDk, ia E nI 16 (va_up dkt pt 0)), (aBe, ja E 16 bef)] := hD
  refine lv_aload_n hx hb dX2_begin_21 rfl (lv_at hl 0 rfl) ?_
  refine va_get (D := E.1) (ci := 2) (v := .ref aBe) (C := RX2) (T := TX2) (N := 7) hx hb hts iX2 hown C0.1 hP 0 rfl rfl 6 (by decide) (hts (.fieldLink RX2 24 "Ringresonance$Locks" "befores" "[J") (by decide +kernel)) (fun _ h9 => h9) rfl dX2_begin_22 ?_
  refine lv_iload_n hx hb dX2_begin_25 rfl (lv_at hl 1 rfl) ?_
  refine lv_lconst (v := 0) hx hb dX2_begin_26 (by decide) ?_
  refine k_last (e := pt) (n := 16) hx hb C0 hP hD hS 4 rfl (by omega) (by omega) dX2_begin_27 (fun H locs hP hD hS => ?_)
  have hP : va_P E.1 vwCl [(aLk, o2 aLy aLi aCh aLo aDi aDk aBe), (aCh, ia E cL 16 (va_up chn pt cc9)), (aDi, ia E cD 16 (va_up dir pt 1)), (aDk, ia E nI 16 (va_up dkt pt 0)), (aBe, ja E 16 (va_up bef pt 0))] H := hP
  have hD : va_D A [(aLk, o2 aLy aLi aCh aLo aDi aDk aBe), (aCh, ia E cL 16 (va_up chn pt cc9)), (aDi, ia E cD 16 (va_up dir pt 1)), (aDk, ia E nI 16 (va_up dkt pt 0)), (aBe, ja E 16 (va_up bef pt 0))] := hD
  exact exV hx hb hr hlocks hAe hS () trivial hP hD dX2_begin_28

def ngD (n : Nat) : Nat := if n = 0 then 0 else if n = 1 then 2 else 1
theorem ngD_row {d : Nat} (h : d ≤ 2) : -cD d = cD (ngD d) := by
  have : ∀ d, d < 3 → -cD d = cD (ngD d) := by decide +kernel
  exact this d (by omega)
theorem ngD_le (d : Nat) : ngD d ≤ 2 := by unfold ngD; split; omega; split <;> omega
def hct (s d : Nat) : Nat := if d = 0 then (if s < 99 then s else 99) else if d = 1 then (if s < 99 then s + 1 else 99) else s - 1
theorem hct_row {s d : Nat} (hs : s ≤ 99) (hd : d ≤ 2) : (if (if nI 0 < nI s + cD d then nI s + cD d else nI 0) < nI 99 then (if nI 0 < nI s + cD d then nI s + cD d else nI 0) else nI 99) = nI (hct s d) := by
  have : ∀ s, s < 100 → ∀ d, d < 3 → (if (if nI 0 < nI s + cD d then nI s + cD d else nI 0) < nI 99 then (if nI 0 < nI s + cD d then nI s + cD d else nI 0) else nI 99) = nI (hct s d) := by decide +kernel
  exact this s (by omega) d (by omega)
theorem hct_le {s d : Nat} (hs : s ≤ 99) : hct s d ≤ 99 := by unfold hct; split; split <;> omega; split; split <;> omega; omega
abbrev zHS : Type := (Nat → Nat) × (Nat → Nat) × (Nat → Nat) × (Nat → Nat) × (Nat → Nat) × (Nat → Int64)
def hnK (cx : Int64) (k : Nat) : Nat := if cx = 0 then k + 1 else 0
def hnD (cx b : Int64) (d : Nat) : Nat := if cx < b then ngD d else d
/-- a locked ring hunts: seconds, channels, losts, directions, dark ticks, befores -/
def huO (pt : Nat) (cx : Int64) (S : zHS) : zHS :=
  (va_up S.1 pt (hct (S.1 pt) (hnD cx (S.2.2.2.2.2 pt) (S.2.2.2.1 pt))),
   if 8 ≤ hnK cx (S.2.2.2.2.1 pt) then va_up S.2.1 pt 0 else S.2.1,
   if 8 ≤ hnK cx (S.2.2.2.2.1 pt) then va_up S.2.2.1 pt (S.2.2.1 pt + 1) else S.2.2.1,
   if cx < S.2.2.2.2.2 pt then va_up S.2.2.2.1 pt (ngD (S.2.2.2.1 pt)) else S.2.2.2.1,
   va_up S.2.2.2.2.1 pt (hnK cx (S.2.2.2.2.1 pt)), va_up S.2.2.2.2.2 pt cx)
theorem ci_ltn {a b : Nat} (ha : a < 2 ^ 31) (hb : b < 2 ^ 31) : nI a < nI b ↔ ¬ (b ≤ a) := by rw [nI_ltI ha hb]; omega

set_option maxHeartbeats 4000000 in
set_option maxRecDepth 100000 in
theorem c_huntOne (l : Launch) (E : EnvT) (sz : Nat) (pt : Nat) (cx : Int64) (aLy aK aX aY aF aS aL n : Nat) (aLi : Nat) (aLk aCh aLo aDi aDk aBe : Nat) (chn los dir dkt : Nat → Nat) (bef : Nat → Int64) (se : Nat → Nat) (hp : pt < 16) (hs : se pt ≤ 99) (hd : dir pt ≤ 2) (hk : dkt pt ≤ 20) : MV l yX2_huntOne wsX2_huntOne ({ frames := 1, cells := 0, slots := 0, locals := 21 }) E sz [.ref aLk, .int (nI pt), .long cx] [(aLk, o2 aLy aLi aCh aLo aDi aDk aBe), (aLy, o0 (nI n) aK aX aY aF aS aL), (aS, ia E nI 16 se), (aCh, ia E cL 16 chn), (aLo, ia E nI 16 los), (aDi, ia E cD 16 dir), (aDk, ia E nI 16 dkt), (aBe, ja E 16 bef)] (fun _ : Unit => True) (fun _ => [(aLk, o2 aLy aLi aCh aLo aDi aDk aBe), (aLy, o0 (nI n) aK aX aY aF aS aL), (aS, ia E nI 16 ((huO pt cx (se, chn, los, dir, dkt, bef)).1)), (aCh, ia E cL 16 ((huO pt cx (se, chn, los, dir, dkt, bef)).2.1)), (aLo, ia E nI 16 ((huO pt cx (se, chn, los, dir, dkt, bef)).2.2.1)), (aDi, ia E cD 16 ((huO pt cx (se, chn, los, dir, dkt, bef)).2.2.2.1)), (aDk, ia E nI 16 ((huO pt cx (se, chn, los, dir, dkt, bef)).2.2.2.2.1)), (aBe, ja E 16 ((huO pt cx (se, chn, los, dir, dkt, bef)).2.2.2.2.2))]) := by
  refine enV (cc := cX2_huntOne) (maxL := 5) (by decide +kernel) rfl (Nat.le_of_ble_eq_true rfl) ?_
  intro p e s m below meth c A ls hx hb hr hml hts hown hlocks hAe C0 hP hD hS hl
  have hown : s.vm.findClass RX2 = some m.cls := hown
  have hl : lv_has ls 5 [(0, .ref aLk), (1, .int (nI pt)), (2, .long cx)] := hl
  have iX0 : ∀ w ∈ u_ws RX0 TX0 7, w ∈ wsX2_huntOne := by decide +kernel
  have iX2 : ∀ w ∈ u_ws RX2 TX2 7, w ∈ wsX2_huntOne := by decide +kernel
  obtain ⟨H, hHe⟩ : ∃ z, z = s.heap := ⟨_, rfl⟩
  obtain ⟨locs, hLe⟩ : ∃ z : List Loc, z = [] := ⟨_, rfl⟩
  have hP : va_P E.1 vwCl [(aLk, o2 aLy aLi aCh aLo aDi aDk aBe), (aLy, o0 (nI n) aK aX aY aF aS aL), (aS, ia E nI 16 se), (aCh, ia E cL 16 chn), (aLo, ia E nI 16 los), (aDi, ia E cD 16 dir), (aDk, ia E nI 16 dkt), (aBe, ja E 16 bef)] H := by rw [hHe]; exact hP
  have hD : va_D A [(aLk, o2 aLy aLi aCh aLo aDi aDk aBe), (aLy, o0 (nI n) aK aX aY aF aS aL), (aS, ia E nI 16 se), (aCh, ia E cL 16 chn), (aLo, ia E nI 16 los), (aDi, ia E cD 16 dir), (aDk, ia E nI 16 dkt), (aBe, ja E 16 bef)] := hD
  have hS : va_S A s.heap H locs := by rw [hHe, hLe]; exact hS
  suffices hgo : W p l e _ s m _ below meth c H locs 0 0 _ (F0 m 0 ls []) by rw [hHe, hLe] at hgo; exact hgo
  clear hHe hLe
  have hdl : hnD cx (bef pt) (dir pt) ≤ 2 := by unfold hnD; split; exact ngD_le _; exact hd
  have hkl : hnK cx (dkt pt) ≤ 21 := by unfold hnK; split <;> omega
  refine lv_lload_n hx hb dX2_huntOne_0 rfl (lv_at hl 2 rfl) ?_
  refine lv_aload_n hx hb dX2_huntOne_1 rfl (lv_at hl 0 rfl) ?_
  refine va_get (D := E.1) (ci := 2) (v := .ref aBe) (C := RX2) (T := TX2) (N := 7) hx hb hts iX2 hown C0.1 hP 0 rfl rfl 6 (by decide) (hts (.fieldLink RX2 24 "Ringresonance$Locks" "befores" "[J") (by decide +kernel)) (fun _ h9 => h9) rfl dX2_huntOne_2 ?_
  refine lv_iload_n hx hb dX2_huntOne_5 rfl (lv_at hl 1 rfl) ?_
  refine k_lald (e := pt) (n := 16) hx hb C0 hP 7 rfl (by omega) (by omega) dX2_huntOne_6 ?_
  refine W.lcmp hx hb dX2_huntOne_7 ?_
  refine lv_if_ge (tgt := 24) hx hb dX2_huntOne_8 (by decide) (fun c_1 => ?_) (fun c_1 => ?_)
  · skip
    have c_1 : ¬ (cx < (bef pt)) := (lgc_ge).mp c_1
    refine lv_aload_n hx hb dX2_huntOne_24 rfl (lv_at hl 0 rfl) ?_
    refine va_get (D := E.1) (ci := 2) (v := .ref aBe) (C := RX2) (T := TX2) (N := 7) hx hb hts iX2 hown C0.1 hP 0 rfl rfl 6 (by decide) (hts (.fieldLink RX2 24 "Ringresonance$Locks" "befores" "[J") (by decide +kernel)) (fun _ h9 => h9) rfl dX2_huntOne_25 ?_
    refine lv_iload_n hx hb dX2_huntOne_28 rfl (lv_at hl 1 rfl) ?_
    refine lv_lload_n hx hb dX2_huntOne_29 rfl (lv_at hl 2 rfl) ?_
    refine k_last (e := pt) (n := 16) hx hb C0 hP hD hS 7 rfl (by omega) (by omega) dX2_huntOne_30 (fun H locs hP hD hS => ?_)
    have hP : va_P E.1 vwCl [(aLk, o2 aLy aLi aCh aLo aDi aDk aBe), (aLy, o0 (nI n) aK aX aY aF aS aL), (aS, ia E nI 16 se), (aCh, ia E cL 16 chn), (aLo, ia E nI 16 los), (aDi, ia E cD 16 dir), (aDk, ia E nI 16 dkt), (aBe, ja E 16 (va_up bef pt cx))] H := hP
    have hD : va_D A [(aLk, o2 aLy aLi aCh aLo aDi aDk aBe), (aLy, o0 (nI n) aK aX aY aF aS aL), (aS, ia E nI 16 se), (aCh, ia E cL 16 chn), (aLo, ia E nI 16 los), (aDi, ia E cD 16 dir), (aDk, ia E nI 16 dkt), (aBe, ja E 16 (va_up bef pt cx))] := hD
    refine lv_aload_n hx hb dX2_huntOne_31 rfl (lv_at hl 0 rfl) ?_
    refine va_get (D := E.1) (ci := 2) (v := .ref aLy) (C := RX2) (T := TX2) (N := 7) hx hb hts iX2 hown C0.1 hP 0 rfl rfl 0 (by decide) (hts (.fieldLink RX2 28 "Ringresonance$Locks" "layout" "LRingresonance$Layout;") (by decide +kernel)) (fun _ h9 => h9) rfl dX2_huntOne_32 ?_
    refine va_get (D := E.1) (ci := 0) (v := .ref aS) (C := RX0) (T := TX0) (N := 7) hx hb hts iX0 hown C0.1 hP 1 rfl rfl 5 (by decide) (hts (.fieldLink RX2 57 "Ringresonance$Layout" "seconds" "[I") (by decide +kernel)) (fun _ h9 => h9) rfl dX2_huntOne_35 ?_
    refine lv_iload_n hx hb dX2_huntOne_38 rfl (lv_at hl 1 rfl) ?_
    refine k_iald (e := pt) (g := nI) (n := 16) hx hb C0 hP 2 rfl (by omega) (by omega) dX2_huntOne_39 ?_
    refine lv_aload_n hx hb dX2_huntOne_40 rfl (lv_at hl 0 rfl) ?_
    refine va_get (D := E.1) (ci := 2) (v := .ref aDi) (C := RX2) (T := TX2) (N := 7) hx hb hts iX2 hown C0.1 hP 0 rfl rfl 4 (by decide) (hts (.fieldLink RX2 18 "Ringresonance$Locks" "directions" "[I") (by decide +kernel)) (fun _ h9 => h9) rfl dX2_huntOne_41 ?_
    refine lv_iload_n hx hb dX2_huntOne_44 rfl (lv_at hl 1 rfl) ?_
    refine k_iald (e := pt) (g := cD) (n := 16) hx hb C0 hP 5 rfl (by omega) (by omega) dX2_huntOne_45 ?_
    refine lv_ri (y := (cD (hnD cx (bef pt) (dir pt)))) (by rw [hnD, if_neg c_1]) ?_
    refine lv_iadd hx hb dX2_huntOne_46 ?_
    refine lv_istore (lv' := [(4, .int ((nI (se pt)) + (cD (hnD cx (bef pt) (dir pt))))), (0, .ref aLk), (1, .int (nI pt)), (2, .long cx)]) hx hb dX2_huntOne_47 hl (by decide) rfl (fun ls hl => ?_)
    refine lv_aload_n hx hb dX2_huntOne_49 rfl (lv_at hl 1 rfl) ?_
    refine va_get (D := E.1) (ci := 2) (v := .ref aLy) (C := RX2) (T := TX2) (N := 7) hx hb hts iX2 hown C0.1 hP 0 rfl rfl 0 (by decide) (hts (.fieldLink RX2 28 "Ringresonance$Locks" "layout" "LRingresonance$Layout;") (by decide +kernel)) (fun _ h9 => h9) rfl dX2_huntOne_50 ?_
    refine va_get (D := E.1) (ci := 0) (v := .ref aS) (C := RX0) (T := TX0) (N := 7) hx hb hts iX0 hown C0.1 hP 1 rfl rfl 5 (by decide) (hts (.fieldLink RX2 57 "Ringresonance$Layout" "seconds" "[I") (by decide +kernel)) (fun _ h9 => h9) rfl dX2_huntOne_53 ?_
    refine lv_iload_n hx hb dX2_huntOne_56 rfl (lv_at hl 2 rfl) ?_
    refine lv_bipush (v := nI 99) hx hb dX2_huntOne_57 (by decide) ?_
    refine lv_iconst (v := nI 0) hx hb dX2_huntOne_59 (by decide) ?_
    refine lv_iload hx hb dX2_huntOne_60 (lv_at hl 0 rfl) ?_
    refine va_mmax hx hb (hml.trans hl.1.symm) hown (hts (.methodLink RX2 60 Lib.Math.max.name) (by decide +kernel)) (hts (.static Lib.Math.max.name) (by decide +kernel)) (hts (.initialized "java/lang/Math") (by decide +kernel)) (hts (.code Lib.Math.max.name Lib.Math.max.code 2 (some .int)) (by decide +kernel)) (Nat.le_of_ble_eq_true rfl) (Nat.le_of_ble_eq_true rfl) (Nat.le_refl _) (Nat.le_refl _) dX2_huntOne_62 ?_
    refine va_mmin hx hb (hml.trans hl.1.symm) hown (hts (.methodLink RX2 66 Lib.Math.min.name) (by decide +kernel)) (hts (.static Lib.Math.min.name) (by decide +kernel)) (hts (.initialized "java/lang/Math") (by decide +kernel)) (hts (.code Lib.Math.min.name Lib.Math.min.code 2 (some .int)) (by decide +kernel)) (Nat.le_of_ble_eq_true rfl) (Nat.le_of_ble_eq_true rfl) (Nat.le_refl _) (Nat.le_refl _) dX2_huntOne_65 ?_
    refine lv_ri (y := (nI (hct (se pt) (hnD cx (bef pt) (dir pt))))) (hct_row hs hdl) ?_
    refine k_iast (e := pt) (v := (hct (se pt) (hnD cx (bef pt) (dir pt)))) (g := nI) (n := 16) hx hb C0 hP hD hS 2 rfl rfl (by omega) (by omega) dX2_huntOne_68 (fun H locs hP hD hS => ?_)
    have hP : va_P E.1 vwCl [(aLk, o2 aLy aLi aCh aLo aDi aDk aBe), (aLy, o0 (nI n) aK aX aY aF aS aL), (aS, ia E nI 16 (va_up se pt (hct (se pt) (hnD cx (bef pt) (dir pt))))), (aCh, ia E cL 16 chn), (aLo, ia E nI 16 los), (aDi, ia E cD 16 dir), (aDk, ia E nI 16 dkt), (aBe, ja E 16 (va_up bef pt cx))] H := hP
    have hD : va_D A [(aLk, o2 aLy aLi aCh aLo aDi aDk aBe), (aLy, o0 (nI n) aK aX aY aF aS aL), (aS, ia E nI 16 (va_up se pt (hct (se pt) (hnD cx (bef pt) (dir pt))))), (aCh, ia E cL 16 chn), (aLo, ia E nI 16 los), (aDi, ia E cD 16 dir), (aDk, ia E nI 16 dkt), (aBe, ja E 16 (va_up bef pt cx))] := hD
    refine lv_aload_n hx hb dX2_huntOne_69 rfl (lv_at hl 1 rfl) ?_
    refine va_get (D := E.1) (ci := 2) (v := .ref aDk) (C := RX2) (T := TX2) (N := 7) hx hb hts iX2 hown C0.1 hP 0 rfl rfl 5 (by decide) (hts (.fieldLink RX2 21 "Ringresonance$Locks" "darkTicks" "[I") (by decide +kernel)) (fun _ h9 => h9) rfl dX2_huntOne_70 ?_
    refine lv_iload_n hx hb dX2_huntOne_73 rfl (lv_at hl 2 rfl) ?_
    refine lv_lload_n hx hb dX2_huntOne_74 rfl (lv_at hl 3 rfl) ?_
    refine lv_lconst (v := 0) hx hb dX2_huntOne_75 (by decide) ?_
    refine W.lcmp hx hb dX2_huntOne_76 ?_
    refine lv_if_ne (tgt := 91) hx hb dX2_huntOne_77 (by decide) (fun c_2 => ?_) (fun c_2 => ?_)
    · skip
      have c_2 : ¬ (cx = 0) := fun h => c_2 ((lgc_eq).mpr h)
      refine lv_iconst (v := nI 0) hx hb dX2_huntOne_91 (by decide) ?_
      refine k_iast (e := pt) (v := 0) (g := nI) (n := 16) hx hb C0 hP hD hS 6 rfl rfl (by omega) (by omega) dX2_huntOne_92 (fun H locs hP hD hS => ?_)
      have hP : va_P E.1 vwCl [(aLk, o2 aLy aLi aCh aLo aDi aDk aBe), (aLy, o0 (nI n) aK aX aY aF aS aL), (aS, ia E nI 16 (va_up se pt (hct (se pt) (hnD cx (bef pt) (dir pt))))), (aCh, ia E cL 16 chn), (aLo, ia E nI 16 los), (aDi, ia E cD 16 dir), (aDk, ia E nI 16 (va_up dkt pt 0)), (aBe, ja E 16 (va_up bef pt cx))] H := hP
      have hD : va_D A [(aLk, o2 aLy aLi aCh aLo aDi aDk aBe), (aLy, o0 (nI n) aK aX aY aF aS aL), (aS, ia E nI 16 (va_up se pt (hct (se pt) (hnD cx (bef pt) (dir pt))))), (aCh, ia E cL 16 chn), (aLo, ia E nI 16 los), (aDi, ia E cD 16 dir), (aDk, ia E nI 16 (va_up dkt pt 0)), (aBe, ja E 16 (va_up bef pt cx))] := hD
      refine lv_aload_n hx hb dX2_huntOne_93 rfl (lv_at hl 1 rfl) ?_
      refine va_get (D := E.1) (ci := 2) (v := .ref aDk) (C := RX2) (T := TX2) (N := 7) hx hb hts iX2 hown C0.1 hP 0 rfl rfl 5 (by decide) (hts (.fieldLink RX2 21 "Ringresonance$Locks" "darkTicks" "[I") (by decide +kernel)) (fun _ h9 => h9) rfl dX2_huntOne_94 ?_
      refine lv_iload_n hx hb dX2_huntOne_97 rfl (lv_at hl 2 rfl) ?_
      refine k_iald (e := pt) (g := nI) (n := 16) hx hb C0 hP 6 rfl (by omega) (by omega) dX2_huntOne_98 ?_
      refine lv_ri (y := (nI (hnK cx (dkt pt)))) (by rw [va_up_same]; first | (rw [hnK, if_pos c_2]; done) | (rw [hnK, if_neg c_2]; done)) ?_
      refine lv_bipush (v := nI 8) hx hb dX2_huntOne_99 (by decide) ?_
      refine lv_icmp_lt (tgt := 121) hx hb dX2_huntOne_101 (by decide) (fun c_3 => ?_) (fun c_3 => ?_)
      · skip
        have c_3 : ¬ (8 ≤ hnK cx (dkt pt)) := (ci_ltn (by omega) (by omega)).mp c_3
        have q_4 : ((huO pt cx (se, chn, los, dir, dkt, bef)).1) = (va_up se pt (hct (se pt) (hnD cx (bef pt) (dir pt)))) := by first | rfl | (simp only [huO, hnK, if_pos c_1, if_pos c_2]; done) | (simp only [huO, if_pos c_3]; done) | (simp only [huO, if_neg c_3]; done) | (simp only [huO, if_pos c_1]; done) | (simp only [huO, if_neg c_1]; done) | (simp only [huO, hnK, if_pos c_2]; done) | (simp only [huO, hnK, if_neg c_2]; done)
        have q_5 : ((huO pt cx (se, chn, los, dir, dkt, bef)).2.1) = chn := by first | rfl | (simp only [huO, hnK, if_pos c_1, if_pos c_2]; done) | (simp only [huO, if_pos c_3]; done) | (simp only [huO, if_neg c_3]; done) | (simp only [huO, if_pos c_1]; done) | (simp only [huO, if_neg c_1]; done) | (simp only [huO, hnK, if_pos c_2]; done) | (simp only [huO, hnK, if_neg c_2]; done)
        have q_6 : ((huO pt cx (se, chn, los, dir, dkt, bef)).2.2.1) = los := by first | rfl | (simp only [huO, hnK, if_pos c_1, if_pos c_2]; done) | (simp only [huO, if_pos c_3]; done) | (simp only [huO, if_neg c_3]; done) | (simp only [huO, if_pos c_1]; done) | (simp only [huO, if_neg c_1]; done) | (simp only [huO, hnK, if_pos c_2]; done) | (simp only [huO, hnK, if_neg c_2]; done)
        have q_7 : ((huO pt cx (se, chn, los, dir, dkt, bef)).2.2.2.1) = dir := by first | rfl | (simp only [huO, hnK, if_pos c_1, if_pos c_2]; done) | (simp only [huO, if_pos c_3]; done) | (simp only [huO, if_neg c_3]; done) | (simp only [huO, if_pos c_1]; done) | (simp only [huO, if_neg c_1]; done) | (simp only [huO, hnK, if_pos c_2]; done) | (simp only [huO, hnK, if_neg c_2]; done)
        have q_8 : ((huO pt cx (se, chn, los, dir, dkt, bef)).2.2.2.2.1) = (va_up dkt pt 0) := by first | rfl | (simp only [huO, hnK, if_pos c_1, if_pos c_2]; done) | (simp only [huO, if_pos c_3]; done) | (simp only [huO, if_neg c_3]; done) | (simp only [huO, if_pos c_1]; done) | (simp only [huO, if_neg c_1]; done) | (simp only [huO, hnK, if_pos c_2]; done) | (simp only [huO, hnK, if_neg c_2]; done)
        have q_9 : ((huO pt cx (se, chn, los, dir, dkt, bef)).2.2.2.2.2) = (va_up bef pt cx) := by first | rfl | (simp only [huO, hnK, if_pos c_1, if_pos c_2]; done) | (simp only [huO, if_pos c_3]; done) | (simp only [huO, if_neg c_3]; done) | (simp only [huO, if_pos c_1]; done) | (simp only [huO, if_neg c_1]; done) | (simp only [huO, hnK, if_pos c_2]; done) | (simp only [huO, hnK, if_neg c_2]; done)
        have hP : va_P E.1 vwCl [(aLk, o2 aLy aLi aCh aLo aDi aDk aBe), (aLy, o0 (nI n) aK aX aY aF aS aL), (aS, ia E nI 16 ((huO pt cx (se, chn, los, dir, dkt, bef)).1)), (aCh, ia E cL 16 ((huO pt cx (se, chn, los, dir, dkt, bef)).2.1)), (aLo, ia E nI 16 ((huO pt cx (se, chn, los, dir, dkt, bef)).2.2.1)), (aDi, ia E cD 16 ((huO pt cx (se, chn, los, dir, dkt, bef)).2.2.2.1)), (aDk, ia E nI 16 ((huO pt cx (se, chn, los, dir, dkt, bef)).2.2.2.2.1)), (aBe, ja E 16 ((huO pt cx (se, chn, los, dir, dkt, bef)).2.2.2.2.2))] H := by rw [q_4, q_5, q_6, q_7, q_8, q_9]; exact hP
        have hD : va_D A [(aLk, o2 aLy aLi aCh aLo aDi aDk aBe), (aLy, o0 (nI n) aK aX aY aF aS aL), (aS, ia E nI 16 ((huO pt cx (se, chn, los, dir, dkt, bef)).1)), (aCh, ia E cL 16 ((huO pt cx (se, chn, los, dir, dkt, bef)).2.1)), (aLo, ia E nI 16 ((huO pt cx (se, chn, los, dir, dkt, bef)).2.2.1)), (aDi, ia E cD 16 ((huO pt cx (se, chn, los, dir, dkt, bef)).2.2.2.1)), (aDk, ia E nI 16 ((huO pt cx (se, chn, los, dir, dkt, bef)).2.2.2.2.1)), (aBe, ja E 16 ((huO pt cx (se, chn, los, dir, dkt, bef)).2.2.2.2.2))] := by rw [q_4, q_5, q_6, q_7, q_8, q_9]; exact hD
        exact exV hx hb hr hlocks hAe hS () trivial hP hD dX2_huntOne_121
      · skip
        have c_3 : (8 ≤ hnK cx (dkt pt)) := Decidable.byContradiction (fun h => c_3 ((ci_ltn (by omega) (by omega)).mpr h))
        refine lv_aload_n hx hb dX2_huntOne_104 rfl (lv_at hl 1 rfl) ?_
        refine va_get (D := E.1) (ci := 2) (v := .ref aCh) (C := RX2) (T := TX2) (N := 7) hx hb hts iX2 hown C0.1 hP 0 rfl rfl 2 (by decide) (hts (.fieldLink RX2 9 "Ringresonance$Locks" "channels" "[I") (by decide +kernel)) (fun _ h9 => h9) rfl dX2_huntOne_105 ?_
        refine lv_iload_n hx hb dX2_huntOne_108 rfl (lv_at hl 2 rfl) ?_
        refine lv_iconst (v := -1) hx hb dX2_huntOne_109 (by decide) ?_
        refine k_iast (e := pt) (v := 0) (g := cL) (n := 16) hx hb C0 hP hD hS 3 rfl (by decide) (by omega) (by omega) dX2_huntOne_110 (fun H locs hP hD hS => ?_)
        have hP : va_P E.1 vwCl [(aLk, o2 aLy aLi aCh aLo aDi aDk aBe), (aLy, o0 (nI n) aK aX aY aF aS aL), (aS, ia E nI 16 (va_up se pt (hct (se pt) (hnD cx (bef pt) (dir pt))))), (aCh, ia E cL 16 (va_up chn pt 0)), (aLo, ia E nI 16 los), (aDi, ia E cD 16 dir), (aDk, ia E nI 16 (va_up dkt pt 0)), (aBe, ja E 16 (va_up bef pt cx))] H := hP
        have hD : va_D A [(aLk, o2 aLy aLi aCh aLo aDi aDk aBe), (aLy, o0 (nI n) aK aX aY aF aS aL), (aS, ia E nI 16 (va_up se pt (hct (se pt) (hnD cx (bef pt) (dir pt))))), (aCh, ia E cL 16 (va_up chn pt 0)), (aLo, ia E nI 16 los), (aDi, ia E cD 16 dir), (aDk, ia E nI 16 (va_up dkt pt 0)), (aBe, ja E 16 (va_up bef pt cx))] := hD
        refine lv_aload_n hx hb dX2_huntOne_111 rfl (lv_at hl 1 rfl) ?_
        refine va_get (D := E.1) (ci := 2) (v := .ref aLo) (C := RX2) (T := TX2) (N := 7) hx hb hts iX2 hown C0.1 hP 0 rfl rfl 3 (by decide) (hts (.fieldLink RX2 15 "Ringresonance$Locks" "losts" "[I") (by decide +kernel)) (fun _ h9 => h9) rfl dX2_huntOne_112 ?_
        refine lv_iload_n hx hb dX2_huntOne_115 rfl (lv_at hl 2 rfl) ?_
        refine lv_dup2_11 hx hb dX2_huntOne_116 rfl rfl ?_
        refine k_iald (e := pt) (g := nI) (n := 16) hx hb C0 hP 4 rfl (by omega) (by omega) dX2_huntOne_117 ?_
        refine lv_iconst (v := nI 1) hx hb dX2_huntOne_118 (by decide) ?_
        refine lv_iadd hx hb dX2_huntOne_119 ?_
        refine lv_ri (y := (nI ((los pt) + 1))) (nI_add (los pt) 1) ?_
        refine k_iast (e := pt) (v := ((los pt) + 1)) (g := nI) (n := 16) hx hb C0 hP hD hS 4 rfl rfl (by omega) (by omega) dX2_huntOne_120 (fun H locs hP hD hS => ?_)
        have hP : va_P E.1 vwCl [(aLk, o2 aLy aLi aCh aLo aDi aDk aBe), (aLy, o0 (nI n) aK aX aY aF aS aL), (aS, ia E nI 16 (va_up se pt (hct (se pt) (hnD cx (bef pt) (dir pt))))), (aCh, ia E cL 16 (va_up chn pt 0)), (aLo, ia E nI 16 (va_up los pt ((los pt) + 1))), (aDi, ia E cD 16 dir), (aDk, ia E nI 16 (va_up dkt pt 0)), (aBe, ja E 16 (va_up bef pt cx))] H := hP
        have hD : va_D A [(aLk, o2 aLy aLi aCh aLo aDi aDk aBe), (aLy, o0 (nI n) aK aX aY aF aS aL), (aS, ia E nI 16 (va_up se pt (hct (se pt) (hnD cx (bef pt) (dir pt))))), (aCh, ia E cL 16 (va_up chn pt 0)), (aLo, ia E nI 16 (va_up los pt ((los pt) + 1))), (aDi, ia E cD 16 dir), (aDk, ia E nI 16 (va_up dkt pt 0)), (aBe, ja E 16 (va_up bef pt cx))] := hD
        have q_10 : ((huO pt cx (se, chn, los, dir, dkt, bef)).1) = (va_up se pt (hct (se pt) (hnD cx (bef pt) (dir pt)))) := by first | rfl | (simp only [huO, hnK, if_pos c_1, if_pos c_2]; done) | (simp only [huO, if_pos c_3]; done) | (simp only [huO, if_neg c_3]; done) | (simp only [huO, if_pos c_1]; done) | (simp only [huO, if_neg c_1]; done) | (simp only [huO, hnK, if_pos c_2]; done) | (simp only [huO, hnK, if_neg c_2]; done)
        have q_11 : ((huO pt cx (se, chn, los, dir, dkt, bef)).2.1) = (va_up chn pt 0) := by first | rfl | (simp only [huO, hnK, if_pos c_1, if_pos c_2]; done) | (simp only [huO, if_pos c_3]; done) | (simp only [huO, if_neg c_3]; done) | (simp only [huO, if_pos c_1]; done) | (simp only [huO, if_neg c_1]; done) | (simp only [huO, hnK, if_pos c_2]; done) | (simp only [huO, hnK, if_neg c_2]; done)
        have q_12 : ((huO pt cx (se, chn, los, dir, dkt, bef)).2.2.1) = (va_up los pt ((los pt) + 1)) := by first | rfl | (simp only [huO, hnK, if_pos c_1, if_pos c_2]; done) | (simp only [huO, if_pos c_3]; done) | (simp only [huO, if_neg c_3]; done) | (simp only [huO, if_pos c_1]; done) | (simp only [huO, if_neg c_1]; done) | (simp only [huO, hnK, if_pos c_2]; done) | (simp only [huO, hnK, if_neg c_2]; done)
        have q_13 : ((huO pt cx (se, chn, los, dir, dkt, bef)).2.2.2.1) = dir := by first | rfl | (simp only [huO, hnK, if_pos c_1, if_pos c_2]; done) | (simp only [huO, if_pos c_3]; done) | (simp only [huO, if_neg c_3]; done) | (simp only [huO, if_pos c_1]; done) | (simp only [huO, if_neg c_1]; done) | (simp only [huO, hnK, if_pos c_2]; done) | (simp only [huO, hnK, if_neg c_2]; done)
        have q_14 : ((huO pt cx (se, chn, los, dir, dkt, bef)).2.2.2.2.1) = (va_up dkt pt 0) := by first | rfl | (simp only [huO, hnK, if_pos c_1, if_pos c_2]; done) | (simp only [huO, if_pos c_3]; done) | (simp only [huO, if_neg c_3]; done) | (simp only [huO, if_pos c_1]; done) | (simp only [huO, if_neg c_1]; done) | (simp only [huO, hnK, if_pos c_2]; done) | (simp only [huO, hnK, if_neg c_2]; done)
        have q_15 : ((huO pt cx (se, chn, los, dir, dkt, bef)).2.2.2.2.2) = (va_up bef pt cx) := by first | rfl | (simp only [huO, hnK, if_pos c_1, if_pos c_2]; done) | (simp only [huO, if_pos c_3]; done) | (simp only [huO, if_neg c_3]; done) | (simp only [huO, if_pos c_1]; done) | (simp only [huO, if_neg c_1]; done) | (simp only [huO, hnK, if_pos c_2]; done) | (simp only [huO, hnK, if_neg c_2]; done)
        have hP : va_P E.1 vwCl [(aLk, o2 aLy aLi aCh aLo aDi aDk aBe), (aLy, o0 (nI n) aK aX aY aF aS aL), (aS, ia E nI 16 ((huO pt cx (se, chn, los, dir, dkt, bef)).1)), (aCh, ia E cL 16 ((huO pt cx (se, chn, los, dir, dkt, bef)).2.1)), (aLo, ia E nI 16 ((huO pt cx (se, chn, los, dir, dkt, bef)).2.2.1)), (aDi, ia E cD 16 ((huO pt cx (se, chn, los, dir, dkt, bef)).2.2.2.1)), (aDk, ia E nI 16 ((huO pt cx (se, chn, los, dir, dkt, bef)).2.2.2.2.1)), (aBe, ja E 16 ((huO pt cx (se, chn, los, dir, dkt, bef)).2.2.2.2.2))] H := by rw [q_10, q_11, q_12, q_13, q_14, q_15]; exact hP
        have hD : va_D A [(aLk, o2 aLy aLi aCh aLo aDi aDk aBe), (aLy, o0 (nI n) aK aX aY aF aS aL), (aS, ia E nI 16 ((huO pt cx (se, chn, los, dir, dkt, bef)).1)), (aCh, ia E cL 16 ((huO pt cx (se, chn, los, dir, dkt, bef)).2.1)), (aLo, ia E nI 16 ((huO pt cx (se, chn, los, dir, dkt, bef)).2.2.1)), (aDi, ia E cD 16 ((huO pt cx (se, chn, los, dir, dkt, bef)).2.2.2.1)), (aDk, ia E nI 16 ((huO pt cx (se, chn, los, dir, dkt, bef)).2.2.2.2.1)), (aBe, ja E 16 ((huO pt cx (se, chn, los, dir, dkt, bef)).2.2.2.2.2))] := by rw [q_10, q_11, q_12, q_13, q_14, q_15]; exact hD
        exact exV hx hb hr hlocks hAe hS () trivial hP hD dX2_huntOne_121
    · skip
      have c_2 : cx = 0 := (lgc_eq).mp c_2
      refine lv_aload_n hx hb dX2_huntOne_80 rfl (lv_at hl 1 rfl) ?_
      refine va_get (D := E.1) (ci := 2) (v := .ref aDk) (C := RX2) (T := TX2) (N := 7) hx hb hts iX2 hown C0.1 hP 0 rfl rfl 5 (by decide) (hts (.fieldLink RX2 21 "Ringresonance$Locks" "darkTicks" "[I") (by decide +kernel)) (fun _ h9 => h9) rfl dX2_huntOne_81 ?_
      refine lv_iload_n hx hb dX2_huntOne_84 rfl (lv_at hl 2 rfl) ?_
      refine k_iald (e := pt) (g := nI) (n := 16) hx hb C0 hP 6 rfl (by omega) (by omega) dX2_huntOne_85 ?_
      refine lv_iconst (v := nI 1) hx hb dX2_huntOne_86 (by decide) ?_
      refine lv_iadd hx hb dX2_huntOne_87 ?_
      refine lv_ri (y := (nI ((dkt pt) + 1))) (nI_add (dkt pt) 1) ?_
      refine lv_goto (tgt := 92) hx hb dX2_huntOne_88 (by decide) ?_
      refine k_iast (e := pt) (v := ((dkt pt) + 1)) (g := nI) (n := 16) hx hb C0 hP hD hS 6 rfl rfl (by omega) (by omega) dX2_huntOne_92 (fun H locs hP hD hS => ?_)
      have hP : va_P E.1 vwCl [(aLk, o2 aLy aLi aCh aLo aDi aDk aBe), (aLy, o0 (nI n) aK aX aY aF aS aL), (aS, ia E nI 16 (va_up se pt (hct (se pt) (hnD cx (bef pt) (dir pt))))), (aCh, ia E cL 16 chn), (aLo, ia E nI 16 los), (aDi, ia E cD 16 dir), (aDk, ia E nI 16 (va_up dkt pt ((dkt pt) + 1))), (aBe, ja E 16 (va_up bef pt cx))] H := hP
      have hD : va_D A [(aLk, o2 aLy aLi aCh aLo aDi aDk aBe), (aLy, o0 (nI n) aK aX aY aF aS aL), (aS, ia E nI 16 (va_up se pt (hct (se pt) (hnD cx (bef pt) (dir pt))))), (aCh, ia E cL 16 chn), (aLo, ia E nI 16 los), (aDi, ia E cD 16 dir), (aDk, ia E nI 16 (va_up dkt pt ((dkt pt) + 1))), (aBe, ja E 16 (va_up bef pt cx))] := hD
      refine lv_aload_n hx hb dX2_huntOne_93 rfl (lv_at hl 1 rfl) ?_
      refine va_get (D := E.1) (ci := 2) (v := .ref aDk) (C := RX2) (T := TX2) (N := 7) hx hb hts iX2 hown C0.1 hP 0 rfl rfl 5 (by decide) (hts (.fieldLink RX2 21 "Ringresonance$Locks" "darkTicks" "[I") (by decide +kernel)) (fun _ h9 => h9) rfl dX2_huntOne_94 ?_
      refine lv_iload_n hx hb dX2_huntOne_97 rfl (lv_at hl 2 rfl) ?_
      refine k_iald (e := pt) (g := nI) (n := 16) hx hb C0 hP 6 rfl (by omega) (by omega) dX2_huntOne_98 ?_
      refine lv_ri (y := (nI (hnK cx (dkt pt)))) (by rw [va_up_same]; first | (rw [hnK, if_pos c_2]; done) | (rw [hnK, if_neg c_2]; done)) ?_
      refine lv_bipush (v := nI 8) hx hb dX2_huntOne_99 (by decide) ?_
      refine lv_icmp_lt (tgt := 121) hx hb dX2_huntOne_101 (by decide) (fun c_16 => ?_) (fun c_16 => ?_)
      · skip
        have c_16 : ¬ (8 ≤ hnK cx (dkt pt)) := (ci_ltn (by omega) (by omega)).mp c_16
        have q_17 : ((huO pt cx (se, chn, los, dir, dkt, bef)).1) = (va_up se pt (hct (se pt) (hnD cx (bef pt) (dir pt)))) := by first | rfl | (simp only [huO, hnK, if_pos c_1, if_pos c_2]; done) | (simp only [huO, if_pos c_16]; done) | (simp only [huO, if_neg c_16]; done) | (simp only [huO, if_pos c_1]; done) | (simp only [huO, if_neg c_1]; done) | (simp only [huO, hnK, if_pos c_2]; done) | (simp only [huO, hnK, if_neg c_2]; done)
        have q_18 : ((huO pt cx (se, chn, los, dir, dkt, bef)).2.1) = chn := by first | rfl | (simp only [huO, hnK, if_pos c_1, if_pos c_2]; done) | (simp only [huO, if_pos c_16]; done) | (simp only [huO, if_neg c_16]; done) | (simp only [huO, if_pos c_1]; done) | (simp only [huO, if_neg c_1]; done) | (simp only [huO, hnK, if_pos c_2]; done) | (simp only [huO, hnK, if_neg c_2]; done)
        have q_19 : ((huO pt cx (se, chn, los, dir, dkt, bef)).2.2.1) = los := by first | rfl | (simp only [huO, hnK, if_pos c_1, if_pos c_2]; done) | (simp only [huO, if_pos c_16]; done) | (simp only [huO, if_neg c_16]; done) | (simp only [huO, if_pos c_1]; done) | (simp only [huO, if_neg c_1]; done) | (simp only [huO, hnK, if_pos c_2]; done) | (simp only [huO, hnK, if_neg c_2]; done)
        have q_20 : ((huO pt cx (se, chn, los, dir, dkt, bef)).2.2.2.1) = dir := by first | rfl | (simp only [huO, hnK, if_pos c_1, if_pos c_2]; done) | (simp only [huO, if_pos c_16]; done) | (simp only [huO, if_neg c_16]; done) | (simp only [huO, if_pos c_1]; done) | (simp only [huO, if_neg c_1]; done) | (simp only [huO, hnK, if_pos c_2]; done) | (simp only [huO, hnK, if_neg c_2]; done)
        have q_21 : ((huO pt cx (se, chn, los, dir, dkt, bef)).2.2.2.2.1) = (va_up dkt pt ((dkt pt) + 1)) := by first | rfl | (simp only [huO, hnK, if_pos c_1, if_pos c_2]; done) | (simp only [huO, if_pos c_16]; done) | (simp only [huO, if_neg c_16]; done) | (simp only [huO, if_pos c_1]; done) | (simp only [huO, if_neg c_1]; done) | (simp only [huO, hnK, if_pos c_2]; done) | (simp only [huO, hnK, if_neg c_2]; done)
        have q_22 : ((huO pt cx (se, chn, los, dir, dkt, bef)).2.2.2.2.2) = (va_up bef pt cx) := by first | rfl | (simp only [huO, hnK, if_pos c_1, if_pos c_2]; done) | (simp only [huO, if_pos c_16]; done) | (simp only [huO, if_neg c_16]; done) | (simp only [huO, if_pos c_1]; done) | (simp only [huO, if_neg c_1]; done) | (simp only [huO, hnK, if_pos c_2]; done) | (simp only [huO, hnK, if_neg c_2]; done)
        have hP : va_P E.1 vwCl [(aLk, o2 aLy aLi aCh aLo aDi aDk aBe), (aLy, o0 (nI n) aK aX aY aF aS aL), (aS, ia E nI 16 ((huO pt cx (se, chn, los, dir, dkt, bef)).1)), (aCh, ia E cL 16 ((huO pt cx (se, chn, los, dir, dkt, bef)).2.1)), (aLo, ia E nI 16 ((huO pt cx (se, chn, los, dir, dkt, bef)).2.2.1)), (aDi, ia E cD 16 ((huO pt cx (se, chn, los, dir, dkt, bef)).2.2.2.1)), (aDk, ia E nI 16 ((huO pt cx (se, chn, los, dir, dkt, bef)).2.2.2.2.1)), (aBe, ja E 16 ((huO pt cx (se, chn, los, dir, dkt, bef)).2.2.2.2.2))] H := by rw [q_17, q_18, q_19, q_20, q_21, q_22]; exact hP
        have hD : va_D A [(aLk, o2 aLy aLi aCh aLo aDi aDk aBe), (aLy, o0 (nI n) aK aX aY aF aS aL), (aS, ia E nI 16 ((huO pt cx (se, chn, los, dir, dkt, bef)).1)), (aCh, ia E cL 16 ((huO pt cx (se, chn, los, dir, dkt, bef)).2.1)), (aLo, ia E nI 16 ((huO pt cx (se, chn, los, dir, dkt, bef)).2.2.1)), (aDi, ia E cD 16 ((huO pt cx (se, chn, los, dir, dkt, bef)).2.2.2.1)), (aDk, ia E nI 16 ((huO pt cx (se, chn, los, dir, dkt, bef)).2.2.2.2.1)), (aBe, ja E 16 ((huO pt cx (se, chn, los, dir, dkt, bef)).2.2.2.2.2))] := by rw [q_17, q_18, q_19, q_20, q_21, q_22]; exact hD
        exact exV hx hb hr hlocks hAe hS () trivial hP hD dX2_huntOne_121
      · skip
        have c_16 : (8 ≤ hnK cx (dkt pt)) := Decidable.byContradiction (fun h => c_16 ((ci_ltn (by omega) (by omega)).mpr h))
        refine lv_aload_n hx hb dX2_huntOne_104 rfl (lv_at hl 1 rfl) ?_
        refine va_get (D := E.1) (ci := 2) (v := .ref aCh) (C := RX2) (T := TX2) (N := 7) hx hb hts iX2 hown C0.1 hP 0 rfl rfl 2 (by decide) (hts (.fieldLink RX2 9 "Ringresonance$Locks" "channels" "[I") (by decide +kernel)) (fun _ h9 => h9) rfl dX2_huntOne_105 ?_
        refine lv_iload_n hx hb dX2_huntOne_108 rfl (lv_at hl 2 rfl) ?_
        refine lv_iconst (v := -1) hx hb dX2_huntOne_109 (by decide) ?_
        refine k_iast (e := pt) (v := 0) (g := cL) (n := 16) hx hb C0 hP hD hS 3 rfl (by decide) (by omega) (by omega) dX2_huntOne_110 (fun H locs hP hD hS => ?_)
        have hP : va_P E.1 vwCl [(aLk, o2 aLy aLi aCh aLo aDi aDk aBe), (aLy, o0 (nI n) aK aX aY aF aS aL), (aS, ia E nI 16 (va_up se pt (hct (se pt) (hnD cx (bef pt) (dir pt))))), (aCh, ia E cL 16 (va_up chn pt 0)), (aLo, ia E nI 16 los), (aDi, ia E cD 16 dir), (aDk, ia E nI 16 (va_up dkt pt ((dkt pt) + 1))), (aBe, ja E 16 (va_up bef pt cx))] H := hP
        have hD : va_D A [(aLk, o2 aLy aLi aCh aLo aDi aDk aBe), (aLy, o0 (nI n) aK aX aY aF aS aL), (aS, ia E nI 16 (va_up se pt (hct (se pt) (hnD cx (bef pt) (dir pt))))), (aCh, ia E cL 16 (va_up chn pt 0)), (aLo, ia E nI 16 los), (aDi, ia E cD 16 dir), (aDk, ia E nI 16 (va_up dkt pt ((dkt pt) + 1))), (aBe, ja E 16 (va_up bef pt cx))] := hD
        refine lv_aload_n hx hb dX2_huntOne_111 rfl (lv_at hl 1 rfl) ?_
        refine va_get (D := E.1) (ci := 2) (v := .ref aLo) (C := RX2) (T := TX2) (N := 7) hx hb hts iX2 hown C0.1 hP 0 rfl rfl 3 (by decide) (hts (.fieldLink RX2 15 "Ringresonance$Locks" "losts" "[I") (by decide +kernel)) (fun _ h9 => h9) rfl dX2_huntOne_112 ?_
        refine lv_iload_n hx hb dX2_huntOne_115 rfl (lv_at hl 2 rfl) ?_
        refine lv_dup2_11 hx hb dX2_huntOne_116 rfl rfl ?_
        refine k_iald (e := pt) (g := nI) (n := 16) hx hb C0 hP 4 rfl (by omega) (by omega) dX2_huntOne_117 ?_
        refine lv_iconst (v := nI 1) hx hb dX2_huntOne_118 (by decide) ?_
        refine lv_iadd hx hb dX2_huntOne_119 ?_
        refine lv_ri (y := (nI ((los pt) + 1))) (nI_add (los pt) 1) ?_
        refine k_iast (e := pt) (v := ((los pt) + 1)) (g := nI) (n := 16) hx hb C0 hP hD hS 4 rfl rfl (by omega) (by omega) dX2_huntOne_120 (fun H locs hP hD hS => ?_)
        have hP : va_P E.1 vwCl [(aLk, o2 aLy aLi aCh aLo aDi aDk aBe), (aLy, o0 (nI n) aK aX aY aF aS aL), (aS, ia E nI 16 (va_up se pt (hct (se pt) (hnD cx (bef pt) (dir pt))))), (aCh, ia E cL 16 (va_up chn pt 0)), (aLo, ia E nI 16 (va_up los pt ((los pt) + 1))), (aDi, ia E cD 16 dir), (aDk, ia E nI 16 (va_up dkt pt ((dkt pt) + 1))), (aBe, ja E 16 (va_up bef pt cx))] H := hP
        have hD : va_D A [(aLk, o2 aLy aLi aCh aLo aDi aDk aBe), (aLy, o0 (nI n) aK aX aY aF aS aL), (aS, ia E nI 16 (va_up se pt (hct (se pt) (hnD cx (bef pt) (dir pt))))), (aCh, ia E cL 16 (va_up chn pt 0)), (aLo, ia E nI 16 (va_up los pt ((los pt) + 1))), (aDi, ia E cD 16 dir), (aDk, ia E nI 16 (va_up dkt pt ((dkt pt) + 1))), (aBe, ja E 16 (va_up bef pt cx))] := hD
        have q_23 : ((huO pt cx (se, chn, los, dir, dkt, bef)).1) = (va_up se pt (hct (se pt) (hnD cx (bef pt) (dir pt)))) := by first | rfl | (simp only [huO, hnK, if_pos c_1, if_pos c_2]; done) | (simp only [huO, if_pos c_16]; done) | (simp only [huO, if_neg c_16]; done) | (simp only [huO, if_pos c_1]; done) | (simp only [huO, if_neg c_1]; done) | (simp only [huO, hnK, if_pos c_2]; done) | (simp only [huO, hnK, if_neg c_2]; done)
        have q_24 : ((huO pt cx (se, chn, los, dir, dkt, bef)).2.1) = (va_up chn pt 0) := by first | rfl | (simp only [huO, hnK, if_pos c_1, if_pos c_2]; done) | (simp only [huO, if_pos c_16]; done) | (simp only [huO, if_neg c_16]; done) | (simp only [huO, if_pos c_1]; done) | (simp only [huO, if_neg c_1]; done) | (simp only [huO, hnK, if_pos c_2]; done) | (simp only [huO, hnK, if_neg c_2]; done)
        have q_25 : ((huO pt cx (se, chn, los, dir, dkt, bef)).2.2.1) = (va_up los pt ((los pt) + 1)) := by first | rfl | (simp only [huO, hnK, if_pos c_1, if_pos c_2]; done) | (simp only [huO, if_pos c_16]; done) | (simp only [huO, if_neg c_16]; done) | (simp only [huO, if_pos c_1]; done) | (simp only [huO, if_neg c_1]; done) | (simp only [huO, hnK, if_pos c_2]; done) | (simp only [huO, hnK, if_neg c_2]; done)
        have q_26 : ((huO pt cx (se, chn, los, dir, dkt, bef)).2.2.2.1) = dir := by first | rfl | (simp only [huO, hnK, if_pos c_1, if_pos c_2]; done) | (simp only [huO, if_pos c_16]; done) | (simp only [huO, if_neg c_16]; done) | (simp only [huO, if_pos c_1]; done) | (simp only [huO, if_neg c_1]; done) | (simp only [huO, hnK, if_pos c_2]; done) | (simp only [huO, hnK, if_neg c_2]; done)
        have q_27 : ((huO pt cx (se, chn, los, dir, dkt, bef)).2.2.2.2.1) = (va_up dkt pt ((dkt pt) + 1)) := by first | rfl | (simp only [huO, hnK, if_pos c_1, if_pos c_2]; done) | (simp only [huO, if_pos c_16]; done) | (simp only [huO, if_neg c_16]; done) | (simp only [huO, if_pos c_1]; done) | (simp only [huO, if_neg c_1]; done) | (simp only [huO, hnK, if_pos c_2]; done) | (simp only [huO, hnK, if_neg c_2]; done)
        have q_28 : ((huO pt cx (se, chn, los, dir, dkt, bef)).2.2.2.2.2) = (va_up bef pt cx) := by first | rfl | (simp only [huO, hnK, if_pos c_1, if_pos c_2]; done) | (simp only [huO, if_pos c_16]; done) | (simp only [huO, if_neg c_16]; done) | (simp only [huO, if_pos c_1]; done) | (simp only [huO, if_neg c_1]; done) | (simp only [huO, hnK, if_pos c_2]; done) | (simp only [huO, hnK, if_neg c_2]; done)
        have hP : va_P E.1 vwCl [(aLk, o2 aLy aLi aCh aLo aDi aDk aBe), (aLy, o0 (nI n) aK aX aY aF aS aL), (aS, ia E nI 16 ((huO pt cx (se, chn, los, dir, dkt, bef)).1)), (aCh, ia E cL 16 ((huO pt cx (se, chn, los, dir, dkt, bef)).2.1)), (aLo, ia E nI 16 ((huO pt cx (se, chn, los, dir, dkt, bef)).2.2.1)), (aDi, ia E cD 16 ((huO pt cx (se, chn, los, dir, dkt, bef)).2.2.2.1)), (aDk, ia E nI 16 ((huO pt cx (se, chn, los, dir, dkt, bef)).2.2.2.2.1)), (aBe, ja E 16 ((huO pt cx (se, chn, los, dir, dkt, bef)).2.2.2.2.2))] H := by rw [q_23, q_24, q_25, q_26, q_27, q_28]; exact hP
        have hD : va_D A [(aLk, o2 aLy aLi aCh aLo aDi aDk aBe), (aLy, o0 (nI n) aK aX aY aF aS aL), (aS, ia E nI 16 ((huO pt cx (se, chn, los, dir, dkt, bef)).1)), (aCh, ia E cL 16 ((huO pt cx (se, chn, los, dir, dkt, bef)).2.1)), (aLo, ia E nI 16 ((huO pt cx (se, chn, los, dir, dkt, bef)).2.2.1)), (aDi, ia E cD 16 ((huO pt cx (se, chn, los, dir, dkt, bef)).2.2.2.1)), (aDk, ia E nI 16 ((huO pt cx (se, chn, los, dir, dkt, bef)).2.2.2.2.1)), (aBe, ja E 16 ((huO pt cx (se, chn, los, dir, dkt, bef)).2.2.2.2.2))] := by rw [q_23, q_24, q_25, q_26, q_27, q_28]; exact hD
        exact exV hx hb hr hlocks hAe hS () trivial hP hD dX2_huntOne_121
  · skip
    have c_1 : (cx < (bef pt)) := Decidable.byContradiction (fun h => c_1 ((lgc_ge).mpr h))
    refine lv_aload_n hx hb dX2_huntOne_11 rfl (lv_at hl 0 rfl) ?_
    refine va_get (D := E.1) (ci := 2) (v := .ref aDi) (C := RX2) (T := TX2) (N := 7) hx hb hts iX2 hown C0.1 hP 0 rfl rfl 4 (by decide) (hts (.fieldLink RX2 18 "Ringresonance$Locks" "directions" "[I") (by decide +kernel)) (fun _ h9 => h9) rfl dX2_huntOne_12 ?_
    refine lv_iload_n hx hb dX2_huntOne_15 rfl (lv_at hl 1 rfl) ?_
    refine lv_aload_n hx hb dX2_huntOne_16 rfl (lv_at hl 0 rfl) ?_
    refine va_get (D := E.1) (ci := 2) (v := .ref aDi) (C := RX2) (T := TX2) (N := 7) hx hb hts iX2 hown C0.1 hP 0 rfl rfl 4 (by decide) (hts (.fieldLink RX2 18 "Ringresonance$Locks" "directions" "[I") (by decide +kernel)) (fun _ h9 => h9) rfl dX2_huntOne_17 ?_
    refine lv_iload_n hx hb dX2_huntOne_20 rfl (lv_at hl 1 rfl) ?_
    refine k_iald (e := pt) (g := cD) (n := 16) hx hb C0 hP 5 rfl (by omega) (by omega) dX2_huntOne_21 ?_
    refine lv_ineg hx hb dX2_huntOne_22 ?_
    refine lv_ri (y := (cD (ngD (dir pt)))) (ngD_row (by omega)) ?_
    refine k_iast (e := pt) (v := (ngD (dir pt))) (g := cD) (n := 16) hx hb C0 hP hD hS 5 rfl rfl (by omega) (by omega) dX2_huntOne_23 (fun H locs hP hD hS => ?_)
    have hP : va_P E.1 vwCl [(aLk, o2 aLy aLi aCh aLo aDi aDk aBe), (aLy, o0 (nI n) aK aX aY aF aS aL), (aS, ia E nI 16 se), (aCh, ia E cL 16 chn), (aLo, ia E nI 16 los), (aDi, ia E cD 16 (va_up dir pt (ngD (dir pt)))), (aDk, ia E nI 16 dkt), (aBe, ja E 16 bef)] H := hP
    have hD : va_D A [(aLk, o2 aLy aLi aCh aLo aDi aDk aBe), (aLy, o0 (nI n) aK aX aY aF aS aL), (aS, ia E nI 16 se), (aCh, ia E cL 16 chn), (aLo, ia E nI 16 los), (aDi, ia E cD 16 (va_up dir pt (ngD (dir pt)))), (aDk, ia E nI 16 dkt), (aBe, ja E 16 bef)] := hD
    refine lv_aload_n hx hb dX2_huntOne_24 rfl (lv_at hl 0 rfl) ?_
    refine va_get (D := E.1) (ci := 2) (v := .ref aBe) (C := RX2) (T := TX2) (N := 7) hx hb hts iX2 hown C0.1 hP 0 rfl rfl 6 (by decide) (hts (.fieldLink RX2 24 "Ringresonance$Locks" "befores" "[J") (by decide +kernel)) (fun _ h9 => h9) rfl dX2_huntOne_25 ?_
    refine lv_iload_n hx hb dX2_huntOne_28 rfl (lv_at hl 1 rfl) ?_
    refine lv_lload_n hx hb dX2_huntOne_29 rfl (lv_at hl 2 rfl) ?_
    refine k_last (e := pt) (n := 16) hx hb C0 hP hD hS 7 rfl (by omega) (by omega) dX2_huntOne_30 (fun H locs hP hD hS => ?_)
    have hP : va_P E.1 vwCl [(aLk, o2 aLy aLi aCh aLo aDi aDk aBe), (aLy, o0 (nI n) aK aX aY aF aS aL), (aS, ia E nI 16 se), (aCh, ia E cL 16 chn), (aLo, ia E nI 16 los), (aDi, ia E cD 16 (va_up dir pt (ngD (dir pt)))), (aDk, ia E nI 16 dkt), (aBe, ja E 16 (va_up bef pt cx))] H := hP
    have hD : va_D A [(aLk, o2 aLy aLi aCh aLo aDi aDk aBe), (aLy, o0 (nI n) aK aX aY aF aS aL), (aS, ia E nI 16 se), (aCh, ia E cL 16 chn), (aLo, ia E nI 16 los), (aDi, ia E cD 16 (va_up dir pt (ngD (dir pt)))), (aDk, ia E nI 16 dkt), (aBe, ja E 16 (va_up bef pt cx))] := hD
    refine lv_aload_n hx hb dX2_huntOne_31 rfl (lv_at hl 0 rfl) ?_
    refine va_get (D := E.1) (ci := 2) (v := .ref aLy) (C := RX2) (T := TX2) (N := 7) hx hb hts iX2 hown C0.1 hP 0 rfl rfl 0 (by decide) (hts (.fieldLink RX2 28 "Ringresonance$Locks" "layout" "LRingresonance$Layout;") (by decide +kernel)) (fun _ h9 => h9) rfl dX2_huntOne_32 ?_
    refine va_get (D := E.1) (ci := 0) (v := .ref aS) (C := RX0) (T := TX0) (N := 7) hx hb hts iX0 hown C0.1 hP 1 rfl rfl 5 (by decide) (hts (.fieldLink RX2 57 "Ringresonance$Layout" "seconds" "[I") (by decide +kernel)) (fun _ h9 => h9) rfl dX2_huntOne_35 ?_
    refine lv_iload_n hx hb dX2_huntOne_38 rfl (lv_at hl 1 rfl) ?_
    refine k_iald (e := pt) (g := nI) (n := 16) hx hb C0 hP 2 rfl (by omega) (by omega) dX2_huntOne_39 ?_
    refine lv_aload_n hx hb dX2_huntOne_40 rfl (lv_at hl 0 rfl) ?_
    refine va_get (D := E.1) (ci := 2) (v := .ref aDi) (C := RX2) (T := TX2) (N := 7) hx hb hts iX2 hown C0.1 hP 0 rfl rfl 4 (by decide) (hts (.fieldLink RX2 18 "Ringresonance$Locks" "directions" "[I") (by decide +kernel)) (fun _ h9 => h9) rfl dX2_huntOne_41 ?_
    refine lv_iload_n hx hb dX2_huntOne_44 rfl (lv_at hl 1 rfl) ?_
    refine k_iald (e := pt) (g := cD) (n := 16) hx hb C0 hP 5 rfl (by omega) (by omega) dX2_huntOne_45 ?_
    refine lv_ri (y := (cD (hnD cx (bef pt) (dir pt)))) (by rw [va_up_same, hnD, if_pos c_1]) ?_
    refine lv_iadd hx hb dX2_huntOne_46 ?_
    refine lv_istore (lv' := [(4, .int ((nI (se pt)) + (cD (hnD cx (bef pt) (dir pt))))), (0, .ref aLk), (1, .int (nI pt)), (2, .long cx)]) hx hb dX2_huntOne_47 hl (by decide) rfl (fun ls hl => ?_)
    refine lv_aload_n hx hb dX2_huntOne_49 rfl (lv_at hl 1 rfl) ?_
    refine va_get (D := E.1) (ci := 2) (v := .ref aLy) (C := RX2) (T := TX2) (N := 7) hx hb hts iX2 hown C0.1 hP 0 rfl rfl 0 (by decide) (hts (.fieldLink RX2 28 "Ringresonance$Locks" "layout" "LRingresonance$Layout;") (by decide +kernel)) (fun _ h9 => h9) rfl dX2_huntOne_50 ?_
    refine va_get (D := E.1) (ci := 0) (v := .ref aS) (C := RX0) (T := TX0) (N := 7) hx hb hts iX0 hown C0.1 hP 1 rfl rfl 5 (by decide) (hts (.fieldLink RX2 57 "Ringresonance$Layout" "seconds" "[I") (by decide +kernel)) (fun _ h9 => h9) rfl dX2_huntOne_53 ?_
    refine lv_iload_n hx hb dX2_huntOne_56 rfl (lv_at hl 2 rfl) ?_
    refine lv_bipush (v := nI 99) hx hb dX2_huntOne_57 (by decide) ?_
    refine lv_iconst (v := nI 0) hx hb dX2_huntOne_59 (by decide) ?_
    refine lv_iload hx hb dX2_huntOne_60 (lv_at hl 0 rfl) ?_
    refine va_mmax hx hb (hml.trans hl.1.symm) hown (hts (.methodLink RX2 60 Lib.Math.max.name) (by decide +kernel)) (hts (.static Lib.Math.max.name) (by decide +kernel)) (hts (.initialized "java/lang/Math") (by decide +kernel)) (hts (.code Lib.Math.max.name Lib.Math.max.code 2 (some .int)) (by decide +kernel)) (Nat.le_of_ble_eq_true rfl) (Nat.le_of_ble_eq_true rfl) (Nat.le_refl _) (Nat.le_refl _) dX2_huntOne_62 ?_
    refine va_mmin hx hb (hml.trans hl.1.symm) hown (hts (.methodLink RX2 66 Lib.Math.min.name) (by decide +kernel)) (hts (.static Lib.Math.min.name) (by decide +kernel)) (hts (.initialized "java/lang/Math") (by decide +kernel)) (hts (.code Lib.Math.min.name Lib.Math.min.code 2 (some .int)) (by decide +kernel)) (Nat.le_of_ble_eq_true rfl) (Nat.le_of_ble_eq_true rfl) (Nat.le_refl _) (Nat.le_refl _) dX2_huntOne_65 ?_
    refine lv_ri (y := (nI (hct (se pt) (hnD cx (bef pt) (dir pt))))) (hct_row hs hdl) ?_
    refine k_iast (e := pt) (v := (hct (se pt) (hnD cx (bef pt) (dir pt)))) (g := nI) (n := 16) hx hb C0 hP hD hS 2 rfl rfl (by omega) (by omega) dX2_huntOne_68 (fun H locs hP hD hS => ?_)
    have hP : va_P E.1 vwCl [(aLk, o2 aLy aLi aCh aLo aDi aDk aBe), (aLy, o0 (nI n) aK aX aY aF aS aL), (aS, ia E nI 16 (va_up se pt (hct (se pt) (hnD cx (bef pt) (dir pt))))), (aCh, ia E cL 16 chn), (aLo, ia E nI 16 los), (aDi, ia E cD 16 (va_up dir pt (ngD (dir pt)))), (aDk, ia E nI 16 dkt), (aBe, ja E 16 (va_up bef pt cx))] H := hP
    have hD : va_D A [(aLk, o2 aLy aLi aCh aLo aDi aDk aBe), (aLy, o0 (nI n) aK aX aY aF aS aL), (aS, ia E nI 16 (va_up se pt (hct (se pt) (hnD cx (bef pt) (dir pt))))), (aCh, ia E cL 16 chn), (aLo, ia E nI 16 los), (aDi, ia E cD 16 (va_up dir pt (ngD (dir pt)))), (aDk, ia E nI 16 dkt), (aBe, ja E 16 (va_up bef pt cx))] := hD
    refine lv_aload_n hx hb dX2_huntOne_69 rfl (lv_at hl 1 rfl) ?_
    refine va_get (D := E.1) (ci := 2) (v := .ref aDk) (C := RX2) (T := TX2) (N := 7) hx hb hts iX2 hown C0.1 hP 0 rfl rfl 5 (by decide) (hts (.fieldLink RX2 21 "Ringresonance$Locks" "darkTicks" "[I") (by decide +kernel)) (fun _ h9 => h9) rfl dX2_huntOne_70 ?_
    refine lv_iload_n hx hb dX2_huntOne_73 rfl (lv_at hl 2 rfl) ?_
    refine lv_lload_n hx hb dX2_huntOne_74 rfl (lv_at hl 3 rfl) ?_
    refine lv_lconst (v := 0) hx hb dX2_huntOne_75 (by decide) ?_
    refine W.lcmp hx hb dX2_huntOne_76 ?_
    refine lv_if_ne (tgt := 91) hx hb dX2_huntOne_77 (by decide) (fun c_29 => ?_) (fun c_29 => ?_)
    · skip
      have c_29 : ¬ (cx = 0) := fun h => c_29 ((lgc_eq).mpr h)
      refine lv_iconst (v := nI 0) hx hb dX2_huntOne_91 (by decide) ?_
      refine k_iast (e := pt) (v := 0) (g := nI) (n := 16) hx hb C0 hP hD hS 6 rfl rfl (by omega) (by omega) dX2_huntOne_92 (fun H locs hP hD hS => ?_)
      have hP : va_P E.1 vwCl [(aLk, o2 aLy aLi aCh aLo aDi aDk aBe), (aLy, o0 (nI n) aK aX aY aF aS aL), (aS, ia E nI 16 (va_up se pt (hct (se pt) (hnD cx (bef pt) (dir pt))))), (aCh, ia E cL 16 chn), (aLo, ia E nI 16 los), (aDi, ia E cD 16 (va_up dir pt (ngD (dir pt)))), (aDk, ia E nI 16 (va_up dkt pt 0)), (aBe, ja E 16 (va_up bef pt cx))] H := hP
      have hD : va_D A [(aLk, o2 aLy aLi aCh aLo aDi aDk aBe), (aLy, o0 (nI n) aK aX aY aF aS aL), (aS, ia E nI 16 (va_up se pt (hct (se pt) (hnD cx (bef pt) (dir pt))))), (aCh, ia E cL 16 chn), (aLo, ia E nI 16 los), (aDi, ia E cD 16 (va_up dir pt (ngD (dir pt)))), (aDk, ia E nI 16 (va_up dkt pt 0)), (aBe, ja E 16 (va_up bef pt cx))] := hD
      refine lv_aload_n hx hb dX2_huntOne_93 rfl (lv_at hl 1 rfl) ?_
      refine va_get (D := E.1) (ci := 2) (v := .ref aDk) (C := RX2) (T := TX2) (N := 7) hx hb hts iX2 hown C0.1 hP 0 rfl rfl 5 (by decide) (hts (.fieldLink RX2 21 "Ringresonance$Locks" "darkTicks" "[I") (by decide +kernel)) (fun _ h9 => h9) rfl dX2_huntOne_94 ?_
      refine lv_iload_n hx hb dX2_huntOne_97 rfl (lv_at hl 2 rfl) ?_
      refine k_iald (e := pt) (g := nI) (n := 16) hx hb C0 hP 6 rfl (by omega) (by omega) dX2_huntOne_98 ?_
      refine lv_ri (y := (nI (hnK cx (dkt pt)))) (by rw [va_up_same]; first | (rw [hnK, if_pos c_29]; done) | (rw [hnK, if_neg c_29]; done)) ?_
      refine lv_bipush (v := nI 8) hx hb dX2_huntOne_99 (by decide) ?_
      refine lv_icmp_lt (tgt := 121) hx hb dX2_huntOne_101 (by decide) (fun c_30 => ?_) (fun c_30 => ?_)
      · skip
        have c_30 : ¬ (8 ≤ hnK cx (dkt pt)) := (ci_ltn (by omega) (by omega)).mp c_30
        have q_31 : ((huO pt cx (se, chn, los, dir, dkt, bef)).1) = (va_up se pt (hct (se pt) (hnD cx (bef pt) (dir pt)))) := by first | rfl | (simp only [huO, hnK, if_pos c_1, if_pos c_29]; done) | (simp only [huO, if_pos c_30]; done) | (simp only [huO, if_neg c_30]; done) | (simp only [huO, if_pos c_1]; done) | (simp only [huO, if_neg c_1]; done) | (simp only [huO, hnK, if_pos c_29]; done) | (simp only [huO, hnK, if_neg c_29]; done)
        have q_32 : ((huO pt cx (se, chn, los, dir, dkt, bef)).2.1) = chn := by first | rfl | (simp only [huO, hnK, if_pos c_1, if_pos c_29]; done) | (simp only [huO, if_pos c_30]; done) | (simp only [huO, if_neg c_30]; done) | (simp only [huO, if_pos c_1]; done) | (simp only [huO, if_neg c_1]; done) | (simp only [huO, hnK, if_pos c_29]; done) | (simp only [huO, hnK, if_neg c_29]; done)
        have q_33 : ((huO pt cx (se, chn, los, dir, dkt, bef)).2.2.1) = los := by first | rfl | (simp only [huO, hnK, if_pos c_1, if_pos c_29]; done) | (simp only [huO, if_pos c_30]; done) | (simp only [huO, if_neg c_30]; done) | (simp only [huO, if_pos c_1]; done) | (simp only [huO, if_neg c_1]; done) | (simp only [huO, hnK, if_pos c_29]; done) | (simp only [huO, hnK, if_neg c_29]; done)
        have q_34 : ((huO pt cx (se, chn, los, dir, dkt, bef)).2.2.2.1) = (va_up dir pt (ngD (dir pt))) := by first | rfl | (simp only [huO, hnK, if_pos c_1, if_pos c_29]; done) | (simp only [huO, if_pos c_30]; done) | (simp only [huO, if_neg c_30]; done) | (simp only [huO, if_pos c_1]; done) | (simp only [huO, if_neg c_1]; done) | (simp only [huO, hnK, if_pos c_29]; done) | (simp only [huO, hnK, if_neg c_29]; done)
        have q_35 : ((huO pt cx (se, chn, los, dir, dkt, bef)).2.2.2.2.1) = (va_up dkt pt 0) := by first | rfl | (simp only [huO, hnK, if_pos c_1, if_pos c_29]; done) | (simp only [huO, if_pos c_30]; done) | (simp only [huO, if_neg c_30]; done) | (simp only [huO, if_pos c_1]; done) | (simp only [huO, if_neg c_1]; done) | (simp only [huO, hnK, if_pos c_29]; done) | (simp only [huO, hnK, if_neg c_29]; done)
        have q_36 : ((huO pt cx (se, chn, los, dir, dkt, bef)).2.2.2.2.2) = (va_up bef pt cx) := by first | rfl | (simp only [huO, hnK, if_pos c_1, if_pos c_29]; done) | (simp only [huO, if_pos c_30]; done) | (simp only [huO, if_neg c_30]; done) | (simp only [huO, if_pos c_1]; done) | (simp only [huO, if_neg c_1]; done) | (simp only [huO, hnK, if_pos c_29]; done) | (simp only [huO, hnK, if_neg c_29]; done)
        have hP : va_P E.1 vwCl [(aLk, o2 aLy aLi aCh aLo aDi aDk aBe), (aLy, o0 (nI n) aK aX aY aF aS aL), (aS, ia E nI 16 ((huO pt cx (se, chn, los, dir, dkt, bef)).1)), (aCh, ia E cL 16 ((huO pt cx (se, chn, los, dir, dkt, bef)).2.1)), (aLo, ia E nI 16 ((huO pt cx (se, chn, los, dir, dkt, bef)).2.2.1)), (aDi, ia E cD 16 ((huO pt cx (se, chn, los, dir, dkt, bef)).2.2.2.1)), (aDk, ia E nI 16 ((huO pt cx (se, chn, los, dir, dkt, bef)).2.2.2.2.1)), (aBe, ja E 16 ((huO pt cx (se, chn, los, dir, dkt, bef)).2.2.2.2.2))] H := by rw [q_31, q_32, q_33, q_34, q_35, q_36]; exact hP
        have hD : va_D A [(aLk, o2 aLy aLi aCh aLo aDi aDk aBe), (aLy, o0 (nI n) aK aX aY aF aS aL), (aS, ia E nI 16 ((huO pt cx (se, chn, los, dir, dkt, bef)).1)), (aCh, ia E cL 16 ((huO pt cx (se, chn, los, dir, dkt, bef)).2.1)), (aLo, ia E nI 16 ((huO pt cx (se, chn, los, dir, dkt, bef)).2.2.1)), (aDi, ia E cD 16 ((huO pt cx (se, chn, los, dir, dkt, bef)).2.2.2.1)), (aDk, ia E nI 16 ((huO pt cx (se, chn, los, dir, dkt, bef)).2.2.2.2.1)), (aBe, ja E 16 ((huO pt cx (se, chn, los, dir, dkt, bef)).2.2.2.2.2))] := by rw [q_31, q_32, q_33, q_34, q_35, q_36]; exact hD
        exact exV hx hb hr hlocks hAe hS () trivial hP hD dX2_huntOne_121
      · skip
        have c_30 : (8 ≤ hnK cx (dkt pt)) := Decidable.byContradiction (fun h => c_30 ((ci_ltn (by omega) (by omega)).mpr h))
        refine lv_aload_n hx hb dX2_huntOne_104 rfl (lv_at hl 1 rfl) ?_
        refine va_get (D := E.1) (ci := 2) (v := .ref aCh) (C := RX2) (T := TX2) (N := 7) hx hb hts iX2 hown C0.1 hP 0 rfl rfl 2 (by decide) (hts (.fieldLink RX2 9 "Ringresonance$Locks" "channels" "[I") (by decide +kernel)) (fun _ h9 => h9) rfl dX2_huntOne_105 ?_
        refine lv_iload_n hx hb dX2_huntOne_108 rfl (lv_at hl 2 rfl) ?_
        refine lv_iconst (v := -1) hx hb dX2_huntOne_109 (by decide) ?_
        refine k_iast (e := pt) (v := 0) (g := cL) (n := 16) hx hb C0 hP hD hS 3 rfl (by decide) (by omega) (by omega) dX2_huntOne_110 (fun H locs hP hD hS => ?_)
        have hP : va_P E.1 vwCl [(aLk, o2 aLy aLi aCh aLo aDi aDk aBe), (aLy, o0 (nI n) aK aX aY aF aS aL), (aS, ia E nI 16 (va_up se pt (hct (se pt) (hnD cx (bef pt) (dir pt))))), (aCh, ia E cL 16 (va_up chn pt 0)), (aLo, ia E nI 16 los), (aDi, ia E cD 16 (va_up dir pt (ngD (dir pt)))), (aDk, ia E nI 16 (va_up dkt pt 0)), (aBe, ja E 16 (va_up bef pt cx))] H := hP
        have hD : va_D A [(aLk, o2 aLy aLi aCh aLo aDi aDk aBe), (aLy, o0 (nI n) aK aX aY aF aS aL), (aS, ia E nI 16 (va_up se pt (hct (se pt) (hnD cx (bef pt) (dir pt))))), (aCh, ia E cL 16 (va_up chn pt 0)), (aLo, ia E nI 16 los), (aDi, ia E cD 16 (va_up dir pt (ngD (dir pt)))), (aDk, ia E nI 16 (va_up dkt pt 0)), (aBe, ja E 16 (va_up bef pt cx))] := hD
        refine lv_aload_n hx hb dX2_huntOne_111 rfl (lv_at hl 1 rfl) ?_
        refine va_get (D := E.1) (ci := 2) (v := .ref aLo) (C := RX2) (T := TX2) (N := 7) hx hb hts iX2 hown C0.1 hP 0 rfl rfl 3 (by decide) (hts (.fieldLink RX2 15 "Ringresonance$Locks" "losts" "[I") (by decide +kernel)) (fun _ h9 => h9) rfl dX2_huntOne_112 ?_
        refine lv_iload_n hx hb dX2_huntOne_115 rfl (lv_at hl 2 rfl) ?_
        refine lv_dup2_11 hx hb dX2_huntOne_116 rfl rfl ?_
        refine k_iald (e := pt) (g := nI) (n := 16) hx hb C0 hP 4 rfl (by omega) (by omega) dX2_huntOne_117 ?_
        refine lv_iconst (v := nI 1) hx hb dX2_huntOne_118 (by decide) ?_
        refine lv_iadd hx hb dX2_huntOne_119 ?_
        refine lv_ri (y := (nI ((los pt) + 1))) (nI_add (los pt) 1) ?_
        refine k_iast (e := pt) (v := ((los pt) + 1)) (g := nI) (n := 16) hx hb C0 hP hD hS 4 rfl rfl (by omega) (by omega) dX2_huntOne_120 (fun H locs hP hD hS => ?_)
        have hP : va_P E.1 vwCl [(aLk, o2 aLy aLi aCh aLo aDi aDk aBe), (aLy, o0 (nI n) aK aX aY aF aS aL), (aS, ia E nI 16 (va_up se pt (hct (se pt) (hnD cx (bef pt) (dir pt))))), (aCh, ia E cL 16 (va_up chn pt 0)), (aLo, ia E nI 16 (va_up los pt ((los pt) + 1))), (aDi, ia E cD 16 (va_up dir pt (ngD (dir pt)))), (aDk, ia E nI 16 (va_up dkt pt 0)), (aBe, ja E 16 (va_up bef pt cx))] H := hP
        have hD : va_D A [(aLk, o2 aLy aLi aCh aLo aDi aDk aBe), (aLy, o0 (nI n) aK aX aY aF aS aL), (aS, ia E nI 16 (va_up se pt (hct (se pt) (hnD cx (bef pt) (dir pt))))), (aCh, ia E cL 16 (va_up chn pt 0)), (aLo, ia E nI 16 (va_up los pt ((los pt) + 1))), (aDi, ia E cD 16 (va_up dir pt (ngD (dir pt)))), (aDk, ia E nI 16 (va_up dkt pt 0)), (aBe, ja E 16 (va_up bef pt cx))] := hD
        have q_37 : ((huO pt cx (se, chn, los, dir, dkt, bef)).1) = (va_up se pt (hct (se pt) (hnD cx (bef pt) (dir pt)))) := by first | rfl | (simp only [huO, hnK, if_pos c_1, if_pos c_29]; done) | (simp only [huO, if_pos c_30]; done) | (simp only [huO, if_neg c_30]; done) | (simp only [huO, if_pos c_1]; done) | (simp only [huO, if_neg c_1]; done) | (simp only [huO, hnK, if_pos c_29]; done) | (simp only [huO, hnK, if_neg c_29]; done)
        have q_38 : ((huO pt cx (se, chn, los, dir, dkt, bef)).2.1) = (va_up chn pt 0) := by first | rfl | (simp only [huO, hnK, if_pos c_1, if_pos c_29]; done) | (simp only [huO, if_pos c_30]; done) | (simp only [huO, if_neg c_30]; done) | (simp only [huO, if_pos c_1]; done) | (simp only [huO, if_neg c_1]; done) | (simp only [huO, hnK, if_pos c_29]; done) | (simp only [huO, hnK, if_neg c_29]; done)
        have q_39 : ((huO pt cx (se, chn, los, dir, dkt, bef)).2.2.1) = (va_up los pt ((los pt) + 1)) := by first | rfl | (simp only [huO, hnK, if_pos c_1, if_pos c_29]; done) | (simp only [huO, if_pos c_30]; done) | (simp only [huO, if_neg c_30]; done) | (simp only [huO, if_pos c_1]; done) | (simp only [huO, if_neg c_1]; done) | (simp only [huO, hnK, if_pos c_29]; done) | (simp only [huO, hnK, if_neg c_29]; done)
        have q_40 : ((huO pt cx (se, chn, los, dir, dkt, bef)).2.2.2.1) = (va_up dir pt (ngD (dir pt))) := by first | rfl | (simp only [huO, hnK, if_pos c_1, if_pos c_29]; done) | (simp only [huO, if_pos c_30]; done) | (simp only [huO, if_neg c_30]; done) | (simp only [huO, if_pos c_1]; done) | (simp only [huO, if_neg c_1]; done) | (simp only [huO, hnK, if_pos c_29]; done) | (simp only [huO, hnK, if_neg c_29]; done)
        have q_41 : ((huO pt cx (se, chn, los, dir, dkt, bef)).2.2.2.2.1) = (va_up dkt pt 0) := by first | rfl | (simp only [huO, hnK, if_pos c_1, if_pos c_29]; done) | (simp only [huO, if_pos c_30]; done) | (simp only [huO, if_neg c_30]; done) | (simp only [huO, if_pos c_1]; done) | (simp only [huO, if_neg c_1]; done) | (simp only [huO, hnK, if_pos c_29]; done) | (simp only [huO, hnK, if_neg c_29]; done)
        have q_42 : ((huO pt cx (se, chn, los, dir, dkt, bef)).2.2.2.2.2) = (va_up bef pt cx) := by first | rfl | (simp only [huO, hnK, if_pos c_1, if_pos c_29]; done) | (simp only [huO, if_pos c_30]; done) | (simp only [huO, if_neg c_30]; done) | (simp only [huO, if_pos c_1]; done) | (simp only [huO, if_neg c_1]; done) | (simp only [huO, hnK, if_pos c_29]; done) | (simp only [huO, hnK, if_neg c_29]; done)
        have hP : va_P E.1 vwCl [(aLk, o2 aLy aLi aCh aLo aDi aDk aBe), (aLy, o0 (nI n) aK aX aY aF aS aL), (aS, ia E nI 16 ((huO pt cx (se, chn, los, dir, dkt, bef)).1)), (aCh, ia E cL 16 ((huO pt cx (se, chn, los, dir, dkt, bef)).2.1)), (aLo, ia E nI 16 ((huO pt cx (se, chn, los, dir, dkt, bef)).2.2.1)), (aDi, ia E cD 16 ((huO pt cx (se, chn, los, dir, dkt, bef)).2.2.2.1)), (aDk, ia E nI 16 ((huO pt cx (se, chn, los, dir, dkt, bef)).2.2.2.2.1)), (aBe, ja E 16 ((huO pt cx (se, chn, los, dir, dkt, bef)).2.2.2.2.2))] H := by rw [q_37, q_38, q_39, q_40, q_41, q_42]; exact hP
        have hD : va_D A [(aLk, o2 aLy aLi aCh aLo aDi aDk aBe), (aLy, o0 (nI n) aK aX aY aF aS aL), (aS, ia E nI 16 ((huO pt cx (se, chn, los, dir, dkt, bef)).1)), (aCh, ia E cL 16 ((huO pt cx (se, chn, los, dir, dkt, bef)).2.1)), (aLo, ia E nI 16 ((huO pt cx (se, chn, los, dir, dkt, bef)).2.2.1)), (aDi, ia E cD 16 ((huO pt cx (se, chn, los, dir, dkt, bef)).2.2.2.1)), (aDk, ia E nI 16 ((huO pt cx (se, chn, los, dir, dkt, bef)).2.2.2.2.1)), (aBe, ja E 16 ((huO pt cx (se, chn, los, dir, dkt, bef)).2.2.2.2.2))] := by rw [q_37, q_38, q_39, q_40, q_41, q_42]; exact hD
        exact exV hx hb hr hlocks hAe hS () trivial hP hD dX2_huntOne_121
    · skip
      have c_29 : cx = 0 := (lgc_eq).mp c_29
      refine lv_aload_n hx hb dX2_huntOne_80 rfl (lv_at hl 1 rfl) ?_
      refine va_get (D := E.1) (ci := 2) (v := .ref aDk) (C := RX2) (T := TX2) (N := 7) hx hb hts iX2 hown C0.1 hP 0 rfl rfl 5 (by decide) (hts (.fieldLink RX2 21 "Ringresonance$Locks" "darkTicks" "[I") (by decide +kernel)) (fun _ h9 => h9) rfl dX2_huntOne_81 ?_
      refine lv_iload_n hx hb dX2_huntOne_84 rfl (lv_at hl 2 rfl) ?_
      refine k_iald (e := pt) (g := nI) (n := 16) hx hb C0 hP 6 rfl (by omega) (by omega) dX2_huntOne_85 ?_
      refine lv_iconst (v := nI 1) hx hb dX2_huntOne_86 (by decide) ?_
      refine lv_iadd hx hb dX2_huntOne_87 ?_
      refine lv_ri (y := (nI ((dkt pt) + 1))) (nI_add (dkt pt) 1) ?_
      refine lv_goto (tgt := 92) hx hb dX2_huntOne_88 (by decide) ?_
      refine k_iast (e := pt) (v := ((dkt pt) + 1)) (g := nI) (n := 16) hx hb C0 hP hD hS 6 rfl rfl (by omega) (by omega) dX2_huntOne_92 (fun H locs hP hD hS => ?_)
      have hP : va_P E.1 vwCl [(aLk, o2 aLy aLi aCh aLo aDi aDk aBe), (aLy, o0 (nI n) aK aX aY aF aS aL), (aS, ia E nI 16 (va_up se pt (hct (se pt) (hnD cx (bef pt) (dir pt))))), (aCh, ia E cL 16 chn), (aLo, ia E nI 16 los), (aDi, ia E cD 16 (va_up dir pt (ngD (dir pt)))), (aDk, ia E nI 16 (va_up dkt pt ((dkt pt) + 1))), (aBe, ja E 16 (va_up bef pt cx))] H := hP
      have hD : va_D A [(aLk, o2 aLy aLi aCh aLo aDi aDk aBe), (aLy, o0 (nI n) aK aX aY aF aS aL), (aS, ia E nI 16 (va_up se pt (hct (se pt) (hnD cx (bef pt) (dir pt))))), (aCh, ia E cL 16 chn), (aLo, ia E nI 16 los), (aDi, ia E cD 16 (va_up dir pt (ngD (dir pt)))), (aDk, ia E nI 16 (va_up dkt pt ((dkt pt) + 1))), (aBe, ja E 16 (va_up bef pt cx))] := hD
      refine lv_aload_n hx hb dX2_huntOne_93 rfl (lv_at hl 1 rfl) ?_
      refine va_get (D := E.1) (ci := 2) (v := .ref aDk) (C := RX2) (T := TX2) (N := 7) hx hb hts iX2 hown C0.1 hP 0 rfl rfl 5 (by decide) (hts (.fieldLink RX2 21 "Ringresonance$Locks" "darkTicks" "[I") (by decide +kernel)) (fun _ h9 => h9) rfl dX2_huntOne_94 ?_
      refine lv_iload_n hx hb dX2_huntOne_97 rfl (lv_at hl 2 rfl) ?_
      refine k_iald (e := pt) (g := nI) (n := 16) hx hb C0 hP 6 rfl (by omega) (by omega) dX2_huntOne_98 ?_
      refine lv_ri (y := (nI (hnK cx (dkt pt)))) (by rw [va_up_same]; first | (rw [hnK, if_pos c_29]; done) | (rw [hnK, if_neg c_29]; done)) ?_
      refine lv_bipush (v := nI 8) hx hb dX2_huntOne_99 (by decide) ?_
      refine lv_icmp_lt (tgt := 121) hx hb dX2_huntOne_101 (by decide) (fun c_43 => ?_) (fun c_43 => ?_)
      · skip
        have c_43 : ¬ (8 ≤ hnK cx (dkt pt)) := (ci_ltn (by omega) (by omega)).mp c_43
        have q_44 : ((huO pt cx (se, chn, los, dir, dkt, bef)).1) = (va_up se pt (hct (se pt) (hnD cx (bef pt) (dir pt)))) := by first | rfl | (simp only [huO, hnK, if_pos c_1, if_pos c_29]; done) | (simp only [huO, if_pos c_43]; done) | (simp only [huO, if_neg c_43]; done) | (simp only [huO, if_pos c_1]; done) | (simp only [huO, if_neg c_1]; done) | (simp only [huO, hnK, if_pos c_29]; done) | (simp only [huO, hnK, if_neg c_29]; done)
        have q_45 : ((huO pt cx (se, chn, los, dir, dkt, bef)).2.1) = chn := by first | rfl | (simp only [huO, hnK, if_pos c_1, if_pos c_29]; done) | (simp only [huO, if_pos c_43]; done) | (simp only [huO, if_neg c_43]; done) | (simp only [huO, if_pos c_1]; done) | (simp only [huO, if_neg c_1]; done) | (simp only [huO, hnK, if_pos c_29]; done) | (simp only [huO, hnK, if_neg c_29]; done)
        have q_46 : ((huO pt cx (se, chn, los, dir, dkt, bef)).2.2.1) = los := by first | rfl | (simp only [huO, hnK, if_pos c_1, if_pos c_29]; done) | (simp only [huO, if_pos c_43]; done) | (simp only [huO, if_neg c_43]; done) | (simp only [huO, if_pos c_1]; done) | (simp only [huO, if_neg c_1]; done) | (simp only [huO, hnK, if_pos c_29]; done) | (simp only [huO, hnK, if_neg c_29]; done)
        have q_47 : ((huO pt cx (se, chn, los, dir, dkt, bef)).2.2.2.1) = (va_up dir pt (ngD (dir pt))) := by first | rfl | (simp only [huO, hnK, if_pos c_1, if_pos c_29]; done) | (simp only [huO, if_pos c_43]; done) | (simp only [huO, if_neg c_43]; done) | (simp only [huO, if_pos c_1]; done) | (simp only [huO, if_neg c_1]; done) | (simp only [huO, hnK, if_pos c_29]; done) | (simp only [huO, hnK, if_neg c_29]; done)
        have q_48 : ((huO pt cx (se, chn, los, dir, dkt, bef)).2.2.2.2.1) = (va_up dkt pt ((dkt pt) + 1)) := by first | rfl | (simp only [huO, hnK, if_pos c_1, if_pos c_29]; done) | (simp only [huO, if_pos c_43]; done) | (simp only [huO, if_neg c_43]; done) | (simp only [huO, if_pos c_1]; done) | (simp only [huO, if_neg c_1]; done) | (simp only [huO, hnK, if_pos c_29]; done) | (simp only [huO, hnK, if_neg c_29]; done)
        have q_49 : ((huO pt cx (se, chn, los, dir, dkt, bef)).2.2.2.2.2) = (va_up bef pt cx) := by first | rfl | (simp only [huO, hnK, if_pos c_1, if_pos c_29]; done) | (simp only [huO, if_pos c_43]; done) | (simp only [huO, if_neg c_43]; done) | (simp only [huO, if_pos c_1]; done) | (simp only [huO, if_neg c_1]; done) | (simp only [huO, hnK, if_pos c_29]; done) | (simp only [huO, hnK, if_neg c_29]; done)
        have hP : va_P E.1 vwCl [(aLk, o2 aLy aLi aCh aLo aDi aDk aBe), (aLy, o0 (nI n) aK aX aY aF aS aL), (aS, ia E nI 16 ((huO pt cx (se, chn, los, dir, dkt, bef)).1)), (aCh, ia E cL 16 ((huO pt cx (se, chn, los, dir, dkt, bef)).2.1)), (aLo, ia E nI 16 ((huO pt cx (se, chn, los, dir, dkt, bef)).2.2.1)), (aDi, ia E cD 16 ((huO pt cx (se, chn, los, dir, dkt, bef)).2.2.2.1)), (aDk, ia E nI 16 ((huO pt cx (se, chn, los, dir, dkt, bef)).2.2.2.2.1)), (aBe, ja E 16 ((huO pt cx (se, chn, los, dir, dkt, bef)).2.2.2.2.2))] H := by rw [q_44, q_45, q_46, q_47, q_48, q_49]; exact hP
        have hD : va_D A [(aLk, o2 aLy aLi aCh aLo aDi aDk aBe), (aLy, o0 (nI n) aK aX aY aF aS aL), (aS, ia E nI 16 ((huO pt cx (se, chn, los, dir, dkt, bef)).1)), (aCh, ia E cL 16 ((huO pt cx (se, chn, los, dir, dkt, bef)).2.1)), (aLo, ia E nI 16 ((huO pt cx (se, chn, los, dir, dkt, bef)).2.2.1)), (aDi, ia E cD 16 ((huO pt cx (se, chn, los, dir, dkt, bef)).2.2.2.1)), (aDk, ia E nI 16 ((huO pt cx (se, chn, los, dir, dkt, bef)).2.2.2.2.1)), (aBe, ja E 16 ((huO pt cx (se, chn, los, dir, dkt, bef)).2.2.2.2.2))] := by rw [q_44, q_45, q_46, q_47, q_48, q_49]; exact hD
        exact exV hx hb hr hlocks hAe hS () trivial hP hD dX2_huntOne_121
      · skip
        have c_43 : (8 ≤ hnK cx (dkt pt)) := Decidable.byContradiction (fun h => c_43 ((ci_ltn (by omega) (by omega)).mpr h))
        refine lv_aload_n hx hb dX2_huntOne_104 rfl (lv_at hl 1 rfl) ?_
        refine va_get (D := E.1) (ci := 2) (v := .ref aCh) (C := RX2) (T := TX2) (N := 7) hx hb hts iX2 hown C0.1 hP 0 rfl rfl 2 (by decide) (hts (.fieldLink RX2 9 "Ringresonance$Locks" "channels" "[I") (by decide +kernel)) (fun _ h9 => h9) rfl dX2_huntOne_105 ?_
        refine lv_iload_n hx hb dX2_huntOne_108 rfl (lv_at hl 2 rfl) ?_
        refine lv_iconst (v := -1) hx hb dX2_huntOne_109 (by decide) ?_
        refine k_iast (e := pt) (v := 0) (g := cL) (n := 16) hx hb C0 hP hD hS 3 rfl (by decide) (by omega) (by omega) dX2_huntOne_110 (fun H locs hP hD hS => ?_)
        have hP : va_P E.1 vwCl [(aLk, o2 aLy aLi aCh aLo aDi aDk aBe), (aLy, o0 (nI n) aK aX aY aF aS aL), (aS, ia E nI 16 (va_up se pt (hct (se pt) (hnD cx (bef pt) (dir pt))))), (aCh, ia E cL 16 (va_up chn pt 0)), (aLo, ia E nI 16 los), (aDi, ia E cD 16 (va_up dir pt (ngD (dir pt)))), (aDk, ia E nI 16 (va_up dkt pt ((dkt pt) + 1))), (aBe, ja E 16 (va_up bef pt cx))] H := hP
        have hD : va_D A [(aLk, o2 aLy aLi aCh aLo aDi aDk aBe), (aLy, o0 (nI n) aK aX aY aF aS aL), (aS, ia E nI 16 (va_up se pt (hct (se pt) (hnD cx (bef pt) (dir pt))))), (aCh, ia E cL 16 (va_up chn pt 0)), (aLo, ia E nI 16 los), (aDi, ia E cD 16 (va_up dir pt (ngD (dir pt)))), (aDk, ia E nI 16 (va_up dkt pt ((dkt pt) + 1))), (aBe, ja E 16 (va_up bef pt cx))] := hD
        refine lv_aload_n hx hb dX2_huntOne_111 rfl (lv_at hl 1 rfl) ?_
        refine va_get (D := E.1) (ci := 2) (v := .ref aLo) (C := RX2) (T := TX2) (N := 7) hx hb hts iX2 hown C0.1 hP 0 rfl rfl 3 (by decide) (hts (.fieldLink RX2 15 "Ringresonance$Locks" "losts" "[I") (by decide +kernel)) (fun _ h9 => h9) rfl dX2_huntOne_112 ?_
        refine lv_iload_n hx hb dX2_huntOne_115 rfl (lv_at hl 2 rfl) ?_
        refine lv_dup2_11 hx hb dX2_huntOne_116 rfl rfl ?_
        refine k_iald (e := pt) (g := nI) (n := 16) hx hb C0 hP 4 rfl (by omega) (by omega) dX2_huntOne_117 ?_
        refine lv_iconst (v := nI 1) hx hb dX2_huntOne_118 (by decide) ?_
        refine lv_iadd hx hb dX2_huntOne_119 ?_
        refine lv_ri (y := (nI ((los pt) + 1))) (nI_add (los pt) 1) ?_
        refine k_iast (e := pt) (v := ((los pt) + 1)) (g := nI) (n := 16) hx hb C0 hP hD hS 4 rfl rfl (by omega) (by omega) dX2_huntOne_120 (fun H locs hP hD hS => ?_)
        have hP : va_P E.1 vwCl [(aLk, o2 aLy aLi aCh aLo aDi aDk aBe), (aLy, o0 (nI n) aK aX aY aF aS aL), (aS, ia E nI 16 (va_up se pt (hct (se pt) (hnD cx (bef pt) (dir pt))))), (aCh, ia E cL 16 (va_up chn pt 0)), (aLo, ia E nI 16 (va_up los pt ((los pt) + 1))), (aDi, ia E cD 16 (va_up dir pt (ngD (dir pt)))), (aDk, ia E nI 16 (va_up dkt pt ((dkt pt) + 1))), (aBe, ja E 16 (va_up bef pt cx))] H := hP
        have hD : va_D A [(aLk, o2 aLy aLi aCh aLo aDi aDk aBe), (aLy, o0 (nI n) aK aX aY aF aS aL), (aS, ia E nI 16 (va_up se pt (hct (se pt) (hnD cx (bef pt) (dir pt))))), (aCh, ia E cL 16 (va_up chn pt 0)), (aLo, ia E nI 16 (va_up los pt ((los pt) + 1))), (aDi, ia E cD 16 (va_up dir pt (ngD (dir pt)))), (aDk, ia E nI 16 (va_up dkt pt ((dkt pt) + 1))), (aBe, ja E 16 (va_up bef pt cx))] := hD
        have q_50 : ((huO pt cx (se, chn, los, dir, dkt, bef)).1) = (va_up se pt (hct (se pt) (hnD cx (bef pt) (dir pt)))) := by first | rfl | (simp only [huO, hnK, if_pos c_1, if_pos c_29]; done) | (simp only [huO, if_pos c_43]; done) | (simp only [huO, if_neg c_43]; done) | (simp only [huO, if_pos c_1]; done) | (simp only [huO, if_neg c_1]; done) | (simp only [huO, hnK, if_pos c_29]; done) | (simp only [huO, hnK, if_neg c_29]; done)
        have q_51 : ((huO pt cx (se, chn, los, dir, dkt, bef)).2.1) = (va_up chn pt 0) := by first | rfl | (simp only [huO, hnK, if_pos c_1, if_pos c_29]; done) | (simp only [huO, if_pos c_43]; done) | (simp only [huO, if_neg c_43]; done) | (simp only [huO, if_pos c_1]; done) | (simp only [huO, if_neg c_1]; done) | (simp only [huO, hnK, if_pos c_29]; done) | (simp only [huO, hnK, if_neg c_29]; done)
        have q_52 : ((huO pt cx (se, chn, los, dir, dkt, bef)).2.2.1) = (va_up los pt ((los pt) + 1)) := by first | rfl | (simp only [huO, hnK, if_pos c_1, if_pos c_29]; done) | (simp only [huO, if_pos c_43]; done) | (simp only [huO, if_neg c_43]; done) | (simp only [huO, if_pos c_1]; done) | (simp only [huO, if_neg c_1]; done) | (simp only [huO, hnK, if_pos c_29]; done) | (simp only [huO, hnK, if_neg c_29]; done)
        have q_53 : ((huO pt cx (se, chn, los, dir, dkt, bef)).2.2.2.1) = (va_up dir pt (ngD (dir pt))) := by first | rfl | (simp only [huO, hnK, if_pos c_1, if_pos c_29]; done) | (simp only [huO, if_pos c_43]; done) | (simp only [huO, if_neg c_43]; done) | (simp only [huO, if_pos c_1]; done) | (simp only [huO, if_neg c_1]; done) | (simp only [huO, hnK, if_pos c_29]; done) | (simp only [huO, hnK, if_neg c_29]; done)
        have q_54 : ((huO pt cx (se, chn, los, dir, dkt, bef)).2.2.2.2.1) = (va_up dkt pt ((dkt pt) + 1)) := by first | rfl | (simp only [huO, hnK, if_pos c_1, if_pos c_29]; done) | (simp only [huO, if_pos c_43]; done) | (simp only [huO, if_neg c_43]; done) | (simp only [huO, if_pos c_1]; done) | (simp only [huO, if_neg c_1]; done) | (simp only [huO, hnK, if_pos c_29]; done) | (simp only [huO, hnK, if_neg c_29]; done)
        have q_55 : ((huO pt cx (se, chn, los, dir, dkt, bef)).2.2.2.2.2) = (va_up bef pt cx) := by first | rfl | (simp only [huO, hnK, if_pos c_1, if_pos c_29]; done) | (simp only [huO, if_pos c_43]; done) | (simp only [huO, if_neg c_43]; done) | (simp only [huO, if_pos c_1]; done) | (simp only [huO, if_neg c_1]; done) | (simp only [huO, hnK, if_pos c_29]; done) | (simp only [huO, hnK, if_neg c_29]; done)
        have hP : va_P E.1 vwCl [(aLk, o2 aLy aLi aCh aLo aDi aDk aBe), (aLy, o0 (nI n) aK aX aY aF aS aL), (aS, ia E nI 16 ((huO pt cx (se, chn, los, dir, dkt, bef)).1)), (aCh, ia E cL 16 ((huO pt cx (se, chn, los, dir, dkt, bef)).2.1)), (aLo, ia E nI 16 ((huO pt cx (se, chn, los, dir, dkt, bef)).2.2.1)), (aDi, ia E cD 16 ((huO pt cx (se, chn, los, dir, dkt, bef)).2.2.2.1)), (aDk, ia E nI 16 ((huO pt cx (se, chn, los, dir, dkt, bef)).2.2.2.2.1)), (aBe, ja E 16 ((huO pt cx (se, chn, los, dir, dkt, bef)).2.2.2.2.2))] H := by rw [q_50, q_51, q_52, q_53, q_54, q_55]; exact hP
        have hD : va_D A [(aLk, o2 aLy aLi aCh aLo aDi aDk aBe), (aLy, o0 (nI n) aK aX aY aF aS aL), (aS, ia E nI 16 ((huO pt cx (se, chn, los, dir, dkt, bef)).1)), (aCh, ia E cL 16 ((huO pt cx (se, chn, los, dir, dkt, bef)).2.1)), (aLo, ia E nI 16 ((huO pt cx (se, chn, los, dir, dkt, bef)).2.2.1)), (aDi, ia E cD 16 ((huO pt cx (se, chn, los, dir, dkt, bef)).2.2.2.1)), (aDk, ia E nI 16 ((huO pt cx (se, chn, los, dir, dkt, bef)).2.2.2.2.1)), (aBe, ja E 16 ((huO pt cx (se, chn, los, dir, dkt, bef)).2.2.2.2.2))] := by rw [q_50, q_51, q_52, q_53, q_54, q_55]; exact hD
        exact exV hx hb hr hlocks hAe hS () trivial hP hD dX2_huntOne_121

def huS (cr : Nat → Int64) (i : Nat) (S : zHS) : zHS := if S.2.1 i = 0 then S else huO i (cr (i * 8 + (S.2.1 i - 1))) S
theorem hus_0 {cr : Nat → Int64} {i : Nat} {S : zHS} (h : S.2.1 i = 0) : huS cr i S = S := if_pos h
theorem hus_1 {cr : Nat → Int64} {i : Nat} {S : zHS} (h : ¬ S.2.1 i = 0) : huS cr i S = huO i (cr (i * 8 + (S.2.1 i - 1))) S := if_neg h
theorem eta6 (X : zHS) : (X.1, X.2.1, X.2.2.1, X.2.2.2.1, X.2.2.2.2.1, X.2.2.2.2.2) = X := rfl
def HsOk (S : zHS) : Prop := ∀ j, j < 16 → S.2.1 j ≤ 8 ∧ S.2.2.2.1 j ≤ 2 ∧ S.2.2.2.2.1 j ≤ 8 ∧ (¬ S.2.1 j = 0 → S.1 j ≤ 99 ∧ S.2.2.2.2.1 j ≤ 7)
theorem huS_ok {cr : Nat → Int64} {i : Nat} {S : zHS} (hi : i < 16) (h : HsOk S) : HsOk (huS cr i S) := by
  unfold huS
  split
  · exact h
  · rename_i hc
    intro j hj
    have h1 := h j hj
    have h2 := h i hi
    generalize cr (i * 8 + (S.2.1 i - 1)) = cx
    unfold huO
    dsimp only
    by_cases hji : j = i
    · subst hji
      have h3 := h2.2.2.2 hc
      have h4 := ngD_le (S.2.2.2.1 j)
      have h5 := hct_le (s := S.1 j) (d := hnD cx (S.2.2.2.2.2 j) (S.2.2.2.1 j)) h3.1
      have h6 : hnK cx (S.2.2.2.2.1 j) ≤ 8 := by unfold hnK; split <;> omega
      simp only [va_up_same]
      refine ⟨?_, ?_, h6, ?_⟩
      · split
        · rw [va_up_same]; omega
        · omega
      · split
        · rw [va_up_same]; omega
        · omega
      · intro h7
        refine ⟨h5, ?_⟩
        split at h7
        · rw [va_up_same] at h7; omega
        · omega
    · simp only [va_up_other hji]
      refine ⟨?_, ?_, h1.2.2.1, ?_⟩
      · split
        · rw [va_up_other hji]; exact h1.1
        · exact h1.1
      · split
        · rw [va_up_other hji]; exact h1.2.1
        · exact h1.2.1
      · intro h7
        refine h1.2.2.2 (fun q => h7 ?_)
        split
        · rw [va_up_other hji]; exact q
        · exact q

set_option maxHeartbeats 4000000 in
set_option maxRecDepth 100000 in
theorem c_hunt (l : Launch) (E : EnvT) (sz : Nat) (aLy aK aX aY aF aS aL n : Nat) (aLi aC aG aU aR aN aW o tk : Nat) (em lo lk de : Int64) (aLk aCh aLo aDi aDk aBe : Nat) (chn los dir dkt : Nat → Nat) (bef : Nat → Int64) (se : Nat → Nat) (cr : Nat → Int64) (hn : n ≤ 16) (hok : HsOk (se, chn, los, dir, dkt, bef)) : MV l yX2_hunt wsX2_hunt ({ frames := 2, cells := 0, slots := 0, locals := 45 }) E sz [.ref aLk] [(aLk, o2 aLy aLi aCh aLo aDi aDk aBe), (aLy, o0 (nI n) aK aX aY aF aS aL), (aS, ia E nI 16 se), (aCh, ia E cL 16 chn), (aLo, ia E nI 16 los), (aDi, ia E cD 16 dir), (aDk, ia E nI 16 dkt), (aBe, ja E 16 bef), (aLi, o1 aLy aC aG aU aR aN aW (cO o) (nI tk) em lo lk de), (aR, ja E 128 cr)] (fun _ : Unit => True) (fun _ => [(aLk, o2 aLy aLi aCh aLo aDi aDk aBe), (aLy, o0 (nI n) aK aX aY aF aS aL), (aS, ia E nI 16 ((rp (huS cr) (n) (se, chn, los, dir, dkt, bef)).1)), (aCh, ia E cL 16 ((rp (huS cr) (n) (se, chn, los, dir, dkt, bef)).2.1)), (aLo, ia E nI 16 ((rp (huS cr) (n) (se, chn, los, dir, dkt, bef)).2.2.1)), (aDi, ia E cD 16 ((rp (huS cr) (n) (se, chn, los, dir, dkt, bef)).2.2.2.1)), (aDk, ia E nI 16 ((rp (huS cr) (n) (se, chn, los, dir, dkt, bef)).2.2.2.2.1)), (aBe, ja E 16 ((rp (huS cr) (n) (se, chn, los, dir, dkt, bef)).2.2.2.2.2)), (aLi, o1 aLy aC aG aU aR aN aW (cO o) (nI tk) em lo lk de), (aR, ja E 128 cr)]) := by
  refine enV (cc := cX2_hunt) (maxL := 3) (by decide +kernel) rfl (Nat.le_of_ble_eq_true rfl) ?_
  intro p e s m below meth c A ls hx hb hr hml hts hown hlocks hAe C0 hP hD hS hl
  have hown : s.vm.findClass RX2 = some m.cls := hown
  have hl : lv_has ls 3 [(0, .ref aLk)] := hl
  have iX0 : ∀ w ∈ u_ws RX0 TX0 7, w ∈ wsX2_hunt := by decide +kernel
  have iX1 : ∀ w ∈ u_ws RX1 TX1 13, w ∈ wsX2_hunt := by decide +kernel
  have iX2 : ∀ w ∈ u_ws RX2 TX2 7, w ∈ wsX2_hunt := by decide +kernel
  obtain ⟨H, hHe⟩ : ∃ z, z = s.heap := ⟨_, rfl⟩
  obtain ⟨locs, hLe⟩ : ∃ z : List Loc, z = [] := ⟨_, rfl⟩
  have hP : va_P E.1 vwCl [(aLk, o2 aLy aLi aCh aLo aDi aDk aBe), (aLy, o0 (nI n) aK aX aY aF aS aL), (aS, ia E nI 16 se), (aCh, ia E cL 16 chn), (aLo, ia E nI 16 los), (aDi, ia E cD 16 dir), (aDk, ia E nI 16 dkt), (aBe, ja E 16 bef), (aLi, o1 aLy aC aG aU aR aN aW (cO o) (nI tk) em lo lk de), (aR, ja E 128 cr)] H := by rw [hHe]; exact hP
  have hD : va_D A [(aLk, o2 aLy aLi aCh aLo aDi aDk aBe), (aLy, o0 (nI n) aK aX aY aF aS aL), (aS, ia E nI 16 se), (aCh, ia E cL 16 chn), (aLo, ia E nI 16 los), (aDi, ia E cD 16 dir), (aDk, ia E nI 16 dkt), (aBe, ja E 16 bef), (aLi, o1 aLy aC aG aU aR aN aW (cO o) (nI tk) em lo lk de), (aR, ja E 128 cr)] := hD
  have hS : va_S A s.heap H locs := by rw [hHe, hLe]; exact hS
  suffices hgo : W p l e _ s m _ below meth c H locs 0 0 _ (F0 m 0 ls []) by rw [hHe, hLe] at hgo; exact hgo
  clear hHe hLe
  refine lv_iconst (v := nI 0) hx hb dX2_hunt_0 (by decide) ?_
  refine lv_istore_n (lv' := [(1, .int (nI 0)), (0, .ref aLk)]) hx hb dX2_hunt_1 rfl hl (by decide) rfl (fun ls hl => ?_)
  have LP_1 : ∀ (nz i_3 : Nat), i_3 ≤ n → n < i_3 + nz → HsOk (rp (huS cr) (i_3) (se, chn, los, dir, dkt, bef)) → ∀ (H : Heap) (locs : List Loc), va_P E.1 vwCl [(aLk, o2 aLy aLi aCh aLo aDi aDk aBe), (aLy, o0 (nI n) aK aX aY aF aS aL), (aS, ia E nI 16 ((rp (huS cr) (i_3) (se, chn, los, dir, dkt, bef)).1)), (aCh, ia E cL 16 ((rp (huS cr) (i_3) (se, chn, los, dir, dkt, bef)).2.1)), (aLo, ia E nI 16 ((rp (huS cr) (i_3) (se, chn, los, dir, dkt, bef)).2.2.1)), (aDi, ia E cD 16 ((rp (huS cr) (i_3) (se, chn, los, dir, dkt, bef)).2.2.2.1)), (aDk, ia E nI 16 ((rp (huS cr) (i_3) (se, chn, los, dir, dkt, bef)).2.2.2.2.1)), (aBe, ja E 16 ((rp (huS cr) (i_3) (se, chn, los, dir, dkt, bef)).2.2.2.2.2)), (aLi, o1 aLy aC aG aU aR aN aW (cO o) (nI tk) em lo lk de), (aR, ja E 128 cr)] H → va_D A [(aLk, o2 aLy aLi aCh aLo aDi aDk aBe), (aLy, o0 (nI n) aK aX aY aF aS aL), (aS, ia E nI 16 ((rp (huS cr) (i_3) (se, chn, los, dir, dkt, bef)).1)), (aCh, ia E cL 16 ((rp (huS cr) (i_3) (se, chn, los, dir, dkt, bef)).2.1)), (aLo, ia E nI 16 ((rp (huS cr) (i_3) (se, chn, los, dir, dkt, bef)).2.2.1)), (aDi, ia E cD 16 ((rp (huS cr) (i_3) (se, chn, los, dir, dkt, bef)).2.2.2.1)), (aDk, ia E nI 16 ((rp (huS cr) (i_3) (se, chn, los, dir, dkt, bef)).2.2.2.2.1)), (aBe, ja E 16 ((rp (huS cr) (i_3) (se, chn, los, dir, dkt, bef)).2.2.2.2.2)), (aLi, o1 aLy aC aG aU aR aN aW (cO o) (nI tk) em lo lk de), (aR, ja E 128 cr)] → va_S A s.heap H locs → ∀ (ls : Array Slot), lv_has ls 3 [(0, .ref aLk), (1, .int (nI i_3))] → W p l e ({ frames := 2, cells := 0, slots := 0, locals := 45 }) s m (([.ref aLk] : List Value).toArray) below meth c H locs 0 0 (MQ below (va_Qv (fun _ : Unit => True) (Wd E [(aLk, o2 aLy aLi aCh aLo aDi aDk aBe), (aLy, o0 (nI n) aK aX aY aF aS aL), (aS, ia E nI 16 se), (aCh, ia E cL 16 chn), (aLo, ia E nI 16 los), (aDi, ia E cD 16 dir), (aDk, ia E nI 16 dkt), (aBe, ja E 16 bef), (aLi, o1 aLy aC aG aU aR aN aW (cO o) (nI tk) em lo lk de), (aR, ja E 128 cr)] s.heap.size (fun _ => [(aLk, o2 aLy aLi aCh aLo aDi aDk aBe), (aLy, o0 (nI n) aK aX aY aF aS aL), (aS, ia E nI 16 ((rp (huS cr) (n) (se, chn, los, dir, dkt, bef)).1)), (aCh, ia E cL 16 ((rp (huS cr) (n) (se, chn, los, dir, dkt, bef)).2.1)), (aLo, ia E nI 16 ((rp (huS cr) (n) (se, chn, los, dir, dkt, bef)).2.2.1)), (aDi, ia E cD 16 ((rp (huS cr) (n) (se, chn, los, dir, dkt, bef)).2.2.2.1)), (aDk, ia E nI 16 ((rp (huS cr) (n) (se, chn, los, dir, dkt, bef)).2.2.2.2.1)), (aBe, ja E 16 ((rp (huS cr) (n) (se, chn, los, dir, dkt, bef)).2.2.2.2.2)), (aLi, o1 aLy aC aG aU aR aN aW (cO o) (nI tk) em lo lk de), (aR, ja E 128 cr)])) A) (([.ref aLk] : List Value).toArray) s 0 0 A) (F0 m 2 ls []) := by
    intro nz
    induction nz with
    | zero =>
      intro i_3 h1 h2
      exact absurd h2 (by omega)
    | succ nz ih_2 =>
      intro i_3 hi_i_3 hn_i_3 hv_i_3 H locs hP hD hS ls hl
      refine lv_iload_n hx hb dX2_hunt_2 rfl (lv_at hl 1 rfl) ?_
      refine lv_aload_n hx hb dX2_hunt_3 rfl (lv_at hl 0 rfl) ?_
      refine va_get (D := E.1) (ci := 2) (v := .ref aLy) (C := RX2) (T := TX2) (N := 7) hx hb hts iX2 hown C0.1 hP 0 rfl rfl 0 (by decide) (hts (.fieldLink RX2 28 "Ringresonance$Locks" "layout" "LRingresonance$Layout;") (by decide +kernel)) (fun _ h9 => h9) rfl dX2_hunt_4 ?_
      refine va_get (D := E.1) (ci := 0) (v := .int (nI n)) (C := RX0) (T := TX0) (N := 7) hx hb hts iX0 hown C0.1 hP 1 rfl rfl 0 (by decide) (hts (.fieldLink RX2 42 "Ringresonance$Layout" "count" "I") (by decide +kernel)) (fun _ h9 => h9) rfl dX2_hunt_7 ?_
      refine lv_icmp_ge (tgt := 55) hx hb dX2_hunt_10 (by decide) (fun c_4 => ?_) (fun c_4 => ?_)
      · skip
        have c_4 : n ≤ i_3 := (ci_ge (by omega) (by omega)).mp c_4
        obtain rfl : n = i_3 := by omega
        exact exV hx hb hr hlocks hAe hS () trivial hP hD dX2_hunt_55
      · skip
        have c_4 : ¬ (n ≤ i_3) := fun h => c_4 ((ci_ge (by omega) (by omega)).mpr h)
        obtain ⟨hv1, hv2, hv3, hv4⟩ := hv_i_3 i_3 (by omega)
        refine lv_aload_n hx hb dX2_hunt_13 rfl (lv_at hl 0 rfl) ?_
        refine va_get (D := E.1) (ci := 2) (v := .ref aCh) (C := RX2) (T := TX2) (N := 7) hx hb hts iX2 hown C0.1 hP 0 rfl rfl 2 (by decide) (hts (.fieldLink RX2 9 "Ringresonance$Locks" "channels" "[I") (by decide +kernel)) (fun _ h9 => h9) rfl dX2_hunt_14 ?_
        refine lv_iload_n hx hb dX2_hunt_17 rfl (lv_at hl 1 rfl) ?_
        refine k_iald (e := i_3) (g := cL) (n := 16) hx hb C0 hP 3 rfl (by omega) (by omega) dX2_hunt_18 ?_
        refine lv_istore_n (lv' := [(2, .int (cL (((rp (huS cr) (i_3) (se, chn, los, dir, dkt, bef)).2.1) i_3))), (0, .ref aLk), (1, .int (nI i_3))]) hx hb dX2_hunt_19 rfl hl (by decide) rfl (fun ls hl => ?_)
        refine lv_iload_n hx hb dX2_hunt_20 rfl (lv_at hl 0 rfl) ?_
        refine lv_if_lt (tgt := 49) hx hb dX2_hunt_21 (by decide) (fun c_5 => ?_) (fun c_5 => ?_)
        · skip
          have c_5 : (rp (huS cr) (i_3) (se, chn, los, dir, dkt, bef)).2.1 i_3 = 0 := (cL_neg (by omega)).mp c_5
          have hcz := c_5
          refine lv_iinc (v := nI (i_3 + 1)) (lv' := [(1, .int (nI (i_3 + 1))), (2, .int (cL (((rp (huS cr) (i_3) (se, chn, los, dir, dkt, bef)).2.1) i_3))), (0, .ref aLk)]) hx hb dX2_hunt_49 hl (k := 2) rfl (nI_add i_3 1) (by decide) rfl (fun ls hl => ?_)
          refine lv_goto (tgt := 2) hx hb dX2_hunt_52 (by decide) ?_
          have q_6 : ((rp (huS cr) (i_3 + 1) (se, chn, los, dir, dkt, bef)).1) = ((rp (huS cr) (i_3) (se, chn, los, dir, dkt, bef)).1) := by first | (rw [rp_s, hus_0 hcz]; done) | (rw [rp_s, hus_1 hcn, eta6]; done)
          have q_7 : ((rp (huS cr) (i_3 + 1) (se, chn, los, dir, dkt, bef)).2.1) = ((rp (huS cr) (i_3) (se, chn, los, dir, dkt, bef)).2.1) := by first | (rw [rp_s, hus_0 hcz]; done) | (rw [rp_s, hus_1 hcn, eta6]; done)
          have q_8 : ((rp (huS cr) (i_3 + 1) (se, chn, los, dir, dkt, bef)).2.2.1) = ((rp (huS cr) (i_3) (se, chn, los, dir, dkt, bef)).2.2.1) := by first | (rw [rp_s, hus_0 hcz]; done) | (rw [rp_s, hus_1 hcn, eta6]; done)
          have q_9 : ((rp (huS cr) (i_3 + 1) (se, chn, los, dir, dkt, bef)).2.2.2.1) = ((rp (huS cr) (i_3) (se, chn, los, dir, dkt, bef)).2.2.2.1) := by first | (rw [rp_s, hus_0 hcz]; done) | (rw [rp_s, hus_1 hcn, eta6]; done)
          have q_10 : ((rp (huS cr) (i_3 + 1) (se, chn, los, dir, dkt, bef)).2.2.2.2.1) = ((rp (huS cr) (i_3) (se, chn, los, dir, dkt, bef)).2.2.2.2.1) := by first | (rw [rp_s, hus_0 hcz]; done) | (rw [rp_s, hus_1 hcn, eta6]; done)
          have q_11 : ((rp (huS cr) (i_3 + 1) (se, chn, los, dir, dkt, bef)).2.2.2.2.2) = ((rp (huS cr) (i_3) (se, chn, los, dir, dkt, bef)).2.2.2.2.2) := by first | (rw [rp_s, hus_0 hcz]; done) | (rw [rp_s, hus_1 hcn, eta6]; done)
          have hP : va_P E.1 vwCl [(aLk, o2 aLy aLi aCh aLo aDi aDk aBe), (aLy, o0 (nI n) aK aX aY aF aS aL), (aS, ia E nI 16 ((rp (huS cr) (i_3 + 1) (se, chn, los, dir, dkt, bef)).1)), (aCh, ia E cL 16 ((rp (huS cr) (i_3 + 1) (se, chn, los, dir, dkt, bef)).2.1)), (aLo, ia E nI 16 ((rp (huS cr) (i_3 + 1) (se, chn, los, dir, dkt, bef)).2.2.1)), (aDi, ia E cD 16 ((rp (huS cr) (i_3 + 1) (se, chn, los, dir, dkt, bef)).2.2.2.1)), (aDk, ia E nI 16 ((rp (huS cr) (i_3 + 1) (se, chn, los, dir, dkt, bef)).2.2.2.2.1)), (aBe, ja E 16 ((rp (huS cr) (i_3 + 1) (se, chn, los, dir, dkt, bef)).2.2.2.2.2)), (aLi, o1 aLy aC aG aU aR aN aW (cO o) (nI tk) em lo lk de), (aR, ja E 128 cr)] H := by rw [q_6, q_7, q_8, q_9, q_10, q_11]; exact hP
          have hD : va_D A [(aLk, o2 aLy aLi aCh aLo aDi aDk aBe), (aLy, o0 (nI n) aK aX aY aF aS aL), (aS, ia E nI 16 ((rp (huS cr) (i_3 + 1) (se, chn, los, dir, dkt, bef)).1)), (aCh, ia E cL 16 ((rp (huS cr) (i_3 + 1) (se, chn, los, dir, dkt, bef)).2.1)), (aLo, ia E nI 16 ((rp (huS cr) (i_3 + 1) (se, chn, los, dir, dkt, bef)).2.2.1)), (aDi, ia E cD 16 ((rp (huS cr) (i_3 + 1) (se, chn, los, dir, dkt, bef)).2.2.2.1)), (aDk, ia E nI 16 ((rp (huS cr) (i_3 + 1) (se, chn, los, dir, dkt, bef)).2.2.2.2.1)), (aBe, ja E 16 ((rp (huS cr) (i_3 + 1) (se, chn, los, dir, dkt, bef)).2.2.2.2.2)), (aLi, o1 aLy aC aG aU aR aN aW (cO o) (nI tk) em lo lk de), (aR, ja E 128 cr)] := by rw [q_6, q_7, q_8, q_9, q_10, q_11]; exact hD
          have hl : lv_has ls 3 [(0, .ref aLk), (1, .int (nI (i_3 + 1)))] := lv_sub hl [2, 0] rfl
          exact ih_2 (i_3 + 1) (by omega) (by omega) (huS_ok (by omega) hv_i_3) _ _ hP hD hS _ hl
        · skip
          have c_5 : ¬ ((rp (huS cr) (i_3) (se, chn, los, dir, dkt, bef)).2.1 i_3 = 0) := fun h => c_5 ((cL_neg (by omega)).mpr h)
          have hcn := c_5
          obtain ⟨hv5, hv6⟩ := hv4 hcn
          rw [show cL (((rp (huS cr) (i_3) (se, chn, los, dir, dkt, bef)).2.1) i_3) = nI ((rp (huS cr) (i_3) (se, chn, los, dir, dkt, bef)).2.1 i_3 - 1) from cL_pos c_5] at hl
          refine lv_iload_n hx hb dX2_hunt_24 rfl (lv_at hl 0 rfl) ?_
          refine lv_bipush (v := nI 8) hx hb dX2_hunt_25 (by decide) ?_
          refine lv_icmp_ge (tgt := 49) hx hb dX2_hunt_27 (by decide) (fun c_12 => ?_) (fun c_12 => ?_)
          · skip
            have c_12 : 8 ≤ ((rp (huS cr) (i_3) (se, chn, los, dir, dkt, bef)).2.1 i_3 - 1) := (ci_ge (by omega) (by omega)).mp c_12
            exact absurd c_12 (by omega)
          · skip
            have c_12 : ¬ (8 ≤ ((rp (huS cr) (i_3) (se, chn, los, dir, dkt, bef)).2.1 i_3 - 1)) := fun h => c_12 ((ci_ge (by omega) (by omega)).mpr h)
            refine lv_aload_n hx hb dX2_hunt_30 rfl (lv_at hl 1 rfl) ?_
            refine lv_iload_n hx hb dX2_hunt_31 rfl (lv_at hl 2 rfl) ?_
            refine lv_aload_n hx hb dX2_hunt_32 rfl (lv_at hl 1 rfl) ?_
            refine va_get (D := E.1) (ci := 2) (v := .ref aLi) (C := RX2) (T := TX2) (N := 7) hx hb hts iX2 hown C0.1 hP 0 rfl rfl 1 (by decide) (hts (.fieldLink RX2 32 "Ringresonance$Locks" "light" "LRingresonance$Light;") (by decide +kernel)) (fun _ h9 => h9) rfl dX2_hunt_33 ?_
            refine va_get (D := E.1) (ci := 1) (v := .ref aR) (C := RX1) (T := TX1) (N := 13) hx hb hts iX1 hown C0.1 hP 8 rfl rfl 4 (by decide) (hts (.fieldLink RX2 48 "Ringresonance$Light" "crossed" "[J") (by decide +kernel)) (fun _ h9 => h9) rfl dX2_hunt_36 ?_
            refine lv_iload_n hx hb dX2_hunt_39 rfl (lv_at hl 2 rfl) ?_
            refine lv_bipush (v := nI 8) hx hb dX2_hunt_40 (by decide) ?_
            refine lv_imul hx hb dX2_hunt_42 ?_
            refine lv_ri (y := (nI (i_3 * 8))) (pk_mul i_3 8) ?_
            refine lv_iload_n hx hb dX2_hunt_43 rfl (lv_at hl 0 rfl) ?_
            refine lv_iadd hx hb dX2_hunt_44 ?_
            refine lv_ri (y := (nI ((i_3 * 8) + ((rp (huS cr) (i_3) (se, chn, los, dir, dkt, bef)).2.1 i_3 - 1)))) (nI_add (i_3 * 8) ((rp (huS cr) (i_3) (se, chn, los, dir, dkt, bef)).2.1 i_3 - 1)) ?_
            refine k_lald (e := ((i_3 * 8) + ((rp (huS cr) (i_3) (se, chn, los, dir, dkt, bef)).2.1 i_3 - 1))) (n := 128) hx hb C0 hP 9 rfl (by omega) (by omega) dX2_hunt_45 ?_
            have hPc := hP.pick (ws' := [(aLk, o2 aLy aLi aCh aLo aDi aDk aBe), (aLy, o0 (nI n) aK aX aY aF aS aL), (aS, ia E nI 16 ((rp (huS cr) (i_3) (se, chn, los, dir, dkt, bef)).1)), (aCh, ia E cL 16 ((rp (huS cr) (i_3) (se, chn, los, dir, dkt, bef)).2.1)), (aLo, ia E nI 16 ((rp (huS cr) (i_3) (se, chn, los, dir, dkt, bef)).2.2.1)), (aDi, ia E cD 16 ((rp (huS cr) (i_3) (se, chn, los, dir, dkt, bef)).2.2.2.1)), (aDk, ia E nI 16 ((rp (huS cr) (i_3) (se, chn, los, dir, dkt, bef)).2.2.2.2.1)), (aBe, ja E 16 ((rp (huS cr) (i_3) (se, chn, los, dir, dkt, bef)).2.2.2.2.2))]) [0, 1, 2, 3, 4, 5, 6, 7] rfl
            have hDc := hD.sub (ws' := [(aLk, o2 aLy aLi aCh aLo aDi aDk aBe), (aLy, o0 (nI n) aK aX aY aF aS aL), (aS, ia E nI 16 ((rp (huS cr) (i_3) (se, chn, los, dir, dkt, bef)).1)), (aCh, ia E cL 16 ((rp (huS cr) (i_3) (se, chn, los, dir, dkt, bef)).2.1)), (aLo, ia E nI 16 ((rp (huS cr) (i_3) (se, chn, los, dir, dkt, bef)).2.2.1)), (aDi, ia E cD 16 ((rp (huS cr) (i_3) (se, chn, los, dir, dkt, bef)).2.2.2.1)), (aDk, ia E nI 16 ((rp (huS cr) (i_3) (se, chn, los, dir, dkt, bef)).2.2.2.2.1)), (aBe, ja E 16 ((rp (huS cr) (i_3) (se, chn, los, dir, dkt, bef)).2.2.2.2.2))]) [0, 1, 2, 3, 4, 5, 6, 7] (by decide) rfl
            refine kcV (wr := [(aLi, o1 aLy aC aG aU aR aN aW (cO o) (nI tk) em lo lk de), (aR, ja E 128 cr)]) (w1 := fun _ : Unit => [(aLk, o2 aLy aLi aCh aLo aDi aDk aBe), (aLy, o0 (nI n) aK aX aY aF aS aL), (aS, ia E nI 16 ((huO i_3 (cr ((i_3 * 8) + ((rp (huS cr) (i_3) (se, chn, los, dir, dkt, bef)).2.1 i_3 - 1))) (((rp (huS cr) (i_3) (se, chn, los, dir, dkt, bef)).1), ((rp (huS cr) (i_3) (se, chn, los, dir, dkt, bef)).2.1), ((rp (huS cr) (i_3) (se, chn, los, dir, dkt, bef)).2.2.1), ((rp (huS cr) (i_3) (se, chn, los, dir, dkt, bef)).2.2.2.1), ((rp (huS cr) (i_3) (se, chn, los, dir, dkt, bef)).2.2.2.2.1), ((rp (huS cr) (i_3) (se, chn, los, dir, dkt, bef)).2.2.2.2.2))).1)), (aCh, ia E cL 16 ((huO i_3 (cr ((i_3 * 8) + ((rp (huS cr) (i_3) (se, chn, los, dir, dkt, bef)).2.1 i_3 - 1))) (((rp (huS cr) (i_3) (se, chn, los, dir, dkt, bef)).1), ((rp (huS cr) (i_3) (se, chn, los, dir, dkt, bef)).2.1), ((rp (huS cr) (i_3) (se, chn, los, dir, dkt, bef)).2.2.1), ((rp (huS cr) (i_3) (se, chn, los, dir, dkt, bef)).2.2.2.1), ((rp (huS cr) (i_3) (se, chn, los, dir, dkt, bef)).2.2.2.2.1), ((rp (huS cr) (i_3) (se, chn, los, dir, dkt, bef)).2.2.2.2.2))).2.1)), (aLo, ia E nI 16 ((huO i_3 (cr ((i_3 * 8) + ((rp (huS cr) (i_3) (se, chn, los, dir, dkt, bef)).2.1 i_3 - 1))) (((rp (huS cr) (i_3) (se, chn, los, dir, dkt, bef)).1), ((rp (huS cr) (i_3) (se, chn, los, dir, dkt, bef)).2.1), ((rp (huS cr) (i_3) (se, chn, los, dir, dkt, bef)).2.2.1), ((rp (huS cr) (i_3) (se, chn, los, dir, dkt, bef)).2.2.2.1), ((rp (huS cr) (i_3) (se, chn, los, dir, dkt, bef)).2.2.2.2.1), ((rp (huS cr) (i_3) (se, chn, los, dir, dkt, bef)).2.2.2.2.2))).2.2.1)), (aDi, ia E cD 16 ((huO i_3 (cr ((i_3 * 8) + ((rp (huS cr) (i_3) (se, chn, los, dir, dkt, bef)).2.1 i_3 - 1))) (((rp (huS cr) (i_3) (se, chn, los, dir, dkt, bef)).1), ((rp (huS cr) (i_3) (se, chn, los, dir, dkt, bef)).2.1), ((rp (huS cr) (i_3) (se, chn, los, dir, dkt, bef)).2.2.1), ((rp (huS cr) (i_3) (se, chn, los, dir, dkt, bef)).2.2.2.1), ((rp (huS cr) (i_3) (se, chn, los, dir, dkt, bef)).2.2.2.2.1), ((rp (huS cr) (i_3) (se, chn, los, dir, dkt, bef)).2.2.2.2.2))).2.2.2.1)), (aDk, ia E nI 16 ((huO i_3 (cr ((i_3 * 8) + ((rp (huS cr) (i_3) (se, chn, los, dir, dkt, bef)).2.1 i_3 - 1))) (((rp (huS cr) (i_3) (se, chn, los, dir, dkt, bef)).1), ((rp (huS cr) (i_3) (se, chn, los, dir, dkt, bef)).2.1), ((rp (huS cr) (i_3) (se, chn, los, dir, dkt, bef)).2.2.1), ((rp (huS cr) (i_3) (se, chn, los, dir, dkt, bef)).2.2.2.1), ((rp (huS cr) (i_3) (se, chn, los, dir, dkt, bef)).2.2.2.2.1), ((rp (huS cr) (i_3) (se, chn, los, dir, dkt, bef)).2.2.2.2.2))).2.2.2.2.1)), (aBe, ja E 16 ((huO i_3 (cr ((i_3 * 8) + ((rp (huS cr) (i_3) (se, chn, los, dir, dkt, bef)).2.1 i_3 - 1))) (((rp (huS cr) (i_3) (se, chn, los, dir, dkt, bef)).1), ((rp (huS cr) (i_3) (se, chn, los, dir, dkt, bef)).2.1), ((rp (huS cr) (i_3) (se, chn, los, dir, dkt, bef)).2.2.1), ((rp (huS cr) (i_3) (se, chn, los, dir, dkt, bef)).2.2.2.1), ((rp (huS cr) (i_3) (se, chn, los, dir, dkt, bef)).2.2.2.2.1), ((rp (huS cr) (i_3) (se, chn, los, dir, dkt, bef)).2.2.2.2.2))).2.2.2.2.2))]) (w2 := fun _ => [(aLk, o2 aLy aLi aCh aLo aDi aDk aBe), (aLy, o0 (nI n) aK aX aY aF aS aL), (aS, ia E nI 16 ((huO i_3 (cr ((i_3 * 8) + ((rp (huS cr) (i_3) (se, chn, los, dir, dkt, bef)).2.1 i_3 - 1))) (((rp (huS cr) (i_3) (se, chn, los, dir, dkt, bef)).1), ((rp (huS cr) (i_3) (se, chn, los, dir, dkt, bef)).2.1), ((rp (huS cr) (i_3) (se, chn, los, dir, dkt, bef)).2.2.1), ((rp (huS cr) (i_3) (se, chn, los, dir, dkt, bef)).2.2.2.1), ((rp (huS cr) (i_3) (se, chn, los, dir, dkt, bef)).2.2.2.2.1), ((rp (huS cr) (i_3) (se, chn, los, dir, dkt, bef)).2.2.2.2.2))).1)), (aCh, ia E cL 16 ((huO i_3 (cr ((i_3 * 8) + ((rp (huS cr) (i_3) (se, chn, los, dir, dkt, bef)).2.1 i_3 - 1))) (((rp (huS cr) (i_3) (se, chn, los, dir, dkt, bef)).1), ((rp (huS cr) (i_3) (se, chn, los, dir, dkt, bef)).2.1), ((rp (huS cr) (i_3) (se, chn, los, dir, dkt, bef)).2.2.1), ((rp (huS cr) (i_3) (se, chn, los, dir, dkt, bef)).2.2.2.1), ((rp (huS cr) (i_3) (se, chn, los, dir, dkt, bef)).2.2.2.2.1), ((rp (huS cr) (i_3) (se, chn, los, dir, dkt, bef)).2.2.2.2.2))).2.1)), (aLo, ia E nI 16 ((huO i_3 (cr ((i_3 * 8) + ((rp (huS cr) (i_3) (se, chn, los, dir, dkt, bef)).2.1 i_3 - 1))) (((rp (huS cr) (i_3) (se, chn, los, dir, dkt, bef)).1), ((rp (huS cr) (i_3) (se, chn, los, dir, dkt, bef)).2.1), ((rp (huS cr) (i_3) (se, chn, los, dir, dkt, bef)).2.2.1), ((rp (huS cr) (i_3) (se, chn, los, dir, dkt, bef)).2.2.2.1), ((rp (huS cr) (i_3) (se, chn, los, dir, dkt, bef)).2.2.2.2.1), ((rp (huS cr) (i_3) (se, chn, los, dir, dkt, bef)).2.2.2.2.2))).2.2.1)), (aDi, ia E cD 16 ((huO i_3 (cr ((i_3 * 8) + ((rp (huS cr) (i_3) (se, chn, los, dir, dkt, bef)).2.1 i_3 - 1))) (((rp (huS cr) (i_3) (se, chn, los, dir, dkt, bef)).1), ((rp (huS cr) (i_3) (se, chn, los, dir, dkt, bef)).2.1), ((rp (huS cr) (i_3) (se, chn, los, dir, dkt, bef)).2.2.1), ((rp (huS cr) (i_3) (se, chn, los, dir, dkt, bef)).2.2.2.1), ((rp (huS cr) (i_3) (se, chn, los, dir, dkt, bef)).2.2.2.2.1), ((rp (huS cr) (i_3) (se, chn, los, dir, dkt, bef)).2.2.2.2.2))).2.2.2.1)), (aDk, ia E nI 16 ((huO i_3 (cr ((i_3 * 8) + ((rp (huS cr) (i_3) (se, chn, los, dir, dkt, bef)).2.1 i_3 - 1))) (((rp (huS cr) (i_3) (se, chn, los, dir, dkt, bef)).1), ((rp (huS cr) (i_3) (se, chn, los, dir, dkt, bef)).2.1), ((rp (huS cr) (i_3) (se, chn, los, dir, dkt, bef)).2.2.1), ((rp (huS cr) (i_3) (se, chn, los, dir, dkt, bef)).2.2.2.1), ((rp (huS cr) (i_3) (se, chn, los, dir, dkt, bef)).2.2.2.2.1), ((rp (huS cr) (i_3) (se, chn, los, dir, dkt, bef)).2.2.2.2.2))).2.2.2.2.1)), (aBe, ja E 16 ((huO i_3 (cr ((i_3 * 8) + ((rp (huS cr) (i_3) (se, chn, los, dir, dkt, bef)).2.1 i_3 - 1))) (((rp (huS cr) (i_3) (se, chn, los, dir, dkt, bef)).1), ((rp (huS cr) (i_3) (se, chn, los, dir, dkt, bef)).2.1), ((rp (huS cr) (i_3) (se, chn, los, dir, dkt, bef)).2.2.1), ((rp (huS cr) (i_3) (se, chn, los, dir, dkt, bef)).2.2.2.1), ((rp (huS cr) (i_3) (se, chn, los, dir, dkt, bef)).2.2.2.2.1), ((rp (huS cr) (i_3) (se, chn, los, dir, dkt, bef)).2.2.2.2.2))).2.2.2.2.2)), (aLi, o1 aLy aC aG aU aR aN aW (cO o) (nI tk) em lo lk de), (aR, ja E 128 cr)]) (va_runV (As := [.int (nI i_3), .long (cr ((i_3 * 8) + ((rp (huS cr) (i_3) (se, chn, los, dir, dkt, bef)).2.1 i_3 - 1)))]) (rest := []) ⟨hx, hb, hml, hown, hts⟩ (c_huntOne l E H.size i_3 (cr ((i_3 * 8) + ((rp (huS cr) (i_3) (se, chn, los, dir, dkt, bef)).2.1 i_3 - 1))) aLy aK aX aY aF aS aL n aLi aLk aCh aLo aDi aDk aBe ((rp (huS cr) (i_3) (se, chn, los, dir, dkt, bef)).2.1) ((rp (huS cr) (i_3) (se, chn, los, dir, dkt, bef)).2.2.1) ((rp (huS cr) (i_3) (se, chn, los, dir, dkt, bef)).2.2.2.1) ((rp (huS cr) (i_3) (se, chn, los, dir, dkt, bef)).2.2.2.2.1) ((rp (huS cr) (i_3) (se, chn, los, dir, dkt, bef)).2.2.2.2.2) ((rp (huS cr) (i_3) (se, chn, los, dir, dkt, bef)).1) (by omega) (by omega) (by omega) (by omega)) (cwV 2 hts gX2_hunt_X2_huntOne rfl rfl rfl (by decide +kernel) ⟨Nat.le_of_ble_eq_true rfl, Nat.le_of_ble_eq_true rfl⟩) (preV C0 hPc hDc hS 0 rfl rfl) rfl rfl hl.1 rfl (lv_room (Nat.le_of_ble_eq_true rfl)) dX2_hunt_46 ⟨Nat.le_refl _, Nat.le_refl _⟩) C0 hP hD hS [0, 1, 2, 3, 4, 5, 6, 7] [8, 9] [2, 3, 4, 5, 6, 7, 8, 9, 0, 1] rfl rfl (by decide) (by decide) (fun _ => rfl) (by decide) (fun _u H locs _hw hP hD hS => ?_)
            have hP : va_P E.1 vwCl [(aLk, o2 aLy aLi aCh aLo aDi aDk aBe), (aLy, o0 (nI n) aK aX aY aF aS aL), (aS, ia E nI 16 ((huO i_3 (cr ((i_3 * 8) + ((rp (huS cr) (i_3) (se, chn, los, dir, dkt, bef)).2.1 i_3 - 1))) (((rp (huS cr) (i_3) (se, chn, los, dir, dkt, bef)).1), ((rp (huS cr) (i_3) (se, chn, los, dir, dkt, bef)).2.1), ((rp (huS cr) (i_3) (se, chn, los, dir, dkt, bef)).2.2.1), ((rp (huS cr) (i_3) (se, chn, los, dir, dkt, bef)).2.2.2.1), ((rp (huS cr) (i_3) (se, chn, los, dir, dkt, bef)).2.2.2.2.1), ((rp (huS cr) (i_3) (se, chn, los, dir, dkt, bef)).2.2.2.2.2))).1)), (aCh, ia E cL 16 ((huO i_3 (cr ((i_3 * 8) + ((rp (huS cr) (i_3) (se, chn, los, dir, dkt, bef)).2.1 i_3 - 1))) (((rp (huS cr) (i_3) (se, chn, los, dir, dkt, bef)).1), ((rp (huS cr) (i_3) (se, chn, los, dir, dkt, bef)).2.1), ((rp (huS cr) (i_3) (se, chn, los, dir, dkt, bef)).2.2.1), ((rp (huS cr) (i_3) (se, chn, los, dir, dkt, bef)).2.2.2.1), ((rp (huS cr) (i_3) (se, chn, los, dir, dkt, bef)).2.2.2.2.1), ((rp (huS cr) (i_3) (se, chn, los, dir, dkt, bef)).2.2.2.2.2))).2.1)), (aLo, ia E nI 16 ((huO i_3 (cr ((i_3 * 8) + ((rp (huS cr) (i_3) (se, chn, los, dir, dkt, bef)).2.1 i_3 - 1))) (((rp (huS cr) (i_3) (se, chn, los, dir, dkt, bef)).1), ((rp (huS cr) (i_3) (se, chn, los, dir, dkt, bef)).2.1), ((rp (huS cr) (i_3) (se, chn, los, dir, dkt, bef)).2.2.1), ((rp (huS cr) (i_3) (se, chn, los, dir, dkt, bef)).2.2.2.1), ((rp (huS cr) (i_3) (se, chn, los, dir, dkt, bef)).2.2.2.2.1), ((rp (huS cr) (i_3) (se, chn, los, dir, dkt, bef)).2.2.2.2.2))).2.2.1)), (aDi, ia E cD 16 ((huO i_3 (cr ((i_3 * 8) + ((rp (huS cr) (i_3) (se, chn, los, dir, dkt, bef)).2.1 i_3 - 1))) (((rp (huS cr) (i_3) (se, chn, los, dir, dkt, bef)).1), ((rp (huS cr) (i_3) (se, chn, los, dir, dkt, bef)).2.1), ((rp (huS cr) (i_3) (se, chn, los, dir, dkt, bef)).2.2.1), ((rp (huS cr) (i_3) (se, chn, los, dir, dkt, bef)).2.2.2.1), ((rp (huS cr) (i_3) (se, chn, los, dir, dkt, bef)).2.2.2.2.1), ((rp (huS cr) (i_3) (se, chn, los, dir, dkt, bef)).2.2.2.2.2))).2.2.2.1)), (aDk, ia E nI 16 ((huO i_3 (cr ((i_3 * 8) + ((rp (huS cr) (i_3) (se, chn, los, dir, dkt, bef)).2.1 i_3 - 1))) (((rp (huS cr) (i_3) (se, chn, los, dir, dkt, bef)).1), ((rp (huS cr) (i_3) (se, chn, los, dir, dkt, bef)).2.1), ((rp (huS cr) (i_3) (se, chn, los, dir, dkt, bef)).2.2.1), ((rp (huS cr) (i_3) (se, chn, los, dir, dkt, bef)).2.2.2.1), ((rp (huS cr) (i_3) (se, chn, los, dir, dkt, bef)).2.2.2.2.1), ((rp (huS cr) (i_3) (se, chn, los, dir, dkt, bef)).2.2.2.2.2))).2.2.2.2.1)), (aBe, ja E 16 ((huO i_3 (cr ((i_3 * 8) + ((rp (huS cr) (i_3) (se, chn, los, dir, dkt, bef)).2.1 i_3 - 1))) (((rp (huS cr) (i_3) (se, chn, los, dir, dkt, bef)).1), ((rp (huS cr) (i_3) (se, chn, los, dir, dkt, bef)).2.1), ((rp (huS cr) (i_3) (se, chn, los, dir, dkt, bef)).2.2.1), ((rp (huS cr) (i_3) (se, chn, los, dir, dkt, bef)).2.2.2.1), ((rp (huS cr) (i_3) (se, chn, los, dir, dkt, bef)).2.2.2.2.1), ((rp (huS cr) (i_3) (se, chn, los, dir, dkt, bef)).2.2.2.2.2))).2.2.2.2.2)), (aLi, o1 aLy aC aG aU aR aN aW (cO o) (nI tk) em lo lk de), (aR, ja E 128 cr)] H := hP
            have hD : va_D A [(aLk, o2 aLy aLi aCh aLo aDi aDk aBe), (aLy, o0 (nI n) aK aX aY aF aS aL), (aS, ia E nI 16 ((huO i_3 (cr ((i_3 * 8) + ((rp (huS cr) (i_3) (se, chn, los, dir, dkt, bef)).2.1 i_3 - 1))) (((rp (huS cr) (i_3) (se, chn, los, dir, dkt, bef)).1), ((rp (huS cr) (i_3) (se, chn, los, dir, dkt, bef)).2.1), ((rp (huS cr) (i_3) (se, chn, los, dir, dkt, bef)).2.2.1), ((rp (huS cr) (i_3) (se, chn, los, dir, dkt, bef)).2.2.2.1), ((rp (huS cr) (i_3) (se, chn, los, dir, dkt, bef)).2.2.2.2.1), ((rp (huS cr) (i_3) (se, chn, los, dir, dkt, bef)).2.2.2.2.2))).1)), (aCh, ia E cL 16 ((huO i_3 (cr ((i_3 * 8) + ((rp (huS cr) (i_3) (se, chn, los, dir, dkt, bef)).2.1 i_3 - 1))) (((rp (huS cr) (i_3) (se, chn, los, dir, dkt, bef)).1), ((rp (huS cr) (i_3) (se, chn, los, dir, dkt, bef)).2.1), ((rp (huS cr) (i_3) (se, chn, los, dir, dkt, bef)).2.2.1), ((rp (huS cr) (i_3) (se, chn, los, dir, dkt, bef)).2.2.2.1), ((rp (huS cr) (i_3) (se, chn, los, dir, dkt, bef)).2.2.2.2.1), ((rp (huS cr) (i_3) (se, chn, los, dir, dkt, bef)).2.2.2.2.2))).2.1)), (aLo, ia E nI 16 ((huO i_3 (cr ((i_3 * 8) + ((rp (huS cr) (i_3) (se, chn, los, dir, dkt, bef)).2.1 i_3 - 1))) (((rp (huS cr) (i_3) (se, chn, los, dir, dkt, bef)).1), ((rp (huS cr) (i_3) (se, chn, los, dir, dkt, bef)).2.1), ((rp (huS cr) (i_3) (se, chn, los, dir, dkt, bef)).2.2.1), ((rp (huS cr) (i_3) (se, chn, los, dir, dkt, bef)).2.2.2.1), ((rp (huS cr) (i_3) (se, chn, los, dir, dkt, bef)).2.2.2.2.1), ((rp (huS cr) (i_3) (se, chn, los, dir, dkt, bef)).2.2.2.2.2))).2.2.1)), (aDi, ia E cD 16 ((huO i_3 (cr ((i_3 * 8) + ((rp (huS cr) (i_3) (se, chn, los, dir, dkt, bef)).2.1 i_3 - 1))) (((rp (huS cr) (i_3) (se, chn, los, dir, dkt, bef)).1), ((rp (huS cr) (i_3) (se, chn, los, dir, dkt, bef)).2.1), ((rp (huS cr) (i_3) (se, chn, los, dir, dkt, bef)).2.2.1), ((rp (huS cr) (i_3) (se, chn, los, dir, dkt, bef)).2.2.2.1), ((rp (huS cr) (i_3) (se, chn, los, dir, dkt, bef)).2.2.2.2.1), ((rp (huS cr) (i_3) (se, chn, los, dir, dkt, bef)).2.2.2.2.2))).2.2.2.1)), (aDk, ia E nI 16 ((huO i_3 (cr ((i_3 * 8) + ((rp (huS cr) (i_3) (se, chn, los, dir, dkt, bef)).2.1 i_3 - 1))) (((rp (huS cr) (i_3) (se, chn, los, dir, dkt, bef)).1), ((rp (huS cr) (i_3) (se, chn, los, dir, dkt, bef)).2.1), ((rp (huS cr) (i_3) (se, chn, los, dir, dkt, bef)).2.2.1), ((rp (huS cr) (i_3) (se, chn, los, dir, dkt, bef)).2.2.2.1), ((rp (huS cr) (i_3) (se, chn, los, dir, dkt, bef)).2.2.2.2.1), ((rp (huS cr) (i_3) (se, chn, los, dir, dkt, bef)).2.2.2.2.2))).2.2.2.2.1)), (aBe, ja E 16 ((huO i_3 (cr ((i_3 * 8) + ((rp (huS cr) (i_3) (se, chn, los, dir, dkt, bef)).2.1 i_3 - 1))) (((rp (huS cr) (i_3) (se, chn, los, dir, dkt, bef)).1), ((rp (huS cr) (i_3) (se, chn, los, dir, dkt, bef)).2.1), ((rp (huS cr) (i_3) (se, chn, los, dir, dkt, bef)).2.2.1), ((rp (huS cr) (i_3) (se, chn, los, dir, dkt, bef)).2.2.2.1), ((rp (huS cr) (i_3) (se, chn, los, dir, dkt, bef)).2.2.2.2.1), ((rp (huS cr) (i_3) (se, chn, los, dir, dkt, bef)).2.2.2.2.2))).2.2.2.2.2)), (aLi, o1 aLy aC aG aU aR aN aW (cO o) (nI tk) em lo lk de), (aR, ja E 128 cr)] := hD
            refine lv_iinc (v := nI (i_3 + 1)) (lv' := [(1, .int (nI (i_3 + 1))), (2, .int (nI ((rp (huS cr) (i_3) (se, chn, los, dir, dkt, bef)).2.1 i_3 - 1))), (0, .ref aLk)]) hx hb dX2_hunt_49 hl (k := 2) rfl (nI_add i_3 1) (by decide) rfl (fun ls hl => ?_)
            refine lv_goto (tgt := 2) hx hb dX2_hunt_52 (by decide) ?_
            have q_13 : ((rp (huS cr) (i_3 + 1) (se, chn, los, dir, dkt, bef)).1) = ((huO i_3 (cr ((i_3 * 8) + ((rp (huS cr) (i_3) (se, chn, los, dir, dkt, bef)).2.1 i_3 - 1))) (((rp (huS cr) (i_3) (se, chn, los, dir, dkt, bef)).1), ((rp (huS cr) (i_3) (se, chn, los, dir, dkt, bef)).2.1), ((rp (huS cr) (i_3) (se, chn, los, dir, dkt, bef)).2.2.1), ((rp (huS cr) (i_3) (se, chn, los, dir, dkt, bef)).2.2.2.1), ((rp (huS cr) (i_3) (se, chn, los, dir, dkt, bef)).2.2.2.2.1), ((rp (huS cr) (i_3) (se, chn, los, dir, dkt, bef)).2.2.2.2.2))).1) := by first | (rw [rp_s, hus_0 hcz]; done) | (rw [rp_s, hus_1 hcn, eta6]; done)
            have q_14 : ((rp (huS cr) (i_3 + 1) (se, chn, los, dir, dkt, bef)).2.1) = ((huO i_3 (cr ((i_3 * 8) + ((rp (huS cr) (i_3) (se, chn, los, dir, dkt, bef)).2.1 i_3 - 1))) (((rp (huS cr) (i_3) (se, chn, los, dir, dkt, bef)).1), ((rp (huS cr) (i_3) (se, chn, los, dir, dkt, bef)).2.1), ((rp (huS cr) (i_3) (se, chn, los, dir, dkt, bef)).2.2.1), ((rp (huS cr) (i_3) (se, chn, los, dir, dkt, bef)).2.2.2.1), ((rp (huS cr) (i_3) (se, chn, los, dir, dkt, bef)).2.2.2.2.1), ((rp (huS cr) (i_3) (se, chn, los, dir, dkt, bef)).2.2.2.2.2))).2.1) := by first | (rw [rp_s, hus_0 hcz]; done) | (rw [rp_s, hus_1 hcn, eta6]; done)
            have q_15 : ((rp (huS cr) (i_3 + 1) (se, chn, los, dir, dkt, bef)).2.2.1) = ((huO i_3 (cr ((i_3 * 8) + ((rp (huS cr) (i_3) (se, chn, los, dir, dkt, bef)).2.1 i_3 - 1))) (((rp (huS cr) (i_3) (se, chn, los, dir, dkt, bef)).1), ((rp (huS cr) (i_3) (se, chn, los, dir, dkt, bef)).2.1), ((rp (huS cr) (i_3) (se, chn, los, dir, dkt, bef)).2.2.1), ((rp (huS cr) (i_3) (se, chn, los, dir, dkt, bef)).2.2.2.1), ((rp (huS cr) (i_3) (se, chn, los, dir, dkt, bef)).2.2.2.2.1), ((rp (huS cr) (i_3) (se, chn, los, dir, dkt, bef)).2.2.2.2.2))).2.2.1) := by first | (rw [rp_s, hus_0 hcz]; done) | (rw [rp_s, hus_1 hcn, eta6]; done)
            have q_16 : ((rp (huS cr) (i_3 + 1) (se, chn, los, dir, dkt, bef)).2.2.2.1) = ((huO i_3 (cr ((i_3 * 8) + ((rp (huS cr) (i_3) (se, chn, los, dir, dkt, bef)).2.1 i_3 - 1))) (((rp (huS cr) (i_3) (se, chn, los, dir, dkt, bef)).1), ((rp (huS cr) (i_3) (se, chn, los, dir, dkt, bef)).2.1), ((rp (huS cr) (i_3) (se, chn, los, dir, dkt, bef)).2.2.1), ((rp (huS cr) (i_3) (se, chn, los, dir, dkt, bef)).2.2.2.1), ((rp (huS cr) (i_3) (se, chn, los, dir, dkt, bef)).2.2.2.2.1), ((rp (huS cr) (i_3) (se, chn, los, dir, dkt, bef)).2.2.2.2.2))).2.2.2.1) := by first | (rw [rp_s, hus_0 hcz]; done) | (rw [rp_s, hus_1 hcn, eta6]; done)
            have q_17 : ((rp (huS cr) (i_3 + 1) (se, chn, los, dir, dkt, bef)).2.2.2.2.1) = ((huO i_3 (cr ((i_3 * 8) + ((rp (huS cr) (i_3) (se, chn, los, dir, dkt, bef)).2.1 i_3 - 1))) (((rp (huS cr) (i_3) (se, chn, los, dir, dkt, bef)).1), ((rp (huS cr) (i_3) (se, chn, los, dir, dkt, bef)).2.1), ((rp (huS cr) (i_3) (se, chn, los, dir, dkt, bef)).2.2.1), ((rp (huS cr) (i_3) (se, chn, los, dir, dkt, bef)).2.2.2.1), ((rp (huS cr) (i_3) (se, chn, los, dir, dkt, bef)).2.2.2.2.1), ((rp (huS cr) (i_3) (se, chn, los, dir, dkt, bef)).2.2.2.2.2))).2.2.2.2.1) := by first | (rw [rp_s, hus_0 hcz]; done) | (rw [rp_s, hus_1 hcn, eta6]; done)
            have q_18 : ((rp (huS cr) (i_3 + 1) (se, chn, los, dir, dkt, bef)).2.2.2.2.2) = ((huO i_3 (cr ((i_3 * 8) + ((rp (huS cr) (i_3) (se, chn, los, dir, dkt, bef)).2.1 i_3 - 1))) (((rp (huS cr) (i_3) (se, chn, los, dir, dkt, bef)).1), ((rp (huS cr) (i_3) (se, chn, los, dir, dkt, bef)).2.1), ((rp (huS cr) (i_3) (se, chn, los, dir, dkt, bef)).2.2.1), ((rp (huS cr) (i_3) (se, chn, los, dir, dkt, bef)).2.2.2.1), ((rp (huS cr) (i_3) (se, chn, los, dir, dkt, bef)).2.2.2.2.1), ((rp (huS cr) (i_3) (se, chn, los, dir, dkt, bef)).2.2.2.2.2))).2.2.2.2.2) := by first | (rw [rp_s, hus_0 hcz]; done) | (rw [rp_s, hus_1 hcn, eta6]; done)
            have hP : va_P E.1 vwCl [(aLk, o2 aLy aLi aCh aLo aDi aDk aBe), (aLy, o0 (nI n) aK aX aY aF aS aL), (aS, ia E nI 16 ((rp (huS cr) (i_3 + 1) (se, chn, los, dir, dkt, bef)).1)), (aCh, ia E cL 16 ((rp (huS cr) (i_3 + 1) (se, chn, los, dir, dkt, bef)).2.1)), (aLo, ia E nI 16 ((rp (huS cr) (i_3 + 1) (se, chn, los, dir, dkt, bef)).2.2.1)), (aDi, ia E cD 16 ((rp (huS cr) (i_3 + 1) (se, chn, los, dir, dkt, bef)).2.2.2.1)), (aDk, ia E nI 16 ((rp (huS cr) (i_3 + 1) (se, chn, los, dir, dkt, bef)).2.2.2.2.1)), (aBe, ja E 16 ((rp (huS cr) (i_3 + 1) (se, chn, los, dir, dkt, bef)).2.2.2.2.2)), (aLi, o1 aLy aC aG aU aR aN aW (cO o) (nI tk) em lo lk de), (aR, ja E 128 cr)] H := by rw [q_13, q_14, q_15, q_16, q_17, q_18]; exact hP
            have hD : va_D A [(aLk, o2 aLy aLi aCh aLo aDi aDk aBe), (aLy, o0 (nI n) aK aX aY aF aS aL), (aS, ia E nI 16 ((rp (huS cr) (i_3 + 1) (se, chn, los, dir, dkt, bef)).1)), (aCh, ia E cL 16 ((rp (huS cr) (i_3 + 1) (se, chn, los, dir, dkt, bef)).2.1)), (aLo, ia E nI 16 ((rp (huS cr) (i_3 + 1) (se, chn, los, dir, dkt, bef)).2.2.1)), (aDi, ia E cD 16 ((rp (huS cr) (i_3 + 1) (se, chn, los, dir, dkt, bef)).2.2.2.1)), (aDk, ia E nI 16 ((rp (huS cr) (i_3 + 1) (se, chn, los, dir, dkt, bef)).2.2.2.2.1)), (aBe, ja E 16 ((rp (huS cr) (i_3 + 1) (se, chn, los, dir, dkt, bef)).2.2.2.2.2)), (aLi, o1 aLy aC aG aU aR aN aW (cO o) (nI tk) em lo lk de), (aR, ja E 128 cr)] := by rw [q_13, q_14, q_15, q_16, q_17, q_18]; exact hD
            have hl : lv_has ls 3 [(0, .ref aLk), (1, .int (nI (i_3 + 1)))] := lv_sub hl [2, 0] rfl
            exact ih_2 (i_3 + 1) (by omega) (by omega) (huS_ok (by omega) hv_i_3) _ _ hP hD hS _ hl
  have q_19 : ((rp (huS cr) (0) (se, chn, los, dir, dkt, bef)).1) = se := by rfl
  have q_20 : ((rp (huS cr) (0) (se, chn, los, dir, dkt, bef)).2.1) = chn := by rfl
  have q_21 : ((rp (huS cr) (0) (se, chn, los, dir, dkt, bef)).2.2.1) = los := by rfl
  have q_22 : ((rp (huS cr) (0) (se, chn, los, dir, dkt, bef)).2.2.2.1) = dir := by rfl
  have q_23 : ((rp (huS cr) (0) (se, chn, los, dir, dkt, bef)).2.2.2.2.1) = dkt := by rfl
  have q_24 : ((rp (huS cr) (0) (se, chn, los, dir, dkt, bef)).2.2.2.2.2) = bef := by rfl
  have hP : va_P E.1 vwCl [(aLk, o2 aLy aLi aCh aLo aDi aDk aBe), (aLy, o0 (nI n) aK aX aY aF aS aL), (aS, ia E nI 16 ((rp (huS cr) (0) (se, chn, los, dir, dkt, bef)).1)), (aCh, ia E cL 16 ((rp (huS cr) (0) (se, chn, los, dir, dkt, bef)).2.1)), (aLo, ia E nI 16 ((rp (huS cr) (0) (se, chn, los, dir, dkt, bef)).2.2.1)), (aDi, ia E cD 16 ((rp (huS cr) (0) (se, chn, los, dir, dkt, bef)).2.2.2.1)), (aDk, ia E nI 16 ((rp (huS cr) (0) (se, chn, los, dir, dkt, bef)).2.2.2.2.1)), (aBe, ja E 16 ((rp (huS cr) (0) (se, chn, los, dir, dkt, bef)).2.2.2.2.2)), (aLi, o1 aLy aC aG aU aR aN aW (cO o) (nI tk) em lo lk de), (aR, ja E 128 cr)] H := by rw [q_19, q_20, q_21, q_22, q_23, q_24]; exact hP
  have hD : va_D A [(aLk, o2 aLy aLi aCh aLo aDi aDk aBe), (aLy, o0 (nI n) aK aX aY aF aS aL), (aS, ia E nI 16 ((rp (huS cr) (0) (se, chn, los, dir, dkt, bef)).1)), (aCh, ia E cL 16 ((rp (huS cr) (0) (se, chn, los, dir, dkt, bef)).2.1)), (aLo, ia E nI 16 ((rp (huS cr) (0) (se, chn, los, dir, dkt, bef)).2.2.1)), (aDi, ia E cD 16 ((rp (huS cr) (0) (se, chn, los, dir, dkt, bef)).2.2.2.1)), (aDk, ia E nI 16 ((rp (huS cr) (0) (se, chn, los, dir, dkt, bef)).2.2.2.2.1)), (aBe, ja E 16 ((rp (huS cr) (0) (se, chn, los, dir, dkt, bef)).2.2.2.2.2)), (aLi, o1 aLy aC aG aU aR aN aW (cO o) (nI tk) em lo lk de), (aR, ja E 128 cr)] := by rw [q_19, q_20, q_21, q_22, q_23, q_24]; exact hD
  have hl : lv_has ls 3 [(0, .ref aLk), (1, .int (nI 0))] := lv_sub hl [1, 0] rfl
  exact LP_1 (n + 1) 0 (by omega) (by omega) (hok) _ _ hP hD hS _ hl
