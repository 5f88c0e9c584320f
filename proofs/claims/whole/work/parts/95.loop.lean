section LWS
variable {p : Program} {l : Launch} {e : Env} {s : State} {m : MethodId} {below : List Frame} {meth : Method} {c : Code} {Q : State → Prop} {E : EnvT} {A : Nat → Prop} {b L k : Nat} {sc : Nat → Int32} {aO aLy aK aX aY aF aS aL aLi aU aR aN aW aDa aU2 aR2 aN2 aW2 aLk aCh aLo aDi aDk aBe aM mK mX mY mF mS mL mQ mW mA mD mO mV mC mT mE mN mH mZ mP aQ : Nat}
theorem lw_gt {L k : Nat} (hL : L ≤ 3072) (hk : 6 * k ≤ 4000) : nI L - nI 6 < nI (6 * k) ↔ L < 6 * k + 6 := by
  rw [Int32.lt_iff_toInt_lt, pk_sub_toInt (by omega) (by omega), nI_toInt (by omega)]
  omega
theorem lw_inc (K0 : LwC p s m meth c E A b L sc) (hk6 : 6 * k + 6 ≤ L) (next : LwK p l e s m below meth c E A b aO aLy aK aX aY aF aS aL aLi aU aR aN aW aDa aU2 aR2 aN2 aW2 aLk aCh aLo aDi aDk aBe aM mK mX mY mF mS mL mQ mW mA mD mO mV mC mT mE mN mH mZ mP aQ Q (k + 1) (k + 1) 23) : LwK p l e s m below meth c E A b aO aLy aK aX aY aF aS aL aLi aU aR aN aW aDa aU2 aR2 aN2 aW2 aLk aCh aLo aDi aDk aBe aM mK mX mY mF mS mL mQ mW mA mD mO mV mC mT mE mN mH mZ mP aQ Q k (k + 1) 1114 := by
  obtain ⟨hx, hb, hml, hts, hown, C0, hX, hbl, hbA, hLL⟩ := K0
  have hb : c.code = cL_law := hb
  intro n lst tk th od tk2 aC aG aC2 aG2 kd xs ys fi se le chn los dir dkt wa wa2 wm tkm ofm co gi un cr sn co2 gi2 un2 cr2 sn2 bef ov cm tn ins sm ou em lo lk de em2 lo2 lk2 de2 emr gnr lkr LR H locs hP hD hS ls hl
  refine lv_iinc (v := nI (6 * k + 6)) (lv' := [(4, .int (nI (6 * k + 6))), (0, .ref b), (1, .ref aO), (2, .ref aM), (3, .ref aQ)]) hx hb dL_law_1114 hl (k := 4) rfl (nI_add (6 * k) 6) (by decide) rfl (fun ls hl => ?_)
  refine lv_goto (tgt := 23) hx hb dL_law_1117 (by decide) ?_
  have hl : lv_has ls 8 [(0, .ref b), (1, .ref aO), (2, .ref aM), (3, .ref aQ), (4, .int (nI (6 * (k + 1))))] := by
    rw [show 6 * (k + 1) = 6 * k + 6 by omega]
    exact lv_sub hl [1, 2, 3, 4, 0] rfl
  exact next n lst tk th od tk2 aC aG aC2 aG2 kd xs ys fi se le chn los dir dkt wa wa2 wm tkm ofm co gi un cr sn co2 gi2 un2 cr2 sn2 bef ov cm tn ins sm ou em lo lk de em2 lo2 lk2 de2 emr gnr lkr LR _ _ hP hD hS _ hl
theorem lw_wid (hk6 : 6 * k + 6 ≤ L) (h : LwK p l e s m below meth c E A b aO aLy aK aX aY aF aS aL aLi aU aR aN aW aDa aU2 aR2 aN2 aW2 aLk aCh aLo aDi aDk aBe aM mK mX mY mF mS mL mQ mW mA mD mO mV mC mT mE mN mH mZ mP aQ Q k (k + 1) 1114) : LwK p l e s m below meth c E A b aO aLy aK aX aY aF aS aL aLi aU aR aN aW aDa aU2 aR2 aN2 aW2 aLk aCh aLo aDi aDk aBe aM mK mX mY mF mS mL mQ mW mA mD mO mV mC mT mE mN mH mZ mP aQ Q k k 1114 := by
  intro n lst tk th od tk2 aC aG aC2 aG2 kd xs ys fi se le chn los dir dkt wa wa2 wm tkm ofm co gi un cr sn co2 gi2 un2 cr2 sn2 bef ov cm tn ins sm ou em lo lk de em2 lo2 lk2 de2 emr gnr lkr LR H locs hP hD hS ls hl
  refine W.widen (k := 49 + 2 * (k + 1)) (n := 7195 + 16 * (k + 1)) (by omega) (by omega) ?_
  exact h n lst tk th od tk2 aC aG aC2 aG2 kd xs ys fi se le chn los dir dkt wa wa2 wm tkm ofm co gi un cr sn co2 gi2 un2 cr2 sn2 bef ov cm tn ins sm ou em lo lk de em2 lo2 lk2 de2 emr gnr lkr LR _ _ hP hD hS _ hl
set_option maxHeartbeats 4000000 in
set_option maxRecDepth 100000 in
theorem lw_step (hst : l.stackTraces = false) (K0 : LwC p s m meth c E A b L sc) (hAs : ∀ q, A q → s.heap.size ≤ q) (hr : meth.sig.returnType = ret) (hlocks : meth.locks = false) (hk : 6 * k ≤ L) (next : 6 * k + 6 ≤ L → LwK p l e s m below meth c E A b aO aLy aK aX aY aF aS aL aLi aU aR aN aW aDa aU2 aR2 aN2 aW2 aLk aCh aLo aDi aDk aBe aM mK mX mY mF mS mL mQ mW mA mD mO mV mC mT mE mN mH mZ mP aQ (lw_Z below #[Value.ref b] s) (k + 1) (k + 1) 23) : LwK p l e s m below meth c E A b aO aLy aK aX aY aF aS aL aLi aU aR aN aW aDa aU2 aR2 aN2 aW2 aLk aCh aLo aDi aDk aBe aM mK mX mY mF mS mL mQ mW mA mD mO mV mC mT mE mN mH mZ mP aQ (lw_Z below #[Value.ref b] s) k k 23 := by
  have K0' := K0
  obtain ⟨hx, hb, hml, hts, hown, C0, hX, hbl, hbA, hLL⟩ := K0'
  have hb : c.code = cL_law := hb
  intro n lst tk th od tk2 aC aG aC2 aG2 kd xs ys fi se le chn los dir dkt wa wa2 wm tkm ofm co gi un cr sn co2 gi2 un2 cr2 sn2 bef ov cm tn ins sm ou em lo lk de em2 lo2 lk2 de2 emr gnr lkr LR H locs hP hD hS ls hl
  refine lv_iload hx hb dL_law_23 (lv_at hl 4 rfl) ?_
  refine lv_aload_n hx hb dL_law_25 rfl (lv_at hl 0 rfl) ?_
  refine va_slen (xs := sc) hx hb hX hbl hbA hS dL_law_26 ?_
  refine lv_bipush (v := nI 6) hx hb dL_law_27 (by decide) ?_
  refine lv_isub hx hb dL_law_29 ?_
  refine lv_icmp_gt (tgt := 1120) hx hb dL_law_30 (by decide) (fun hc => ?_) (fun hc => ?_)
  · refine va_forget (fun q hq => hAs _ (hS.2.2 q hq)) ?_
    refine lv_iconst (v := 1) hx hb dL_law_1120 (by decide) ?_
    refine W.widen (k := 1082) (n := 15441) (by omega) (by omega) ?_
    exact lw_ret hx hb hr hlocks dL_law_1121
  · have hc : 6 * k + 6 ≤ L := Nat.le_of_not_lt (fun z => hc ((lw_gt hLL (by omega)).mpr z))
    have k1114 := lw_inc (Q := lw_Z below #[Value.ref b] s) K0 hc (next hc)
    refine lv_aload_n hx hb dL_law_33 rfl (lv_at hl 0 rfl) ?_
    refine lv_iload hx hb dL_law_34 (lv_at hl 4 rfl) ?_
    refine va_sld (L := L) (xs := sc) hx hb hX hbl hbA hS (vp_in_nI (by omega) (by omega)) dL_law_36 ?_
    refine lv_bipush (v := nI 15) hx hb dL_law_37 (by decide) ?_
    refine lv_iand hx hb dL_law_39 ?_
    obtain ⟨j, hj, hje⟩ := pk_andE (sc (nI (6 * k)).toNatClampNeg) (m := nI 15) 4 (by decide)
    refine lv_ri (y := nI j) hje ?_
    clear hje
    rcases (show j = 0 ∨ j = 1 ∨ j = 2 ∨ j = 3 ∨ j = 4 ∨ j = 5 ∨ j = 6 ∨ j = 7 ∨ j = 8 ∨ j = 9 ∨ j = 10 ∨ j = 11 ∨ j = 12 ∨ j = 13 ∨ j = 14 ∨ j = 15 by omega) with rfl | rfl | rfl | rfl | rfl | rfl | rfl | rfl | rfl | rfl | rfl | rfl | rfl | rfl | rfl | rfl
    · refine lv_tableIn (tgt := 116) (off := 76) hx hb dL_law_40 (by decide) (by decide) (by decide) (by decide) ?_
      exact lc_part hst K0 hc k1114 n lst tk th od tk2 aC aG aC2 aG2 kd xs ys fi se le chn los dir dkt wa wa2 wm tkm ofm co gi un cr sn co2 gi2 un2 cr2 sn2 bef ov cm tn ins sm ou em lo lk de em2 lo2 lk2 de2 emr gnr lkr LR _ _ hP hD hS _ hl
    · refine lv_tableIn (tgt := 220) (off := 180) hx hb dL_law_40 (by decide) (by decide) (by decide) (by decide) ?_
      exact lc_set hst K0 hc k1114 n lst tk th od tk2 aC aG aC2 aG2 kd xs ys fi se le chn los dir dkt wa wa2 wm tkm ofm co gi un cr sn co2 gi2 un2 cr2 sn2 bef ov cm tn ins sm ou em lo lk de em2 lo2 lk2 de2 emr gnr lkr LR _ _ hP hD hS _ hl
    · refine lv_tableIn (tgt := 288) (off := 248) hx hb dL_law_40 (by decide) (by decide) (by decide) (by decide) ?_
      exact lc_lead hst K0 hc k1114 n lst tk th od tk2 aC aG aC2 aG2 kd xs ys fi se le chn los dir dkt wa wa2 wm tkm ofm co gi un cr sn co2 gi2 un2 cr2 sn2 bef ov cm tn ins sm ou em lo lk de em2 lo2 lk2 de2 emr gnr lkr LR _ _ hP hD hS _ hl
    · refine lv_tableIn (tgt := 380) (off := 340) hx hb dL_law_40 (by decide) (by decide) (by decide) (by decide) ?_
      exact lc_cut hst K0 hc k1114 n lst tk th od tk2 aC aG aC2 aG2 kd xs ys fi se le chn los dir dkt wa wa2 wm tkm ofm co gi un cr sn co2 gi2 un2 cr2 sn2 bef ov cm tn ins sm ou em lo lk de em2 lo2 lk2 de2 emr gnr lkr LR _ _ hP hD hS _ hl
    · refine lv_tableIn (tgt := 448) (off := 408) hx hb dL_law_40 (by decide) (by decide) (by decide) (by decide) ?_
      exact lc_lock hst K0 hc k1114 n lst tk th od tk2 aC aG aC2 aG2 kd xs ys fi se le chn los dir dkt wa wa2 wm tkm ofm co gi un cr sn co2 gi2 un2 cr2 sn2 bef ov cm tn ins sm ou em lo lk de em2 lo2 lk2 de2 emr gnr lkr LR _ _ hP hD hS _ hl
    · refine lv_tableIn (tgt := 516) (off := 476) hx hb dL_law_40 (by decide) (by decide) (by decide) (by decide) ?_
      exact lc_run hst K0 hc k1114 n lst tk th od tk2 aC aG aC2 aG2 kd xs ys fi se le chn los dir dkt wa wa2 wm tkm ofm co gi un cr sn co2 gi2 un2 cr2 sn2 bef ov cm tn ins sm ou em lo lk de em2 lo2 lk2 de2 emr gnr lkr LR _ _ hP hD hS _ hl
    · refine lv_tableIn (tgt := 572) (off := 532) hx hb dL_law_40 (by decide) (by decide) (by decide) (by decide) ?_
      exact lc_spacing hst K0 hc k1114 n lst tk th od tk2 aC aG aC2 aG2 kd xs ys fi se le chn los dir dkt wa wa2 wm tkm ofm co gi un cr sn co2 gi2 un2 cr2 sn2 bef ov cm tn ins sm ou em lo lk de em2 lo2 lk2 de2 emr gnr lkr LR _ _ hP hD hS _ hl
    · refine lv_tableIn (tgt := 628) (off := 588) hx hb dL_law_40 (by decide) (by decide) (by decide) (by decide) ?_
      exact lc_conflicts hst K0 hc k1114 n lst tk th od tk2 aC aG aC2 aG2 kd xs ys fi se le chn los dir dkt wa wa2 wm tkm ofm co gi un cr sn co2 gi2 un2 cr2 sn2 bef ov cm tn ins sm ou em lo lk de em2 lo2 lk2 de2 emr gnr lkr LR _ _ hP hD hS _ hl
    · refine lv_tableIn (tgt := 641) (off := 601) hx hb dL_law_40 (by decide) (by decide) (by decide) (by decide) ?_
      exact lc_trial hst K0 hc k1114 n lst tk th od tk2 aC aG aC2 aG2 kd xs ys fi se le chn los dir dkt wa wa2 wm tkm ofm co gi un cr sn co2 gi2 un2 cr2 sn2 bef ov cm tn ins sm ou em lo lk de em2 lo2 lk2 de2 emr gnr lkr LR _ _ hP hD hS _ hl
    · refine lv_tableIn (tgt := 720) (off := 680) hx hb dL_law_40 (by decide) (by decide) (by decide) (by decide) ?_
      exact lc_yields hst K0 hc k1114 n lst tk th od tk2 aC aG aC2 aG2 kd xs ys fi se le chn los dir dkt wa wa2 wm tkm ofm co gi un cr sn co2 gi2 un2 cr2 sn2 bef ov cm tn ins sm ou em lo lk de em2 lo2 lk2 de2 emr gnr lkr LR _ _ hP hD hS _ hl
    · refine lv_tableIn (tgt := 832) (off := 792) hx hb dL_law_40 (by decide) (by decide) (by decide) (by decide) ?_
      exact lc_ofPart hst K0 hc k1114 n lst tk th od tk2 aC aG aC2 aG2 kd xs ys fi se le chn los dir dkt wa wa2 wm tkm ofm co gi un cr sn co2 gi2 un2 cr2 sn2 bef ov cm tn ins sm ou em lo lk de em2 lo2 lk2 de2 emr gnr lkr LR _ _ hP hD hS _ hl
    · refine lv_tableIn (tgt := 900) (off := 860) hx hb dL_law_40 (by decide) (by decide) (by decide) (by decide) ?_
      exact lc_comes hst K0 hc k1114 n lst tk th od tk2 aC aG aC2 aG2 kd xs ys fi se le chn los dir dkt wa wa2 wm tkm ofm co gi un cr sn co2 gi2 un2 cr2 sn2 bef ov cm tn ins sm ou em lo lk de em2 lo2 lk2 de2 emr gnr lkr LR _ _ hP hD hS _ hl
    · refine lv_tableIn (tgt := 979) (off := 939) hx hb dL_law_40 (by decide) (by decide) (by decide) (by decide) ?_
      exact lc_seen hst K0 hc k1114 n lst tk th od tk2 aC aG aC2 aG2 kd xs ys fi se le chn los dir dkt wa wa2 wm tkm ofm co gi un cr sn co2 gi2 un2 cr2 sn2 bef ov cm tn ins sm ou em lo lk de em2 lo2 lk2 de2 emr gnr lkr LR _ _ hP hD hS _ hl
    · refine lv_tableIn (tgt := 1046) (off := 1006) hx hb dL_law_40 (by decide) (by decide) (by decide) (by decide) ?_
      exact lc_account hst K0 hc k1114 n lst tk th od tk2 aC aG aC2 aG2 kd xs ys fi se le chn los dir dkt wa wa2 wm tkm ofm co gi un cr sn co2 gi2 un2 cr2 sn2 bef ov cm tn ins sm ou em lo lk de em2 lo2 lk2 de2 emr gnr lkr LR _ _ hP hD hS _ hl
    · refine lv_tableIn (tgt := 1101) (off := 1061) hx hb dL_law_40 (by decide) (by decide) (by decide) (by decide) ?_
      exact lc_tick hst K0 hc k1114 n lst tk th od tk2 aC aG aC2 aG2 kd xs ys fi se le chn los dir dkt wa wa2 wm tkm ofm co gi un cr sn co2 gi2 un2 cr2 sn2 bef ov cm tn ins sm ou em lo lk de em2 lo2 lk2 de2 emr gnr lkr LR _ _ hP hD hS _ hl
    · refine lv_tableOut (tgt := 1114) hx hb dL_law_40 (Or.inr (by decide)) (by decide) ?_
      exact lw_wid hc k1114 n lst tk th od tk2 aC aG aC2 aG2 kd xs ys fi se le chn los dir dkt wa wa2 wm tkm ofm co gi un cr sn co2 gi2 un2 cr2 sn2 bef ov cm tn ins sm ou em lo lk de em2 lo2 lk2 de2 emr gnr lkr LR _ _ hP hD hS _ hl
theorem lw_loop (hst : l.stackTraces = false) (K0 : LwC p s m meth c E A b L sc) (hAs : ∀ q, A q → s.heap.size ≤ q) (hr : meth.sig.returnType = ret) (hlocks : meth.locks = false) : ∀ d k, 6 * k ≤ L → L ≤ 6 * k + d → LwK p l e s m below meth c E A b aO aLy aK aX aY aF aS aL aLi aU aR aN aW aDa aU2 aR2 aN2 aW2 aLk aCh aLo aDi aDk aBe aM mK mX mY mF mS mL mQ mW mA mD mO mV mC mT mE mN mH mZ mP aQ (lw_Z below #[Value.ref b] s) k k 23 := by
  intro d
  induction d with
  | zero =>
    intro k h1 h2
    exact lw_step hst K0 hAs hr hlocks h1 (fun z => absurd z (by omega))
  | succ d ih =>
    intro k h1 h2
    exact lw_step hst K0 hAs hr hlocks h1 (fun z => ih (k + 1) (by omega) (by omega))
end LWS
