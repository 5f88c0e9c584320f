section LWS
variable {p : Program} {l : Launch} {e : Env} {s : State} {m : MethodId} {below : List Frame} {meth : Method} {c : Code} {Q : State → Prop} {E : EnvT} {A : Nat → Prop} {b k aO aLy aK aX aY aF aS aL aLi aU aR aN aW aDa aU2 aR2 aN2 aW2 aLk aCh aLo aDi aDk aBe aKi aPl aHe aWr lst : Nat} {kd xs ys fi ki pl : Nat → Nat}
set_option maxHeartbeats 4000000 in
theorem lw_step (hst : l.stackTraces = false) (K0 : LwC p s m c E A b) (FX : FxL lst kd xs ys ki pl) (hk : k < 40) (next : LwK p l e s m below meth c E A b aO aLy aK aX aY aF aS aL aLi aU aR aN aW aDa aU2 aR2 aN2 aW2 aLk aCh aLo aDi aDk aBe aKi aPl aHe aWr lst kd xs ys fi ki pl (lw_Z below #[Value.ref b] s) (k + 1) (k + 1) (k + 1) 356 []) : LwK p l e s m below meth c E A b aO aLy aK aX aY aF aS aL aLi aU aR aN aW aDa aU2 aR2 aN2 aW2 aLk aCh aLo aDi aDk aBe aKi aPl aHe aWr lst kd xs ys fi ki pl (lw_Z below #[Value.ref b] s) k k k 356 [] := by
  have h1127 := lc_well hst K0 FX hk next
  refine lc_draw hst K0 FX hk (fun wh pp vv h1 h2 h3 => ?_)
  have h896 := lc_run hst K0 FX hk h1 h2 h3 h1127
  have h676 := lc_trial hst K0 FX hk h1 h2 h3 h896 h1127
  have h607 := lc_lock hst K0 FX hk h1 h2 h3 h676 h1127
  have h553 := lc_set hst K0 FX hk h1 h2 h3 h607 h1127
  exact lc_lead hst K0 FX hk h1 h2 h3 h553 h1127
set_option maxHeartbeats 4000000 in
theorem lw_end (K0 : LwC p s m c E A b) (hAs : ∀ q, A q → s.heap.size ≤ q) (hr : meth.sig.returnType = ret) (hlocks : meth.locks = false) : LwK p l e s m below meth c E A b aO aLy aK aX aY aF aS aL aLi aU aR aN aW aDa aU2 aR2 aN2 aW2 aLk aCh aLo aDi aDk aBe aKi aPl aHe aWr lst kd xs ys fi ki pl (lw_Z below #[Value.ref b] s) 40 40 40 356 [] := by
  obtain ⟨hx, hb, hml, hts, hown, C0⟩ := K0
  have hb : c.code = cL_law := hb
  intro tk od tk2 aC aG aC2 aG2 se le chn los dir dkt wa wa2 he wr co gi un cr sn co2 gi2 un2 cr2 sn2 bef em lo lk de em2 lo2 lk2 de2 LR H locs hP hD hS ls hl
  have hl : lv_has ls 22 [(0, .ref (eT E 5)), (1, .ref aO), (2, .ref aKi), (3, .ref aPl), (4, .ref aHe), (5, .ref aWr), (6, .int (nI 1)), (9, .int (nI 40))] := hl
  refine lv_iload hx hb dL_law_356 (lv_at hl 7 rfl) ?_
  refine lv_bipush (v := nI 40) hx hb dL_law_358 (by decide) ?_
  refine lv_icmp_ge (tgt := 1153) hx hb dL_law_360 (by decide) (fun hc => ?_) (fun hc => absurd (by decide) hc)
  refine lv_iload hx hb dL_law_1153 (lv_at hl 6 rfl) ?_
  refine va_forget (fun q hq => hAs _ (hS.2.2 q hq)) ?_
  refine W.widen (k := 127) (n := 4645) (by omega) (by omega) ?_
  exact lw_ret hx hb hr hlocks dL_law_1155
theorem lw_loop (hst : l.stackTraces = false) (K0 : LwC p s m c E A b) (FX : FxL lst kd xs ys ki pl) (hAs : ∀ q, A q → s.heap.size ≤ q) (hr : meth.sig.returnType = ret) (hlocks : meth.locks = false) : ∀ d k, k + d = 40 → LwK p l e s m below meth c E A b aO aLy aK aX aY aF aS aL aLi aU aR aN aW aDa aU2 aR2 aN2 aW2 aLk aCh aLo aDi aDk aBe aKi aPl aHe aWr lst kd xs ys fi ki pl (lw_Z below #[Value.ref b] s) k k k 356 [] := by
  intro d
  induction d with
  | zero =>
    intro k h
    obtain rfl : k = 40 := by omega
    exact lw_end K0 hAs hr hlocks
  | succ d ih =>
    intro k h
    exact lw_step hst K0 FX (by omega) (ih (k + 1) (by omega))
end LWS
