/-! Contracts with a result that is only described: trials, runs; leading. -/
theorem ML_gen {S S' : Type} {l : Launch} {y : MethodName} {wsy : List Cond} {rm : Room} {E : EnvT} {sz : Nat} {args : List Value} {wc : va_W} {post : Int64 → S → Prop} {w1 : S → va_W} {post' : Int64 → S' → Prop} {w1' : S' → va_W} (h : ML l y wsy rm E sz args wc post w1) (g : S → S') (hp : ∀ r u, post r u → post' r (g u)) (hw : ∀ u, w1 u = w1' (g u)) : ML l y wsy rm E sz args wc post' w1' :=
  MetFree.mono h (fun _ _ q => q) (fun _ _ _ _ _ q => q) (fun a s o t _ q => by
    obtain ⟨⟨⟨r, u, h1, h2, h3⟩, h4⟩, h5⟩ := q
    refine ⟨⟨⟨r, g u, h1, hp r u h2, ?_⟩, h4⟩, h5⟩
    unfold Wd at h3 ⊢
    rw [← hw]
    exact h3)
theorem MI_gen {S S' : Type} {l : Launch} {y : MethodName} {wsy : List Cond} {rm : Room} {E : EnvT} {sz : Nat} {args : List Value} {wc : va_W} {post : Int32 → S → Prop} {w1 : S → va_W} {post' : Int32 → S' → Prop} {w1' : S' → va_W} (h : MI l y wsy rm E sz args wc post w1) (g : S → S') (hp : ∀ r u, post r u → post' r (g u)) (hw : ∀ u, w1 u = w1' (g u)) : MI l y wsy rm E sz args wc post' w1' :=
  MetFree.mono h (fun _ _ q => q) (fun _ _ _ _ _ q => q) (fun a s o t _ q => by
    obtain ⟨⟨⟨r, u, h1, h2, h3⟩, h4⟩, h5⟩ := q
    refine ⟨⟨⟨r, g u, h1, hp r u h2, ?_⟩, h4⟩, h5⟩
    unfold Wd at h3 ⊢
    rw [← hw]
    exact h3)
theorem leaC_N {n : Nat} {kd le : Nat → Nat} {pt oo qt ii : Nat} (hp : pt < n) (ho : oo < stV 1 (kd pt)) (hq : qt < n) (hi : ii < stV 0 (kd qt)) (hn : n ≤ 16) (hk5 : ∀ j, j < n → kd j ≤ 5) : leaC n kd le (nI pt) (nI oo) (nI qt) (nI ii) = if tkn le (2 * pt + oo) (2 * qt + ii) 32 = true then 2 else 0 := by
  have h1 := stV1_le (hk5 pt hp)
  have h0 := stV0_le (hk5 qt hq)
  unfold leaC
  rw [tN_nI (show pt < 2 ^ 31 by omega), tN_nI (show oo < 2 ^ 31 by omega), tN_nI (show qt < 2 ^ 31 by omega), tN_nI (show ii < 2 ^ 31 by omega), if_pos ⟨⟨isN hp (by omega), isN ho (by omega)⟩, ⟨isN hq (by omega), isN hi (by omega)⟩⟩]
  exact tk_link le (2 * pt + oo) (2 * qt + ii) 32
/-- a dark light's state: light, warmths, offset, ticks, the two rows' places -/
abbrev zDS : Type := zLS × (Nat → Nat) × Nat × Nat × Nat × Nat
/-- the chip's state: light, warmths, locks, the two rows' places -/
abbrev zMS : Type := zC × Nat × Nat

set_option maxHeartbeats 1000000 in
theorem c_leadN (l : Launch) (E : EnvT) (sz : Nat) (pt oo qt ii : Nat) (aO : Nat) (aLg : Nat) (aDa : Nat) (aKs : Nat) (lst : Nat) (aLy : Nat) (aK : Nat) (aX : Nat) (aY : Nat) (aF : Nat) (aS : Nat) (aL : Nat) (n : Nat) (kd : Nat → Nat) (le : Nat → Nat) (hp : pt < n) (ho : oo < stV 1 (kd pt)) (hq : qt < n) (hi : ii < stV 0 (kd qt)) (ht : tkn le (2 * pt + oo) (2 * qt + ii) 32 = false) (hn : n ≤ 16) (hk5 : ∀ j, j < n → kd j ≤ 5) (hL : ∀ j, j < 32 → le j ≤ 32) : MI l yX3_lead wsX3_lead ({ frames := 2, cells := 0, slots := 0, locals := 43 }) E sz [.ref aO, .int (nI pt), .int (nI oo), .int (nI qt), .int (nI ii)] [(aO, o3 aLy aLg aDa aKs (nI lst)), (aLy, o0 (nI n) aK aX aY aF aS aL), (aK, ia E nI 16 kd), (aL, ia E cL 32 le)] (fun (r : Int32) (_ : Unit) => r = cL (ledF (le (pt * 2 + oo)))) (fun _ => [(aO, o3 aLy aLg aDa aKs (nI lst)), (aLy, o0 (nI n) aK aX aY aF aS aL), (aK, ia E nI 16 kd), (aL, ia E cL 32 (va_up le (pt * 2 + oo) (qt * 2 + ii + 1)))]) := by
  have q9 := c_lead l E sz (nI pt) (nI oo) (nI qt) (nI ii) aO aLg aDa aKs lst aLy aK aX aY aF aS aL n kd le (by rw [leaC_N hp ho hq hi hn hk5, if_neg (by rw [ht]; decide)]) (hn) (hk5) (hL)
  have h1 := stV1_le (hk5 pt hp)
  have h0 := stV0_le (hk5 qt hq)
  simp only [tN_nI (show pt < 2 ^ 31 by omega), tN_nI (show oo < 2 ^ 31 by omega), tN_nI (show qt < 2 ^ 31 by omega), tN_nI (show ii < 2 ^ 31 by omega)] at q9
  exact q9

theorem x_leadN (l : Launch) (E : EnvT) (sz : Nat) (pt oo qt ii : Nat) (aO : Nat) (aLg : Nat) (aDa : Nat) (aKs : Nat) (lst : Nat) (aLy : Nat) (aK : Nat) (aX : Nat) (aY : Nat) (aF : Nat) (aS : Nat) (aL : Nat) (n : Nat) (kd : Nat → Nat) (le : Nat → Nat) (hp : pt < n) (ho : oo < stV 1 (kd pt)) (hq : qt < n) (hi : ii < stV 0 (kd qt)) (ht : tkn le (2 * pt + oo) (2 * qt + ii) 32 = true) (hn : n ≤ 16) (hk5 : ∀ j, j < n → kd j ≤ 5) (hL : ∀ j, j < 32 → le j ≤ 32) (hst : l.stackTraces = false) : MX l yX3_lead wsX3_lead ({ frames := 8, cells := 1, slots := 6, locals := 125 }) E sz [.ref aO, .int (nI pt), .int (nI oo), .int (nI qt), .int (nI ii)] [(aO, o3 aLy aLg aDa aKs (nI lst)), (aLy, o0 (nI n) aK aX aY aF aS aL), (aK, ia E nI 16 kd), (aL, ia E cL 32 le)] xS := by
  have q9 := x_lead l E sz (nI pt) (nI oo) (nI qt) (nI ii) aO aLg aDa aKs lst aLy aK aX aY aF aS aL n kd le (by rw [leaC_N hp ho hq hi hn hk5, if_pos ht]; decide) (hn) (hk5) (hL) hst
  rw [leaC_N hp ho hq hi hn hk5, if_pos ht] at q9
  exact q9

set_option maxHeartbeats 4000000 in
theorem c_trialN (l : Launch) (E : EnvT) (sz : Nat) (oo nt : Nat) (aO : Nat) (aLg : Nat) (aKs : Nat) (lst : Nat) (aLy : Nat) (aK : Nat) (aX : Nat) (aY : Nat) (aF : Nat) (aS : Nat) (aL : Nat) (aLi : Nat) (aC : Nat) (aG : Nat) (aU : Nat) (aR : Nat) (aN : Nat) (aW : Nat) (o : Nat) (tk : Nat) (em : Int64) (lo : Int64) (lk : Int64) (de : Int64) (kd : Nat → Nat) (xs : Nat → Nat) (ys : Nat → Nat) (fi : Nat → Nat) (se : Nat → Nat) (le : Nat → Nat) (wa : Nat → Nat) (co : Nat → Int64) (gi : Nat → Int64) (un : Nat → Int64) (cr : Nat → Int64) (sn : Nat → Int64) (hoo : oo ≤ 16) (hnt : 1 ≤ nt ∧ nt ≤ 100) (F : FxN 10 kd fi se le) (hk : kd 2 = 5) (hx9 : ∀ j, j < 16 → xs j ≤ 15 ∧ ys j ≤ 15) (hd : DkOk gi wa) : ML l yX3_trial wsX3_trial ({ frames := 6, cells := 0, slots := 0, locals := 146 }) E sz [.ref aO, .int (nI 2), .int (cO oo), .int (nI nt)] [(aO, o3 aLy aLg aLi aKs (nI lst)), (aLi, o1 aLy aC aG aU aR aN aW (cO o) (nI tk) em lo lk de), (aLy, o0 (nI 10) aK aX aY aF aS aL), (aK, ia E nI 16 kd), (aX, ia E nI 16 xs), (aY, ia E nI 16 ys), (aF, ia E nI 16 fi), (aS, ia E nI 16 se), (aL, ia E cL 32 le), (aC, ja E 256 co), (aG, ja E 256 gi), (aU, ja E 1024 un), (aR, ja E 128 cr), (aN, ja E 128 sn), (aW, ia E nI 16 wa)] (fun (r : Int64) (u : zDS) => r = tV kd xs ys fi se le oo nt ∧ DkOk u.1.2.1 u.2.1) (fun u => [(aO, o3 aLy aLg aLi aKs (nI lst)), (aLi, o1 aLy u.2.2.2.2.1 u.2.2.2.2.2 aU aR aN aW (cO u.2.2.1) (nI u.2.2.2.1) u.1.2.2.2.2.2.1 u.1.2.2.2.2.2.2.1 u.1.2.2.2.2.2.2.2.1 u.1.2.2.2.2.2.2.2.2), (aLy, o0 (nI 10) aK aX aY aF aS aL), (aK, ia E nI 16 kd), (aX, ia E nI 16 xs), (aY, ia E nI 16 ys), (aF, ia E nI 16 fi), (aS, ia E nI 16 se), (aL, ia E cL 32 le), (u.2.2.2.2.1, ja E 256 u.1.1), (u.2.2.2.2.2, ja E 256 u.1.2.1), (aU, ja E 1024 u.1.2.2.1), (aR, ja E 128 u.1.2.2.2.1), (aN, ja E 128 u.1.2.2.2.2.1), (aW, ia E nI 16 u.2.1)]) := by
  have q9 := c_trial l E sz (nI 2) (cO oo) (nI nt) aO aLg aKs lst aLy aK aX aY aF aS aL 10 aLi aC aG aU aR aN aW o tk em lo lk de kd xs ys fi se le wa co gi un cr sn (by unfold triC; rw [tN_nI (show 2 < 2 ^ 31 by omega), if_pos (isN (show 2 < 10 by omega) (by omega)), if_pos ⟨cO_rg hoo, rgN hnt.1 hnt.2 (by omega)⟩, if_pos hk]) (by omega) (F.2.1) (le_bd F.2.2.2.1) (hx9) (hd.2.1)
  simp only [tN_nI (show 2 < 2 ^ 31 by omega), tN_nI (show nt < 2 ^ 31 by omega), tO_cO (show oo < 2 ^ 30 by omega)] at q9
  have hv := tV_of (kd := kd) (xs := xs) (ys := ys) (fi := fi) (se := se) (le := le) (cr := cr) (oo := oo) (nt := nt) hd.1 hd.2.2
  have hr := dk_tr (xs := xs) (ys := ys) (cr := cr) (oo := oo) F hnt.2 hd
  generalize trS 10 kd xs ys fi se le wa gi cr oo nt = X at q9 hv hr
  generalize rp (rsB 10 kd xs ys se) 10 wa = V at q9 hr
  generalize swp aC aG nt = a at q9
  generalize swp aG aC nt = b at q9
  exact ML_gen q9 (fun _ => (X, V, oo, nt, a, b)) (fun r _ e => ⟨e.trans hv, hr⟩) (fun _ => rfl)

set_option maxHeartbeats 4000000 in
theorem c_yieldsN (l : Launch) (E : EnvT) (sz : Nat) (nt : Nat) (xn : Int64) (aO : Nat) (aLg : Nat) (aKs : Nat) (lst : Nat) (aLy : Nat) (aK : Nat) (aX : Nat) (aY : Nat) (aF : Nat) (aS : Nat) (aL : Nat) (aLi : Nat) (aC : Nat) (aG : Nat) (aU : Nat) (aR : Nat) (aN : Nat) (aW : Nat) (o : Nat) (tk : Nat) (em : Int64) (lo : Int64) (lk : Int64) (de : Int64) (kd : Nat → Nat) (xs : Nat → Nat) (ys : Nat → Nat) (fi : Nat → Nat) (se : Nat → Nat) (le : Nat → Nat) (wa : Nat → Nat) (co : Nat → Int64) (gi : Nat → Int64) (un : Nat → Int64) (cr : Nat → Int64) (sn : Nat → Int64) (hnt : 1 ≤ nt ∧ nt ≤ 100) (hxn : ¬ (xn < 0)) (F : FxN 10 kd fi se le) (hk : kd 2 = 5) (hx9 : ∀ j, j < 16 → xs j ≤ 15 ∧ ys j ≤ 15) (hd : DkOk gi wa) : MI l yX3_yields wsX3_yields ({ frames := 6, cells := 0, slots := 0, locals := 146 }) E sz [.ref aO, .int (nI 2), .int (nI nt), .long xn] [(aO, o3 aLy aLg aLi aKs (nI lst)), (aLi, o1 aLy aC aG aU aR aN aW (cO o) (nI tk) em lo lk de), (aLy, o0 (nI 10) aK aX aY aF aS aL), (aK, ia E nI 16 kd), (aX, ia E nI 16 xs), (aY, ia E nI 16 ys), (aF, ia E nI 16 fi), (aS, ia E nI 16 se), (aL, ia E cL 32 le), (aC, ja E 256 co), (aG, ja E 256 gi), (aU, ja E 1024 un), (aR, ja E 128 cr), (aN, ja E 128 sn), (aW, ia E nI 16 wa)] (fun (r : Int32) (u : zDS) => r = nI (yN kd xs ys fi se le nt xn 8) ∧ DkOk u.1.2.1 u.2.1) (fun u => [(aO, o3 aLy aLg aLi aKs (nI lst)), (aLi, o1 aLy u.2.2.2.2.1 u.2.2.2.2.2 aU aR aN aW (cO u.2.2.1) (nI u.2.2.2.1) u.1.2.2.2.2.2.1 u.1.2.2.2.2.2.2.1 u.1.2.2.2.2.2.2.2.1 u.1.2.2.2.2.2.2.2.2), (aLy, o0 (nI 10) aK aX aY aF aS aL), (aK, ia E nI 16 kd), (aX, ia E nI 16 xs), (aY, ia E nI 16 ys), (aF, ia E nI 16 fi), (aS, ia E nI 16 se), (aL, ia E cL 32 le), (u.2.2.2.2.1, ja E 256 u.1.1), (u.2.2.2.2.2, ja E 256 u.1.2.1), (aU, ja E 1024 u.1.2.2.1), (aR, ja E 128 u.1.2.2.2.1), (aN, ja E 128 u.1.2.2.2.2.1), (aW, ia E nI 16 u.2.1)]) := by
  have q9 := c_yields l E sz (nI 2) (nI nt) xn aO aLg aKs lst aLy aK aX aY aF aS aL 10 aLi aC aG aU aR aN aW o tk em lo lk de kd xs ys fi se le wa co gi un cr sn (by unfold yieC; rw [tN_nI (show 2 < 2 ^ 31 by omega), if_pos (isN (show 2 < 10 by omega) (by omega)), if_pos ⟨rgN hnt.1 hnt.2 (by omega), hxn⟩, if_pos hk]) (by omega) (F.2.1) (le_bd F.2.2.2.1) (hx9) (hd.2.1)
  simp only [tN_nI (show 2 < 2 ^ 31 by omega), tN_nI (show nt < 2 ^ 31 by omega)] at q9
  obtain ⟨hr, hv⟩ := dk_yi (xs := xs) (ys := ys) (S := (co, gi, un, cr, sn, em, lo, lk, de)) (xn := xn) (o := o) (tk := tk) F hnt.2 hd 8
  have hv := congrArg nI hv
  generalize rp (yC 10 kd xs ys fi se le 2 nt xn) 8 (((co, gi, un, cr, sn, em, lo, lk, de), wa, o, tk), 0) = X at q9 hv hr
  generalize swp aC aG (nt * 8) = a at q9
  generalize swp aG aC (nt * 8) = b at q9
  exact MI_gen q9 (fun _ => (X.1.1, X.1.2.1, X.1.2.2.1, X.1.2.2.2, a, b)) (fun r _ e => ⟨e.trans hv, hr⟩) (fun _ => rfl)

set_option maxHeartbeats 4000000 in
theorem c_run1 (l : Launch) (E : EnvT) (sz : Nat) (aO : Nat) (aDa : Nat) (lst : Nat) (aLy : Nat) (aK : Nat) (aX : Nat) (aY : Nat) (aF : Nat) (aS : Nat) (aL : Nat) (aLi : Nat) (aC : Nat) (aG : Nat) (aU : Nat) (aR : Nat) (aN : Nat) (aW : Nat) (tk : Nat) (em : Int64) (lo : Int64) (lk : Int64) (de : Int64) (aLk : Nat) (aCh : Nat) (aLo : Nat) (aDi : Nat) (aDk : Nat) (aBe : Nat) (kd : Nat → Nat) (xs : Nat → Nat) (ys : Nat → Nat) (fi : Nat → Nat) (se : Nat → Nat) (le : Nat → Nat) (wa : Nat → Nat) (chn : Nat → Nat) (los : Nat → Nat) (dir : Nat → Nat) (dkt : Nat → Nat) (co : Nat → Int64) (gi : Nat → Int64) (un : Nat → Int64) (cr : Nat → Int64) (sn : Nat → Int64) (bef : Nat → Int64) (hm : MnOk 10 tk kd fi le ((co, gi, un, cr, sn, em, lo, lk, de), wa, se, chn, los, dir, dkt, bef)) (hx9 : ∀ j, j < 16 → xs j ≤ 15 ∧ ys j ≤ 15) (ht : tk ≤ 1000) : MI l yX3_run wsX3_run ({ frames := 5, cells := 0, slots := 0, locals := 122 }) E sz [.ref aO, .int (nI 1)] [(aO, o3 aLy aLi aDa aLk (nI lst)), (aLi, o1 aLy aC aG aU aR aN aW (cO 8) (nI tk) em lo lk de), (aLk, o2 aLy aLi aCh aLo aDi aDk aBe), (aLy, o0 (nI 10) aK aX aY aF aS aL), (aK, ia E nI 16 kd), (aX, ia E nI 16 xs), (aY, ia E nI 16 ys), (aF, ia E nI 16 fi), (aS, ia E nI 16 se), (aL, ia E cL 32 le), (aC, ja E 256 co), (aG, ja E 256 gi), (aU, ja E 1024 un), (aR, ja E 128 cr), (aN, ja E 128 sn), (aW, ia E nI 16 wa), (aCh, ia E cL 16 chn), (aLo, ia E nI 16 los), (aDi, ia E cD 16 dir), (aDk, ia E nI 16 dkt), (aBe, ja E 16 bef)] (fun (r : Int32) (u : zMS) => r = nI (tk + 1) ∧ RnR 10 tk kd xs ys fi le ((co, gi, un, cr, sn, em, lo, lk, de), wa, se, chn, los, dir, dkt, bef) ((u.1.1.1, u.1.1.2.1, u.1.1.2.2.1, u.1.1.2.2.2.1, u.1.1.2.2.2.2.1, u.1.1.2.2.2.2.2.1, u.1.1.2.2.2.2.2.2.1, u.1.1.2.2.2.2.2.2.2.1, u.1.1.2.2.2.2.2.2.2.2), u.1.2.1, u.1.2.2.1, u.1.2.2.2.1, u.1.2.2.2.2.1, u.1.2.2.2.2.2.1, u.1.2.2.2.2.2.2.1, u.1.2.2.2.2.2.2.2)) (fun u => [(aO, o3 aLy aLi aDa aLk (nI lst)), (aLi, o1 aLy u.2.1 u.2.2 aU aR aN aW (cO 8) (nI (tk + 1)) u.1.1.2.2.2.2.2.1 u.1.1.2.2.2.2.2.2.1 u.1.1.2.2.2.2.2.2.2.1 u.1.1.2.2.2.2.2.2.2.2), (aLk, o2 aLy aLi aCh aLo aDi aDk aBe), (aLy, o0 (nI 10) aK aX aY aF aS aL), (aK, ia E nI 16 kd), (aX, ia E nI 16 xs), (aY, ia E nI 16 ys), (aF, ia E nI 16 fi), (aS, ia E nI 16 u.1.2.2.1), (aL, ia E cL 32 le), (u.2.1, ja E 256 u.1.1.1), (u.2.2, ja E 256 u.1.1.2.1), (aU, ja E 1024 u.1.1.2.2.1), (aR, ja E 128 u.1.1.2.2.2.1), (aN, ja E 128 u.1.1.2.2.2.2.1), (aW, ia E nI 16 u.1.2.1), (aCh, ia E cL 16 u.1.2.2.2.1), (aLo, ia E nI 16 u.1.2.2.2.2.1), (aDi, ia E cD 16 u.1.2.2.2.2.2.1), (aDk, ia E nI 16 u.1.2.2.2.2.2.2.1), (aBe, ja E 16 u.1.2.2.2.2.2.2.2)]) := by
  have q9 := c_run l E sz (nI 1) aO aDa lst aLy aK aX aY aF aS aL 10 aLi aC aG aU aR aN aW 8 tk em lo lk de aLk aCh aLo aDi aDk aBe kd xs ys fi se le wa chn los dir dkt co gi un cr sn bef (by unfold runC; rw [if_pos (rgN (by omega) (by omega) (by omega)), tN_nI (by omega), if_pos (by omega)]) (by omega) (le_bd hm.1.2.2.2.1) (hx9) (by omega) (by omega) (mn_rc hm)
  simp only [tN_nI (show 1 < 2 ^ 31 by omega)] at q9
  have hr := rn_rel (xs := xs) (ys := ys) ht hm
  generalize rp (rnC 10 kd xs ys fi le 8 tk) 1 ((co, gi, un, cr, sn, em, lo, lk, de), wa, se, chn, los, dir, dkt, bef) = X at q9 hr
  generalize swp aC aG 1 = a at q9
  generalize swp aG aC 1 = b at q9
  exact MI_gen q9 (fun _ => (X, a, b)) (fun r _ e => ⟨e, hr⟩) (fun _ => rfl)

