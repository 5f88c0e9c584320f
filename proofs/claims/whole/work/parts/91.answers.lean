/-! Trials and answers. -/
theorem lr_trial {n lst tk : Nat} {kd xs ys fi se le ofm chn los dir dkt wa wa2 wm tkm : Nat → Nat} {L : zLS} {T : zM7} {cm bef gi2 cr2 : Nat → Int64} {pt oo nt : Nat} (hp : pt < 16) (h : LwR n lst tk kd xs ys fi le ofm (L, wa, se, chn, los, dir, dkt, bef) (T, cm, tkm, wm, se, chn, los, dir, dkt, bef) gi2 wa2) :
    LwR n lst tk kd xs ys fi le (tryS n kd xs ys fi se le chn oo nt (cm, tkm, ofm, wm, T)).2.2.1 (L, wa, se, chn, los, dir, dkt, bef) ((tryS n kd xs ys fi se le chn oo nt (cm, tkm, ofm, wm, T)).2.2.2.2, (tryS n kd xs ys fi se le chn oo nt (cm, tkm, ofm, wm, T)).1, (tryS n kd xs ys fi se le chn oo nt (cm, tkm, ofm, wm, T)).2.1, (tryS n kd xs ys fi se le chn oo nt (cm, tkm, ofm, wm, T)).2.2.2.1, se, chn, los, dir, dkt, bef) (trS n kd xs ys fi se le wa2 gi2 cr2 oo nt).2.1 (rp (rsB n kd xs ys se) n wa2)
    ∧ sAll (trS n kd xs ys fi se le wa2 gi2 cr2 oo nt).2.2.2.2.1 pt 8 = sAlM (tryS n kd xs ys fi se le chn oo nt (cm, tkm, ofm, wm, T)).2.2.2.2.2.2.1 1 pt 8 := by
  have F : Fx n kd fi se le chn := h.fx
  obtain ⟨t1, t2, t3⟩ := try_rel (wa := wa2) (gi := gi2) (cr := cr2) (xs := xs) (ys := ys) (oo := oo) (nt := nt) (D := (cm, tkm, ofm, wm, T)) F h.2.2.2.2.2.2.2.2.1
  refine ⟨lr_dark t1 (rsW_le F.1 (PtK F.2.1) h.2.2.2.2.2.2.2.2.2.1 n (Nat.le_refl n)) ?_ t3 h, sAll_eq (bb := 1) hp t2⟩
  exact rsM_bd F.1 (PtK F.2.1) h.2.2.2.2.2.2.2.2.2.2 n (Nat.le_refl n)
theorem yC_wa {n : Nat} {kd xs ys fi se le : Nat → Nat} {pt nt : Nat} {xn : Int64} {Y0 : zY} (hn : n ≤ 16) (h : ∀ j, j < n → kd j ≤ 5 ∧ se j < 1000) (hw : ∀ j, j < 16 → Y0.1.2.1 j ≤ 20000) : ∀ k, ∀ j, j < 16 → (rp (yC n kd xs ys fi se le pt nt xn) k Y0).1.2.1 j ≤ 20000 := by
  intro k
  induction k with
  | zero => exact hw
  | succ k ih =>
    rw [rp_s]
    exact rsW_le hn h ih n (Nat.le_refl n)
theorem yB_wm {n : Nat} {kd xs ys fi se le chn : Nat → Nat} {pt nt : Nat} {xn : Int64} {Y0 : zD × Nat} (hn : n ≤ 16) (h : ∀ j, j < n → kd j ≤ 5 ∧ se j < 1000) (hw : ∀ j, j < 32 → Y0.1.2.2.2.1 j ≤ 20000) : ∀ k, ∀ j, j < 32 → (rp (yB n kd xs ys fi se le chn pt nt xn) k Y0).1.2.2.2.1 j ≤ 20000 := by
  intro k
  induction k with
  | zero => exact hw
  | succ k ih =>
    rw [rp_s]
    exact rsM_bd hn h ih n (Nat.le_refl n)
theorem lr_yields {n lst tk : Nat} {kd xs ys fi se le ofm chn los dir dkt wa wa2 wm tkm : Nat → Nat} {L L2 : zLS} {o2 tk2 : Nat} {T : zM7} {cm bef : Nat → Int64} {pt nt : Nat} {xn : Int64} (hp : pt < 16) (h : LwR n lst tk kd xs ys fi le ofm (L, wa, se, chn, los, dir, dkt, bef) (T, cm, tkm, wm, se, chn, los, dir, dkt, bef) L2.2.1 wa2) :
    LwR n lst tk kd xs ys fi le (rp (yB n kd xs ys fi se le chn pt nt xn) 8 ((cm, tkm, ofm, wm, T), 0)).1.2.2.1 (L, wa, se, chn, los, dir, dkt, bef) ((rp (yB n kd xs ys fi se le chn pt nt xn) 8 ((cm, tkm, ofm, wm, T), 0)).1.2.2.2.2, (rp (yB n kd xs ys fi se le chn pt nt xn) 8 ((cm, tkm, ofm, wm, T), 0)).1.1, (rp (yB n kd xs ys fi se le chn pt nt xn) 8 ((cm, tkm, ofm, wm, T), 0)).1.2.1, (rp (yB n kd xs ys fi se le chn pt nt xn) 8 ((cm, tkm, ofm, wm, T), 0)).1.2.2.2.1, se, chn, los, dir, dkt, bef) (rp (yC n kd xs ys fi se le pt nt xn) 8 ((L2, wa2, o2, tk2), 0)).1.1.2.1 (rp (yC n kd xs ys fi se le pt nt xn) 8 ((L2, wa2, o2, tk2), 0)).1.2.1
    ∧ (rp (yC n kd xs ys fi se le pt nt xn) 8 ((L2, wa2, o2, tk2), 0)).2 = (rp (yB n kd xs ys fi se le chn pt nt xn) 8 ((cm, tkm, ofm, wm, T), 0)).2 := by
  have F : Fx n kd fi se le chn := h.fx
  obtain ⟨t1, t2, t3⟩ := yie_rel (xs := xs) (ys := ys) (pt := pt) (nt := nt) (xn := xn) (Y0 := (L2, wa2, o2, tk2)) (D := (cm, tkm, ofm, wm, T)) F hp h.2.2.2.2.2.2.2.2.1 8
  exact ⟨lr_dark t1 (yC_wa F.1 (PtK F.2.1) h.2.2.2.2.2.2.2.2.2.1 8) (yB_wm F.1 (PtK F.2.1) h.2.2.2.2.2.2.2.2.2.2 8) t3 h, t2⟩
theorem an_ofPart {n lst tk : Nat} {kd xs ys fi se le ofm chn los dir dkt wa wa2 wm tkm : Nat → Nat} {L : zLS} {T : zM7} {cm bef gi2 : Nat → Int64} {xp xw : Int32} (h0 : ofpC n xp xw = 0) (h : LwR n lst tk kd xs ys fi le ofm (L, wa, se, chn, los, dir, dkt, bef) (T, cm, tkm, wm, se, chn, los, dir, dkt, bef) gi2 wa2) :
    ofK (tN xw) (kd (tN xp)) (se (tN xp)) (cnt fi wa 8 (tN xp)) (wa (tN xp)) (chn (tN xp)) (los (tN xp)) = ofR (tN xw) (kd (tN xp)) (se (tN xp)) (cnt fi (fun j => wm (16 * 0 + j)) (ofm 0) (tN xp)) (wm (tN xp)) (chn (tN xp)) (los (tN xp)) := by
  obtain ⟨pa, pw⟩ := ofpC_0 h0
  obtain ⟨h1, h2, h3, h4, h5, h6, h7, ⟨r1, r2, r3, r4, r5, r6, r7, r8⟩, h9, h10, h11⟩ := h
  dsimp only at r4 r5
  have hp : tN xp < n := cL_le (by omega) pa
  have hw := r4 (tN xp) (by omega)
  have e : cnt fi (fun j => wm (16 * 0 + j)) (ofm 0) (tN xp) = cnt fi wa 8 (tN xp) := by
    rw [h7]
    refine cnt_eq ?_
    show wm (16 * 0 + tN xp) = wa (tN xp)
    rw [show 16 * 0 + tN xp = tN xp by omega]
    exact hw.symm
  rw [e]
  unfold ofK ofR
  by_cases k : kd (tN xp) = 3
  · rw [if_pos k, if_pos k, hw]
  · rw [if_neg k, if_neg k, ← hw, r5 (tN xp) (by omega) k]
theorem an_comes {n lst tk : Nat} {kd xs ys fi le ofm wa2 : Nat → Nat} {C : zC} {R : zR} {gi2 : Nat → Int64} {xq xi xc : Int32} (h0 : comC n kd xq xi xc = 0) (h : LwR n lst tk kd xs ys fi le ofm C R gi2 wa2) : C.1.1 ((tN xq * 2 + tN xi) * 8 + tN xc) = R.2.1 (8 * (2 * tN xq + tN xi) + tN xc) := by
  obtain ⟨⟨pq, pi⟩, pc⟩ := comC_0 h0
  obtain ⟨h1, h2, h3, h4, h5, h6, h7, ⟨r1, r2, r3, r4, r5, r6, r7, r8⟩, h9⟩ := h
  have hq : tN xq < n := cL_le (by omega) pq
  have hi : tN xi < stV 0 (kd (tN xq)) := cL_le (by have := stV0_le (r6.1.2 (tN xq) hq).1; omega) pi
  have hk := stV0_le (r6.1.2 (tN xq) hq).1
  have hc : tN xc ≤ 7 := tN_le (by omega) pc.2
  exact r2.1.at (by omega) (by omega)
theorem an_seen {n lst tk : Nat} {kd xs ys fi le ofm wa2 : Nat → Nat} {C : zC} {R : zR} {gi2 : Nat → Int64} {xp xc : Int32} (h0 : seeC n kd xp xc = 0) (h : LwR n lst tk kd xs ys fi le ofm C R gi2 wa2) :
    (if tC xc = 0 then sAll C.1.2.2.2.2.1 (tN xp) 8 else C.1.2.2.2.2.1 (tN xp * 8 + (tC xc - 1))) = (if tC xc = 0 then sAlM R.1.2.2.1 0 (tN xp) 8 else R.1.2.2.1 (8 * tN xp + (tC xc - 1))) := by
  obtain ⟨pp, pc, pk⟩ := seeC_0 h0
  obtain ⟨h1, h2, h3, h4, h5, h6, h7, ⟨r1, r2, r3, r4, r5, r6, r7, r8⟩, h9⟩ := h
  have hp : tN xp < n := cL_le (by omega) pp
  have hc : tC xc ≤ 7 + 1 := tC_le (by omega) pc.2
  by_cases e : tC xc = 0
  · rw [if_pos e, if_pos e]; exact sAll_eq (bb := 0) (by omega) r2.2.2.1
  · rw [if_neg e, if_neg e]; exact r2.2.2.1.at (by omega) (by omega)
theorem sU_8 (sn : Nat → Int64) (a : Nat) : sU sn (a + 8) = sU sn a + rp (fun i x => x + sn (a + i)) 8 0 := by
  have key : ∀ k, sU sn (a + k) = sU sn a + rp (fun i x => x + sn (a + i)) k 0 := by
    intro k
    induction k with
    | zero => exact (i64_a0 _).symm
    | succ k ih =>
      rw [show a + (k + 1) = (a + k) + 1 by omega, sU_s, ih, rp_s]
      grind
  exact key 8
theorem ac1_3 {sn sm : Nat → Int64} {n : Nat} (h : EqB sn sm (128 * 0) 128) : ∀ k, k ≤ 16 → rp (ac1 sm 3) k 0 = sU sn (8 * k) := by
  intro k
  induction k with
  | zero => exact fun _ => rfl
  | succ k ih =>
    intro hk
    rw [rp_s, ih (by omega), show 8 * (k + 1) = 8 * k + 8 by omega, sU_8]
    unfold ac1
    rw [if_pos rfl]
    congr 1
    unfold sAlM
    exact (rp_sim _ _ (fun _ x y => x = y) rfl (fun i hi x y e => by
      show x + sn (8 * k + i) = y + sm (128 * 0 + 8 * k + i)
      rw [e, h.at (j := 8 * k + i) (k := 128 * 0 + 8 * k + i) (by omega) (by omega)])).symm
theorem ac1_4 {sm : Nat → Int64} : ∀ k, rp (ac1 sm 4) k 0 = 0 := by
  intro k
  induction k with
  | zero => rfl
  | succ k ih => rw [rp_s, ih]; unfold ac1; rw [if_neg (by decide)]; rfl
theorem ac2_s {ins cm : Nat → Int64} : ∀ k, rp (ac2 ins cm) k 0 = sU ins k + sU cm (if k < 256 then k else 256) := by
  intro k
  induction k with
  | zero => rfl
  | succ k ih =>
    rw [rp_s, ih, sU_s]
    unfold ac2
    by_cases q : k < 256
    · rw [if_pos q, if_pos q]
      by_cases r : k + 1 < 256
      · rw [if_pos r, sU_s]; grind
      · rw [if_neg r, show (256 : Nat) = k + 1 by omega, sU_s]; grind
    · rw [if_neg q, if_neg q, if_neg (show ¬ k + 1 < 256 by omega)]; grind
theorem sU_tail {f : Nat → Int64} {a b : Nat} (hab : a ≤ b) (h : ∀ k, a ≤ k → k < b → f k = 0) : sU f b = sU f a := by
  have key : ∀ d, a + d ≤ b → sU f (a + d) = sU f a := by
    intro d
    induction d with
    | zero => exact fun _ => rfl
    | succ d ih => intro hd; rw [show a + (d + 1) = (a + d) + 1 by omega, sU_s, ih (by omega), h (a + d) (by omega) (by omega)]; exact i64_a0 _
  rw [show b = a + (b - a) by omega]
  exact key (b - a) (by omega)
theorem an_account {n lst tk : Nat} {kd xs ys fi le ofm wa2 : Nat → Nat} {C : zC} {R : zR} {gi2 : Nat → Int64} {xw : Int32} (h0 : accC xw = 0) (h : LwR n lst tk kd xs ys fi le ofm C R gi2 wa2) :
    acK C.1.2.2.2.2.2.1 C.1.2.2.2.2.2.2.1 C.1.2.2.2.2.2.2.2.1 C.1.2.2.2.2.2.2.2.2 (tN xw) = acR n R.1.2.2.1 R.1.2.2.2.1 R.2.1 R.1.2.2.2.2.1 R.1.2.2.2.2.2.1 R.1.2.2.2.2.2.2 (tN xw) := by
  have hw : tN xw ≤ 4 := tN_le (by omega) (accC_0 h0).2
  obtain ⟨h1, h2, h3, h4, h5, h6, h7, ⟨r1, r2, r3, r4, r5, r6, r7, r8⟩, h9⟩ := h
  obtain ⟨t1, t2, t3, t4, t5, t6, t7, t8⟩ := r2
  obtain ⟨⟨a1, a2, a3⟩, a4, a5⟩ := t8 rfl
  unfold acK acR acS
  rcases (show tN xw = 0 ∨ tN xw = 1 ∨ tN xw = 2 ∨ tN xw = 3 ∨ tN xw = 4 by omega) with e | e | e | e | e <;> rw [e]
  · rw [if_pos rfl, if_pos rfl]; exact a1
  · rw [if_neg (by decide), if_pos rfl, if_neg (by decide), if_pos rfl]; exact a2
  · rw [if_neg (by decide), if_neg (by decide), if_pos rfl, if_neg (by decide), if_neg (by decide), if_pos rfl]; exact a3
  · rw [if_neg (by decide), if_neg (by decide), if_neg (by decide), if_pos rfl, if_neg (by decide), if_neg (by decide), if_neg (by decide), if_neg (by decide), ac1_3 (n := n) t3 n h1, a5]
    exact sU_tail (by omega) (fun k hk1 hk2 => t6 k hk1 hk2)
  · rw [if_neg (by decide), if_neg (by decide), if_neg (by decide), if_neg (by decide), if_neg (by decide), if_neg (by decide), if_neg (by decide), if_pos rfl, ac1_4, ac2_s, if_neg (by decide), a4]
    exact congrArg (fun z => sU R.1.2.2.2.1 1024 + z) (sU_congr (fun i hi => by rw [t1 i hi, show 256 * 0 + i = i by omega]))
