/-! The relation between calls; what each call does to it; that answers are the same. -/
abbrev LwR (n lst tk : Nat) (kd xs ys fi le ofm : Nat → Nat) (C : zC) (R : zR) (gi2 : Nat → Int64) (wa2 : Nat → Nat) : Prop :=
  n ≤ 16 ∧ LeQ n kd le ∧ (∀ q, n ≤ q → q < 16 → kd q = 0) ∧ (∀ j, j < 16 → xs j ≤ 15 ∧ ys j ≤ 15) ∧ lst ≤ 15 ∧ tk ≤ 20000 ∧ ofm 0 = 8 ∧ RR n kd fi le tk C R ∧ (∀ j, j < 256 → gi2 j = 0) ∧ (∀ j, j < 16 → wa2 j ≤ 20000) ∧ (∀ j, j < 32 → R.2.2.2.1 j ≤ 20000)
theorem LwR.fx {n lst tk : Nat} {kd xs ys fi le ofm : Nat → Nat} {C : zC} {R : zR} {gi2 : Nat → Int64} {wa2 : Nat → Nat} (h : LwR n lst tk kd xs ys fi le ofm C R gi2 wa2) : Fx n kd fi C.2.2.1 le C.2.2.2.1 := by
  obtain ⟨h1, h2, h3, h4, h5, h6, h7, ⟨r1, r2, r3, r4, r5, r6, r7, r8⟩, h9⟩ := h
  exact ⟨h1, r6.1.2, h2, r7, h3⟩
theorem i32_le9 {x : Int32} {b c : Nat} (hb : b < 2 ^ 31) (h : x ≤ nI b) (hc : b ≤ c) : tN x ≤ c := Nat.le_trans (tN_le hb h) hc
theorem stV_bd {k : Nat} (h : k ≤ 5) : stV 2 k ≤ 1 ∧ (k = 1 → 1 ≤ stV 2 k) ∧ stV 3 k ≤ 8 ∧ (k = 0 → stV 3 k = 7) ∧ stV 4 k < 1000 ∧ (k = 3 → stV 4 k = 99) := by
  rcases (show k = 0 ∨ k = 1 ∨ k = 2 ∨ k = 3 ∨ k = 4 ∨ k = 5 by omega) with e | e | e | e | e | e <;> subst e <;> decide
theorem isIn_up {n : Nat} {kd : Nat → Nat} {k t : Nat} (h : isIn n kd t) : isIn (n + 1) (va_up kd n k) t := by
  obtain ⟨h1, h2⟩ := h
  refine ⟨by omega, ?_⟩
  rw [va_up_ne _ _ (by omega)]
  exact h2
theorem lr_part {n lst tk : Nat} {kd xs ys fi se le ofm chn los dir dkt wa wa2 wm tkm : Nat → Nat} {L : zLS} {T : zM7} {cm bef gi2 : Nat → Int64} {xa xb xc xd xe : Int32} (h0 : parC n xa xb xc xd xe = 0) (h : LwR n lst tk kd xs ys fi le ofm (L, wa, se, chn, los, dir, dkt, bef) (T, cm, tkm, wm, se, chn, los, dir, dkt, bef) gi2 wa2) :
    LwR (n + 1) lst tk (va_up kd n (tN xa)) (va_up xs n (tN xb)) (va_up ys n (tN xc)) (va_up fi n (tN xd)) le ofm (L, wa, va_up se n (tN xe), chn, los, dir, dkt, bef) (T, cm, tkm, wm, va_up se n (tN xe), chn, los, dir, dkt, bef) gi2 wa2 := by
  obtain ⟨⟨pa, pb, pc, pd, pe⟩, hn16⟩ := parC_0 h0
  obtain ⟨h1, h2, h3, h4, h5, h6, h7, ⟨r1, r2, r3, r4, r5, r6, r7, r8⟩, h9, h10, h11⟩ := h
  dsimp only at r1 r2 r3 r4 r5 r6 r7 r8
  have hn : n < 16 := by omega
  have ka : tN xa ≤ 5 := tN_le (by omega) pa.2
  have kb : tN xb ≤ 15 := tN_le (by omega) pb.2
  have kc : tN xc ≤ 15 := tN_le (by omega) pc.2
  obtain ⟨s2, s2b, s3, s3b, s4, s4b⟩ := stV_bd ka
  have kdl : stV 2 (tN xa) ≤ tN xd := tN_ge (by omega) pd.1
  have kdu : tN xd ≤ stV 3 (tN xa) := tN_le (by omega) pd.2
  have keu : tN xe ≤ stV 4 (tN xa) := tN_le (by omega) pe.2
  have kn0 : kd n = 0 := h3 n (Nat.le_refl n) hn
  have chn0 : chn n = 0 := by
    by_cases q : chn n = 0
    · exact q
    · have := (r7 n hn).2 q; omega
  have wn0 : wa n = 0 := r5 n hn (by omega)
  obtain ⟨t1, t2, t3, t4, t5, t6, t7, t8⟩ := r2
  refine ⟨by omega, ?_, ?_, ?_, h5, h6, h7, ⟨rfl, ⟨t1, t2, t3, ?_, ?_, ?_, ?_, t8⟩, r3, r4, ?_, ⟨⟨?_, ?_⟩, r6.2⟩, ?_, ?_⟩, h9, h10, h11⟩
  · intro t ht
    rcases h2 t ht with q | q
    · exact Or.inl q
    · exact Or.inr ⟨q.1, isIn_up q.2⟩
  · intro q hq hq16
    rw [va_up_ne _ _ (by omega)]
    exact h3 q (by omega) hq16
  · intro j hj
    by_cases e : j = n
    · subst e; rw [va_up_self, va_up_self]; exact ⟨kb, kc⟩
    · rw [va_up_ne _ _ e, va_up_ne _ _ e]; exact h4 j hj
  · intro q ch s hq hch hs
    rw [t4 q ch s hq hch hs]
    by_cases e : q = n
    · subst e
      rw [if_neg (by omega)]
      split
      · exact (t7 q hq (by omega) _ (show 8 * ((s + 8 - (va_up fi q (tN xd) q - 1)) % 8) + ch < 64 by omega)).symm.trans (by rw [Nat.add_assoc])
      · rfl
    · rw [va_up_ne _ _ e, va_up_ne _ _ e]
  · intro t ht hi c hc
    exact t5 t ht (fun z => hi (isIn_up z)) c hc
  · intro k hk1 hk2
    exact t6 k (by omega) hk2
  · intro q hq hk k hk'
    by_cases e : q = n
    · subst e; exact t7 q hq (by omega) k hk'
    · rw [va_up_ne _ _ e] at hk; exact t7 q hq hk k hk'
  · intro j hj hk
    show wa j = 0
    by_cases e : j = n
    · subst e; exact wn0
    · rw [va_up_ne _ _ e] at hk; exact r5 j hj hk
  · intro j hj
    obtain ⟨a1, a2, a3, a4⟩ := r6.1.1 j hj
    refine ⟨a1, a2, a3, fun z => ?_⟩
    by_cases e : j = n
    · subst e; exact absurd chn0 z
    · show va_up se n (tN xe) j ≤ 99 ∧ _
      rw [va_up_ne _ _ e]; exact a4 z
  · intro j hj
    show PtOk (va_up kd n (tN xa)) (va_up fi n (tN xd)) (va_up se n (tN xe)) j
    unfold PtOk
    by_cases e : j = n
    · subst e
      rw [va_up_self, va_up_self, va_up_self]
      refine ⟨ka, by omega, by omega, fun z => ?_, fun z => ?_⟩
      · have := s3b z; omega
      · have := s2b z; omega
    · rw [va_up_ne _ _ e, va_up_ne _ _ e, va_up_ne _ _ e]
      exact r6.1.2 j (by omega)
  · intro j hj
    refine ⟨(r7 j hj).1, fun z => ?_⟩
    by_cases e : j = n
    · subst e; exact absurd chn0 z
    · rw [va_up_ne _ _ e]; exact (r7 j hj).2 z
  · intro j hj hk
    show va_up se n (tN xe) j ≤ 99
    by_cases e : j = n
    · subst e
      rw [va_up_self] at hk ⊢
      have := s4b hk; omega
    · rw [va_up_ne _ _ e] at hk ⊢
      exact r8 j hj hk
theorem lr_set {n lst tk : Nat} {kd xs ys fi se le ofm chn los dir dkt wa wa2 wm tkm : Nat → Nat} {L : zLS} {T : zM7} {cm bef gi2 : Nat → Int64} {xp xv : Int32} (h0 : setC n kd xp xv = 0) (h : LwR n lst tk kd xs ys fi le ofm (L, wa, se, chn, los, dir, dkt, bef) (T, cm, tkm, wm, se, chn, los, dir, dkt, bef) gi2 wa2) :
    LwR n lst tk kd xs ys fi le ofm (L, wa, va_up se (tN xp) (tN xv), chn, los, dir, dkt, bef) (T, cm, tkm, wm, va_up se (tN xp) (tN xv), chn, los, dir, dkt, bef) gi2 wa2 := by
  obtain ⟨pa, pv⟩ := setC_0 h0
  obtain ⟨h1, h2, h3, h4, h5, h6, h7, ⟨r1, r2, r3, r4, r5, r6, r7, r8⟩, h9, h10, h11⟩ := h
  dsimp only at r1 r2 r3 r4 r5 r6 r7 r8
  have hp : tN xp < n := cL_le (by omega) pa
  have hok := r6.1.2 (tN xp) hp
  obtain ⟨s2, s2b, s3, s3b, s4, s4b⟩ := stV_bd hok.1
  have kv : tN xv ≤ stV 4 (kd (tN xp)) := tN_le (by omega) pv.2
  refine ⟨h1, h2, h3, h4, h5, h6, h7, ⟨rfl, r2, r3, r4, r5, ⟨⟨?_, ?_⟩, r6.2⟩, r7, ?_⟩, h9, h10, h11⟩
  · intro j hj
    obtain ⟨a1, a2, a3, a4⟩ := r6.1.1 j hj
    refine ⟨a1, a2, a3, fun z => ?_⟩
    show va_up se (tN xp) (tN xv) j ≤ 99 ∧ _
    by_cases e : j = tN xp
    · rw [← e] at s4b kv ⊢
      rw [va_up_self]
      have := s4b ((r7 j hj).2 z)
      exact ⟨by omega, (a4 z).2⟩
    · rw [va_up_ne _ _ e]; exact a4 z
  · intro j hj
    show PtOk kd fi (va_up se (tN xp) (tN xv)) j
    have q := r6.1.2 j hj
    unfold PtOk at q ⊢
    by_cases e : j = tN xp
    · rw [← e] at s4 kv ⊢
      rw [va_up_self]
      exact ⟨q.1, q.2.1, by omega, q.2.2.2⟩
    · rw [va_up_ne _ _ e]; exact q
  · intro j hj hk
    show va_up se (tN xp) (tN xv) j ≤ 99
    by_cases e : j = tN xp
    · rw [← e] at s4b kv ⊢
      rw [va_up_self]
      have := s4b hk; omega
    · rw [va_up_ne _ _ e]; exact r8 j hj hk
theorem lr_le {n lst tk : Nat} {kd xs ys fi se le le' ofm chn los dir dkt wa wa2 wm tkm : Nat → Nat} {L : zLS} {T : zM7} {cm bef gi2 : Nat → Int64} (hle : LeQ n kd le') (h : LwR n lst tk kd xs ys fi le ofm (L, wa, se, chn, los, dir, dkt, bef) (T, cm, tkm, wm, se, chn, los, dir, dkt, bef) gi2 wa2) :
    LwR n lst tk kd xs ys fi le' ofm (L, wa, se, chn, los, dir, dkt, bef) (T, cm, tkm, wm, se, chn, los, dir, dkt, bef) gi2 wa2 := by
  obtain ⟨h1, h2, h9⟩ := h
  exact ⟨h1, hle, h9⟩
theorem lr_lead {n lst tk : Nat} {kd xs ys fi se le ofm chn los dir dkt wa wa2 wm tkm : Nat → Nat} {L : zLS} {T : zM7} {cm bef gi2 : Nat → Int64} {xp xo xq xi : Int32} (h0 : leaC n kd le xp xo xq xi = 0) (h : LwR n lst tk kd xs ys fi le ofm (L, wa, se, chn, los, dir, dkt, bef) (T, cm, tkm, wm, se, chn, los, dir, dkt, bef) gi2 wa2) :
    LwR n lst tk kd xs ys fi (va_up le (tN xp * 2 + tN xo) (tN xq * 2 + tN xi + 1)) ofm (L, wa, se, chn, los, dir, dkt, bef) (T, cm, tkm, wm, se, chn, los, dir, dkt, bef) gi2 wa2 := by
  have hA : leaA n kd xp xo xq xi = 0 := by
    by_cases q : leaA n kd xp xo xq xi = 0
    · exact q
    · rw [leaC_B q] at h0; exact h0
  obtain ⟨⟨p1, p2⟩, ⟨p3, p4⟩⟩ := leaA_0 hA
  refine lr_le ?_ h
  obtain ⟨h1, h2, h3, h4, h5, h6, h7, ⟨r1, r2, r3, r4, r5, r6, r7, r8⟩, h9, h10, h11⟩ := h
  have hq : tN xq < n := cL_le (by omega) p3
  have hk := stV0_le (r6.1.2 (tN xq) hq).1
  have hi : tN xi < stV 0 (kd (tN xq)) := cL_le (by omega) p4
  intro t ht
  by_cases e : t = tN xp * 2 + tN xo
  · rw [e, va_up_self]
    refine Or.inr ⟨by omega, ?_⟩
    unfold isIn
    rw [show (tN xq * 2 + tN xi + 1 - 1) / 2 = tN xq by omega, show (tN xq * 2 + tN xi + 1 - 1) % 2 = tN xi by omega]
    exact ⟨hq, hi⟩
  · rw [va_up_ne _ _ e]; exact h2 t ht
theorem lr_cut {n lst tk : Nat} {kd xs ys fi se le ofm chn los dir dkt wa wa2 wm tkm : Nat → Nat} {L : zLS} {T : zM7} {cm bef gi2 : Nat → Int64} {f : Nat} (h : LwR n lst tk kd xs ys fi le ofm (L, wa, se, chn, los, dir, dkt, bef) (T, cm, tkm, wm, se, chn, los, dir, dkt, bef) gi2 wa2) :
    LwR n lst tk kd xs ys fi (va_up le f 0) ofm (L, wa, se, chn, los, dir, dkt, bef) (T, cm, tkm, wm, se, chn, los, dir, dkt, bef) gi2 wa2 := by
  refine lr_le ?_ h
  intro t ht
  by_cases e : t = f
  · rw [e, va_up_self]; exact Or.inl rfl
  · rw [va_up_ne _ _ e]; exact h.2.1 t ht
theorem lr_lock {n lst tk : Nat} {kd xs ys fi se le ofm chn los dir dkt wa wa2 wm tkm : Nat → Nat} {L : zLS} {T : zM7} {cm bef gi2 : Nat → Int64} {xp xc : Int32} (h0 : locC n kd xp xc = 0) (h : LwR n lst tk kd xs ys fi le ofm (L, wa, se, chn, los, dir, dkt, bef) (T, cm, tkm, wm, se, chn, los, dir, dkt, bef) gi2 wa2) :
    LwR n lst tk kd xs ys fi le ofm (L, wa, se, va_up chn (tN xp) (tC xc), los, va_up dir (tN xp) 1, va_up dkt (tN xp) 0, va_up bef (tN xp) 0) (T, cm, tkm, wm, se, va_up chn (tN xp) (tC xc), los, va_up dir (tN xp) 1, va_up dkt (tN xp) 0, va_up bef (tN xp) 0) gi2 wa2 := by
  obtain ⟨pa, pc, pk⟩ := locC_0 h0
  obtain ⟨h1, h2, h3, h4, h5, h6, h7, ⟨r1, r2, r3, r4, r5, r6, r7, r8⟩, h9, h10, h11⟩ := h
  dsimp only at r1 r2 r3 r4 r5 r6 r7 r8
  have hp : tN xp < n := cL_le (by omega) pa
  have hc : tC xc ≤ 7 + 1 := tC_le (by omega) pc.2
  refine ⟨h1, h2, h3, h4, h5, h6, h7, ⟨rfl, r2, r3, r4, r5, ⟨⟨?_, r6.1.2⟩, r6.2⟩, ?_, r8⟩, h9, h10, h11⟩
  · intro j hj
    obtain ⟨a1, a2, a3, a4⟩ := r6.1.1 j hj
    show va_up chn (tN xp) (tC xc) j ≤ 8 ∧ va_up dir (tN xp) 1 j ≤ 2 ∧ va_up dkt (tN xp) 0 j ≤ 8 ∧ (¬ va_up chn (tN xp) (tC xc) j = 0 → se j ≤ 99 ∧ va_up dkt (tN xp) 0 j ≤ 7)
    by_cases e : j = tN xp
    · rw [← e] at pk ⊢
      rw [va_up_self, va_up_self, va_up_self]
      exact ⟨hc, by omega, by omega, fun _ => ⟨r8 j hj pk, by omega⟩⟩
    · rw [va_up_ne _ _ e, va_up_ne _ _ e, va_up_ne _ _ e]
      exact ⟨a1, a2, a3, a4⟩
  · intro j hj
    show va_up chn (tN xp) (tC xc) j ≤ 8 ∧ (¬ va_up chn (tN xp) (tC xc) j = 0 → kd j = 3)
    by_cases e : j = tN xp
    · rw [← e] at pk ⊢
      rw [va_up_self]
      exact ⟨hc, fun _ => pk⟩
    · rw [va_up_ne _ _ e]; exact r7 j hj
theorem lr_spacing {n lst tk : Nat} {kd xs ys fi le ofm wa2 : Nat → Nat} {C : zC} {R : zR} {gi2 : Nat → Int64} {xp : Int32} (h0 : spaC xp = 0) (h : LwR n lst tk kd xs ys fi le ofm C R gi2 wa2) : LwR n (tN xp) tk kd xs ys fi le ofm C R gi2 wa2 := by
  obtain ⟨h1, h2, h3, h4, h5, h6⟩ := h
  exact ⟨h1, h2, h3, h4, tN_le (by omega) (spaC_0 h0).2, h6⟩
theorem rnM_bd {n : Nat} {kd xs ys fi le ofm : Nat → Nat} {R : zR} (hn : n ≤ 16) (h : RnOk n kd fi R) : ∀ k, RnOk n kd fi (rp (rnM n kd xs ys fi le ofm) k R) := by
  intro k
  induction k with
  | zero => exact h
  | succ k ih => rw [rp_s]; exact rnM_ok hn ih
theorem lr_run {n lst tk : Nat} {kd xs ys fi le ofm wa2 : Nat → Nat} {C : zC} {R : zR} {gi2 : Nat → Int64} {xt : Int32} (h0 : runC tk xt = 0) (h : LwR n lst tk kd xs ys fi le ofm C R gi2 wa2) :
    LwR n lst (tk + tN xt) kd xs ys fi le ofm (rp (rnC n kd xs ys fi le 8 tk) (tN xt) C) ((rp (rnM n kd xs ys fi le ofm) (tN xt) R).1, (rp (rnM n kd xs ys fi le ofm) (tN xt) R).2.1, (rp (rnM n kd xs ys fi le ofm) (tN xt) R).2.2.1, (rp (rnM n kd xs ys fi le ofm) (tN xt) R).2.2.2.1, (rp (rnC n kd xs ys fi le 8 tk) (tN xt) C).2.2) gi2 wa2 ∧ (rp (rnC n kd xs ys fi le 8 tk) (tN xt) C).2.2 = (rp (rnM n kd xs ys fi le ofm) (tN xt) R).2.2.2.2 := by
  obtain ⟨h1, h2, h3, h4, h5, h6, h7, h8, h9, h10, h11⟩ := h
  have g := rr_run (xs := xs) (ys := ys) (m := tN xt) h1 h2 h3 h7 h8
  have hR : RnOk n kd fi R := ⟨by rw [← h8.1]; exact h8.2.2.2.2.2.1.1, h11⟩
  have hB := (rnM_bd (xs := xs) (ys := ys) (le := le) (ofm := ofm) h1 hR (tN xt)).2
  have hk := (runC_0 h0).2
  generalize rp (rnC n kd xs ys fi le 8 tk) (tN xt) C = C9 at g ⊢
  generalize rp (rnM n kd xs ys fi le ofm) (tN xt) R = R9 at g hB ⊢
  obtain ⟨g1, g2⟩ := g
  exact ⟨⟨h1, h2, h3, h4, h5, hk, h7, ⟨rfl, g2⟩, h9, h10, hB⟩, g1⟩
theorem rsM_bd {n : Nat} {kd xs ys se w : Nat → Nat} (hn : n ≤ 16) (h : ∀ j, j < n → kd j ≤ 5 ∧ se j < 1000) (hw : ∀ j, j < 32 → w j ≤ 20000) : ∀ k, k ≤ n → ∀ j, j < 32 → rp (rsM n kd xs ys se) k w j ≤ 20000 := by
  intro k
  induction k with
  | zero => exact fun _ => hw
  | succ k ih => intro hk; rw [rp_s]; exact rsM_le hn (by omega) h (ih (by omega))
theorem lr_dark {n lst tk : Nat} {kd xs ys fi le ofm ofm' wa2 wa2' tkm tkm' wm wm' : Nat → Nat} {C : zC} {T T' : zM7} {cm cm' gi2 gi2' : Nat → Int64} {HR : zHS} (hg : ∀ j, j < 256 → gi2' j = 0) (hw2 : ∀ j, j < 16 → wa2' j ≤ 20000) (hwm : ∀ j, j < 32 → wm' j ≤ 20000) (d : DLo (cm', tkm', ofm', wm', T') (cm, tkm, ofm, wm, T)) (h : LwR n lst tk kd xs ys fi le ofm C (T, cm, tkm, wm, HR) gi2 wa2) :
    LwR n lst tk kd xs ys fi le ofm' C (T', cm', tkm', wm', HR) gi2' wa2' := by
  obtain ⟨d1, d2, d3, d4, d5⟩ := d
  dsimp only at d1 d2 d3 d4 d5
  obtain ⟨h1, h2, h3, h4, h5, h6, h7, ⟨r1, r2, r3, r4, r5, r6, r7, r8⟩, h9, h10, h11⟩ := h
  dsimp only at r1 r2 r3 r4
  refine ⟨h1, h2, h3, h4, h5, h6, d3.trans h7, ⟨r1, r2.lo d1 d5, d2.trans r3, ?_, r5, r6, r7, r8⟩, hg, hw2, hwm⟩
  intro j hj
  show C.2.1 j = wm' j
  rw [d4 j hj]
  exact r4 j hj
