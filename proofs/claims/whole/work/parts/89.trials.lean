/-! Trials: the dark light against the reference's upper halves; what they leave as it was. -/
abbrev LoP (T T0 : zM7) : Prop := (∀ j, j < 128 → T.2.2.1 j = T0.2.2.1 j) ∧ (∀ j, j < 1024 → T.2.2.2.1 j = T0.2.2.2.1 j) ∧ T.2.2.2.2 = T0.2.2.2.2
theorem LoP.rf (T : zM7) : LoP T T := ⟨fun _ _ => rfl, fun _ _ => rfl, rfl⟩
theorem LoP.tr {A B C : zM7} (h : LoP A B) (g : LoP B C) : LoP A C := ⟨fun j hj => (h.1 j hj).trans (g.1 j hj), fun j hj => (h.2.1 j hj).trans (g.2.1 j hj), h.2.2.trans g.2.2⟩
theorem wkM_lo {kd fi se le chn wm tkm ofm : Nat → Nat} {cm : Nat → Int64} {p c : Nat} {T : zM7} : LoP (wkM kd fi se le chn wm tkm ofm cm 1 p c T) T := by
  obtain ⟨tn, ov, sm, ins, em, gn, lk⟩ := T
  have hb : ¬ (1 : Nat) = 0 := by decide
  unfold wkM
  by_cases k0 : kd p = 0
  · rw [if_pos k0]
    refine ⟨fun j _ => rfl, fun j _ => rfl, ?_⟩
    show (em + (if 1 = 0 then _ else 0), gn, mvL 1 _ _ lk) = (em, gn, lk)
    rw [if_neg hb, i64_a0, mvL_1 hb]
  · rw [if_neg k0]
    by_cases k1 : kd p = 1
    · rw [if_pos k1]
      unfold guM
      dsimp only
      refine ⟨fun j _ => rfl, fun j hj => ?_, ?_⟩
      · show va_up (va_up ins _ _) _ 0 j = ins j
        rw [va_up_ne _ _ (by omega), va_up_ne _ _ (by omega)]
      · show (em, mvO 1 _ gn, mvL 1 _ _ lk) = (em, gn, lk)
        rw [mvO_1 hb, mvL_1 hb]
    · rw [if_neg k1]
      by_cases k2 : kd p = 2 ∨ kd p = 3
      · rw [if_pos k2]
        refine ⟨fun j _ => rfl, fun j _ => rfl, ?_⟩
        show (em, gn, (rp (shB kd se le chn cm 1 _ p c) 2 (tn, lk, ov)).2.1) = (em, gn, lk)
        have e : ∀ cen, (rp (shB kd se le chn cm 1 cen p c) 2 (tn, lk, ov)).2.1 = lk := by
          intro cen
          show (shB kd se le chn cm 1 cen p c 1 (shB kd se le chn cm 1 cen p c 0 (tn, lk, ov))).2.1 = lk
          unfold shB
          dsimp only
          rw [mvL_1 hb, mvL_1 hb, mvL_1 hb, mvL_1 hb]
        rw [e]
      · rw [if_neg k2]
        by_cases k5 : kd p = 5
        · rw [if_pos k5]
          refine ⟨fun j hj => ?_, fun j _ => rfl, rfl⟩
          show va_up sm _ _ j = sm j
          exact va_up_ne _ _ (by omega)
        · rw [if_neg k5]
          split
          · refine ⟨fun j _ => rfl, fun j _ => rfl, ?_⟩
            show (em, gn, mvL 1 _ _ lk) = (em, gn, lk)
            rw [mvL_1 hb]
          · refine ⟨fun j _ => rfl, fun j _ => rfl, ?_⟩
            show (em, mvO 1 _ gn, lk) = (em, gn, lk)
            rw [mvO_1 hb]
theorem rp_lo {f : Nat → zM7 → zM7} (h : ∀ i T, LoP (f i T) T) : ∀ k T, LoP (rp f k T) T := by
  intro k T
  induction k with
  | zero => exact LoP.rf T
  | succ k ih => rw [rp_s]; exact (h k _).tr ih
theorem goX_lo {n : Nat} {kd fi se le chn wm tkm ofm : Nat → Nat} {cm : Nat → Int64} {T : zM7} : LoP (goX n kd fi se le chn wm tkm ofm cm 1 T) T := by
  unfold goX
  refine (rp_lo (f := paM kd fi se le chn wm tkm ofm cm 1) (fun p X => ?_) n _).tr ⟨fun _ _ => rfl, fun _ _ => rfl, rfl⟩
  unfold paM
  exact (rp_lo (f := wkM kd fi se le chn wm tkm ofm cm 1 p) (fun c Y => wkM_lo) 8 _).tr ⟨fun _ _ => rfl, fun _ _ => rfl, rfl⟩
/-- what a trial leaves in the reference as it was -/
abbrev DLo (D D0 : zD) : Prop := (∀ j, j < 256 → D.1 j = D0.1 j) ∧ D.2.1 0 = D0.2.1 0 ∧ D.2.2.1 0 = D0.2.2.1 0 ∧ (∀ j, j < 16 → D.2.2.2.1 j = D0.2.2.2.1 j) ∧ LoP D.2.2.2.2 D0.2.2.2.2
theorem DLo.rf (D : zD) : DLo D D := ⟨fun _ _ => rfl, rfl, rfl, fun _ _ => rfl, LoP.rf _⟩
theorem DLo.tr {A B C : zD} (h : DLo A B) (g : DLo B C) : DLo A C := ⟨fun j hj => (h.1 j hj).trans (g.1 j hj), h.2.1.trans g.2.1, h.2.2.1.trans g.2.2.1, fun j hj => (h.2.2.2.1 j hj).trans (g.2.2.2.1 j hj), h.2.2.2.2.tr g.2.2.2.2⟩
theorem rsM_lo {n : Nat} {kd xs ys se w : Nat → Nat} : ∀ k, ∀ j, j < 16 → rp (rsM n kd xs ys se) k w j = w j := by
  intro k
  induction k with
  | zero => exact fun _ _ => rfl
  | succ k ih =>
    intro j hj
    rw [rp_s]
    unfold rsM
    rw [va_up_ne _ _ (by omega)]
    exact ih j hj
theorem rsBM {n : Nat} {kd xs ys se wa wm : Nat → Nat} : ∀ k, ∀ j, j < k → rp (rsB n kd xs ys se) k wa j = rp (rsM n kd xs ys se) k wm (16 + j) := by
  intro k
  induction k with
  | zero => exact fun j hj => absurd hj (by omega)
  | succ k ih =>
    intro j hj
    rw [rp_s, rp_s]
    unfold rsB rsM
    by_cases q : j = k
    · subst q
      rw [va_up_self, va_up_self]
    · rw [va_up_ne _ _ q, va_up_ne _ _ (show 16 + j ≠ 16 + k by omega)]
      exact ih j (by omega)
theorem clr_lo {f : Nat → Int64} {b w i j : Nat} (h : j < b) : clr f b w i j = f j := if_neg (by omega)
theorem clr_up {f : Nat → Int64} {b w i j : Nat} (h : b ≤ j ∧ j < b + i ∧ j < b + w) : clr f b w i j = 0 := if_pos h
theorem try_rel {n : Nat} {kd xs ys fi se le chn wa : Nat → Nat} {gi cr : Nat → Int64} {oo nt : Nat} {D : zD} (F : Fx n kd fi se le chn) (hg : ∀ j, j < 256 → gi j = 0) :
    (∀ j, j < 256 → (trS n kd xs ys fi se le wa gi cr oo nt).2.1 j = 0) ∧ EqB (trS n kd xs ys fi se le wa gi cr oo nt).2.2.2.2.1 (tryS n kd xs ys fi se le chn oo nt D).2.2.2.2.2.2.1 128 128 ∧ DLo (tryS n kd xs ys fi se le chn oo nt D) D := by
  obtain ⟨cm, tkm, ofm, wm, tn, ov, sm, ins, em, gn, lk⟩ := D
  have hn := F.1
  have key := rp_sim (tkS n kd fi se le (rp (rsB n kd xs ys se) n wa) oo) (trM n kd fi se le chn (rp (rsM n kd xs ys se) n wm) (va_up ofm 1 oo) 1)
    (fun k X Y => TR n kd fi 1 k X Y.1 Y.2.2 ∧ Y.2.1 1 = k ∧ (∀ j, j < 256 → Y.1 j = cm j) ∧ Y.2.1 0 = tkm 0 ∧ LoP Y.2.2 (tn, ov, sm, ins, em, gn, lk)) (n := nt)
    (a := (fun _ => 0, gi, fun _ => 0, cr, fun _ => 0, 0, 0, 0, 0)) (b := (clr cm 256 256 1024, va_up tkm 1 0, tn, ov, clr sm 128 128 1024, clr ins 1024 1024 1024, em, gn, lk)) ?_ ?_
  · unfold trS tryS tryT
    dsimp only
    obtain ⟨k1, k2, k3, k4, k5⟩ := key
    refine ⟨k1.2.1, ?_, k3, k4, ?_, ?_, k5⟩
    · exact k1.2.2.1
    · show va_up ofm 1 oo 0 = ofm 0
      exact va_up_ne _ _ (by decide)
    · exact rsM_lo n
  · refine ⟨⟨?_, hg, ?_, ?_, fun _ _ _ _ _ => rfl, fun _ _ _ => rfl, fun _ _ _ _ _ => rfl, fun z => absurd z (by decide)⟩, va_up_self tkm 1 0, fun j hj => clr_lo hj, va_up_ne tkm 0 (show (0 : Nat) ≠ 1 by decide), fun j hj => clr_lo hj, fun j hj => clr_lo hj, rfl⟩
    · intro j hj
      exact (clr_up (by omega)).symm
    · intro j hj
      exact (clr_up (by omega)).symm
    · intro q ch s hq hc hs
      show clr ins 1024 1024 1024 (1024 * 1 + 64 * q + 8 * s + ch) = _
      rw [clr_up (by omega)]
      split <;> rfl
  · intro k hk X Y e
    obtain ⟨e1, e2, e3, e4, e5⟩ := e
    have hcen : ∀ q, q < n → cnt fi (fun j => rp (rsM n kd xs ys se) n wm (16 * 1 + j)) (va_up ofm 1 oo 1) q = cnt fi (rp (rsB n kd xs ys se) n wa) oo q := by
      intro q hq
      rw [va_up_self]
      exact cnt_eq (rsBM n q hq).symm
    have g := (tr_tick (wa := rp (rsB n kd xs ys se) n wa) (wm := rp (rsM n kd xs ys se) n wm) (tkm := Y.2.1) (ofm := va_up ofm 1 oo) F e2 hcen e1).1
    refine ⟨g, ?_, ?_, ?_, ?_⟩
    · show va_up Y.2.1 1 (Y.2.1 1 + 1) 1 = k + 1
      rw [va_up_self, e2]
    · intro j hj
      show cpF Y.1 _ 1 256 j = cm j
      unfold cpF
      rw [if_neg (by omega)]
      exact e3 j hj
    · show va_up Y.2.1 1 (Y.2.1 1 + 1) 0 = tkm 0
      rw [va_up_ne _ _ (by decide)]
      exact e4
    · exact goX_lo.tr e5
/-- light's relation holds whatever a trial did -/
theorem TR.lo {n : Nat} {kd fi : Nat → Nat} {tk : Nat} {S : zLS} {cm cm' : Nat → Int64} {T T' : zM7} (h : TR n kd fi 0 tk S cm T) (hc : ∀ j, j < 256 → cm' j = cm j) (g : LoP T' T) : TR n kd fi 0 tk S cm' T' := by
  obtain ⟨h1, h2, h3, h4, h5, h6, h7, h8⟩ := h
  obtain ⟨g1, g2, g3⟩ := g
  refine ⟨?_, h2, ?_, ?_, h5, h6, h7, ?_⟩
  · intro j hj
    rw [hc _ (by omega)]
    exact h1 j hj
  · intro j hj
    rw [g1 _ (by omega)]
    exact h3 j hj
  · intro q ch s hq hch hs
    rw [g2 _ (by omega)]
    exact h4 q ch s hq hch hs
  · intro hb
    obtain ⟨⟨a1, a2, a3⟩, a4, a5⟩ := h8 hb
    have e1 : T'.2.2.2.2.1 = T.2.2.2.2.1 := congrArg (fun z => z.1) g3
    have e2 : T'.2.2.2.2.2.1 = T.2.2.2.2.2.1 := congrArg (fun z => z.2.1) g3
    have e3 : T'.2.2.2.2.2.2 = T.2.2.2.2.2.2 := congrArg (fun z => z.2.2) g3
    refine ⟨⟨a1.trans e1.symm, a2.trans e2.symm, a3.trans e3.symm⟩, ?_, a5⟩
    rw [sU_congr (f := T'.2.2.2.1) (g := T.2.2.2.1) g2]
    exact a4
theorem yie_rel {n : Nat} {kd xs ys fi se le chn : Nat → Nat} {pt nt : Nat} {xn : Int64} {Y0 : zLS × (Nat → Nat) × Nat × Nat} {D : zD} (F : Fx n kd fi se le chn) (hp : pt < 16) (hg : ∀ j, j < 256 → Y0.1.2.1 j = 0) : ∀ k,
    (∀ j, j < 256 → (rp (yC n kd xs ys fi se le pt nt xn) k (Y0, 0)).1.1.2.1 j = 0) ∧ (rp (yC n kd xs ys fi se le pt nt xn) k (Y0, 0)).2 = (rp (yB n kd xs ys fi se le chn pt nt xn) k (D, 0)).2 ∧ DLo (rp (yB n kd xs ys fi se le chn pt nt xn) k (D, 0)).1 D := by
  intro k
  induction k with
  | zero => exact ⟨hg, rfl, DLo.rf D⟩
  | succ k ih =>
    rw [rp_s, rp_s]
    obtain ⟨i1, i2, i3⟩ := ih
    generalize rp (yC n kd xs ys fi se le pt nt xn) k (Y0, 0) = Y at i1 i2 ⊢
    generalize rp (yB n kd xs ys fi se le chn pt nt xn) k (D, 0) = Z at i2 i3 ⊢
    obtain ⟨t1, t2, t3⟩ := try_rel (n := n) (kd := kd) (xs := xs) (ys := ys) (fi := fi) (se := se) (le := le) (chn := chn) (wa := Y.1.2.1) (gi := Y.1.1.2.1) (cr := Y.1.1.2.2.2.1) (oo := k + 8) (nt := nt) (D := Z.1) F i1
    have es := sAll_eq (bb := 1) hp t2
    refine ⟨t1, ?_, t3.tr i3⟩
    show Y.2 + _ = Z.2 + _
    rw [i2]
    rw [es]
