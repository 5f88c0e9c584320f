/-! Runs: ticks of light, warmths, locks. -/
theorem cnt_eq {fi wa wb : Nat → Nat} {o q : Nat} (h : wa q = wb q) : cnt fi wa o q = cnt fi wb o q := by unfold cnt; rw [h]
theorem wmB_eq {n : Nat} {kd xs ys se : Nat → Nat} {wa wm : Nat → Nat} (hn : n ≤ 16) (h : ∀ j, j < 16 → wa j = wm j) : ∀ j, j < 16 → rp (wmB n kd xs ys se) n wa j = rp (wmB n kd xs ys se) n wm j := by
  refine rp_sim (wmB n kd xs ys se) (wmB n kd xs ys se) (fun _ x y => ∀ j, j < 16 → x j = y j) h (fun i hi x y e => ?_)
  intro j hj
  unfold wmB
  by_cases k : kd i = 3
  · rw [if_pos k, if_pos k]
    by_cases q : j = i
    · subst q
      rw [va_up_self, va_up_self, e j hj]
    · rw [va_up_ne _ _ q, va_up_ne _ _ q, e j hj]
  · rw [if_neg k, if_neg k]
    exact e j hj
theorem wmB_nz {n : Nat} {kd xs ys se : Nat → Nat} {w : Nat → Nat} (h : ∀ j, j < 16 → ¬ kd j = 3 → w j = 0) : ∀ j, j < 16 → ¬ kd j = 3 → rp (wmB n kd xs ys se) n w j = 0 := by
  have key : ∀ k, ∀ j, j < 16 → ¬ kd j = 3 → rp (wmB n kd xs ys se) k w j = 0 := by
    intro k
    induction k with
    | zero => exact h
    | succ k ih =>
      intro j hj hk
      rw [rp_s]
      unfold wmB
      by_cases q : kd k = 3
      · rw [if_pos q, va_up_ne _ _ (show j ≠ k by intro e; rw [e] at hk; exact hk q)]
        exact ih j hj hk
      · rw [if_neg q]
        exact ih j hj hk
  exact key n
/-- a lock changes nothing but its own ring -/
theorem huS_ch {cr : Nat → Int64} {i j : Nat} {S : zHS} (h : ¬ j = i) : (huS cr i S).2.1 j = S.2.1 j := by
  unfold huS
  split
  · rfl
  · unfold huO
    dsimp only
    split
    · exact va_up_ne _ _ h
    · rfl
theorem huS_or {cr : Nat → Int64} {i j : Nat} {S : zHS} : (huS cr i S).2.1 j = S.2.1 j ∨ (huS cr i S).2.1 j = 0 := by
  unfold huS
  split
  · exact Or.inl rfl
  · unfold huO
    dsimp only
    split
    · by_cases q : j = i
      · subst q; exact Or.inr (va_up_self _ _ _)
      · exact Or.inl (va_up_ne _ _ q)
    · exact Or.inl rfl
theorem hunt_eq {n : Nat} {cr ov : Nat → Int64} {S : zHS} (hn : n ≤ 16) (hok : HsOk S) (ho : ∀ q, q < n → ¬ S.2.1 q = 0 → ov q = cr (q * 8 + (S.2.1 q - 1))) : rp (huS cr) n S = rp (hsM ov) n S := by
  have key := rp_sim (huS cr) (hsM ov) (fun i x y => x = y ∧ HsOk x ∧ ∀ j, i ≤ j → x.2.1 j = S.2.1 j) (n := n) (a := S) (b := S) ⟨rfl, hok, fun j _ => rfl⟩ (fun i hi x y e => ?_)
  · exact key.1
  · obtain ⟨e1, e2, e3⟩ := e
    subst e1
    refine ⟨?_, huS_ok (by omega) e2, ?_⟩
    · rw [hsM_eq (cr := cr) (show i < 16 by omega) e2]
      intro hq
      rw [e3 i (Nat.le_refl i)] at hq ⊢
      exact ho i hi hq
    · intro j hj
      rw [huS_ch (by omega)]
      exact e3 j (by omega)
theorem hunt_or {n : Nat} {cr : Nat → Int64} {S : zHS} : ∀ k, ∀ j, (rp (huS cr) k S).2.1 j = S.2.1 j ∨ (rp (huS cr) k S).2.1 j = 0 := by
  intro k
  induction k with
  | zero => exact fun j => Or.inl rfl
  | succ k ih =>
    intro j
    rw [rp_s]
    rcases huS_or (cr := cr) (i := k) (j := j) (S := rp (huS cr) k S) with q | q
    · rw [q]; exact ih j
    · exact Or.inr q
/-- class (C: light, warmths, locks) against reference (R), between ticks of a run -/
abbrev RR (n : Nat) (kd fi le : Nat → Nat) (tk : Nat) (C : zC) (R : zR) : Prop :=
  C.2.2 = R.2.2.2.2 ∧ TR n kd fi 0 tk C.1 R.2.1 R.1 ∧ R.2.2.1 0 = tk ∧ (∀ j, j < 16 → C.2.1 j = R.2.2.2.1 j) ∧ (∀ j, j < 16 → ¬ kd j = 3 → C.2.1 j = 0) ∧ RcOk n kd fi C ∧ (∀ j, j < 16 → C.2.2.2.1 j ≤ 8 ∧ (¬ C.2.2.2.1 j = 0 → kd j = 3)) ∧ (∀ j, j < 16 → kd j = 3 → C.2.2.1 j ≤ 99)
theorem hunt_se {kd : Nat → Nat} {cr : Nat → Int64} {S : zHS} (hok : HsOk S) (h : ∀ j, j < 16 → kd j = 3 → S.1 j ≤ 99) : ∀ k, k ≤ 16 → HsOk (rp (huS cr) k S) ∧ ∀ j, j < 16 → kd j = 3 → (rp (huS cr) k S).1 j ≤ 99 := by
  intro k
  induction k with
  | zero => exact fun _ => ⟨hok, h⟩
  | succ k ih =>
    intro hk
    obtain ⟨i1, i2⟩ := ih (by omega)
    rw [rp_s]
    refine ⟨huS_ok (by omega) i1, ?_⟩
    generalize rp (huS cr) k S = X at i1 i2
    intro j hj hr
    unfold huS
    by_cases q : X.2.1 k = 0
    · rw [if_pos q]; exact i2 j hj hr
    · rw [if_neg q]
      unfold huO
      dsimp only
      by_cases e : j = k
      · subst e
        rw [va_up_self]
        exact hct_le ((i1 j hj).2.2.2 q).1
      · rw [va_up_ne _ _ e]
        exact i2 j hj hr
theorem rr_tick {n : Nat} {kd xs ys fi le ofm : Nat → Nat} {tk k : Nat} {C : zC} {R : zR} (hn : n ≤ 16) (hL : LeQ n kd le) (hk0 : ∀ q, n ≤ q → q < 16 → kd q = 0) (ho : ofm 0 = 8) (h : RR n kd fi le (tk + k) C R) :
    RR n kd fi le (tk + (k + 1)) (rnC n kd xs ys fi le 8 tk k C) (rnM n kd xs ys fi le ofm k R) := by
  obtain ⟨L, wa, HS⟩ := C
  obtain ⟨T, cm, tkm, wm, HR⟩ := R
  obtain ⟨e1, e2, e3, e4, e5, e6, e7, e8⟩ := h
  dsimp only at e1 e2 e3 e4 e5 e6 e7 e8
  subst e1
  have F : Fx n kd fi HS.1 le HS.2.1 := ⟨hn, e6.1.2, hL, e7, hk0⟩
  have hcen : ∀ q, q < n → cnt fi (fun j => wm (16 * 0 + j)) (ofm 0) q = cnt fi wa 8 q := by
    intro q hq
    rw [ho]
    refine cnt_eq ?_
    show wm (16 * 0 + q) = wa q
    rw [show 16 * 0 + q = q by omega]
    exact (e4 q (by omega)).symm
  obtain ⟨g1, g2⟩ := tr_tick (wa := wa) (wm := wm) (tkm := tkm) (ofm := ofm) F e3 hcen e2
  have hok' := rnC_ok (xs := xs) (ys := ys) (le := le) (o := 8) (tk := tk) (k := k) hn e6
  refine ⟨?_, g1, ?_, wmB_eq hn e4, wmB_nz e5, hok', ?_, (hunt_se e6.1.1 e8 n hn).2⟩
  · exact hunt_eq hn e6.1.1 (fun q hq hc => g2 rfl q hq hc)
  · show va_up tkm 0 (tkm 0 + 1) 0 = tk + (k + 1)
    rw [va_up_self, e3]; omega
  · intro j hj
    show (rp (huS (tkS n kd fi HS.1 le wa 8 (tk + k) L).2.2.2.1) n HS).2.1 j ≤ 8 ∧ (¬ (rp (huS (tkS n kd fi HS.1 le wa 8 (tk + k) L).2.2.2.1) n HS).2.1 j = 0 → kd j = 3)
    rcases hunt_or (n := n) (cr := (tkS n kd fi HS.1 le wa 8 (tk + k) L).2.2.2.1) (S := HS) n j with q | q
    · rw [q]; exact e7 j hj
    · rw [q]; exact ⟨by omega, fun z => absurd rfl z⟩
theorem rr_run {n : Nat} {kd xs ys fi le ofm : Nat → Nat} {tk m : Nat} {C : zC} {R : zR} (hn : n ≤ 16) (hL : LeQ n kd le) (hk0 : ∀ q, n ≤ q → q < 16 → kd q = 0) (ho : ofm 0 = 8) (h : RR n kd fi le tk C R) :
    RR n kd fi le (tk + m) (rp (rnC n kd xs ys fi le 8 tk) m C) (rp (rnM n kd xs ys fi le ofm) m R) :=
  rp_sim (rnC n kd xs ys fi le 8 tk) (rnM n kd xs ys fi le ofm) (fun k x y => RR n kd fi le (tk + k) x y) h (fun _ _ _ _ e => rr_tick hn hL hk0 ho e)
