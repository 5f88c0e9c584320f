/-! Within a tick: a channel of a part, kind by kind. -/
abbrev MidL (chn : Nat → Nat) (p c : Nat) (S : zLS) (T : zM7) : Prop :=
  (S.2.2.2.2.2.1 = T.2.2.2.2.1 ∧ S.2.2.2.2.2.2.1 = T.2.2.2.2.2.1 ∧ S.2.2.2.2.2.2.2.1 = T.2.2.2.2.2.2) ∧ OvQ chn p c S.2.2.2.1 T.2.1 ∧ (S.2.2.2.2.2.1 - S.2.2.2.2.2.2.1 - S.2.2.2.2.2.2.2.1 - S.2.2.2.2.2.2.2.2 = sU T.2.2.2.1 1024 + sU S.2.1 256 + sU S.1 256) ∧ S.2.2.2.2.2.2.2.2 = sU S.2.2.2.2.1 128
abbrev Mid (n : Nat) (kd fi chn : Nat → Nat) (bb tk : Nat) (cm : Nat → Int64) (p c : Nat) (S : zLS) (T : zM7) : Prop :=
  EqB S.2.1 T.1 0 256 ∧ EqB S.2.2.2.2.1 T.2.2.1 (128 * bb) 128 ∧ CoQ (256 * bb) p c cm S.1 ∧ DlQ kd fi (1024 * bb) tk p c S.2.2.1 T.2.2.2.1 ∧ NzQ n kd 0 S.2.1 ∧ SnQ n S.2.2.2.2.1 ∧ UnQ kd S.2.2.1 ∧ (bb = 0 → MidL chn p c S T)
abbrev Fx (n : Nat) (kd fi se le chn : Nat → Nat) : Prop := n ≤ 16 ∧ (∀ j, j < n → PtOk kd fi se j) ∧ LeQ n kd le ∧ (∀ j, j < 16 → chn j ≤ 8 ∧ (¬ chn j = 0 → kd j = 3)) ∧ (∀ q, n ≤ q → q < 16 → kd q = 0)
theorem noIn {n : Nat} {kd : Nat → Nat} {p k : Nat} (o : Nat) (ho : o < 2) (hk : kd p = k) (h : stV 0 k ≤ o) : ¬ isIn n kd (2 * p + o) := by
  unfold isIn
  rw [show (2 * p + o) / 2 = p by omega, show (2 * p + o) % 2 = o by omega, hk]
  omega
theorem mid_guide {n : Nat} {kd fi se le chn wm tkm ofm : Nat → Nat} {bb tk p c : Nat} {cm : Nat → Int64} (F : Fx n kd fi se le chn) (hz : NzQ n kd (256 * bb) cm) (htk : tkm bb = tk) (hp : p < n) (hk : kd p = 1) (hc : c < 8) {co gi un cr sn : Nat → Int64} {em lo lk de : Int64} {T : zM7} (h : Mid n kd fi chn bb tk cm p c (co, gi, un, cr, sn, em, lo, lk, de) T) :
    Mid n kd fi chn bb tk cm p (c + 1) ((gdB le se fi tk p c (co, gi, un, lo, lk)).1, (gdB le se fi tk p c (co, gi, un, lo, lk)).2.1, (gdB le se fi tk p c (co, gi, un, lo, lk)).2.2.1, cr, sn, em, (gdB le se fi tk p c (co, gi, un, lo, lk)).2.2.2.1, (gdB le se fi tk p c (co, gi, un, lo, lk)).2.2.2.2, de) (wkM kd fi se le chn wm tkm ofm cm bb p c T) := by
  obtain ⟨tn, ov, sm, ins, em', gn, lk'⟩ := T
  obtain ⟨h1, h2, h3, h4, h5, h6, h7, h8⟩ := h
  obtain ⟨f1, f2, f3, f4, f5⟩ := F
  dsimp only at h1 h2 h3 h4 h5 h6 h7 h8
  have hp16 : p < 16 := by omega
  have hf : 1 ≤ fi p ∧ fi p ≤ 8 := ⟨(f2 p hp).2.2.2.2 hk, (f2 p hp).2.1⟩
  have hco := h3.get0 hp16 hc
  have hi1 : ¬ isIn n kd (2 * p + 1) := noIn 1 (by omega) hk (by decide)
  have hlate := h4.late hf hp16 hc
  have hlt := le_bd f3 (p * 2 + 0) (by omega)
  have hch : chn p = 0 := by
    by_cases q : chn p = 0
    · exact q
    · have := (f4 p hp16).2 q; omega
  generalize hph : cm (256 * bb + 16 * p + c) = ph at hco
  have hg := h4.guide (ph - ph * iL (se p) / 100) hk hf hp16 hc
  have hX : gdB le se fi tk p c (co, gi, un, lo, lk) = (va_up co ((p * 2 + 0) * 8 + c) 0, gvG (le (p * 2 + 0)) c (va_up un (((p * 8 + (tk + 8) % 8) * 8) + c) (ph - ph * iL (se p) / 100) (((p * 8 + (tk + 8 - (fi p - 1)) % 8) * 8) + c)) gi, va_up un (((p * 8 + (tk + 8) % 8) * 8) + c) (ph - ph * iL (se p) / 100), lo + ph * iL (se p) / 100, gvL (le (p * 2 + 0)) (va_up un (((p * 8 + (tk + 8) % 8) * 8) + c) (ph - ph * iL (se p) / 100) (((p * 8 + (tk + 8 - (fi p - 1)) % 8) * 8) + c)) lk) := by
    unfold gdB
    dsimp only
    rw [hco]
  have hw : wkM kd fi se le chn wm tkm ofm cm bb p c (tn, ov, sm, ins, em', gn, lk') = (mvG (le (p * 2 + 0)) c (va_up un (((p * 8 + (tk + 8) % 8) * 8) + c) (ph - ph * iL (se p) / 100) (((p * 8 + (tk + 8 - (fi p - 1)) % 8) * 8) + c)) tn, ov, sm, va_up (va_up ins (1024 * bb + 64 * p + 8 * ((tk + fi p - 1) % 8) + c) (0 + (ph - ph * iL (se p) / 100))) (1024 * bb + 64 * p + 8 * (tk % 8) + c) 0, em', mvO bb (ph * iL (se p) / 100) gn, mvL bb (le (p * 2 + 0)) (va_up un (((p * 8 + (tk + 8) % 8) * 8) + c) (ph - ph * iL (se p) / 100) (((p * 8 + (tk + 8 - (fi p - 1)) % 8) * 8) + c)) lk') := by
    rw [← hg.1]
    unfold wkM
    rw [if_neg (show ¬ kd p = 0 by omega), if_pos hk]
    unfold guM
    dsimp only
    rw [htk, hph, hlate, show 2 * p + 0 = p * 2 + 0 by omega]
  rw [hX, hw]
  generalize va_up un (((p * 8 + (tk + 8) % 8) * 8) + c) (ph - ph * iL (se p) / 100) (((p * 8 + (tk + 8 - (fi p - 1)) % 8) * 8) + c) = V at hg ⊢
  refine ⟨eqB_gv h1, h2, h3.take1 hz hi1 hp16 hc, hg.2, h5.gv f3 (by omega) hc, h6, ?_, ?_⟩
  · intro q hq hkq k hk'
    have e : 64 * q + k ≠ ((p * 8 + (tk + 8) % 8) * 8) + c := by
      intro e
      have : q = p := by omega
      rw [this] at hkq
      exact hkq hk
    show va_up un (((p * 8 + (tk + 8) % 8) * 8) + c) (ph - ph * iL (se p) / 100) (64 * q + k) = 0
    rw [va_up_ne _ _ e]
    exact h7 q hq hkq k hk'
  · intro hb
    obtain ⟨⟨a1, a2, a3⟩, a4, a5, a6⟩ := h8 hb
    dsimp only at a1 a2 a3 a4 a5 a6
    subst hb
    refine ⟨⟨a1, ?_, ?_⟩, a4.other hch, ?_, a6⟩
    · show lo + ph * iL (se p) / 100 = mvO 0 (ph * iL (se p) / 100) gn
      rw [mvO_0, a2]
    · show gvL (le (p * 2 + 0)) V lk = mvL 0 (le (p * 2 + 0)) V lk'
      rw [gvL_at, mvL_0, a3]
    · show em - (lo + ph * iL (se p) / 100) - gvL (le (p * 2 + 0)) V lk - de = sU (va_up (va_up ins (1024 * 0 + 64 * p + 8 * ((tk + fi p - 1) % 8) + c) (0 + (ph - ph * iL (se p) / 100))) (1024 * 0 + 64 * p + 8 * (tk % 8) + c) 0) 1024 + sU (gvG (le (p * 2 + 0)) c V gi) 256 + sU (va_up co ((p * 2 + 0) * 8 + c) 0) 256
      have s1 := sU_up (va_up ins (1024 * 0 + 64 * p + 8 * ((tk + fi p - 1) % 8) + c) (0 + (ph - ph * iL (se p) / 100))) (i := 1024 * 0 + 64 * p + 8 * (tk % 8) + c) (n := 1024) 0 (by omega)
      have s2 := sU_up ins (i := 1024 * 0 + 64 * p + 8 * ((tk + fi p - 1) % 8) + c) (n := 1024) (0 + (ph - ph * iL (se p) / 100)) (by omega)
      have s3 := gv_sum V gi lk hlt hc
      have s4 := sU_up co (i := (p * 2 + 0) * 8 + c) (n := 256) 0 (by omega)
      rw [hg.1] at s1
      rw [hlate] at s2
      rw [hco] at s4
      generalize ph * iL (se p) / 100 = so at *
      grind
theorem csh_eq {kd se : Nat → Nat} {cen p c : Nat} (hk : kd p = 2 ∨ kd p = 3) : shM kd se cen p c = csh kd se cen p c := by
  unfold shM csh
  rcases hk with h | h
  · rw [if_pos h, if_neg (by omega)]
  · rw [if_neg (by omega), if_pos h]
/-- a coupler's or ring's channel in the class, in one form for dark channels too -/
theorem cpB_at {kd se le : Nat → Nat} {cen p c : Nat} {co gi cr : Nat → Int64} {lk f g a b : Int64} (hf : co ((p * 2 + 0) * 8 + c) = f) (hg : co ((p * 2 + 1) * 8 + c) = g) (ha : f * iL (csh kd se cen p c) / 100 = a) (hb : g * iL (csh kd se cen p c) / 100 = b) :
    (cpB kd se le cen p c (co, gi, cr, lk)).1 = va_up (va_up co ((p * 2 + 0) * 8 + c) 0) ((p * 2 + 1) * 8 + c) 0
    ∧ (∀ k, (cpB kd se le cen p c (co, gi, cr, lk)).2.1 k = gvG (le (p * 2 + 1)) c (g - b + a) (gvG (le (p * 2 + 0)) c (f - a + b) gi) k)
    ∧ (∀ k, (cpB kd se le cen p c (co, gi, cr, lk)).2.2.1 k = if k = 8 * p + c then a + b else cr k)
    ∧ (cpB kd se le cen p c (co, gi, cr, lk)).2.2.2 = gvL (le (p * 2 + 1)) (g - b + a) (gvL (le (p * 2 + 0)) (f - a + b) lk) := by
  unfold cpB
  dsimp only
  rw [va_up_ne co 0 (show (p * 2 + 1) * 8 + c ≠ (p * 2 + 0) * 8 + c by omega), hf, hg, ha, hb]
  by_cases z : f = 0 ∧ g = 0
  · rw [if_pos z]
    have a0 : a = 0 := by rw [← ha, z.1]; exact i64_m0 _
    have b0 : b = 0 := by rw [← hb, z.2]; exact i64_m0 _
    obtain ⟨z1, z2⟩ := z
    subst z1 z2 a0 b0
    refine ⟨rfl, ?_, ?_, ?_⟩
    · intro k
      rw [gvG_at, gvG_at]
      show gi k = _
      split <;> split <;> grind
    · intro k
      by_cases e : k = 8 * p + c
      · subst e
        rw [if_pos rfl, show 8 * p + c = p * 8 + c by omega]
        show va_up cr (p * 8 + c) 0 (p * 8 + c) = 0 + 0
        rw [va_up_self]; decide
      · rw [if_neg e]
        exact va_up_ne cr 0 (by omega)
    · rw [gvL_at, gvL_at]
      show lk = _
      split <;> split <;> grind
  · rw [if_neg z]
    refine ⟨rfl, fun k => rfl, ?_, rfl⟩
    intro k
    by_cases e : k = 8 * p + c
    · subst e
      rw [if_pos rfl, show 8 * p + c = p * 8 + c by omega]
      exact va_up_self _ _ _
    · rw [if_neg e]
      show va_up (va_up cr (p * 8 + c) 0) (p * 8 + c) (a + b) k = cr k
      rw [va_up_ne _ _ (show k ≠ p * 8 + c by omega), va_up_ne _ _ (show k ≠ p * 8 + c by omega)]
