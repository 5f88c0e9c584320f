/-! The other kinds. -/
theorem mid_couple {n : Nat} {kd fi se le chn wa wm tkm ofm : Nat → Nat} {bb tk o p c : Nat} {cm : Nat → Int64} (F : Fx n kd fi se le chn) (hcen : cnt fi (fun j => wm (16 * bb + j)) (ofm bb) p = cnt fi wa o p) (hp : p < n) (hk : kd p = 2 ∨ kd p = 3) (hc : c < 8) {co gi un cr sn : Nat → Int64} {em lo lk de : Int64} {T : zM7} (h : Mid n kd fi chn bb tk cm p c (co, gi, un, cr, sn, em, lo, lk, de) T) :
    Mid n kd fi chn bb tk cm p (c + 1) ((cpB kd se le (cnt fi wa o p) p c (co, gi, cr, lk)).1, (cpB kd se le (cnt fi wa o p) p c (co, gi, cr, lk)).2.1, un, (cpB kd se le (cnt fi wa o p) p c (co, gi, cr, lk)).2.2.1, sn, em, lo, (cpB kd se le (cnt fi wa o p) p c (co, gi, cr, lk)).2.2.2, de) (wkM kd fi se le chn wm tkm ofm cm bb p c T) := by
  obtain ⟨tn, ov, sm, ins, em', gn, lk'⟩ := T
  obtain ⟨h1, h2, h3, h4, h5, h6, h7, h8⟩ := h
  obtain ⟨f1, f2, f3, f4, f5⟩ := F
  dsimp only at h1 h2 h3 h4 h5 h6 h7 h8
  have hp16 : p < 16 := by omega
  have hlt0 := le_bd f3 (p * 2 + 0) (by omega)
  have hlt1 := le_bd f3 (p * 2 + 1) (by omega)
  generalize hcn : cnt fi wa o p = cen at hcen
  obtain ⟨x1, x2, x3, x4⟩ := cpB_at (kd := kd) (se := se) (le := le) (cen := cen) (gi := gi) (cr := cr) (lk := lk) (h3.get0 hp16 hc) (h3.get1 hp16 hc) rfl rfl
  have hco0 := h3.get0 hp16 hc
  have hco1 := h3.get1 hp16 hc
  generalize hf : cm (256 * bb + 16 * p + c) = f at x1 x2 x3 x4 hco0
  generalize hg : cm (256 * bb + 16 * p + 8 + c) = g at x1 x2 x3 x4 hco1
  generalize ha : f * iL (csh kd se cen p c) / 100 = a at x1 x2 x3 x4
  generalize hb : g * iL (csh kd se cen p c) / 100 = b at x1 x2 x3 x4
  have hw : wkM kd fi se le chn wm tkm ofm cm bb p c (tn, ov, sm, ins, em', gn, lk') =
      (mvG (le (p * 2 + 1)) c (g - b) (mvG (le (p * 2 + 0)) c b (mvG (le (p * 2 + 0)) c (f - a) (mvG (le (p * 2 + 1)) c a tn))),
       va_up (va_up ov p (ov p + (if bb = 0 ∧ chn p = c + 1 then a else 0))) p (ov p + (if bb = 0 ∧ chn p = c + 1 then a else 0) + (if bb = 0 ∧ chn p = c + 1 then b else 0)), sm, ins, em', gn,
       mvL bb (le (p * 2 + 1)) (g - b) (mvL bb (le (p * 2 + 0)) b (mvL bb (le (p * 2 + 0)) (f - a) (mvL bb (le (p * 2 + 1)) a lk')))) := by
    unfold wkM
    rw [if_neg (show ¬ kd p = 0 by omega), if_neg (show ¬ kd p = 1 by omega), if_pos hk, hcen]
    have e : rp (shB kd se le chn cm bb cen p c) 2 (tn, lk', ov) = (mvG (le (p * 2 + 1)) c (g - b) (mvG (le (p * 2 + 0)) c b (mvG (le (p * 2 + 0)) c (f - a) (mvG (le (p * 2 + 1)) c a tn))), mvL bb (le (p * 2 + 1)) (g - b) (mvL bb (le (p * 2 + 0)) b (mvL bb (le (p * 2 + 0)) (f - a) (mvL bb (le (p * 2 + 1)) a lk'))), va_up (va_up ov p (ov p + (if bb = 0 ∧ chn p = c + 1 then a else 0))) p (ov p + (if bb = 0 ∧ chn p = c + 1 then a else 0) + (if bb = 0 ∧ chn p = c + 1 then b else 0))) := by
      show shB kd se le chn cm bb cen p c 1 (shB kd se le chn cm bb cen p c 0 (tn, lk', ov)) = _
      unfold shB
      dsimp only
      rw [csh_eq hk, show 256 * bb + 8 * (2 * p + 0) + c = 256 * bb + 16 * p + c by omega, show 256 * bb + 8 * (2 * p + 1) + c = 256 * bb + 16 * p + 8 + c by omega, hf, hg, ha, hb, show 2 * p + (1 - 0) = p * 2 + 1 by omega, show 2 * p + (1 - 1) = p * 2 + 0 by omega, va_up_self]
    rw [e]
  rw [hw]
  have hsum : ∀ k, (cpB kd se le cen p c (co, gi, cr, lk)).2.1 k = gvG (le (p * 2 + 1)) c (g - b + a) (gvG (le (p * 2 + 0)) c (f - a + b) gi) k := x2
  refine ⟨?_, h2, ?_, ?_, ?_, h6, h7, ?_⟩
  · intro j hj
    show (cpB kd se le cen p c (co, gi, cr, lk)).2.1 j = mvG (le (p * 2 + 1)) c (g - b) (mvG (le (p * 2 + 0)) c b (mvG (le (p * 2 + 0)) c (f - a) (mvG (le (p * 2 + 1)) c a tn))) (0 + j)
    rw [hsum, gvG_at, gvG_at, mvG_at, mvG_at, mvG_at, mvG_at, h1 j hj, Nat.zero_add]
    split <;> split <;> grind
  · show CoQ (256 * bb) p (c + 1) cm (cpB kd se le cen p c (co, gi, cr, lk)).1
    rw [x1]
    exact h3.take2 hp16 hc
  · exact h4.other (by omega)
  · intro t ht hi k hk'
    show (cpB kd se le cen p c (co, gi, cr, lk)).2.1 (0 + (8 * t + k)) = 0
    rw [hsum]
    exact (NzQ.gv f3 (show p * 2 + 1 < 32 by omega) hc (NzQ.gv f3 (show p * 2 + 0 < 32 by omega) hc h5)) t ht hi k hk'
  · intro hb0
    obtain ⟨⟨a1, a2, a3⟩, a4, a5, a6⟩ := h8 hb0
    dsimp only at a1 a2 a3 a4 a5 a6
    subst hb0
    refine ⟨⟨a1, a2, ?_⟩, ?_, ?_, a6⟩
    · show (cpB kd se le cen p c (co, gi, cr, lk)).2.2.2 = mvL 0 (le (p * 2 + 1)) (g - b) (mvL 0 (le (p * 2 + 0)) b (mvL 0 (le (p * 2 + 0)) (f - a) (mvL 0 (le (p * 2 + 1)) a lk')))
      rw [x4, gvL_at, gvL_at, mvL_0, mvL_0, mvL_0, mvL_0, a3]
      split <;> split <;> grind
    · refine a4.cp (a + b) hp16 hc (fun j hj => (f4 j hj).1) x3 ?_
      intro k
      dsimp only
      by_cases e : k = p
      · subst e
        rw [if_pos rfl, va_up_self]
        by_cases q : chn k = c + 1
        · rw [if_pos ⟨rfl, q⟩, if_pos ⟨rfl, q⟩, if_pos q]; grind
        · rw [if_neg (fun z => q z.2), if_neg (fun z => q z.2), if_neg q]; grind
      · rw [if_neg e, va_up_ne _ _ e, va_up_ne _ _ e]
    · show em - lo - (cpB kd se le cen p c (co, gi, cr, lk)).2.2.2 - de = sU ins 1024 + sU (cpB kd se le cen p c (co, gi, cr, lk)).2.1 256 + sU (cpB kd se le cen p c (co, gi, cr, lk)).1 256
      rw [x4, x1, sU_congr (f := (cpB kd se le cen p c (co, gi, cr, lk)).2.1) (fun i _ => hsum i)]
      have s1 := gv_sum (g - b + a) (gvG (le (p * 2 + 0)) c (f - a + b) gi) (gvL (le (p * 2 + 0)) (f - a + b) lk) hlt1 hc
      have s2 := gv_sum (f - a + b) gi lk hlt0 hc
      have s3 := sU_up (va_up co ((p * 2 + 0) * 8 + c) 0) (i := (p * 2 + 1) * 8 + c) (n := 256) 0 (by omega)
      have s4 := sU_up co (i := (p * 2 + 0) * 8 + c) (n := 256) 0 (by omega)
      rw [va_up_ne co 0 (show (p * 2 + 1) * 8 + c ≠ (p * 2 + 0) * 8 + c by omega), hco1] at s3
      rw [hco0] at s4
      grind
theorem mid_pass {n : Nat} {kd fi se le chn wm tkm ofm : Nat → Nat} {bb tk p c : Nat} {cm : Nat → Int64} (F : Fx n kd fi se le chn) (hz : NzQ n kd (256 * bb) cm) (htk : tkm bb = tk) (hp : p < n) (hk : kd p = 4) (hc : c < 8) {co gi un cr sn : Nat → Int64} {em lo lk de : Int64} {T : zM7} (h : Mid n kd fi chn bb tk cm p c (co, gi, un, cr, sn, em, lo, lk, de) T) :
    Mid n kd fi chn bb tk cm p (c + 1) ((psB le se tk p c (co, gi, lo, lk)).1, (psB le se tk p c (co, gi, lo, lk)).2.1, un, cr, sn, em, (psB le se tk p c (co, gi, lo, lk)).2.2.1, (psB le se tk p c (co, gi, lo, lk)).2.2.2, de) (wkM kd fi se le chn wm tkm ofm cm bb p c T) := by
  obtain ⟨tn, ov, sm, ins, em', gn, lk'⟩ := T
  obtain ⟨h1, h2, h3, h4, h5, h6, h7, h8⟩ := h
  obtain ⟨f1, f2, f3, f4, f5⟩ := F
  dsimp only at h1 h2 h3 h4 h5 h6 h7 h8
  have hp16 : p < 16 := by omega
  have hco := h3.get0 hp16 hc
  have hi1 : ¬ isIn n kd (2 * p + 1) := noIn 1 (by omega) hk (by decide)
  have hlt := le_bd f3 (p * 2 + 0) (by omega)
  have hch : chn p = 0 := by
    by_cases q : chn p = 0
    · exact q
    · have := (f4 p hp16).2 q; omega
  generalize hph : cm (256 * bb + 16 * p + c) = ph at hco
  by_cases hop : opn (se p) tk = 1
  · have hX : psB le se tk p c (co, gi, lo, lk) = (va_up co ((p * 2 + 0) * 8 + c) 0, gvG (le (p * 2 + 0)) c ph gi, lo, gvL (le (p * 2 + 0)) ph lk) := by
      unfold psB
      dsimp only
      rw [if_pos hop, if_pos hop, if_pos hop, hco]
    have hw : wkM kd fi se le chn wm tkm ofm cm bb p c (tn, ov, sm, ins, em', gn, lk') = (mvG (le (p * 2 + 0)) c ph tn, ov, sm, ins, em', gn, mvL bb (le (p * 2 + 0)) ph lk') := by
      unfold wkM
      rw [if_neg (show ¬ kd p = 0 by omega), if_neg (show ¬ kd p = 1 by omega), if_neg (show ¬ (kd p = 2 ∨ kd p = 3) by omega), if_neg (show ¬ kd p = 5 by omega), htk, if_pos hop, hph, show 2 * p + 0 = p * 2 + 0 by omega]
    rw [hX, hw]
    refine ⟨eqB_gv h1, h2, h3.take1 hz hi1 hp16 hc, h4.other (by omega), h5.gv f3 (by omega) hc, h6, h7, ?_⟩
    intro hb
    obtain ⟨⟨a1, a2, a3⟩, a4, a5, a6⟩ := h8 hb
    dsimp only at a1 a2 a3 a4 a5 a6
    subst hb
    refine ⟨⟨a1, a2, ?_⟩, a4.other hch, ?_, a6⟩
    · show gvL (le (p * 2 + 0)) ph lk = mvL 0 (le (p * 2 + 0)) ph lk'
      rw [gvL_at, mvL_0, a3]
    · show em - lo - gvL (le (p * 2 + 0)) ph lk - de = sU ins 1024 + sU (gvG (le (p * 2 + 0)) c ph gi) 256 + sU (va_up co ((p * 2 + 0) * 8 + c) 0) 256
      have s3 := gv_sum ph gi lk hlt hc
      have s4 := sU_up co (i := (p * 2 + 0) * 8 + c) (n := 256) 0 (by omega)
      rw [hco] at s4
      grind
  · have hX : psB le se tk p c (co, gi, lo, lk) = (va_up co ((p * 2 + 0) * 8 + c) 0, gi, lo + ph, lk) := by
      unfold psB
      dsimp only
      rw [if_neg hop, if_neg hop, if_neg hop, hco]
    have hw : wkM kd fi se le chn wm tkm ofm cm bb p c (tn, ov, sm, ins, em', gn, lk') = (tn, ov, sm, ins, em', mvO bb ph gn, lk') := by
      unfold wkM
      rw [if_neg (show ¬ kd p = 0 by omega), if_neg (show ¬ kd p = 1 by omega), if_neg (show ¬ (kd p = 2 ∨ kd p = 3) by omega), if_neg (show ¬ kd p = 5 by omega), htk, if_neg hop, hph]
    rw [hX, hw]
    refine ⟨h1, h2, h3.take1 hz hi1 hp16 hc, h4.other (by omega), h5, h6, h7, ?_⟩
    intro hb
    obtain ⟨⟨a1, a2, a3⟩, a4, a5, a6⟩ := h8 hb
    dsimp only at a1 a2 a3 a4 a5 a6
    subst hb
    refine ⟨⟨a1, ?_, a3⟩, a4.other hch, ?_, a6⟩
    · show lo + ph = mvO 0 ph gn
      rw [mvO_0, a2]
    · show em - (lo + ph) - lk - de = sU ins 1024 + sU gi 256 + sU (va_up co ((p * 2 + 0) * 8 + c) 0) 256
      have s4 := sU_up co (i := (p * 2 + 0) * 8 + c) (n := 256) 0 (by omega)
      rw [hco] at s4
      grind
theorem mid_detect {n : Nat} {kd fi se le chn wm tkm ofm : Nat → Nat} {bb tk p c : Nat} {cm : Nat → Int64} (F : Fx n kd fi se le chn) (hz : NzQ n kd (256 * bb) cm) (hp : p < n) (hk : kd p = 5) (hc : c < 8) {co gi un cr sn : Nat → Int64} {em lo lk de : Int64} {T : zM7} (h : Mid n kd fi chn bb tk cm p c (co, gi, un, cr, sn, em, lo, lk, de) T) :
    Mid n kd fi chn bb tk cm p (c + 1) ((dtB p c (co, sn, de)).1, gi, un, cr, (dtB p c (co, sn, de)).2.1, em, lo, lk, (dtB p c (co, sn, de)).2.2) (wkM kd fi se le chn wm tkm ofm cm bb p c T) := by
  obtain ⟨tn, ov, sm, ins, em', gn, lk'⟩ := T
  obtain ⟨h1, h2, h3, h4, h5, h6, h7, h8⟩ := h
  obtain ⟨f1, f2, f3, f4, f5⟩ := F
  dsimp only at h1 h2 h3 h4 h5 h6 h7 h8
  have hp16 : p < 16 := by omega
  have hco := h3.get0 hp16 hc
  have hi1 : ¬ isIn n kd (2 * p + 1) := noIn 1 (by omega) hk (by decide)
  have hch : chn p = 0 := by
    by_cases q : chn p = 0
    · exact q
    · have := (f4 p hp16).2 q; omega
  generalize hph : cm (256 * bb + 16 * p + c) = ph at hco
  have hX : dtB p c (co, sn, de) = (va_up co ((p * 2 + 0) * 8 + c) 0, va_up sn (p * 8 + c) (sn (p * 8 + c) + ph), de + ph) := by
    unfold dtB
    dsimp only
    rw [hco]
  have hw : wkM kd fi se le chn wm tkm ofm cm bb p c (tn, ov, sm, ins, em', gn, lk') = (tn, ov, va_up sm (128 * bb + 8 * p + c) (sm (128 * bb + 8 * p + c) + ph), ins, em', gn, lk') := by
    unfold wkM
    rw [if_neg (show ¬ kd p = 0 by omega), if_neg (show ¬ kd p = 1 by omega), if_neg (show ¬ (kd p = 2 ∨ kd p = 3) by omega), if_pos hk]
    dsimp only
    rw [hph]
  rw [hX, hw]
  have hs : sn (p * 8 + c) = sm (128 * bb + 8 * p + c) := h2.at (j := p * 8 + c) (k := 128 * bb + 8 * p + c) (by omega) (by omega)
  refine ⟨h1, h2.up (by omega) (by rw [hs]), h3.take1 hz hi1 hp16 hc, h4.other (by omega), h5, ?_, h7, ?_⟩
  · intro k hk1 hk2
    show va_up sn (p * 8 + c) (sn (p * 8 + c) + ph) k = 0
    rw [va_up_ne _ _ (show k ≠ p * 8 + c by omega)]
    exact h6 k hk1 hk2
  · intro hb
    obtain ⟨⟨a1, a2, a3⟩, a4, a5, a6⟩ := h8 hb
    dsimp only at a1 a2 a3 a4 a5 a6
    subst hb
    have s3 := sU_up sn (i := p * 8 + c) (n := 128) (sn (p * 8 + c) + ph) (by omega)
    have s4 := sU_up co (i := (p * 2 + 0) * 8 + c) (n := 256) 0 (by omega)
    rw [hco] at s4
    refine ⟨⟨a1, a2, a3⟩, a4.other hch, ?_, ?_⟩
    · show em - lo - lk - (de + ph) = sU ins 1024 + sU gi 256 + sU (va_up co ((p * 2 + 0) * 8 + c) 0) 256
      grind
    · show de + ph = sU (va_up sn (p * 8 + c) (sn (p * 8 + c) + ph)) 128
      grind
/-- a laser's channels one by one: its own one alone does anything -/
def lsB (le se fi : Nat → Nat) (p ch : Nat) (S : (Nat → Int64) × Int64 × Int64) : (Nat → Int64) × Int64 × Int64 :=
  if ch = fi p then (gvG (le (p * 2 + 0)) (fi p) (iL (se p)) S.1, S.2.1 + iL (se p), gvL (le (p * 2 + 0)) (iL (se p)) S.2.2) else S
theorem lsB_rp {le se fi : Nat → Nat} {p : Nat} {S : (Nat → Int64) × Int64 × Int64} : ∀ k, rp (lsB le se fi p) k S = if fi p < k then (gvG (le (p * 2 + 0)) (fi p) (iL (se p)) S.1, S.2.1 + iL (se p), gvL (le (p * 2 + 0)) (iL (se p)) S.2.2) else S := by
  intro k
  induction k with
  | zero => rw [if_neg (by omega)]; rfl
  | succ k ih =>
    rw [rp_s, ih]
    unfold lsB
    by_cases e : k = fi p
    · rw [if_pos e, if_neg (show ¬ fi p < k by omega), if_pos (show fi p < k + 1 by omega)]
    · rw [if_neg e]
      by_cases q : fi p < k
      · rw [if_pos q, if_pos (show fi p < k + 1 by omega)]
      · rw [if_neg q, if_neg (show ¬ fi p < k + 1 by omega)]
theorem mid_laser {n : Nat} {kd fi se le chn wm tkm ofm : Nat → Nat} {bb tk p c : Nat} {cm : Nat → Int64} (F : Fx n kd fi se le chn) (hz : NzQ n kd (256 * bb) cm) (hp : p < n) (hk : kd p = 0) (hc : c < 8) {co gi un cr sn : Nat → Int64} {em lo lk de : Int64} {T : zM7} (h : Mid n kd fi chn bb tk cm p c (co, gi, un, cr, sn, em, lo, lk, de) T) :
    Mid n kd fi chn bb tk cm p (c + 1) (co, (lsB le se fi p c (gi, em, lk)).1, un, cr, sn, (lsB le se fi p c (gi, em, lk)).2.1, lo, (lsB le se fi p c (gi, em, lk)).2.2, de) (wkM kd fi se le chn wm tkm ofm cm bb p c T) := by
  obtain ⟨tn, ov, sm, ins, em', gn, lk'⟩ := T
  obtain ⟨h1, h2, h3, h4, h5, h6, h7, h8⟩ := h
  obtain ⟨f1, f2, f3, f4, f5⟩ := F
  dsimp only at h1 h2 h3 h4 h5 h6 h7 h8
  have hp16 : p < 16 := by omega
  have hi0 : ¬ isIn n kd (2 * p) := noIn 0 (by omega) hk (by decide)
  have hi1 : ¬ isIn n kd (2 * p + 1) := noIn 1 (by omega) hk (by decide)
  have hlt := le_bd f3 (p * 2 + 0) (by omega)
  have hch : chn p = 0 := by
    by_cases q : chn p = 0
    · exact q
    · have := (f4 p hp16).2 q; omega
  by_cases e : c = fi p
  · have hX : lsB le se fi p c (gi, em, lk) = (gvG (le (p * 2 + 0)) c (iL (se p)) gi, em + iL (se p), gvL (le (p * 2 + 0)) (iL (se p)) lk) := by
      unfold lsB
      rw [if_pos e, ← e]
    have hw : wkM kd fi se le chn wm tkm ofm cm bb p c (tn, ov, sm, ins, em', gn, lk') = (mvG (le (p * 2 + 0)) c (iL (se p)) tn, ov, sm, ins, em' + (if bb = 0 then iL (se p) else 0), gn, mvL bb (le (p * 2 + 0)) (iL (se p)) lk') := by
      unfold wkM
      rw [if_pos hk]
      dsimp only
      rw [if_pos e, show 2 * p + 0 = p * 2 + 0 by omega]
    rw [hX, hw]
    refine ⟨eqB_gv h1, h2, h3.take0 hz hi0 hi1 hp16 hc, h4.other (by omega), h5.gv f3 (by omega) hc, h6, h7, ?_⟩
    intro hb
    obtain ⟨⟨a1, a2, a3⟩, a4, a5, a6⟩ := h8 hb
    dsimp only at a1 a2 a3 a4 a5 a6
    subst hb
    refine ⟨⟨?_, a2, ?_⟩, a4.other hch, ?_, a6⟩
    · show em + iL (se p) = em' + (if 0 = 0 then iL (se p) else 0)
      rw [if_pos rfl, a1]
    · show gvL (le (p * 2 + 0)) (iL (se p)) lk = mvL 0 (le (p * 2 + 0)) (iL (se p)) lk'
      rw [gvL_at, mvL_0, a3]
    · show em + iL (se p) - lo - gvL (le (p * 2 + 0)) (iL (se p)) lk - de = sU ins 1024 + sU (gvG (le (p * 2 + 0)) c (iL (se p)) gi) 256 + sU co 256
      have s3 := gv_sum (iL (se p)) gi lk hlt hc
      grind
  · have hX : lsB le se fi p c (gi, em, lk) = (gi, em, lk) := by
      unfold lsB
      rw [if_neg e]
    have hw : wkM kd fi se le chn wm tkm ofm cm bb p c (tn, ov, sm, ins, em', gn, lk') = (mvG (le (p * 2 + 0)) c 0 tn, ov, sm, ins, em' + (if bb = 0 then 0 else 0), gn, mvL bb (le (p * 2 + 0)) 0 lk') := by
      unfold wkM
      rw [if_pos hk]
      dsimp only
      rw [if_neg e, show 2 * p + 0 = p * 2 + 0 by omega]
    rw [hX, hw]
    refine ⟨eqB_mv0 h1, h2, h3.take0 hz hi0 hi1 hp16 hc, h4.other (by omega), h5, h6, h7, ?_⟩
    intro hb
    obtain ⟨⟨a1, a2, a3⟩, a4, a5, a6⟩ := h8 hb
    dsimp only at a1 a2 a3 a4 a5 a6
    subst hb
    refine ⟨⟨?_, a2, ?_⟩, a4.other hch, a5, a6⟩
    · show em = em' + (if 0 = 0 then 0 else 0)
      rw [if_pos rfl, i64_a0, a1]
    · show lk = mvL 0 (le (p * 2 + 0)) 0 lk'
      rw [mvL_0, a3]
      split <;> grind
