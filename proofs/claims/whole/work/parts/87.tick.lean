/-! A part, all parts, a tick. -/
theorem mid_next {n : Nat} {kd fi se le chn : Nat → Nat} {bb tk p : Nat} {cm : Nat → Int64} {S : zLS} {T : zM7} (F : Fx n kd fi se le chn) (h : Mid n kd fi chn bb tk cm p 8 S T) :
    Mid n kd fi chn bb tk cm (p + 1) 0 S (T.1, va_up T.2.1 (p + 1) (if bb = 0 then 0 else T.2.1 (p + 1)), T.2.2.1, T.2.2.2.1, T.2.2.2.2.1, T.2.2.2.2.2.1, T.2.2.2.2.2.2) := by
  obtain ⟨h1, h2, h3, h4, h5, h6, h7, h8⟩ := h
  refine ⟨h1, h2, h3.next, h4.next, h5, h6, h7, ?_⟩
  intro hb
  obtain ⟨a, a4, a5, a6⟩ := h8 hb
  refine ⟨a, ?_, a5, a6⟩
  show OvQ chn (p + 1) 0 S.2.2.2.1 (va_up T.2.1 (p + 1) (if bb = 0 then 0 else T.2.1 (p + 1)))
  rw [if_pos hb]
  exact a4.next (fun j hj => (F.2.2.2.1 j hj).1)
theorem mid_part {n : Nat} {kd fi se le chn wa wm tkm ofm : Nat → Nat} {bb tk o p : Nat} {cm : Nat → Int64} {S : zLS} {T : zM7} (F : Fx n kd fi se le chn) (hz : NzQ n kd (256 * bb) cm) (htk : tkm bb = tk) (hcen : ∀ q, q < n → cnt fi (fun j => wm (16 * bb + j)) (ofm bb) q = cnt fi wa o q) (hp : p < n)
    (h : Mid n kd fi chn bb tk cm p 0 S (T.1, va_up T.2.1 p (if bb = 0 then 0 else T.2.1 p), T.2.2.1, T.2.2.2.1, T.2.2.2.2.1, T.2.2.2.2.2.1, T.2.2.2.2.2.2)) :
    Mid n kd fi chn bb tk cm p 8 (wkS kd fi se le wa o tk p S) (paM kd fi se le chn wm tkm ofm cm bb p T) := by
  obtain ⟨co, gi, un, cr, sn, em, lo, lk, de⟩ := S
  have hok := F.2.1 p hp
  have hk5 := hok.1
  unfold wkS paM
  dsimp only
  by_cases k0 : kd p = 0
  · rw [if_pos k0]
    have key := rp_sim (lsB le se fi p) (wkM kd fi se le chn wm tkm ofm cm bb p) (fun c X Y => Mid n kd fi chn bb tk cm p c (co, X.1, un, cr, sn, X.2.1, lo, X.2.2, de) Y) (n := 8) (a := (gi, em, lk)) h (fun c hc x y e => mid_laser F hz hp k0 hc e)
    rw [lsB_rp, if_pos (hok.2.2.2.1 k0)] at key
    exact key
  · rw [if_neg k0]
    by_cases k1 : kd p = 1
    · rw [if_pos k1]
      exact rp_sim (gdB le se fi tk p) (wkM kd fi se le chn wm tkm ofm cm bb p) (fun c X Y => Mid n kd fi chn bb tk cm p c (X.1, X.2.1, X.2.2.1, cr, sn, em, X.2.2.2.1, X.2.2.2.2, de) Y) (n := 8) (a := (co, gi, un, lo, lk)) h (fun c hc x y e => mid_guide F hz htk hp k1 hc e)
    · rw [if_neg k1]
      by_cases k2 : kd p = 2 ∨ kd p = 3
      · rw [if_pos k2]
        exact rp_sim (cpB kd se le (cnt fi wa o p) p) (wkM kd fi se le chn wm tkm ofm cm bb p) (fun c X Y => Mid n kd fi chn bb tk cm p c (X.1, X.2.1, un, X.2.2.1, sn, em, lo, X.2.2.2, de) Y) (n := 8) (a := (co, gi, cr, lk)) h (fun c hc x y e => mid_couple F (hcen p hp) hp k2 hc e)
      · rw [if_neg k2]
        by_cases k4 : kd p = 4
        · rw [if_pos k4]
          exact rp_sim (psB le se tk p) (wkM kd fi se le chn wm tkm ofm cm bb p) (fun c X Y => Mid n kd fi chn bb tk cm p c (X.1, X.2.1, un, cr, sn, em, X.2.2.1, X.2.2.2, de) Y) (n := 8) (a := (co, gi, lo, lk)) h (fun c hc x y e => mid_pass F hz htk hp k4 hc e)
        · rw [if_neg k4]
          exact rp_sim (dtB p) (wkM kd fi se le chn wm tkm ofm cm bb p) (fun c X Y => Mid n kd fi chn bb tk cm p c (X.1, gi, un, cr, X.2.1, em, lo, lk, X.2.2) Y) (n := 8) (a := (co, sn, de)) h (fun c hc x y e => mid_detect F hz hp (by omega) hc e)
/-- what holds between ticks: class light S, and the reference's half bb -/
abbrev TR (n : Nat) (kd fi : Nat → Nat) (bb tk : Nat) (S : zLS) (cm : Nat → Int64) (T : zM7) : Prop :=
  EqB S.1 cm (256 * bb) 256 ∧ (∀ j, j < 256 → S.2.1 j = 0) ∧ EqB S.2.2.2.2.1 T.2.2.1 (128 * bb) 128 ∧ DlQ kd fi (1024 * bb) tk 0 0 S.2.2.1 T.2.2.2.1 ∧ NzQ n kd 0 S.1 ∧ SnQ n S.2.2.2.2.1 ∧ UnQ kd S.2.2.1 ∧
  (bb = 0 → (S.2.2.2.2.2.1 = T.2.2.2.2.1 ∧ S.2.2.2.2.2.2.1 = T.2.2.2.2.2.1 ∧ S.2.2.2.2.2.2.2.1 = T.2.2.2.2.2.2) ∧ (S.2.2.2.2.2.1 - S.2.2.2.2.2.2.1 - S.2.2.2.2.2.2.2.1 - S.2.2.2.2.2.2.2.2 = sU T.2.2.2.1 1024 + sU S.1 256) ∧ S.2.2.2.2.2.2.2.2 = sU S.2.2.2.2.1 128)
theorem TR.cm0 {n : Nat} {kd fi : Nat → Nat} {bb tk : Nat} {S : zLS} {cm : Nat → Int64} {T : zM7} (h : TR n kd fi bb tk S cm T) : NzQ n kd (256 * bb) cm := by
  intro t ht hi c hc
  rw [← h.1 (8 * t + c) (by omega)]
  have := h.2.2.2.2.1 t ht hi c hc
  rw [Nat.zero_add] at this
  exact this
theorem tr_tick {n : Nat} {kd fi se le chn wa wm tkm ofm : Nat → Nat} {bb tk o : Nat} {cm : Nat → Int64} {S : zLS} {T : zM7} (F : Fx n kd fi se le chn) (htk : tkm bb = tk) (hcen : ∀ q, q < n → cnt fi (fun j => wm (16 * bb + j)) (ofm bb) q = cnt fi wa o q) (h : TR n kd fi bb tk S cm T) :
    TR n kd fi bb (tk + 1) (tkS n kd fi se le wa o tk S) (cpF cm (goX n kd fi se le chn wm tkm ofm cm bb T).1 bb 256) (goX n kd fi se le chn wm tkm ofm cm bb T)
    ∧ (bb = 0 → ∀ q, q < n → ¬ chn q = 0 → (goX n kd fi se le chn wm tkm ofm cm bb T).2.1 q = (tkS n kd fi se le wa o tk S).2.2.2.1 (q * 8 + (chn q - 1))) := by
  have hz := h.cm0
  obtain ⟨h1, h2, h3, h4, h5, h6, h7, h8⟩ := h
  have hn := F.1
  have h0 : Mid n kd fi chn bb tk cm 0 0 S (fun _ => 0, va_up T.2.1 0 (if bb = 0 then 0 else T.2.1 0), T.2.2.1, T.2.2.2.1, T.2.2.2.2.1, T.2.2.2.2.2.1, T.2.2.2.2.2.2) := by
    refine ⟨fun j hj => h2 j hj, h3, ?_, h4, ?_, h6, h7, ?_⟩
    · intro k hk
      rw [if_neg (by omega)]
      exact h1 k hk
    · intro t ht hi c hc
      exact h2 _ (by omega)
    · intro hb
      obtain ⟨a, a5, a6⟩ := h8 hb
      refine ⟨a, ?_, ?_, a6⟩
      · intro q hq hq16
        have : q = 0 := by omega
        subst this
        show va_up T.2.1 0 (if bb = 0 then 0 else T.2.1 0) 0 = _
        rw [va_up_self, if_pos hb, if_neg (by omega)]
      · rw [sU_zero (f := S.2.1) h2, a5]; grind
  have key := rp_sim (wkS kd fi se le wa o tk) (paM kd fi se le chn wm tkm ofm cm bb) (fun p X Y => Mid n kd fi chn bb tk cm p 0 X (Y.1, va_up Y.2.1 p (if bb = 0 then 0 else Y.2.1 p), Y.2.2.1, Y.2.2.2.1, Y.2.2.2.2.1, Y.2.2.2.2.2.1, Y.2.2.2.2.2.2)) (n := n) (a := S) (b := (fun _ => 0, T.2.1, T.2.2.1, T.2.2.2.1, T.2.2.2.2.1, T.2.2.2.2.2.1, T.2.2.2.2.2.2)) h0
    (fun p hp x y e => mid_next F (mid_part F hz htk hcen hp e))
  unfold tkS goX
  generalize rp (wkS kd fi se le wa o tk) n S = X at key
  generalize rp (paM kd fi se le chn wm tkm ofm cm bb) n (fun _ => 0, T.2.1, T.2.2.1, T.2.2.2.1, T.2.2.2.2.1, T.2.2.2.2.2.1, T.2.2.2.2.2.2) = Y at key
  obtain ⟨co, gi, un, cr, sn, em, lo, lk, de⟩ := X
  obtain ⟨tn, ov, sm, ins, em', gn, lk'⟩ := Y
  obtain ⟨m1, m2, m3, m4, m5, m6, m7, m8⟩ := key
  dsimp only at m1 m2 m3 m4 m5 m6 m7 m8 ⊢
  have hco : ∀ j, j < 256 → co j = 0 := by
    intro j hj
    rw [m3 j hj]
    by_cases q : j < 16 * n ∨ (j < 16 * n + 16 ∧ j % 8 < 0)
    · rw [if_pos q]
    · rw [if_neg q]
      have := hz (j / 8) (by omega) (by unfold isIn; omega) (j % 8) (by omega)
      rw [show 256 * bb + (8 * (j / 8) + j % 8) = 256 * bb + j by omega] at this
      exact this
  refine ⟨⟨?_, hco, m2, m4.tick (fun q hq hq16 => by rw [F.2.2.2.2 q hq hq16]; decide), m5, m6, m7, ?_⟩, ?_⟩
  · intro j hj
    show gi j = cpF cm tn bb 256 (256 * bb + j)
    unfold cpF
    rw [if_pos (by omega), m1 j hj, Nat.zero_add, show 256 * bb + j - 256 * bb = j by omega]
  · intro hb
    obtain ⟨a, a4, a5, a6⟩ := m8 hb
    dsimp only at a a5 a6 ⊢
    refine ⟨a, ?_, a6⟩
    rw [a5, sU_zero (f := co) hco]; grind
  · intro hb q hq hc
    obtain ⟨a, a4, a5, a6⟩ := m8 hb
    have := a4 q (by omega) (by omega)
    dsimp only at this
    rw [va_up_ne _ _ (show q ≠ n by omega), if_pos ⟨hc, Or.inl hq⟩, show 8 * q + (chn q - 1) = q * 8 + (chn q - 1) by omega] at this
    exact this
