/-! The pieces of the relation within a tick, and how each goes on. -/
def isIn (n : Nat) (kd : Nat → Nat) (t : Nat) : Prop := t / 2 < n ∧ t % 2 < stV 0 (kd (t / 2))
def NzQ (n : Nat) (kd : Nat → Nat) (b : Nat) (f : Nat → Int64) : Prop := ∀ t, t < 32 → ¬ isIn n kd t → ∀ c, c < 8 → f (b + (8 * t + c)) = 0
def LeQ (n : Nat) (kd le : Nat → Nat) : Prop := ∀ t, t < 32 → le t = 0 ∨ (le t ≤ 32 ∧ isIn n kd (le t - 1))
def tau (tk p c q ch : Nat) : Nat := if q < p ∨ (q = p ∧ ch < c) then tk + 1 else tk
def CoQ (b p c : Nat) (cm co : Nat → Int64) : Prop := ∀ k, k < 256 → co k = if k < 16 * p ∨ (k < 16 * p + 16 ∧ k % 8 < c) then 0 else cm (b + k)
def DlQ (kd fi : Nat → Nat) (b tk p c : Nat) (un ins : Nat → Int64) : Prop := ∀ q ch s, q < 16 → ch < 8 → s < 8 → ins (b + 64 * q + 8 * s + ch) = if kd q = 1 ∧ (s + 8 - tau tk p c q ch % 8) % 8 < fi q - 1 then un (64 * q + 8 * ((s + 8 - (fi q - 1)) % 8) + ch) else 0
def OvQ (chn : Nat → Nat) (p c : Nat) (cr ov : Nat → Int64) : Prop := ∀ q, q ≤ p → q < 16 → ov q = if ¬ chn q = 0 ∧ (q < p ∨ chn q - 1 < c) then cr (8 * q + (chn q - 1)) else 0
def UnQ (kd : Nat → Nat) (un : Nat → Int64) : Prop := ∀ q, q < 16 → ¬ kd q = 1 → ∀ k, k < 64 → un (64 * q + k) = 0
def SnQ (n : Nat) (sn : Nat → Int64) : Prop := ∀ k, 8 * n ≤ k → k < 128 → sn k = 0
theorem le_bd {n : Nat} {kd le : Nat → Nat} (h : LeQ n kd le) : ∀ t, t < 32 → le t ≤ 32 := by
  intro t ht
  rcases h t ht with q | q
  · omega
  · exact q.1
theorem NzQ.gv {n : Nat} {kd le : Nat → Nat} {gi : Nat → Int64} {t ch : Nat} {ph : Int64} (hL : LeQ n kd le) (ht : t < 32) (hc : ch < 8) (h : NzQ n kd 0 gi) : NzQ n kd 0 (gvG (le t) ch ph gi) := by
  intro t' ht' hi c hc'
  rw [gvG_at, h t' ht' hi c hc', if_neg]
  · rfl
  · intro q
    rcases hL t ht with r | r
    · exact q.1 r
    · refine hi ?_
      rw [show t' = le t - 1 by omega]
      exact r.2
theorem eqB_gv {gi tn : Nat → Int64} {L ch : Nat} {ph : Int64} (h : EqB gi tn 0 256) : EqB (gvG L ch ph gi) (mvG L ch ph tn) 0 256 := by
  intro j hj
  rw [gvG_at, mvG_at, h j hj, Nat.zero_add]
theorem eqB_mv0 {gi tn : Nat → Int64} {L ch : Nat} (h : EqB gi tn 0 256) : EqB gi (mvG L ch 0 tn) 0 256 := by
  intro j hj
  rw [mvG_at, h j hj, Nat.zero_add]
  split <;> rw [i64_a0]
/-! coming -/
theorem CoQ.get0 {b p c : Nat} {cm co : Nat → Int64} (h : CoQ b p c cm co) (hp : p < 16) (hc : c < 8) : co ((p * 2 + 0) * 8 + c) = cm (b + 16 * p + c) := by
  rw [h _ (by omega), if_neg (by omega), show b + ((p * 2 + 0) * 8 + c) = b + 16 * p + c by omega]
theorem CoQ.get1 {b p c : Nat} {cm co : Nat → Int64} (h : CoQ b p c cm co) (hp : p < 16) (hc : c < 8) : co ((p * 2 + 1) * 8 + c) = cm (b + 16 * p + 8 + c) := by
  rw [h _ (by omega), if_neg (by omega), show b + ((p * 2 + 1) * 8 + c) = b + 16 * p + 8 + c by omega]
theorem CoQ.take2 {b p c : Nat} {cm co : Nat → Int64} (h : CoQ b p c cm co) (hp : p < 16) (hc : c < 8) : CoQ b p (c + 1) cm (va_up (va_up co ((p * 2 + 0) * 8 + c) 0) ((p * 2 + 1) * 8 + c) 0) := by
  intro k hk
  by_cases h1 : k = (p * 2 + 1) * 8 + c
  · subst h1
    rw [va_up_self, if_pos (by omega)]
  · rw [va_up_ne _ _ h1]
    by_cases h0 : k = (p * 2 + 0) * 8 + c
    · subst h0
      rw [va_up_self, if_pos (by omega)]
    · rw [va_up_ne _ _ h0, h k hk]
      by_cases q : k < 16 * p ∨ (k < 16 * p + 16 ∧ k % 8 < c)
      · rw [if_pos q, if_pos (by omega)]
      · rw [if_neg q, if_neg (by omega)]
theorem CoQ.take1 {n : Nat} {kd : Nat → Nat} {b p c : Nat} {cm co : Nat → Int64} (h : CoQ b p c cm co) (hz : NzQ n kd b cm) (hi : ¬ isIn n kd (2 * p + 1)) (hp : p < 16) (hc : c < 8) : CoQ b p (c + 1) cm (va_up co ((p * 2 + 0) * 8 + c) 0) := by
  intro k hk
  by_cases h0 : k = (p * 2 + 0) * 8 + c
  · subst h0
    rw [va_up_self, if_pos (by omega)]
  · rw [va_up_ne _ _ h0, h k hk]
    by_cases q : k < 16 * p ∨ (k < 16 * p + 16 ∧ k % 8 < c)
    · rw [if_pos q, if_pos (by omega)]
    · rw [if_neg q]
      by_cases r : k < 16 * p ∨ (k < 16 * p + 16 ∧ k % 8 < c + 1)
      · rw [if_pos r]
        have := hz (2 * p + 1) (by omega) hi c hc
        rw [show b + k = b + (8 * (2 * p + 1) + c) by omega]
        exact this
      · rw [if_neg r]
theorem CoQ.take0 {n : Nat} {kd : Nat → Nat} {b p c : Nat} {cm co : Nat → Int64} (h : CoQ b p c cm co) (hz : NzQ n kd b cm) (hj : ¬ isIn n kd (2 * p)) (hi : ¬ isIn n kd (2 * p + 1)) (hp : p < 16) (hc : c < 8) : CoQ b p (c + 1) cm co := by
  intro k hk
  rw [h k hk]
  by_cases q : k < 16 * p ∨ (k < 16 * p + 16 ∧ k % 8 < c)
  · rw [if_pos q, if_pos (by omega)]
  · rw [if_neg q]
    by_cases r : k < 16 * p ∨ (k < 16 * p + 16 ∧ k % 8 < c + 1)
    · rw [if_pos r]
      by_cases r1 : k = 16 * p + c
      · have := hz (2 * p) (by omega) hj c hc
        rw [show b + k = b + (8 * (2 * p) + c) by omega]
        exact this
      · have := hz (2 * p + 1) (by omega) hi c hc
        rw [show b + k = b + (8 * (2 * p + 1) + c) by omega]
        exact this
    · rw [if_neg r]
theorem CoQ.next {b p : Nat} {cm co : Nat → Int64} (h : CoQ b p 8 cm co) : CoQ b (p + 1) 0 cm co := by
  intro k hk
  rw [h k hk]
  by_cases q : k < 16 * p ∨ (k < 16 * p + 16 ∧ k % 8 < 8)
  · rw [if_pos q, if_pos (by omega)]
  · rw [if_neg q, if_neg (by omega)]
/-! the guides' delay -/
theorem tau_n (tk p q ch : Nat) (h : ch < 8) : tau tk p 8 q ch = tau tk (p + 1) 0 q ch := by
  unfold tau
  by_cases q1 : q < p ∨ (q = p ∧ ch < 8)
  · rw [if_pos q1, if_pos (by omega)]
  · rw [if_neg q1, if_neg (by omega)]
theorem tau_o (tk p c q ch : Nat) (h : ¬ (q = p ∧ ch = c)) : tau tk p c q ch = tau tk p (c + 1) q ch := by
  unfold tau
  by_cases q1 : q < p ∨ (q = p ∧ ch < c)
  · rw [if_pos q1, if_pos (by omega)]
  · rw [if_neg q1, if_neg (by omega)]
theorem DlQ.next {kd fi : Nat → Nat} {b tk p : Nat} {un ins : Nat → Int64} (h : DlQ kd fi b tk p 8 un ins) : DlQ kd fi b tk (p + 1) 0 un ins := by
  intro q ch s hq hc hs
  rw [h q ch s hq hc hs, tau_n tk p q ch hc]
theorem DlQ.other {kd fi : Nat → Nat} {b tk p c : Nat} {un ins : Nat → Int64} (h : DlQ kd fi b tk p c un ins) (hk : ¬ kd p = 1) : DlQ kd fi b tk p (c + 1) un ins := by
  intro q ch s hq hc hs
  rw [h q ch s hq hc hs]
  by_cases e : q = p
  · subst e
    rw [if_neg (fun z => hk z.1), if_neg (fun z => hk z.1)]
  · rw [tau_o tk p c q ch (fun z => e z.1)]
theorem DlQ.tick {kd fi : Nat → Nat} {b tk n : Nat} {un ins : Nat → Int64} (h : DlQ kd fi b tk n 0 un ins) (hn : ∀ q, n ≤ q → q < 16 → ¬ kd q = 1) : DlQ kd fi b (tk + 1) 0 0 un ins := by
  intro q ch s hq hc hs
  rw [h q ch s hq hc hs]
  by_cases e : kd q = 1
  · have hqn : q < n := by
      rcases Nat.lt_or_ge q n with z | z
      · exact z
      · exact absurd e (hn q z hq)
    rw [show tau tk n 0 q ch = tk + 1 from if_pos (Or.inl hqn), show tau (tk + 1) 0 0 q ch = tk + 1 from if_neg (by omega)]
  · rw [if_neg (fun z => e z.1), if_neg (fun z => e z.1)]
/-- where a guide's photons of this tick come to lie, and those that are given now -/
theorem DlQ.late {kd fi : Nat → Nat} {b tk p c : Nat} {un ins : Nat → Int64} (h : DlQ kd fi b tk p c un ins) (hf : 1 ≤ fi p ∧ fi p ≤ 8) (hp : p < 16) (hc : c < 8) : ins (b + 64 * p + 8 * ((tk + fi p - 1) % 8) + c) = 0 := by
  rw [h p c ((tk + fi p - 1) % 8) hp hc (by omega), show tau tk p c p c = tk from if_neg (by omega), if_neg]
  intro z
  omega
theorem DlQ.guide {kd fi : Nat → Nat} {b tk p c : Nat} {un ins : Nat → Int64} (w : Int64) (h : DlQ kd fi b tk p c un ins) (hk : kd p = 1) (hf : 1 ≤ fi p ∧ fi p ≤ 8) (hp : p < 16) (hc : c < 8) :
    va_up ins (b + 64 * p + 8 * ((tk + fi p - 1) % 8) + c) (0 + w) (b + 64 * p + 8 * (tk % 8) + c) = va_up un (((p * 8 + (tk + 8) % 8) * 8) + c) w (((p * 8 + (tk + 8 - (fi p - 1)) % 8) * 8) + c)
    ∧ DlQ kd fi b tk p (c + 1) (va_up un (((p * 8 + (tk + 8) % 8) * 8) + c) w) (va_up (va_up ins (b + 64 * p + 8 * ((tk + fi p - 1) % 8) + c) (0 + w)) (b + 64 * p + 8 * (tk % 8) + c) 0) := by
  have hw : (0 : Int64) + w = w := by grind
  rw [hw]
  constructor
  · by_cases e : fi p = 1
    · rw [show b + 64 * p + 8 * ((tk + fi p - 1) % 8) + c = b + 64 * p + 8 * (tk % 8) + c by rw [e]; omega, va_up_self, show ((p * 8 + (tk + 8 - (fi p - 1)) % 8) * 8) + c = ((p * 8 + (tk + 8) % 8) * 8) + c by rw [e]; omega, va_up_self]
    · rw [va_up_ne _ _ (by omega), va_up_ne _ _ (by omega), h p c (tk % 8) hp hc (by omega), show tau tk p c p c = tk from if_neg (by omega), if_pos ⟨hk, by omega⟩]
      congr 1
      omega
  · intro q ch s hq hch hs
    by_cases e : q = p ∧ ch = c
    · obtain ⟨e1, e2⟩ := e
      subst e1 e2
      rw [show tau tk q (ch + 1) q ch = tk + 1 from if_pos (by omega)]
      by_cases s0 : s = tk % 8
      · subst s0
        rw [va_up_self, if_neg (by omega)]
      · rw [va_up_ne _ _ (by omega)]
        by_cases s1 : s = (tk + fi q - 1) % 8
        · subst s1
          rw [va_up_self, if_pos ⟨hk, by omega⟩, show 64 * q + 8 * (((tk + fi q - 1) % 8 + 8 - (fi q - 1)) % 8) + ch = ((q * 8 + (tk + 8) % 8) * 8) + ch by omega, va_up_self]
        · rw [va_up_ne _ _ (by omega), h q ch s hq hch hs, show tau tk q ch q ch = tk from if_neg (by omega)]
          by_cases z : kd q = 1 ∧ (s + 8 - tk % 8) % 8 < fi q - 1
          · rw [if_pos z, if_pos ⟨hk, by omega⟩, va_up_ne _ _ (by omega)]
          · rw [if_neg z, if_neg (by omega)]
    · rw [va_up_ne _ _ (by omega), va_up_ne _ _ (by omega), h q ch s hq hch hs, ← tau_o tk p c q ch e]
      by_cases z : kd q = 1 ∧ (s + 8 - tau tk p c q ch % 8) % 8 < fi q - 1
      · rw [if_pos z, if_pos z, va_up_ne _ _ (by omega)]
      · rw [if_neg z, if_neg z]
/-! what was given over -/
theorem OvQ.other {chn : Nat → Nat} {p c : Nat} {cr ov : Nat → Int64} (h : OvQ chn p c cr ov) (hk : chn p = 0) : OvQ chn p (c + 1) cr ov := by
  intro q hq hq16
  rw [h q hq hq16]
  by_cases e : ¬ chn q = 0 ∧ (q < p ∨ chn q - 1 < c)
  · rw [if_pos e, if_pos (by omega)]
  · rw [if_neg e, if_neg]
    intro z
    by_cases r : q = p
    · subst r; exact z.1 hk
    · exact e ⟨z.1, Or.inl (by omega)⟩
theorem OvQ.next {chn : Nat → Nat} {p : Nat} {cr ov : Nat → Int64} (h : OvQ chn p 8 cr ov) (hq8 : ∀ j, j < 16 → chn j ≤ 8) : OvQ chn (p + 1) 0 cr (va_up ov (p + 1) 0) := by
  intro q hq hq16
  by_cases e : q = p + 1
  · subst e
    rw [va_up_self, if_neg (by omega)]
  · rw [va_up_ne _ _ e, h q (by omega) hq16]
    have := hq8 q hq16
    by_cases z : ¬ chn q = 0 ∧ (q < p ∨ chn q - 1 < 8)
    · rw [if_pos z, if_pos ⟨z.1, by omega⟩]
    · rw [if_neg z, if_neg (by omega)]
theorem OvQ.cp {chn : Nat → Nat} {p c : Nat} {cr ov cr' ov' : Nat → Int64} (w : Int64) (h : OvQ chn p c cr ov) (hp : p < 16) (hc : c < 8) (hq8 : ∀ j, j < 16 → chn j ≤ 8)
    (hcr : ∀ k, cr' k = if k = 8 * p + c then w else cr k) (hov : ∀ k, ov' k = if k = p then ov p + (if chn p = c + 1 then w else 0) else ov k) : OvQ chn p (c + 1) cr' ov' := by
  intro q hq hq16
  have hb := hq8 q hq16
  rw [hov]
  by_cases e : q = p
  · subst e
    rw [if_pos rfl, h q hq hq16]
    by_cases e1 : chn q = c + 1
    · rw [if_pos e1, if_neg (by omega), if_pos ⟨by omega, by omega⟩, hcr, if_pos (by omega)]
      grind
    · rw [if_neg e1, i64_a0]
      by_cases z : ¬ chn q = 0 ∧ (q < q ∨ chn q - 1 < c)
      · rw [if_pos z, if_pos ⟨z.1, by omega⟩, hcr, if_neg (by omega)]
      · rw [if_neg z, if_neg (by omega)]
  · rw [if_neg e, h q hq hq16]
    by_cases z : ¬ chn q = 0 ∧ (q < p ∨ chn q - 1 < c)
    · rw [if_pos z, if_pos ⟨z.1, by omega⟩, hcr, if_neg (by omega)]
    · rw [if_neg z, if_neg (by omega)]
