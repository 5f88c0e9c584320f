/-! Photons as natural numbers: each that was emitted is lost, leaked, seen, on its way, or in a guide. -/
theorem rp_inv {α : Type} (f : Nat → α → α) (R : Nat → α → Prop) {n : Nat} {a : α} (h0 : R 0 a) (hs : ∀ i, i < n → ∀ x, R i x → R (i + 1) (f i x)) : R n (rp f n a) := by
  have key : ∀ k, k ≤ n → R k (rp f k a) := by
    intro k
    induction k with
    | zero => intro _; exact h0
    | succ k ih => intro hk; rw [rp_s]; exact hs k (by omega) _ (ih (by omega))
  exact key n (Nat.le_refl n)
theorem rp_sim {α β : Type} (f : Nat → α → α) (g : Nat → β → β) (R : Nat → α → β → Prop) {n : Nat} {a : α} {b : β} (h0 : R 0 a b) (hs : ∀ i, i < n → ∀ x y, R i x y → R (i + 1) (f i x) (g i y)) : R n (rp f n a) (rp g n b) := by
  have key : ∀ k, k ≤ n → R k (rp f k a) (rp g k b) := by
    intro k
    induction k with
    | zero => intro _; exact h0
    | succ k ih => intro hk; rw [rp_s, rp_s]; exact hs k (by omega) _ _ (ih (by omega))
  exact key n (Nat.le_refl n)
theorem upN {f : Nat → Nat} {i j v : Nat} (h : j ≠ i) : va_up f i v j = f j := va_up_other h
theorem upS {f : Nat → Nat} {i v : Nat} : va_up f i v i = v := va_up_same f i v
def sN (f : Nat → Nat) (n : Nat) : Nat := rp (fun i x => x + f i) n 0
theorem sN_s (f : Nat → Nat) (n : Nat) : sN f (n + 1) = sN f n + f n := rfl
theorem sN_congr {f g : Nat → Nat} {n : Nat} (h : ∀ i, i < n → f i = g i) : sN f n = sN g n := by
  induction n with
  | zero => rfl
  | succ n ih => rw [sN_s, sN_s, ih (fun i hi => h i (by omega)), h n (by omega)]
theorem sN_zero {f : Nat → Nat} {n : Nat} (h : ∀ i, i < n → f i = 0) : sN f n = 0 := by
  induction n with
  | zero => rfl
  | succ n ih => rw [sN_s, ih (fun i hi => h i (by omega)), h n (by omega)]
theorem sN_up (f : Nat → Nat) {n i : Nat} (v : Nat) (hi : i < n) : sN (va_up f i v) n + f i = sN f n + v := by
  induction n with
  | zero => exact absurd hi (by omega)
  | succ n ih =>
    rw [sN_s, sN_s]
    by_cases q : i = n
    · subst q
      rw [sN_congr (f := va_up f i v) (g := f) (fun j hj => upN (by omega)), upS]
      omega
    · have := ih (by omega)
      rw [upN (show n ≠ i by omega)]
      omega
theorem sN_le {f : Nat → Nat} {n i : Nat} (hi : i < n) : f i ≤ sN f n := by
  induction n with
  | zero => exact absurd hi (by omega)
  | succ n ih =>
    rw [sN_s]
    by_cases q : i = n
    · subst q; omega
    · have := ih (by omega); omega
theorem sN_mono {f g : Nat → Nat} {n : Nat} (h : ∀ i, i < n → f i ≤ g i) : sN f n ≤ sN g n := by
  induction n with
  | zero => exact Nat.le_refl _
  | succ n ih =>
    rw [sN_s, sN_s]
    have := ih (fun i hi => h i (by omega))
    have := h n (by omega)
    omega
def lF (f : Nat → Nat) : Nat → Int64 := fun k => lN (f k)
theorem lF_0 : (fun _ => (0 : Int64)) = lF (fun _ => 0) := rfl
theorem lF_up (f : Nat → Nat) (i v : Nat) : va_up (lF f) i (lN v) = lF (va_up f i v) := by
  funext j
  by_cases h : j = i
  · subst h; rw [va_up_same]; show lN v = lN (va_up f j v j); rw [upS]
  · rw [va_up_other h]; show lN (f j) = lN (va_up f i v j); rw [upN h]
theorem lF_up0 (f : Nat → Nat) (i : Nat) : va_up (lF f) i 0 = lF (va_up f i 0) := lF_up f i 0
theorem iL_N {n : Nat} (h : n < 2 ^ 31) : iL n = lN n := nI_l h
theorem lN_pct {a s : Nat} (ha : a ≤ 2000000000) (hs : s ≤ 100) : lN a * iL s / 100 = lN (a * s / 100) := by
  rw [iL_N (by omega), lN_mul]
  have : a * s ≤ 2000000000 * 100 := Nat.mul_le_mul ha hs
  exact pk_lDiv (a := a * s) (b := 100) (by omega) (by omega) (by omega)
theorem pct_le {a s : Nat} (hs : s ≤ 100) : a * s / 100 ≤ a := by
  have : a * s ≤ a * 100 := Nat.mul_le_mul_left a hs
  omega
theorem lN_z {a : Nat} (ha : a ≤ 2000000000) : lN a = 0 ↔ a = 0 := pk_lEQ (b := 0) (by omega) (by omega)
def gvLn (L ph lk : Nat) : Nat := if L = 0 then lk + ph else lk
def gvGn (L ch ph : Nat) (gi : Nat → Nat) : Nat → Nat := if L = 0 then gi else va_up gi ((L - 1) * 8 + ch) (gi ((L - 1) * 8 + ch) + ph)
theorem gvL_n (L ph lk : Nat) : gvL L (lN ph) (lN lk) = lN (gvLn L ph lk) := by
  unfold gvL gvLn
  split
  · exact lN_add _ _
  · rfl
theorem gvG_n (L ch ph : Nat) (gi : Nat → Nat) : gvG L ch (lN ph) (lF gi) = lF (gvGn L ch ph gi) := by
  unfold gvG gvGn
  split
  · rfl
  · show va_up (lF gi) _ (lN (gi _) + lN ph) = _
    rw [lN_add]
    exact lF_up _ _ _
theorem gvn_sum {L ch : Nat} (ph : Nat) (gi : Nat → Nat) (lk : Nat) (hL : L ≤ 32) (hc : ch < 8) : sN (gvGn L ch ph gi) 256 + gvLn L ph lk = sN gi 256 + lk + ph := by
  unfold gvGn gvLn
  by_cases h : L = 0
  · rw [if_pos h, if_pos h]; omega
  · rw [if_neg h, if_neg h]
    have := sN_up gi (n := 256) (i := (L - 1) * 8 + ch) (gi ((L - 1) * 8 + ch) + ph) (by omega)
    omega
/-- an input of a part -/
def isIn (n : Nat) (kd : Nat → Nat) (t : Nat) : Prop := t / 2 < n ∧ t % 2 < stV 0 (kd (t / 2))
def LeQ (n : Nat) (kd le : Nat → Nat) : Prop := ∀ t, t < 32 → le t = 0 ∨ (le t ≤ 32 ∧ isIn n kd (le t - 1))
def NzN (n : Nat) (kd : Nat → Nat) (f : Nat → Nat) : Prop := ∀ t, t < 32 → ¬ isIn n kd t → ∀ c, c < 8 → f (8 * t + c) = 0
def HiN (f : Nat → Nat) : Prop := ∀ k, 256 ≤ k → f k = 0
def CoN (p c : Nat) (co : Nat → Nat) : Prop := ∀ k, k < 256 → (k < 16 * p ∨ (k < 16 * p + 16 ∧ k % 8 < c)) → co k = 0
def tau (tk p c q ch : Nat) : Nat := if q < p ∨ (q = p ∧ ch < c) then tk + 1 else tk
def DlN (kd fi : Nat → Nat) (tk p c : Nat) (un ins : Nat → Nat) : Prop := ∀ q ch s, q < 16 → ch < 8 → s < 8 → ins (64 * q + 8 * s + ch) = if kd q = 1 ∧ (s + 8 - tau tk p c q ch % 8) % 8 < fi q - 1 then un (64 * q + 8 * ((s + 8 - (fi q - 1)) % 8) + ch) else 0
def SkN (kd : Nat → Nat) (sn : Nat → Nat) : Prop := ∀ q, q < 16 → ¬ kd q = 5 → ∀ c, c < 8 → sn (8 * q + c) = 0
theorem le_bd {n : Nat} {kd le : Nat → Nat} (h : LeQ n kd le) : ∀ t, t < 32 → le t ≤ 32 := by
  intro t ht
  rcases h t ht with q | q
  · omega
  · exact q.1
theorem NzN.gv {n : Nat} {kd le : Nat → Nat} {gi : Nat → Nat} {t ch ph : Nat} (hL : LeQ n kd le) (ht : t < 32) (hc : ch < 8) (h : NzN n kd gi) : NzN n kd (gvGn (le t) ch ph gi) := by
  intro t' ht' hi c hc'
  unfold gvGn
  by_cases e : le t = 0
  · rw [if_pos e]; exact h t' ht' hi c hc'
  · rw [if_neg e, upN]
    · exact h t' ht' hi c hc'
    · intro q
      rcases hL t ht with r | r
      · exact e r
      · refine hi ?_
        rw [show t' = le t - 1 by omega]
        exact r.2
theorem HiN.gv {gi : Nat → Nat} {L ch ph : Nat} (hL : L ≤ 32) (hc : ch < 8) (h : HiN gi) : HiN (gvGn L ch ph gi) := by
  intro k hk
  unfold gvGn
  by_cases e : L = 0
  · rw [if_pos e]; exact h k hk
  · rw [if_neg e, upN (by omega)]; exact h k hk
theorem NzN.z {n : Nat} {kd : Nat → Nat} {f : Nat → Nat} {i : Nat} (h : NzN n kd f) : NzN n kd (va_up f i 0) := by
  intro t ht hi c hc
  by_cases e : 8 * t + c = i
  · rw [e, upS]
  · rw [upN e]; exact h t ht hi c hc
theorem HiN.z {f : Nat → Nat} {i : Nat} (h : HiN f) : HiN (va_up f i 0) := by
  intro k hk
  by_cases e : k = i
  · rw [e, upS]
  · rw [upN e]; exact h k hk
theorem CoN.take2 {p c : Nat} {co : Nat → Nat} (h : CoN p c co) (hc : c < 8) : CoN p (c + 1) (va_up (va_up co ((p * 2 + 0) * 8 + c) 0) ((p * 2 + 1) * 8 + c) 0) := by
  intro k hk hq
  by_cases h1 : k = (p * 2 + 1) * 8 + c
  · rw [h1, upS]
  · rw [upN h1]
    by_cases h0 : k = (p * 2 + 0) * 8 + c
    · rw [h0, upS]
    · rw [upN h0]; exact h k hk (by omega)
theorem CoN.take1 {n : Nat} {kd : Nat → Nat} {p c : Nat} {co : Nat → Nat} (h : CoN p c co) (hz : NzN n kd co) (hi : ¬ isIn n kd (2 * p + 1)) (hp : p < 16) (hc : c < 8) : CoN p (c + 1) (va_up co ((p * 2 + 0) * 8 + c) 0) := by
  intro k hk hq
  by_cases h0 : k = (p * 2 + 0) * 8 + c
  · rw [h0, upS]
  · rw [upN h0]
    by_cases r : k < 16 * p ∨ (k < 16 * p + 16 ∧ k % 8 < c)
    · exact h k hk r
    · have := hz (2 * p + 1) (by omega) hi c hc
      rw [show k = 8 * (2 * p + 1) + c by omega]
      exact this
theorem CoN.take0 {n : Nat} {kd : Nat → Nat} {p : Nat} {co : Nat → Nat} (h : CoN p 0 co) (hz : NzN n kd co) (hj : ¬ isIn n kd (2 * p)) (hi : ¬ isIn n kd (2 * p + 1)) (hp : p < 16) : CoN (p + 1) 0 co := by
  intro k hk hq
  by_cases r : k < 16 * p
  · exact h k hk (Or.inl r)
  · by_cases e : k < 16 * p + 8
    · have := hz (2 * p) (by omega) hj (k - 16 * p) (by omega)
      rw [show 8 * (2 * p) + (k - 16 * p) = k by omega] at this
      exact this
    · have := hz (2 * p + 1) (by omega) hi (k - (16 * p + 8)) (by omega)
      rw [show 8 * (2 * p + 1) + (k - (16 * p + 8)) = k by omega] at this
      exact this
theorem CoN.next {p : Nat} {co : Nat → Nat} (h : CoN p 8 co) : CoN (p + 1) 0 co := fun k hk hq => h k hk (by omega)
theorem tau_n (tk p q ch : Nat) (h : ch < 8) : tau tk p 8 q ch = tau tk (p + 1) 0 q ch := by
  unfold tau
  by_cases q1 : q < p ∨ (q = p ∧ ch < 8)
  · rw [if_pos q1, if_pos (by omega)]
  · rw [if_neg q1, if_neg (by omega)]
theorem tau_o (tk p c q ch : Nat) (h : ¬ (q = p ∧ ch = c)) : tau tk p c q ch = tau tk p (c + 1) q ch := by
  unfold tau
  by_cases q1 : q < p ∨ (q = p ∧ ch < c)
  · rw [if_pos q1, if_pos (by omega)]
  · rw [if_neg q1, if_neg (by omega)]
theorem DlN.next {kd fi : Nat → Nat} {tk p : Nat} {un ins : Nat → Nat} (h : DlN kd fi tk p 8 un ins) : DlN kd fi tk (p + 1) 0 un ins := by
  intro q ch s hq hc hs
  rw [h q ch s hq hc hs, tau_n tk p q ch hc]
theorem DlN.other {kd fi : Nat → Nat} {tk p c : Nat} {un ins : Nat → Nat} (h : DlN kd fi tk p c un ins) (hk : ¬ kd p = 1) : DlN kd fi tk p (c + 1) un ins := by
  intro q ch s hq hc hs
  rw [h q ch s hq hc hs]
  by_cases e : q = p
  · subst e
    rw [if_neg (fun z => hk z.1), if_neg (fun z => hk z.1)]
  · rw [tau_o tk p c q ch (fun z => e z.1)]
theorem DlN.others {kd fi : Nat → Nat} {tk p : Nat} {un ins : Nat → Nat} (h : DlN kd fi tk p 0 un ins) (hk : ¬ kd p = 1) : DlN kd fi tk (p + 1) 0 un ins := by
  have key : ∀ c, DlN kd fi tk p c un ins := by
    intro c
    induction c with
    | zero => exact h
    | succ c ih => exact ih.other hk
  exact (key 8).next
theorem DlN.tick {kd fi : Nat → Nat} {tk n : Nat} {un ins : Nat → Nat} (h : DlN kd fi tk n 0 un ins) (hn : ∀ q, n ≤ q → q < 16 → ¬ kd q = 1) : DlN kd fi (tk + 1) 0 0 un ins := by
  intro q ch s hq hc hs
  rw [h q ch s hq hc hs]
  by_cases e : kd q = 1
  · have hqn : q < n := by
      rcases Nat.lt_or_ge q n with z | z
      · exact z
      · exact absurd e (hn q z hq)
    rw [show tau tk n 0 q ch = tk + 1 from if_pos (Or.inl hqn), show tau (tk + 1) 0 0 q ch = tk + 1 from if_neg (by omega)]
  · rw [if_neg (fun z => e z.1), if_neg (fun z => e z.1)]
theorem DlN.late {kd fi : Nat → Nat} {tk p c : Nat} {un ins : Nat → Nat} (h : DlN kd fi tk p c un ins) (hf : 1 ≤ fi p ∧ fi p ≤ 8) (hp : p < 16) (hc : c < 8) : ins (64 * p + 8 * ((tk + fi p - 1) % 8) + c) = 0 := by
  rw [h p c ((tk + fi p - 1) % 8) hp hc (by omega), show tau tk p c p c = tk from if_neg (by omega), if_neg]
  intro z
  omega
theorem DlN.guide {kd fi : Nat → Nat} {tk p c : Nat} {un ins : Nat → Nat} (w : Nat) (h : DlN kd fi tk p c un ins) (hk : kd p = 1) (hf : 1 ≤ fi p ∧ fi p ≤ 8) (hp : p < 16) (hc : c < 8) :
    va_up ins (64 * p + 8 * ((tk + fi p - 1) % 8) + c) w (64 * p + 8 * (tk % 8) + c) = va_up un (((p * 8 + (tk + 8) % 8) * 8) + c) w (((p * 8 + (tk + 8 - (fi p - 1)) % 8) * 8) + c)
    ∧ DlN kd fi tk p (c + 1) (va_up un (((p * 8 + (tk + 8) % 8) * 8) + c) w) (va_up (va_up ins (64 * p + 8 * ((tk + fi p - 1) % 8) + c) w) (64 * p + 8 * (tk % 8) + c) 0) := by
  constructor
  · by_cases e : fi p = 1
    · rw [show 64 * p + 8 * ((tk + fi p - 1) % 8) + c = 64 * p + 8 * (tk % 8) + c by rw [e]; omega, upS, show ((p * 8 + (tk + 8 - (fi p - 1)) % 8) * 8) + c = ((p * 8 + (tk + 8) % 8) * 8) + c by rw [e]; omega, upS]
    · rw [upN (by omega), upN (by omega), h p c (tk % 8) hp hc (by omega), show tau tk p c p c = tk from if_neg (by omega), if_pos ⟨hk, by omega⟩]
      congr 1
      omega
  · intro q ch s hq hch hs
    by_cases e : q = p ∧ ch = c
    · obtain ⟨e1, e2⟩ := e
      subst e1 e2
      rw [show tau tk q (ch + 1) q ch = tk + 1 from if_pos (by omega)]
      by_cases s0 : s = tk % 8
      · subst s0
        rw [upS, if_neg (by omega)]
      · rw [upN (by omega)]
        by_cases s1 : s = (tk + fi q - 1) % 8
        · subst s1
          rw [upS, if_pos ⟨hk, by omega⟩, show 64 * q + 8 * (((tk + fi q - 1) % 8 + 8 - (fi q - 1)) % 8) + ch = ((q * 8 + (tk + 8) % 8) * 8) + ch by omega, upS]
        · rw [upN (by omega), h q ch s hq hch hs, show tau tk q ch q ch = tk from if_neg (by omega)]
          by_cases z : kd q = 1 ∧ (s + 8 - tk % 8) % 8 < fi q - 1
          · rw [if_pos z, if_pos ⟨hk, by omega⟩, upN (by omega)]
          · rw [if_neg z, if_neg (by omega)]
    · rw [upN (by omega), upN (by omega), h q ch s hq hch hs, ← tau_o tk p c q ch e]
      by_cases z : kd q = 1 ∧ (s + 8 - tau tk p c q ch % 8) % 8 < fi q - 1
      · rw [if_pos z, if_pos z, upN (by omega)]
      · rw [if_neg z, if_neg z]
/-- what the lasers among the first k parts emit in a tick -/
def pw (kd se : Nat → Nat) (k : Nat) : Nat := sN (fun j => if kd j = 0 then se j else 0) k
theorem pw_s (kd se : Nat → Nat) (k : Nat) : pw kd se (k + 1) = pw kd se k + (if kd k = 0 then se k else 0) := rfl
theorem pw_le (kd se : Nat → Nat) {k n : Nat} (h : k ≤ n) : pw kd se k ≤ pw kd se n := by
  induction n with
  | zero => rw [show k = 0 by omega]; exact Nat.le_refl _
  | succ n ih =>
    by_cases e : k = n + 1
    · rw [e]; exact Nat.le_refl _
    · rw [pw_s]
      have := ih (by omega)
      omega
/-- the numbers in the midst of a tick: part p, channel c -/
def IvN (n : Nat) (kd fi : Nat → Nat) (tk p c : Nat) (sn0 co gi un ins sn : Nat → Nat) (em lo lk de : Nat) : Prop :=
  CoN p c co ∧ HiN co ∧ HiN gi ∧ NzN n kd co ∧ NzN n kd gi ∧ DlN kd fi tk p c un ins ∧ em = lo + lk + de + sN co 256 + sN gi 256 + sN ins 1024 ∧ de = sN sn 128 ∧ SkN kd sn ∧ ∀ j, sn0 j ≤ sn j
/-- the class's light in the midst of a tick -/
def MdN (n : Nat) (kd fi : Nat → Nat) (tk p c : Nat) (sn0 : Nat → Nat) (em : Nat) (S : zLS) : Prop := ∃ (co gi un ins sn : Nat → Nat) (lo lk de : Nat),
  S.1 = lF co ∧ S.2.1 = lF gi ∧ S.2.2.1 = lF un ∧ S.2.2.2.2.1 = lF sn ∧ S.2.2.2.2.2.1 = lN em ∧ S.2.2.2.2.2.2.1 = lN lo ∧ S.2.2.2.2.2.2.2.1 = lN lk ∧ S.2.2.2.2.2.2.2.2 = lN de ∧ IvN n kd fi tk p c sn0 co gi un ins sn em lo lk de
theorem noIn {n : Nat} {kd : Nat → Nat} {p k : Nat} (i : Nat) (hi : i < 2) (hk : kd p = k) (h : ¬ i < stV 0 k) : ¬ isIn n kd (2 * p + i) := by
  intro z
  obtain ⟨z1, z2⟩ := z
  rw [show (2 * p + i) / 2 = p by omega, show (2 * p + i) % 2 = i by omega, hk] at z2
  exact h z2
theorem IvN.next {n : Nat} {kd fi : Nat → Nat} {tk p : Nat} {sn0 co gi un ins sn : Nat → Nat} {em lo lk de : Nat} (h : IvN n kd fi tk p 8 sn0 co gi un ins sn em lo lk de) : IvN n kd fi tk (p + 1) 0 sn0 co gi un ins sn em lo lk de := by
  obtain ⟨h1, h2, h3, h4, h5, h6, h7⟩ := h
  exact ⟨h1.next, h2, h3, h4, h5, h6.next, h7⟩
theorem MdN.next {n : Nat} {kd fi : Nat → Nat} {tk p : Nat} {sn0 : Nat → Nat} {em : Nat} {S : zLS} (h : MdN n kd fi tk p 8 sn0 em S) : MdN n kd fi tk (p + 1) 0 sn0 em S := by
  obtain ⟨co, gi, un, ins, sn, lo, lk, de, e1, e2, e3, e4, e5, e6, e7, e8, h⟩ := h
  exact ⟨co, gi, un, ins, sn, lo, lk, de, e1, e2, e3, e4, e5, e6, e7, e8, h.next⟩
theorem mn_guide {n : Nat} {kd fi se le : Nat → Nat} {tk p c : Nat} {sn0 : Nat → Nat} {em : Nat} (hn : n ≤ 16) (hL : LeQ n kd le) (hp : p < n) (hk : kd p = 1) (hs : se p ≤ 100) (hf : 1 ≤ fi p ∧ fi p ≤ 8) (hc : c < 8) (hb : em ≤ 2000000000) {co gi un cr sn : Nat → Int64} {e0 lo lk de : Int64} (h : MdN n kd fi tk p c sn0 em (co, gi, un, cr, sn, e0, lo, lk, de)) :
    MdN n kd fi tk p (c + 1) sn0 em ((gdB le se fi tk p c (co, gi, un, lo, lk)).1, (gdB le se fi tk p c (co, gi, un, lo, lk)).2.1, (gdB le se fi tk p c (co, gi, un, lo, lk)).2.2.1, cr, sn, e0, (gdB le se fi tk p c (co, gi, un, lo, lk)).2.2.2.1, (gdB le se fi tk p c (co, gi, un, lo, lk)).2.2.2.2, de) := by
  obtain ⟨co', gi', un', ins', sn', lo', lk', de', e1, e2, e3, e4, e5, e6, e7, e8, h⟩ := h
  dsimp only at e1 e2 e3 e4 e5 e6 e7 e8
  subst e1 e2 e3 e4 e6 e7 e8
  obtain ⟨h1, h2, h3, h4, h5, h6, h7, h8, h9, h10⟩ := h
  have hlt := le_bd hL (p * 2 + 0) (by omega)
  have hph := sN_le (f := co') (n := 256) (i := (p * 2 + 0) * 8 + c) (by omega)
  have hpb : co' ((p * 2 + 0) * 8 + c) ≤ 2000000000 := by omega
  have hls := pct_le (a := co' ((p * 2 + 0) * 8 + c)) hs
  obtain ⟨g1, g2⟩ := h6.guide (co' ((p * 2 + 0) * 8 + c) - co' ((p * 2 + 0) * 8 + c) * se p / 100) hk hf (by omega) hc
  have g0 := h6.late hf (by omega) hc
  refine ⟨va_up co' ((p * 2 + 0) * 8 + c) 0, gvGn (le (p * 2 + 0)) c (va_up un' (((p * 8 + (tk + 8) % 8) * 8) + c) (co' ((p * 2 + 0) * 8 + c) - co' ((p * 2 + 0) * 8 + c) * se p / 100) (((p * 8 + (tk + 8 - (fi p - 1)) % 8) * 8) + c)) gi', va_up un' (((p * 8 + (tk + 8) % 8) * 8) + c) (co' ((p * 2 + 0) * 8 + c) - co' ((p * 2 + 0) * 8 + c) * se p / 100), va_up (va_up ins' (64 * p + 8 * ((tk + fi p - 1) % 8) + c) (co' ((p * 2 + 0) * 8 + c) - co' ((p * 2 + 0) * 8 + c) * se p / 100)) (64 * p + 8 * (tk % 8) + c) 0, sn', lo' + co' ((p * 2 + 0) * 8 + c) * se p / 100, gvLn (le (p * 2 + 0)) (va_up un' (((p * 8 + (tk + 8) % 8) * 8) + c) (co' ((p * 2 + 0) * 8 + c) - co' ((p * 2 + 0) * 8 + c) * se p / 100) (((p * 8 + (tk + 8 - (fi p - 1)) % 8) * 8) + c)) lk', de', ?_, ?_, ?_, rfl, e5, ?_, ?_, rfl, ?_⟩
  · exact lF_up0 _ _
  · show gvG _ c (va_up (lF un') _ (lN _ - lN _ * iL (se p) / 100) _) (lF gi') = _
    rw [lN_pct hpb hs, lN_sub hls, lF_up]
    exact gvG_n _ _ _ _
  · show va_up (lF un') _ (lN _ - lN _ * iL (se p) / 100) = _
    rw [lN_pct hpb hs, lN_sub hls, lF_up]
  · show lN lo' + lN _ * iL (se p) / 100 = _
    rw [lN_pct hpb hs, lN_add]
  · show gvL _ (va_up (lF un') _ (lN _ - lN _ * iL (se p) / 100) _) (lN lk') = _
    rw [lN_pct hpb hs, lN_sub hls, lF_up]
    exact gvL_n _ _ _
  · generalize hW : co' ((p * 2 + 0) * 8 + c) - co' ((p * 2 + 0) * 8 + c) * se p / 100 = w at g1 g2 ⊢
    generalize hO : va_up un' (((p * 8 + (tk + 8) % 8) * 8) + c) w (((p * 8 + (tk + 8 - (fi p - 1)) % 8) * 8) + c) = out at g1 ⊢
    have s1 := sN_up co' (n := 256) (i := (p * 2 + 0) * 8 + c) 0 (by omega)
    have s2 := gvn_sum (ch := c) out gi' lk' hlt hc
    have s3 := sN_up ins' (n := 1024) (i := 64 * p + 8 * ((tk + fi p - 1) % 8) + c) w (by omega)
    have s4 := sN_up (va_up ins' (64 * p + 8 * ((tk + fi p - 1) % 8) + c) w) (n := 1024) (i := 64 * p + 8 * (tk % 8) + c) 0 (by omega)
    rw [g0] at s3
    rw [g1] at s4
    refine ⟨h1.take1 h4 (noIn 1 (by omega) hk (by decide)) (by omega) hc, h2.z, h3.gv hlt hc, h4.z, h5.gv hL (by omega) hc, g2, ?_, h8, h9, h10⟩
    omega
theorem mn_pass {n : Nat} {kd fi se le : Nat → Nat} {tk p c : Nat} {sn0 : Nat → Nat} {em : Nat} (hn : n ≤ 16) (hL : LeQ n kd le) (hp : p < n) (hk : kd p = 4) (hc : c < 8) {co gi un cr sn : Nat → Int64} {e0 lo lk de : Int64} (h : MdN n kd fi tk p c sn0 em (co, gi, un, cr, sn, e0, lo, lk, de)) :
    MdN n kd fi tk p (c + 1) sn0 em ((psB le se tk p c (co, gi, lo, lk)).1, (psB le se tk p c (co, gi, lo, lk)).2.1, un, cr, sn, e0, (psB le se tk p c (co, gi, lo, lk)).2.2.1, (psB le se tk p c (co, gi, lo, lk)).2.2.2, de) := by
  obtain ⟨co', gi', un', ins', sn', lo', lk', de', e1, e2, e3, e4, e5, e6, e7, e8, h⟩ := h
  dsimp only at e1 e2 e3 e4 e5 e6 e7 e8
  subst e1 e2 e3 e4 e6 e7 e8
  obtain ⟨h1, h2, h3, h4, h5, h6, h7, h8, h9, h10⟩ := h
  have hlt := le_bd hL (p * 2 + 0) (by omega)
  have s1 := sN_up co' (n := 256) (i := (p * 2 + 0) * 8 + c) 0 (by omega)
  have s2 := gvn_sum (ch := c) (co' ((p * 2 + 0) * 8 + c)) gi' lk' hlt hc
  have hi1 : ¬ isIn n kd (2 * p + 1) := noIn 1 (by omega) hk (by decide)
  by_cases ho : opn (se p) tk = 1
  · refine ⟨va_up co' ((p * 2 + 0) * 8 + c) 0, gvGn (le (p * 2 + 0)) c (co' ((p * 2 + 0) * 8 + c)) gi', un', ins', sn', lo', gvLn (le (p * 2 + 0)) (co' ((p * 2 + 0) * 8 + c)) lk', de', lF_up0 _ _, ?_, rfl, rfl, e5, ?_, ?_, rfl, ?_⟩
    · show (if opn (se p) tk = 1 then _ else _) = _
      rw [if_pos ho]; exact gvG_n _ _ _ _
    · show (if opn (se p) tk = 1 then _ else _) = _
      rw [if_pos ho]
    · show (if opn (se p) tk = 1 then _ else _) = _
      rw [if_pos ho]; exact gvL_n _ _ _
    · refine ⟨h1.take1 h4 hi1 (by omega) hc, h2.z, h3.gv hlt hc, h4.z, h5.gv hL (by omega) hc, h6.other (by omega), ?_, h8, h9, h10⟩
      omega
  · refine ⟨va_up co' ((p * 2 + 0) * 8 + c) 0, gi', un', ins', sn', lo' + co' ((p * 2 + 0) * 8 + c), lk', de', lF_up0 _ _, ?_, rfl, rfl, e5, ?_, ?_, rfl, ?_⟩
    · show (if opn (se p) tk = 1 then _ else _) = _
      rw [if_neg ho]
    · show (if opn (se p) tk = 1 then _ else _) = _
      rw [if_neg ho]; exact lN_add _ _
    · show (if opn (se p) tk = 1 then _ else _) = _
      rw [if_neg ho]
    · refine ⟨h1.take1 h4 hi1 (by omega) hc, h2.z, h3, h4.z, h5, h6.other (by omega), ?_, h8, h9, h10⟩
      omega
theorem mn_detect {n : Nat} {kd fi : Nat → Nat} {tk p c : Nat} {sn0 : Nat → Nat} {em : Nat} (hn : n ≤ 16) (hp : p < n) (hk : kd p = 5) (hc : c < 8) {co gi un cr sn : Nat → Int64} {e0 lo lk de : Int64} (h : MdN n kd fi tk p c sn0 em (co, gi, un, cr, sn, e0, lo, lk, de)) :
    MdN n kd fi tk p (c + 1) sn0 em ((dtB p c (co, sn, de)).1, gi, un, cr, (dtB p c (co, sn, de)).2.1, e0, lo, lk, (dtB p c (co, sn, de)).2.2) := by
  obtain ⟨co', gi', un', ins', sn', lo', lk', de', e1, e2, e3, e4, e5, e6, e7, e8, h⟩ := h
  dsimp only at e1 e2 e3 e4 e5 e6 e7 e8
  subst e1 e2 e3 e4 e6 e7 e8
  obtain ⟨h1, h2, h3, h4, h5, h6, h7, h8, h9, h10⟩ := h
  have s1 := sN_up co' (n := 256) (i := (p * 2 + 0) * 8 + c) 0 (by omega)
  have s2 := sN_up sn' (n := 128) (i := p * 8 + c) (sn' (p * 8 + c) + co' ((p * 2 + 0) * 8 + c)) (by omega)
  refine ⟨va_up co' ((p * 2 + 0) * 8 + c) 0, gi', un', ins', va_up sn' (p * 8 + c) (sn' (p * 8 + c) + co' ((p * 2 + 0) * 8 + c)), lo', lk', de' + co' ((p * 2 + 0) * 8 + c), lF_up0 _ _, rfl, rfl, ?_, e5, rfl, rfl, lN_add _ _, ?_⟩
  · show va_up (lF sn') _ (lN _ + lN _) = _
    rw [lN_add]; exact lF_up _ _ _
  · refine ⟨h1.take1 h4 (noIn 1 (by omega) hk (by decide)) (by omega) hc, h2.z, h3, h4.z, h5, h6.other (by omega), ?_, ?_, ?_, ?_⟩
    · omega
    · omega
    · intro q hq hq5 ch hch
      rw [upN]
      · exact h9 q hq hq5 ch hch
      · intro e
        have : q = p := by omega
        rw [this] at hq5
        exact hq5 hk
    · intro j
      by_cases e : j = p * 8 + c
      · rw [e, upS]
        have := h10 (p * 8 + c)
        omega
      · rw [upN e]; exact h10 j
theorem csh_le {kd se : Nat → Nat} {cen p c : Nat} (hs : se p ≤ 100) : csh kd se cen p c ≤ 100 := by
  unfold csh rsh
  split
  · (repeat' split) <;> omega
  · exact hs
theorem mn_couple {n : Nat} {kd fi se le : Nat → Nat} {tk p c cen : Nat} {sn0 : Nat → Nat} {em : Nat} (hn : n ≤ 16) (hL : LeQ n kd le) (hp : p < n) (hk : kd p = 2 ∨ kd p = 3) (hs : se p ≤ 100) (hc : c < 8) (hb : em ≤ 2000000000) {co gi un cr sn : Nat → Int64} {e0 lo lk de : Int64} (h : MdN n kd fi tk p c sn0 em (co, gi, un, cr, sn, e0, lo, lk, de)) :
    MdN n kd fi tk p (c + 1) sn0 em ((cpB kd se le cen p c (co, gi, cr, lk)).1, (cpB kd se le cen p c (co, gi, cr, lk)).2.1, un, (cpB kd se le cen p c (co, gi, cr, lk)).2.2.1, sn, e0, lo, (cpB kd se le cen p c (co, gi, cr, lk)).2.2.2, de) := by
  obtain ⟨co', gi', un', ins', sn', lo', lk', de', e1, e2, e3, e4, e5, e6, e7, e8, h⟩ := h
  dsimp only at e1 e2 e3 e4 e5 e6 e7 e8
  subst e1 e2 e3 e4 e6 e7 e8
  obtain ⟨h1, h2, h3, h4, h5, h6, h7, h8, h9, h10⟩ := h
  have hl0 := le_bd hL (p * 2 + 0) (by omega)
  have hl1 := le_bd hL (p * 2 + 1) (by omega)
  have hsh := csh_le (kd := kd) (cen := cen) (c := c) hs
  have s1 := sN_up co' (n := 256) (i := (p * 2 + 0) * 8 + c) 0 (by omega)
  have s2 := sN_up (va_up co' ((p * 2 + 0) * 8 + c) 0) (n := 256) (i := (p * 2 + 1) * 8 + c) 0 (by omega)
  have hg1 : va_up co' ((p * 2 + 0) * 8 + c) 0 ((p * 2 + 1) * 8 + c) = co' ((p * 2 + 1) * 8 + c) := upN (by omega)
  rw [hg1] at s2
  have hfb := sN_le (f := co') (n := 256) (i := (p * 2 + 0) * 8 + c) (by omega)
  have hgb := sN_le (f := co') (n := 256) (i := (p * 2 + 1) * 8 + c) (by omega)
  generalize hF : co' ((p * 2 + 0) * 8 + c) = f at s1 hfb
  generalize hG : co' ((p * 2 + 1) * 8 + c) = g at s2 hgb hg1
  generalize hS : csh kd se cen p c = s at hsh
  have hfe : lF co' ((p * 2 + 0) * 8 + c) = lN f := congrArg lN hF
  have hge : va_up (lF co') ((p * 2 + 0) * 8 + c) 0 ((p * 2 + 1) * 8 + c) = lN g := by rw [lF_up0]; exact congrArg lN hg1
  have hX : cpB kd se le cen p c (lF co', lF gi', cr, lN lk') = if f = 0 ∧ g = 0 then (lF (va_up (va_up co' ((p * 2 + 0) * 8 + c) 0) ((p * 2 + 1) * 8 + c) 0), lF gi', va_up cr (p * 8 + c) 0, lN lk') else (lF (va_up (va_up co' ((p * 2 + 0) * 8 + c) 0) ((p * 2 + 1) * 8 + c) 0), lF (gvGn (le (p * 2 + 1)) c (g - g * s / 100 + f * s / 100) (gvGn (le (p * 2 + 0)) c (f - f * s / 100 + g * s / 100) gi')), va_up (va_up cr (p * 8 + c) 0) (p * 8 + c) (lN (f * s / 100 + g * s / 100)), lN (gvLn (le (p * 2 + 1)) (g - g * s / 100 + f * s / 100) (gvLn (le (p * 2 + 0)) (f - f * s / 100 + g * s / 100) lk'))) := by
    unfold cpB
    dsimp only
    rw [hfe, hge, hS, lN_pct (a := f) (by omega) hsh, lN_pct (a := g) (by omega) hsh, lN_sub (pct_le hsh), lN_sub (pct_le hsh), lN_add, lN_add, lN_add, gvG_n, gvG_n, gvL_n, gvL_n, lF_up0, lF_up0]
    by_cases q : f = 0 ∧ g = 0
    · rw [if_pos q, if_pos ⟨(lN_z (by omega)).mpr q.1, (lN_z (by omega)).mpr q.2⟩]
    · rw [if_neg q, if_neg (fun z => q ⟨(lN_z (by omega)).mp z.1, (lN_z (by omega)).mp z.2⟩)]
  rw [hX]
  by_cases q : f = 0 ∧ g = 0
  · rw [if_pos q]
    refine ⟨va_up (va_up co' ((p * 2 + 0) * 8 + c) 0) ((p * 2 + 1) * 8 + c) 0, gi', un', ins', sn', lo', lk', de', rfl, rfl, rfl, rfl, e5, rfl, rfl, rfl, ?_⟩
    refine ⟨h1.take2 hc, h2.z.z, h3, h4.z.z, h5, h6.other (by omega), ?_, h8, h9, h10⟩
    omega
  · rw [if_neg q]
    have p1 := pct_le (a := f) hsh
    have p2 := pct_le (a := g) hsh
    have s3 := gvn_sum (ch := c) (f - f * s / 100 + g * s / 100) gi' lk' hl0 hc
    have s4 := gvn_sum (ch := c) (g - g * s / 100 + f * s / 100) (gvGn (le (p * 2 + 0)) c (f - f * s / 100 + g * s / 100) gi') (gvLn (le (p * 2 + 0)) (f - f * s / 100 + g * s / 100) lk') hl1 hc
    refine ⟨va_up (va_up co' ((p * 2 + 0) * 8 + c) 0) ((p * 2 + 1) * 8 + c) 0, gvGn (le (p * 2 + 1)) c (g - g * s / 100 + f * s / 100) (gvGn (le (p * 2 + 0)) c (f - f * s / 100 + g * s / 100) gi'), un', ins', sn', lo', gvLn (le (p * 2 + 1)) (g - g * s / 100 + f * s / 100) (gvLn (le (p * 2 + 0)) (f - f * s / 100 + g * s / 100) lk'), de', rfl, rfl, rfl, rfl, e5, rfl, rfl, rfl, ?_⟩
    refine ⟨h1.take2 hc, h2.z.z, (h3.gv hl0 hc).gv hl1 hc, h4.z.z, (h5.gv hL (by omega) hc).gv hL (by omega) hc, h6.other (by omega), ?_, h8, h9, h10⟩
    omega
theorem mn_laser {n : Nat} {kd fi se le : Nat → Nat} {tk p : Nat} {sn0 : Nat → Nat} {em : Nat} (hn : n ≤ 16) (hL : LeQ n kd le) (hp : p < n) (hk : kd p = 0) (hs : se p ≤ 1000) (hf : fi p < 8) {co gi un cr sn : Nat → Int64} {e0 lo lk de : Int64} (h : MdN n kd fi tk p 0 sn0 em (co, gi, un, cr, sn, e0, lo, lk, de)) :
    MdN n kd fi tk (p + 1) 0 sn0 (em + se p) (co, gvG (le (p * 2 + 0)) (fi p) (iL (se p)) gi, un, cr, sn, e0 + iL (se p), lo, gvL (le (p * 2 + 0)) (iL (se p)) lk, de) := by
  obtain ⟨co', gi', un', ins', sn', lo', lk', de', e1, e2, e3, e4, e5, e6, e7, e8, h⟩ := h
  dsimp only at e1 e2 e3 e4 e5 e6 e7 e8
  subst e1 e2 e3 e4 e6 e7 e8
  obtain ⟨h1, h2, h3, h4, h5, h6, h7, h8, h9, h10⟩ := h
  have hlt := le_bd hL (p * 2 + 0) (by omega)
  have s2 := gvn_sum (ch := fi p) (se p) gi' lk' hlt hf
  have hi0 : ¬ isIn n kd (2 * p) := noIn 0 (by omega) hk (by decide)
  have hi1 : ¬ isIn n kd (2 * p + 1) := noIn 1 (by omega) hk (by decide)
  refine ⟨co', gvGn (le (p * 2 + 0)) (fi p) (se p) gi', un', ins', sn', lo', gvLn (le (p * 2 + 0)) (se p) lk', de', rfl, ?_, rfl, rfl, ?_, rfl, ?_, rfl, ?_⟩
  · show gvG _ _ (iL (se p)) (lF gi') = _
    rw [iL_N (by omega)]; exact gvG_n _ _ _ _
  · show e0 + iL (se p) = _
    rw [e5, iL_N (by omega)]; exact lN_add _ _
  · show gvL _ (iL (se p)) (lN lk') = _
    rw [iL_N (by omega)]; exact gvL_n _ _ _
  · refine ⟨h1.take0 h4 hi0 hi1 (by omega), h2, h3.gv hlt hf, h4, h5.gv hL (by omega) hf, h6.others (by omega), ?_, h8, h9, h10⟩
    omega
/-- what a tick's parts need: at most n parts, each well made -/
abbrev FxN (n : Nat) (kd fi se le : Nat → Nat) : Prop := n ≤ 16 ∧ (∀ j, j < n → PtOk kd fi se j) ∧ (∀ j, j < n → se j ≤ 100) ∧ LeQ n kd le ∧ ∀ q, n ≤ q → q < 16 → kd q = 0
theorem mn_part {n : Nat} {kd fi se le wa : Nat → Nat} {o tk p : Nat} {sn0 : Nat → Nat} {em : Nat} (F : FxN n kd fi se le) (hp : p < n) (hb : em ≤ 2000000000) {S : zLS} (h : MdN n kd fi tk p 0 sn0 em S) : MdN n kd fi tk (p + 1) 0 sn0 (em + (if kd p = 0 then se p else 0)) (wkS kd fi se le wa o tk p S) := by
  obtain ⟨co, gi, un, cr, sn, e0, lo, lk, de⟩ := S
  obtain ⟨hn, hok, hse, hL, hk0⟩ := F
  have hokp := hok p hp
  have hs := hse p hp
  unfold wkS
  dsimp only
  by_cases k0 : kd p = 0
  · rw [if_pos k0, if_pos k0]
    exact mn_laser hn hL hp k0 (by omega) (hokp.2.2.2.1 k0) h
  · rw [if_neg k0, if_neg k0, Nat.add_zero]
    by_cases k1 : kd p = 1
    · rw [if_pos k1]
      exact (rp_inv (gdB le se fi tk p) (fun c X => MdN n kd fi tk p c sn0 em (X.1, X.2.1, X.2.2.1, cr, sn, e0, X.2.2.2.1, X.2.2.2.2, de)) (n := 8) (a := (co, gi, un, lo, lk)) h (fun c hc x e => mn_guide hn hL hp k1 hs ⟨hokp.2.2.2.2 k1, hokp.2.1⟩ hc hb e)).next
    · rw [if_neg k1]
      by_cases k2 : kd p = 2 ∨ kd p = 3
      · rw [if_pos k2]
        exact (rp_inv (cpB kd se le (cnt fi wa o p) p) (fun c X => MdN n kd fi tk p c sn0 em (X.1, X.2.1, un, X.2.2.1, sn, e0, lo, X.2.2.2, de)) (n := 8) (a := (co, gi, cr, lk)) h (fun c hc x e => mn_couple hn hL hp k2 hs hc hb e)).next
      · rw [if_neg k2]
        by_cases k4 : kd p = 4
        · rw [if_pos k4]
          exact (rp_inv (psB le se tk p) (fun c X => MdN n kd fi tk p c sn0 em (X.1, X.2.1, un, cr, sn, e0, X.2.2.1, X.2.2.2, de)) (n := 8) (a := (co, gi, lo, lk)) h (fun c hc x e => mn_pass hn hL hp k4 hc e)).next
        · rw [if_neg k4]
          have k5 := hokp.1
          exact (rp_inv (dtB p) (fun c X => MdN n kd fi tk p c sn0 em (X.1, gi, un, cr, X.2.1, e0, lo, lk, X.2.2)) (n := 8) (a := (co, sn, de)) h (fun c hc x e => mn_detect hn hp (by omega) hc e)).next
/-- the class's light between ticks: em were emitted, sn were seen -/
def TkN (n : Nat) (kd fi : Nat → Nat) (tk em : Nat) (sn : Nat → Nat) (S : zLS) : Prop := ∃ (co un ins : Nat → Nat) (lo lk : Nat),
  S.1 = lF co ∧ S.2.1 = (fun _ => 0) ∧ S.2.2.1 = lF un ∧ S.2.2.2.2.1 = lF sn ∧ S.2.2.2.2.2.1 = lN em ∧ S.2.2.2.2.2.2.1 = lN lo ∧ S.2.2.2.2.2.2.2.1 = lN lk ∧ S.2.2.2.2.2.2.2.2 = lN (sN sn 128) ∧
  HiN co ∧ NzN n kd co ∧ DlN kd fi tk 0 0 un ins ∧ em = lo + lk + sN sn 128 + sN co 256 + sN ins 1024 ∧ SkN kd sn
theorem tk_tick {n : Nat} {kd fi se le wa : Nat → Nat} {o tk em : Nat} {sn : Nat → Nat} {S : zLS} (F : FxN n kd fi se le) (hb : em + pw kd se n ≤ 2000000000) (h : TkN n kd fi tk em sn S) : ∃ sn', (∀ j, sn j ≤ sn' j) ∧ TkN n kd fi (tk + 1) (em + pw kd se n) sn' (tkS n kd fi se le wa o tk S) := by
  obtain ⟨co, un, ins, lo, lk, e1, e2, e3, e4, e5, e6, e7, e8, h1, h2, h3, h4, h5⟩ := h
  have h0 : MdN n kd fi tk 0 0 sn (em + pw kd se 0) S := ⟨co, fun _ => 0, un, ins, sn, lo, lk, sN sn 128, e1, e2, e3, e4, e5, e6, e7, e8, fun k _ q => absurd q (by omega), h1, fun _ _ => rfl, h2, fun _ _ _ _ _ => rfl, h3, by
    rw [sN_zero (f := fun _ => 0) (fun _ _ => rfl)]; show em + 0 = _; omega, rfl, h5, fun _ => Nat.le_refl _⟩
  have key := rp_inv (wkS kd fi se le wa o tk) (fun p X => MdN n kd fi tk p 0 sn (em + pw kd se p) X) (n := n) (a := S) h0 (fun p hp x e => by
    have hle := pw_le kd se (show p ≤ n by omega)
    have := mn_part (wa := wa) (o := o) F hp (by omega) e
    rw [pw_s, ← Nat.add_assoc]
    exact this)
  unfold tkS
  generalize rp (wkS kd fi se le wa o tk) n S = X at key
  obtain ⟨co', gi', un', ins', sn', lo', lk', de', f1, f2, f3, f4, f5, f6, f7, f8, g1, g2, g3, g4, g5, g6, g7, g8, g9, g10⟩ := key
  have hco : ∀ k, co' k = 0 := by
    intro k
    by_cases q : k < 256
    · by_cases r : k < 16 * n
      · exact g1 k q (Or.inl r)
      · have := g4 (k / 8) (by omega) (by unfold isIn; omega) (k % 8) (by omega)
        rw [show 8 * (k / 8) + k % 8 = k by omega] at this
        exact this
    · exact g2 k (by omega)
  refine ⟨sn', g10, gi', un', ins', lo', lk', f2, ?_, f3, f4, f5, f6, f7, by rw [← g8]; exact f8, g3, g5, g6.tick (fun q hq hq16 => by rw [F.2.2.2.2 q hq hq16]; decide), ?_, g9⟩
  · show X.1 = _
    rw [f1]
    funext k
    show lN (co' k) = 0
    rw [hco k]; rfl
  · have := sN_zero (f := co') (n := 256) (fun i _ => hco i)
    omega
