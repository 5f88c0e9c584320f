/-! What the law's acts do to what it holds of the class. -/
theorem leq_0 {n : Nat} {kd le : Nat → Nat} {f : Nat} (h : LeQ n kd le) : LeQ n kd (va_up le f 0) := by
  intro t ht
  by_cases e : t = f
  · rw [e, upS]; exact Or.inl rfl
  · rw [upN e]; exact h t ht
theorem leq_up {n : Nat} {kd le : Nat → Nat} {f q i : Nat} (h : LeQ n kd le) (hn : n ≤ 16) (hq : q < n) (hi : i < stV 0 (kd q)) (h2 : stV 0 (kd q) ≤ 2) : LeQ n kd (va_up le f (q * 2 + i + 1)) := by
  intro t ht
  by_cases e : t = f
  · rw [e, upS]
    refine Or.inr ⟨by omega, ?_⟩
    unfold isIn
    rw [show (q * 2 + i + 1 - 1) / 2 = q by omega, show (q * 2 + i + 1 - 1) % 2 = i by omega]
    exact ⟨hq, hi⟩
  · rw [upN e]; exact h t ht
theorem mn_le {n tk : Nat} {kd fi le le' : Nat → Nat} {C : zC} (hl : LeQ n kd le') (h : MnOk n tk kd fi le C) : MnOk n tk kd fi le' C := by
  obtain ⟨⟨f1, f2, f3, f4, f5⟩, h⟩ := h
  exact ⟨⟨f1, f2, f3, hl, f5⟩, h⟩
theorem tkn_cong {le le' : Nat → Nat} {fr t : Nat} (h : ∀ j, ¬ j = fr → le j = le' j) : ∀ k, tkn le fr t k = tkn le' fr t k
  | 0 => rfl
  | k + 1 => by
    rw [tkn_s, tkn_s, tkn_cong h k]
    by_cases e : k = fr
    · simp [e]
    · rw [h k e]
theorem led_cut {q i : Nat} (hi : i < 2) : cL (ledF (q * 2 + i + 1)) = nI q := by
  unfold ledF
  rw [if_neg (by omega), show (q * 2 + i + 1 - 1) / 2 + 1 = q + 1 by omega]
  exact cL_s q
theorem acc_nn {n tk : Nat} {kd fi le : Nat → Nat} {co gi un cr sn : Nat → Int64} {em lo lk de : Int64} {X : (Nat → Nat) × zHS} (ht : tk ≤ 1000) (h : MnOk n tk kd fi le ((co, gi, un, cr, sn, em, lo, lk, de), X)) : ¬ em - lo - lk - de < 0 := by
  obtain ⟨F, h99, hs, hc, hw, hl, e0, sn', he, co', un', ins', lo', lk', e1, e2, e3, e4, e5, e6, e7, e8, h1, h2, h3, h4, h5⟩ := h
  dsimp only at e5 e6 e7 e8
  subst e5 e6 e7 e8
  rw [lN_sub (by omega), lN_sub (by omega), lN_sub (by omega)]
  intro q
  exact absurd ((pk_lLT (b := 0) (by omega) (by omega)).mp q) (by omega)
theorem mn_set {n tk pt v : Nat} {kd fi se le chn los dir dkt wa : Nat → Nat} {L : zLS} {bef : Nat → Int64} (hv : v ≤ 99) (h : MnOk n tk kd fi le (L, wa, se, chn, los, dir, dkt, bef)) : MnOk n tk kd fi le (L, wa, va_up se pt v, chn, los, dir, dkt, bef) := by
  obtain ⟨⟨f1, f2, f3, f4, f5⟩, h99, hs, hc, hw, hl, hk⟩ := h
  dsimp only at f2 f3 h99 hs hc hw hl hk
  have h9 : ∀ j, j < n → va_up se pt v j ≤ 99 := by
    intro j hj
    by_cases e : j = pt
    · rw [e, upS]; exact hv
    · rw [upN e]; exact h99 j hj
  refine ⟨⟨f1, fun j hj => PtOk_up (f2 j hj) hv, fun j hj => Nat.le_trans (h9 j hj) (by omega), f4, f5⟩, h9, ?_, hc, hw, hl, hk⟩
  intro j hj
  obtain ⟨a1, a2, a3, a4⟩ := hs j hj
  refine ⟨a1, a2, a3, fun z => ⟨?_, (a4 z).2⟩⟩
  show va_up se pt v j ≤ 99
  by_cases e : j = pt
  · rw [e, upS]; exact hv
  · rw [upN e]; exact (a4 z).1
theorem mn_lock {n tk pt a : Nat} {kd fi se le chn los dir dkt wa : Nat → Nat} {L : zLS} {bef : Nat → Int64} (hp : pt < n) (hk3 : kd pt = 3) (ha : a ≤ 8) (h : MnOk n tk kd fi le (L, wa, se, chn, los, dir, dkt, bef)) : MnOk n tk kd fi le (L, wa, se, va_up chn pt a, los, va_up dir pt 1, va_up dkt pt 0, va_up bef pt 0) := by
  obtain ⟨⟨f1, f2, f3, f4, f5⟩, h99, hs, hc, hw, hl, hk⟩ := h
  dsimp only at f2 f3 h99 hs hc hw hl hk
  refine ⟨⟨f1, f2, f3, f4, f5⟩, h99, ?_, ?_, hw, hl, hk⟩
  · intro j hj
    obtain ⟨a1, a2, a3, a4⟩ := hs j hj
    show va_up chn pt a j ≤ 8 ∧ va_up dir pt 1 j ≤ 2 ∧ va_up dkt pt 0 j ≤ 8 ∧ (¬ va_up chn pt a j = 0 → se j ≤ 99 ∧ va_up dkt pt 0 j ≤ 7)
    by_cases e : j = pt
    · rw [e, upS, upS, upS]
      exact ⟨ha, by omega, by omega, fun _ => ⟨h99 pt hp, by omega⟩⟩
    · rw [upN e, upN e, upN e]
      exact ⟨a1, a2, a3, a4⟩
  · intro j hj
    show ¬ va_up chn pt a j = 0 → kd j = 3
    by_cases e : j = pt
    · rw [e]; exact fun _ => hk3
    · rw [upN e]; exact hc j hj
theorem st4_99 {k : Nat} (h : k ≤ 5) (h5 : ¬ k = 5) : 99 ≤ stV 4 k ∧ stV 4 k < 1000 := by
  rcases (show k = 0 ∨ k = 1 ∨ k = 2 ∨ k = 3 ∨ k = 4 by omega) with rfl | rfl | rfl | rfl | rfl <;> decide
theorem iL_nn {n : Nat} (h : n < 2 ^ 31) : ¬ iL n < 0 := by
  rw [iL_N h]
  intro q
  exact absurd ((pk_lLT (b := 0) (by omega) (by omega)).mp q) (by omega)
theorem tV_ge {kd xs ys fi se le : Nat → Nat} {oo nt : Nat} (F : FxN 10 kd fi se le) (h : nt ≤ 100) : ¬ tV kd xs ys fi se le oo 100 < tV kd xs ys fi se le oo nt := by
  obtain ⟨v, v', h1, h2, h3, h4⟩ := tV_mono (xs := xs) (ys := ys) (oo := oo) F h (Nat.le_refl 100)
  rw [h3, h4]
  intro q
  exact absurd ((pk_lLT (by omega) (by omega)).mp q) (by omega)
theorem df_lt {a b : Nat} (ha : a < 2 ^ 30) (hb : b < 2 ^ 30) (h : b ≤ a + 1) : ¬ nI a - nI b < -1 := by
  rw [Int32.lt_iff_toInt_lt, pk_sub_toInt (by omega) (by omega), show (-1 : Int32).toInt = -1 by decide]; omega
theorem df_gt {a b : Nat} (ha : a < 2 ^ 30) (hb : b < 2 ^ 30) (h : a ≤ b + 1) : ¬ nI 1 < nI a - nI b := by
  rw [Int32.lt_iff_toInt_lt, pk_sub_toInt (by omega) (by omega), show (nI 1).toInt = 1 by decide]; omega
theorem df_0 {a b : Nat} (h : a = b) : nI a - nI b = 0 := by subst h; grind
theorem cL_nn {n : Nat} (hn : n < 2 ^ 30) : 0 ≤ cL n ↔ ¬ n = 0 := by
  rw [Int32.le_iff_toInt_le, cL_ti hn, show (0 : Int32).toInt = 0 from rfl]; omega
theorem mn_fx {n tk : Nat} {kd fi le : Nat → Nat} {C : zC} (h : MnOk n tk kd fi le C) : FxN n kd fi C.2.2.1 le := h.1
/-- the law's own rows of heats and warmths, as far as they are written -/
def HeI (se wa he wr : Nat → Nat) (i : Nat) : Prop := (∀ j, j < i → he j = se j) ∧ (1 < i → wr 1 = wa 1)
theorem HeI.up {kd se wa he wr : Nat → Nat} {i x : Nat} (h : HeI se wa he wr i) (hx : kd 1 = 3) (e : x = if kd i = 3 then wa i else 0) : HeI se wa (va_up he i (se i)) (va_up wr i x) (i + 1) := by
  constructor
  · intro j hj
    by_cases q : j = i
    · rw [q, upS]
    · rw [upN q]; exact h.1 j (by omega)
  · intro hi
    by_cases q : 1 = i
    · subst q
      rw [upS, e, if_pos hx]
    · rw [upN q]; exact h.2 (by omega)
/-- what holds of the parts that the law has made: the first i -/
def SuI (i : Nat) (kd xs ys fi se ki pl : Nat → Nat) : Prop :=
  (∀ j, j < i → ki j = kd j ∧ pl (2 * j) = xs j ∧ pl (2 * j + 1) = ys j ∧ PtOk kd fi se j ∧ se j ≤ 99) ∧ (∀ j, i ≤ j → kd j = 0) ∧ (∀ j, xs j ≤ 15 ∧ ys j ≤ 15) ∧ (0 < i → kd 0 = 0) ∧ (1 < i → kd 1 = 3) ∧ (2 < i → kd 2 = 5)
theorem su_0 : SuI 0 (fun _ => 0) (fun _ => 0) (fun _ => 0) (fun _ => 0) (fun _ => 0) (fun _ => 0) (fun _ => 0) :=
  ⟨fun j hj => absurd hj (by omega), fun _ _ => rfl, fun _ => ⟨Nat.zero_le _, Nat.zero_le _⟩, fun _ => rfl, fun h => absurd h (by omega), fun h => absurd h (by omega)⟩
theorem su_up {i kv a b fv sv : Nat} {kd xs ys fi se ki pl : Nat → Nat} (h : SuI i kd xs ys fi se ki pl) (hk : kv ≤ 5) (h0 : i = 0 → kv = 0) (h1 : i = 1 → kv = 3) (h2 : i = 2 → kv = 5) (ha : a ≤ 15) (hb : b ≤ 15) (hf : stV 2 kv ≤ fv ∧ fv ≤ stV 3 kv ∧ fv < 1000 ∧ stV 3 kv < 1000) (hs : sv ≤ 99) :
    SuI (i + 1) (va_up kd i kv) (va_up xs i a) (va_up ys i b) (va_up fi i fv) (va_up se i sv) (va_up ki i kv) (va_up (va_up pl (2 * i) a) (2 * i + 1) b) := by
  obtain ⟨s1, s2, s3, s4, s5, s6⟩ := h
  have hst : ∀ k, k < 6 → stV 3 k ≤ 8 ∧ (k = 0 → stV 3 k ≤ 7) ∧ (k = 1 → 1 ≤ stV 2 k) := by decide +kernel
  have q := hst kv (by omega)
  refine ⟨?_, ?_, ?_, ?_, ?_, ?_⟩
  · intro j hj
    by_cases e : j = i
    · subst e
      rw [upS, upS, upS, upS, upS, upN (show 2 * j ≠ 2 * j + 1 by omega), upS, upS]
      refine ⟨rfl, rfl, rfl, ?_, hs⟩
      unfold PtOk
      rw [upS, upS, upS]
      exact ⟨hk, by omega, by omega, fun z => by have := q.2.1 z; omega, fun z => by have := q.2.2 z; omega⟩
    · obtain ⟨a1, a2, a3, a4, a5⟩ := s1 j (by omega)
      unfold PtOk at a4 ⊢
      rw [upN e, upN e, upN e, upN e, upN e, upN e, upN (show 2 * j ≠ 2 * i + 1 by omega), upN (show 2 * j ≠ 2 * i by omega), upN (show 2 * j + 1 ≠ 2 * i + 1 by omega), upN (show 2 * j + 1 ≠ 2 * i by omega)]
      exact ⟨a1, a2, a3, a4, a5⟩
  · intro j hj
    rw [upN (show j ≠ i by omega)]; exact s2 j (by omega)
  · intro j
    by_cases e : j = i
    · rw [e, upS, upS]; exact ⟨ha, hb⟩
    · rw [upN e, upN e]; exact s3 j
  · intro _
    by_cases e : 0 = i
    · subst e; rw [upS]; exact h0 rfl
    · rw [upN e]; exact s4 (by omega)
  · intro _
    by_cases e : 1 = i
    · subst e; rw [upS]; exact h1 rfl
    · rw [upN e]; exact s5 (by omega)
  · intro _
    by_cases e : 2 = i
    · subst e; rw [upS]; exact h2 rfl
    · rw [upN e]; exact s6 (by omega)
theorem mn_0 {kd xs ys fi se ki pl : Nat → Nat} (h : SuI 10 kd xs ys fi se ki pl) : MnOk 10 0 kd fi (fun _ => 0) ((fun _ => 0, fun _ => 0, fun _ => 0, fun _ => 0, fun _ => 0, 0, 0, 0, 0), (fun _ => 0), se, (fun _ => 0), (fun _ => 0), (fun _ => 0), (fun _ => 0), (fun _ => 0)) := by
  obtain ⟨s1, s2, s3, s4, s5, s6⟩ := h
  refine ⟨⟨by omega, fun j hj => (s1 j hj).2.2.2.1, fun j hj => Nat.le_trans (s1 j hj).2.2.2.2 (by omega), fun _ _ => Or.inl rfl, fun q hq _ => s2 q hq⟩, fun j hj => (s1 j hj).2.2.2.2, ?_, fun _ _ z => absurd rfl z, fun _ _ => Nat.zero_le _, fun _ _ => Nat.zero_le _, 0, fun _ => 0, Nat.zero_le _, tk_0⟩
  intro j hj
  exact ⟨Nat.zero_le _, Nat.zero_le _, Nat.zero_le _, fun z => absurd rfl z⟩
