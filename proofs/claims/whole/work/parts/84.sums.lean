/-! Sums of long rows; what is given, place by place. -/
def sU (f : Nat → Int64) (n : Nat) : Int64 := rp (fun i x => x + f i) n 0
theorem sU_s (f : Nat → Int64) (n : Nat) : sU f (n + 1) = sU f n + f n := rfl
theorem sU_congr {f g : Nat → Int64} {n : Nat} (h : ∀ i, i < n → f i = g i) : sU f n = sU g n := by
  induction n with
  | zero => rfl
  | succ n ih => rw [sU_s, sU_s, ih (fun i hi => h i (by omega)), h n (by omega)]
theorem sU_zero {f : Nat → Int64} {n : Nat} (h : ∀ i, i < n → f i = 0) : sU f n = 0 := by
  induction n with
  | zero => rfl
  | succ n ih => rw [sU_s, ih (fun i hi => h i (by omega)), h n (by omega)]; rfl
theorem sU_ge (f : Nat → Int64) {n i : Nat} (v : Int64) (h : n ≤ i) : sU (va_up f i v) n = sU f n :=
  sU_congr (fun j hj => va_up_ne f v (by omega))
theorem sU_up (f : Nat → Int64) {n i : Nat} (v : Int64) (hi : i < n) : sU (va_up f i v) n = sU f n + (v - f i) := by
  induction n with
  | zero => exact absurd hi (by omega)
  | succ n ih =>
    rw [sU_s, sU_s]
    by_cases q : i = n
    · subst q
      rw [sU_ge f v (Nat.le_refl _), va_up_self]
      grind
    · rw [ih (by omega), va_up_ne f v (show n ≠ i by omega)]
      grind
theorem i64_a0 (x : Int64) : x + 0 = x := by grind
theorem i64_m0 (x : Int64) : 0 * x / 100 = 0 := by
  rw [show (0 : Int64) * x = 0 by grind]; decide
theorem gvG_at (L ch : Nat) (ph : Int64) (gi : Nat → Int64) (k : Nat) : gvG L ch ph gi k = gi k + (if ¬ L = 0 ∧ k = (L - 1) * 8 + ch then ph else 0) := by
  unfold gvG
  by_cases hL : L = 0
  · rw [if_pos hL, if_neg (fun q => q.1 hL), i64_a0]
  · rw [if_neg hL]
    by_cases hk : k = (L - 1) * 8 + ch
    · subst hk
      rw [va_up_self, if_pos ⟨hL, rfl⟩]
    · rw [va_up_ne gi _ hk, if_neg (fun q => hk q.2), i64_a0]
theorem mvG_at (L ch : Nat) (ph : Int64) (tn : Nat → Int64) (k : Nat) : mvG L ch ph tn k = tn k + (if ¬ L = 0 ∧ k = (L - 1) * 8 + ch then ph else 0) := by
  unfold mvG
  by_cases hL : L = 0
  · rw [if_pos hL, if_neg (fun q => q.1 hL), i64_a0]
  · rw [if_neg hL]
    by_cases hk : k = (L - 1) * 8 + ch
    · rw [if_pos ⟨hL, hk⟩, show 8 * (L - 1) + ch = k by omega, va_up_self]
    · rw [va_up_ne tn _ (show k ≠ 8 * (L - 1) + ch by omega), if_neg (fun q => hk q.2), i64_a0]
theorem gvL_at (L : Nat) (ph lk : Int64) : gvL L ph lk = lk + (if L = 0 then ph else 0) := by
  unfold gvL; split <;> grind
theorem mvL_0 (L : Nat) (ph lk : Int64) : mvL 0 L ph lk = lk + (if L = 0 then ph else 0) := by
  unfold mvL; split <;> grind
theorem mvL_1 {bb : Nat} (h : ¬ bb = 0) (L : Nat) (ph lk : Int64) : mvL bb L ph lk = lk := by
  unfold mvL
  by_cases q : L = 0
  · rw [if_pos q, if_neg h]
  · rw [if_neg q]
theorem mvO_0 (ph gn : Int64) : mvO 0 ph gn = gn + ph := by unfold mvO; rw [if_pos rfl]
theorem mvO_1 {bb : Nat} (h : ¬ bb = 0) (ph gn : Int64) : mvO bb ph gn = gn := by unfold mvO; rw [if_neg h, i64_a0]
theorem gv_sum {L ch : Nat} (ph : Int64) (gi : Nat → Int64) (lk : Int64) (hL : L ≤ 32) (hc : ch < 8) : sU (gvG L ch ph gi) 256 + gvL L ph lk = sU gi 256 + lk + ph := by
  unfold gvG gvL
  by_cases h : L = 0
  · rw [if_pos h, if_pos h]; grind
  · rw [if_neg h, if_neg h, sU_up gi _ (show (L - 1) * 8 + ch < 256 by omega)]; grind
