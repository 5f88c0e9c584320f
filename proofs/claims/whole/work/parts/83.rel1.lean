/-! The mathematics: class against reference. First: two loops hand in hand; sums; giving. -/
theorem rp_sim {α β : Type} (f : Nat → α → α) (g : Nat → β → β) (R : Nat → α → β → Prop) {n : Nat} {a : α} {b : β} (h0 : R 0 a b) (hs : ∀ i, i < n → ∀ x y, R i x y → R (i + 1) (f i x) (g i y)) : R n (rp f n a) (rp g n b) := by
  have key : ∀ k, k ≤ n → R k (rp f k a) (rp g k b) := by
    intro k
    induction k with
    | zero => intro _; exact h0
    | succ k ih => intro hk; rw [rp_s, rp_s]; exact hs k (by omega) _ _ (ih (by omega))
  exact key n (Nat.le_refl n)
/-- rows that agree from b on, w of them -/
def EqB (f g : Nat → Int64) (b w : Nat) : Prop := ∀ j, j < w → f j = g (b + j)
theorem EqB.at {f g : Nat → Int64} {b w j k : Nat} (h : EqB f g b w) (hj : j < w) (hk : k = b + j) : f j = g k := by rw [hk]; exact h j hj
theorem EqB.up {f g : Nat → Int64} {b w i k : Nat} {v u : Int64} (h : EqB f g b w) (hk : k = b + i) (hv : v = u) : EqB (va_up f i v) (va_up g k u) b w := by
  intro j hj
  subst hk hv
  show (if j = i then v else f j) = (if b + j = b + i then v else g (b + j))
  by_cases q : j = i
  · rw [if_pos q, if_pos (by omega)]
  · rw [if_neg q, if_neg (by omega)]; exact h j hj
theorem sAll_eq {sn sm : Nat → Int64} {bb pt : Nat} (hp : pt < 16) (h : EqB sn sm (128 * bb) 128) : sAll sn pt 8 = sAlM sm bb pt 8 := by
  refine rp_sim _ _ (fun _ x y => x = y) rfl (fun i hi x y e => ?_)
  show x + sn (pt * 8 + i) = y + sm (128 * bb + 8 * pt + i)
  rw [e, h.at (j := pt * 8 + i) (k := 128 * bb + 8 * pt + i) (by omega) (by omega)]
theorem gv_eq {gi tn : Nat → Int64} {L ch : Nat} {ph : Int64} (hL : L ≤ 32) (hc : ch < 8) (h : EqB gi tn 0 256) : EqB (gvG L ch ph gi) (mvG L ch ph tn) 0 256 := by
  unfold gvG mvG
  split
  · exact h
  · refine h.up (by omega) ?_
    congr 1
    exact h.at (by omega) (by omega)
