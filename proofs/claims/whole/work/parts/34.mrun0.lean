theorem huM_eq {ov : Nat → Int64} {i : Nat} {S : zHS} (h : S.2.2.2.2.1 i ≤ 7) : huM ov i S = huO i (ov i) S := by
  have h1 : hnK (ov i) (S.2.2.2.2.1 i) ≤ 8 := by unfold hnK; split <;> omega
  have h2 : va_up S.2.2.2.1 i (hnD (ov i) (S.2.2.2.2.2 i) (S.2.2.2.1 i)) = if ov i < S.2.2.2.2.2 i then va_up S.2.2.2.1 i (ngD (S.2.2.2.1 i)) else S.2.2.2.1 := by
    unfold hnD
    split
    · rfl
    · funext j
      by_cases q : j = i
      · subst q; exact va_up_same _ _ _
      · exact va_up_other q
  unfold huM huO
  rw [h2]
  by_cases q : hnK (ov i) (S.2.2.2.2.1 i) = 8
  · simp only [q, if_true, Nat.le_refl]
  · have q2 : ¬ 8 ≤ hnK (ov i) (S.2.2.2.2.1 i) := by omega
    simp only [q, q2, if_false]
def hsM (ov : Nat → Int64) (i : Nat) (S : zHS) : zHS := if S.2.1 i = 0 then S else huM ov i S
theorem hsM_0 {ov : Nat → Int64} {i : Nat} {S : zHS} (h : S.2.1 i = 0) : hsM ov i S = S := if_pos h
theorem hsM_1 {ov : Nat → Int64} {i : Nat} {S : zHS} (h : ¬ S.2.1 i = 0) : hsM ov i S = huM ov i S := if_neg h
def HsQ (n : Nat) (kd fi : Nat → Nat) (S : zHS) : Prop := HsOk S ∧ ∀ j, j < n → PtOk kd fi S.1 j
theorem PtOk_up {kd fi se : Nat → Nat} {i v j : Nat} (h : PtOk kd fi se j) (hv : v ≤ 99) : PtOk kd fi (va_up se i v) j := by
  obtain ⟨h1, h2, h3, h4, h5⟩ := h
  refine ⟨h1, h2, ?_, h4, h5⟩
  unfold va_up
  split
  · omega
  · exact h3
theorem huQ_ok {n : Nat} {kd fi : Nat → Nat} {cr : Nat → Int64} {i : Nat} {S : zHS} (hi : i < 16) (h : HsQ n kd fi S) : HsQ n kd fi (huS cr i S) := by
  refine ⟨huS_ok hi h.1, fun j hj => ?_⟩
  unfold huS
  split
  · exact h.2 j hj
  · rename_i hc
    exact PtOk_up (h.2 j hj) (hct_le ((h.1 i hi).2.2.2 hc).1)
/-- the reference hunts as the class does, where over is what was given over on the locked channel -/
theorem hsM_eq {ov cr : Nat → Int64} {i : Nat} {S : zHS} (hi : i < 16) (h : HsOk S) (ho : ¬ S.2.1 i = 0 → ov i = cr (i * 8 + (S.2.1 i - 1))) : hsM ov i S = huS cr i S := by
  unfold hsM huS
  split
  · rfl
  · rename_i hc
    rw [huM_eq ((h i hi).2.2.2 hc).2, ho hc]
theorem hsQ_ok {n : Nat} {kd fi : Nat → Nat} {ov : Nat → Int64} {i : Nat} {S : zHS} (hi : i < 16) (h : HsQ n kd fi S) : HsQ n kd fi (hsM ov i S) := by
  have e : hsM ov i S = huS (fun _ => ov i) i S := hsM_eq hi h.1 (fun _ => rfl)
  rw [e]
  exact huQ_ok hi h
abbrev zR : Type := zM7 × (Nat → Int64) × (Nat → Nat) × (Nat → Nat) × zHS
def rnX (n : Nat) (kd fi le ofm : Nat → Nat) (r : zR) : zM7 := goX n kd fi r.2.2.2.2.1 le r.2.2.2.2.2.1 r.2.2.2.1 r.2.2.1 ofm r.2.1 0 r.1
def rnM (n : Nat) (kd xs ys fi le ofm : Nat → Nat) (_ : Nat) (r : zR) : zR :=
  (rnX n kd fi le ofm r, cpF r.2.1 (rnX n kd fi le ofm r).1 0 256, va_up r.2.2.1 0 (r.2.2.1 0 + 1), rp (wmB n kd xs ys r.2.2.2.2.1) n r.2.2.2.1, rp (hsM (rnX n kd fi le ofm r).2.1) n r.2.2.2.2)
theorem rnM_t (n : Nat) (kd xs ys fi le ofm : Nat → Nat) (k : Nat) (r : zR) : (rnM n kd xs ys fi le ofm k r).2.2.1 0 = r.2.2.1 0 + 1 := by
  show va_up r.2.2.1 0 (r.2.2.1 0 + 1) 0 = r.2.2.1 0 + 1
  exact va_up_same _ _ _
def RnOk (n : Nat) (kd fi : Nat → Nat) (r : zR) : Prop := HsQ n kd fi r.2.2.2.2 ∧ ∀ j, j < 32 → r.2.2.2.1 j ≤ 20000
theorem PtK {n : Nat} {kd fi se : Nat → Nat} (h : ∀ j, j < n → PtOk kd fi se j) : ∀ j, j < n → kd j ≤ 5 ∧ se j < 1000 := fun j hj => ⟨(h j hj).1, (h j hj).2.2.1⟩
theorem wmN_le {n : Nat} {kd xs ys se w : Nat → Nat} {i : Nat} (hn : n ≤ 16) (hi : i < n) (h : ∀ j, j < n → kd j ≤ 5 ∧ se j < 1000) (hw : ∀ j, j < 32 → w j ≤ 20000) : ∀ j, j < 32 → wmB n kd xs ys se i w j ≤ 20000 := by
  intro j hj
  unfold wmB
  split
  · unfold va_up
    split
    · exact wst_le (tgt_le hn hi h) (hw i (by omega))
    · exact hw j hj
  · exact hw j hj
theorem wmR_le {n : Nat} {kd xs ys se w : Nat → Nat} (hn : n ≤ 16) (h : ∀ j, j < n → kd j ≤ 5 ∧ se j < 1000) (hw : ∀ j, j < 32 → w j ≤ 20000) : ∀ i, i ≤ n → ∀ j, j < 32 → rp (wmB n kd xs ys se) i w j ≤ 20000 := by
  intro i
  induction i with
  | zero => intro _; exact hw
  | succ i ih => intro hi; rw [rp_s]; exact wmN_le hn (by omega) h (ih (by omega))
theorem hsR_ok {n : Nat} {kd fi : Nat → Nat} {ov : Nat → Int64} {S : zHS} (hn : n ≤ 16) (h : HsQ n kd fi S) : ∀ i, i ≤ n → HsQ n kd fi (rp (hsM ov) i S) := by
  intro i
  induction i with
  | zero => intro _; exact h
  | succ i ih => intro hi; rw [rp_s]; exact hsQ_ok (by omega) (ih (by omega))
theorem rnM_ok {n : Nat} {kd xs ys fi le ofm : Nat → Nat} {k : Nat} {r : zR} (hn : n ≤ 16) (h : RnOk n kd fi r) : RnOk n kd fi (rnM n kd xs ys fi le ofm k r) :=
  ⟨hsR_ok hn h.1 n (Nat.le_refl n), wmR_le hn (PtK h.1.2) h.2 n (Nat.le_refl n)⟩
def runC (tk : Nat) (xt : Int32) : Nat := if (nI 1 ≤ xt ∧ xt ≤ nI 100) then (if tk + tN xt ≤ 20000 then 0 else 2) else 1
theorem runC_lt (tk : Nat) (xt : Int32) : runC tk xt < 4 := by unfold runC; repeat (first | omega | split)
theorem runC_0 {tk : Nat} {xt : Int32} (h : runC tk xt = 0) : (nI 1 ≤ xt ∧ xt ≤ nI 100) ∧ tk + tN xt ≤ 20000 := by
  unfold runC at h
  split at h
  · split at h
    · exact ⟨by assumption, by assumption⟩
    · exact absurd h (by decide)
  · exact absurd h (by decide)
