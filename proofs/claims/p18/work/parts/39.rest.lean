/-! What the class's public methods need of numbers and codes (first written beside the reference). -/
def tN (x : Int32) : Nat := x.toNatClampNeg
theorem tN_eq' {a : Nat} {x : Int32} (ha : a < 2 ^ 31) (h : nI a ≤ x) : x = nI (tN x) := by
  apply Int32.toInt_inj.mp
  have h1 := nI_toInt (n := a) ha
  have h2 := Int32.le_iff_toInt_le.mp h
  have h3 : tN x < 2 ^ 31 := by
    have := Int32.toInt_lt x
    show x.toInt.toNat < _
    omega
  rw [nI_toInt h3]
  show x.toInt = ((x.toInt.toNat : Nat) : Int)
  omega
theorem tN_le {x : Int32} {b : Nat} (hb : b < 2 ^ 31) (h : x ≤ nI b) : tN x ≤ b := by
  have h1 := nI_toInt (n := b) hb
  have h2 := Int32.le_iff_toInt_le.mp h
  show x.toInt.toNat ≤ _
  omega
theorem tN_eq {x y : Int32} (h : nI 0 ≤ x ∧ x ≤ y) : x = nI (tN x) := tN_eq' (by omega) h.1
theorem cL_le {x : Int32} {n : Nat} (hn : n < 2 ^ 30) (h : nI 0 ≤ x ∧ x ≤ cL n) : tN x < n := by
  cases n with
  | zero =>
    have h1 := Int32.le_iff_toInt_le.mp h.1
    have h2 := Int32.le_iff_toInt_le.mp h.2
    have h3 : (cL 0).toInt = -1 := by decide
    have h4 : (nI 0).toInt = 0 := by decide
    omega
  | succ n =>
    have h2 := h.2
    rw [cL_s] at h2
    have := tN_le (by omega) h2
    omega
def spaC (x : Int32) : Nat := if nI 0 ≤ x ∧ x ≤ nI 15 then 0 else 1
theorem spaC_0 {x : Int32} (h : spaC x = 0) : nI 0 ≤ x ∧ x ≤ nI 15 := Decidable.byContradiction fun q => by rw [spaC, if_neg q] at h; exact absurd h (by decide)

abbrev PaP (xa xb xc xd xe : Int32) : Prop := (nI 0 ≤ xa ∧ xa ≤ nI 5) ∧ (nI 0 ≤ xb ∧ xb ≤ nI 15) ∧ (nI 0 ≤ xc ∧ xc ≤ nI 15) ∧ (nI (stV 2 (tN xa)) ≤ xd ∧ xd ≤ nI (stV 3 (tN xa))) ∧ (nI 0 ≤ xe ∧ xe ≤ nI (stV 4 (tN xa)))
def parC (n : Nat) (xa xb xc xd xe : Int32) : Nat := if PaP xa xb xc xd xe then (if n = 16 then 2 else 0) else 1
theorem parC_0 {n : Nat} {xa xb xc xd xe : Int32} (h : parC n xa xb xc xd xe = 0) : PaP xa xb xc xd xe ∧ ¬ n = 16 := by
  unfold parC at h
  split at h
  · rename_i q
    split at h
    · exact absurd h (by decide)
    · exact ⟨q, by assumption⟩
  · exact absurd h (by decide)
theorem stV2_lt {k : Nat} (h : k ≤ 5) : stV 2 k < 2 ^ 31 := by
  have : ∀ k, k < 6 → stV 2 k < 2 ^ 31 := by decide +kernel
  exact this k (by omega)

def setC (n : Nat) (kd : Nat → Nat) (xp xv : Int32) : Nat := if nI 0 ≤ xp ∧ xp ≤ cL n then (if nI 0 ≤ xv ∧ xv ≤ nI (stV 4 (kd (tN xp))) then 0 else 2) else 1
theorem setC_0 {n : Nat} {kd : Nat → Nat} {xp xv : Int32} (h : setC n kd xp xv = 0) : (nI 0 ≤ xp ∧ xp ≤ cL n) ∧ (nI 0 ≤ xv ∧ xv ≤ nI (stV 4 (kd (tN xp)))) := by
  unfold setC at h
  split at h
  · split at h
    · exact ⟨by assumption, by assumption⟩
    · exact absurd h (by decide)
  · exact absurd h (by decide)
def tkM (le : Nat → Nat) (fr t : Nat) : Nat → Nat → Nat
  | 0, c => c
  | k + 1, c => if le k = t ∧ ¬ k = fr then 2 else tkM le fr t k c
theorem tkM_s (le : Nat → Nat) (fr t k c : Nat) : tkM le fr t (k + 1) c = if le k = t ∧ ¬ k = fr then 2 else tkM le fr t k c := rfl
def leaC (n : Nat) (kd le : Nat → Nat) (xp xo xq xi : Int32) : Nat := if ((nI 0 ≤ xp ∧ xp ≤ cL n) ∧ (nI 0 ≤ xo ∧ xo ≤ cL (stV 1 (kd (tN xp))))) ∧ ((nI 0 ≤ xq ∧ xq ≤ cL n) ∧ (nI 0 ≤ xi ∧ xi ≤ cL (stV 0 (kd (tN xq))))) then tkM le (2 * tN xp + tN xo) (2 * tN xq + tN xi + 1) 32 0 else 1
theorem stV1_le {k : Nat} (h : k ≤ 5) : stV 1 k ≤ 2 := by
  have : ∀ k, k < 6 → stV 1 k ≤ 2 := by decide +kernel
  exact this k (by omega)
theorem stV0_le {k : Nat} (h : k ≤ 5) : stV 0 k ≤ 2 := by
  have : ∀ k, k < 6 → stV 0 k ≤ 2 := by decide +kernel
  exact this k (by omega)

def leaA (n : Nat) (kd : Nat → Nat) (xp xo xq xi : Int32) : Nat := if ((nI 0 ≤ xp ∧ xp ≤ cL n) ∧ (nI 0 ≤ xo ∧ xo ≤ cL (stV 1 (kd (tN xp))))) ∧ ((nI 0 ≤ xq ∧ xq ≤ cL n) ∧ (nI 0 ≤ xi ∧ xi ≤ cL (stV 0 (kd (tN xq))))) then 0 else 1
theorem leaA_0 {n : Nat} {kd : Nat → Nat} {xp xo xq xi : Int32} (h : leaA n kd xp xo xq xi = 0) : ((nI 0 ≤ xp ∧ xp ≤ cL n) ∧ (nI 0 ≤ xo ∧ xo ≤ cL (stV 1 (kd (tN xp))))) ∧ ((nI 0 ≤ xq ∧ xq ≤ cL n) ∧ (nI 0 ≤ xi ∧ xi ≤ cL (stV 0 (kd (tN xq))))) := Decidable.byContradiction fun q => by rw [leaA, if_neg q] at h; exact absurd h (by decide)
theorem leaC_A {n : Nat} {kd le : Nat → Nat} {xp xo xq xi : Int32} (h : leaA n kd xp xo xq xi = 0) : leaC n kd le xp xo xq xi = tkM le (2 * tN xp + tN xo) (2 * tN xq + tN xi + 1) 32 0 := if_pos (leaA_0 h)
theorem leaC_B {n : Nat} {kd le : Nat → Nat} {xp xo xq xi : Int32} (h : ¬ leaA n kd xp xo xq xi = 0) : leaC n kd le xp xo xq xi = leaA n kd xp xo xq xi := by
  unfold leaA leaC at *
  split
  · rename_i q
    rw [if_pos q] at h
    exact absurd rfl h
  · rfl

def cutC (n : Nat) (kd : Nat → Nat) (xp xo : Int32) : Nat := if ((nI 0 ≤ xp ∧ xp ≤ cL n) ∧ (nI 0 ≤ xo ∧ xo ≤ cL (stV 1 (kd (tN xp))))) then 0 else 1
theorem cutC_0 {n : Nat} {kd : Nat → Nat} {xp xo : Int32} (h : cutC n kd xp xo = 0) : ((nI 0 ≤ xp ∧ xp ≤ cL n) ∧ (nI 0 ≤ xo ∧ xo ≤ cL (stV 1 (kd (tN xp))))) := Decidable.byContradiction fun q => by rw [cutC, if_neg q] at h; exact absurd h (by decide)

def tC (x : Int32) : Nat := (x.toInt + 1).toNat
theorem tC_eq {x y : Int32} (h : -1 ≤ x ∧ x ≤ y) : x = cL (tC x) := by
  have h2 := Int32.le_iff_toInt_le.mp h.1
  have h3 : (-1 : Int32).toInt = -1 := by decide
  have h4 := Int32.toInt_lt x
  rw [h3] at h2
  by_cases h5 : tC x = 0
  · have h6 : x.toInt = -1 := by
      have : (x.toInt + 1).toNat = 0 := h5
      omega
    rw [h5]
    apply Int32.toInt_inj.mp
    rw [h6]
    decide
  · rw [cL_pos h5]
    apply Int32.toInt_inj.mp
    have h6 : ((tC x : Nat) : Int) = x.toInt + 1 := Int.toNat_of_nonneg (by omega)
    rw [nI_toInt (by omega)]
    omega
theorem tC_le {x : Int32} {b : Nat} (hb : b < 2 ^ 31) (h : x ≤ nI b) : tC x ≤ b + 1 := by
  have h1 := nI_toInt (n := b) hb
  have h2 := Int32.le_iff_toInt_le.mp h
  show (x.toInt + 1).toNat ≤ _
  omega
def locC (n : Nat) (kd : Nat → Nat) (xp xc : Int32) : Nat := if (nI 0 ≤ xp ∧ xp ≤ cL n) then (if (-1 ≤ xc ∧ xc ≤ nI 7) then (if kd (tN xp) = 3 then 0 else 3) else 2) else 1
theorem locC_0 {n : Nat} {kd : Nat → Nat} {xp xc : Int32} (h : locC n kd xp xc = 0) : (nI 0 ≤ xp ∧ xp ≤ cL n) ∧ (-1 ≤ xc ∧ xc ≤ nI 7) ∧ kd (tN xp) = 3 := by
  unfold locC at h
  split at h
  · split at h
    · split at h
      · exact ⟨by assumption, by assumption, by assumption⟩
      · exact absurd h (by decide)
    · exact absurd h (by decide)
  · exact absurd h (by decide)

def cfB (xs ys : Nat → Nat) (lst p q acc : Nat) : Nat := acc + (if dst xs ys p q < lst then 1 else 0)
def cfP (xs ys : Nat → Nat) (lst p acc : Nat) : Nat := rp (cfB xs ys lst p) p acc
def cfA (xs ys : Nat → Nat) (lst n : Nat) : Nat := rp (cfP xs ys lst) n 0

def ofpC (n : Nat) (xp xw : Int32) : Nat := if (nI 0 ≤ xp ∧ xp ≤ cL n) then (if (nI 0 ≤ xw ∧ xw ≤ nI 5) then 0 else 2) else 1
theorem ofpC_0 {n : Nat} {xp xw : Int32} (h : ofpC n xp xw = 0) : (nI 0 ≤ xp ∧ xp ≤ cL n) ∧ (nI 0 ≤ xw ∧ xw ≤ nI 5) := by
  unfold ofpC at h
  split at h
  · split at h
    · exact ⟨by assumption, by assumption⟩
    · exact absurd h (by decide)
  · exact absurd h (by decide)
def comC (n : Nat) (kd : Nat → Nat) (xq xi xc : Int32) : Nat := if ((nI 0 ≤ xq ∧ xq ≤ cL n) ∧ (nI 0 ≤ xi ∧ xi ≤ cL (stV 0 (kd (tN xq))))) then (if (nI 0 ≤ xc ∧ xc ≤ nI 7) then 0 else 2) else 1
theorem comC_0 {n : Nat} {kd : Nat → Nat} {xq xi xc : Int32} (h : comC n kd xq xi xc = 0) : ((nI 0 ≤ xq ∧ xq ≤ cL n) ∧ (nI 0 ≤ xi ∧ xi ≤ cL (stV 0 (kd (tN xq))))) ∧ (nI 0 ≤ xc ∧ xc ≤ nI 7) := by
  unfold comC at h
  split at h
  · split at h
    · exact ⟨by assumption, by assumption⟩
    · exact absurd h (by decide)
  · exact absurd h (by decide)

def seeC (n : Nat) (kd : Nat → Nat) (xp xc : Int32) : Nat := if (nI 0 ≤ xp ∧ xp ≤ cL n) then (if (-1 ≤ xc ∧ xc ≤ nI 7) then (if kd (tN xp) = 5 then 0 else 3) else 2) else 1
theorem seeC_0 {n : Nat} {kd : Nat → Nat} {xp xc : Int32} (h : seeC n kd xp xc = 0) : (nI 0 ≤ xp ∧ xp ≤ cL n) ∧ (-1 ≤ xc ∧ xc ≤ nI 7) ∧ kd (tN xp) = 5 := by
  unfold seeC at h
  split at h
  · split at h
    · split at h
      · exact ⟨by assumption, by assumption, by assumption⟩
      · exact absurd h (by decide)
    · exact absurd h (by decide)
  · exact absurd h (by decide)

def accC (xw : Int32) : Nat := if nI 0 ≤ xw ∧ xw ≤ nI 4 then 0 else 1
theorem accC_0 {xw : Int32} (h : accC xw = 0) : nI 0 ≤ xw ∧ xw ≤ nI 4 := Decidable.byContradiction fun q => by rw [accC, if_neg q] at h; exact absurd h (by decide)
def tO (x : Int32) : Nat := (x.toInt + 8).toNat
theorem tO_eq {x : Int32} (h : -8 ≤ x ∧ x ≤ nI 8) : x = cO (tO x) ∧ tO x ≤ 16 := by
  have h2 := Int32.le_iff_toInt_le.mp h.1
  have h3 : (-8 : Int32).toInt = -8 := by decide
  have h4 := Int32.le_iff_toInt_le.mp h.2
  have h5 : (nI 8).toInt = 8 := by decide
  have h6 : ((tO x : Nat) : Int) = x.toInt + 8 := Int.toNat_of_nonneg (by omega)
  refine ⟨?_, by omega⟩
  show x = nI (tO x) - nI 8
  apply Int32.toInt_inj.mp
  rw [pk_sub_toInt (by omega) (by omega)]
  omega
def triC (n : Nat) (kd : Nat → Nat) (xp xo xt : Int32) : Nat := if (nI 0 ≤ xp ∧ xp ≤ cL n) then (if (-8 ≤ xo ∧ xo ≤ nI 8) ∧ (nI 1 ≤ xt ∧ xt ≤ nI 100) then (if kd (tN xp) = 5 then 0 else 3) else 2) else 1
theorem triC_0 {n : Nat} {kd : Nat → Nat} {xp xo xt : Int32} (h : triC n kd xp xo xt = 0) : (nI 0 ≤ xp ∧ xp ≤ cL n) ∧ ((-8 ≤ xo ∧ xo ≤ nI 8) ∧ (nI 1 ≤ xt ∧ xt ≤ nI 100)) ∧ kd (tN xp) = 5 := by
  unfold triC at h
  split at h
  · split at h
    · split at h
      · exact ⟨by assumption, by assumption, by assumption⟩
      · exact absurd h (by decide)
    · exact absurd h (by decide)
  · exact absurd h (by decide)

def yieC (n : Nat) (kd : Nat → Nat) (xp xt : Int32) (xn : Int64) : Nat := if (nI 0 ≤ xp ∧ xp ≤ cL n) then (if (nI 1 ≤ xt ∧ xt ≤ nI 100) ∧ ¬ (xn < 0) then (if kd (tN xp) = 5 then 0 else 3) else 2) else 1
theorem yieC_0 {n : Nat} {kd : Nat → Nat} {xp xt : Int32} {xn : Int64} (h : yieC n kd xp xt xn = 0) : (nI 0 ≤ xp ∧ xp ≤ cL n) ∧ ((nI 1 ≤ xt ∧ xt ≤ nI 100) ∧ ¬ (xn < 0)) ∧ kd (tN xp) = 5 := by
  unfold yieC at h
  split at h
  · split at h
    · split at h
      · exact ⟨by assumption, by assumption, by assumption⟩
      · exact absurd h (by decide)
    · exact absurd h (by decide)
  · exact absurd h (by decide)
def HsQ (n : Nat) (kd fi : Nat → Nat) (S : zHS) : Prop := HsOk S ∧ ∀ j, j < n → PtOk kd fi S.1 j
theorem PtOk_up {kd fi se : Nat → Nat} {i v j : Nat} (h : PtOk kd fi se j) (hv : v ≤ 99) : PtOk kd fi (va_up se i v) j := by
  obtain ⟨h1, h2, h3, h4, h5⟩ := h
  refine ⟨h1, h2, ?_, h4, h5⟩
  unfold va_up
  split
  · omega
  · exact h3
theorem huQ_ok {n : Nat} {kd fi : Nat → Nat} {cr : Nat → Int64} {i : Nat} {S : zHS} (hi : i < 16) (h : HsQ n kd fi S) : HsQ n kd fi (huS cr i S) := by
  refine ⟨huS_ok hi h.1, fun j hj => ?_⟩
  unfold huS
  split
  · exact h.2 j hj
  · rename_i hc
    exact PtOk_up (h.2 j hj) (hct_le ((h.1 i hi).2.2.2 hc).1)
theorem PtK {n : Nat} {kd fi se : Nat → Nat} (h : ∀ j, j < n → PtOk kd fi se j) : ∀ j, j < n → kd j ≤ 5 ∧ se j < 1000 := fun j hj => ⟨(h j hj).1, (h j hj).2.2.1⟩
def runC (tk : Nat) (xt : Int32) : Nat := if (nI 1 ≤ xt ∧ xt ≤ nI 100) then (if tk + tN xt ≤ 20000 then 0 else 2) else 1
theorem runC_0 {tk : Nat} {xt : Int32} (h : runC tk xt = 0) : (nI 1 ≤ xt ∧ xt ≤ nI 100) ∧ tk + tN xt ≤ 20000 := by
  unfold runC at h
  split at h
  · split at h
    · exact ⟨by assumption, by assumption⟩
    · exact absurd h (by decide)
  · exact absurd h (by decide)

