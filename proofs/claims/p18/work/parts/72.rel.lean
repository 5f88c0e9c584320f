/-! Trials, runs: what the law holds of the class between its calls. -/
theorem rs_at {n : Nat} {kd xs ys se wa : Nat → Nat} : ∀ k j, rp (rsB n kd xs ys se) k wa j = if j < k then (if kd j = 3 then tgt n kd xs ys se j else 0) else wa j := by
  intro k
  induction k with
  | zero => intro j; rw [if_neg (by omega)]; rfl
  | succ k ih =>
    intro j
    rw [rp_s]
    unfold rsB
    by_cases e : j = k
    · subst e; rw [upS, if_pos (show j < j + 1 by omega)]
    · rw [upN e]
      have h := ih j
      unfold rsB at h
      rw [h]
      by_cases q : j < k
      · rw [if_pos q, if_pos (show j < k + 1 by omega)]
      · rw [if_neg q, if_neg (show ¬ j < k + 1 by omega)]
theorem rs_can {n : Nat} {kd xs ys se wa : Nat → Nat} (h : ∀ j, n ≤ j → wa j = 0) : rp (rsB n kd xs ys se) n wa = rp (rsB n kd xs ys se) n (fun _ => 0) := by
  funext j
  rw [rs_at, rs_at]
  by_cases q : j < n
  · rw [if_pos q, if_pos q]
  · rw [if_neg q, if_neg q]; exact h j (by omega)
/-- lights that are the same but for what was given over in a tick -/
def NoCr (X Y : zLS) : Prop := X.1 = Y.1 ∧ X.2.1 = Y.2.1 ∧ X.2.2.1 = Y.2.2.1 ∧ X.2.2.2.2 = Y.2.2.2.2
theorem cp_cr {kd se le : Nat → Nat} {cen pt : Nat} {co gi cr cr' : Nat → Int64} {lk : Int64} : (rp (cpB kd se le cen pt) 8 (co, gi, cr, lk)).1 = (rp (cpB kd se le cen pt) 8 (co, gi, cr', lk)).1 ∧ (rp (cpB kd se le cen pt) 8 (co, gi, cr, lk)).2.1 = (rp (cpB kd se le cen pt) 8 (co, gi, cr', lk)).2.1 ∧ (rp (cpB kd se le cen pt) 8 (co, gi, cr, lk)).2.2.2 = (rp (cpB kd se le cen pt) 8 (co, gi, cr', lk)).2.2.2 := by
  refine rp_sim (cpB kd se le cen pt) (cpB kd se le cen pt) (fun _ x y => x.1 = y.1 ∧ x.2.1 = y.2.1 ∧ x.2.2.2 = y.2.2.2) (n := 8) (a := (co, gi, cr, lk)) (b := (co, gi, cr', lk)) ⟨rfl, rfl, rfl⟩ (fun c hc x y e => ?_)
  obtain ⟨a1, a2, a3, a4⟩ := x
  obtain ⟨b1, b2, b3, b4⟩ := y
  obtain ⟨e1, e2, e3⟩ := e
  dsimp only at e1 e2 e3
  subst e1 e2 e3
  unfold cpB
  dsimp only
  by_cases q : a1 ((pt * 2 + 0) * 8 + c) = 0 ∧ va_up a1 ((pt * 2 + 0) * 8 + c) 0 ((pt * 2 + 1) * 8 + c) = 0
  · simp only [if_pos q]
    exact ⟨trivial, trivial, trivial⟩
  · simp only [if_neg q]
    exact ⟨trivial, trivial, trivial⟩
theorem wk_cr {kd fi se le wa : Nat → Nat} {o tk p : Nat} {X Y : zLS} (h : NoCr X Y) : NoCr (wkS kd fi se le wa o tk p X) (wkS kd fi se le wa o tk p Y) := by
  obtain ⟨co, gi, un, cr, sn, em, lo, lk, de⟩ := X
  obtain ⟨co', gi', un', cr', sn', em', lo', lk', de'⟩ := Y
  obtain ⟨e1, e2, e3, e4⟩ := h
  dsimp only at e1 e2 e3 e4
  subst e1 e2 e3
  injection e4 with e5 e6
  injection e6 with e6 e7
  injection e7 with e7 e8
  injection e8 with e8 e9
  subst e5 e6 e7 e8 e9
  unfold wkS
  dsimp only
  by_cases k0 : kd p = 0
  · rw [if_pos k0, if_pos k0]; exact ⟨rfl, rfl, rfl, rfl⟩
  · rw [if_neg k0, if_neg k0]
    by_cases k1 : kd p = 1
    · rw [if_pos k1, if_pos k1]; exact ⟨rfl, rfl, rfl, rfl⟩
    · rw [if_neg k1, if_neg k1]
      by_cases k2 : kd p = 2 ∨ kd p = 3
      · rw [if_pos k2, if_pos k2]
        obtain ⟨q1, q2, q3⟩ := cp_cr (kd := kd) (se := se) (le := le) (cen := cnt fi wa o p) (pt := p) (co := co) (gi := gi) (cr := cr) (cr' := cr') (lk := lk)
        generalize rp (cpB kd se le (cnt fi wa o p) p) 8 (co, gi, cr, lk) = X at q1 q2 q3 ⊢
        generalize rp (cpB kd se le (cnt fi wa o p) p) 8 (co, gi, cr', lk) = Y at q1 q2 q3 ⊢
        refine ⟨q1, q2, rfl, ?_⟩
        show (sn, em, lo, X.2.2.2, de) = (sn, em, lo, Y.2.2.2, de)
        rw [q3]
      · rw [if_neg k2, if_neg k2]
        by_cases k4 : kd p = 4
        · rw [if_pos k4, if_pos k4]; exact ⟨rfl, rfl, rfl, rfl⟩
        · rw [if_neg k4, if_neg k4]; exact ⟨rfl, rfl, rfl, rfl⟩
theorem tk_cr {n : Nat} {kd fi se le wa : Nat → Nat} {o tk : Nat} {X Y : zLS} (h : NoCr X Y) : NoCr (tkS n kd fi se le wa o tk X) (tkS n kd fi se le wa o tk Y) := by
  have key := rp_sim (wkS kd fi se le wa o tk) (wkS kd fi se le wa o tk) (fun _ x y => NoCr x y) (n := n) h (fun _ _ _ _ e => wk_cr e)
  obtain ⟨q1, q2, q3, q4⟩ := key
  exact ⟨q2, q1, q3, q4⟩
theorem tr_can {n : Nat} {kd xs ys fi se le wa : Nat → Nat} {cr : Nat → Int64} {oo nt : Nat} (h : ∀ j, n ≤ j → wa j = 0) : NoCr (trS n kd xs ys fi se le wa (fun _ => 0) cr oo nt) (trS n kd xs ys fi se le (fun _ => 0) (fun _ => 0) (fun _ => 0) oo nt) := by
  unfold trS
  rw [rs_can h]
  exact rp_sim _ _ (fun _ x y => NoCr x y) (n := nt) ⟨rfl, rfl, rfl, rfl⟩ (fun _ _ _ _ e => tk_cr e)
/-- what the second detector sees in a trial -/
def tV (kd xs ys fi se le : Nat → Nat) (oo nt : Nat) : Int64 := sAll (trS 10 kd xs ys fi se le (fun _ => 0) (fun _ => 0) (fun _ => 0) oo nt).2.2.2.2.1 2 8
theorem tV_of {kd xs ys fi se le wa : Nat → Nat} {gi cr : Nat → Int64} {oo nt : Nat} (hg : gi = fun _ => 0) (h : ∀ j, 10 ≤ j → wa j = 0) : sAll (trS 10 kd xs ys fi se le wa gi cr oo nt).2.2.2.2.1 2 8 = tV kd xs ys fi se le oo nt := by
  subst hg
  have e := (tr_can (n := 10) (kd := kd) (xs := xs) (ys := ys) (fi := fi) (se := se) (le := le) (cr := cr) (oo := oo) (nt := nt) h).2.2.2
  unfold tV
  rw [e]
theorem cnt_8 {fi wa : Nat → Nat} {o q : Nat} : cnt fi wa (o + 8) q = cnt fi wa o q := by unfold cnt; omega
theorem wk_8 {kd fi se le wa : Nat → Nat} {o tk p : Nat} {S : zLS} : wkS kd fi se le wa (o + 8) tk p S = wkS kd fi se le wa o tk p S := by
  obtain ⟨co, gi, un, cr, sn, em, lo, lk, de⟩ := S
  unfold wkS
  rw [cnt_8]
theorem tV_8 {kd xs ys fi se le : Nat → Nat} {oo nt : Nat} : tV kd xs ys fi se le (oo + 8) nt = tV kd xs ys fi se le oo nt := by
  have h : ∀ wa, tkS 10 kd fi se le wa (oo + 8) = tkS 10 kd fi se le wa oo := by
    intro wa
    funext tk S
    unfold tkS
    rw [show wkS kd fi se le wa (oo + 8) tk = wkS kd fi se le wa oo tk from funext fun p => funext fun X => wk_8]
  unfold tV trS
  rw [h]
theorem rp_split {α : Type} (f : Nat → α → α) (m : Nat) (s : α) : ∀ d, rp f (m + d) s = rp (fun k => f (m + k)) d (rp f m s)
  | 0 => rfl
  | d + 1 => by rw [← Nat.add_assoc, rp_s, rp_s, rp_split f m s d]
theorem tk_run {n : Nat} {kd fi se le wa : Nat → Nat} {o tk em : Nat} {sn : Nat → Nat} {S : zLS} (F : FxN n kd fi se le) (h : TkN n kd fi tk em sn S) : ∀ d, em + d * pw kd se n ≤ 2000000000 → ∃ sn', (∀ j, sn j ≤ sn' j) ∧ TkN n kd fi (tk + d) (em + d * pw kd se n) sn' (rp (fun k => tkS n kd fi se le wa o (tk + k)) d S) := by
  intro d
  induction d with
  | zero => intro _; exact ⟨sn, fun _ => Nat.le_refl _, by rw [Nat.zero_mul]; exact h⟩
  | succ d ih =>
    intro hb
    have e : (d + 1) * pw kd se n = d * pw kd se n + pw kd se n := Nat.succ_mul d _
    obtain ⟨sn1, h1, h2⟩ := ih (by omega)
    obtain ⟨sn2, h3, h4⟩ := tk_tick (wa := wa) (o := o) F (by omega) h2
    refine ⟨sn2, fun j => Nat.le_trans (h1 j) (h3 j), ?_⟩
    rw [rp_s, e, ← Nat.add_assoc, ← Nat.add_assoc]
    exact h4
theorem tk_0 {n : Nat} {kd fi : Nat → Nat} {cr : Nat → Int64} : TkN n kd fi 0 0 (fun _ => 0) (fun _ => 0, fun _ => 0, fun _ => 0, cr, fun _ => 0, 0, 0, 0, 0) := by
  have z : ∀ k, sN (fun _ => 0) k = 0 := fun k => sN_zero (fun _ _ => rfl)
  refine ⟨fun _ => 0, fun _ => 0, fun _ => 0, 0, 0, rfl, rfl, rfl, rfl, rfl, rfl, rfl, ?_, fun _ _ => rfl, fun _ _ _ _ _ => rfl, ?_, ?_, fun _ _ _ _ _ => rfl⟩
  · rw [z]; rfl
  · intro q ch s _ _ _
    split <;> rfl
  · rw [z, z, z]
theorem pw_bd {n b : Nat} {kd se : Nat → Nat} (h : ∀ j, j < n → se j ≤ b) : pw kd se n ≤ n * b := by
  have key : ∀ k, k ≤ n → pw kd se k ≤ k * b := by
    intro k
    induction k with
    | zero => intro _; rw [Nat.zero_mul]; exact Nat.le_refl _
    | succ k ih =>
      intro hk
      rw [pw_s, Nat.succ_mul]
      have := ih (by omega)
      have := h k (by omega)
      split <;> omega
  exact key n (Nat.le_refl n)
theorem tr_tk {kd xs ys fi se le wa : Nat → Nat} {cr : Nat → Int64} {oo nt : Nat} (F : FxN 10 kd fi se le) (hnt : nt ≤ 100) : ∃ sn, TkN 10 kd fi nt (nt * pw kd se 10) sn (trS 10 kd xs ys fi se le wa (fun _ => 0) cr oo nt) := by
  have hp := pw_bd (kd := kd) F.2.2.1
  have hb : nt * pw kd se 10 ≤ 100 * 1000 := Nat.mul_le_mul hnt (by omega)
  obtain ⟨sn, -, h⟩ := tk_run (wa := rp (rsB 10 kd xs ys se) 10 wa) (o := oo) F (tk_0 (n := 10) (kd := kd) (fi := fi) (cr := cr)) nt (by omega)
  refine ⟨sn, ?_⟩
  rw [Nat.zero_add, Nat.zero_add] at h
  unfold trS
  rw [show tkS 10 kd fi se le (rp (rsB 10 kd xs ys se) 10 wa) oo = fun k => tkS 10 kd fi se le (rp (rsB 10 kd xs ys se) 10 wa) oo (0 + k) from funext fun k => by rw [Nat.zero_add]]
  exact h
theorem sAll_n (sn : Nat → Nat) (pt : Nat) : ∀ k, sAll (lF sn) pt k = lN (sN (fun i => sn (pt * 8 + i)) k)
  | 0 => rfl
  | k + 1 => by
    rw [sN_s, ← lN_add, ← sAll_n sn pt k]
    rfl
theorem sN_add (f : Nat → Nat) (a : Nat) : ∀ w, sN f (a + w) = sN f a + sN (fun i => f (a + i)) w
  | 0 => rfl
  | w + 1 => by rw [← Nat.add_assoc, sN_s, sN_s, sN_add f a w, Nat.add_assoc]
theorem sN_sub {f : Nat → Nat} {a b : Nat} (h : a ≤ b) : sN f a ≤ sN f b := by
  rw [show b = a + (b - a) by omega, sN_add]
  exact Nat.le_add_right _ _
theorem sA_le {sn : Nat → Nat} {pt : Nat} (hp : pt < 16) : sN (fun i => sn (pt * 8 + i)) 8 ≤ sN sn 128 := by
  have h := sN_add sn (pt * 8) 8
  have := sN_sub (f := sn) (show pt * 8 + 8 ≤ 128 by omega)
  omega
theorem tk_sn {n tk em : Nat} {kd fi sn : Nat → Nat} {S : zLS} (h : TkN n kd fi tk em sn S) : S.2.2.2.2.1 = lF sn ∧ sN sn 128 ≤ em ∧ S.2.1 = (fun _ => 0) := by
  obtain ⟨co, un, ins, lo, lk, e1, e2, e3, e4, e5, e6, e7, e8, h1, h2, h3, h4, h5⟩ := h
  exact ⟨e4, by omega, e2⟩
theorem tV_mono {kd xs ys fi se le : Nat → Nat} {oo m nt : Nat} (F : FxN 10 kd fi se le) (hm : m ≤ nt) (hnt : nt ≤ 100) : ∃ v v', v ≤ v' ∧ v' ≤ 1000000 ∧ tV kd xs ys fi se le oo m = lN v ∧ tV kd xs ys fi se le oo nt = lN v' := by
  obtain ⟨sn, h⟩ := tr_tk (xs := xs) (ys := ys) (wa := fun _ => 0) (cr := fun _ => 0) (oo := oo) F (show m ≤ 100 by omega)
  have hp := pw_bd (kd := kd) F.2.2.1
  have hb : m * pw kd se 10 + (nt - m) * pw kd se 10 ≤ 100 * 1000 := by
    rw [← Nat.add_mul]
    exact Nat.mul_le_mul (by omega) (by omega)
  obtain ⟨sn', h1, h2⟩ := tk_run (wa := rp (rsB 10 kd xs ys se) 10 (fun _ => 0)) (o := oo) F h (nt - m) (by omega)
  have e : trS 10 kd xs ys fi se le (fun _ => 0) (fun _ => 0) (fun _ => 0) oo nt = rp (fun k => tkS 10 kd fi se le (rp (rsB 10 kd xs ys se) 10 (fun _ => 0)) oo (m + k)) (nt - m) (trS 10 kd xs ys fi se le (fun _ => 0) (fun _ => 0) (fun _ => 0) oo m) := by
    unfold trS
    rw [← rp_split, show m + (nt - m) = nt by omega]
  rw [← e] at h2
  obtain ⟨a1, a2, -⟩ := tk_sn h
  obtain ⟨b1, b2, -⟩ := tk_sn h2
  have hs := sA_le (sn := sn') (pt := 2) (by omega)
  refine ⟨sN (fun i => sn (2 * 8 + i)) 8, sN (fun i => sn' (2 * 8 + i)) 8, sN_mono (fun i _ => h1 (2 * 8 + i)), by omega, ?_, ?_⟩
  · unfold tV; rw [a1, sAll_n]
  · unfold tV; rw [b1, sAll_n]
theorem tV_nn {kd xs ys fi se le : Nat → Nat} {oo nt : Nat} (F : FxN 10 kd fi se le) (hnt : nt ≤ 100) : ¬ tV kd xs ys fi se le oo nt < 0 := by
  obtain ⟨v, v', h1, h2, h3, h4⟩ := tV_mono (xs := xs) (ys := ys) (oo := oo) F (Nat.le_refl nt) hnt
  rw [h4]
  intro q
  exact absurd ((pk_lLT (b := 0) (by omega) (by omega)).mp q) (by omega)
/-- the dark light between trials -/
def DkOk (gi2 : Nat → Int64) (wa2 : Nat → Nat) : Prop := gi2 = (fun _ => 0) ∧ (∀ j, j < 16 → wa2 j ≤ 20000) ∧ ∀ j, 10 ≤ j → wa2 j = 0
theorem dk_tr {kd xs ys fi se le wa : Nat → Nat} {gi cr : Nat → Int64} {oo nt : Nat} (F : FxN 10 kd fi se le) (hnt : nt ≤ 100) (h : DkOk gi wa) : DkOk (trS 10 kd xs ys fi se le wa gi cr oo nt).2.1 (rp (rsB 10 kd xs ys se) 10 wa) := by
  obtain ⟨h1, h2, h3⟩ := h
  subst h1
  obtain ⟨sn, hs⟩ := tr_tk (xs := xs) (ys := ys) (wa := wa) (cr := cr) (oo := oo) F hnt
  refine ⟨(tk_sn hs).2.2, rsW_le F.1 (PtK F.2.1) h2 10 (Nat.le_refl _), fun j hj => ?_⟩
  rw [rs_at, if_neg (by omega)]
  exact h3 j hj
def yN (kd xs ys fi se le : Nat → Nat) (nt : Nat) (xn : Int64) (k : Nat) : Nat := rp (fun i x => x + (if tV kd xs ys fi se le (i + 8) nt < xn then 0 else 1)) k 0
theorem yN_s {kd xs ys fi se le : Nat → Nat} {nt : Nat} {xn : Int64} {k : Nat} : yN kd xs ys fi se le nt xn (k + 1) = yN kd xs ys fi se le nt xn k + (if tV kd xs ys fi se le (k + 8) nt < xn then 0 else 1) := rfl
theorem yN_le {kd xs ys fi se le : Nat → Nat} {nt : Nat} {xn : Int64} : ∀ k, yN kd xs ys fi se le nt xn k ≤ k
  | 0 => Nat.le_refl _
  | k + 1 => by
    rw [yN_s]
    have := yN_le (kd := kd) (xs := xs) (ys := ys) (fi := fi) (se := se) (le := le) (nt := nt) (xn := xn) k
    split <;> omega
theorem yN_0 {kd xs ys fi se le : Nat → Nat} {nt : Nat} (F : FxN 10 kd fi se le) (hnt : nt ≤ 100) : ∀ k, yN kd xs ys fi se le nt 0 k = k
  | 0 => rfl
  | k + 1 => by rw [yN_s, yN_0 F hnt k, if_neg (tV_nn F hnt)]
theorem dk_yi {kd xs ys fi se le : Nat → Nat} {nt : Nat} {xn : Int64} {S : zLS} {wa : Nat → Nat} {o tk : Nat} (F : FxN 10 kd fi se le) (hnt : nt ≤ 100) (h : DkOk S.2.1 wa) : ∀ k, DkOk (rp (yC 10 kd xs ys fi se le 2 nt xn) k ((S, wa, o, tk), 0)).1.1.2.1 (rp (yC 10 kd xs ys fi se le 2 nt xn) k ((S, wa, o, tk), 0)).1.2.1 ∧ (rp (yC 10 kd xs ys fi se le 2 nt xn) k ((S, wa, o, tk), 0)).2 = yN kd xs ys fi se le nt xn k := by
  intro k
  induction k with
  | zero => exact ⟨h, rfl⟩
  | succ k ih =>
    rw [rp_s]
    generalize rp (yC 10 kd xs ys fi se le 2 nt xn) k ((S, wa, o, tk), 0) = Y at ih
    obtain ⟨i1, i2⟩ := ih
    refine ⟨dk_tr (oo := k + 8) F hnt i1, ?_⟩
    show Y.2 + (if sAll (trS 10 kd xs ys fi se le Y.1.2.1 Y.1.1.2.1 Y.1.1.2.2.2.1 (k + 8) nt).2.2.2.2.1 2 8 < xn then 0 else 1) = _
    rw [tV_of i1.1 i1.2.2, i2, yN_s]
/-! Runs. -/
def HuR (i : Nat) (S0 S : zHS) : Prop := ∀ j, j < 16 → (i ≤ j → S.1 j = S0.1 j ∧ S.2.1 j = S0.2.1 j ∧ S.2.2.1 j = S0.2.2.1 j) ∧ (S.1 j = S0.1 j ∨ (¬ S0.2.1 j = 0 ∧ S.1 j ≤ S0.1 j + 1 ∧ S0.1 j ≤ S.1 j + 1 ∧ S.1 j ≤ 99 ∧ (¬ S.2.1 j = 0 ∨ 0 < S.2.2.1 j))) ∧ S.2.2.1 j ≤ S0.2.2.1 j + 1 ∧ (S.2.1 j = S0.2.1 j ∨ S.2.1 j = 0)
theorem hct_1 {s d : Nat} (h : s ≤ 99) : hct s d ≤ s + 1 ∧ s ≤ hct s d + 1 ∧ hct s d ≤ 99 := by
  unfold hct
  (repeat' split) <;> omega
theorem hu_step {cr : Nat → Int64} {i : Nat} {S0 S : zHS} (hi : i < 16) (h0 : HsOk S0) (h : HuR i S0 S) : HuR (i + 1) S0 (huS cr i S) := by
  intro j hj
  obtain ⟨h1, h2, h3, h4⟩ := h j hj
  unfold huS
  by_cases q : S.2.1 i = 0
  · rw [if_pos q]
    exact ⟨fun z => h1 (by omega), h2, h3, h4⟩
  · rw [if_neg q]
    generalize cr (i * 8 + (S.2.1 i - 1)) = cx
    unfold huO
    by_cases e : j = i
    · subst e
      obtain ⟨a1, a2, a3⟩ := h1 (Nat.le_refl _)
      have b1 := ((h0 j hj).2.2.2 (by rw [← a2]; exact q)).1
      have b2 := hct_1 (s := S.1 j) (d := hnD cx (S.2.2.2.2.2 j) (S.2.2.2.1 j)) (by omega)
      generalize hct (S.1 j) (hnD cx (S.2.2.2.2.2 j) (S.2.2.2.1 j)) = v at b2 ⊢
      refine ⟨fun z => absurd z (by omega), Or.inr ⟨by rw [← a2]; exact q, ?_, ?_, ?_, ?_⟩, ?_, ?_⟩
      · show va_up S.1 j v j ≤ _
        rw [upS]; omega
      · show _ ≤ va_up S.1 j v j + 1
        rw [upS]; omega
      · show va_up S.1 j v j ≤ 99
        rw [upS]; omega
      · dsimp only
        by_cases r : 8 ≤ hnK cx (S.2.2.2.2.1 j)
        · rw [if_pos r, if_pos r]
          exact Or.inr (by rw [upS]; omega)
        · rw [if_neg r]
          exact Or.inl q
      · dsimp only
        by_cases r : 8 ≤ hnK cx (S.2.2.2.2.1 j)
        · rw [if_pos r, upS]; omega
        · rw [if_neg r]; omega
      · dsimp only
        by_cases r : 8 ≤ hnK cx (S.2.2.2.2.1 j)
        · rw [if_pos r]; exact Or.inr upS
        · rw [if_neg r]; exact Or.inl a2
    · dsimp only
      have u1 : (if 8 ≤ hnK cx (S.2.2.2.2.1 i) then va_up S.2.1 i 0 else S.2.1) j = S.2.1 j := by
        split
        · exact upN e
        · rfl
      have u2 : (if 8 ≤ hnK cx (S.2.2.2.2.1 i) then va_up S.2.2.1 i (S.2.2.1 i + 1) else S.2.2.1) j = S.2.2.1 j := by
        split
        · exact upN e
        · rfl
      rw [u1, u2, upN e]
      exact ⟨fun z => h1 (by omega), h2, h3, h4⟩
theorem hu_run {cr : Nat → Int64} {S : zHS} {n : Nat} (hn : n ≤ 16) (h0 : HsOk S) : HuR n S (rp (huS cr) n S) :=
  rp_inv (huS cr) (fun i X => HuR i S X) (fun j _ => ⟨fun _ => ⟨rfl, rfl, rfl⟩, Or.inl rfl, by omega, Or.inl rfl⟩) (fun i hi x e => hu_step (by omega) h0 e)
theorem wm_at {n : Nat} {kd xs ys se wa : Nat → Nat} : ∀ k j, rp (wmB n kd xs ys se) k wa j = if j < k ∧ kd j = 3 then wst (tgt n kd xs ys se j) (wa j) else wa j := by
  intro k
  induction k with
  | zero => intro j; rw [if_neg (by omega)]; rfl
  | succ k ih =>
    intro j
    rw [rp_s]
    unfold wmB
    have hk := ih k
    have hj := ih j
    unfold wmB at hk hj
    by_cases r : kd k = 3
    · rw [if_pos r]
      by_cases e : j = k
      · subst e; rw [upS, if_pos ⟨by omega, r⟩, hk, if_neg (by omega)]
      · rw [upN e, hj]
        by_cases q : j < k ∧ kd j = 3
        · rw [if_pos q, if_pos ⟨by omega, q.2⟩]
        · rw [if_neg q, if_neg (fun z => q ⟨by omega, z.2⟩)]
    · rw [if_neg r, hj]
      by_cases q : j < k ∧ kd j = 3
      · rw [if_pos q, if_pos ⟨by omega, q.2⟩]
      · rw [if_neg q, if_neg]
        intro z
        refine q ⟨?_, z.2⟩
        by_cases e : j = k
        · rw [e] at z; exact absurd z.2 r
        · omega
theorem wst_near (T w : Nat) : (w ≤ T → w ≤ wst T w ∧ wst T w ≤ T ∧ (T = w ∨ w < wst T w)) ∧ (T < w → wst T w ≤ w ∧ T ≤ wst T w ∧ wst T w < w) := by
  unfold wst
  by_cases h : w ≤ T
  · rw [if_pos h]
    refine ⟨fun _ => ?_, fun z => absurd z (by omega)⟩
    (repeat' split) <;> omega
  · rw [if_neg h]
    refine ⟨fun z => absurd z h, fun _ => ?_⟩
    (repeat' split) <;> omega
/-- the chip between calls, behind tk ticks -/
def MnOk (n tk : Nat) (kd fi le : Nat → Nat) (C : zC) : Prop :=
  FxN n kd fi C.2.2.1 le ∧ (∀ j, j < n → C.2.2.1 j ≤ 99) ∧ HsOk C.2.2 ∧ (∀ j, j < 16 → ¬ C.2.2.2.1 j = 0 → kd j = 3) ∧ (∀ j, j < 16 → C.2.1 j ≤ 20000) ∧ (∀ j, j < n → C.2.2.2.2.1 j ≤ tk) ∧ ∃ em sn, em ≤ 2000 * tk ∧ TkN n kd fi tk em sn C.1
theorem mn_rc {n tk : Nat} {kd fi le : Nat → Nat} {C : zC} (h : MnOk n tk kd fi le C) : RcOk n kd fi C := ⟨⟨h.2.2.1, h.1.2.1⟩, h.2.2.2.2.1⟩
/-- a tick, as the law asks of it -/
def RnR (n tk : Nat) (kd xs ys fi le : Nat → Nat) (C C' : zC) : Prop :=
  MnOk n (tk + 1) kd fi le C' ∧ C'.1.2.2.2.2.2.1 = C.1.2.2.2.2.2.1 + lN (pw kd C.2.2.1 n) ∧ (kd 1 = 3 → 1 < n → C'.2.1 1 = wst (tgt n kd xs ys C.2.2.1 1) (C.2.1 1)) ∧
  ∀ j, j < n → C'.2.2.1 j = C.2.2.1 j ∨ (kd j = 3 ∧ C'.2.2.1 j ≤ C.2.2.1 j + 1 ∧ C.2.2.1 j ≤ C'.2.2.1 j + 1 ∧ (¬ C'.2.2.2.1 j = 0 ∨ 0 < C'.2.2.2.2.1 j))
theorem rn_rel {n tk : Nat} {kd xs ys fi le : Nat → Nat} {C : zC} (ht : tk ≤ 1000) (h : MnOk n tk kd fi le C) : RnR n tk kd xs ys fi le C (rp (rnC n kd xs ys fi le 8 tk) 1 C) := by
  have hrc := mn_rc h
  have hrc' := rnC_ok (xs := xs) (ys := ys) (le := le) (o := 8) (tk := tk) (k := 0) h.1.1 hrc
  have e0 : rp (rnC n kd xs ys fi le 8 tk) 1 C = rnC n kd xs ys fi le 8 tk 0 C := rfl
  rw [e0]
  have e1 : rnC n kd xs ys fi le 8 tk 0 C = (tkS n kd fi C.2.2.1 le C.2.1 8 tk C.1, rp (wmB n kd xs ys C.2.2.1) n C.2.1, rp (huS (tkS n kd fi C.2.2.1 le C.2.1 8 tk C.1).2.2.2.1) n C.2.2) := rfl
  rw [e1] at hrc' ⊢
  obtain ⟨F, h99, hs, hc, hw, hl, em, sn, he, hk⟩ := h
  have hn := F.1
  have hp := pw_bd (kd := kd) h99
  have hp2 : pw kd C.2.2.1 n ≤ 16 * 99 := Nat.le_trans hp (Nat.mul_le_mul_right 99 hn)
  obtain ⟨sn', hmo, hk'⟩ := tk_tick (wa := C.2.1) (o := 8) F (by omega) hk
  have hwm : kd 1 = 3 → 1 < n → rp (wmB n kd xs ys C.2.2.1) n C.2.1 1 = wst (tgt n kd xs ys C.2.2.1 1) (C.2.1 1) := by
    intro k3 k4
    rw [wm_at, if_pos ⟨k4, k3⟩]
  have hu := hu_run (cr := (tkS n kd fi C.2.2.1 le C.2.1 8 tk C.1).2.2.2.1) (n := n) hn hs
  generalize tkS n kd fi C.2.2.1 le C.2.1 8 tk C.1 = T at hk' hu hrc' ⊢
  generalize rp (huS T.2.2.2.1) n C.2.2 = U at hu hrc' ⊢
  generalize rp (wmB n kd xs ys C.2.2.1) n C.2.1 = V at hwm hrc' ⊢
  have he5 : C.1.2.2.2.2.2.1 = lN em := by
    obtain ⟨co, un, ins, lo, lk, e1, e2, e3, e4, e5, -⟩ := hk
    exact e5
  have he6 : T.2.2.2.2.2.1 = lN (em + pw kd C.2.2.1 n) := by
    obtain ⟨co, un, ins, lo, lk, e1, e2, e3, e4, e5, -⟩ := hk'
    exact e5
  have h99' : ∀ j, j < n → U.1 j ≤ 99 := by
    intro j hj
    rcases (hu j (by omega)).2.1 with q | q
    · rw [q]; exact h99 j hj
    · exact q.2.2.2.1
  refine ⟨⟨⟨hn, hrc'.1.2, fun j hj => Nat.le_trans (h99' j hj) (by omega), F.2.2.2⟩, h99', hrc'.1.1, ?_, hrc'.2, ?_, em + pw kd C.2.2.1 n, sn', by omega, hk'⟩, ?_, hwm, ?_⟩
  · intro j hj q
    rcases (hu j hj).2.2.2 with z | z
    · exact hc j hj (fun y => q (z.trans y))
    · exact absurd z q
  · intro j hj
    have h1 := (hu j (by omega)).2.2.1
    have h2 := hl j hj
    exact Nat.le_trans h1 (by omega)
  · show T.2.2.2.2.2.1 = _
    rw [he6, he5, lN_add]
  · intro j hj
    rcases (hu j (by omega)).2.1 with q | q
    · exact Or.inl q
    · exact Or.inr ⟨hc j (by omega) q.1, q.2.1, q.2.2.1, q.2.2.2.2⟩
