/-! The class's contracts, at arguments that are numbers. -/
theorem tN_nI {a : Nat} (ha : a < 2 ^ 31) : tN (nI a) = a := nI_clamp ha
theorem cL_ti {n : Nat} (hn : n < 2 ^ 30) : (cL n).toInt = (n : Int) - 1 := by
  cases n with
  | zero => decide
  | succ n => rw [cL_s, nI_toInt (by omega)]; omega
theorem isN {a n : Nat} (h : a < n) (hn : n ≤ 1000) : nI 0 ≤ nI a ∧ nI a ≤ cL n := by
  refine ⟨(nI_leI (by omega) (by omega)).mpr (by omega), ?_⟩
  rw [Int32.le_iff_toInt_le, cL_ti (by omega), nI_toInt (by omega)]; omega
theorem rgN {a b k : Nat} (h1 : a ≤ k) (h2 : k ≤ b) (hb : b < 2 ^ 31) : nI a ≤ nI k ∧ nI k ≤ nI b := ⟨(nI_leI (by omega) (by omega)).mpr h1, (nI_leI (by omega) (by omega)).mpr h2⟩
theorem tC_cL {a : Nat} (h : a < 2 ^ 30) : tC (cL a) = a := by
  show ((cL a).toInt + 1).toNat = a
  rw [cL_ti h]; omega
theorem tC_nI {a : Nat} (h : a < 2 ^ 31) : tC (nI a) = a + 1 := by
  show ((nI a).toInt + 1).toNat = _
  rw [nI_toInt h]; omega
theorem tC_m1 : tC (-1) = 0 := by decide
theorem cO_ti {a : Nat} (h : a < 2 ^ 30) : (cO a).toInt = (a : Int) - 8 := pk_sub_toInt (by omega) (by omega)
theorem tO_cO {a : Nat} (h : a < 2 ^ 30) : tO (cO a) = a := by
  show ((cO a).toInt + 8).toNat = a
  rw [cO_ti h]; omega
theorem cO_rg {a : Nat} (h : a ≤ 16) : -8 ≤ cO a ∧ cO a ≤ nI 8 := by
  rw [Int32.le_iff_toInt_le, Int32.le_iff_toInt_le, cO_ti (by omega), show (-8 : Int32).toInt = -8 by decide, show (nI 8).toInt = 8 by decide]; omega
theorem cL_rg {a : Nat} (h : a ≤ 8) : -1 ≤ cL a ∧ cL a ≤ nI 7 := by
  rw [Int32.le_iff_toInt_le, Int32.le_iff_toInt_le, cL_ti (by omega), show (-1 : Int32).toInt = -1 by decide, show (nI 7).toInt = 7 by decide]; omega
theorem nI_m1rg {a : Nat} (h : a ≤ 7) : -1 ≤ nI a ∧ nI a ≤ nI 7 := by
  rw [Int32.le_iff_toInt_le, Int32.le_iff_toInt_le, nI_toInt (by omega), show (-1 : Int32).toInt = -1 by decide, show (nI 7).toInt = 7 by decide]; omega
theorem ofK_0 (k s c v h l : Nat) : ofK 0 k s c v h l = nI k := rfl
theorem ofK_1 (k s c v h l : Nat) : ofK 1 k s c v h l = nI s := rfl
theorem ofK_2r {k : Nat} (hk : k = 3) (s c v h l : Nat) : ofK 2 k s c v h l = nI c := by subst hk; rfl
theorem ofK_2n {k : Nat} (hk : ¬ k = 3) (s c v h l : Nat) : ofK 2 k s c v h l = -1 := by
  show (if k = 3 then _ else _) = _
  rw [if_neg hk]
theorem ofK_3r {k : Nat} (hk : k = 3) (s c v h l : Nat) : ofK 3 k s c v h l = nI v := by subst hk; rfl
theorem ofK_3n {k : Nat} (hk : ¬ k = 3) (s c v h l : Nat) : ofK 3 k s c v h l = nI 0 := by
  show (if k = 3 then _ else _) = _
  rw [if_neg hk]
theorem ofK_4 (k s c v h l : Nat) : ofK 4 k s c v h l = cL h := rfl
theorem ofK_5 (k s c v h l : Nat) : ofK 5 k s c v h l = nI l := rfl
theorem acK_0 (em lo lk de : Int64) : acK em lo lk de 0 = em := rfl
theorem acK_1 (em lo lk de : Int64) : acK em lo lk de 1 = lo := rfl
theorem acK_2 (em lo lk de : Int64) : acK em lo lk de 2 = lk := rfl
theorem acK_3 (em lo lk de : Int64) : acK em lo lk de 3 = de := rfl
theorem acK_4 (em lo lk de : Int64) : acK em lo lk de 4 = em - lo - lk - de := rfl

set_option maxHeartbeats 1000000 in
theorem c_of0 (l : Launch) (E : EnvT) (sz : Nat) (pt : Nat) (aO : Nat) (aDa : Nat) (lst : Nat) (aLy : Nat) (aK : Nat) (aX : Nat) (aY : Nat) (aF : Nat) (aS : Nat) (aL : Nat) (n : Nat) (aLi : Nat) (aC : Nat) (aG : Nat) (aU : Nat) (aR : Nat) (aN : Nat) (aW : Nat) (o : Nat) (tk : Nat) (em : Int64) (lo : Int64) (lk : Int64) (de : Int64) (aLk : Nat) (aCh : Nat) (aLo : Nat) (aDi : Nat) (aDk : Nat) (aBe : Nat) (kd : Nat → Nat) (fi : Nat → Nat) (se : Nat → Nat) (wa : Nat → Nat) (chn : Nat → Nat) (los : Nat → Nat) (hp : pt < n) (hn : n ≤ 16) (hk5 : ∀ j, j < n → kd j ≤ 5) (hf : ∀ j, j < n → fi j ≤ 8) (ho : o ≤ 16) (hw : ∀ j, j < 16 → wa j ≤ 20000) : MI l yX3_ofPart wsX3_ofPart ({ frames := 2, cells := 0, slots := 0, locals := 43 }) E sz [.ref aO, .int (nI pt), .int (nI 0)] [(aO, o3 aLy aLi aDa aLk (nI lst)), (aLi, o1 aLy aC aG aU aR aN aW (cO o) (nI tk) em lo lk de), (aLk, o2 aLy aLi aCh aLo aDi aDk aBe), (aLy, o0 (nI n) aK aX aY aF aS aL), (aK, ia E nI 16 kd), (aF, ia E nI 16 fi), (aS, ia E nI 16 se), (aW, ia E nI 16 wa), (aCh, ia E cL 16 chn), (aLo, ia E nI 16 los)] (fun (r : Int32) (_ : Unit) => r = nI (kd pt)) (fun _ => [(aO, o3 aLy aLi aDa aLk (nI lst)), (aLi, o1 aLy aC aG aU aR aN aW (cO o) (nI tk) em lo lk de), (aLk, o2 aLy aLi aCh aLo aDi aDk aBe), (aLy, o0 (nI n) aK aX aY aF aS aL), (aK, ia E nI 16 kd), (aF, ia E nI 16 fi), (aS, ia E nI 16 se), (aW, ia E nI 16 wa), (aCh, ia E cL 16 chn), (aLo, ia E nI 16 los)]) := by
  have q9 := c_ofPart l E sz (nI pt) (nI 0) aO aDa lst aLy aK aX aY aF aS aL n aLi aC aG aU aR aN aW o tk em lo lk de aLk aCh aLo aDi aDk aBe kd fi se wa chn los ((if_pos (isN hp (by omega))).trans (if_pos (rgN (by omega) (by omega) (by omega)))) (hn) (hk5) (hf) (ho) (hw)
  simp only [tN_nI (show pt < 2 ^ 31 by omega), tN_nI (show 0 < 2 ^ 31 by omega), ofK_0] at q9
  exact q9

set_option maxHeartbeats 1000000 in
theorem c_of1 (l : Launch) (E : EnvT) (sz : Nat) (pt : Nat) (aO : Nat) (aDa : Nat) (lst : Nat) (aLy : Nat) (aK : Nat) (aX : Nat) (aY : Nat) (aF : Nat) (aS : Nat) (aL : Nat) (n : Nat) (aLi : Nat) (aC : Nat) (aG : Nat) (aU : Nat) (aR : Nat) (aN : Nat) (aW : Nat) (o : Nat) (tk : Nat) (em : Int64) (lo : Int64) (lk : Int64) (de : Int64) (aLk : Nat) (aCh : Nat) (aLo : Nat) (aDi : Nat) (aDk : Nat) (aBe : Nat) (kd : Nat → Nat) (fi : Nat → Nat) (se : Nat → Nat) (wa : Nat → Nat) (chn : Nat → Nat) (los : Nat → Nat) (hp : pt < n) (hn : n ≤ 16) (hk5 : ∀ j, j < n → kd j ≤ 5) (hf : ∀ j, j < n → fi j ≤ 8) (ho : o ≤ 16) (hw : ∀ j, j < 16 → wa j ≤ 20000) : MI l yX3_ofPart wsX3_ofPart ({ frames := 2, cells := 0, slots := 0, locals := 43 }) E sz [.ref aO, .int (nI pt), .int (nI 1)] [(aO, o3 aLy aLi aDa aLk (nI lst)), (aLi, o1 aLy aC aG aU aR aN aW (cO o) (nI tk) em lo lk de), (aLk, o2 aLy aLi aCh aLo aDi aDk aBe), (aLy, o0 (nI n) aK aX aY aF aS aL), (aK, ia E nI 16 kd), (aF, ia E nI 16 fi), (aS, ia E nI 16 se), (aW, ia E nI 16 wa), (aCh, ia E cL 16 chn), (aLo, ia E nI 16 los)] (fun (r : Int32) (_ : Unit) => r = nI (se pt)) (fun _ => [(aO, o3 aLy aLi aDa aLk (nI lst)), (aLi, o1 aLy aC aG aU aR aN aW (cO o) (nI tk) em lo lk de), (aLk, o2 aLy aLi aCh aLo aDi aDk aBe), (aLy, o0 (nI n) aK aX aY aF aS aL), (aK, ia E nI 16 kd), (aF, ia E nI 16 fi), (aS, ia E nI 16 se), (aW, ia E nI 16 wa), (aCh, ia E cL 16 chn), (aLo, ia E nI 16 los)]) := by
  have q9 := c_ofPart l E sz (nI pt) (nI 1) aO aDa lst aLy aK aX aY aF aS aL n aLi aC aG aU aR aN aW o tk em lo lk de aLk aCh aLo aDi aDk aBe kd fi se wa chn los ((if_pos (isN hp (by omega))).trans (if_pos (rgN (by omega) (by omega) (by omega)))) (hn) (hk5) (hf) (ho) (hw)
  simp only [tN_nI (show pt < 2 ^ 31 by omega), tN_nI (show 1 < 2 ^ 31 by omega), ofK_1] at q9
  exact q9

set_option maxHeartbeats 1000000 in
theorem c_of2r (l : Launch) (E : EnvT) (sz : Nat) (pt : Nat) (aO : Nat) (aDa : Nat) (lst : Nat) (aLy : Nat) (aK : Nat) (aX : Nat) (aY : Nat) (aF : Nat) (aS : Nat) (aL : Nat) (n : Nat) (aLi : Nat) (aC : Nat) (aG : Nat) (aU : Nat) (aR : Nat) (aN : Nat) (aW : Nat) (o : Nat) (tk : Nat) (em : Int64) (lo : Int64) (lk : Int64) (de : Int64) (aLk : Nat) (aCh : Nat) (aLo : Nat) (aDi : Nat) (aDk : Nat) (aBe : Nat) (kd : Nat → Nat) (fi : Nat → Nat) (se : Nat → Nat) (wa : Nat → Nat) (chn : Nat → Nat) (los : Nat → Nat) (hp : pt < n) (hn : n ≤ 16) (hk5 : ∀ j, j < n → kd j ≤ 5) (hf : ∀ j, j < n → fi j ≤ 8) (ho : o ≤ 16) (hw : ∀ j, j < 16 → wa j ≤ 20000) (hk : kd pt = 3) : MI l yX3_ofPart wsX3_ofPart ({ frames := 2, cells := 0, slots := 0, locals := 43 }) E sz [.ref aO, .int (nI pt), .int (nI 2)] [(aO, o3 aLy aLi aDa aLk (nI lst)), (aLi, o1 aLy aC aG aU aR aN aW (cO o) (nI tk) em lo lk de), (aLk, o2 aLy aLi aCh aLo aDi aDk aBe), (aLy, o0 (nI n) aK aX aY aF aS aL), (aK, ia E nI 16 kd), (aF, ia E nI 16 fi), (aS, ia E nI 16 se), (aW, ia E nI 16 wa), (aCh, ia E cL 16 chn), (aLo, ia E nI 16 los)] (fun (r : Int32) (_ : Unit) => r = nI (cnt fi wa o pt)) (fun _ => [(aO, o3 aLy aLi aDa aLk (nI lst)), (aLi, o1 aLy aC aG aU aR aN aW (cO o) (nI tk) em lo lk de), (aLk, o2 aLy aLi aCh aLo aDi aDk aBe), (aLy, o0 (nI n) aK aX aY aF aS aL), (aK, ia E nI 16 kd), (aF, ia E nI 16 fi), (aS, ia E nI 16 se), (aW, ia E nI 16 wa), (aCh, ia E cL 16 chn), (aLo, ia E nI 16 los)]) := by
  have q9 := c_ofPart l E sz (nI pt) (nI 2) aO aDa lst aLy aK aX aY aF aS aL n aLi aC aG aU aR aN aW o tk em lo lk de aLk aCh aLo aDi aDk aBe kd fi se wa chn los ((if_pos (isN hp (by omega))).trans (if_pos (rgN (by omega) (by omega) (by omega)))) (hn) (hk5) (hf) (ho) (hw)
  simp only [tN_nI (show pt < 2 ^ 31 by omega), tN_nI (show 2 < 2 ^ 31 by omega), ofK_2r hk] at q9
  exact q9

set_option maxHeartbeats 1000000 in
theorem c_of2n (l : Launch) (E : EnvT) (sz : Nat) (pt : Nat) (aO : Nat) (aDa : Nat) (lst : Nat) (aLy : Nat) (aK : Nat) (aX : Nat) (aY : Nat) (aF : Nat) (aS : Nat) (aL : Nat) (n : Nat) (aLi : Nat) (aC : Nat) (aG : Nat) (aU : Nat) (aR : Nat) (aN : Nat) (aW : Nat) (o : Nat) (tk : Nat) (em : Int64) (lo : Int64) (lk : Int64) (de : Int64) (aLk : Nat) (aCh : Nat) (aLo : Nat) (aDi : Nat) (aDk : Nat) (aBe : Nat) (kd : Nat → Nat) (fi : Nat → Nat) (se : Nat → Nat) (wa : Nat → Nat) (chn : Nat → Nat) (los : Nat → Nat) (hp : pt < n) (hn : n ≤ 16) (hk5 : ∀ j, j < n → kd j ≤ 5) (hf : ∀ j, j < n → fi j ≤ 8) (ho : o ≤ 16) (hw : ∀ j, j < 16 → wa j ≤ 20000) (hk : ¬ (kd pt = 3)) : MI l yX3_ofPart wsX3_ofPart ({ frames := 2, cells := 0, slots := 0, locals := 43 }) E sz [.ref aO, .int (nI pt), .int (nI 2)] [(aO, o3 aLy aLi aDa aLk (nI lst)), (aLi, o1 aLy aC aG aU aR aN aW (cO o) (nI tk) em lo lk de), (aLk, o2 aLy aLi aCh aLo aDi aDk aBe), (aLy, o0 (nI n) aK aX aY aF aS aL), (aK, ia E nI 16 kd), (aF, ia E nI 16 fi), (aS, ia E nI 16 se), (aW, ia E nI 16 wa), (aCh, ia E cL 16 chn), (aLo, ia E nI 16 los)] (fun (r : Int32) (_ : Unit) => r = -1) (fun _ => [(aO, o3 aLy aLi aDa aLk (nI lst)), (aLi, o1 aLy aC aG aU aR aN aW (cO o) (nI tk) em lo lk de), (aLk, o2 aLy aLi aCh aLo aDi aDk aBe), (aLy, o0 (nI n) aK aX aY aF aS aL), (aK, ia E nI 16 kd), (aF, ia E nI 16 fi), (aS, ia E nI 16 se), (aW, ia E nI 16 wa), (aCh, ia E cL 16 chn), (aLo, ia E nI 16 los)]) := by
  have q9 := c_ofPart l E sz (nI pt) (nI 2) aO aDa lst aLy aK aX aY aF aS aL n aLi aC aG aU aR aN aW o tk em lo lk de aLk aCh aLo aDi aDk aBe kd fi se wa chn los ((if_pos (isN hp (by omega))).trans (if_pos (rgN (by omega) (by omega) (by omega)))) (hn) (hk5) (hf) (ho) (hw)
  simp only [tN_nI (show pt < 2 ^ 31 by omega), tN_nI (show 2 < 2 ^ 31 by omega), ofK_2n hk] at q9
  exact q9

set_option maxHeartbeats 1000000 in
theorem c_of3r (l : Launch) (E : EnvT) (sz : Nat) (pt : Nat) (aO : Nat) (aDa : Nat) (lst : Nat) (aLy : Nat) (aK : Nat) (aX : Nat) (aY : Nat) (aF : Nat) (aS : Nat) (aL : Nat) (n : Nat) (aLi : Nat) (aC : Nat) (aG : Nat) (aU : Nat) (aR : Nat) (aN : Nat) (aW : Nat) (o : Nat) (tk : Nat) (em : Int64) (lo : Int64) (lk : Int64) (de : Int64) (aLk : Nat) (aCh : Nat) (aLo : Nat) (aDi : Nat) (aDk : Nat) (aBe : Nat) (kd : Nat → Nat) (fi : Nat → Nat) (se : Nat → Nat) (wa : Nat → Nat) (chn : Nat → Nat) (los : Nat → Nat) (hp : pt < n) (hn : n ≤ 16) (hk5 : ∀ j, j < n → kd j ≤ 5) (hf : ∀ j, j < n → fi j ≤ 8) (ho : o ≤ 16) (hw : ∀ j, j < 16 → wa j ≤ 20000) (hk : kd pt = 3) : MI l yX3_ofPart wsX3_ofPart ({ frames := 2, cells := 0, slots := 0, locals := 43 }) E sz [.ref aO, .int (nI pt), .int (nI 3)] [(aO, o3 aLy aLi aDa aLk (nI lst)), (aLi, o1 aLy aC aG aU aR aN aW (cO o) (nI tk) em lo lk de), (aLk, o2 aLy aLi aCh aLo aDi aDk aBe), (aLy, o0 (nI n) aK aX aY aF aS aL), (aK, ia E nI 16 kd), (aF, ia E nI 16 fi), (aS, ia E nI 16 se), (aW, ia E nI 16 wa), (aCh, ia E cL 16 chn), (aLo, ia E nI 16 los)] (fun (r : Int32) (_ : Unit) => r = nI (wa pt)) (fun _ => [(aO, o3 aLy aLi aDa aLk (nI lst)), (aLi, o1 aLy aC aG aU aR aN aW (cO o) (nI tk) em lo lk de), (aLk, o2 aLy aLi aCh aLo aDi aDk aBe), (aLy, o0 (nI n) aK aX aY aF aS aL), (aK, ia E nI 16 kd), (aF, ia E nI 16 fi), (aS, ia E nI 16 se), (aW, ia E nI 16 wa), (aCh, ia E cL 16 chn), (aLo, ia E nI 16 los)]) := by
  have q9 := c_ofPart l E sz (nI pt) (nI 3) aO aDa lst aLy aK aX aY aF aS aL n aLi aC aG aU aR aN aW o tk em lo lk de aLk aCh aLo aDi aDk aBe kd fi se wa chn los ((if_pos (isN hp (by omega))).trans (if_pos (rgN (by omega) (by omega) (by omega)))) (hn) (hk5) (hf) (ho) (hw)
  simp only [tN_nI (show pt < 2 ^ 31 by omega), tN_nI (show 3 < 2 ^ 31 by omega), ofK_3r hk] at q9
  exact q9

set_option maxHeartbeats 1000000 in
theorem c_of3n (l : Launch) (E : EnvT) (sz : Nat) (pt : Nat) (aO : Nat) (aDa : Nat) (lst : Nat) (aLy : Nat) (aK : Nat) (aX : Nat) (aY : Nat) (aF : Nat) (aS : Nat) (aL : Nat) (n : Nat) (aLi : Nat) (aC : Nat) (aG : Nat) (aU : Nat) (aR : Nat) (aN : Nat) (aW : Nat) (o : Nat) (tk : Nat) (em : Int64) (lo : Int64) (lk : Int64) (de : Int64) (aLk : Nat) (aCh : Nat) (aLo : Nat) (aDi : Nat) (aDk : Nat) (aBe : Nat) (kd : Nat → Nat) (fi : Nat → Nat) (se : Nat → Nat) (wa : Nat → Nat) (chn : Nat → Nat) (los : Nat → Nat) (hp : pt < n) (hn : n ≤ 16) (hk5 : ∀ j, j < n → kd j ≤ 5) (hf : ∀ j, j < n → fi j ≤ 8) (ho : o ≤ 16) (hw : ∀ j, j < 16 → wa j ≤ 20000) (hk : ¬ (kd pt = 3)) : MI l yX3_ofPart wsX3_ofPart ({ frames := 2, cells := 0, slots := 0, locals := 43 }) E sz [.ref aO, .int (nI pt), .int (nI 3)] [(aO, o3 aLy aLi aDa aLk (nI lst)), (aLi, o1 aLy aC aG aU aR aN aW (cO o) (nI tk) em lo lk de), (aLk, o2 aLy aLi aCh aLo aDi aDk aBe), (aLy, o0 (nI n) aK aX aY aF aS aL), (aK, ia E nI 16 kd), (aF, ia E nI 16 fi), (aS, ia E nI 16 se), (aW, ia E nI 16 wa), (aCh, ia E cL 16 chn), (aLo, ia E nI 16 los)] (fun (r : Int32) (_ : Unit) => r = nI 0) (fun _ => [(aO, o3 aLy aLi aDa aLk (nI lst)), (aLi, o1 aLy aC aG aU aR aN aW (cO o) (nI tk) em lo lk de), (aLk, o2 aLy aLi aCh aLo aDi aDk aBe), (aLy, o0 (nI n) aK aX aY aF aS aL), (aK, ia E nI 16 kd), (aF, ia E nI 16 fi), (aS, ia E nI 16 se), (aW, ia E nI 16 wa), (aCh, ia E cL 16 chn), (aLo, ia E nI 16 los)]) := by
  have q9 := c_ofPart l E sz (nI pt) (nI 3) aO aDa lst aLy aK aX aY aF aS aL n aLi aC aG aU aR aN aW o tk em lo lk de aLk aCh aLo aDi aDk aBe kd fi se wa chn los ((if_pos (isN hp (by omega))).trans (if_pos (rgN (by omega) (by omega) (by omega)))) (hn) (hk5) (hf) (ho) (hw)
  simp only [tN_nI (show pt < 2 ^ 31 by omega), tN_nI (show 3 < 2 ^ 31 by omega), ofK_3n hk] at q9
  exact q9

set_option maxHeartbeats 1000000 in
theorem c_of4 (l : Launch) (E : EnvT) (sz : Nat) (pt : Nat) (aO : Nat) (aDa : Nat) (lst : Nat) (aLy : Nat) (aK : Nat) (aX : Nat) (aY : Nat) (aF : Nat) (aS : Nat) (aL : Nat) (n : Nat) (aLi : Nat) (aC : Nat) (aG : Nat) (aU : Nat) (aR : Nat) (aN : Nat) (aW : Nat) (o : Nat) (tk : Nat) (em : Int64) (lo : Int64) (lk : Int64) (de : Int64) (aLk : Nat) (aCh : Nat) (aLo : Nat) (aDi : Nat) (aDk : Nat) (aBe : Nat) (kd : Nat → Nat) (fi : Nat → Nat) (se : Nat → Nat) (wa : Nat → Nat) (chn : Nat → Nat) (los : Nat → Nat) (hp : pt < n) (hn : n ≤ 16) (hk5 : ∀ j, j < n → kd j ≤ 5) (hf : ∀ j, j < n → fi j ≤ 8) (ho : o ≤ 16) (hw : ∀ j, j < 16 → wa j ≤ 20000) : MI l yX3_ofPart wsX3_ofPart ({ frames := 2, cells := 0, slots := 0, locals := 43 }) E sz [.ref aO, .int (nI pt), .int (nI 4)] [(aO, o3 aLy aLi aDa aLk (nI lst)), (aLi, o1 aLy aC aG aU aR aN aW (cO o) (nI tk) em lo lk de), (aLk, o2 aLy aLi aCh aLo aDi aDk aBe), (aLy, o0 (nI n) aK aX aY aF aS aL), (aK, ia E nI 16 kd), (aF, ia E nI 16 fi), (aS, ia E nI 16 se), (aW, ia E nI 16 wa), (aCh, ia E cL 16 chn), (aLo, ia E nI 16 los)] (fun (r : Int32) (_ : Unit) => r = cL (chn pt)) (fun _ => [(aO, o3 aLy aLi aDa aLk (nI lst)), (aLi, o1 aLy aC aG aU aR aN aW (cO o) (nI tk) em lo lk de), (aLk, o2 aLy aLi aCh aLo aDi aDk aBe), (aLy, o0 (nI n) aK aX aY aF aS aL), (aK, ia E nI 16 kd), (aF, ia E nI 16 fi), (aS, ia E nI 16 se), (aW, ia E nI 16 wa), (aCh, ia E cL 16 chn), (aLo, ia E nI 16 los)]) := by
  have q9 := c_ofPart l E sz (nI pt) (nI 4) aO aDa lst aLy aK aX aY aF aS aL n aLi aC aG aU aR aN aW o tk em lo lk de aLk aCh aLo aDi aDk aBe kd fi se wa chn los ((if_pos (isN hp (by omega))).trans (if_pos (rgN (by omega) (by omega) (by omega)))) (hn) (hk5) (hf) (ho) (hw)
  simp only [tN_nI (show pt < 2 ^ 31 by omega), tN_nI (show 4 < 2 ^ 31 by omega), ofK_4] at q9
  exact q9

set_option maxHeartbeats 1000000 in
theorem c_of5 (l : Launch) (E : EnvT) (sz : Nat) (pt : Nat) (aO : Nat) (aDa : Nat) (lst : Nat) (aLy : Nat) (aK : Nat) (aX : Nat) (aY : Nat) (aF : Nat) (aS : Nat) (aL : Nat) (n : Nat) (aLi : Nat) (aC : Nat) (aG : Nat) (aU : Nat) (aR : Nat) (aN : Nat) (aW : Nat) (o : Nat) (tk : Nat) (em : Int64) (lo : Int64) (lk : Int64) (de : Int64) (aLk : Nat) (aCh : Nat) (aLo : Nat) (aDi : Nat) (aDk : Nat) (aBe : Nat) (kd : Nat → Nat) (fi : Nat → Nat) (se : Nat → Nat) (wa : Nat → Nat) (chn : Nat → Nat) (los : Nat → Nat) (hp : pt < n) (hn : n ≤ 16) (hk5 : ∀ j, j < n → kd j ≤ 5) (hf : ∀ j, j < n → fi j ≤ 8) (ho : o ≤ 16) (hw : ∀ j, j < 16 → wa j ≤ 20000) : MI l yX3_ofPart wsX3_ofPart ({ frames := 2, cells := 0, slots := 0, locals := 43 }) E sz [.ref aO, .int (nI pt), .int (nI 5)] [(aO, o3 aLy aLi aDa aLk (nI lst)), (aLi, o1 aLy aC aG aU aR aN aW (cO o) (nI tk) em lo lk de), (aLk, o2 aLy aLi aCh aLo aDi aDk aBe), (aLy, o0 (nI n) aK aX aY aF aS aL), (aK, ia E nI 16 kd), (aF, ia E nI 16 fi), (aS, ia E nI 16 se), (aW, ia E nI 16 wa), (aCh, ia E cL 16 chn), (aLo, ia E nI 16 los)] (fun (r : Int32) (_ : Unit) => r = nI (los pt)) (fun _ => [(aO, o3 aLy aLi aDa aLk (nI lst)), (aLi, o1 aLy aC aG aU aR aN aW (cO o) (nI tk) em lo lk de), (aLk, o2 aLy aLi aCh aLo aDi aDk aBe), (aLy, o0 (nI n) aK aX aY aF aS aL), (aK, ia E nI 16 kd), (aF, ia E nI 16 fi), (aS, ia E nI 16 se), (aW, ia E nI 16 wa), (aCh, ia E cL 16 chn), (aLo, ia E nI 16 los)]) := by
  have q9 := c_ofPart l E sz (nI pt) (nI 5) aO aDa lst aLy aK aX aY aF aS aL n aLi aC aG aU aR aN aW o tk em lo lk de aLk aCh aLo aDi aDk aBe kd fi se wa chn los ((if_pos (isN hp (by omega))).trans (if_pos (rgN (by omega) (by omega) (by omega)))) (hn) (hk5) (hf) (ho) (hw)
  simp only [tN_nI (show pt < 2 ^ 31 by omega), tN_nI (show 5 < 2 ^ 31 by omega), ofK_5] at q9
  exact q9

set_option maxHeartbeats 1000000 in
theorem c_comesN (l : Launch) (E : EnvT) (sz : Nat) (q0 i0 ch : Nat) (aO : Nat) (aDa : Nat) (aKs : Nat) (lst : Nat) (aLy : Nat) (aK : Nat) (aX : Nat) (aY : Nat) (aF : Nat) (aS : Nat) (aL : Nat) (n : Nat) (aLi : Nat) (aC : Nat) (aG : Nat) (aU : Nat) (aR : Nat) (aN : Nat) (aW : Nat) (o : Nat) (tk : Nat) (em : Int64) (lo : Int64) (lk : Int64) (de : Int64) (kd : Nat → Nat) (co : Nat → Int64) (hq : q0 < n) (hi : i0 < stV 0 (kd q0)) (hc : ch < 8) (hn : n ≤ 16) (hk5 : ∀ j, j < n → kd j ≤ 5) : ML l yX3_comes wsX3_comes ({ frames := 2, cells := 0, slots := 0, locals := 43 }) E sz [.ref aO, .int (nI q0), .int (nI i0), .int (nI ch)] [(aO, o3 aLy aLi aDa aKs (nI lst)), (aLi, o1 aLy aC aG aU aR aN aW (cO o) (nI tk) em lo lk de), (aLy, o0 (nI n) aK aX aY aF aS aL), (aK, ia E nI 16 kd), (aC, ja E 256 co)] (fun (r : Int64) (_ : Unit) => r = co ((q0 * 2 + i0) * 8 + ch)) (fun _ => [(aO, o3 aLy aLi aDa aKs (nI lst)), (aLi, o1 aLy aC aG aU aR aN aW (cO o) (nI tk) em lo lk de), (aLy, o0 (nI n) aK aX aY aF aS aL), (aK, ia E nI 16 kd), (aC, ja E 256 co)]) := by
  have q9 := c_comes l E sz (nI q0) (nI i0) (nI ch) aO aDa aKs lst aLy aK aX aY aF aS aL n aLi aC aG aU aR aN aW o tk em lo lk de kd co (by have := stV0_le (hk5 q0 hq); unfold comC; rw [tN_nI (by omega), if_pos ⟨isN hq (by omega), isN hi (by omega)⟩, if_pos (rgN (by omega) (by omega) (by omega))]) (hn) (hk5)
  have h0 := stV0_le (hk5 q0 hq)
  simp only [tN_nI (show q0 < 2 ^ 31 by omega), tN_nI (show i0 < 2 ^ 31 by omega), tN_nI (show ch < 2 ^ 31 by omega)] at q9
  exact q9

set_option maxHeartbeats 1000000 in
theorem c_seenN (l : Launch) (E : EnvT) (sz : Nat) (pt ch : Nat) (aO : Nat) (aDa : Nat) (aKs : Nat) (lst : Nat) (aLy : Nat) (aK : Nat) (aX : Nat) (aY : Nat) (aF : Nat) (aS : Nat) (aL : Nat) (n : Nat) (aLi : Nat) (aC : Nat) (aG : Nat) (aU : Nat) (aR : Nat) (aN : Nat) (aW : Nat) (o : Nat) (tk : Nat) (em : Int64) (lo : Int64) (lk : Int64) (de : Int64) (kd : Nat → Nat) (sn : Nat → Int64) (hp : pt < n) (hk : kd pt = 5) (hc : ch < 8) (hn : n ≤ 16) (hk5 : ∀ j, j < n → kd j ≤ 5) : ML l yX3_seen wsX3_seen ({ frames := 1, cells := 0, slots := 0, locals := 24 }) E sz [.ref aO, .int (nI pt), .int (nI ch)] [(aO, o3 aLy aLi aDa aKs (nI lst)), (aLi, o1 aLy aC aG aU aR aN aW (cO o) (nI tk) em lo lk de), (aLy, o0 (nI n) aK aX aY aF aS aL), (aK, ia E nI 16 kd), (aN, ja E 128 sn)] (fun (r : Int64) (_ : Unit) => r = sn (pt * 8 + ch)) (fun _ => [(aO, o3 aLy aLi aDa aKs (nI lst)), (aLi, o1 aLy aC aG aU aR aN aW (cO o) (nI tk) em lo lk de), (aLy, o0 (nI n) aK aX aY aF aS aL), (aK, ia E nI 16 kd), (aN, ja E 128 sn)]) := by
  have q9 := c_seen l E sz (nI pt) (nI ch) aO aDa aKs lst aLy aK aX aY aF aS aL n aLi aC aG aU aR aN aW o tk em lo lk de kd sn (by unfold seeC; rw [tN_nI (by omega), if_pos (isN hp (by omega)), if_pos (nI_m1rg (by omega)), if_pos hk]) (hn) (hk5)
  simp only [tN_nI (show pt < 2 ^ 31 by omega), tC_nI (show ch < 2 ^ 31 by omega), if_neg (show ¬ ch + 1 = 0 by omega), Nat.add_sub_cancel] at q9
  exact q9

set_option maxHeartbeats 1000000 in
theorem c_seenA (l : Launch) (E : EnvT) (sz : Nat) (pt : Nat) (aO : Nat) (aDa : Nat) (aKs : Nat) (lst : Nat) (aLy : Nat) (aK : Nat) (aX : Nat) (aY : Nat) (aF : Nat) (aS : Nat) (aL : Nat) (n : Nat) (aLi : Nat) (aC : Nat) (aG : Nat) (aU : Nat) (aR : Nat) (aN : Nat) (aW : Nat) (o : Nat) (tk : Nat) (em : Int64) (lo : Int64) (lk : Int64) (de : Int64) (kd : Nat → Nat) (sn : Nat → Int64) (hp : pt < n) (hk : kd pt = 5) (hn : n ≤ 16) (hk5 : ∀ j, j < n → kd j ≤ 5) : ML l yX3_seen wsX3_seen ({ frames := 1, cells := 0, slots := 0, locals := 24 }) E sz [.ref aO, .int (nI pt), .int (-1)] [(aO, o3 aLy aLi aDa aKs (nI lst)), (aLi, o1 aLy aC aG aU aR aN aW (cO o) (nI tk) em lo lk de), (aLy, o0 (nI n) aK aX aY aF aS aL), (aK, ia E nI 16 kd), (aN, ja E 128 sn)] (fun (r : Int64) (_ : Unit) => r = sAll sn pt 8) (fun _ => [(aO, o3 aLy aLi aDa aKs (nI lst)), (aLi, o1 aLy aC aG aU aR aN aW (cO o) (nI tk) em lo lk de), (aLy, o0 (nI n) aK aX aY aF aS aL), (aK, ia E nI 16 kd), (aN, ja E 128 sn)]) := by
  have q9 := c_seen l E sz (nI pt) (-1) aO aDa aKs lst aLy aK aX aY aF aS aL n aLi aC aG aU aR aN aW o tk em lo lk de kd sn (by unfold seeC; rw [tN_nI (by omega), if_pos (isN hp (by omega)), if_pos (by decide), if_pos hk]) (hn) (hk5)
  simp only [tN_nI (show pt < 2 ^ 31 by omega), tC_m1, if_true] at q9
  exact q9

set_option maxHeartbeats 1000000 in
theorem c_ac0 (l : Launch) (E : EnvT) (sz : Nat) (aO : Nat) (aDa : Nat) (aKs : Nat) (lst : Nat) (aLy : Nat) (aLi : Nat) (aC : Nat) (aG : Nat) (aU : Nat) (aR : Nat) (aN : Nat) (aW : Nat) (o : Nat) (tk : Nat) (em : Int64) (lo : Int64) (lk : Int64) (de : Int64) : ML l yX3_account wsX3_account ({ frames := 1, cells := 0, slots := 0, locals := 22 }) E sz [.ref aO, .int (nI 0)] [(aO, o3 aLy aLi aDa aKs (nI lst)), (aLi, o1 aLy aC aG aU aR aN aW (cO o) (nI tk) em lo lk de)] (fun (r : Int64) (_ : Unit) => r = em) (fun _ => [(aO, o3 aLy aLi aDa aKs (nI lst)), (aLi, o1 aLy aC aG aU aR aN aW (cO o) (nI tk) em lo lk de)]) := by
  have q9 := c_account l E sz (nI 0) aO aDa aKs lst aLy aLi aC aG aU aR aN aW o tk em lo lk de (if_pos (rgN (by omega) (by omega) (by omega)))
  simp only [tN_nI (show 0 < 2 ^ 31 by omega), acK_0] at q9
  exact q9

set_option maxHeartbeats 1000000 in
theorem c_ac1 (l : Launch) (E : EnvT) (sz : Nat) (aO : Nat) (aDa : Nat) (aKs : Nat) (lst : Nat) (aLy : Nat) (aLi : Nat) (aC : Nat) (aG : Nat) (aU : Nat) (aR : Nat) (aN : Nat) (aW : Nat) (o : Nat) (tk : Nat) (em : Int64) (lo : Int64) (lk : Int64) (de : Int64) : ML l yX3_account wsX3_account ({ frames := 1, cells := 0, slots := 0, locals := 22 }) E sz [.ref aO, .int (nI 1)] [(aO, o3 aLy aLi aDa aKs (nI lst)), (aLi, o1 aLy aC aG aU aR aN aW (cO o) (nI tk) em lo lk de)] (fun (r : Int64) (_ : Unit) => r = lo) (fun _ => [(aO, o3 aLy aLi aDa aKs (nI lst)), (aLi, o1 aLy aC aG aU aR aN aW (cO o) (nI tk) em lo lk de)]) := by
  have q9 := c_account l E sz (nI 1) aO aDa aKs lst aLy aLi aC aG aU aR aN aW o tk em lo lk de (if_pos (rgN (by omega) (by omega) (by omega)))
  simp only [tN_nI (show 1 < 2 ^ 31 by omega), acK_1] at q9
  exact q9

set_option maxHeartbeats 1000000 in
theorem c_ac2 (l : Launch) (E : EnvT) (sz : Nat) (aO : Nat) (aDa : Nat) (aKs : Nat) (lst : Nat) (aLy : Nat) (aLi : Nat) (aC : Nat) (aG : Nat) (aU : Nat) (aR : Nat) (aN : Nat) (aW : Nat) (o : Nat) (tk : Nat) (em : Int64) (lo : Int64) (lk : Int64) (de : Int64) : ML l yX3_account wsX3_account ({ frames := 1, cells := 0, slots := 0, locals := 22 }) E sz [.ref aO, .int (nI 2)] [(aO, o3 aLy aLi aDa aKs (nI lst)), (aLi, o1 aLy aC aG aU aR aN aW (cO o) (nI tk) em lo lk de)] (fun (r : Int64) (_ : Unit) => r = lk) (fun _ => [(aO, o3 aLy aLi aDa aKs (nI lst)), (aLi, o1 aLy aC aG aU aR aN aW (cO o) (nI tk) em lo lk de)]) := by
  have q9 := c_account l E sz (nI 2) aO aDa aKs lst aLy aLi aC aG aU aR aN aW o tk em lo lk de (if_pos (rgN (by omega) (by omega) (by omega)))
  simp only [tN_nI (show 2 < 2 ^ 31 by omega), acK_2] at q9
  exact q9

set_option maxHeartbeats 1000000 in
theorem c_ac3 (l : Launch) (E : EnvT) (sz : Nat) (aO : Nat) (aDa : Nat) (aKs : Nat) (lst : Nat) (aLy : Nat) (aLi : Nat) (aC : Nat) (aG : Nat) (aU : Nat) (aR : Nat) (aN : Nat) (aW : Nat) (o : Nat) (tk : Nat) (em : Int64) (lo : Int64) (lk : Int64) (de : Int64) : ML l yX3_account wsX3_account ({ frames := 1, cells := 0, slots := 0, locals := 22 }) E sz [.ref aO, .int (nI 3)] [(aO, o3 aLy aLi aDa aKs (nI lst)), (aLi, o1 aLy aC aG aU aR aN aW (cO o) (nI tk) em lo lk de)] (fun (r : Int64) (_ : Unit) => r = de) (fun _ => [(aO, o3 aLy aLi aDa aKs (nI lst)), (aLi, o1 aLy aC aG aU aR aN aW (cO o) (nI tk) em lo lk de)]) := by
  have q9 := c_account l E sz (nI 3) aO aDa aKs lst aLy aLi aC aG aU aR aN aW o tk em lo lk de (if_pos (rgN (by omega) (by omega) (by omega)))
  simp only [tN_nI (show 3 < 2 ^ 31 by omega), acK_3] at q9
  exact q9

set_option maxHeartbeats 1000000 in
theorem c_ac4 (l : Launch) (E : EnvT) (sz : Nat) (aO : Nat) (aDa : Nat) (aKs : Nat) (lst : Nat) (aLy : Nat) (aLi : Nat) (aC : Nat) (aG : Nat) (aU : Nat) (aR : Nat) (aN : Nat) (aW : Nat) (o : Nat) (tk : Nat) (em : Int64) (lo : Int64) (lk : Int64) (de : Int64) : ML l yX3_account wsX3_account ({ frames := 1, cells := 0, slots := 0, locals := 22 }) E sz [.ref aO, .int (nI 4)] [(aO, o3 aLy aLi aDa aKs (nI lst)), (aLi, o1 aLy aC aG aU aR aN aW (cO o) (nI tk) em lo lk de)] (fun (r : Int64) (_ : Unit) => r = em - lo - lk - de) (fun _ => [(aO, o3 aLy aLi aDa aKs (nI lst)), (aLi, o1 aLy aC aG aU aR aN aW (cO o) (nI tk) em lo lk de)]) := by
  have q9 := c_account l E sz (nI 4) aO aDa aKs lst aLy aLi aC aG aU aR aN aW o tk em lo lk de (if_pos (rgN (by omega) (by omega) (by omega)))
  simp only [tN_nI (show 4 < 2 ^ 31 by omega), acK_4] at q9
  exact q9

set_option maxHeartbeats 1000000 in
theorem c_partN (l : Launch) (E : EnvT) (sz : Nat) (a0 b0 c0 d0 e0 : Nat) (aO : Nat) (aLg : Nat) (aDa : Nat) (aKs : Nat) (lst : Nat) (aLy : Nat) (aK : Nat) (aX : Nat) (aY : Nat) (aF : Nat) (aS : Nat) (aL : Nat) (n : Nat) (kd : Nat → Nat) (xs : Nat → Nat) (ys : Nat → Nat) (fi : Nat → Nat) (se : Nat → Nat) (ha : a0 ≤ 5) (hb : b0 ≤ 15) (hc : c0 ≤ 15) (hd : stV 2 a0 ≤ d0 ∧ d0 ≤ stV 3 a0 ∧ d0 < 1000 ∧ stV 3 a0 < 1000) (he : e0 ≤ stV 4 a0 ∧ stV 4 a0 < 1000) (hn : n < 16) : MI l yX3_part wsX3_part ({ frames := 1, cells := 0, slots := 0, locals := 26 }) E sz [.ref aO, .int (nI a0), .int (nI b0), .int (nI c0), .int (nI d0), .int (nI e0)] [(aO, o3 aLy aLg aDa aKs (nI lst)), (aLy, o0 (nI n) aK aX aY aF aS aL), (aK, ia E nI 16 kd), (aX, ia E nI 16 xs), (aY, ia E nI 16 ys), (aF, ia E nI 16 fi), (aS, ia E nI 16 se)] (fun (r : Int32) (_ : Unit) => r = nI n) (fun _ => [(aO, o3 aLy aLg aDa aKs (nI lst)), (aLy, o0 (nI (n + 1)) aK aX aY aF aS aL), (aK, ia E nI 16 (va_up kd n a0)), (aX, ia E nI 16 (va_up xs n b0)), (aY, ia E nI 16 (va_up ys n c0)), (aF, ia E nI 16 (va_up fi n d0)), (aS, ia E nI 16 (va_up se n e0))]) := by
  have q9 := c_part l E sz (nI a0) (nI b0) (nI c0) (nI d0) (nI e0) aO aLg aDa aKs lst aLy aK aX aY aF aS aL n kd xs ys fi se (by unfold parC; rw [if_pos, if_neg (by omega)]; unfold PaP; rw [tN_nI (show a0 < 2 ^ 31 by omega)]; exact ⟨rgN (by omega) ha (by omega), rgN (by omega) hb (by omega), rgN (by omega) hc (by omega), rgN hd.1 hd.2.1 (by omega), rgN (by omega) he.1 (by omega)⟩) (by omega)
  simp only [tN_nI (show a0 < 2 ^ 31 by omega), tN_nI (show b0 < 2 ^ 31 by omega), tN_nI (show c0 < 2 ^ 31 by omega), tN_nI (show d0 < 2 ^ 31 by omega), tN_nI (show e0 < 2 ^ 31 by omega)] at q9
  exact q9

set_option maxHeartbeats 1000000 in
theorem c_setN (l : Launch) (E : EnvT) (sz : Nat) (pt v0 : Nat) (aO : Nat) (aLg : Nat) (aDa : Nat) (aKs : Nat) (lst : Nat) (aLy : Nat) (aK : Nat) (aX : Nat) (aY : Nat) (aF : Nat) (aS : Nat) (aL : Nat) (n : Nat) (kd : Nat → Nat) (se : Nat → Nat) (hp : pt < n) (hv : v0 ≤ stV 4 (kd pt) ∧ stV 4 (kd pt) < 1000) (hn : n ≤ 16) (hk5 : ∀ j, j < n → kd j ≤ 5) : MI l yX3_set wsX3_set ({ frames := 1, cells := 0, slots := 0, locals := 22 }) E sz [.ref aO, .int (nI pt), .int (nI v0)] [(aO, o3 aLy aLg aDa aKs (nI lst)), (aLy, o0 (nI n) aK aX aY aF aS aL), (aK, ia E nI 16 kd), (aS, ia E nI 16 se)] (fun (r : Int32) (_ : Unit) => r = nI (se pt)) (fun _ => [(aO, o3 aLy aLg aDa aKs (nI lst)), (aLy, o0 (nI n) aK aX aY aF aS aL), (aK, ia E nI 16 kd), (aS, ia E nI 16 (va_up se pt v0))]) := by
  have q9 := c_set l E sz (nI pt) (nI v0) aO aLg aDa aKs lst aLy aK aX aY aF aS aL n kd se (by unfold setC; rw [tN_nI (show pt < 2 ^ 31 by omega), if_pos (isN hp (by omega)), if_pos (rgN (by omega) hv.1 (by omega))]) (hn) (hk5)
  simp only [tN_nI (show pt < 2 ^ 31 by omega), tN_nI (show v0 < 2 ^ 31 by omega)] at q9
  exact q9

set_option maxHeartbeats 1000000 in
theorem c_cutN (l : Launch) (E : EnvT) (sz : Nat) (pt oo : Nat) (aO : Nat) (aLg : Nat) (aDa : Nat) (aKs : Nat) (lst : Nat) (aLy : Nat) (aK : Nat) (aX : Nat) (aY : Nat) (aF : Nat) (aS : Nat) (aL : Nat) (n : Nat) (kd : Nat → Nat) (le : Nat → Nat) (hp : pt < n) (ho : oo < stV 1 (kd pt)) (hn : n ≤ 16) (hk5 : ∀ j, j < n → kd j ≤ 5) (hL : ∀ j, j < 32 → le j ≤ 32) : MI l yX3_cut wsX3_cut ({ frames := 2, cells := 0, slots := 0, locals := 43 }) E sz [.ref aO, .int (nI pt), .int (nI oo)] [(aO, o3 aLy aLg aDa aKs (nI lst)), (aLy, o0 (nI n) aK aX aY aF aS aL), (aK, ia E nI 16 kd), (aL, ia E cL 32 le)] (fun (r : Int32) (_ : Unit) => r = cL (ledF (le (pt * 2 + oo)))) (fun _ => [(aO, o3 aLy aLg aDa aKs (nI lst)), (aLy, o0 (nI n) aK aX aY aF aS aL), (aK, ia E nI 16 kd), (aL, ia E cL 32 (va_up le (pt * 2 + oo) 0))]) := by
  have q9 := c_cut l E sz (nI pt) (nI oo) aO aLg aDa aKs lst aLy aK aX aY aF aS aL n kd le (by have := stV1_le (hk5 pt hp); unfold cutC; rw [tN_nI (show pt < 2 ^ 31 by omega), if_pos ⟨isN hp (by omega), isN ho (by omega)⟩]) (hn) (hk5) (hL)
  have h0 := stV1_le (hk5 pt hp)
  simp only [tN_nI (show pt < 2 ^ 31 by omega), tN_nI (show oo < 2 ^ 31 by omega)] at q9
  exact q9

set_option maxHeartbeats 1000000 in
theorem c_lockN (l : Launch) (E : EnvT) (sz : Nat) (pt a0 : Nat) (aO : Nat) (aLi : Nat) (aDa : Nat) (lst : Nat) (aLy : Nat) (aK : Nat) (aX : Nat) (aY : Nat) (aF : Nat) (aS : Nat) (aL : Nat) (n : Nat) (aLk : Nat) (aCh : Nat) (aLo : Nat) (aDi : Nat) (aDk : Nat) (aBe : Nat) (kd : Nat → Nat) (chn : Nat → Nat) (dir : Nat → Nat) (dkt : Nat → Nat) (bef : Nat → Int64) (hp : pt < n) (hk : kd pt = 3) (ha : a0 ≤ 8) (hn : n ≤ 16) (hk5 : ∀ j, j < n → kd j ≤ 5) : MI l yX3_lock wsX3_lock ({ frames := 1, cells := 0, slots := 0, locals := 22 }) E sz [.ref aO, .int (nI pt), .int (cL a0)] [(aO, o3 aLy aLi aDa aLk (nI lst)), (aLk, o2 aLy aLi aCh aLo aDi aDk aBe), (aLy, o0 (nI n) aK aX aY aF aS aL), (aK, ia E nI 16 kd), (aCh, ia E cL 16 chn), (aDi, ia E cD 16 dir), (aDk, ia E nI 16 dkt), (aBe, ja E 16 bef)] (fun (r : Int32) (_ : Unit) => r = cL (chn pt)) (fun _ => [(aO, o3 aLy aLi aDa aLk (nI lst)), (aLk, o2 aLy aLi aCh aLo aDi aDk aBe), (aLy, o0 (nI n) aK aX aY aF aS aL), (aK, ia E nI 16 kd), (aCh, ia E cL 16 (va_up chn pt a0)), (aDi, ia E cD 16 (va_up dir pt 1)), (aDk, ia E nI 16 (va_up dkt pt 0)), (aBe, ja E 16 (va_up bef pt 0))]) := by
  have q9 := c_lock l E sz (nI pt) (cL a0) aO aLi aDa lst aLy aK aX aY aF aS aL n aLk aCh aLo aDi aDk aBe kd chn dir dkt bef (by unfold locC; rw [tN_nI (show pt < 2 ^ 31 by omega), if_pos (isN hp (by omega)), if_pos (cL_rg ha), if_pos hk]) (hn) (hk5)
  simp only [tN_nI (show pt < 2 ^ 31 by omega), tC_cL (show a0 < 2 ^ 30 by omega)] at q9
  exact q9

set_option maxHeartbeats 1000000 in
theorem c_spacingN (l : Launch) (E : EnvT) (sz : Nat) (v0 : Nat) (aO : Nat) (aLy : Nat) (aLg : Nat) (aDa : Nat) (aKs : Nat) (lst : Nat) (hv : v0 ≤ 15) : MI l yX3_spacing wsX3_spacing ({ frames := 1, cells := 0, slots := 0, locals := 22 }) E sz [.ref aO, .int (nI v0)] [(aO, o3 aLy aLg aDa aKs (nI lst))] (fun (r : Int32) (_ : Unit) => r = nI lst) (fun _ => [(aO, o3 aLy aLg aDa aKs (nI v0))]) := by
  have q9 := c_spacing l E sz (nI v0) aO aLy aLg aDa aKs lst (if_pos (rgN (by omega) hv (by omega)))
  simp only [tN_nI (show v0 < 2 ^ 31 by omega)] at q9
  exact q9

