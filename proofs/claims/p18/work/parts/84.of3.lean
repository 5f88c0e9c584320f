/-! The warmth of a part of any kind, as the law takes it. -/
theorem ofK_3 (k s c v h l : Nat) : ofK 3 k s c v h l = nI (if k = 3 then v else 0) := by
  show (if k = 3 then nI v else nI 0) = _
  split <;> rfl

set_option maxHeartbeats 1000000 in
theorem c_of3 (l : Launch) (E : EnvT) (sz : Nat) (pt : Nat) (aO : Nat) (aDa : Nat) (lst : Nat) (aLy : Nat) (aK : Nat) (aX : Nat) (aY : Nat) (aF : Nat) (aS : Nat) (aL : Nat) (n : Nat) (aLi : Nat) (aC : Nat) (aG : Nat) (aU : Nat) (aR : Nat) (aN : Nat) (aW : Nat) (o : Nat) (tk : Nat) (em : Int64) (lo : Int64) (lk : Int64) (de : Int64) (aLk : Nat) (aCh : Nat) (aLo : Nat) (aDi : Nat) (aDk : Nat) (aBe : Nat) (kd : Nat → Nat) (fi : Nat → Nat) (se : Nat → Nat) (wa : Nat → Nat) (chn : Nat → Nat) (los : Nat → Nat) (hp : pt < n) (hn : n ≤ 16) (hk5 : ∀ j, j < n → kd j ≤ 5) (hf : ∀ j, j < n → fi j ≤ 8) (ho : o ≤ 16) (hw : ∀ j, j < 16 → wa j ≤ 20000) : MI l yX3_ofPart wsX3_ofPart ({ frames := 2, cells := 0, slots := 0, locals := 43 }) E sz [.ref aO, .int (nI pt), .int (nI 3)] [(aO, o3 aLy aLi aDa aLk (nI lst)), (aLi, o1 aLy aC aG aU aR aN aW (cO o) (nI tk) em lo lk de), (aLk, o2 aLy aLi aCh aLo aDi aDk aBe), (aLy, o0 (nI n) aK aX aY aF aS aL), (aK, ia E nI 16 kd), (aF, ia E nI 16 fi), (aS, ia E nI 16 se), (aW, ia E nI 16 wa), (aCh, ia E cL 16 chn), (aLo, ia E nI 16 los)] (fun (r : Int32) (_ : Unit) => r = nI (if kd pt = 3 then wa pt else 0)) (fun _ => [(aO, o3 aLy aLi aDa aLk (nI lst)), (aLi, o1 aLy aC aG aU aR aN aW (cO o) (nI tk) em lo lk de), (aLk, o2 aLy aLi aCh aLo aDi aDk aBe), (aLy, o0 (nI n) aK aX aY aF aS aL), (aK, ia E nI 16 kd), (aF, ia E nI 16 fi), (aS, ia E nI 16 se), (aW, ia E nI 16 wa), (aCh, ia E cL 16 chn), (aLo, ia E nI 16 los)]) := by
  have q9 := c_ofPart l E sz (nI pt) (nI 3) aO aDa lst aLy aK aX aY aF aS aL n aLi aC aG aU aR aN aW o tk em lo lk de aLk aCh aLo aDi aDk aBe kd fi se wa chn los ((if_pos (isN hp (by omega))).trans (if_pos (rgN (by omega) (by omega) (by omega)))) (hn) (hk5) (hf) (ho) (hw)
  simp only [tN_nI (show pt < 2 ^ 31 by omega), tN_nI (show 3 < 2 ^ 31 by omega), ofK_3] at q9
  exact q9

