/-! The law's helpers that ask the class. -/
theorem exZn {S : Type} {p : Program} {l : Launch} {e : Env} {R : Room} {s : State} {m : MethodId} {args : Array Value} {below : List Frame} {meth : Method} {c : Code} {H : Heap} {locs : List Loc} {pc : Nat} {ls : Array Slot} {cc : ByteArray} {E : EnvT} {A : Nat → Prop} {mc ms : Nat} {wc : va_W} {post : Int32 → S → Prop} {w1 : S → va_W} {v : Int32} (hx : p.tables.exec = Jvm.exec) (hb : c.code = cc) (hr : meth.sig.returnType = some .boolean) (hlocks : meth.locks = false) (hAe : va_A wc s.heap.size = A) (hS : va_S A s.heap H locs) (u : S) (hn : narrow .boolean (.int v) = .int v) (hp : post v u) (hP : va_P E.1 vwCl (w1 u) H) (hD : va_D A (w1 u)) (hdg : decode cc pc = .ok (.ireturn, 1)) : W p l e R s m args below meth c H locs mc ms (MQ below (va_Qi post (Wd E wc s.heap.size w1) A) args s mc ms A) (F0 m pc ls [.int v]) := by
  subst hAe
  exact W.zret hx hb hr hn (fun t ht hW => ⟨⟨v, u, rfl, hp, by rw [ht]; exact hP, hD⟩, hS.F ht⟩) hS.2.2 hdg hlocks
theorem tg_a {kd xs ys se : Nat → Nat} {pt q acc : Nat} (h : q = pt) : acc + 0 = tgB kd xs ys se pt q acc := (if_neg (fun z => z.1 h)).symm
theorem tg_b {kd xs ys se : Nat → Nat} {pt q acc : Nat} (h : ¬ kd q = 3) : acc + 0 = tgB kd xs ys se pt q acc := (if_neg (fun z => h z.2)).symm
theorem tg_c {kd xs ys se : Nat → Nat} {pt q acc : Nat} (h : ¬ q = pt) (k : kd q = 3) (d : ¬ dst xs ys pt q ≤ 0) : acc + se q / dst xs ys pt q = tgB kd xs ys se pt q acc := by
  unfold tgB mx1
  rw [if_pos ⟨h, k⟩]
  by_cases r : 1 < dst xs ys pt q
  · rw [if_pos r]
  · rw [if_neg r, show dst xs ys pt q = 1 by omega]
theorem tg_d {kd xs ys se : Nat → Nat} {pt q acc : Nat} (h : ¬ q = pt) (k : kd q = 3) (d : dst xs ys pt q ≤ 0) : acc + se q / 1 = tgB kd xs ys se pt q acc := by
  unfold tgB mx1
  rw [if_pos ⟨h, k⟩, if_neg (show ¬ 1 < dst xs ys pt q by omega)]
theorem dst_bd {xs ys : Nat → Nat} (h : ∀ j, j < 16 → xs j ≤ 15 ∧ ys j ≤ 15) {a b : Nat} (ha : a < 16) (hb : b < 16) : dst xs ys a b ≤ 30 := by
  have h1 := h a ha
  have h2 := h b hb
  unfold dst adf
  (repeat' split) <;> omega
theorem i64_acc (a b c d : Int64) : a = b + c + d + (a - b - c - d) := by grind
theorem lgc_gt {x y : Int64} : 0 < lg_cmp x y ↔ x > y := by
  unfold lg_cmp
  by_cases h : x > y
  · rw [if_pos h]; exact ⟨fun _ => h, fun _ => by decide⟩
  · rw [if_neg h]
    refine ⟨fun q => ?_, fun q => absurd q h⟩
    split at q <;> exact absurd q (by decide)
theorem cmI_s (cn : Nat → Nat) (pt i acc : Nat) : ∀ k, cmI cn pt i acc k = acc + sN (fun ch => cn ((pt * 2 + i) * 8 + ch)) k
  | 0 => rfl
  | k + 1 => by
    show cmI cn pt i acc k + cn ((pt * 2 + i) * 8 + k) = _
    rw [cmI_s cn pt i acc k, sN_s, Nat.add_assoc]
theorem cm_16 {n : Nat} {kd cn : Nat → Nat} {p : Nat} (hz : NzN n kd cn) (hp : p < 16) (hk : kd p ≤ 5) : sN cn (16 * (p + 1)) = sN cn (16 * p) + cmN cn p (stV 0 (kd p)) := by
  have h1 := sN_add cn (16 * p) 16
  have h2 : sN (fun i => cn (16 * p + i)) 16 = sN (fun i => cn (16 * p + i)) 8 + sN (fun i => cn (16 * p + (8 + i))) 8 := sN_add (fun i => cn (16 * p + i)) 8 8
  have z : ∀ i, i < 2 → ¬ i < stV 0 (kd p) → sN (fun ch => cn ((p * 2 + i) * 8 + ch)) 8 = 0 := by
    intro i hi hs
    refine sN_zero (fun ch hc => ?_)
    have := hz (2 * p + i) (by omega) (by
      intro q
      rw [isIn, show (2 * p + i) / 2 = p by omega, show (2 * p + i) % 2 = i by omega] at q
      exact hs q.2) ch hc
    rw [show (p * 2 + i) * 8 + ch = 8 * (2 * p + i) + ch by omega]
    exact this
  have e0 : sN (fun i => cn (16 * p + i)) 8 = sN (fun ch => cn ((p * 2 + 0) * 8 + ch)) 8 := sN_congr (fun i _ => by rw [show 16 * p + i = (p * 2 + 0) * 8 + i by omega])
  have e1 : sN (fun i => cn (16 * p + (8 + i))) 8 = sN (fun ch => cn ((p * 2 + 1) * 8 + ch)) 8 := sN_congr (fun i _ => by rw [show 16 * p + (8 + i) = (p * 2 + 1) * 8 + i by omega])
  have h16 : 16 * (p + 1) = 16 * p + 16 := by omega
  have hs := stV0_le hk
  rw [h16, h1]
  rcases (show stV 0 (kd p) = 0 ∨ stV 0 (kd p) = 1 ∨ stV 0 (kd p) = 2 by omega) with q | q | q
  · have a := z 0 (by omega) (by omega)
    have b := z 1 (by omega) (by omega)
    rw [q]
    show _ = sN cn (16 * p) + 0
    omega
  · have b := z 1 (by omega) (by omega)
    rw [q]
    show _ = sN cn (16 * p) + cmI cn p 0 0 8
    rw [cmI_s]
    omega
  · rw [q]
    show _ = sN cn (16 * p) + cmI cn p 1 (cmI cn p 0 0 8) 8
    rw [cmI_s, cmI_s]
    omega
theorem sk_8 {kd sn : Nat → Nat} {p : Nat} (h : SkN kd sn) (hp : p < 16) (hk : ¬ kd p = 5) : sN sn (8 * (p + 1)) = sN sn (8 * p) := by
  have h1 := sN_add sn (8 * p) 8
  have h2 := sN_zero (f := fun i => sn (8 * p + i)) (n := 8) (fun i hi => h p hp hk i hi)
  rw [show 8 * (p + 1) = 8 * p + 8 by omega]
  omega
theorem sk_5 {sn : Nat → Nat} {p : Nat} : lN (sN sn (8 * p)) + sAll (lF sn) p 8 = lN (sN sn (8 * (p + 1))) := by
  rw [sAll_n, lN_add, show 8 * (p + 1) = 8 * p + 8 by omega, sN_add, sN_congr (f := fun i => sn (p * 8 + i)) (g := fun i => sn (8 * p + i)) (fun i _ => by rw [Nat.mul_comm p 8])]
theorem sk_all {kd sn : Nat → Nat} {n : Nat} (h : SkN kd sn) (hn : n ≤ 16) (h0 : ∀ q, n ≤ q → q < 16 → kd q = 0) : sN sn (8 * n) = sN sn 128 := by
  have key : ∀ d, n + d ≤ 16 → sN sn (8 * (n + d)) = sN sn (8 * n) := by
    intro d
    induction d with
    | zero => intro _; rfl
    | succ d ih => intro hd; rw [← Nat.add_assoc, sk_8 h (by omega) (by rw [h0 (n + d) (by omega) (by omega)]; decide)]; exact ih (by omega)
  have := key (16 - n) (by omega)
  rw [show n + (16 - n) = 16 by omega] at this
  exact this.symm
theorem cm_all {kd cn : Nat → Nat} {n : Nat} (h : NzN n kd cn) (hn : n ≤ 16) : sN cn (16 * n) = sN cn 256 := by
  have h1 := sN_add cn (16 * n) (256 - 16 * n)
  rw [show 16 * n + (256 - 16 * n) = 256 by omega] at h1
  have h2 := sN_zero (f := fun i => cn (16 * n + i)) (n := 256 - 16 * n) (fun i hi => by
    have := h ((16 * n + i) / 8) (by omega) (by unfold isIn; omega) ((16 * n + i) % 8) (by omega)
    rw [show 8 * ((16 * n + i) / 8) + (16 * n + i) % 8 = 16 * n + i by omega] at this
    exact this)
  omega
/-- 1 as soon as one of the first k parts is a guide -/
def gd (kd : Nat → Nat) (k : Nat) : Nat := rp (fun j x => if ¬ x = 0 ∨ kd j = 1 then 1 else 0) k 0
theorem gd_s (kd : Nat → Nat) (k : Nat) : gd kd (k + 1) = if ¬ gd kd k = 0 ∨ kd k = 1 then 1 else 0 := rfl
theorem gd_le (kd : Nat → Nat) : ∀ k, gd kd k ≤ 1
  | 0 => Nat.zero_le _
  | k + 1 => by rw [gd_s]; split <;> omega
theorem gd_0 {kd : Nat → Nat} : ∀ k, gd kd k = 0 → ∀ j, j < k → ¬ kd j = 1
  | 0, _, j, hj => absurd hj (by omega)
  | k + 1, h, j, hj => by
    rw [gd_s] at h
    split at h
    · exact absurd h (by decide)
    · rename_i q
      by_cases e : j = k
      · subst e; exact fun z => q (Or.inr z)
      · exact gd_0 k (Decidable.byContradiction fun z => q (Or.inl z)) j (by omega)
theorem ins_0 {n tk : Nat} {kd fi un ins : Nat → Nat} (h : DlN kd fi tk 0 0 un ins) (hg : ∀ j, j < 16 → ¬ kd j = 1) : sN ins 1024 = 0 := by
  refine sN_zero (fun k hk => ?_)
  have := h (k / 64) (k % 8) (k / 8 % 8) (by omega) (by omega) (by omega)
  rw [if_neg (fun z => hg (k / 64) (by omega) z.1), show 64 * (k / 64) + 8 * (k / 8 % 8) + k % 8 = k by omega] at this
  exact this

set_option maxHeartbeats 4000000 in
set_option maxRecDepth 100000 in
theorem h_isLed (l : Launch) (E : EnvT) (sz : Nat) (pt oo qt ii : Nat) (aO : Nat) (aLg : Nat) (aDa : Nat) (aKs : Nat) (lst : Nat) (aLy : Nat) (aK : Nat) (aX : Nat) (aY : Nat) (aF : Nat) (aS : Nat) (aL : Nat) (n : Nat) (kd : Nat → Nat) (le : Nat → Nat) (hp : pt < n) (ho : oo < stV 1 (kd pt)) (hq : qt < n) (hi : ii < stV 0 (kd qt)) (ht : tkn le (2 * pt + oo) (2 * qt + ii) 32 = false) (hn : n ≤ 16) (hk5 : ∀ j, j < n → kd j ≤ 5) (hL : ∀ j, j < 32 → le j ≤ 32) : MI l yL_isLed wsL_isLed ({ frames := 3, cells := 0, slots := 0, locals := 69 }) E sz [.ref aO, .int (nI pt), .int (nI oo), .int (nI qt), .int (nI ii)] [(aO, o3 aLy aLg aDa aKs (nI lst)), (aLy, o0 (nI n) aK aX aY aF aS aL), (aK, ia E nI 16 kd), (aL, ia E cL 32 le)] (fun (r : Int32) (_ : Unit) => r = nI 1) (fun _ => [(aO, o3 aLy aLg aDa aKs (nI lst)), (aLy, o0 (nI n) aK aX aY aF aS aL), (aK, ia E nI 16 kd), (aL, ia E cL 32 (va_up le (pt * 2 + oo) (qt * 2 + ii + 1)))]) := by
  refine enIw (cc := cL_isLed) (maxL := 6) (hh := [(0, 10, 13, 14)]) (by decide +kernel) rfl (Nat.le_of_ble_eq_true rfl) ?_
  intro p e s m below meth c A ls hx hb hr hml hts hown hlocks htab hAe C0 hP hD hS hl
  have hown : s.vm.findClass RL = some m.cls := hown
  have hl : lv_has ls 6 [(0, .ref aO), (1, .int (nI pt)), (2, .int (nI oo)), (3, .int (nI qt)), (4, .int (nI ii))] := hl
  obtain ⟨H, hHe⟩ : ∃ z, z = s.heap := ⟨_, rfl⟩
  obtain ⟨locs, hLe⟩ : ∃ z : List Loc, z = [] := ⟨_, rfl⟩
  have hP : va_P E.1 vwCl [(aO, o3 aLy aLg aDa aKs (nI lst)), (aLy, o0 (nI n) aK aX aY aF aS aL), (aK, ia E nI 16 kd), (aL, ia E cL 32 le)] H := by rw [hHe]; exact hP
  have hD : va_D A [(aO, o3 aLy aLg aDa aKs (nI lst)), (aLy, o0 (nI n) aK aX aY aF aS aL), (aK, ia E nI 16 kd), (aL, ia E cL 32 le)] := hD
  have hS : va_S A s.heap H locs := by rw [hHe, hLe]; exact hS
  suffices hgo : W p l e _ s m _ below meth c H locs 0 0 _ (F0 m 0 ls []) by rw [hHe, hLe] at hgo; exact hgo
  clear hHe hLe
  refine lv_aload_n hx hb dL_isLed_0 rfl (lv_at hl 0 rfl) ?_
  refine lv_iload_n hx hb dL_isLed_1 rfl (lv_at hl 1 rfl) ?_
  refine lv_iload_n hx hb dL_isLed_2 rfl (lv_at hl 2 rfl) ?_
  refine lv_iload_n hx hb dL_isLed_3 rfl (lv_at hl 3 rfl) ?_
  refine lv_iload hx hb dL_isLed_4 (lv_at hl 4 rfl) ?_
  have hPc := hP.pick (ws' := [(aO, o3 aLy aLg aDa aKs (nI lst)), (aLy, o0 (nI n) aK aX aY aF aS aL), (aK, ia E nI 16 kd), (aL, ia E cL 32 le)]) [0, 1, 2, 3] rfl
  have hDc := hD.sub (ws' := [(aO, o3 aLy aLg aDa aKs (nI lst)), (aLy, o0 (nI n) aK aX aY aF aS aL), (aK, ia E nI 16 kd), (aL, ia E cL 32 le)]) [0, 1, 2, 3] (by decide) rfl
  refine kcI (wr := []) (w1 := fun _ : Unit => [(aO, o3 aLy aLg aDa aKs (nI lst)), (aLy, o0 (nI n) aK aX aY aF aS aL), (aK, ia E nI 16 kd), (aL, ia E cL 32 (va_up le (pt * 2 + oo) (qt * 2 + ii + 1)))]) (w2 := fun _ => [(aO, o3 aLy aLg aDa aKs (nI lst)), (aLy, o0 (nI n) aK aX aY aF aS aL), (aK, ia E nI 16 kd), (aL, ia E cL 32 (va_up le (pt * 2 + oo) (qt * 2 + ii + 1)))]) (va_runV (As := [.int (nI pt), .int (nI oo), .int (nI qt), .int (nI ii)]) (rest := []) ⟨hx, hb, hml, hown, hts⟩ (c_leadN l E H.size pt oo qt ii aO aLg aDa aKs lst aLy aK aX aY aF aS aL n kd le (hp) (ho) (hq) (hi) (ht) (hn) (hk5) (hL)) (cwV 4 hts gL_isLed_X3_lead rfl rfl rfl (by decide +kernel) ⟨Nat.le_of_ble_eq_true rfl, Nat.le_of_ble_eq_true rfl⟩) (preV C0 hPc hDc hS 0 rfl rfl) rfl rfl hl.1 rfl (lv_room (Nat.le_of_ble_eq_true rfl)) dL_isLed_6 ⟨Nat.le_refl _, Nat.le_refl _⟩) C0 hP hD hS [0, 1, 2, 3] [] [0, 1, 2, 3] rfl rfl (by decide) (by decide) (fun _ => rfl) (by decide) (fun r_9 _u H locs hw hP hD hS => ?_)
  have hP : va_P E.1 vwCl [(aO, o3 aLy aLg aDa aKs (nI lst)), (aLy, o0 (nI n) aK aX aY aF aS aL), (aK, ia E nI 16 kd), (aL, ia E cL 32 (va_up le (pt * 2 + oo) (qt * 2 + ii + 1)))] H := hP
  have hD : va_D A [(aO, o3 aLy aLg aDa aKs (nI lst)), (aLy, o0 (nI n) aK aX aY aF aS aL), (aK, ia E nI 16 kd), (aL, ia E cL 32 (va_up le (pt * 2 + oo) (qt * 2 + ii + 1)))] := hD
  have hw : r_9 = cL (ledF (le (pt * 2 + oo))) := hw
  subst hw
  refine lv_pop hx hb dL_isLed_9 rfl ?_
  refine lv_goto (tgt := 17) hx hb dL_isLed_10 (by decide) ?_
  refine lv_iconst (v := nI 1) hx hb dL_isLed_17 (by decide) ?_
  have q_1 : (nI 1) = (nI 1) := rfl
  exact exZ hx hb hr hlocks hAe hS () (by decide) q_1 hP hD dL_isLed_18

set_option maxHeartbeats 4000000 in
set_option maxRecDepth 100000 in
theorem hx_isLed (l : Launch) (E : EnvT) (sz : Nat) (pt oo qt ii : Nat) (aO : Nat) (aLg : Nat) (aDa : Nat) (aKs : Nat) (lst : Nat) (aLy : Nat) (aK : Nat) (aX : Nat) (aY : Nat) (aF : Nat) (aS : Nat) (aL : Nat) (n : Nat) (kd : Nat → Nat) (le : Nat → Nat) (hp : pt < n) (ho : oo < stV 1 (kd pt)) (hq : qt < n) (hi : ii < stV 0 (kd qt)) (ht : tkn le (2 * pt + oo) (2 * qt + ii) 32 = true) (hn : n ≤ 16) (hk5 : ∀ j, j < n → kd j ≤ 5) (hL : ∀ j, j < 32 → le j ≤ 32) (hst : l.stackTraces = false) : MIn l yL_isLed wsL_isLed ({ frames := 9, cells := 1, slots := 6, locals := 151 }) E sz [.ref aO, .int (nI pt), .int (nI oo), .int (nI qt), .int (nI ii)] [(aO, o3 aLy aLg aDa aKs (nI lst)), (aLy, o0 (nI n) aK aX aY aF aS aL), (aK, ia E nI 16 kd), (aL, ia E cL 32 le)] (fun (r : Int32) (_ : Unit) => r = nI 0) (fun _ => [(aO, o3 aLy aLg aDa aKs (nI lst)), (aLy, o0 (nI n) aK aX aY aF aS aL), (aK, ia E nI 16 kd), (aL, ia E cL 32 le)]) 1 6 := by
  refine enIw (cc := cL_isLed) (maxL := 6) (hh := [(0, 10, 13, 14)]) (by decide +kernel) rfl (Nat.le_of_ble_eq_true rfl) ?_
  intro p e s m below meth c A ls hx hb hr hml hts hown hlocks htab hAe C0 hP hD hS hl
  have hown : s.vm.findClass RL = some m.cls := hown
  have hl : lv_has ls 6 [(0, .ref aO), (1, .int (nI pt)), (2, .int (nI oo)), (3, .int (nI qt)), (4, .int (nI ii))] := hl
  obtain ⟨H, hHe⟩ : ∃ z, z = s.heap := ⟨_, rfl⟩
  obtain ⟨locs, hLe⟩ : ∃ z : List Loc, z = [] := ⟨_, rfl⟩
  have hP : va_P E.1 vwCl [(aO, o3 aLy aLg aDa aKs (nI lst)), (aLy, o0 (nI n) aK aX aY aF aS aL), (aK, ia E nI 16 kd), (aL, ia E cL 32 le)] H := by rw [hHe]; exact hP
  have hD : va_D A [(aO, o3 aLy aLg aDa aKs (nI lst)), (aLy, o0 (nI n) aK aX aY aF aS aL), (aK, ia E nI 16 kd), (aL, ia E cL 32 le)] := hD
  have hS : va_S A s.heap H locs := by rw [hHe, hLe]; exact hS
  suffices hgo : W p l e _ s m _ below meth c H locs 0 0 _ (F0 m 0 ls []) by rw [hHe, hLe] at hgo; exact hgo
  clear hHe hLe
  refine lv_aload_n hx hb dL_isLed_0 rfl (lv_at hl 0 rfl) ?_
  refine lv_iload_n hx hb dL_isLed_1 rfl (lv_at hl 1 rfl) ?_
  refine lv_iload_n hx hb dL_isLed_2 rfl (lv_at hl 2 rfl) ?_
  refine lv_iload_n hx hb dL_isLed_3 rfl (lv_at hl 3 rfl) ?_
  refine lv_iload hx hb dL_isLed_4 (lv_at hl 4 rfl) ?_
  have hPc := hP.pick (ws' := [(aO, o3 aLy aLg aDa aKs (nI lst)), (aLy, o0 (nI n) aK aX aY aF aS aL), (aK, ia E nI 16 kd), (aL, ia E cL 32 le)]) [0, 1, 2, 3] rfl
  have hDc := hD.sub (ws' := [(aO, o3 aLy aLg aDa aKs (nI lst)), (aLy, o0 (nI n) aK aX aY aF aS aL), (aK, ia E nI 16 kd), (aL, ia E cL 32 le)]) [0, 1, 2, 3] (by decide) rfl
  refine kcC (wr := []) (xn := xS) (nm := xS) (own := RL) rfl (vx_runV (As := [.int (nI pt), .int (nI oo), .int (nI qt), .int (nI ii)]) (rest := []) ⟨hx, hb, hml, hown, hts⟩ (x_leadN l E H.size pt oo qt ii aO aLg aDa aKs lst aLy aK aX aY aF aS aL n kd le hp ho hq hi ht hn hk5 hL hst) (cwV 4 hts gL_isLed_X3_lead rfl rfl rfl (by decide +kernel) ⟨Nat.le_of_ble_eq_true rfl, Nat.le_of_ble_eq_true rfl⟩) (preV C0 hPc hDc hS 0 rfl rfl) rfl rfl hl.1 rfl (lv_room (Nat.le_of_ble_eq_true rfl)) dL_isLed_6 ⟨Nat.le_of_ble_eq_true rfl, Nat.le_of_ble_eq_true rfl⟩) hown [] ⟨0, 10, 13, 14⟩ [] htab (fun z hz => nomatch hz) (by decide) (by decide) (hts (.classLink RL 14 xS) (by decide +kernel)) (va_Nw.use rfl (C0.2.2.2.1.2.2.2.2.1 xS (by decide +kernel))) C0 hP hD hS [0, 1, 2, 3] [] [0, 1, 2, 3] rfl rfl (by decide) (by decide) rfl (by decide) (fun q H locs hP hD hS => ?_)
  have hP : va_P E.1 vwCl [(aO, o3 aLy aLg aDa aKs (nI lst)), (aLy, o0 (nI n) aK aX aY aF aS aL), (aK, ia E nI 16 kd), (aL, ia E cL 32 le)] H := hP
  have hD : va_D A [(aO, o3 aLy aLg aDa aKs (nI lst)), (aLy, o0 (nI n) aK aX aY aF aS aL), (aK, ia E nI 16 kd), (aL, ia E cL 32 le)] := hD
  refine lv_astore (lv' := [(5, .ref q), (0, .ref aO), (1, .int (nI pt)), (2, .int (nI oo)), (3, .int (nI qt)), (4, .int (nI ii))]) hx hb dL_isLed_13 hl (by decide) rfl (fun ls hl => ?_)
  refine lv_iconst (v := nI 0) hx hb dL_isLed_15 (by decide) ?_
  exact exZn hx hb hr hlocks hAe hS () (by decide) rfl hP hD dL_isLed_16

set_option maxHeartbeats 4000000 in
set_option maxRecDepth 100000 in
theorem h_target (l : Launch) (E : EnvT) (sz : Nat) (pp aKi aPl : Nat) (ki pl xs ys : Nat → Nat) (aO : Nat) (aDa : Nat) (lst : Nat) (aLy : Nat) (aK : Nat) (aX : Nat) (aY : Nat) (aF : Nat) (aS : Nat) (aL : Nat) (aLi : Nat) (aC : Nat) (aG : Nat) (aU : Nat) (aR : Nat) (aN : Nat) (aW : Nat) (tk : Nat) (em : Int64) (lo : Int64) (lk : Int64) (de : Int64) (aLk : Nat) (aCh : Nat) (aLo : Nat) (aDi : Nat) (aDk : Nat) (aBe : Nat) (kd : Nat → Nat) (fi : Nat → Nat) (se : Nat → Nat) (wa : Nat → Nat) (chn : Nat → Nat) (los : Nat → Nat) (hp : pp < 10) (hki : ∀ j, j < 10 → ki j = kd j) (hpl : ∀ j, j < 10 → pl (2 * j) = xs j ∧ pl (2 * j + 1) = ys j) (hx9 : ∀ j, j < 16 → xs j ≤ 15 ∧ ys j ≤ 15) (hk5 : ∀ j, j < 10 → kd j ≤ 5) (hf : ∀ j, j < 10 → fi j ≤ 8) (hwa : ∀ j, j < 16 → wa j ≤ 20000) (hse : ∀ j, j < 10 → se j ≤ 1000) : MI l yL_target wsL_target ({ frames := 3, cells := 0, slots := 0, locals := 66 }) E sz [.ref aO, .ref aKi, .ref aPl, .int (nI pp)] [(aO, o3 aLy aLi aDa aLk (nI lst)), (aLi, o1 aLy aC aG aU aR aN aW (cO 8) (nI tk) em lo lk de), (aLk, o2 aLy aLi aCh aLo aDi aDk aBe), (aLy, o0 (nI 10) aK aX aY aF aS aL), (aK, ia E nI 16 kd), (aF, ia E nI 16 fi), (aS, ia E nI 16 se), (aW, ia E nI 16 wa), (aCh, ia E cL 16 chn), (aLo, ia E nI 16 los), (aKi, ia E nI 10 ki), (aPl, ia E nI 20 pl)] (fun (r : Int32) (_ : Unit) => r = nI (tgt 10 kd xs ys se pp)) (fun _ => [(aO, o3 aLy aLi aDa aLk (nI lst)), (aLi, o1 aLy aC aG aU aR aN aW (cO 8) (nI tk) em lo lk de), (aLk, o2 aLy aLi aCh aLo aDi aDk aBe), (aLy, o0 (nI 10) aK aX aY aF aS aL), (aK, ia E nI 16 kd), (aF, ia E nI 16 fi), (aS, ia E nI 16 se), (aW, ia E nI 16 wa), (aCh, ia E cL 16 chn), (aLo, ia E nI 16 los), (aKi, ia E nI 10 ki), (aPl, ia E nI 20 pl)]) := by
  refine enI (cc := cL_target) (maxL := 7) (ret := .int) (by decide +kernel) rfl (Nat.le_of_ble_eq_true rfl) ?_
  intro p e s m below meth c A ls hx hb hr hml hts hown hlocks hAe C0 hP hD hS hl
  have hown : s.vm.findClass RL = some m.cls := hown
  have hl : lv_has ls 7 [(0, .ref aO), (1, .ref aKi), (2, .ref aPl), (3, .int (nI pp))] := hl
  obtain ⟨H, hHe⟩ : ∃ z, z = s.heap := ⟨_, rfl⟩
  obtain ⟨locs, hLe⟩ : ∃ z : List Loc, z = [] := ⟨_, rfl⟩
  have hP : va_P E.1 vwCl [(aO, o3 aLy aLi aDa aLk (nI lst)), (aLi, o1 aLy aC aG aU aR aN aW (cO 8) (nI tk) em lo lk de), (aLk, o2 aLy aLi aCh aLo aDi aDk aBe), (aLy, o0 (nI 10) aK aX aY aF aS aL), (aK, ia E nI 16 kd), (aF, ia E nI 16 fi), (aS, ia E nI 16 se), (aW, ia E nI 16 wa), (aCh, ia E cL 16 chn), (aLo, ia E nI 16 los), (aKi, ia E nI 10 ki), (aPl, ia E nI 20 pl)] H := by rw [hHe]; exact hP
  have hD : va_D A [(aO, o3 aLy aLi aDa aLk (nI lst)), (aLi, o1 aLy aC aG aU aR aN aW (cO 8) (nI tk) em lo lk de), (aLk, o2 aLy aLi aCh aLo aDi aDk aBe), (aLy, o0 (nI 10) aK aX aY aF aS aL), (aK, ia E nI 16 kd), (aF, ia E nI 16 fi), (aS, ia E nI 16 se), (aW, ia E nI 16 wa), (aCh, ia E cL 16 chn), (aLo, ia E nI 16 los), (aKi, ia E nI 10 ki), (aPl, ia E nI 20 pl)] := hD
  have hS : va_S A s.heap H locs := by rw [hHe, hLe]; exact hS
  suffices hgo : W p l e _ s m _ below meth c H locs 0 0 _ (F0 m 0 ls []) by rw [hHe, hLe] at hgo; exact hgo
  clear hHe hLe
  refine lv_iconst (v := nI 4) hx hb dL_target_0 (by decide) ?_
  refine lv_aload_n hx hb dL_target_1 rfl (lv_at hl 0 rfl) ?_
  refine lv_iload_n hx hb dL_target_2 rfl (lv_at hl 3 rfl) ?_
  refine lv_iconst (v := nI 1) hx hb dL_target_3 (by decide) ?_
  have hPc := hP.pick (ws' := [(aO, o3 aLy aLi aDa aLk (nI lst)), (aLi, o1 aLy aC aG aU aR aN aW (cO 8) (nI tk) em lo lk de), (aLk, o2 aLy aLi aCh aLo aDi aDk aBe), (aLy, o0 (nI 10) aK aX aY aF aS aL), (aK, ia E nI 16 kd), (aF, ia E nI 16 fi), (aS, ia E nI 16 se), (aW, ia E nI 16 wa), (aCh, ia E cL 16 chn), (aLo, ia E nI 16 los)]) [0, 1, 2, 3, 4, 5, 6, 7, 8, 9] rfl
  have hDc := hD.sub (ws' := [(aO, o3 aLy aLi aDa aLk (nI lst)), (aLi, o1 aLy aC aG aU aR aN aW (cO 8) (nI tk) em lo lk de), (aLk, o2 aLy aLi aCh aLo aDi aDk aBe), (aLy, o0 (nI 10) aK aX aY aF aS aL), (aK, ia E nI 16 kd), (aF, ia E nI 16 fi), (aS, ia E nI 16 se), (aW, ia E nI 16 wa), (aCh, ia E cL 16 chn), (aLo, ia E nI 16 los)]) [0, 1, 2, 3, 4, 5, 6, 7, 8, 9] (by decide) rfl
  refine kcI (wr := [(aKi, ia E nI 10 ki), (aPl, ia E nI 20 pl)]) (w1 := fun _ : Unit => [(aO, o3 aLy aLi aDa aLk (nI lst)), (aLi, o1 aLy aC aG aU aR aN aW (cO 8) (nI tk) em lo lk de), (aLk, o2 aLy aLi aCh aLo aDi aDk aBe), (aLy, o0 (nI 10) aK aX aY aF aS aL), (aK, ia E nI 16 kd), (aF, ia E nI 16 fi), (aS, ia E nI 16 se), (aW, ia E nI 16 wa), (aCh, ia E cL 16 chn), (aLo, ia E nI 16 los)]) (w2 := fun _ => [(aO, o3 aLy aLi aDa aLk (nI lst)), (aLi, o1 aLy aC aG aU aR aN aW (cO 8) (nI tk) em lo lk de), (aLk, o2 aLy aLi aCh aLo aDi aDk aBe), (aLy, o0 (nI 10) aK aX aY aF aS aL), (aK, ia E nI 16 kd), (aF, ia E nI 16 fi), (aS, ia E nI 16 se), (aW, ia E nI 16 wa), (aCh, ia E cL 16 chn), (aLo, ia E nI 16 los), (aKi, ia E nI 10 ki), (aPl, ia E nI 20 pl)]) (va_runV (As := [.int (nI pp), .int (nI 1)]) (rest := [.int (nI 4)]) ⟨hx, hb, hml, hown, hts⟩ (c_of1 l E H.size pp aO aDa lst aLy aK aX aY aF aS aL 10 aLi aC aG aU aR aN aW 8 tk em lo lk de aLk aCh aLo aDi aDk aBe kd fi se wa chn los (by omega) (by omega) (hk5) (hf) (by omega) (hwa)) (cwV 2 hts gL_target_X3_ofPart rfl rfl rfl (by decide +kernel) ⟨Nat.le_of_ble_eq_true rfl, Nat.le_of_ble_eq_true rfl⟩) (preV C0 hPc hDc hS 0 rfl rfl) rfl rfl hl.1 rfl (lv_room (Nat.le_of_ble_eq_true rfl)) dL_target_4 ⟨Nat.le_refl _, Nat.le_refl _⟩) C0 hP hD hS [0, 1, 2, 3, 4, 5, 6, 7, 8, 9] [10, 11] [2, 3, 4, 5, 6, 7, 8, 9, 10, 11, 0, 1] rfl rfl (by decide) (by decide) (fun _ => rfl) (by decide) (fun r_9 _u H locs hw hP hD hS => ?_)
  have hP : va_P E.1 vwCl [(aO, o3 aLy aLi aDa aLk (nI lst)), (aLi, o1 aLy aC aG aU aR aN aW (cO 8) (nI tk) em lo lk de), (aLk, o2 aLy aLi aCh aLo aDi aDk aBe), (aLy, o0 (nI 10) aK aX aY aF aS aL), (aK, ia E nI 16 kd), (aF, ia E nI 16 fi), (aS, ia E nI 16 se), (aW, ia E nI 16 wa), (aCh, ia E cL 16 chn), (aLo, ia E nI 16 los), (aKi, ia E nI 10 ki), (aPl, ia E nI 20 pl)] H := hP
  have hD : va_D A [(aO, o3 aLy aLi aDa aLk (nI lst)), (aLi, o1 aLy aC aG aU aR aN aW (cO 8) (nI tk) em lo lk de), (aLk, o2 aLy aLi aCh aLo aDi aDk aBe), (aLy, o0 (nI 10) aK aX aY aF aS aL), (aK, ia E nI 16 kd), (aF, ia E nI 16 fi), (aS, ia E nI 16 se), (aW, ia E nI 16 wa), (aCh, ia E cL 16 chn), (aLo, ia E nI 16 los), (aKi, ia E nI 10 ki), (aPl, ia E nI 20 pl)] := hD
  have hw : r_9 = nI (se pp) := hw
  subst hw
  refine lv_imul hx hb dL_target_7 ?_
  refine lv_ri (y := (nI (4 * (se pp)))) (pk_mul 4 (se pp)) ?_
  refine lv_istore (lv' := [(4, .int (nI (4 * (se pp)))), (0, .ref aO), (1, .ref aKi), (2, .ref aPl), (3, .int (nI pp))]) hx hb dL_target_8 hl (by decide) rfl (fun ls hl => ?_)
  refine lv_iconst (v := nI 0) hx hb dL_target_10 (by decide) ?_
  refine lv_istore (lv' := [(5, .int (nI 0)), (4, .int (nI (4 * (se pp)))), (0, .ref aO), (1, .ref aKi), (2, .ref aPl), (3, .int (nI pp))]) hx hb dL_target_11 hl (by decide) rfl (fun ls hl => ?_)
  have LP_1 : ∀ (nz i_3 : Nat), i_3 ≤ 10 → 10 < i_3 + nz → ∀ (H : Heap) (locs : List Loc), va_P E.1 vwCl [(aO, o3 aLy aLi aDa aLk (nI lst)), (aLi, o1 aLy aC aG aU aR aN aW (cO 8) (nI tk) em lo lk de), (aLk, o2 aLy aLi aCh aLo aDi aDk aBe), (aLy, o0 (nI 10) aK aX aY aF aS aL), (aK, ia E nI 16 kd), (aF, ia E nI 16 fi), (aS, ia E nI 16 se), (aW, ia E nI 16 wa), (aCh, ia E cL 16 chn), (aLo, ia E nI 16 los), (aKi, ia E nI 10 ki), (aPl, ia E nI 20 pl)] H → va_D A [(aO, o3 aLy aLi aDa aLk (nI lst)), (aLi, o1 aLy aC aG aU aR aN aW (cO 8) (nI tk) em lo lk de), (aLk, o2 aLy aLi aCh aLo aDi aDk aBe), (aLy, o0 (nI 10) aK aX aY aF aS aL), (aK, ia E nI 16 kd), (aF, ia E nI 16 fi), (aS, ia E nI 16 se), (aW, ia E nI 16 wa), (aCh, ia E cL 16 chn), (aLo, ia E nI 16 los), (aKi, ia E nI 10 ki), (aPl, ia E nI 20 pl)] → va_S A s.heap H locs → ∀ (ls : Array Slot), lv_has ls 7 [(0, .ref aO), (1, .ref aKi), (2, .ref aPl), (3, .int (nI pp)), (4, .int (nI (rp (tgB kd xs ys se pp) (i_3) (4 * se pp)))), (5, .int (nI i_3))] → W p l e ({ frames := 3, cells := 0, slots := 0, locals := 66 }) s m (([.ref aO, .ref aKi, .ref aPl, .int (nI pp)] : List Value).toArray) below meth c H locs 0 0 (MQ below (va_Qi (fun (r : Int32) (_ : Unit) => r = nI (tgt 10 kd xs ys se pp)) (Wd E [(aO, o3 aLy aLi aDa aLk (nI lst)), (aLi, o1 aLy aC aG aU aR aN aW (cO 8) (nI tk) em lo lk de), (aLk, o2 aLy aLi aCh aLo aDi aDk aBe), (aLy, o0 (nI 10) aK aX aY aF aS aL), (aK, ia E nI 16 kd), (aF, ia E nI 16 fi), (aS, ia E nI 16 se), (aW, ia E nI 16 wa), (aCh, ia E cL 16 chn), (aLo, ia E nI 16 los), (aKi, ia E nI 10 ki), (aPl, ia E nI 20 pl)] s.heap.size (fun _ => [(aO, o3 aLy aLi aDa aLk (nI lst)), (aLi, o1 aLy aC aG aU aR aN aW (cO 8) (nI tk) em lo lk de), (aLk, o2 aLy aLi aCh aLo aDi aDk aBe), (aLy, o0 (nI 10) aK aX aY aF aS aL), (aK, ia E nI 16 kd), (aF, ia E nI 16 fi), (aS, ia E nI 16 se), (aW, ia E nI 16 wa), (aCh, ia E cL 16 chn), (aLo, ia E nI 16 los), (aKi, ia E nI 10 ki), (aPl, ia E nI 20 pl)])) A) (([.ref aO, .ref aKi, .ref aPl, .int (nI pp)] : List Value).toArray) s 0 0 A) (F0 m 13 ls []) := by
    intro nz
    induction nz with
    | zero =>
      intro i_3 h1 h2
      exact absurd h2 (by omega)
    | succ nz ih_2 =>
      intro i_3 hi_i_3 hn_i_3 H locs hP hD hS ls hl
      refine lv_iload hx hb dL_target_13 (lv_at hl 5 rfl) ?_
      refine lv_bipush (v := nI 10) hx hb dL_target_15 (by decide) ?_
      refine lv_icmp_ge (tgt := 77) hx hb dL_target_17 (by decide) (fun c_4 => ?_) (fun c_4 => ?_)
      · skip
        have c_4 : 10 ≤ i_3 := (ci_ge (by omega) (by omega)).mp c_4
        obtain rfl : i_3 = 10 := by omega
        refine lv_iload hx hb dL_target_77 (lv_at hl 4 rfl) ?_
        have q_5 : (nI (rp (tgB kd xs ys se pp) (10) (4 * se pp))) = (nI (tgt 10 kd xs ys se pp)) := by symm; rfl
        exact exI hx hb hr hlocks hAe hS () q_5 hP hD dL_target_79
      · skip
        have c_4 : ¬ (10 ≤ i_3) := fun h => c_4 ((ci_ge (by omega) (by omega)).mpr h)
        have hkq := hki i_3 (by omega)
        have hkq5 := hk5 i_3 (by omega)
        have hdb := dst_bd hx9 (show pp < 16 by omega) (show i_3 < 16 by omega)
        have hsq := hse i_3 (by omega)
        refine lv_aload_n hx hb dL_target_20 rfl (lv_at hl 2 rfl) ?_
        refine lv_iload_n hx hb dL_target_21 rfl (lv_at hl 3 rfl) ?_
        refine lv_iload hx hb dL_target_22 (lv_at hl 5 rfl) ?_
        have hPc := hP.pick (ws' := [(aPl, ia E nI 20 pl)]) [11] rfl
        have hDc := hD.sub (ws' := [(aPl, ia E nI 20 pl)]) [11] (by decide) rfl
        refine kcI (wr := [(aO, o3 aLy aLi aDa aLk (nI lst)), (aLi, o1 aLy aC aG aU aR aN aW (cO 8) (nI tk) em lo lk de), (aLk, o2 aLy aLi aCh aLo aDi aDk aBe), (aLy, o0 (nI 10) aK aX aY aF aS aL), (aK, ia E nI 16 kd), (aF, ia E nI 16 fi), (aS, ia E nI 16 se), (aW, ia E nI 16 wa), (aCh, ia E cL 16 chn), (aLo, ia E nI 16 los), (aKi, ia E nI 10 ki)]) (w1 := fun _ : Unit => [(aPl, ia E nI 20 pl)]) (w2 := fun _ => [(aO, o3 aLy aLi aDa aLk (nI lst)), (aLi, o1 aLy aC aG aU aR aN aW (cO 8) (nI tk) em lo lk de), (aLk, o2 aLy aLi aCh aLo aDi aDk aBe), (aLy, o0 (nI 10) aK aX aY aF aS aL), (aK, ia E nI 16 kd), (aF, ia E nI 16 fi), (aS, ia E nI 16 se), (aW, ia E nI 16 wa), (aCh, ia E cL 16 chn), (aLo, ia E nI 16 los), (aKi, ia E nI 10 ki), (aPl, ia E nI 20 pl)]) (va_runS (As := [.ref aPl, .int (nI pp), .int (nI i_3)]) (rest := []) ⟨hx, hb, hml, hown, hts⟩ (h_far l E H.size pp i_3 aPl pl xs ys (by omega) (by omega) (hpl) (hx9)) (va_cwS 3 hts gL_target_L_far rfl rfl rfl (by decide +kernel) ⟨Nat.le_of_ble_eq_true rfl, Nat.le_of_ble_eq_true rfl⟩) (preS C0 hPc hDc hS) rfl rfl hl.1 rfl (lv_room (Nat.le_of_ble_eq_true rfl)) dL_target_24 ⟨Nat.le_refl _, Nat.le_refl _⟩) C0 hP hD hS [11] [0, 1, 2, 3, 4, 5, 6, 7, 8, 9, 10] [0, 1, 2, 3, 4, 5, 6, 7, 8, 9, 10, 11] rfl rfl (by decide) (by decide) (fun _ => rfl) (by decide) (fun r_9 _u H locs hw hP hD hS => ?_)
        have hP : va_P E.1 vwCl [(aO, o3 aLy aLi aDa aLk (nI lst)), (aLi, o1 aLy aC aG aU aR aN aW (cO 8) (nI tk) em lo lk de), (aLk, o2 aLy aLi aCh aLo aDi aDk aBe), (aLy, o0 (nI 10) aK aX aY aF aS aL), (aK, ia E nI 16 kd), (aF, ia E nI 16 fi), (aS, ia E nI 16 se), (aW, ia E nI 16 wa), (aCh, ia E cL 16 chn), (aLo, ia E nI 16 los), (aKi, ia E nI 10 ki), (aPl, ia E nI 20 pl)] H := hP
        have hD : va_D A [(aO, o3 aLy aLi aDa aLk (nI lst)), (aLi, o1 aLy aC aG aU aR aN aW (cO 8) (nI tk) em lo lk de), (aLk, o2 aLy aLi aCh aLo aDi aDk aBe), (aLy, o0 (nI 10) aK aX aY aF aS aL), (aK, ia E nI 16 kd), (aF, ia E nI 16 fi), (aS, ia E nI 16 se), (aW, ia E nI 16 wa), (aCh, ia E cL 16 chn), (aLo, ia E nI 16 los), (aKi, ia E nI 10 ki), (aPl, ia E nI 20 pl)] := hD
        have hw : r_9 = nI (dst xs ys pp i_3) := hw
        subst hw
        refine lv_istore (lv' := [(6, .int (nI (dst xs ys pp i_3))), (0, .ref aO), (1, .ref aKi), (2, .ref aPl), (3, .int (nI pp)), (4, .int (nI (rp (tgB kd xs ys se pp) (i_3) (4 * se pp)))), (5, .int (nI i_3))]) hx hb dL_target_27 hl (by decide) rfl (fun ls hl => ?_)
        refine lv_iload hx hb dL_target_29 (lv_at hl 5 rfl) ?_
        refine lv_iload hx hb dL_target_31 (lv_at hl 6 rfl) ?_
        refine lv_iload_n hx hb dL_target_33 rfl (lv_at hl 4 rfl) ?_
        refine lv_icmp_eq (tgt := 67) hx hb dL_target_34 (by decide) (fun c_6 => ?_) (fun c_6 => ?_)
        · skip
          have c_6 : i_3 = pp := (ci_eq (by omega) (by omega)).mp c_6
          refine lv_iconst (v := nI 0) hx hb dL_target_67 (by decide) ?_
          refine lv_iadd hx hb dL_target_68 ?_
          refine lv_ri (y := (nI (rp (tgB kd xs ys se pp) (i_3 + 1) (4 * se pp)))) ((nI_add _ _).trans (congrArg nI (by first | exact tg_a (by omega) | exact tg_b (by omega) | exact tg_c (by omega) (by omega) (by omega) | exact tg_d (by omega) (by omega) (by omega)))) ?_
          refine lv_istore (lv' := [(4, .int (nI (rp (tgB kd xs ys se pp) (i_3 + 1) (4 * se pp)))), (6, .int (nI (dst xs ys pp i_3))), (0, .ref aO), (1, .ref aKi), (2, .ref aPl), (3, .int (nI pp)), (5, .int (nI i_3))]) hx hb dL_target_69 hl (by decide) rfl (fun ls hl => ?_)
          refine lv_iinc (v := nI (i_3 + 1)) (lv' := [(5, .int (nI (i_3 + 1))), (4, .int (nI (rp (tgB kd xs ys se pp) (i_3 + 1) (4 * se pp)))), (6, .int (nI (dst xs ys pp i_3))), (0, .ref aO), (1, .ref aKi), (2, .ref aPl), (3, .int (nI pp))]) hx hb dL_target_71 hl (k := 6) rfl (nI_add i_3 1) (by decide) rfl (fun ls hl => ?_)
          refine lv_goto (tgt := 13) hx hb dL_target_74 (by decide) ?_
          have hP : va_P E.1 vwCl [(aO, o3 aLy aLi aDa aLk (nI lst)), (aLi, o1 aLy aC aG aU aR aN aW (cO 8) (nI tk) em lo lk de), (aLk, o2 aLy aLi aCh aLo aDi aDk aBe), (aLy, o0 (nI 10) aK aX aY aF aS aL), (aK, ia E nI 16 kd), (aF, ia E nI 16 fi), (aS, ia E nI 16 se), (aW, ia E nI 16 wa), (aCh, ia E cL 16 chn), (aLo, ia E nI 16 los), (aKi, ia E nI 10 ki), (aPl, ia E nI 20 pl)] H := hP
          have hD : va_D A [(aO, o3 aLy aLi aDa aLk (nI lst)), (aLi, o1 aLy aC aG aU aR aN aW (cO 8) (nI tk) em lo lk de), (aLk, o2 aLy aLi aCh aLo aDi aDk aBe), (aLy, o0 (nI 10) aK aX aY aF aS aL), (aK, ia E nI 16 kd), (aF, ia E nI 16 fi), (aS, ia E nI 16 se), (aW, ia E nI 16 wa), (aCh, ia E cL 16 chn), (aLo, ia E nI 16 los), (aKi, ia E nI 10 ki), (aPl, ia E nI 20 pl)] := hD
          have hl : lv_has ls 7 [(0, .ref aO), (1, .ref aKi), (2, .ref aPl), (3, .int (nI pp)), (4, .int (nI (rp (tgB kd xs ys se pp) (i_3 + 1) (4 * se pp)))), (5, .int (nI (i_3 + 1)))] := lv_sub hl [3, 4, 5, 6, 1, 0] rfl
          exact ih_2 (i_3 + 1) (by omega) (by omega) _ _ hP hD hS _ hl
        · skip
          have c_6 : ¬ (i_3 = pp) := fun h => c_6 ((ci_eq (by omega) (by omega)).mpr h)
          refine lv_aload_n hx hb dL_target_37 rfl (lv_at hl 2 rfl) ?_
          refine lv_iload hx hb dL_target_38 (lv_at hl 6 rfl) ?_
          refine k_iald (e := i_3) (g := nI) (n := 10) hx hb C0 hP 10 rfl (by omega) (by omega) dL_target_40 ?_
          refine lv_iconst (v := nI 3) hx hb dL_target_41 (by decide) ?_
          refine lv_icmp_ne (tgt := 67) hx hb dL_target_42 (by decide) (fun c_7 => ?_) (fun c_7 => ?_)
          · skip
            have c_7 : ¬ ((ki i_3) = 3) := fun h => c_7 ((ci_eq (by omega) (by omega)).mpr h)
            refine lv_iconst (v := nI 0) hx hb dL_target_67 (by decide) ?_
            refine lv_iadd hx hb dL_target_68 ?_
            refine lv_ri (y := (nI (rp (tgB kd xs ys se pp) (i_3 + 1) (4 * se pp)))) ((nI_add _ _).trans (congrArg nI (by first | exact tg_a (by omega) | exact tg_b (by omega) | exact tg_c (by omega) (by omega) (by omega) | exact tg_d (by omega) (by omega) (by omega)))) ?_
            refine lv_istore (lv' := [(4, .int (nI (rp (tgB kd xs ys se pp) (i_3 + 1) (4 * se pp)))), (6, .int (nI (dst xs ys pp i_3))), (0, .ref aO), (1, .ref aKi), (2, .ref aPl), (3, .int (nI pp)), (5, .int (nI i_3))]) hx hb dL_target_69 hl (by decide) rfl (fun ls hl => ?_)
            refine lv_iinc (v := nI (i_3 + 1)) (lv' := [(5, .int (nI (i_3 + 1))), (4, .int (nI (rp (tgB kd xs ys se pp) (i_3 + 1) (4 * se pp)))), (6, .int (nI (dst xs ys pp i_3))), (0, .ref aO), (1, .ref aKi), (2, .ref aPl), (3, .int (nI pp))]) hx hb dL_target_71 hl (k := 6) rfl (nI_add i_3 1) (by decide) rfl (fun ls hl => ?_)
            refine lv_goto (tgt := 13) hx hb dL_target_74 (by decide) ?_
            have hP : va_P E.1 vwCl [(aO, o3 aLy aLi aDa aLk (nI lst)), (aLi, o1 aLy aC aG aU aR aN aW (cO 8) (nI tk) em lo lk de), (aLk, o2 aLy aLi aCh aLo aDi aDk aBe), (aLy, o0 (nI 10) aK aX aY aF aS aL), (aK, ia E nI 16 kd), (aF, ia E nI 16 fi), (aS, ia E nI 16 se), (aW, ia E nI 16 wa), (aCh, ia E cL 16 chn), (aLo, ia E nI 16 los), (aKi, ia E nI 10 ki), (aPl, ia E nI 20 pl)] H := hP
            have hD : va_D A [(aO, o3 aLy aLi aDa aLk (nI lst)), (aLi, o1 aLy aC aG aU aR aN aW (cO 8) (nI tk) em lo lk de), (aLk, o2 aLy aLi aCh aLo aDi aDk aBe), (aLy, o0 (nI 10) aK aX aY aF aS aL), (aK, ia E nI 16 kd), (aF, ia E nI 16 fi), (aS, ia E nI 16 se), (aW, ia E nI 16 wa), (aCh, ia E cL 16 chn), (aLo, ia E nI 16 los), (aKi, ia E nI 10 ki), (aPl, ia E nI 20 pl)] := hD
            have hl : lv_has ls 7 [(0, .ref aO), (1, .ref aKi), (2, .ref aPl), (3, .int (nI pp)), (4, .int (nI (rp (tgB kd xs ys se pp) (i_3 + 1) (4 * se pp)))), (5, .int (nI (i_3 + 1)))] := lv_sub hl [3, 4, 5, 6, 1, 0] rfl
            exact ih_2 (i_3 + 1) (by omega) (by omega) _ _ hP hD hS _ hl
          · skip
            have c_7 : (ki i_3) = 3 := (ci_eq (by omega) (by omega)).mp c_7
            refine lv_aload_n hx hb dL_target_45 rfl (lv_at hl 1 rfl) ?_
            refine lv_iload hx hb dL_target_46 (lv_at hl 6 rfl) ?_
            refine lv_iconst (v := nI 1) hx hb dL_target_48 (by decide) ?_
            have hPc := hP.pick (ws' := [(aO, o3 aLy aLi aDa aLk (nI lst)), (aLi, o1 aLy aC aG aU aR aN aW (cO 8) (nI tk) em lo lk de), (aLk, o2 aLy aLi aCh aLo aDi aDk aBe), (aLy, o0 (nI 10) aK aX aY aF aS aL), (aK, ia E nI 16 kd), (aF, ia E nI 16 fi), (aS, ia E nI 16 se), (aW, ia E nI 16 wa), (aCh, ia E cL 16 chn), (aLo, ia E nI 16 los)]) [0, 1, 2, 3, 4, 5, 6, 7, 8, 9] rfl
            have hDc := hD.sub (ws' := [(aO, o3 aLy aLi aDa aLk (nI lst)), (aLi, o1 aLy aC aG aU aR aN aW (cO 8) (nI tk) em lo lk de), (aLk, o2 aLy aLi aCh aLo aDi aDk aBe), (aLy, o0 (nI 10) aK aX aY aF aS aL), (aK, ia E nI 16 kd), (aF, ia E nI 16 fi), (aS, ia E nI 16 se), (aW, ia E nI 16 wa), (aCh, ia E cL 16 chn), (aLo, ia E nI 16 los)]) [0, 1, 2, 3, 4, 5, 6, 7, 8, 9] (by decide) rfl
            refine kcI (wr := [(aKi, ia E nI 10 ki), (aPl, ia E nI 20 pl)]) (w1 := fun _ : Unit => [(aO, o3 aLy aLi aDa aLk (nI lst)), (aLi, o1 aLy aC aG aU aR aN aW (cO 8) (nI tk) em lo lk de), (aLk, o2 aLy aLi aCh aLo aDi aDk aBe), (aLy, o0 (nI 10) aK aX aY aF aS aL), (aK, ia E nI 16 kd), (aF, ia E nI 16 fi), (aS, ia E nI 16 se), (aW, ia E nI 16 wa), (aCh, ia E cL 16 chn), (aLo, ia E nI 16 los)]) (w2 := fun _ => [(aO, o3 aLy aLi aDa aLk (nI lst)), (aLi, o1 aLy aC aG aU aR aN aW (cO 8) (nI tk) em lo lk de), (aLk, o2 aLy aLi aCh aLo aDi aDk aBe), (aLy, o0 (nI 10) aK aX aY aF aS aL), (aK, ia E nI 16 kd), (aF, ia E nI 16 fi), (aS, ia E nI 16 se), (aW, ia E nI 16 wa), (aCh, ia E cL 16 chn), (aLo, ia E nI 16 los), (aKi, ia E nI 10 ki), (aPl, ia E nI 20 pl)]) (va_runV (As := [.int (nI i_3), .int (nI 1)]) (rest := [.int (nI (rp (tgB kd xs ys se pp) (i_3) (4 * se pp)))]) ⟨hx, hb, hml, hown, hts⟩ (c_of1 l E H.size i_3 aO aDa lst aLy aK aX aY aF aS aL 10 aLi aC aG aU aR aN aW 8 tk em lo lk de aLk aCh aLo aDi aDk aBe kd fi se wa chn los (by omega) (by omega) (hk5) (hf) (by omega) (hwa)) (cwV 2 hts gL_target_X3_ofPart rfl rfl rfl (by decide +kernel) ⟨Nat.le_of_ble_eq_true rfl, Nat.le_of_ble_eq_true rfl⟩) (preV C0 hPc hDc hS 0 rfl rfl) rfl rfl hl.1 rfl (lv_room (Nat.le_of_ble_eq_true rfl)) dL_target_49 ⟨Nat.le_refl _, Nat.le_refl _⟩) C0 hP hD hS [0, 1, 2, 3, 4, 5, 6, 7, 8, 9] [10, 11] [2, 3, 4, 5, 6, 7, 8, 9, 10, 11, 0, 1] rfl rfl (by decide) (by decide) (fun _ => rfl) (by decide) (fun r_9 _u H locs hw hP hD hS => ?_)
            have hP : va_P E.1 vwCl [(aO, o3 aLy aLi aDa aLk (nI lst)), (aLi, o1 aLy aC aG aU aR aN aW (cO 8) (nI tk) em lo lk de), (aLk, o2 aLy aLi aCh aLo aDi aDk aBe), (aLy, o0 (nI 10) aK aX aY aF aS aL), (aK, ia E nI 16 kd), (aF, ia E nI 16 fi), (aS, ia E nI 16 se), (aW, ia E nI 16 wa), (aCh, ia E cL 16 chn), (aLo, ia E nI 16 los), (aKi, ia E nI 10 ki), (aPl, ia E nI 20 pl)] H := hP
            have hD : va_D A [(aO, o3 aLy aLi aDa aLk (nI lst)), (aLi, o1 aLy aC aG aU aR aN aW (cO 8) (nI tk) em lo lk de), (aLk, o2 aLy aLi aCh aLo aDi aDk aBe), (aLy, o0 (nI 10) aK aX aY aF aS aL), (aK, ia E nI 16 kd), (aF, ia E nI 16 fi), (aS, ia E nI 16 se), (aW, ia E nI 16 wa), (aCh, ia E cL 16 chn), (aLo, ia E nI 16 los), (aKi, ia E nI 10 ki), (aPl, ia E nI 20 pl)] := hD
            have hw : r_9 = nI (se i_3) := hw
            subst hw
            refine lv_iload hx hb dL_target_52 (lv_at hl 0 rfl) ?_
            refine lv_if_le (tgt := 62) hx hb dL_target_54 (by decide) (fun c_8 => ?_) (fun c_8 => ?_)
            · skip
              have c_8 : (dst xs ys pp i_3) ≤ 0 := (ci0_le (by omega)).mp c_8
              refine lv_iconst (v := nI 1) hx hb dL_target_62 (by decide) ?_
              refine lv_idiv hx hb dL_target_63 (by decide) ?_
              refine lv_ri (y := (nI ((se i_3) / 1))) (pk_div (by omega) (by omega) (by omega)) ?_
              refine lv_goto (tgt := 68) hx hb dL_target_64 (by decide) ?_
              refine lv_iadd hx hb dL_target_68 ?_
              refine lv_ri (y := (nI (rp (tgB kd xs ys se pp) (i_3 + 1) (4 * se pp)))) ((nI_add _ _).trans (congrArg nI (by first | exact tg_a (by omega) | exact tg_b (by omega) | exact tg_c (by omega) (by omega) (by omega) | exact tg_d (by omega) (by omega) (by omega)))) ?_
              refine lv_istore (lv' := [(4, .int (nI (rp (tgB kd xs ys se pp) (i_3 + 1) (4 * se pp)))), (6, .int (nI (dst xs ys pp i_3))), (0, .ref aO), (1, .ref aKi), (2, .ref aPl), (3, .int (nI pp)), (5, .int (nI i_3))]) hx hb dL_target_69 hl (by decide) rfl (fun ls hl => ?_)
              refine lv_iinc (v := nI (i_3 + 1)) (lv' := [(5, .int (nI (i_3 + 1))), (4, .int (nI (rp (tgB kd xs ys se pp) (i_3 + 1) (4 * se pp)))), (6, .int (nI (dst xs ys pp i_3))), (0, .ref aO), (1, .ref aKi), (2, .ref aPl), (3, .int (nI pp))]) hx hb dL_target_71 hl (k := 6) rfl (nI_add i_3 1) (by decide) rfl (fun ls hl => ?_)
              refine lv_goto (tgt := 13) hx hb dL_target_74 (by decide) ?_
              have hP : va_P E.1 vwCl [(aO, o3 aLy aLi aDa aLk (nI lst)), (aLi, o1 aLy aC aG aU aR aN aW (cO 8) (nI tk) em lo lk de), (aLk, o2 aLy aLi aCh aLo aDi aDk aBe), (aLy, o0 (nI 10) aK aX aY aF aS aL), (aK, ia E nI 16 kd), (aF, ia E nI 16 fi), (aS, ia E nI 16 se), (aW, ia E nI 16 wa), (aCh, ia E cL 16 chn), (aLo, ia E nI 16 los), (aKi, ia E nI 10 ki), (aPl, ia E nI 20 pl)] H := hP
              have hD : va_D A [(aO, o3 aLy aLi aDa aLk (nI lst)), (aLi, o1 aLy aC aG aU aR aN aW (cO 8) (nI tk) em lo lk de), (aLk, o2 aLy aLi aCh aLo aDi aDk aBe), (aLy, o0 (nI 10) aK aX aY aF aS aL), (aK, ia E nI 16 kd), (aF, ia E nI 16 fi), (aS, ia E nI 16 se), (aW, ia E nI 16 wa), (aCh, ia E cL 16 chn), (aLo, ia E nI 16 los), (aKi, ia E nI 10 ki), (aPl, ia E nI 20 pl)] := hD
              have hl : lv_has ls 7 [(0, .ref aO), (1, .ref aKi), (2, .ref aPl), (3, .int (nI pp)), (4, .int (nI (rp (tgB kd xs ys se pp) (i_3 + 1) (4 * se pp)))), (5, .int (nI (i_3 + 1)))] := lv_sub hl [3, 4, 5, 6, 1, 0] rfl
              exact ih_2 (i_3 + 1) (by omega) (by omega) _ _ hP hD hS _ hl
            · skip
              have c_8 : ¬ ((dst xs ys pp i_3) ≤ 0) := fun h => c_8 ((ci0_le (by omega)).mpr h)
              refine lv_iload hx hb dL_target_57 (lv_at hl 0 rfl) ?_
              refine lv_goto (tgt := 63) hx hb dL_target_59 (by decide) ?_
              refine lv_idiv hx hb dL_target_63 (nI_ne0 (by omega) (by omega)) ?_
              refine lv_ri (y := (nI ((se i_3) / (dst xs ys pp i_3)))) (pk_div (by omega) (by omega) (by omega)) ?_
              refine lv_goto (tgt := 68) hx hb dL_target_64 (by decide) ?_
              refine lv_iadd hx hb dL_target_68 ?_
              refine lv_ri (y := (nI (rp (tgB kd xs ys se pp) (i_3 + 1) (4 * se pp)))) ((nI_add _ _).trans (congrArg nI (by first | exact tg_a (by omega) | exact tg_b (by omega) | exact tg_c (by omega) (by omega) (by omega) | exact tg_d (by omega) (by omega) (by omega)))) ?_
              refine lv_istore (lv' := [(4, .int (nI (rp (tgB kd xs ys se pp) (i_3 + 1) (4 * se pp)))), (6, .int (nI (dst xs ys pp i_3))), (0, .ref aO), (1, .ref aKi), (2, .ref aPl), (3, .int (nI pp)), (5, .int (nI i_3))]) hx hb dL_target_69 hl (by decide) rfl (fun ls hl => ?_)
              refine lv_iinc (v := nI (i_3 + 1)) (lv' := [(5, .int (nI (i_3 + 1))), (4, .int (nI (rp (tgB kd xs ys se pp) (i_3 + 1) (4 * se pp)))), (6, .int (nI (dst xs ys pp i_3))), (0, .ref aO), (1, .ref aKi), (2, .ref aPl), (3, .int (nI pp))]) hx hb dL_target_71 hl (k := 6) rfl (nI_add i_3 1) (by decide) rfl (fun ls hl => ?_)
              refine lv_goto (tgt := 13) hx hb dL_target_74 (by decide) ?_
              have hP : va_P E.1 vwCl [(aO, o3 aLy aLi aDa aLk (nI lst)), (aLi, o1 aLy aC aG aU aR aN aW (cO 8) (nI tk) em lo lk de), (aLk, o2 aLy aLi aCh aLo aDi aDk aBe), (aLy, o0 (nI 10) aK aX aY aF aS aL), (aK, ia E nI 16 kd), (aF, ia E nI 16 fi), (aS, ia E nI 16 se), (aW, ia E nI 16 wa), (aCh, ia E cL 16 chn), (aLo, ia E nI 16 los), (aKi, ia E nI 10 ki), (aPl, ia E nI 20 pl)] H := hP
              have hD : va_D A [(aO, o3 aLy aLi aDa aLk (nI lst)), (aLi, o1 aLy aC aG aU aR aN aW (cO 8) (nI tk) em lo lk de), (aLk, o2 aLy aLi aCh aLo aDi aDk aBe), (aLy, o0 (nI 10) aK aX aY aF aS aL), (aK, ia E nI 16 kd), (aF, ia E nI 16 fi), (aS, ia E nI 16 se), (aW, ia E nI 16 wa), (aCh, ia E cL 16 chn), (aLo, ia E nI 16 los), (aKi, ia E nI 10 ki), (aPl, ia E nI 20 pl)] := hD
              have hl : lv_has ls 7 [(0, .ref aO), (1, .ref aKi), (2, .ref aPl), (3, .int (nI pp)), (4, .int (nI (rp (tgB kd xs ys se pp) (i_3 + 1) (4 * se pp)))), (5, .int (nI (i_3 + 1)))] := lv_sub hl [3, 4, 5, 6, 1, 0] rfl
              exact ih_2 (i_3 + 1) (by omega) (by omega) _ _ hP hD hS _ hl
  have hP : va_P E.1 vwCl [(aO, o3 aLy aLi aDa aLk (nI lst)), (aLi, o1 aLy aC aG aU aR aN aW (cO 8) (nI tk) em lo lk de), (aLk, o2 aLy aLi aCh aLo aDi aDk aBe), (aLy, o0 (nI 10) aK aX aY aF aS aL), (aK, ia E nI 16 kd), (aF, ia E nI 16 fi), (aS, ia E nI 16 se), (aW, ia E nI 16 wa), (aCh, ia E cL 16 chn), (aLo, ia E nI 16 los), (aKi, ia E nI 10 ki), (aPl, ia E nI 20 pl)] H := hP
  have hD : va_D A [(aO, o3 aLy aLi aDa aLk (nI lst)), (aLi, o1 aLy aC aG aU aR aN aW (cO 8) (nI tk) em lo lk de), (aLk, o2 aLy aLi aCh aLo aDi aDk aBe), (aLy, o0 (nI 10) aK aX aY aF aS aL), (aK, ia E nI 16 kd), (aF, ia E nI 16 fi), (aS, ia E nI 16 se), (aW, ia E nI 16 wa), (aCh, ia E cL 16 chn), (aLo, ia E nI 16 los), (aKi, ia E nI 10 ki), (aPl, ia E nI 20 pl)] := hD
  have q_9 : nI (4 * (se pp)) = nI (rp (tgB kd xs ys se pp) (0) (4 * se pp)) := by first | rfl | (congr 1; omega) | (simp only [if_true]; done) | (simp []; done)
  rw [q_9] at hl
  have hl : lv_has ls 7 [(0, .ref aO), (1, .ref aKi), (2, .ref aPl), (3, .int (nI pp)), (4, .int (nI (rp (tgB kd xs ys se pp) (0) (4 * se pp)))), (5, .int (nI 0))] := lv_sub hl [2, 3, 4, 5, 1, 0] rfl
  exact LP_1 (10 + 1) 0 (by omega) (by omega) _ _ hP hD hS _ hl

set_option maxHeartbeats 4000000 in
set_option maxRecDepth 100000 in
theorem h_coming (l : Launch) (E : EnvT) (sz : Nat) (pp aKi : Nat) (ki cn : Nat → Nat) (aO : Nat) (aDa : Nat) (aKs : Nat) (lst : Nat) (aLy : Nat) (aK : Nat) (aX : Nat) (aY : Nat) (aF : Nat) (aS : Nat) (aL : Nat) (aLi : Nat) (aC : Nat) (aG : Nat) (aU : Nat) (aR : Nat) (aN : Nat) (aW : Nat) (o : Nat) (tk : Nat) (em : Int64) (lo : Int64) (lk : Int64) (de : Int64) (kd : Nat → Nat) (hp : pp < 10) (hki : ∀ j, j < 10 → ki j = kd j) (hk5 : ∀ j, j < 10 → kd j ≤ 5) : ML l yL_coming wsL_coming ({ frames := 3, cells := 0, slots := 0, locals := 66 }) E sz [.ref aO, .ref aKi, .int (nI pp)] [(aO, o3 aLy aLi aDa aKs (nI lst)), (aLi, o1 aLy aC aG aU aR aN aW (cO o) (nI tk) em lo lk de), (aLy, o0 (nI 10) aK aX aY aF aS aL), (aK, ia E nI 16 kd), (aC, ja E 256 (lF cn)), (aKi, ia E nI 10 ki)] (fun (r : Int64) (_ : Unit) => r = lN (cmN cn pp (stV 0 (ki pp)))) (fun _ => [(aO, o3 aLy aLi aDa aKs (nI lst)), (aLi, o1 aLy aC aG aU aR aN aW (cO o) (nI tk) em lo lk de), (aLy, o0 (nI 10) aK aX aY aF aS aL), (aK, ia E nI 16 kd), (aC, ja E 256 (lF cn)), (aKi, ia E nI 10 ki)]) := by
  refine enL (cc := cL_coming) (maxL := 7) (by decide +kernel) rfl (Nat.le_of_ble_eq_true rfl) ?_
  intro p e s m below meth c A ls hx hb hr hml hts hown hlocks hAe C0 hP hD hS hl
  have hown : s.vm.findClass RL = some m.cls := hown
  have hl : lv_has ls 7 [(0, .ref aO), (1, .ref aKi), (2, .int (nI pp))] := hl
  obtain ⟨H, hHe⟩ : ∃ z, z = s.heap := ⟨_, rfl⟩
  obtain ⟨locs, hLe⟩ : ∃ z : List Loc, z = [] := ⟨_, rfl⟩
  have hP : va_P E.1 vwCl [(aO, o3 aLy aLi aDa aKs (nI lst)), (aLi, o1 aLy aC aG aU aR aN aW (cO o) (nI tk) em lo lk de), (aLy, o0 (nI 10) aK aX aY aF aS aL), (aK, ia E nI 16 kd), (aC, ja E 256 (lF cn)), (aKi, ia E nI 10 ki)] H := by rw [hHe]; exact hP
  have hD : va_D A [(aO, o3 aLy aLi aDa aKs (nI lst)), (aLi, o1 aLy aC aG aU aR aN aW (cO o) (nI tk) em lo lk de), (aLy, o0 (nI 10) aK aX aY aF aS aL), (aK, ia E nI 16 kd), (aC, ja E 256 (lF cn)), (aKi, ia E nI 10 ki)] := hD
  have hS : va_S A s.heap H locs := by rw [hHe, hLe]; exact hS
  suffices hgo : W p l e _ s m _ below meth c H locs 0 0 _ (F0 m 0 ls []) by rw [hHe, hLe] at hgo; exact hgo
  clear hHe hLe
  have hkp := hki pp hp
  have hk5p := hk5 pp hp
  have hs5 := stV0_le (show ki pp ≤ 5 by omega)
  refine lv_lconst (v := 0) hx hb dL_coming_0 (by decide) ?_
  refine lv_lstore_n (lv' := [(3, .long 0), (0, .ref aO), (1, .ref aKi), (2, .int (nI pp))]) hx hb dL_coming_1 rfl hl (by decide) rfl (fun ls hl => ?_)
  refine lv_iconst (v := nI 0) hx hb dL_coming_2 (by decide) ?_
  refine lv_istore (lv' := [(5, .int (nI 0)), (3, .long 0), (0, .ref aO), (1, .ref aKi), (2, .int (nI pp))]) hx hb dL_coming_3 hl (by decide) rfl (fun ls hl => ?_)
  have LP_1 : ∀ (nz i_3 : Nat), i_3 ≤ stV 0 (ki pp) → stV 0 (ki pp) < i_3 + nz → ∀ (H : Heap) (locs : List Loc), va_P E.1 vwCl [(aO, o3 aLy aLi aDa aKs (nI lst)), (aLi, o1 aLy aC aG aU aR aN aW (cO o) (nI tk) em lo lk de), (aLy, o0 (nI 10) aK aX aY aF aS aL), (aK, ia E nI 16 kd), (aC, ja E 256 (lF cn)), (aKi, ia E nI 10 ki)] H → va_D A [(aO, o3 aLy aLi aDa aKs (nI lst)), (aLi, o1 aLy aC aG aU aR aN aW (cO o) (nI tk) em lo lk de), (aLy, o0 (nI 10) aK aX aY aF aS aL), (aK, ia E nI 16 kd), (aC, ja E 256 (lF cn)), (aKi, ia E nI 10 ki)] → va_S A s.heap H locs → ∀ (ls : Array Slot), lv_has ls 7 [(0, .ref aO), (1, .ref aKi), (2, .int (nI pp)), (3, .long (lN (cmN cn pp (i_3)))), (5, .int (nI i_3))] → W p l e ({ frames := 3, cells := 0, slots := 0, locals := 66 }) s m (([.ref aO, .ref aKi, .int (nI pp)] : List Value).toArray) below meth c H locs 0 0 (MQ below (va_Ql (fun (r : Int64) (_ : Unit) => r = lN (cmN cn pp (stV 0 (ki pp)))) (Wd E [(aO, o3 aLy aLi aDa aKs (nI lst)), (aLi, o1 aLy aC aG aU aR aN aW (cO o) (nI tk) em lo lk de), (aLy, o0 (nI 10) aK aX aY aF aS aL), (aK, ia E nI 16 kd), (aC, ja E 256 (lF cn)), (aKi, ia E nI 10 ki)] s.heap.size (fun _ => [(aO, o3 aLy aLi aDa aKs (nI lst)), (aLi, o1 aLy aC aG aU aR aN aW (cO o) (nI tk) em lo lk de), (aLy, o0 (nI 10) aK aX aY aF aS aL), (aK, ia E nI 16 kd), (aC, ja E 256 (lF cn)), (aKi, ia E nI 10 ki)])) A) (([.ref aO, .ref aKi, .int (nI pp)] : List Value).toArray) s 0 0 A) (F0 m 5 ls []) := by
    intro nz
    induction nz with
    | zero =>
      intro i_3 h1 h2
      exact absurd h2 (by omega)
    | succ nz ih_2 =>
      intro i_3 hi_i_3 hn_i_3 H locs hP hD hS ls hl
      refine lv_iload hx hb dL_coming_5 (lv_at hl 4 rfl) ?_
      refine lv_aload_n hx hb dL_coming_7 rfl (lv_at hl 1 rfl) ?_
      refine lv_iload_n hx hb dL_coming_8 rfl (lv_at hl 2 rfl) ?_
      refine k_iald (e := pp) (g := nI) (n := 10) hx hb C0 hP 5 rfl (by omega) (by omega) dL_coming_9 ?_
      have hPc := hP.pick (ws' := []) [] rfl
      have hDc := hD.sub (ws' := []) [] (by decide) rfl
      refine kcI (wr := [(aO, o3 aLy aLi aDa aKs (nI lst)), (aLi, o1 aLy aC aG aU aR aN aW (cO o) (nI tk) em lo lk de), (aLy, o0 (nI 10) aK aX aY aF aS aL), (aK, ia E nI 16 kd), (aC, ja E 256 (lF cn)), (aKi, ia E nI 10 ki)]) (w1 := fun _ : Unit => []) (w2 := fun _ => [(aO, o3 aLy aLi aDa aKs (nI lst)), (aLi, o1 aLy aC aG aU aR aN aW (cO o) (nI tk) em lo lk de), (aLy, o0 (nI 10) aK aX aY aF aS aL), (aK, ia E nI 16 kd), (aC, ja E 256 (lF cn)), (aKi, ia E nI 10 ki)]) (va_runS (As := [.int (nI (ki pp))]) (rest := [.int (nI i_3)]) ⟨hx, hb, hml, hown, hts⟩ (h_inputs l E H.size (ki pp) (by omega)) (va_cwS 1 hts gL_coming_L_inputs rfl rfl rfl (by decide +kernel) ⟨Nat.le_of_ble_eq_true rfl, Nat.le_of_ble_eq_true rfl⟩) (preS C0 hPc hDc hS) rfl rfl hl.1 rfl (lv_room (Nat.le_of_ble_eq_true rfl)) dL_coming_10 ⟨Nat.le_refl _, Nat.le_refl _⟩) C0 hP hD hS [] [0, 1, 2, 3, 4, 5] [0, 1, 2, 3, 4, 5] rfl rfl (by decide) (by decide) (fun _ => rfl) (by decide) (fun r_9 _u H locs hw hP hD hS => ?_)
      have hP : va_P E.1 vwCl [(aO, o3 aLy aLi aDa aKs (nI lst)), (aLi, o1 aLy aC aG aU aR aN aW (cO o) (nI tk) em lo lk de), (aLy, o0 (nI 10) aK aX aY aF aS aL), (aK, ia E nI 16 kd), (aC, ja E 256 (lF cn)), (aKi, ia E nI 10 ki)] H := hP
      have hD : va_D A [(aO, o3 aLy aLi aDa aKs (nI lst)), (aLi, o1 aLy aC aG aU aR aN aW (cO o) (nI tk) em lo lk de), (aLy, o0 (nI 10) aK aX aY aF aS aL), (aK, ia E nI 16 kd), (aC, ja E 256 (lF cn)), (aKi, ia E nI 10 ki)] := hD
      have hw : r_9 = nI (stV 0 (ki pp)) := hw
      subst hw
      refine lv_icmp_ge (tgt := 50) hx hb dL_coming_13 (by decide) (fun c_4 => ?_) (fun c_4 => ?_)
      · skip
        have c_4 : (stV 0 (ki pp)) ≤ i_3 := (ci_ge (by omega) (by omega)).mp c_4
        obtain rfl : stV 0 (ki pp) = i_3 := by omega
        refine lv_lload_n hx hb dL_coming_50 rfl (lv_at hl 3 rfl) ?_
        have q_5 : (lN (cmN cn pp ((stV 0 (ki pp))))) = (lN (cmN cn pp (stV 0 (ki pp)))) := rfl
        exact exL hx hb hr hlocks hAe hS () q_5 hP hD dL_coming_51
      · skip
        have c_4 : ¬ ((stV 0 (ki pp)) ≤ i_3) := fun h => c_4 ((ci_ge (by omega) (by omega)).mpr h)
        refine lv_iconst (v := nI 0) hx hb dL_coming_16 (by decide) ?_
        refine lv_istore (lv' := [(6, .int (nI 0)), (0, .ref aO), (1, .ref aKi), (2, .int (nI pp)), (3, .long (lN (cmN cn pp (i_3)))), (5, .int (nI i_3))]) hx hb dL_coming_17 hl (by decide) rfl (fun ls hl => ?_)
        have LP_6 : ∀ (nz j_8 : Nat), j_8 ≤ 8 → 8 < j_8 + nz → ∀ (H : Heap) (locs : List Loc), va_P E.1 vwCl [(aO, o3 aLy aLi aDa aKs (nI lst)), (aLi, o1 aLy aC aG aU aR aN aW (cO o) (nI tk) em lo lk de), (aLy, o0 (nI 10) aK aX aY aF aS aL), (aK, ia E nI 16 kd), (aC, ja E 256 (lF cn)), (aKi, ia E nI 10 ki)] H → va_D A [(aO, o3 aLy aLi aDa aKs (nI lst)), (aLi, o1 aLy aC aG aU aR aN aW (cO o) (nI tk) em lo lk de), (aLy, o0 (nI 10) aK aX aY aF aS aL), (aK, ia E nI 16 kd), (aC, ja E 256 (lF cn)), (aKi, ia E nI 10 ki)] → va_S A s.heap H locs → ∀ (ls : Array Slot), lv_has ls 7 [(0, .ref aO), (1, .ref aKi), (2, .int (nI pp)), (3, .long (lN (cmI cn pp (i_3) (cmN cn pp (i_3)) (j_8)))), (5, .int (nI i_3)), (6, .int (nI j_8))] → W p l e ({ frames := 3, cells := 0, slots := 0, locals := 66 }) s m (([.ref aO, .ref aKi, .int (nI pp)] : List Value).toArray) below meth c H locs 0 0 (MQ below (va_Ql (fun (r : Int64) (_ : Unit) => r = lN (cmN cn pp (stV 0 (ki pp)))) (Wd E [(aO, o3 aLy aLi aDa aKs (nI lst)), (aLi, o1 aLy aC aG aU aR aN aW (cO o) (nI tk) em lo lk de), (aLy, o0 (nI 10) aK aX aY aF aS aL), (aK, ia E nI 16 kd), (aC, ja E 256 (lF cn)), (aKi, ia E nI 10 ki)] s.heap.size (fun _ => [(aO, o3 aLy aLi aDa aKs (nI lst)), (aLi, o1 aLy aC aG aU aR aN aW (cO o) (nI tk) em lo lk de), (aLy, o0 (nI 10) aK aX aY aF aS aL), (aK, ia E nI 16 kd), (aC, ja E 256 (lF cn)), (aKi, ia E nI 10 ki)])) A) (([.ref aO, .ref aKi, .int (nI pp)] : List Value).toArray) s 0 0 A) (F0 m 19 ls []) := by
          intro nz
          induction nz with
          | zero =>
            intro j_8 h1 h2
            exact absurd h2 (by omega)
          | succ nz ih_7 =>
            intro j_8 hi_j_8 hn_j_8 H locs hP hD hS ls hl
            refine lv_iload hx hb dL_coming_19 (lv_at hl 5 rfl) ?_
            refine lv_bipush (v := nI 8) hx hb dL_coming_21 (by decide) ?_
            refine lv_icmp_ge (tgt := 44) hx hb dL_coming_23 (by decide) (fun c_9 => ?_) (fun c_9 => ?_)
            · skip
              have c_9 : 8 ≤ j_8 := (ci_ge (by omega) (by omega)).mp c_9
              obtain rfl : j_8 = 8 := by omega
              refine lv_iinc (v := nI (i_3 + 1)) (lv' := [(5, .int (nI (i_3 + 1))), (0, .ref aO), (1, .ref aKi), (2, .int (nI pp)), (3, .long (lN (cmI cn pp (i_3) (cmN cn pp (i_3)) (8)))), (6, .int (nI 8))]) hx hb dL_coming_44 hl (k := 4) rfl (nI_add i_3 1) (by decide) rfl (fun ls hl => ?_)
              refine lv_goto (tgt := 5) hx hb dL_coming_47 (by decide) ?_
              have hP : va_P E.1 vwCl [(aO, o3 aLy aLi aDa aKs (nI lst)), (aLi, o1 aLy aC aG aU aR aN aW (cO o) (nI tk) em lo lk de), (aLy, o0 (nI 10) aK aX aY aF aS aL), (aK, ia E nI 16 kd), (aC, ja E 256 (lF cn)), (aKi, ia E nI 10 ki)] H := hP
              have hD : va_D A [(aO, o3 aLy aLi aDa aKs (nI lst)), (aLi, o1 aLy aC aG aU aR aN aW (cO o) (nI tk) em lo lk de), (aLy, o0 (nI 10) aK aX aY aF aS aL), (aK, ia E nI 16 kd), (aC, ja E 256 (lF cn)), (aKi, ia E nI 10 ki)] := hD
              have q_10 : lN (cmI cn pp (i_3) (cmN cn pp (i_3)) (8)) = lN (cmN cn pp (i_3 + 1)) := by first | rfl | (simp [c_4, c_9]; done)
              rw [q_10] at hl
              have hl : lv_has ls 7 [(0, .ref aO), (1, .ref aKi), (2, .int (nI pp)), (3, .long (lN (cmN cn pp (i_3 + 1)))), (5, .int (nI (i_3 + 1)))] := lv_sub hl [1, 2, 3, 4, 0] rfl
              exact ih_2 (i_3 + 1) (by omega) (by omega) _ _ hP hD hS _ hl
            · skip
              have c_9 : ¬ (8 ≤ j_8) := fun h => c_9 ((ci_ge (by omega) (by omega)).mpr h)
              refine lv_lload_n hx hb dL_coming_26 rfl (lv_at hl 3 rfl) ?_
              refine lv_aload_n hx hb dL_coming_27 rfl (lv_at hl 0 rfl) ?_
              refine lv_iload_n hx hb dL_coming_28 rfl (lv_at hl 2 rfl) ?_
              refine lv_iload hx hb dL_coming_29 (lv_at hl 4 rfl) ?_
              refine lv_iload hx hb dL_coming_31 (lv_at hl 5 rfl) ?_
              have hPc := hP.pick (ws' := [(aO, o3 aLy aLi aDa aKs (nI lst)), (aLi, o1 aLy aC aG aU aR aN aW (cO o) (nI tk) em lo lk de), (aLy, o0 (nI 10) aK aX aY aF aS aL), (aK, ia E nI 16 kd), (aC, ja E 256 (lF cn))]) [0, 1, 2, 3, 4] rfl
              have hDc := hD.sub (ws' := [(aO, o3 aLy aLi aDa aKs (nI lst)), (aLi, o1 aLy aC aG aU aR aN aW (cO o) (nI tk) em lo lk de), (aLy, o0 (nI 10) aK aX aY aF aS aL), (aK, ia E nI 16 kd), (aC, ja E 256 (lF cn))]) [0, 1, 2, 3, 4] (by decide) rfl
              refine kcL (wr := [(aKi, ia E nI 10 ki)]) (w1 := fun _ : Unit => [(aO, o3 aLy aLi aDa aKs (nI lst)), (aLi, o1 aLy aC aG aU aR aN aW (cO o) (nI tk) em lo lk de), (aLy, o0 (nI 10) aK aX aY aF aS aL), (aK, ia E nI 16 kd), (aC, ja E 256 (lF cn))]) (w2 := fun _ => [(aO, o3 aLy aLi aDa aKs (nI lst)), (aLi, o1 aLy aC aG aU aR aN aW (cO o) (nI tk) em lo lk de), (aLy, o0 (nI 10) aK aX aY aF aS aL), (aK, ia E nI 16 kd), (aC, ja E 256 (lF cn)), (aKi, ia E nI 10 ki)]) (va_runV (As := [.int (nI pp), .int (nI i_3), .int (nI j_8)]) (rest := [.long (lN (cmI cn pp (i_3) (cmN cn pp (i_3)) (j_8)))]) ⟨hx, hb, hml, hown, hts⟩ (c_comesN l E H.size pp i_3 j_8 aO aDa aKs lst aLy aK aX aY aF aS aL 10 aLi aC aG aU aR aN aW o tk em lo lk de kd (lF cn) (by omega) (by rw [← hkp]; omega) (by omega) (by omega) (hk5)) (cwV 3 hts gL_coming_X3_comes rfl rfl rfl (by decide +kernel) ⟨Nat.le_of_ble_eq_true rfl, Nat.le_of_ble_eq_true rfl⟩) (preV C0 hPc hDc hS 0 rfl rfl) rfl rfl hl.1 rfl (lv_room (Nat.le_of_ble_eq_true rfl)) dL_coming_33 ⟨Nat.le_refl _, Nat.le_refl _⟩) C0 hP hD hS [0, 1, 2, 3, 4] [5] [1, 2, 3, 4, 5, 0] rfl rfl (by decide) (by decide) (fun _ => rfl) (by decide) (fun r_9 _u H locs hw hP hD hS => ?_)
              have hP : va_P E.1 vwCl [(aO, o3 aLy aLi aDa aKs (nI lst)), (aLi, o1 aLy aC aG aU aR aN aW (cO o) (nI tk) em lo lk de), (aLy, o0 (nI 10) aK aX aY aF aS aL), (aK, ia E nI 16 kd), (aC, ja E 256 (lF cn)), (aKi, ia E nI 10 ki)] H := hP
              have hD : va_D A [(aO, o3 aLy aLi aDa aKs (nI lst)), (aLi, o1 aLy aC aG aU aR aN aW (cO o) (nI tk) em lo lk de), (aLy, o0 (nI 10) aK aX aY aF aS aL), (aK, ia E nI 16 kd), (aC, ja E 256 (lF cn)), (aKi, ia E nI 10 ki)] := hD
              have hw : r_9 = (lF cn) ((pp * 2 + i_3) * 8 + j_8) := hw
              subst hw
              refine lv_ladd hx hb dL_coming_36 ?_
              refine lv_rl (y := (lN (cmI cn pp (i_3) (cmN cn pp (i_3)) (j_8 + 1)))) (lN_add _ _) ?_
              refine lv_lstore_n (lv' := [(3, .long (lN (cmI cn pp (i_3) (cmN cn pp (i_3)) (j_8 + 1)))), (0, .ref aO), (1, .ref aKi), (2, .int (nI pp)), (5, .int (nI i_3)), (6, .int (nI j_8))]) hx hb dL_coming_37 rfl hl (by decide) rfl (fun ls hl => ?_)
              refine lv_iinc (v := nI (j_8 + 1)) (lv' := [(6, .int (nI (j_8 + 1))), (3, .long (lN (cmI cn pp (i_3) (cmN cn pp (i_3)) (j_8 + 1)))), (0, .ref aO), (1, .ref aKi), (2, .int (nI pp)), (5, .int (nI i_3))]) hx hb dL_coming_38 hl (k := 5) rfl (nI_add j_8 1) (by decide) rfl (fun ls hl => ?_)
              refine lv_goto (tgt := 19) hx hb dL_coming_41 (by decide) ?_
              have hP : va_P E.1 vwCl [(aO, o3 aLy aLi aDa aKs (nI lst)), (aLi, o1 aLy aC aG aU aR aN aW (cO o) (nI tk) em lo lk de), (aLy, o0 (nI 10) aK aX aY aF aS aL), (aK, ia E nI 16 kd), (aC, ja E 256 (lF cn)), (aKi, ia E nI 10 ki)] H := hP
              have hD : va_D A [(aO, o3 aLy aLi aDa aKs (nI lst)), (aLi, o1 aLy aC aG aU aR aN aW (cO o) (nI tk) em lo lk de), (aLy, o0 (nI 10) aK aX aY aF aS aL), (aK, ia E nI 16 kd), (aC, ja E 256 (lF cn)), (aKi, ia E nI 10 ki)] := hD
              have hl : lv_has ls 7 [(0, .ref aO), (1, .ref aKi), (2, .int (nI pp)), (3, .long (lN (cmI cn pp (i_3) (cmN cn pp (i_3)) (j_8 + 1)))), (5, .int (nI i_3)), (6, .int (nI (j_8 + 1)))] := lv_sub hl [2, 3, 4, 1, 5, 0] rfl
              exact ih_7 (j_8 + 1) (by omega) (by omega) _ _ hP hD hS _ hl
        have hP : va_P E.1 vwCl [(aO, o3 aLy aLi aDa aKs (nI lst)), (aLi, o1 aLy aC aG aU aR aN aW (cO o) (nI tk) em lo lk de), (aLy, o0 (nI 10) aK aX aY aF aS aL), (aK, ia E nI 16 kd), (aC, ja E 256 (lF cn)), (aKi, ia E nI 10 ki)] H := hP
        have hD : va_D A [(aO, o3 aLy aLi aDa aKs (nI lst)), (aLi, o1 aLy aC aG aU aR aN aW (cO o) (nI tk) em lo lk de), (aLy, o0 (nI 10) aK aX aY aF aS aL), (aK, ia E nI 16 kd), (aC, ja E 256 (lF cn)), (aKi, ia E nI 10 ki)] := hD
        have q_11 : lN (cmN cn pp (i_3)) = lN (cmI cn pp (i_3) (cmN cn pp (i_3)) (0)) := by first | rfl | (simp [c_4]; done)
        rw [q_11] at hl
        have hl : lv_has ls 7 [(0, .ref aO), (1, .ref aKi), (2, .int (nI pp)), (3, .long (lN (cmI cn pp (i_3) (cmN cn pp (i_3)) (0)))), (5, .int (nI i_3)), (6, .int (nI 0))] := lv_sub hl [1, 2, 3, 4, 5, 0] rfl
        exact LP_6 (8 + 1) 0 (by omega) (by omega) _ _ hP hD hS _ hl
  have hP : va_P E.1 vwCl [(aO, o3 aLy aLi aDa aKs (nI lst)), (aLi, o1 aLy aC aG aU aR aN aW (cO o) (nI tk) em lo lk de), (aLy, o0 (nI 10) aK aX aY aF aS aL), (aK, ia E nI 16 kd), (aC, ja E 256 (lF cn)), (aKi, ia E nI 10 ki)] H := hP
  have hD : va_D A [(aO, o3 aLy aLi aDa aKs (nI lst)), (aLi, o1 aLy aC aG aU aR aN aW (cO o) (nI tk) em lo lk de), (aLy, o0 (nI 10) aK aX aY aF aS aL), (aK, ia E nI 16 kd), (aC, ja E 256 (lF cn)), (aKi, ia E nI 10 ki)] := hD
  have q_12 : 0 = lN (cmN cn pp (0)) := by first | rfl | (simp []; done)
  rw [q_12] at hl
  have hl : lv_has ls 7 [(0, .ref aO), (1, .ref aKi), (2, .int (nI pp)), (3, .long (lN (cmN cn pp (0)))), (5, .int (nI 0))] := lv_sub hl [2, 3, 4, 1, 0] rfl
  exact LP_1 (stV 0 (ki pp) + 1) 0 (by omega) (by omega) _ _ hP hD hS _ hl

