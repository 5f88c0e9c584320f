/-! What never changes, at the law's start. -/
theorem lw_arr {s : State} {a9 : Array Value} {ty : FieldType} (harr : (Cond.arrayClass ty).before a9 s = true) : ∃ cA : ClassId, ArrOfT s cA ty ∧ s.vm.findClass ("[" ++ ty.toString) = some cA := by
  obtain ⟨cA, kA, comp, h1, h2, h3⟩ := Cond.arrayClass_spec harr
  exact ⟨cA, fun n z => ⟨fun k h => (by cases h), kA, h2, comp, h3⟩, h1⟩
theorem uX0 : ∀ w ∈ u_ws RX0 TX0 7, w ∈ wsX00 := by decide +kernel
theorem uX1 : ∀ w ∈ u_ws RX1 TX1 13, w ∈ wsX10 := by decide +kernel
theorem uX2 : ∀ w ∈ u_ws RX2 TX2 7, w ∈ wsX20 := by decide +kernel
theorem uX3 : ∀ w ∈ u_ws RX3 TX3 5, w ∈ wsX30 := by decide +kernel
section ENV
variable {p : Program} {s : State} {m : MethodId} {meth : Method} {c : Code} {b L : Nat} {xs : Nat → Int32}
theorem lw_tab (C0 : lw_At p s m meth c b L xs) : ∀ k, ∃ t : Nat, k < 5 → va_Z RX3 (stN k) "[I" (.ref t) (fun q => s.heap.size ≤ q) s s.heap ∧ va_T .int t 6 (fun j => .int (nI (stV k j))) (fun q => s.heap.size ≤ q) s s.heap := by
  obtain ⟨-, -, -, -, -, hts, -, -, -, hgv⟩ := C0
  have hs := flat_of_before _ hgv
  have hA : ∀ a : Nat, a < s.heap.size → ¬ s.heap.size ≤ a := fun a h => by omega
  intro k
  by_cases hk : k < 5
  · have harr : (Cond.arrayOf (.static RX3 (stN k) "[I") .int).before #[Value.ref b] s = true := by
      rcases (show k = 0 ∨ k = 1 ∨ k = 2 ∨ k = 3 ∨ k = 4 by omega) with rfl | rfl | rfl | rfl | rfl <;> exact hs _ (by decide +kernel)
    have hle : (Cond.eq (.length (.static RX3 (stN k) "[I")) (.int (Int32.ofNat 6))).before #[Value.ref b] s = true := by
      rcases (show k = 0 ∨ k = 1 ∨ k = 2 ∨ k = 3 ∨ k = 4 by omega) with rfl | rfl | rfl | rfl | rfl <;> exact hs _ (by decide +kernel)
    have hel : ∀ j, j < 6 → (Cond.eq (.elem (.static RX3 (stN k) "[I") (.int (Int32.ofNat j))) (.int (nI (stV k j)))).before #[Value.ref b] s = true := by
      intro j hj
      rcases (show k = 0 ∨ k = 1 ∨ k = 2 ∨ k = 3 ∨ k = 4 by omega) with rfl | rfl | rfl | rfl | rfl <;> rcases (show j = 0 ∨ j = 1 ∨ j = 2 ∨ j = 3 ∨ j = 4 ∨ j = 5 by omega) with rfl | rfl | rfl | rfl | rfl | rfl <;> exact hs _ (by decide +kernel)
    have hl : (Cond.laysStatic RX3 (stN k) "[I").before #[Value.ref b] s = true := by
      rcases (show k = 0 ∨ k = 1 ∨ k = 2 ∨ k = 3 ∨ k = 4 by omega) with rfl | rfl | rfl | rfl | rfl <;> exact hts _ (by decide +kernel)
    obtain ⟨t, h1, h2⟩ := va_Tof (f := fun j => .int (nI (stV k j))) (A := fun q => s.heap.size ≤ q) (by decide) harr (va_eqt hle) (fun j hj => va_eqt (hel j hj)) hA
    exact ⟨t, fun _ => ⟨va_Zof hl (hts (.initialized RX3) (by decide +kernel)) h1 hA, h2⟩⟩
  · exact ⟨0, fun h => absurd h hk⟩
theorem lw_str (C0 : lw_At p s m meth c b L xs) : ∀ q ∈ ([(192, "an argument out of its range"), (64, "no room for another part"), (177, "no such part"), (183, "no such output"), (188, "no such input"), (98, "another output leads to that input"), (190, "a part of another kind"), (115, "more ticks than may go by"), (135, "a need below 0")] : List (Nat × String)), ∃ sa, vk_R RX3 q.1 q.2 sa s := by
  obtain ⟨-, -, -, -, -, hts, -, -, -, hgv⟩ := C0
  have hs := flat_of_before _ hgv
  have str : ∀ (k : Nat) (tx : String), (Cond.stringRef RX3 k tx).before #[Value.ref b] s = true → (Cond.exactly (.string RX3 k) "java/lang/String").before #[Value.ref b] s = true → ∃ sa, vk_R RX3 k tx sa s := fun k tx h1 h2 => by
    obtain ⟨a, c9, cA, kA, q1, -⟩ := Cond.exactly_spec (args := #[Value.ref b]) (first := s) (o := none) (s := s) (idx := []) (t := .string RX3 k) (cls := "java/lang/String") h2
    exact ⟨a, vk_R.of h1 q1⟩
  refine List.forall_mem_cons.mpr ⟨str _ _ (hts _ (by decide +kernel)) (hs _ (by decide +kernel)), ?_⟩
  refine List.forall_mem_cons.mpr ⟨str _ _ (hts _ (by decide +kernel)) (hs _ (by decide +kernel)), ?_⟩
  refine List.forall_mem_cons.mpr ⟨str _ _ (hts _ (by decide +kernel)) (hs _ (by decide +kernel)), ?_⟩
  refine List.forall_mem_cons.mpr ⟨str _ _ (hts _ (by decide +kernel)) (hs _ (by decide +kernel)), ?_⟩
  refine List.forall_mem_cons.mpr ⟨str _ _ (hts _ (by decide +kernel)) (hs _ (by decide +kernel)), ?_⟩
  refine List.forall_mem_cons.mpr ⟨str _ _ (hts _ (by decide +kernel)) (hs _ (by decide +kernel)), ?_⟩
  refine List.forall_mem_cons.mpr ⟨str _ _ (hts _ (by decide +kernel)) (hs _ (by decide +kernel)), ?_⟩
  refine List.forall_mem_cons.mpr ⟨str _ _ (hts _ (by decide +kernel)) (hs _ (by decide +kernel)), ?_⟩
  refine List.forall_mem_cons.mpr ⟨str _ _ (hts _ (by decide +kernel)) (hs _ (by decide +kernel)), ?_⟩
  exact fun z hz => nomatch hz
theorem lw_cast (C0 : lw_At p s m meth c b L xs) : ∀ X ∈ [xA, xS, xI], va_Nw (.castable X X) s := by
  obtain ⟨-, -, -, -, -, hts, -, -, -, hgv⟩ := C0
  exact List.forall_mem_cons.mpr ⟨va_Nw.of (by decide +kernel) (hts _ (by decide +kernel)), List.forall_mem_cons.mpr ⟨va_Nw.of (by decide +kernel) (hts _ (by decide +kernel)), List.forall_mem_cons.mpr ⟨va_Nw.of (by decide +kernel) (hts _ (by decide +kernel)), fun z hz => nomatch hz⟩⟩⟩
theorem xs_nat (x : Int32) : nI x.toBitVec.toNat = x := by
  apply Int32.toBitVec_inj.1
  show BitVec.ofNat 32 x.toBitVec.toNat = x.toBitVec
  simp
/-- the environment's numbers: the statics' rows, the script's place, its length, its ints -/
def tabN (t : Nat → Nat) (b L : Nat) (xs : Nat → Int32) (k : Nat) : Nat := if k < 5 then t k else if k = 5 then b else if k = 6 then L else (xs (k - 7)).toBitVec.toNat
theorem tabN_lo {t : Nat → Nat} {b L : Nat} {xs : Nat → Int32} {k : Nat} (h : k < 5) : tabN t b L xs k = t k := if_pos h
theorem tabN_x {t : Nat → Nat} {b L : Nat} {xs : Nat → Int32} (j : Nat) : tabN t b L xs (7 + j) = (xs j).toBitVec.toNat := by
  unfold tabN
  rw [if_neg (by omega), if_neg (by omega), if_neg (by omega), Nat.add_sub_cancel_left]
theorem lw_scr (hX : va_X b L xs s s.heap) (hbl : b < s.heap.size) (hL : L ≤ 260) (t : Nat → Nat) : va_T .int (tabN t b L xs 5) (tabN t b L xs 6) (fun j => .int (nI (tabN t b L xs (7 + j)))) (fun q => s.heap.size ≤ q) s s.heap ∧ (∀ j, tabN t b L xs (7 + j) < 2 ^ 32) ∧ tabN t b L xs 6 ≤ 260 := by
  refine ⟨?_, fun j => by rw [tabN_x]; exact (xs j).toBitVec.isLt, hL⟩
  obtain ⟨scr, h1, h2, h3, h4, h5⟩ := hX
  refine ⟨scr, h1, h2, h3, Nat.le_of_eq h4.symm, ?_, ?_, fun z => absurd z (by show ¬ s.heap.size ≤ b; omega)⟩
  · rw [h4]; rfl
  · intro j hj
    rw [h5 j hj]
    show _ = some (Value.int (nI (tabN t b L xs (7 + j))))
    rw [tabN_x, xs_nat]
theorem lw_env (C0 : lw_At p s m meth c b L xs) (hL : L ≤ 260) : ∃ E : EnvT, Cx E (fun q => s.heap.size ≤ q) s ∧ eT E 5 = b := by
  obtain ⟨t, ht⟩ := Classical.axiomOfChoice (lw_tab C0)
  have hstr := lw_str C0
  have hc1 := lw_cast C0
  obtain ⟨-, -, -, -, -, hts, hX, hbl, -, hgv⟩ := C0
  have hs := flat_of_before _ hgv
  have hA : ∀ a : Nat, a < s.heap.size → ¬ s.heap.size ≤ a := fun a h => by omega
  have hscr := lw_scr hX hbl hL t
  obtain ⟨a0, i0, k0⟩ := u_known hts (fun w h => inX0 w (uX0 w h)) (hts (.instantiable RX0 7) (by decide +kernel))
  obtain ⟨a1, i1, k1⟩ := u_known hts (fun w h => inX1 w (uX1 w h)) (hts (.instantiable RX1 13) (by decide +kernel))
  obtain ⟨a2, i2, k2⟩ := u_known hts (fun w h => inX2 w (uX2 w h)) (hts (.instantiable RX2 7) (by decide +kernel))
  obtain ⟨a3, i3, k3⟩ := u_known hts (fun w h => inX3 w (uX3 w h)) (hts (.instantiable RX3 5) (by decide +kernel))
  obtain ⟨aI, r1, r2⟩ := lw_arr (hts (.arrayClass .int) (by decide +kernel))
  obtain ⟨aJ, r3, r4⟩ := lw_arr (hts (.arrayClass .long) (by decide +kernel))
  refine ⟨((fun k => if k = 0 then a0 else if k = 1 then a1 else if k = 2 then a2 else a3, fun k => if k = 0 then i0 else if k = 1 then i1 else if k = 2 then i2 else i3), aI, aJ, s.heap.size, tabN t b L xs), ⟨⟨?_, ?_⟩, fun _ h => h, fun _ h => h, ⟨fun k hk => ?_, ?_, ⟨?_, ?_⟩, hstr, hc1, hscr⟩, Nat.le_refl _⟩, rfl⟩
  · intro k q h
    match k, h with
    | 0, h => cases h; exact k0
    | 1, h => cases h; exact k1
    | 2, h => cases h; exact k2
    | 3, h => cases h; exact k3
    | _ + 4, h => cases h
  · intro k q h
    match k, h with
    | 0, h => cases h; exact ⟨r1, r2⟩
    | 1, h => cases h; exact ⟨r3, r4⟩
    | _ + 2, h => cases h
  · show va_Z RX3 (stN k) "[I" (.ref (tabN t b L xs k)) _ s s.heap ∧ va_T .int (tabN t b L xs k) 6 _ _ s s.heap
    rw [tabN_lo hk]
    exact ht k hk
  · exact va_Nw.of (by decide +kernel) (hts nwW (by decide +kernel))
  · exact vx_Zqof (hts (.laysStatic Bundle.tN "UNASSIGNED_STACK" Bundle.steD) (by decide +kernel)) (hts (.initialized Bundle.tN) (by decide +kernel)) (hs _ (by decide +kernel)) hA
  · exact vx_Zqof (hts (.laysStatic Bundle.tN "SUPPRESSED_SENTINEL" Bundle.listD) (by decide +kernel)) (hts (.initialized Bundle.tN) (by decide +kernel)) (hs _ (by decide +kernel)) hA
end ENV
