/-! ===== the law's entry: what the tables and the start give ===== -/
theorem st_aB {args : Array Value} {s : State} (h : (Cond.arrayClass .byte).before args s = true) : ∃ cA, ArrOfT s cA .byte ∧ va_RA s cA .byte := by
  obtain ⟨c, k, comp, h1, h2, h3⟩ := Cond.arrayClass_spec h
  exact ⟨c, fun N z => ⟨(fun k h => by cases h), k, h2, comp, h3⟩, h1⟩
theorem st_aI {args : Array Value} {s : State} (h : (Cond.arrayClass .int).before args s = true) : ∃ cA, ArrOfT s cA .int ∧ va_RA s cA .int := by
  obtain ⟨c, k, comp, h1, h2, h3⟩ := Cond.arrayClass_spec h
  exact ⟨c, fun N z => ⟨(fun k h => by cases h), k, h2, comp, h3⟩, h1⟩
theorem st_aJ {args : Array Value} {s : State} (h : (Cond.arrayClass .long).before args s = true) : ∃ cA, ArrOfT s cA .long ∧ va_RA s cA .long := by
  obtain ⟨c, k, comp, h1, h2, h3⟩ := Cond.arrayClass_spec h
  exact ⟨c, fun N z => ⟨(fun k h => by cases h), k, h2, comp, h3⟩, h1⟩
theorem st_aZ {args : Array Value} {s : State} (h : (Cond.arrayClass .boolean).before args s = true) : ∃ cA, ArrOfT s cA .boolean ∧ va_RA s cA .boolean := by
  obtain ⟨c, k, comp, h1, h2, h3⟩ := Cond.arrayClass_spec h
  exact ⟨c, fun N z => ⟨(fun k h => by cases h), k, h2, comp, h3⟩, h1⟩
theorem st_aR {args : Array Value} {s : State} (h : (Cond.arrayOver (.object RX3)).before args s = true) : ∃ cA, ArrOfT s cA (.object RX3) ∧ va_RA s cA (.object RX3) := by
  obtain ⟨comp, c, k, h1, -, h2, h3, h4⟩ := Cond.arrayOver_spec h
  exact ⟨c, fun N z => ⟨(fun k h => by cases h), k, h2, comp, h3⟩, k, comp, h2, h3, h1, h4⟩
theorem st_K {args : Array Value} {s : State} (hts : ∀ w ∈ lw_tbl, w.before args s = true) : ∃ (D : va_G) (ca : Nat → ClassId), va_K D vwCl (tys_ ca) s := by
  have hw : ∀ w ∈ WS, w.before args s = true := fun w h => hts w (List.mem_filter.mp h).1
  obtain ⟨c0, i0, K0⟩ := u_known (C := RX0) (T := TX0) (N := 5) hw win0 (hw _ wi_X0)
  obtain ⟨c1, i1, K1⟩ := u_known (C := RX1) (T := TX1) (N := 6) hw win1 (hw _ wi_X1)
  obtain ⟨c2, i2, K2⟩ := u_known (C := RX2) (T := TX2) (N := 6) hw win2 (hw _ wi_X2)
  obtain ⟨c3, i3, K3⟩ := u_known (C := RX3) (T := TX3) (N := 12) hw win3 (hw _ wi_X3)
  obtain ⟨c4, i4, K4⟩ := u_known (C := RX4) (T := TX4) (N := 5) hw win4 (hw _ wi_X4)
  obtain ⟨c5, i5, K5⟩ := u_known (C := RX5) (T := TX5) (N := 2) hw win5 (hw _ wi_X5)
  obtain ⟨c6, i6, K6⟩ := u_known (C := RX6) (T := TX6) (N := 14) hw win6 (hw _ wi_X6)
  obtain ⟨c7, i7, K7⟩ := u_known (C := RX7) (T := TX7) (N := 50) hw win7 (hw _ wi_X7)
  obtain ⟨a8, A8⟩ := st_aB (hw _ wa_byte)
  obtain ⟨a9, A9⟩ := st_aI (hw _ wa_int)
  obtain ⟨a10, A10⟩ := st_aJ (hw _ wa_long)
  obtain ⟨a11, A11⟩ := st_aZ (hw _ wa_boolean)
  obtain ⟨a12, A12⟩ := st_aR (hts (Cond.arrayOver (.object RX3)) (List.mem_of_getElem? (i := 130) (by decide +kernel)))
  refine ⟨(fun k => match k with | 0 => c0 | 1 => c1 | 2 => c2 | 3 => c3 | 4 => c4 | 5 => c5 | 6 => c6 | _ => c7, fun k => match k with | 0 => i0 | 1 => i1 | 2 => i2 | 3 => i3 | 4 => i4 | 5 => i5 | 6 => i6 | _ => i7), fun k => match k with | 8 => a8 | 9 => a9 | 10 => a10 | 11 => a11 | _ => a12, fun k q hq => ?_, fun k q hq => ?_⟩
  · match k, hq with
    | 0, hq => cases hq; exact K0
    | 1, hq => cases hq; exact K1
    | 2, hq => cases hq; exact K2
    | 3, hq => cases hq; exact K3
    | 4, hq => cases hq; exact K4
    | 5, hq => cases hq; exact K5
    | 6, hq => cases hq; exact K6
    | 7, hq => cases hq; exact K7
    | k + 8, hq => simp at hq
  · match k, hq with
    | 0, hq => cases hq; exact A8
    | 1, hq => cases hq; exact A9
    | 2, hq => cases hq; exact A10
    | 3, hq => cases hq; exact A11
    | 4, hq => cases hq; exact A12
    | k + 5, hq => simp at hq
def st_tm (i : Nat) : Term := .string (st_own.getD i ("", 0, "")).1 (st_own.getD i ("", 0, "")).2.1
theorem st_nin : ∀ q ∈ st_nest, Cond.methodLinkNest q.1 q.2.1 q.2.2.1 q.2.2.2 ∈ lw_tbl := by decide +kernel
theorem st_sin : ∀ q ∈ st_own, Cond.stringRef q.1 q.2.1 q.2.2 ∈ lw_tbl := by decide +kernel
theorem st_lo : ∀ i : Nat, i < 12 → st_len.getD i 0 < 2 ^ 31 := by decide +kernel
theorem st_ol : st_own.length = 12 := by decide +kernel
theorem st_KN {args : Array Value} {s : State} {l : Launch} {D : va_G} {ca : Nat → ClassId} {A : Nat → Prop} {aK aV : Nat → Nat} (hts : ∀ w ∈ lw_tbl, w.before args s = true) (hK : va_K D vwCl (tys_ ca) s) (he : ∀ i : Nat, i < 12 → (st_tm i).eval args s none [] s = some (.ref (aK i))) : KN (l, D, ca, A, aK, aV) s := by
  refine ⟨hK, va_AO.of (hts (Cond.arrayOver (.object RX3)) (List.mem_of_getElem? (i := 130) (by decide +kernel))), fun q hq => hts _ (st_nin q hq), fun i q hq => ?_⟩
  have hi : i < 12 := by
    have := (List.getElem?_eq_some_iff.mp hq).1
    rwa [st_ol] at this
  have h2 := he i hi
  unfold st_tm at h2
  rw [List.getD_eq_getElem?_getD, hq] at h2
  exact vk_R.of (hts _ (st_sin q (List.mem_of_getElem? hq))) h2
theorem st_S {args : Array Value} {s : State} {A : Nat → Prop} (h : (Cond.and given_1 narrow_1).before args s = true) (hA : ∀ a : Nat, a < s.heap.size → ¬ A a) : ∃ aK aV : Nat → Nat, vk_S 12 st_len st_byt aK aV A s s.heap ∧ ∀ i : Nat, i < 12 → (st_tm i).eval args s none [] s = some (.ref (aK i)) := by
  have hs := flat_of_before _ h
  refine vk_Sof st_lo ?_ ?_ ?_ ?_ ?_ ?_ hA
  · refine fun i hi => hs _ ?_
    revert hi; revert i; decide +kernel
  · refine fun i hi => hs _ ?_
    revert hi; revert i; decide +kernel
  · refine fun i hi => hs _ ?_
    revert hi; revert i; decide +kernel
  · refine fun i hi => hs _ ?_
    revert hi; revert i; decide +kernel
  · refine fun i hi j hj => hs _ ?_
    revert hj; revert j; revert hi; revert i; decide +kernel
  · intro i j hi hj hij
    refine Or.imp (hs _) (hs _) ?_
    revert hij; revert hj; revert j; revert hi; revert i; decide +kernel
theorem st_KH {args : Array Value} {s : State} {l : Launch} {D : va_G} {ca : Nat → ClassId} {A : Nat → Prop} {aK aV : Nat → Nat} (hts : ∀ w ∈ lw_tbl, w.before args s = true) (h : (Cond.and given_1 narrow_1).before args s = true) (hA : ∀ a : Nat, a < s.heap.size → ¬ A a) (hS : vk_S 12 st_len st_byt aK aV A s s.heap) : KH (l, D, ca, A, aK, aV) s s.heap := by
  have hs := flat_of_before _ h
  refine ⟨hS, va_Zof (hts _ (by decide +kernel)) (hts _ (by decide +kernel)) (va_eqt (hs (Cond.eq (.static "java/lang/String" "COMPACT_STRINGS" "Z") (.int 1)) (by decide +kernel))) hA, va_Zqof (hts _ (by decide +kernel)) (hts _ (by decide +kernel)) (hs _ (by decide +kernel)) hA, s, fun w hw => ?_, Vm.Alike.refl s.vm, hA, fun _ _ => rfl⟩
  simp only [st_stat, List.mem_cons, List.not_mem_nil, or_false] at hw
  rcases hw with rfl | rfl | rfl | rfl | rfl
  · exact hts (.laysStatic "java/lang/Throwable" "UNASSIGNED_STACK" "[Ljava/lang/StackTraceElement;") (by decide +kernel)
  · exact hts (.laysStatic "java/lang/Throwable" "SUPPRESSED_SENTINEL" "Ljava/util/List;") (by decide +kernel)
  · exact hs (.isRef (.static "java/lang/Throwable" "UNASSIGNED_STACK" "[Ljava/lang/StackTraceElement;")) (by decide +kernel)
  · exact hs (.isRef (.static "java/lang/Throwable" "SUPPRESSED_SENTINEL" "Ljava/util/List;")) (by decide +kernel)
  · exact hts (.initialized "java/lang/Throwable") (by decide +kernel)

