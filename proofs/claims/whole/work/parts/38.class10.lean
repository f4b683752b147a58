/-! the class's reader: where it stands -/
def CKT (T : TT) (h : HP) (r : Nat) : Prop := TW T ∧ CK (Prod.snd T ++ [(13, 0, Prod.fst T)]) h r
theorem CKT.at {T : TT} {h : HP} {r i : Nat} (H : CKT T h r) (hi : i ≤ T.N) : h.ai (h.fr 128 r) i = nI (T.kd i) ∧ (T.kd i < 2 → h.ai (h.fr 129 r) i = nI (T.vl i)) ∧ h.ai (h.fr 130 r) i = nI (T.pp i) := by
  obtain ⟨-, -, H⟩ := H
  by_cases q : i < T.N
  · have e : (Prod.snd T)[i]? = some ((Prod.snd T)[i]'q) := List.getElem?_eq_getElem q
    have z := H i _ (by rw [List.getElem?_append_left q]; exact e)
    unfold TT.kd TT.vl TT.pp
    rw [e]
    exact z
  · have q2 : i = (Prod.snd T).length := Nat.le_antisymm hi (Nat.le_of_not_lt q)
    have e : (Prod.snd T)[i]? = none := List.getElem?_eq_none (by omega)
    have z := H i (13, 0, Prod.fst T) (by rw [q2]; simp)
    unfold TT.kd TT.vl TT.pp
    rw [e]
    exact ⟨z.1, fun h => absurd h (by decide), z.2.2⟩
theorem CKT.n {T : TT} {h : HP} {r : Nat} (H : CKT T h r) : h.fi 131 r = nI (T.N + 1) ∧ T.N ≤ 600 := ⟨by rw [H.2.1]; simp [TT.N], H.1.2.1⟩

theorem kdlt {T : TT} (W : TW T) (i : Nat) : T.kd i < 2 ^ 31 := by
  unfold TT.kd
  cases e : (Prod.snd T)[i]? with
  | none => decide
  | some t => exact Nat.lt_trans (W.2.2 t (List.mem_of_getElem? e)).1 (by decide)
theorem c_X2_kind {G : GT} {h : HP} {r i : Nat} {T : TT}  (hR : RDl h r) (K : CKT T h r) (hc : h.fi 132 r = nI i) (hi : i ≤ T.N) : Con G 1 0 0 yX2_kind cX2_kind 1 (some .int) [rv r] h (PI (fun v h' => nI (T.kd i) = v ∧ h = h')) := by
  refine Con.of (lv := [some (rv r)]) (by decide) (by simp only [lvE_r, lvE_i, lvE_l, lvE_s, lvE_0]; rfl) (by simp only [lgl_r, lgl_i, lgl_l, lgl_s, lgl_0]; decide) (fun Γ C R => ?_)
  generalize hPP : (PI (fun v h' => nI (T.kd i) = v ∧ h = h')) = PP
  obtain ⟨kn, k6⟩ := K.n
  obtain ⟨ka, kb, kp⟩ := K.at hi
  refine r_aload_n (q := 1) (z := 0) C 0 rfl (by decide +kernel) rfl rfl ?_
  refine r_getI (q := 4) C 2 4 132 rfl (by decide +kernel) rfl (by decide) rfl rfl wf_X2_25 win2 hR.1 ?_
  rw [hc]
  refine r_if_lt (q := 7) (off := 36) (tgt := 40) C rfl (by decide +kernel) (by decide) (fun c4 => ?_) (fun c4 => ?_)
  · exact absurd c4 (nI_pos (by omega))
  · refine r_aload_n (q := 8) (z := 0) C 0 rfl (by decide +kernel) rfl rfl ?_
    refine r_getI (q := 11) C 2 4 132 rfl (by decide +kernel) rfl (by decide) rfl rfl wf_X2_25 win2 hR.1 ?_
    rw [hc]
    refine r_aload_n (q := 12) (z := 0) C 0 rfl (by decide +kernel) rfl rfl ?_
    refine r_getI (q := 15) C 2 3 131 rfl (by decide +kernel) rfl (by decide) rfl rfl wf_X2_21 win2 hR.1 ?_
    rw [kn]
    refine r_icmp_ge (q := 18) (off := 25) (tgt := 40) C rfl (by decide +kernel) (by decide) (fun c15 => ?_) (fun c15 => ?_)
    · exact absurd ((nI_leI (by omega) (by omega)).mp c15) (by omega)
    · refine r_aload_n (q := 19) (z := 0) C 0 rfl (by decide +kernel) rfl rfl ?_
      refine r_getI (q := 22) C 2 4 132 rfl (by decide +kernel) rfl (by decide) rfl rfl wf_X2_25 win2 hR.1 ?_
      rw [hc]
      refine r_sipush (q := 25) (z := 600) (v := 600) C rfl (by decide +kernel) (by decide) ?_
      refine r_icmp_gt (q := 28) (off := 15) (tgt := 40) C rfl (by decide +kernel) (by decide) (fun c25 => ?_) (fun c25 => ?_)
      · exact absurd ((nI_ltI (a := 600) (by omega) (by omega)).mp c25) (by omega)
      · refine r_aload_n (q := 29) (z := 0) C 0 rfl (by decide +kernel) rfl rfl ?_
        refine r_getR (q := 32) C 2 0 128 rfl (by decide +kernel) rfl (by decide) rfl rfl wf_X2_9 win2 hR.1 ?_
        refine r_aload_n (q := 33) (z := 0) C 0 rfl (by decide +kernel) rfl rfl ?_
        refine r_getI (q := 36) C 2 4 132 rfl (by decide +kernel) rfl (by decide) rfl rfl wf_X2_25 win2 hR.1 ?_
        rw [hc]
        refine r_iald (q := 37) C rfl (by decide +kernel) hR.2.1 (vp_in_nI (by omega) (by decide)) ?_
        rw [nI_clamp (by omega), ka]
        refine r_goto (off := 5) (tgt := 42) C (by decide +kernel) (by decide) ?_
        exact r_iret C (by decide +kernel) rfl (by decide) (by decide) (eqP hPP ⟨_, rfl, ⟨rfl, rfl⟩⟩)
theorem c_X2_refuse {G : GT} {h : HP} {r i : Nat} {T : TT} {k : Nat} (hR : RDl h r) (K : CKT T h r) (hc : h.fi 132 r = nI i) (hi : i ≤ T.N) : Con G 1 0 0 yX2_refuse cX2_refuse 2 (some .boolean) [rv r, .int (nI k)] h (PI (fun v h' => 0 = v ∧ h.setI 133 r (nI (fq T k i)) = h')) := by
  refine Con.of (lv := [some (rv r), some (.int (nI k))]) (by decide) (by simp only [lvE_r, lvE_i, lvE_l, lvE_s, lvE_0]; rfl) (by simp only [lgl_r, lgl_i, lgl_l, lgl_s, lgl_0]; decide) (fun Γ C R => ?_)
  generalize hPP : (PI (fun v h' => 0 = v ∧ h.setI 133 r (nI (fq T k i)) = h')) = PP
  obtain ⟨kn, k6⟩ := K.n
  obtain ⟨ka, kb, kp⟩ := K.at hi
  refine r_aload_n (q := 1) (z := 0) C 0 rfl (by decide +kernel) rfl rfl ?_
  refine r_getI (q := 4) C 2 4 132 rfl (by decide +kernel) rfl (by decide) rfl rfl wf_X2_25 win2 hR.1 ?_
  rw [hc]
  refine r_if_lt (q := 7) (off := 31) (tgt := 35) C rfl (by decide +kernel) (by decide) (fun c4 => ?_) (fun c4 => ?_)
  · exact absurd c4 (nI_pos (by omega))
  · refine r_aload_n (q := 8) (z := 0) C 0 rfl (by decide +kernel) rfl rfl ?_
    refine r_getI (q := 11) C 2 4 132 rfl (by decide +kernel) rfl (by decide) rfl rfl wf_X2_25 win2 hR.1 ?_
    rw [hc]
    refine r_sipush (q := 14) (z := 600) (v := 600) C rfl (by decide +kernel) (by decide) ?_
    refine r_icmp_gt (q := 17) (off := 21) (tgt := 35) C rfl (by decide +kernel) (by decide) (fun c14 => ?_) (fun c14 => ?_)
    · exact absurd ((nI_ltI (a := 600) (by omega) (by omega)).mp c14) (by omega)
    · refine r_aload_n (q := 18) (z := 0) C 0 rfl (by decide +kernel) rfl rfl ?_
      refine r_iload_n (q := 19) (z := 1) C 1 rfl (by decide +kernel) rfl rfl ?_
      refine r_bipush (q := 21) (z := 16) (v := 16) C rfl (by decide +kernel) (by decide) ?_
      refine r_aload_n (q := 22) (z := 0) C 0 rfl (by decide +kernel) rfl rfl ?_
      refine r_getR (q := 25) C 2 2 130 rfl (by decide +kernel) rfl (by decide) rfl rfl wf_X2_18 win2 hR.1 ?_
      refine r_aload_n (q := 26) (z := 0) C 0 rfl (by decide +kernel) rfl rfl ?_
      refine r_getI (q := 29) C 2 4 132 rfl (by decide +kernel) rfl (by decide) rfl rfl wf_X2_25 win2 hR.1 ?_
      rw [hc]
      refine r_iald (q := 30) C rfl (by decide +kernel) hR.2.2.2.2.2.1 (vp_in_nI (by omega) (by decide)) ?_
      rw [nI_clamp (by omega), kp]
      refine r_imul (q := 31) C rfl (by decide +kernel) ?_
      rw [show (16 : Int32) = nI 16 from rfl, pk_mul]
      refine r_iadd (q := 32) C rfl (by decide +kernel) ?_
      rw [nI_add]
      refine r_putI (q := 35) C 2 5 133 rfl (by decide +kernel) rfl (by decide) rfl rfl wf_X2_28 win2 tyX2 tyX2_ok nmX2 rfl (tyX2_ok 5 (by decide)) rfl wnd2 rfl rfl hR.1 ?_
      refine r_iconst (q := 36) (z := 0) (v := 0) C rfl (by decide +kernel) (by decide) ?_
      exact r_zret C (by decide +kernel) rfl (by first | decide | exact b2i_nar _) (by decide) (by decide) (eqP hPP ⟨_, rfl, ⟨rfl, rfl⟩⟩)
theorem c_X2_skip {G : GT} {h : HP} {r i : Nat} {T : TT} {k : Nat} (hR : RDl h r) (K : CKT T h r) (hc : h.fi 132 r = nI i) (hi : i ≤ T.N) (hk : k < 15) : Con G 2 0 0 yX2_skip cX2_skip 2 (some .boolean) [rv r, .int (nI k)] h (PI (fun v h' => b2i (decide (T.kd i = k)) = v ∧ (if T.kd i = k then h.setI 132 r (nI (i + 1)) else h.setI 133 r (nI (fq T 1 i))) = h')) := by
  refine Con.of (lv := [some (rv r), some (.int (nI k))]) (by decide) (by simp only [lvE_r, lvE_i, lvE_l, lvE_s, lvE_0]; rfl) (by simp only [lgl_r, lgl_i, lgl_l, lgl_s, lgl_0]; decide) (fun Γ C R => ?_)
  generalize hPP : (PI (fun v h' => b2i (decide (T.kd i = k)) = v ∧ (if T.kd i = k then h.setI 132 r (nI (i + 1)) else h.setI 133 r (nI (fq T 1 i))) = h')) = PP
  have kl : T.kd i < 2 ^ 31 := kdlt K.1 i
  refine r_aload_n (q := 1) (z := 0) C 0 rfl (by decide +kernel) rfl rfl ?_
  refine cV0I (q := 4) C R rfl (by decide +kernel) lk_X2_106 (c_X2_kind hR K hc hi) (by decide) (by decide) (by decide) rfl (by first | exact Nat.le_of_ble_eq_true rfl | (simp only [List.map_cons, List.map_nil, List.sum_cons, List.sum_nil, rv_cat]; exact Nat.le_of_ble_eq_true rfl)) rfl hR.1 ?_
  rintro _ _ ⟨rfl, rfl⟩
  refine r_iload_n (q := 5) (z := 1) C 1 rfl (by decide +kernel) rfl rfl ?_
  refine r_icmp_eq (q := 8) (off := 9) (tgt := 14) C rfl (by decide +kernel) (by decide) (fun c5 => ?_) (fun c5 => ?_)
  · have ek : T.kd i = k := (nI_eq kl (by omega)).mp c5
    refine r_aload_n (q := 15) (z := 0) C 0 rfl (by decide +kernel) rfl rfl ?_
    refine r_dup (q := 16) C rfl (by decide +kernel) (by first | rfl | exact rv_cat _) ?_
    refine r_getI (q := 19) C 2 4 132 rfl (by decide +kernel) rfl (by decide) rfl rfl wf_X2_25 win2 hR.1 ?_
    rw [hc]
    refine r_iconst (q := 20) (z := 1) (v := 1) C rfl (by decide +kernel) (by decide) ?_
    refine r_iadd (q := 21) C rfl (by decide +kernel) ?_
    rw [nI_1]
    refine r_putI (q := 24) C 2 4 132 rfl (by decide +kernel) rfl (by decide) rfl rfl wf_X2_25 win2 tyX2 tyX2_ok nmX2 rfl (tyX2_ok 4 (by decide)) rfl wnd2 rfl rfl hR.1 ?_
    refine r_iconst (q := 25) (z := 1) (v := 1) C rfl (by decide +kernel) (by decide) ?_
    exact r_zret C (by decide +kernel) rfl (by first | decide | exact b2i_nar _) (by decide) (by decide) (eqP hPP ⟨_, rfl, ⟨bt ek, by rw [if_pos ek]⟩⟩)
  · have ek : ¬ T.kd i = k := fun q => c5 (by rw [q])
    refine r_aload_n (q := 9) (z := 0) C 0 rfl (by decide +kernel) rfl rfl ?_
    refine r_iconst (q := 10) (z := 1) (v := 1) C rfl (by decide +kernel) (by decide) ?_
    refine cV1I (q := 13) C R rfl (by decide +kernel) lk_X2_114 (c_X2_refuse (k := 1) hR K hc hi) (by decide) (by decide) (by decide) rfl (by first | exact Nat.le_of_ble_eq_true rfl | (simp only [List.map_cons, List.map_nil, List.sum_cons, List.sum_nil, rv_cat]; exact Nat.le_of_ble_eq_true rfl)) rfl hR.1 ?_
    rintro _ _ ⟨rfl, rfl⟩
    exact r_zret C (by decide +kernel) rfl (by first | decide | exact b2i_nar _) (by decide) (by decide) (eqP hPP ⟨_, rfl, ⟨bf ek, by rw [if_neg ek]⟩⟩)
