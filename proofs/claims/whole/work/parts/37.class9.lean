/-! the class's reader: its layout, its tokens -/
def RDl (h : HP) (r : Nat) : Prop := h.kd r = (0, 2) ∧ h.kd (h.fr 128 r) = (9, 601) ∧ h.gl (h.fr 128 r) = 128 ∧ h.kd (h.fr 129 r) = (9, 601) ∧ h.gl (h.fr 129 r) = 129 ∧ h.kd (h.fr 130 r) = (9, 601) ∧ h.gl (h.fr 130 r) = 130
theorem RDl.fm {A B : List Nat} {h h' : HP} {r : Nat} (F : Fm A B h h') (H : RDl h r) : RDl h' r := by
  obtain ⟨f1, f2, f3, -⟩ := F
  unfold RDl; rw [f1, f2, f3]; exact H
def CKt (h : HP) (r i : Nat) (t : Nat × Nat × Nat) : Prop := h.ai (h.fr 128 r) i = nI t.1 ∧ (t.1 < 2 → h.ai (h.fr 129 r) i = nI t.2.1) ∧ h.ai (h.fr 130 r) i = nI t.2.2
def CK (ts : List (Nat × Nat × Nat)) (h : HP) (r : Nat) : Prop := h.fi 131 r = nI ts.length ∧ ∀ i t, ts[i]? = some t → CKt h r i t
def tkP (h : HP) (r n : Nat) (a b c : Int32) : HP := (((h.row (h.fr 128 r) (upd (h.ai (h.fr 128 r)) n a)).row (h.fr 129 r) (upd (h.ai (h.fr 129 r)) n b)).row (h.fr 130 r) (upd (h.ai (h.fr 130 r)) n c)).setI 131 r (nI (n + 1))
theorem tkP_f {h : HP} {r n : Nat} {a b c : Int32} (H : RDl h r) : Fm [128, 129, 130] [131] h (tkP h r n a b c) := by
  obtain ⟨-, -, g1, -, g2, -, g3⟩ := H
  exact Fm.setI (Fm.row (Fm.row (Fm.row Fm.rf (by rw [g1]; decide)) (by rw [g2]; decide)) (by rw [g3]; decide)) (by decide)
theorem tkP_a {h : HP} {r n : Nat} {a b c : Int32} (H : RDl h r) : (tkP h r n a b c).ai (h.fr 128 r) = upd (h.ai (h.fr 128 r)) n a ∧ (tkP h r n a b c).ai (h.fr 129 r) = upd (h.ai (h.fr 129 r)) n b ∧ (tkP h r n a b c).ai (h.fr 130 r) = upd (h.ai (h.fr 130 r)) n c := by
  obtain ⟨-, -, g1, -, g2, -, g3⟩ := H
  have n12 : h.fr 128 r ≠ h.fr 129 r := gl_ne g1 g2 (by decide)
  have n13 : h.fr 128 r ≠ h.fr 130 r := gl_ne g1 g3 (by decide)
  have n23 : h.fr 129 r ≠ h.fr 130 r := gl_ne g2 g3 (by decide)
  refine ⟨?_, ?_, ?_⟩
  · show (((h.row (h.fr 128 r) _).row (h.fr 129 r) _).row (h.fr 130 r) _).ai (h.fr 128 r) = _
    rw [ai_row_ne n13, ai_row_ne n12, ai_row_eq]
  · show (((h.row (h.fr 128 r) _).row (h.fr 129 r) _).row (h.fr 130 r) _).ai (h.fr 129 r) = _
    rw [ai_row_ne n23, ai_row_eq]
  · show (((h.row (h.fr 128 r) _).row (h.fr 129 r) _).row (h.fr 130 r) _).ai (h.fr 130 r) = _
    rw [ai_row_eq]
theorem CK.add {ts : List (Nat × Nat × Nat)} {h : HP} {r : Nat} {t : Nat × Nat × Nat} {b : Int32} (H : RDl h r) (M : CK ts h r) (hb : t.1 < 2 → b = nI t.2.1) : CK (ts ++ [t]) (tkP h r ts.length (nI t.1) b (nI t.2.2)) r := by
  obtain ⟨e1, e2, e3⟩ := tkP_a (n := ts.length) (a := nI t.1) (b := b) (c := nI t.2.2) H
  refine ⟨by show (HP.setI _ 131 r _).fi 131 r = _; rw [fi_eq]; simp, fun i t' ht => ?_⟩
  show (tkP h r ts.length (nI t.1) b (nI t.2.2)).ai (h.fr 128 r) i = _ ∧ (_ → (tkP h r ts.length (nI t.1) b (nI t.2.2)).ai (h.fr 129 r) i = _) ∧ (tkP h r ts.length (nI t.1) b (nI t.2.2)).ai (h.fr 130 r) i = _
  rw [e1, e2, e3]
  by_cases q : i = ts.length
  · subst q
    have et : t = t' := by simpa using ht
    subst et
    rw [pk_us, pk_us, pk_us]
    exact ⟨rfl, hb, rfl⟩
  · rw [pk_un q, pk_un q, pk_un q]
    have hi : i < ts.length := by have := (List.getElem?_eq_some_iff.mp ht).1; simp at this; omega
    rw [List.getElem?_append_left hi] at ht
    exact M.2 i t' ht
def fnV (W : List Nat) : Int32 := if W = wd 4 then 0 else if W = wd 5 then 1 else if W = wd 6 then 2 else if W = wd 7 then 3 else if W = wd 8 then 4 else if W = wd 9 then 5 else -1
def kwV (W : List Nat) : Int32 := if W = wd 0 then 10 else if W = wd 1 then 11 else if W = wd 2 then 12 else if W = wd 3 then 6 else 14

theorem c_X2_addToken {G : GT} {h : HP} {r n : Nat} {a b c : Int32} (hR : RDl h r) (hn : n ≤ 600) (ht : h.fi 131 r = nI n) : Con G 1 0 0 yX2_addToken cX2_addToken 4 none [rv r, .int a, .int b, .int c] h (PV (fun h' => tkP h r n a b c = h')) := by
  refine Con.of (lv := [some (rv r), some (.int a), some (.int b), some (.int c)]) (by decide) (by simp only [lvE_r, lvE_i, lvE_l, lvE_s, lvE_0]; rfl) (by simp only [lgl_r, lgl_i, lgl_l, lgl_s, lgl_0]; decide) (fun Γ C R => ?_)
  generalize hPP : (PV (fun h' => tkP h r n a b c = h')) = PP
  have n12 : h.fr 129 r ≠ h.fr 128 r := gl_ne hR.2.2.2.2.1 hR.2.2.1 (by decide)
  have n13 : h.fr 130 r ≠ h.fr 128 r := gl_ne hR.2.2.2.2.2.2 hR.2.2.1 (by decide)
  have n23 : h.fr 130 r ≠ h.fr 129 r := gl_ne hR.2.2.2.2.2.2 hR.2.2.2.2.1 (by decide)
  refine r_aload_n (q := 1) (z := 0) C 0 rfl (by decide +kernel) rfl rfl ?_
  refine r_getI (q := 4) C 2 3 131 rfl (by decide +kernel) rfl (by decide) rfl rfl wf_X2_21 win2 hR.1 ?_
  rw [ht]
  refine r_sipush (q := 7) (z := 600) (v := 600) C rfl (by decide +kernel) (by decide) ?_
  refine r_icmp_gt (q := 10) (off := 43) (tgt := 50) C rfl (by decide +kernel) (by decide) (fun c7 => ?_) (fun c7 => ?_)
  · exact absurd ((nI_ltI (a := 600) (by omega) (by omega)).mp c7) (by omega)
  · refine r_aload_n (q := 11) (z := 0) C 0 rfl (by decide +kernel) rfl rfl ?_
    refine r_getR (q := 14) C 2 0 128 rfl (by decide +kernel) rfl (by decide) rfl rfl wf_X2_9 win2 hR.1 ?_
    refine r_aload_n (q := 15) (z := 0) C 0 rfl (by decide +kernel) rfl rfl ?_
    refine r_getI (q := 18) C 2 3 131 rfl (by decide +kernel) rfl (by decide) rfl rfl wf_X2_21 win2 hR.1 ?_
    rw [ht]
    refine r_iload_n (q := 19) (z := 1) C 1 rfl (by decide +kernel) rfl rfl ?_
    refine r_iast (q := 20) C rfl (by decide +kernel) rfl hR.2.1 (vp_in_nI (by omega) (by decide)) ?_
    rw [stI_row, nI_clamp (by omega)]
    refine r_aload_n (q := 21) (z := 0) C 0 rfl (by decide +kernel) rfl rfl ?_
    refine r_getR (q := 24) C 2 1 129 rfl (by decide +kernel) rfl (by decide) rfl rfl wf_X2_15 win2 hR.1 ?_
    try simp only [fr_row]
    refine r_aload_n (q := 25) (z := 0) C 0 rfl (by decide +kernel) rfl rfl ?_
    refine r_getI (q := 28) C 2 3 131 rfl (by decide +kernel) rfl (by decide) rfl rfl wf_X2_21 win2 hR.1 ?_
    rw [fi_row, ht]
    refine r_iload_n (q := 29) (z := 2) C 2 rfl (by decide +kernel) rfl rfl ?_
    refine r_iast (q := 30) C rfl (by decide +kernel) rfl hR.2.2.2.1 (vp_in_nI (by omega) (by decide)) ?_
    rw [stI_row, nI_clamp (by omega), ai_row_ne n12]
    refine r_aload_n (q := 31) (z := 0) C 0 rfl (by decide +kernel) rfl rfl ?_
    refine r_getR (q := 34) C 2 2 130 rfl (by decide +kernel) rfl (by decide) rfl rfl wf_X2_18 win2 hR.1 ?_
    try simp only [fr_row]
    refine r_aload_n (q := 35) (z := 0) C 0 rfl (by decide +kernel) rfl rfl ?_
    refine r_getI (q := 38) C 2 3 131 rfl (by decide +kernel) rfl (by decide) rfl rfl wf_X2_21 win2 hR.1 ?_
    rw [fi_row, fi_row, ht]
    refine r_iload_n (q := 39) (z := 3) C 3 rfl (by decide +kernel) rfl rfl ?_
    refine r_iast (q := 40) C rfl (by decide +kernel) rfl hR.2.2.2.2.2.1 (vp_in_nI (by omega) (by decide)) ?_
    rw [stI_row, nI_clamp (by omega), ai_row_ne n23, ai_row_ne n13]
    refine r_aload_n (q := 41) (z := 0) C 0 rfl (by decide +kernel) rfl rfl ?_
    refine r_dup (q := 42) C rfl (by decide +kernel) (by first | rfl | exact rv_cat _) ?_
    refine r_getI (q := 45) C 2 3 131 rfl (by decide +kernel) rfl (by decide) rfl rfl wf_X2_21 win2 hR.1 ?_
    rw [fi_row, fi_row, fi_row, ht]
    refine r_iconst (q := 46) (z := 1) (v := 1) C rfl (by decide +kernel) (by decide) ?_
    refine r_iadd (q := 47) C rfl (by decide +kernel) ?_
    rw [nI_1]
    refine r_putI (q := 50) C 2 3 131 rfl (by decide +kernel) rfl (by decide) rfl rfl wf_X2_21 win2 tyX2 tyX2_ok nmX2 rfl (tyX2_ok 3 (by decide)) rfl wnd2 rfl rfl hR.1 ?_
    exact r_ret C (by decide +kernel) rfl (by decide) (by decide) (eqP hPP ⟨rfl, rfl⟩)
theorem c_X2_kindOfSign {G : GT} {h : HP} {c : Nat} (hc : c < 127) : Con G 1 0 0 yX2_kindOfSign cX2_kindOfSign 1 (some .int) [.int (nI c)] h (PI (fun v h' => nI (sgk c) = v ∧ h = h')) := by
  refine Con.of (lv := [some (.int (nI c))]) (by decide) (by simp only [lvE_r, lvE_i, lvE_l, lvE_s, lvE_0]; rfl) (by simp only [lgl_r, lgl_i, lgl_l, lgl_s, lgl_0]; decide) (fun Γ C R => ?_)
  generalize hPP : (PI (fun v h' => nI (sgk c) = v ∧ h = h')) = PP
  refine r_iload_n (q := 1) (z := 0) C 0 rfl (by decide +kernel) rfl rfl ?_
  have hcc : c = 40 ∨ c = 41 ∨ c = 42 ∨ c = 43 ∨ c = 44 ∨ c = 45 ∨ c = 46 ∨ c = 47 ∨ c = 48 ∨ c = 49 ∨ c = 50 ∨ c = 51 ∨ c = 52 ∨ c = 53 ∨ c = 54 ∨ c = 55 ∨ c = 56 ∨ c = 57 ∨ c = 58 ∨ c = 59 ∨ c = 60 ∨ c = 61 ∨ ¬ (40 ≤ c ∧ c ≤ 61) := by omega
  rcases hcc with rfl | rfl | rfl | rfl | rfl | rfl | rfl | rfl | rfl | rfl | rfl | rfl | rfl | rfl | rfl | rfl | rfl | rfl | rfl | rfl | rfl | rfl | ho
  · refine r_tableIn (dflt := 120) (lo := 40) (hi := 61) (offs := #[103, 106, 120, 113, 120, 115, 120, 120, 120, 120, 120, 120, 120, 120, 120, 120, 120, 120, 120, 117, 109, 111]) (len := 103) (off := 103) (tgt := 104) C (by decide +kernel) (by decide) (by decide) (by decide) (by decide) ?_
    refine r_bipush (q := 106) (z := 7) (v := 7) C rfl (by decide +kernel) (by decide) ?_
    exact r_iret C (by decide +kernel) rfl (by decide) (by decide) (eqP hPP ⟨_, rfl, (by first | exact ⟨rfl, rfl⟩ | exact ⟨by rw [sgk, if_neg (by omega), if_neg (by omega), if_neg (by omega), if_neg (by omega), if_neg (by omega), if_neg (by omega), if_neg (by omega)]; rfl, rfl⟩)⟩)
  · refine r_tableIn (dflt := 120) (lo := 40) (hi := 61) (offs := #[103, 106, 120, 113, 120, 115, 120, 120, 120, 120, 120, 120, 120, 120, 120, 120, 120, 120, 120, 117, 109, 111]) (len := 103) (off := 106) (tgt := 107) C (by decide +kernel) (by decide) (by decide) (by decide) (by decide) ?_
    refine r_bipush (q := 109) (z := 8) (v := 8) C rfl (by decide +kernel) (by decide) ?_
    exact r_iret C (by decide +kernel) rfl (by decide) (by decide) (eqP hPP ⟨_, rfl, (by first | exact ⟨rfl, rfl⟩ | exact ⟨by rw [sgk, if_neg (by omega), if_neg (by omega), if_neg (by omega), if_neg (by omega), if_neg (by omega), if_neg (by omega), if_neg (by omega)]; rfl, rfl⟩)⟩)
  · refine r_tableIn (dflt := 120) (lo := 40) (hi := 61) (offs := #[103, 106, 120, 113, 120, 115, 120, 120, 120, 120, 120, 120, 120, 120, 120, 120, 120, 120, 120, 117, 109, 111]) (len := 103) (off := 120) (tgt := 121) C (by decide +kernel) (by decide) (by decide) (by decide) (by decide) ?_
    refine r_bipush (q := 123) (z := 14) (v := 14) C rfl (by decide +kernel) (by decide) ?_
    exact r_iret C (by decide +kernel) rfl (by decide) (by decide) (eqP hPP ⟨_, rfl, (by first | exact ⟨rfl, rfl⟩ | exact ⟨by rw [sgk, if_neg (by omega), if_neg (by omega), if_neg (by omega), if_neg (by omega), if_neg (by omega), if_neg (by omega), if_neg (by omega)]; rfl, rfl⟩)⟩)
  · refine r_tableIn (dflt := 120) (lo := 40) (hi := 61) (offs := #[103, 106, 120, 113, 120, 115, 120, 120, 120, 120, 120, 120, 120, 120, 120, 120, 120, 120, 120, 117, 109, 111]) (len := 103) (off := 113) (tgt := 114) C (by decide +kernel) (by decide) (by decide) (by decide) (by decide) ?_
    refine r_iconst (q := 115) (z := 2) (v := 2) C rfl (by decide +kernel) (by decide) ?_
    exact r_iret C (by decide +kernel) rfl (by decide) (by decide) (eqP hPP ⟨_, rfl, (by first | exact ⟨rfl, rfl⟩ | exact ⟨by rw [sgk, if_neg (by omega), if_neg (by omega), if_neg (by omega), if_neg (by omega), if_neg (by omega), if_neg (by omega), if_neg (by omega)]; rfl, rfl⟩)⟩)
  · refine r_tableIn (dflt := 120) (lo := 40) (hi := 61) (offs := #[103, 106, 120, 113, 120, 115, 120, 120, 120, 120, 120, 120, 120, 120, 120, 120, 120, 120, 120, 117, 109, 111]) (len := 103) (off := 120) (tgt := 121) C (by decide +kernel) (by decide) (by decide) (by decide) (by decide) ?_
    refine r_bipush (q := 123) (z := 14) (v := 14) C rfl (by decide +kernel) (by decide) ?_
    exact r_iret C (by decide +kernel) rfl (by decide) (by decide) (eqP hPP ⟨_, rfl, (by first | exact ⟨rfl, rfl⟩ | exact ⟨by rw [sgk, if_neg (by omega), if_neg (by omega), if_neg (by omega), if_neg (by omega), if_neg (by omega), if_neg (by omega), if_neg (by omega)]; rfl, rfl⟩)⟩)
  · refine r_tableIn (dflt := 120) (lo := 40) (hi := 61) (offs := #[103, 106, 120, 113, 120, 115, 120, 120, 120, 120, 120, 120, 120, 120, 120, 120, 120, 120, 120, 117, 109, 111]) (len := 103) (off := 115) (tgt := 116) C (by decide +kernel) (by decide) (by decide) (by decide) (by decide) ?_
    refine r_iconst (q := 117) (z := 3) (v := 3) C rfl (by decide +kernel) (by decide) ?_
    exact r_iret C (by decide +kernel) rfl (by decide) (by decide) (eqP hPP ⟨_, rfl, (by first | exact ⟨rfl, rfl⟩ | exact ⟨by rw [sgk, if_neg (by omega), if_neg (by omega), if_neg (by omega), if_neg (by omega), if_neg (by omega), if_neg (by omega), if_neg (by omega)]; rfl, rfl⟩)⟩)
  · refine r_tableIn (dflt := 120) (lo := 40) (hi := 61) (offs := #[103, 106, 120, 113, 120, 115, 120, 120, 120, 120, 120, 120, 120, 120, 120, 120, 120, 120, 120, 117, 109, 111]) (len := 103) (off := 120) (tgt := 121) C (by decide +kernel) (by decide) (by decide) (by decide) (by decide) ?_
    refine r_bipush (q := 123) (z := 14) (v := 14) C rfl (by decide +kernel) (by decide) ?_
    exact r_iret C (by decide +kernel) rfl (by decide) (by decide) (eqP hPP ⟨_, rfl, (by first | exact ⟨rfl, rfl⟩ | exact ⟨by rw [sgk, if_neg (by omega), if_neg (by omega), if_neg (by omega), if_neg (by omega), if_neg (by omega), if_neg (by omega), if_neg (by omega)]; rfl, rfl⟩)⟩)
  · refine r_tableIn (dflt := 120) (lo := 40) (hi := 61) (offs := #[103, 106, 120, 113, 120, 115, 120, 120, 120, 120, 120, 120, 120, 120, 120, 120, 120, 120, 120, 117, 109, 111]) (len := 103) (off := 120) (tgt := 121) C (by decide +kernel) (by decide) (by decide) (by decide) (by decide) ?_
    refine r_bipush (q := 123) (z := 14) (v := 14) C rfl (by decide +kernel) (by decide) ?_
    exact r_iret C (by decide +kernel) rfl (by decide) (by decide) (eqP hPP ⟨_, rfl, (by first | exact ⟨rfl, rfl⟩ | exact ⟨by rw [sgk, if_neg (by omega), if_neg (by omega), if_neg (by omega), if_neg (by omega), if_neg (by omega), if_neg (by omega), if_neg (by omega)]; rfl, rfl⟩)⟩)
  · refine r_tableIn (dflt := 120) (lo := 40) (hi := 61) (offs := #[103, 106, 120, 113, 120, 115, 120, 120, 120, 120, 120, 120, 120, 120, 120, 120, 120, 120, 120, 117, 109, 111]) (len := 103) (off := 120) (tgt := 121) C (by decide +kernel) (by decide) (by decide) (by decide) (by decide) ?_
    refine r_bipush (q := 123) (z := 14) (v := 14) C rfl (by decide +kernel) (by decide) ?_
    exact r_iret C (by decide +kernel) rfl (by decide) (by decide) (eqP hPP ⟨_, rfl, (by first | exact ⟨rfl, rfl⟩ | exact ⟨by rw [sgk, if_neg (by omega), if_neg (by omega), if_neg (by omega), if_neg (by omega), if_neg (by omega), if_neg (by omega), if_neg (by omega)]; rfl, rfl⟩)⟩)
  · refine r_tableIn (dflt := 120) (lo := 40) (hi := 61) (offs := #[103, 106, 120, 113, 120, 115, 120, 120, 120, 120, 120, 120, 120, 120, 120, 120, 120, 120, 120, 117, 109, 111]) (len := 103) (off := 120) (tgt := 121) C (by decide +kernel) (by decide) (by decide) (by decide) (by decide) ?_
    refine r_bipush (q := 123) (z := 14) (v := 14) C rfl (by decide +kernel) (by decide) ?_
    exact r_iret C (by decide +kernel) rfl (by decide) (by decide) (eqP hPP ⟨_, rfl, (by first | exact ⟨rfl, rfl⟩ | exact ⟨by rw [sgk, if_neg (by omega), if_neg (by omega), if_neg (by omega), if_neg (by omega), if_neg (by omega), if_neg (by omega), if_neg (by omega)]; rfl, rfl⟩)⟩)
  · refine r_tableIn (dflt := 120) (lo := 40) (hi := 61) (offs := #[103, 106, 120, 113, 120, 115, 120, 120, 120, 120, 120, 120, 120, 120, 120, 120, 120, 120, 120, 117, 109, 111]) (len := 103) (off := 120) (tgt := 121) C (by decide +kernel) (by decide) (by decide) (by decide) (by decide) ?_
    refine r_bipush (q := 123) (z := 14) (v := 14) C rfl (by decide +kernel) (by decide) ?_
    exact r_iret C (by decide +kernel) rfl (by decide) (by decide) (eqP hPP ⟨_, rfl, (by first | exact ⟨rfl, rfl⟩ | exact ⟨by rw [sgk, if_neg (by omega), if_neg (by omega), if_neg (by omega), if_neg (by omega), if_neg (by omega), if_neg (by omega), if_neg (by omega)]; rfl, rfl⟩)⟩)
  · refine r_tableIn (dflt := 120) (lo := 40) (hi := 61) (offs := #[103, 106, 120, 113, 120, 115, 120, 120, 120, 120, 120, 120, 120, 120, 120, 120, 120, 120, 120, 117, 109, 111]) (len := 103) (off := 120) (tgt := 121) C (by decide +kernel) (by decide) (by decide) (by decide) (by decide) ?_
    refine r_bipush (q := 123) (z := 14) (v := 14) C rfl (by decide +kernel) (by decide) ?_
    exact r_iret C (by decide +kernel) rfl (by decide) (by decide) (eqP hPP ⟨_, rfl, (by first | exact ⟨rfl, rfl⟩ | exact ⟨by rw [sgk, if_neg (by omega), if_neg (by omega), if_neg (by omega), if_neg (by omega), if_neg (by omega), if_neg (by omega), if_neg (by omega)]; rfl, rfl⟩)⟩)
  · refine r_tableIn (dflt := 120) (lo := 40) (hi := 61) (offs := #[103, 106, 120, 113, 120, 115, 120, 120, 120, 120, 120, 120, 120, 120, 120, 120, 120, 120, 120, 117, 109, 111]) (len := 103) (off := 120) (tgt := 121) C (by decide +kernel) (by decide) (by decide) (by decide) (by decide) ?_
    refine r_bipush (q := 123) (z := 14) (v := 14) C rfl (by decide +kernel) (by decide) ?_
    exact r_iret C (by decide +kernel) rfl (by decide) (by decide) (eqP hPP ⟨_, rfl, (by first | exact ⟨rfl, rfl⟩ | exact ⟨by rw [sgk, if_neg (by omega), if_neg (by omega), if_neg (by omega), if_neg (by omega), if_neg (by omega), if_neg (by omega), if_neg (by omega)]; rfl, rfl⟩)⟩)
  · refine r_tableIn (dflt := 120) (lo := 40) (hi := 61) (offs := #[103, 106, 120, 113, 120, 115, 120, 120, 120, 120, 120, 120, 120, 120, 120, 120, 120, 120, 120, 117, 109, 111]) (len := 103) (off := 120) (tgt := 121) C (by decide +kernel) (by decide) (by decide) (by decide) (by decide) ?_
    refine r_bipush (q := 123) (z := 14) (v := 14) C rfl (by decide +kernel) (by decide) ?_
    exact r_iret C (by decide +kernel) rfl (by decide) (by decide) (eqP hPP ⟨_, rfl, (by first | exact ⟨rfl, rfl⟩ | exact ⟨by rw [sgk, if_neg (by omega), if_neg (by omega), if_neg (by omega), if_neg (by omega), if_neg (by omega), if_neg (by omega), if_neg (by omega)]; rfl, rfl⟩)⟩)
  · refine r_tableIn (dflt := 120) (lo := 40) (hi := 61) (offs := #[103, 106, 120, 113, 120, 115, 120, 120, 120, 120, 120, 120, 120, 120, 120, 120, 120, 120, 120, 117, 109, 111]) (len := 103) (off := 120) (tgt := 121) C (by decide +kernel) (by decide) (by decide) (by decide) (by decide) ?_
    refine r_bipush (q := 123) (z := 14) (v := 14) C rfl (by decide +kernel) (by decide) ?_
    exact r_iret C (by decide +kernel) rfl (by decide) (by decide) (eqP hPP ⟨_, rfl, (by first | exact ⟨rfl, rfl⟩ | exact ⟨by rw [sgk, if_neg (by omega), if_neg (by omega), if_neg (by omega), if_neg (by omega), if_neg (by omega), if_neg (by omega), if_neg (by omega)]; rfl, rfl⟩)⟩)
  · refine r_tableIn (dflt := 120) (lo := 40) (hi := 61) (offs := #[103, 106, 120, 113, 120, 115, 120, 120, 120, 120, 120, 120, 120, 120, 120, 120, 120, 120, 120, 117, 109, 111]) (len := 103) (off := 120) (tgt := 121) C (by decide +kernel) (by decide) (by decide) (by decide) (by decide) ?_
    refine r_bipush (q := 123) (z := 14) (v := 14) C rfl (by decide +kernel) (by decide) ?_
    exact r_iret C (by decide +kernel) rfl (by decide) (by decide) (eqP hPP ⟨_, rfl, (by first | exact ⟨rfl, rfl⟩ | exact ⟨by rw [sgk, if_neg (by omega), if_neg (by omega), if_neg (by omega), if_neg (by omega), if_neg (by omega), if_neg (by omega), if_neg (by omega)]; rfl, rfl⟩)⟩)
  · refine r_tableIn (dflt := 120) (lo := 40) (hi := 61) (offs := #[103, 106, 120, 113, 120, 115, 120, 120, 120, 120, 120, 120, 120, 120, 120, 120, 120, 120, 120, 117, 109, 111]) (len := 103) (off := 120) (tgt := 121) C (by decide +kernel) (by decide) (by decide) (by decide) (by decide) ?_
    refine r_bipush (q := 123) (z := 14) (v := 14) C rfl (by decide +kernel) (by decide) ?_
    exact r_iret C (by decide +kernel) rfl (by decide) (by decide) (eqP hPP ⟨_, rfl, (by first | exact ⟨rfl, rfl⟩ | exact ⟨by rw [sgk, if_neg (by omega), if_neg (by omega), if_neg (by omega), if_neg (by omega), if_neg (by omega), if_neg (by omega), if_neg (by omega)]; rfl, rfl⟩)⟩)
  · refine r_tableIn (dflt := 120) (lo := 40) (hi := 61) (offs := #[103, 106, 120, 113, 120, 115, 120, 120, 120, 120, 120, 120, 120, 120, 120, 120, 120, 120, 120, 117, 109, 111]) (len := 103) (off := 120) (tgt := 121) C (by decide +kernel) (by decide) (by decide) (by decide) (by decide) ?_
    refine r_bipush (q := 123) (z := 14) (v := 14) C rfl (by decide +kernel) (by decide) ?_
    exact r_iret C (by decide +kernel) rfl (by decide) (by decide) (eqP hPP ⟨_, rfl, (by first | exact ⟨rfl, rfl⟩ | exact ⟨by rw [sgk, if_neg (by omega), if_neg (by omega), if_neg (by omega), if_neg (by omega), if_neg (by omega), if_neg (by omega), if_neg (by omega)]; rfl, rfl⟩)⟩)
  · refine r_tableIn (dflt := 120) (lo := 40) (hi := 61) (offs := #[103, 106, 120, 113, 120, 115, 120, 120, 120, 120, 120, 120, 120, 120, 120, 120, 120, 120, 120, 117, 109, 111]) (len := 103) (off := 120) (tgt := 121) C (by decide +kernel) (by decide) (by decide) (by decide) (by decide) ?_
    refine r_bipush (q := 123) (z := 14) (v := 14) C rfl (by decide +kernel) (by decide) ?_
    exact r_iret C (by decide +kernel) rfl (by decide) (by decide) (eqP hPP ⟨_, rfl, (by first | exact ⟨rfl, rfl⟩ | exact ⟨by rw [sgk, if_neg (by omega), if_neg (by omega), if_neg (by omega), if_neg (by omega), if_neg (by omega), if_neg (by omega), if_neg (by omega)]; rfl, rfl⟩)⟩)
  · refine r_tableIn (dflt := 120) (lo := 40) (hi := 61) (offs := #[103, 106, 120, 113, 120, 115, 120, 120, 120, 120, 120, 120, 120, 120, 120, 120, 120, 120, 120, 117, 109, 111]) (len := 103) (off := 117) (tgt := 118) C (by decide +kernel) (by decide) (by decide) (by decide) (by decide) ?_
    refine r_bipush (q := 120) (z := 9) (v := 9) C rfl (by decide +kernel) (by decide) ?_
    exact r_iret C (by decide +kernel) rfl (by decide) (by decide) (eqP hPP ⟨_, rfl, (by first | exact ⟨rfl, rfl⟩ | exact ⟨by rw [sgk, if_neg (by omega), if_neg (by omega), if_neg (by omega), if_neg (by omega), if_neg (by omega), if_neg (by omega), if_neg (by omega)]; rfl, rfl⟩)⟩)
  · refine r_tableIn (dflt := 120) (lo := 40) (hi := 61) (offs := #[103, 106, 120, 113, 120, 115, 120, 120, 120, 120, 120, 120, 120, 120, 120, 120, 120, 120, 120, 117, 109, 111]) (len := 103) (off := 109) (tgt := 110) C (by decide +kernel) (by decide) (by decide) (by decide) (by decide) ?_
    refine r_iconst (q := 111) (z := 4) (v := 4) C rfl (by decide +kernel) (by decide) ?_
    exact r_iret C (by decide +kernel) rfl (by decide) (by decide) (eqP hPP ⟨_, rfl, (by first | exact ⟨rfl, rfl⟩ | exact ⟨by rw [sgk, if_neg (by omega), if_neg (by omega), if_neg (by omega), if_neg (by omega), if_neg (by omega), if_neg (by omega), if_neg (by omega)]; rfl, rfl⟩)⟩)
  · refine r_tableIn (dflt := 120) (lo := 40) (hi := 61) (offs := #[103, 106, 120, 113, 120, 115, 120, 120, 120, 120, 120, 120, 120, 120, 120, 120, 120, 120, 120, 117, 109, 111]) (len := 103) (off := 111) (tgt := 112) C (by decide +kernel) (by decide) (by decide) (by decide) (by decide) ?_
    refine r_iconst (q := 113) (z := 5) (v := 5) C rfl (by decide +kernel) (by decide) ?_
    exact r_iret C (by decide +kernel) rfl (by decide) (by decide) (eqP hPP ⟨_, rfl, (by first | exact ⟨rfl, rfl⟩ | exact ⟨by rw [sgk, if_neg (by omega), if_neg (by omega), if_neg (by omega), if_neg (by omega), if_neg (by omega), if_neg (by omega), if_neg (by omega)]; rfl, rfl⟩)⟩)
  · refine r_tableOut (dflt := 120) (lo := 40) (hi := 61) (offs := #[103, 106, 120, 113, 120, 115, 120, 120, 120, 120, 120, 120, 120, 120, 120, 120, 120, 120, 120, 117, 109, 111]) (len := 103) (tgt := 121) C (by decide +kernel) (by rw [nI_toInt (by omega)]; omega) (by decide) ?_
    refine r_bipush (q := 123) (z := 14) (v := 14) C rfl (by decide +kernel) (by decide) ?_
    exact r_iret C (by decide +kernel) rfl (by decide) (by decide) (eqP hPP ⟨_, rfl, (by first | exact ⟨rfl, rfl⟩ | exact ⟨by rw [sgk, if_neg (by omega), if_neg (by omega), if_neg (by omega), if_neg (by omega), if_neg (by omega), if_neg (by omega), if_neg (by omega)]; rfl, rfl⟩)⟩)
theorem c_X2_factNamed {G : GT} {h : HP} {a s e : Nat} {tp : List Nat} (hk : h.kd a = (0, 5)) (hs : h.kd (h.fr 320 a) = (8, 600)) (T : TpC tp h a) (hs0 : s ≤ e) (he : e ≤ 700) : Con G 6 0 0 yX2_factNamed cX2_factNamed 3 (some .int) [rv a, .int (nI s), .int (nI e)] h (PI (fun v h' => fnV (wl (sg tp) s e) = v ∧ h = h')) := by
  refine Con.of (lv := [some (rv a), some (.int (nI s)), some (.int (nI e))]) (by decide) (by simp only [lvE_r, lvE_i, lvE_l, lvE_s, lvE_0]; rfl) (by simp only [lgl_r, lgl_i, lgl_l, lgl_s, lgl_0]; decide) (fun Γ C R => ?_)
  generalize hPP : (PI (fun v h' => fnV (wl (sg tp) s e) = v ∧ h = h')) = PP
  refine r_aload_n (q := 1) (z := 0) C 0 rfl (by decide +kernel) rfl rfl ?_
  refine r_ldcS (q := 3) (j := 0) C rfl (by decide +kernel) rfl ?_
  refine r_iload_n (q := 4) (z := 1) C 1 rfl (by decide +kernel) rfl rfl ?_
  refine r_iload_n (q := 5) (z := 2) C 2 rfl (by decide +kernel) rfl rfl ?_
  refine cV3I (q := 8) C R rfl (by decide +kernel) lk_X2_79 (c_X5_hasWord (j := 0) hk hs T (by decide) hs0 he) (by decide) (by decide) (by decide) rfl (by first | exact Nat.le_of_ble_eq_true rfl | (simp only [List.map_cons, List.map_nil, List.sum_cons, List.sum_nil, rv_cat]; exact Nat.le_of_ble_eq_true rfl)) rfl hk ?_
  rintro _ _ ⟨rfl, rfl⟩
  refine r_if_eq (q := 11) (off := 5) (tgt := 13) C rfl (by decide +kernel) (by decide) (fun c8 => ?_) (fun c8 => ?_)
  · have c8 : ¬ wl (sg tp) s e = wd 4 := of_decide_eq_false ((b2i_0 _).mp c8)
    refine r_aload_n (q := 14) (z := 0) C 0 rfl (by decide +kernel) rfl rfl ?_
    refine r_ldcS (q := 16) (j := 1) C rfl (by decide +kernel) rfl ?_
    refine r_iload_n (q := 17) (z := 1) C 1 rfl (by decide +kernel) rfl rfl ?_
    refine r_iload_n (q := 18) (z := 2) C 2 rfl (by decide +kernel) rfl rfl ?_
    refine cV3I (q := 21) C R rfl (by decide +kernel) lk_X2_79 (c_X5_hasWord (j := 1) hk hs T (by decide) hs0 he) (by decide) (by decide) (by decide) rfl (by first | exact Nat.le_of_ble_eq_true rfl | (simp only [List.map_cons, List.map_nil, List.sum_cons, List.sum_nil, rv_cat]; exact Nat.le_of_ble_eq_true rfl)) rfl hk ?_
    rintro _ _ ⟨rfl, rfl⟩
    refine r_if_eq (q := 24) (off := 5) (tgt := 26) C rfl (by decide +kernel) (by decide) (fun c21 => ?_) (fun c21 => ?_)
    · have c21 : ¬ wl (sg tp) s e = wd 5 := of_decide_eq_false ((b2i_0 _).mp c21)
      refine r_aload_n (q := 27) (z := 0) C 0 rfl (by decide +kernel) rfl rfl ?_
      refine r_ldcS (q := 29) (j := 2) C rfl (by decide +kernel) rfl ?_
      refine r_iload_n (q := 30) (z := 1) C 1 rfl (by decide +kernel) rfl rfl ?_
      refine r_iload_n (q := 31) (z := 2) C 2 rfl (by decide +kernel) rfl rfl ?_
      refine cV3I (q := 34) C R rfl (by decide +kernel) lk_X2_79 (c_X5_hasWord (j := 2) hk hs T (by decide) hs0 he) (by decide) (by decide) (by decide) rfl (by first | exact Nat.le_of_ble_eq_true rfl | (simp only [List.map_cons, List.map_nil, List.sum_cons, List.sum_nil, rv_cat]; exact Nat.le_of_ble_eq_true rfl)) rfl hk ?_
      rintro _ _ ⟨rfl, rfl⟩
      refine r_if_eq (q := 37) (off := 5) (tgt := 39) C rfl (by decide +kernel) (by decide) (fun c34 => ?_) (fun c34 => ?_)
      · have c34 : ¬ wl (sg tp) s e = wd 6 := of_decide_eq_false ((b2i_0 _).mp c34)
        refine r_aload_n (q := 40) (z := 0) C 0 rfl (by decide +kernel) rfl rfl ?_
        refine r_ldcS (q := 42) (j := 3) C rfl (by decide +kernel) rfl ?_
        refine r_iload_n (q := 43) (z := 1) C 1 rfl (by decide +kernel) rfl rfl ?_
        refine r_iload_n (q := 44) (z := 2) C 2 rfl (by decide +kernel) rfl rfl ?_
        refine cV3I (q := 47) C R rfl (by decide +kernel) lk_X2_79 (c_X5_hasWord (j := 3) hk hs T (by decide) hs0 he) (by decide) (by decide) (by decide) rfl (by first | exact Nat.le_of_ble_eq_true rfl | (simp only [List.map_cons, List.map_nil, List.sum_cons, List.sum_nil, rv_cat]; exact Nat.le_of_ble_eq_true rfl)) rfl hk ?_
        rintro _ _ ⟨rfl, rfl⟩
        refine r_if_eq (q := 50) (off := 5) (tgt := 52) C rfl (by decide +kernel) (by decide) (fun c47 => ?_) (fun c47 => ?_)
        · have c47 : ¬ wl (sg tp) s e = wd 7 := of_decide_eq_false ((b2i_0 _).mp c47)
          refine r_aload_n (q := 53) (z := 0) C 0 rfl (by decide +kernel) rfl rfl ?_
          refine r_ldcS (q := 55) (j := 4) C rfl (by decide +kernel) rfl ?_
          refine r_iload_n (q := 56) (z := 1) C 1 rfl (by decide +kernel) rfl rfl ?_
          refine r_iload_n (q := 57) (z := 2) C 2 rfl (by decide +kernel) rfl rfl ?_
          refine cV3I (q := 60) C R rfl (by decide +kernel) lk_X2_79 (c_X5_hasWord (j := 4) hk hs T (by decide) hs0 he) (by decide) (by decide) (by decide) rfl (by first | exact Nat.le_of_ble_eq_true rfl | (simp only [List.map_cons, List.map_nil, List.sum_cons, List.sum_nil, rv_cat]; exact Nat.le_of_ble_eq_true rfl)) rfl hk ?_
          rintro _ _ ⟨rfl, rfl⟩
          refine r_if_eq (q := 63) (off := 5) (tgt := 65) C rfl (by decide +kernel) (by decide) (fun c60 => ?_) (fun c60 => ?_)
          · have c60 : ¬ wl (sg tp) s e = wd 8 := of_decide_eq_false ((b2i_0 _).mp c60)
            refine r_aload_n (q := 66) (z := 0) C 0 rfl (by decide +kernel) rfl rfl ?_
            refine r_ldcS (q := 68) (j := 5) C rfl (by decide +kernel) rfl ?_
            refine r_iload_n (q := 69) (z := 1) C 1 rfl (by decide +kernel) rfl rfl ?_
            refine r_iload_n (q := 70) (z := 2) C 2 rfl (by decide +kernel) rfl rfl ?_
            refine cV3I (q := 73) C R rfl (by decide +kernel) lk_X2_79 (c_X5_hasWord (j := 5) hk hs T (by decide) hs0 he) (by decide) (by decide) (by decide) rfl (by first | exact Nat.le_of_ble_eq_true rfl | (simp only [List.map_cons, List.map_nil, List.sum_cons, List.sum_nil, rv_cat]; exact Nat.le_of_ble_eq_true rfl)) rfl hk ?_
            rintro _ _ ⟨rfl, rfl⟩
            refine r_if_eq (q := 76) (off := 7) (tgt := 80) C rfl (by decide +kernel) (by decide) (fun c73 => ?_) (fun c73 => ?_)
            · have c73 : ¬ wl (sg tp) s e = wd 9 := of_decide_eq_false ((b2i_0 _).mp c73)
              refine r_iconst (q := 81) (z := (-1)) (v := (-1)) C rfl (by decide +kernel) (by decide) ?_
              exact r_iret C (by decide +kernel) rfl (by decide) (by decide) (eqP hPP ⟨_, rfl, (by first | exact ⟨by rw [fnV, if_pos c8]; try rfl, rfl⟩ | exact ⟨by rw [fnV, if_neg c8, if_pos c21]; try rfl, rfl⟩ | exact ⟨by rw [fnV, if_neg c8, if_neg c21, if_pos c34]; try rfl, rfl⟩ | exact ⟨by rw [fnV, if_neg c8, if_neg c21, if_neg c34, if_pos c47]; try rfl, rfl⟩ | exact ⟨by rw [fnV, if_neg c8, if_neg c21, if_neg c34, if_neg c47, if_pos c60]; try rfl, rfl⟩ | exact ⟨by rw [fnV, if_neg c8, if_neg c21, if_neg c34, if_neg c47, if_neg c60, if_pos c73]; try rfl, rfl⟩ | exact ⟨by rw [fnV, if_neg c8, if_neg c21, if_neg c34, if_neg c47, if_neg c60, if_neg c73]; try rfl, rfl⟩)⟩)
            · have c73 : wl (sg tp) s e = wd 9 := of_decide_eq_true ((b2i_n0 _).mp c73)
              refine r_iconst (q := 77) (z := 5) (v := 5) C rfl (by decide +kernel) (by decide) ?_
              refine r_goto (off := 4) (tgt := 81) C (by decide +kernel) (by decide) ?_
              exact r_iret C (by decide +kernel) rfl (by decide) (by decide) (eqP hPP ⟨_, rfl, (by first | exact ⟨by rw [fnV, if_pos c8]; try rfl, rfl⟩ | exact ⟨by rw [fnV, if_neg c8, if_pos c21]; try rfl, rfl⟩ | exact ⟨by rw [fnV, if_neg c8, if_neg c21, if_pos c34]; try rfl, rfl⟩ | exact ⟨by rw [fnV, if_neg c8, if_neg c21, if_neg c34, if_pos c47]; try rfl, rfl⟩ | exact ⟨by rw [fnV, if_neg c8, if_neg c21, if_neg c34, if_neg c47, if_pos c60]; try rfl, rfl⟩ | exact ⟨by rw [fnV, if_neg c8, if_neg c21, if_neg c34, if_neg c47, if_neg c60, if_pos c73]; try rfl, rfl⟩ | exact ⟨by rw [fnV, if_neg c8, if_neg c21, if_neg c34, if_neg c47, if_neg c60, if_neg c73]; try rfl, rfl⟩)⟩)
          · have c60 : wl (sg tp) s e = wd 8 := of_decide_eq_true ((b2i_n0 _).mp c60)
            refine r_iconst (q := 64) (z := 4) (v := 4) C rfl (by decide +kernel) (by decide) ?_
            exact r_iret C (by decide +kernel) rfl (by decide) (by decide) (eqP hPP ⟨_, rfl, (by first | exact ⟨by rw [fnV, if_pos c8]; try rfl, rfl⟩ | exact ⟨by rw [fnV, if_neg c8, if_pos c21]; try rfl, rfl⟩ | exact ⟨by rw [fnV, if_neg c8, if_neg c21, if_pos c34]; try rfl, rfl⟩ | exact ⟨by rw [fnV, if_neg c8, if_neg c21, if_neg c34, if_pos c47]; try rfl, rfl⟩ | exact ⟨by rw [fnV, if_neg c8, if_neg c21, if_neg c34, if_neg c47, if_pos c60]; try rfl, rfl⟩ | exact ⟨by rw [fnV, if_neg c8, if_neg c21, if_neg c34, if_neg c47, if_neg c60, if_pos c73]; try rfl, rfl⟩ | exact ⟨by rw [fnV, if_neg c8, if_neg c21, if_neg c34, if_neg c47, if_neg c60, if_neg c73]; try rfl, rfl⟩)⟩)
        · have c47 : wl (sg tp) s e = wd 7 := of_decide_eq_true ((b2i_n0 _).mp c47)
          refine r_iconst (q := 51) (z := 3) (v := 3) C rfl (by decide +kernel) (by decide) ?_
          exact r_iret C (by decide +kernel) rfl (by decide) (by decide) (eqP hPP ⟨_, rfl, (by first | exact ⟨by rw [fnV, if_pos c8]; try rfl, rfl⟩ | exact ⟨by rw [fnV, if_neg c8, if_pos c21]; try rfl, rfl⟩ | exact ⟨by rw [fnV, if_neg c8, if_neg c21, if_pos c34]; try rfl, rfl⟩ | exact ⟨by rw [fnV, if_neg c8, if_neg c21, if_neg c34, if_pos c47]; try rfl, rfl⟩ | exact ⟨by rw [fnV, if_neg c8, if_neg c21, if_neg c34, if_neg c47, if_pos c60]; try rfl, rfl⟩ | exact ⟨by rw [fnV, if_neg c8, if_neg c21, if_neg c34, if_neg c47, if_neg c60, if_pos c73]; try rfl, rfl⟩ | exact ⟨by rw [fnV, if_neg c8, if_neg c21, if_neg c34, if_neg c47, if_neg c60, if_neg c73]; try rfl, rfl⟩)⟩)
      · have c34 : wl (sg tp) s e = wd 6 := of_decide_eq_true ((b2i_n0 _).mp c34)
        refine r_iconst (q := 38) (z := 2) (v := 2) C rfl (by decide +kernel) (by decide) ?_
        exact r_iret C (by decide +kernel) rfl (by decide) (by decide) (eqP hPP ⟨_, rfl, (by first | exact ⟨by rw [fnV, if_pos c8]; try rfl, rfl⟩ | exact ⟨by rw [fnV, if_neg c8, if_pos c21]; try rfl, rfl⟩ | exact ⟨by rw [fnV, if_neg c8, if_neg c21, if_pos c34]; try rfl, rfl⟩ | exact ⟨by rw [fnV, if_neg c8, if_neg c21, if_neg c34, if_pos c47]; try rfl, rfl⟩ | exact ⟨by rw [fnV, if_neg c8, if_neg c21, if_neg c34, if_neg c47, if_pos c60]; try rfl, rfl⟩ | exact ⟨by rw [fnV, if_neg c8, if_neg c21, if_neg c34, if_neg c47, if_neg c60, if_pos c73]; try rfl, rfl⟩ | exact ⟨by rw [fnV, if_neg c8, if_neg c21, if_neg c34, if_neg c47, if_neg c60, if_neg c73]; try rfl, rfl⟩)⟩)
    · have c21 : wl (sg tp) s e = wd 5 := of_decide_eq_true ((b2i_n0 _).mp c21)
      refine r_iconst (q := 25) (z := 1) (v := 1) C rfl (by decide +kernel) (by decide) ?_
      exact r_iret C (by decide +kernel) rfl (by decide) (by decide) (eqP hPP ⟨_, rfl, (by first | exact ⟨by rw [fnV, if_pos c8]; try rfl, rfl⟩ | exact ⟨by rw [fnV, if_neg c8, if_pos c21]; try rfl, rfl⟩ | exact ⟨by rw [fnV, if_neg c8, if_neg c21, if_pos c34]; try rfl, rfl⟩ | exact ⟨by rw [fnV, if_neg c8, if_neg c21, if_neg c34, if_pos c47]; try rfl, rfl⟩ | exact ⟨by rw [fnV, if_neg c8, if_neg c21, if_neg c34, if_neg c47, if_pos c60]; try rfl, rfl⟩ | exact ⟨by rw [fnV, if_neg c8, if_neg c21, if_neg c34, if_neg c47, if_neg c60, if_pos c73]; try rfl, rfl⟩ | exact ⟨by rw [fnV, if_neg c8, if_neg c21, if_neg c34, if_neg c47, if_neg c60, if_neg c73]; try rfl, rfl⟩)⟩)
  · have c8 : wl (sg tp) s e = wd 4 := of_decide_eq_true ((b2i_n0 _).mp c8)
    refine r_iconst (q := 12) (z := 0) (v := 0) C rfl (by decide +kernel) (by decide) ?_
    exact r_iret C (by decide +kernel) rfl (by decide) (by decide) (eqP hPP ⟨_, rfl, (by first | exact ⟨by rw [fnV, if_pos c8]; try rfl, rfl⟩ | exact ⟨by rw [fnV, if_neg c8, if_pos c21]; try rfl, rfl⟩ | exact ⟨by rw [fnV, if_neg c8, if_neg c21, if_pos c34]; try rfl, rfl⟩ | exact ⟨by rw [fnV, if_neg c8, if_neg c21, if_neg c34, if_pos c47]; try rfl, rfl⟩ | exact ⟨by rw [fnV, if_neg c8, if_neg c21, if_neg c34, if_neg c47, if_pos c60]; try rfl, rfl⟩ | exact ⟨by rw [fnV, if_neg c8, if_neg c21, if_neg c34, if_neg c47, if_neg c60, if_pos c73]; try rfl, rfl⟩ | exact ⟨by rw [fnV, if_neg c8, if_neg c21, if_neg c34, if_neg c47, if_neg c60, if_neg c73]; try rfl, rfl⟩)⟩)
theorem c_X2_kindOfWord {G : GT} {h : HP} {a s e : Nat} {tp : List Nat} (hk : h.kd a = (0, 5)) (hs : h.kd (h.fr 320 a) = (8, 600)) (T : TpC tp h a) (hs0 : s ≤ e) (he : e ≤ 700) : Con G 6 0 0 yX2_kindOfWord cX2_kindOfWord 3 (some .int) [rv a, .int (nI s), .int (nI e)] h (PI (fun v h' => kwV (wl (sg tp) s e) = v ∧ h = h')) := by
  refine Con.of (lv := [some (rv a), some (.int (nI s)), some (.int (nI e))]) (by decide) (by simp only [lvE_r, lvE_i, lvE_l, lvE_s, lvE_0]; rfl) (by simp only [lgl_r, lgl_i, lgl_l, lgl_s, lgl_0]; decide) (fun Γ C R => ?_)
  generalize hPP : (PI (fun v h' => kwV (wl (sg tp) s e) = v ∧ h = h')) = PP
  refine r_aload_n (q := 1) (z := 0) C 0 rfl (by decide +kernel) rfl rfl ?_
  refine r_ldcS (q := 3) (j := 6) C rfl (by decide +kernel) rfl ?_
  refine r_iload_n (q := 4) (z := 1) C 1 rfl (by decide +kernel) rfl rfl ?_
  refine r_iload_n (q := 5) (z := 2) C 2 rfl (by decide +kernel) rfl rfl ?_
  refine cV3I (q := 8) C R rfl (by decide +kernel) lk_X2_79 (c_X5_hasWord (j := 6) hk hs T (by decide) hs0 he) (by decide) (by decide) (by decide) rfl (by first | exact Nat.le_of_ble_eq_true rfl | (simp only [List.map_cons, List.map_nil, List.sum_cons, List.sum_nil, rv_cat]; exact Nat.le_of_ble_eq_true rfl)) rfl hk ?_
  rintro _ _ ⟨rfl, rfl⟩
  refine r_if_eq (q := 11) (off := 6) (tgt := 14) C rfl (by decide +kernel) (by decide) (fun c8 => ?_) (fun c8 => ?_)
  · have c8 : ¬ wl (sg tp) s e = wd 0 := of_decide_eq_false ((b2i_0 _).mp c8)
    refine r_aload_n (q := 15) (z := 0) C 0 rfl (by decide +kernel) rfl rfl ?_
    refine r_ldcS (q := 17) (j := 7) C rfl (by decide +kernel) rfl ?_
    refine r_iload_n (q := 18) (z := 1) C 1 rfl (by decide +kernel) rfl rfl ?_
    refine r_iload_n (q := 19) (z := 2) C 2 rfl (by decide +kernel) rfl rfl ?_
    refine cV3I (q := 22) C R rfl (by decide +kernel) lk_X2_79 (c_X5_hasWord (j := 7) hk hs T (by decide) hs0 he) (by decide) (by decide) (by decide) rfl (by first | exact Nat.le_of_ble_eq_true rfl | (simp only [List.map_cons, List.map_nil, List.sum_cons, List.sum_nil, rv_cat]; exact Nat.le_of_ble_eq_true rfl)) rfl hk ?_
    rintro _ _ ⟨rfl, rfl⟩
    refine r_if_eq (q := 25) (off := 6) (tgt := 28) C rfl (by decide +kernel) (by decide) (fun c22 => ?_) (fun c22 => ?_)
    · have c22 : ¬ wl (sg tp) s e = wd 1 := of_decide_eq_false ((b2i_0 _).mp c22)
      refine r_aload_n (q := 29) (z := 0) C 0 rfl (by decide +kernel) rfl rfl ?_
      refine r_ldcS (q := 31) (j := 8) C rfl (by decide +kernel) rfl ?_
      refine r_iload_n (q := 32) (z := 1) C 1 rfl (by decide +kernel) rfl rfl ?_
      refine r_iload_n (q := 33) (z := 2) C 2 rfl (by decide +kernel) rfl rfl ?_
      refine cV3I (q := 36) C R rfl (by decide +kernel) lk_X2_79 (c_X5_hasWord (j := 8) hk hs T (by decide) hs0 he) (by decide) (by decide) (by decide) rfl (by first | exact Nat.le_of_ble_eq_true rfl | (simp only [List.map_cons, List.map_nil, List.sum_cons, List.sum_nil, rv_cat]; exact Nat.le_of_ble_eq_true rfl)) rfl hk ?_
      rintro _ _ ⟨rfl, rfl⟩
      refine r_if_eq (q := 39) (off := 6) (tgt := 42) C rfl (by decide +kernel) (by decide) (fun c36 => ?_) (fun c36 => ?_)
      · have c36 : ¬ wl (sg tp) s e = wd 2 := of_decide_eq_false ((b2i_0 _).mp c36)
        refine r_aload_n (q := 43) (z := 0) C 0 rfl (by decide +kernel) rfl rfl ?_
        refine r_ldcS (q := 45) (j := 9) C rfl (by decide +kernel) rfl ?_
        refine r_iload_n (q := 46) (z := 1) C 1 rfl (by decide +kernel) rfl rfl ?_
        refine r_iload_n (q := 47) (z := 2) C 2 rfl (by decide +kernel) rfl rfl ?_
        refine cV3I (q := 50) C R rfl (by decide +kernel) lk_X2_79 (c_X5_hasWord (j := 9) hk hs T (by decide) hs0 he) (by decide) (by decide) (by decide) rfl (by first | exact Nat.le_of_ble_eq_true rfl | (simp only [List.map_cons, List.map_nil, List.sum_cons, List.sum_nil, rv_cat]; exact Nat.le_of_ble_eq_true rfl)) rfl hk ?_
        rintro _ _ ⟨rfl, rfl⟩
        refine r_if_eq (q := 53) (off := 8) (tgt := 58) C rfl (by decide +kernel) (by decide) (fun c50 => ?_) (fun c50 => ?_)
        · have c50 : ¬ wl (sg tp) s e = wd 3 := of_decide_eq_false ((b2i_0 _).mp c50)
          refine r_bipush (q := 60) (z := 14) (v := 14) C rfl (by decide +kernel) (by decide) ?_
          exact r_iret C (by decide +kernel) rfl (by decide) (by decide) (eqP hPP ⟨_, rfl, (by first | exact ⟨by rw [kwV, if_pos c8]; try rfl, rfl⟩ | exact ⟨by rw [kwV, if_neg c8, if_pos c22]; try rfl, rfl⟩ | exact ⟨by rw [kwV, if_neg c8, if_neg c22, if_pos c36]; try rfl, rfl⟩ | exact ⟨by rw [kwV, if_neg c8, if_neg c22, if_neg c36, if_pos c50]; try rfl, rfl⟩ | exact ⟨by rw [kwV, if_neg c8, if_neg c22, if_neg c36, if_neg c50]; try rfl, rfl⟩)⟩)
        · have c50 : wl (sg tp) s e = wd 3 := of_decide_eq_true ((b2i_n0 _).mp c50)
          refine r_bipush (q := 55) (z := 6) (v := 6) C rfl (by decide +kernel) (by decide) ?_
          refine r_goto (off := 5) (tgt := 60) C (by decide +kernel) (by decide) ?_
          exact r_iret C (by decide +kernel) rfl (by decide) (by decide) (eqP hPP ⟨_, rfl, (by first | exact ⟨by rw [kwV, if_pos c8]; try rfl, rfl⟩ | exact ⟨by rw [kwV, if_neg c8, if_pos c22]; try rfl, rfl⟩ | exact ⟨by rw [kwV, if_neg c8, if_neg c22, if_pos c36]; try rfl, rfl⟩ | exact ⟨by rw [kwV, if_neg c8, if_neg c22, if_neg c36, if_pos c50]; try rfl, rfl⟩ | exact ⟨by rw [kwV, if_neg c8, if_neg c22, if_neg c36, if_neg c50]; try rfl, rfl⟩)⟩)
      · have c36 : wl (sg tp) s e = wd 2 := of_decide_eq_true ((b2i_n0 _).mp c36)
        refine r_bipush (q := 41) (z := 12) (v := 12) C rfl (by decide +kernel) (by decide) ?_
        exact r_iret C (by decide +kernel) rfl (by decide) (by decide) (eqP hPP ⟨_, rfl, (by first | exact ⟨by rw [kwV, if_pos c8]; try rfl, rfl⟩ | exact ⟨by rw [kwV, if_neg c8, if_pos c22]; try rfl, rfl⟩ | exact ⟨by rw [kwV, if_neg c8, if_neg c22, if_pos c36]; try rfl, rfl⟩ | exact ⟨by rw [kwV, if_neg c8, if_neg c22, if_neg c36, if_pos c50]; try rfl, rfl⟩ | exact ⟨by rw [kwV, if_neg c8, if_neg c22, if_neg c36, if_neg c50]; try rfl, rfl⟩)⟩)
    · have c22 : wl (sg tp) s e = wd 1 := of_decide_eq_true ((b2i_n0 _).mp c22)
      refine r_bipush (q := 27) (z := 11) (v := 11) C rfl (by decide +kernel) (by decide) ?_
      exact r_iret C (by decide +kernel) rfl (by decide) (by decide) (eqP hPP ⟨_, rfl, (by first | exact ⟨by rw [kwV, if_pos c8]; try rfl, rfl⟩ | exact ⟨by rw [kwV, if_neg c8, if_pos c22]; try rfl, rfl⟩ | exact ⟨by rw [kwV, if_neg c8, if_neg c22, if_pos c36]; try rfl, rfl⟩ | exact ⟨by rw [kwV, if_neg c8, if_neg c22, if_neg c36, if_pos c50]; try rfl, rfl⟩ | exact ⟨by rw [kwV, if_neg c8, if_neg c22, if_neg c36, if_neg c50]; try rfl, rfl⟩)⟩)
  · have c8 : wl (sg tp) s e = wd 0 := of_decide_eq_true ((b2i_n0 _).mp c8)
    refine r_bipush (q := 13) (z := 10) (v := 10) C rfl (by decide +kernel) (by decide) ?_
    exact r_iret C (by decide +kernel) rfl (by decide) (by decide) (eqP hPP ⟨_, rfl, (by first | exact ⟨by rw [kwV, if_pos c8]; try rfl, rfl⟩ | exact ⟨by rw [kwV, if_neg c8, if_pos c22]; try rfl, rfl⟩ | exact ⟨by rw [kwV, if_neg c8, if_neg c22, if_pos c36]; try rfl, rfl⟩ | exact ⟨by rw [kwV, if_neg c8, if_neg c22, if_neg c36, if_pos c50]; try rfl, rfl⟩ | exact ⟨by rw [kwV, if_neg c8, if_neg c22, if_neg c36, if_neg c50]; try rfl, rfl⟩)⟩)
