/-! the class counts and looks -/
theorem w_cs {w : Int32} {b : Nat} (hb : b < 8) : (∃ j, j ≤ b ∧ w = nI j) ∨ ¬ (0 ≤ w ∧ w ≤ nI b) := by
  by_cases h : 0 ≤ w ∧ w ≤ nI b
  · obtain ⟨-, h2, h3⟩ := nI_rng2 (a := 0) (b := b) (by omega) h.1 h.2 (by decide)
    exact Or.inl ⟨_, h2, h3⟩
  · exact Or.inr h
theorem w_8 (w : Int32) : w = 0 ∨ w = 1 ∨ w = 2 ∨ w = 3 ∨ w = 4 ∨ w = 5 ∨ w = 6 ∨ w = 7 ∨ ¬ (0 ≤ w ∧ w ≤ 7) := by
  rcases w_cs (w := w) (b := 7) (by decide) with ⟨j, hj, rfl⟩ | h
  · rcases (show j = 0 ∨ j = 1 ∨ j = 2 ∨ j = 3 ∨ j = 4 ∨ j = 5 ∨ j = 6 ∨ j = 7 by omega) with e | e | e | e | e | e | e | e <;> subst e <;> decide
  · exact Or.inr (Or.inr (Or.inr (Or.inr (Or.inr (Or.inr (Or.inr (Or.inr h)))))))
theorem w_out {w : Int32} {b : Nat} (hb : b < 8) (h : ¬ (0 ≤ w ∧ w ≤ nI b)) : w.toInt < 0 ∨ (b : Int) < w.toInt := by
  by_cases h0 : 0 ≤ w
  · refine Or.inr ?_
    have h1 : ¬ w ≤ nI b := fun e => h ⟨h0, e⟩
    rw [Int32.le_iff_toInt_le, nI_toInt (by omega)] at h1
    omega
  · refine Or.inl ?_
    rw [Int32.le_iff_toInt_le] at h0
    have : (0 : Int32).toInt = 0 := by decide
    omega
theorem w_ne {w v : Int32} {b : Nat} (h : ¬ (0 ≤ w ∧ w ≤ nI b)) (hv : 0 ≤ v ∧ v ≤ nI b) : ¬ w = v := fun e => h (by rw [e]; exact hv)
theorem frN_c {σ : SG} {h : HP} {g : Nat} (hn : σ.n ≤ 10) (R : CRc σ h g) : frees (h.ai (h.fr 0 (h.fr 384 g))) 120 = frN σ 120 := by
  unfold frees frN
  refine cnt_congr 120 (fun c hc => ?_)
  rw [R c hc]
  cases e : σ.fre c with
  | true => exact decide_eq_true ((cell_free hn).mpr e)
  | false => exact decide_eq_false (fun q => by rw [(cell_free hn).mp q] at e; cases e)
theorem place_v {q : Nat} (hq : q < 240) : (2 : Int32) * (12 * nI (py q) + nI (px q)) + (if b2i (decide (q % 2 = 1)) = 0 then 0 else 1) = pl q := hold_v hq

theorem w_6 {w : Int32} (h : 0 ≤ w ∧ w ≤ 5) : w = 0 ∨ w = 1 ∨ w = 2 ∨ w = 3 ∨ w = 4 ∨ w = 5 := by
  obtain ⟨-, h2, h3⟩ := nI_rng2 (a := 0) (b := 5) (by decide) h.1 h.2 (by decide)
  rw [h3]
  rcases (show w.toNatClampNeg = 0 ∨ w.toNatClampNeg = 1 ∨ w.toNatClampNeg = 2 ∨ w.toNatClampNeg = 3 ∨ w.toNatClampNeg = 4 ∨ w.toNatClampNeg = 5 by omega) with e | e | e | e | e | e <;> rw [e] <;> decide
theorem c_X6_count {G : GT} {h : HP} {g : Nat} {σ : SG} {p : Nat → Nat} {L : List Nat} {be sh : Nat → Nat} {ra : Nat} {tp : List Nat} {lw : LW} {w : Int32} (hL : LCl h.kd h.gl h.fr h.ar g σ.n p L) (R0 : CRr σ h.fi h.fr g p) (Rc : CRc σ h g) (W : WF σ) (M : CBm be sh ra h g) (T : TpC tp h (h.fr 390 g)) (Q : CLw lw h g) : Con G 3 0 0 yX6_count cX6_count 2 (some .int) [rv g, .int w] h (PI (fun v h' => countV σ ra (nI lw.length) (nI tp.length) w = v ∧ h = h')) := by
  refine Con.of (lv := [some (rv g), some (.int w)]) (by decide) (by simp only [lvE_r, lvE_i, lvE_l, lvE_s, lvE_0]; rfl) (by simp only [lgl_r, lgl_i, lgl_l, lgl_s, lgl_0]; decide) (fun Γ C R => ?_)
  generalize hPP : (PI (fun v h' => countV σ ra (nI lw.length) (nI tp.length) w = v ∧ h = h')) = PP
  have r10 := W.n10
  obtain ⟨kk, hkk, l1, l2⟩ := hL.lw
  refine r_iload_n (q := 1) (z := 1) C 1 rfl (by decide +kernel) rfl rfl ?_
  rcases w_8 w with rfl | rfl | rfl | rfl | rfl | rfl | rfl | rfl | hw
  · refine r_tableIn (dflt := 96) (lo := 0) (hi := 7) (offs := #[47, 52, 57, 62, 70, 75, 83, 91]) (len := 47) (off := 47) (tgt := 48) C (by decide +kernel) (by decide) (by decide) (by decide) (by decide) ?_
    refine r_aload_n (q := 49) (z := 0) C 0 rfl (by decide +kernel) rfl rfl ?_
    refine r_getI (q := 52) C 6 3 387 rfl (by decide +kernel) rfl (by decide) rfl rfl wf_X6_25 win6 hL.kf ?_
    rw [R0.1]
    exact r_iret C (by decide +kernel) rfl (by decide) (by decide) (eqP hPP ⟨_, rfl, ⟨by unfold countV; rw [if_pos rfl], rfl⟩⟩)
  · refine r_tableIn (dflt := 96) (lo := 0) (hi := 7) (offs := #[47, 52, 57, 62, 70, 75, 83, 91]) (len := 47) (off := 52) (tgt := 53) C (by decide +kernel) (by decide) (by decide) (by decide) (by decide) ?_
    refine r_aload_n (q := 54) (z := 0) C 0 rfl (by decide +kernel) rfl rfl ?_
    refine cV0I (q := 57) C R rfl (by decide +kernel) lk_X6_95 (c_X6_countLying hL R0 r10) (by decide) (by decide) (by decide) rfl (by first | exact Nat.le_of_ble_eq_true rfl | (simp only [List.map_cons, List.map_nil, List.sum_cons, List.sum_nil, rv_cat]; exact Nat.le_of_ble_eq_true rfl)) rfl hL.kf ?_
    rintro _ _ ⟨rfl, rfl⟩
    exact r_iret C (by decide +kernel) rfl (by decide) (by decide) (eqP hPP ⟨_, rfl, ⟨by unfold countV; rw [if_neg (by decide), if_pos rfl], rfl⟩⟩)
  · refine r_tableIn (dflt := 96) (lo := 0) (hi := 7) (offs := #[47, 52, 57, 62, 70, 75, 83, 91]) (len := 47) (off := 57) (tgt := 58) C (by decide +kernel) (by decide) (by decide) (by decide) (by decide) ?_
    refine r_aload_n (q := 59) (z := 0) C 0 rfl (by decide +kernel) rfl rfl ?_
    refine r_getI (q := 62) C 6 4 388 rfl (by decide +kernel) rfl (by decide) rfl rfl wf_X6_29 win6 hL.kf ?_
    rw [R0.2.1]
    exact r_iret C (by decide +kernel) rfl (by decide) (by decide) (eqP hPP ⟨_, rfl, ⟨by unfold countV; rw [if_neg (by decide), if_neg (by decide), if_pos rfl], rfl⟩⟩)
  · refine r_tableIn (dflt := 96) (lo := 0) (hi := 7) (offs := #[47, 52, 57, 62, 70, 75, 83, 91]) (len := 47) (off := 62) (tgt := 63) C (by decide +kernel) (by decide) (by decide) (by decide) (by decide) ?_
    refine r_aload_n (q := 64) (z := 0) C 0 rfl (by decide +kernel) rfl rfl ?_
    refine r_getR (q := 67) C 6 0 384 rfl (by decide +kernel) rfl (by decide) rfl rfl wf_X6_10 win6 hL.kf ?_
    refine cV0I (q := 70) C R rfl (by decide +kernel) lk_X6_238 (c_X0_countFree hL.gn) (by decide) (by decide) (by decide) rfl (by first | exact Nat.le_of_ble_eq_true rfl | (simp only [List.map_cons, List.map_nil, List.sum_cons, List.sum_nil, rv_cat]; exact Nat.le_of_ble_eq_true rfl)) rfl hL.kg ?_
    rintro _ _ ⟨rfl, rfl⟩
    rw [frN_c r10 Rc]
    exact r_iret C (by decide +kernel) rfl (by decide) (by decide) (eqP hPP ⟨_, rfl, ⟨by unfold countV; rw [if_neg (by decide), if_neg (by decide), if_neg (by decide), if_pos rfl], rfl⟩⟩)
  · refine r_tableIn (dflt := 96) (lo := 0) (hi := 7) (offs := #[47, 52, 57, 62, 70, 75, 83, 91]) (len := 47) (off := 70) (tgt := 71) C (by decide +kernel) (by decide) (by decide) (by decide) (by decide) ?_
    refine r_aload_n (q := 72) (z := 0) C 0 rfl (by decide +kernel) rfl rfl ?_
    refine cV0I (q := 75) C R rfl (by decide +kernel) lk_X6_241 (c_X6_countRights hL R0 r10) (by decide) (by decide) (by decide) rfl (by first | exact Nat.le_of_ble_eq_true rfl | (simp only [List.map_cons, List.map_nil, List.sum_cons, List.sum_nil, rv_cat]; exact Nat.le_of_ble_eq_true rfl)) rfl hL.kf ?_
    rintro _ _ ⟨rfl, rfl⟩
    exact r_iret C (by decide +kernel) rfl (by decide) (by decide) (eqP hPP ⟨_, rfl, ⟨by unfold countV; rw [if_neg (by decide), if_neg (by decide), if_neg (by decide), if_neg (by decide), if_pos rfl], rfl⟩⟩)
  · refine r_tableIn (dflt := 96) (lo := 0) (hi := 7) (offs := #[47, 52, 57, 62, 70, 75, 83, 91]) (len := 47) (off := 75) (tgt := 76) C (by decide +kernel) (by decide) (by decide) (by decide) (by decide) ?_
    refine r_aload_n (q := 77) (z := 0) C 0 rfl (by decide +kernel) rfl rfl ?_
    refine r_getR (q := 80) C 6 8 392 rfl (by decide +kernel) rfl (by decide) rfl rfl wf_X6_56 win6 hL.kf ?_
    refine r_getI (q := 83) C 1 5 69 rfl (by decide +kernel) rfl (by decide) rfl rfl wf_X6_244 win1 l1.1 ?_
    rw [Q.1.2.2.1]
    exact r_iret C (by decide +kernel) rfl (by decide) (by decide) (eqP hPP ⟨_, rfl, ⟨by unfold countV; rw [if_neg (by decide), if_neg (by decide), if_neg (by decide), if_neg (by decide), if_neg (by decide), if_pos rfl], rfl⟩⟩)
  · refine r_tableIn (dflt := 96) (lo := 0) (hi := 7) (offs := #[47, 52, 57, 62, 70, 75, 83, 91]) (len := 47) (off := 83) (tgt := 84) C (by decide +kernel) (by decide) (by decide) (by decide) (by decide) ?_
    refine r_aload_n (q := 85) (z := 0) C 0 rfl (by decide +kernel) rfl rfl ?_
    refine r_getR (q := 88) C 6 6 390 rfl (by decide +kernel) rfl (by decide) rfl rfl wf_X6_42 win6 hL.kf ?_
    refine r_getI (q := 91) C 5 1 321 rfl (by decide +kernel) rfl (by decide) rfl rfl wf_X6_175 win5 hL.k390 ?_
    rw [T.2.1]
    exact r_iret C (by decide +kernel) rfl (by decide) (by decide) (eqP hPP ⟨_, rfl, ⟨by unfold countV; rw [if_neg (by decide), if_neg (by decide), if_neg (by decide), if_neg (by decide), if_neg (by decide), if_neg (by decide), if_pos rfl], rfl⟩⟩)
  · refine r_tableIn (dflt := 96) (lo := 0) (hi := 7) (offs := #[47, 52, 57, 62, 70, 75, 83, 91]) (len := 47) (off := 91) (tgt := 92) C (by decide +kernel) (by decide) (by decide) (by decide) (by decide) ?_
    refine r_aload_n (q := 93) (z := 0) C 0 rfl (by decide +kernel) rfl rfl ?_
    refine cV0I (q := 96) C R rfl (by decide +kernel) lk_X6_199 (c_X6_allRents hL R0 W M) (by decide) (by decide) (by decide) rfl (by first | exact Nat.le_of_ble_eq_true rfl | (simp only [List.map_cons, List.map_nil, List.sum_cons, List.sum_nil, rv_cat]; exact Nat.le_of_ble_eq_true rfl)) rfl hL.kf ?_
    rintro _ _ ⟨rfl, rfl⟩
    exact r_iret C (by decide +kernel) rfl (by decide) (by decide) (eqP hPP ⟨_, rfl, ⟨by unfold countV; rw [if_neg (by decide), if_neg (by decide), if_neg (by decide), if_neg (by decide), if_neg (by decide), if_neg (by decide), if_neg (by decide), if_pos rfl], rfl⟩⟩)
  · refine r_tableOut (dflt := 96) (lo := 0) (hi := 7) (offs := #[47, 52, 57, 62, 70, 75, 83, 91]) (len := 47) (tgt := 97) C (by decide +kernel) (w_out (b := 7) (by decide) hw) (by decide) ?_
    refine r_iconst (q := 98) (z := (-1)) (v := (-1)) C rfl (by decide +kernel) (by decide) ?_
    exact r_iret C (by decide +kernel) rfl (by decide) (by decide) (eqP hPP ⟨_, rfl, ⟨by unfold countV; rw [if_neg (w_ne (b := 7) hw (v := 0) (by decide)), if_neg (w_ne (b := 7) hw (v := 1) (by decide)), if_neg (w_ne (b := 7) hw (v := 2) (by decide)), if_neg (w_ne (b := 7) hw (v := 3) (by decide)), if_neg (w_ne (b := 7) hw (v := 4) (by decide)), if_neg (w_ne (b := 7) hw (v := 5) (by decide)), if_neg (w_ne (b := 7) hw (v := 6) (by decide)), if_neg (w_ne (b := 7) hw (v := 7) (by decide))], rfl⟩⟩)
theorem c_X6_look {G : GT} {h : HP} {g : Nat} {σ : SG} {p : Nat → Nat} {L : List Nat} {x w : Int32} (hL : LCl h.kd h.gl h.fr h.ar g σ.n p L) (R0 : CRr σ h.fi h.fr g p) (W : WF σ) (hP : lkP σ x w) : Con G 3 0 0 yX6_look cX6_look 4 (some .int) [rv g, .int x, .int w] h (PI (fun v h' => lookV σ x.toNatClampNeg w = v ∧ h = h')) := by
  refine Con.of (lv := [some (rv g), some (.int x), some (.int w), none]) (by decide) (by simp only [lvE_r, lvE_i, lvE_l, lvE_s, lvE_0]; rfl) (by simp only [lgl_r, lgl_i, lgl_l, lgl_s, lgl_0]; decide) (fun Γ C R => ?_)
  generalize hPP : (PI (fun v h' => lookV σ x.toNatClampNeg w = v ∧ h = h')) = PP
  have r10 := W.n10
  obtain ⟨r, hlt, rfl⟩ := ride_of r10 hP.1
  refine r_aload_n (q := 1) (z := 0) C 0 rfl (by decide +kernel) rfl rfl ?_
  refine r_iload_n (q := 2) (z := 1) C 1 rfl (by decide +kernel) rfl rfl ?_
  refine cV1R (q := 5) C R rfl (by decide +kernel) lk_X6_118 (c_X6_find hL R0 r10) (by decide) (by decide) (by decide) rfl (by first | exact Nat.le_of_ble_eq_true rfl | (simp only [List.map_cons, List.map_nil, List.sum_cons, List.sum_nil, rv_cat]; exact Nat.le_of_ble_eq_true rfl)) rfl hL.kf ?_
  rintro _ _ ⟨rfl, rfl⟩
  refine wX_k0 C (fun hk0 => ?_)
  refine r_astore_n (q := 6) (z := 3) C 3 rfl (by decide +kernel) rfl (by decide) (by first | rfl | exact okst_rv rfl) ?_
  dsimp only [List.set]
  refine r_aload_n (q := 7) (z := 3) C 3 rfl (by decide +kernel) rfl rfl ?_
  refine r_ifnonnull (q := 10) (off := 13) (tgt := 20) C rfl (by decide +kernel) (by decide) (fun c7 => ?_) (fun c7 => ?_)
  · rw [rdA_in r10 hlt]
    refine r_iload_n (q := 21) (z := 2) C 2 rfl (by decide +kernel) rfl rfl ?_
    rcases w_6 hP.2 with rfl | rfl | rfl | rfl | rfl | rfl
    · refine r_tableIn (dflt := 116) (lo := 0) (hi := 5) (offs := #[39, 52, 71, 101, 106, 111]) (len := 39) (off := 39) (tgt := 60) C (by decide +kernel) (by decide) (by decide) (by decide) (by decide) ?_
      refine r_aload_n (q := 61) (z := 3) C 3 rfl (by decide +kernel) rfl rfl ?_
      refine r_getI (q := 64) C 3 7 199 rfl (by decide +kernel) rfl (by decide) rfl rfl wf_X6_122 win3 (hL.kp hlt) ?_
      rw [R0.lie hlt]
      refine r_if_eq (q := 67) (off := 7) (tgt := 71) C rfl (by decide +kernel) (by decide) (fun c64 => ?_) (fun c64 => ?_)
      · have hl : ¬ σ.li r < 240 := of_decide_eq_false ((b2i_0 _).mp c64)
        refine r_iconst (q := 72) (z := 0) (v := 0) C rfl (by decide +kernel) (by decide) ?_
        exact r_iret C (by decide +kernel) rfl (by decide) (by decide) (eqP hPP ⟨_, rfl, (by first | exact ⟨by rw [nI_clamp (by omega)]; unfold lookV; rw [if_pos rfl, if_pos hl], rfl⟩ | exact ⟨by rw [nI_clamp (by omega)]; unfold lookV; rw [if_pos rfl, if_neg hl], rfl⟩)⟩)
      · have hl : σ.li r < 240 := of_decide_eq_true ((b2i_n0 _).mp c64)
        refine r_iconst (q := 68) (z := 1) (v := 1) C rfl (by decide +kernel) (by decide) ?_
        refine r_goto (off := 4) (tgt := 72) C (by decide +kernel) (by decide) ?_
        exact r_iret C (by decide +kernel) rfl (by decide) (by decide) (eqP hPP ⟨_, rfl, (by first | exact ⟨by rw [nI_clamp (by omega)]; unfold lookV; rw [if_pos rfl, if_pos hl], rfl⟩ | exact ⟨by rw [nI_clamp (by omega)]; unfold lookV; rw [if_pos rfl, if_neg hl], rfl⟩)⟩)
    · refine r_tableIn (dflt := 116) (lo := 0) (hi := 5) (offs := #[39, 52, 71, 101, 106, 111]) (len := 39) (off := 52) (tgt := 73) C (by decide +kernel) (by decide) (by decide) (by decide) (by decide) ?_
      refine r_aload_n (q := 74) (z := 3) C 3 rfl (by decide +kernel) rfl rfl ?_
      refine r_getI (q := 77) C 3 7 199 rfl (by decide +kernel) rfl (by decide) rfl rfl wf_X6_122 win3 (hL.kp hlt) ?_
      rw [R0.lie hlt]
      refine r_if_eq (q := 80) (off := 13) (tgt := 90) C rfl (by decide +kernel) (by decide) (fun c77 => ?_) (fun c77 => ?_)
      · have hl : ¬ σ.li r < 240 := of_decide_eq_false ((b2i_0 _).mp c77)
        refine r_iconst (q := 91) (z := (-1)) (v := (-1)) C rfl (by decide +kernel) (by decide) ?_
        exact r_iret C (by decide +kernel) rfl (by decide) (by decide) (eqP hPP ⟨_, rfl, (by first | exact ⟨by rw [nI_clamp (by omega)]; unfold lookV; rw [if_neg (by decide), if_pos rfl, pl_out hl], rfl⟩ | exact ⟨by rw [nI_clamp (by omega)]; unfold lookV; rw [if_neg (by decide), if_pos rfl], rfl⟩)⟩)
      · have hl : σ.li r < 240 := of_decide_eq_true ((b2i_n0 _).mp c77)
        obtain ⟨q1, q2, q3, q4, q5⟩ := R0.sp hlt hl
        refine r_aload_n (q := 81) (z := 3) C 3 rfl (by decide +kernel) rfl rfl ?_
        refine r_getR (q := 84) C 3 6 198 rfl (by decide +kernel) rfl (by decide) rfl rfl wf_X6_221 win3 (hL.kp hlt) ?_
        refine cV0I (q := 87) C R rfl (by decide +kernel) lk_X6_224 (c_X4_place (hL.ks hlt)) (by decide) (by decide) (by decide) rfl (by first | exact Nat.le_of_ble_eq_true rfl | (simp only [List.map_cons, List.map_nil, List.sum_cons, List.sum_nil, rv_cat]; exact Nat.le_of_ble_eq_true rfl)) rfl (hL.ks hlt) ?_
        rintro _ _ ⟨rfl, rfl⟩
        rw [q2, q1, q5, hold_v hl]
        refine r_goto (off := 4) (tgt := 91) C (by decide +kernel) (by decide) ?_
        exact r_iret C (by decide +kernel) rfl (by decide) (by decide) (eqP hPP ⟨_, rfl, (by first | exact ⟨by rw [nI_clamp (by omega)]; unfold lookV; rw [if_neg (by decide), if_pos rfl, pl_out hl], rfl⟩ | exact ⟨by rw [nI_clamp (by omega)]; unfold lookV; rw [if_neg (by decide), if_pos rfl], rfl⟩)⟩)
    · refine r_tableIn (dflt := 116) (lo := 0) (hi := 5) (offs := #[39, 52, 71, 101, 106, 111]) (len := 39) (off := 71) (tgt := 92) C (by decide +kernel) (by decide) (by decide) (by decide) (by decide) ?_
      refine r_aload_n (q := 93) (z := 3) C 3 rfl (by decide +kernel) rfl rfl ?_
      refine r_getI (q := 96) C 3 7 199 rfl (by decide +kernel) rfl (by decide) rfl rfl wf_X6_122 win3 (hL.kp hlt) ?_
      rw [R0.lie hlt]
      refine r_if_eq (q := 99) (off := 24) (tgt := 120) C rfl (by decide +kernel) (by decide) (fun c96 => ?_) (fun c96 => ?_)
      · have hl : ¬ σ.li r < 240 := of_decide_eq_false ((b2i_0 _).mp c96)
        refine r_iconst (q := 121) (z := (-1)) (v := (-1)) C rfl (by decide +kernel) (by decide) ?_
        exact r_iret C (by decide +kernel) rfl (by decide) (by decide) (eqP hPP ⟨_, rfl, (by first | exact ⟨by rw [nI_clamp (by omega)]; unfold lookV; rw [if_neg (by decide), if_neg (by decide), if_pos rfl, if_pos hl], rfl⟩ | exact ⟨by rw [nI_clamp (by omega)]; unfold lookV; rw [if_neg (by decide), if_neg (by decide), if_pos rfl, if_neg hl], rfl⟩)⟩)
      · have hl : σ.li r < 240 := of_decide_eq_true ((b2i_n0 _).mp c96)
        refine r_bipush (q := 101) (z := 12) (v := 12) C rfl (by decide +kernel) (by decide) ?_
        refine r_aload_n (q := 102) (z := 3) C 3 rfl (by decide +kernel) rfl rfl ?_
        refine r_getR (q := 105) C 3 6 198 rfl (by decide +kernel) rfl (by decide) rfl rfl wf_X6_221 win3 (hL.kp hlt) ?_
        refine cV0I (q := 108) C R rfl (by decide +kernel) lk_X6_227 (c_X4_doorY (hL.ks hlt)) (by decide) (by decide) (by decide) rfl (by first | exact Nat.le_of_ble_eq_true rfl | (simp only [List.map_cons, List.map_nil, List.sum_cons, List.sum_nil, rv_cat]; exact Nat.le_of_ble_eq_true rfl)) rfl (hL.ks hlt) ?_
        rintro _ _ ⟨rfl, rfl⟩
        rw [R0.dy hlt hl]
        refine r_imul (q := 109) C rfl (by decide +kernel) ?_
        rw [show (12 : Int32) = nI 12 from rfl, pk_mul]
        refine r_aload_n (q := 110) (z := 3) C 3 rfl (by decide +kernel) rfl rfl ?_
        refine r_getR (q := 113) C 3 6 198 rfl (by decide +kernel) rfl (by decide) rfl rfl wf_X6_221 win3 (hL.kp hlt) ?_
        refine cV0I (q := 116) C R rfl (by decide +kernel) lk_X6_230 (c_X4_doorX (hL.ks hlt)) (by decide) (by decide) (by decide) rfl (by first | exact Nat.le_of_ble_eq_true rfl | (simp only [List.map_cons, List.map_nil, List.sum_cons, List.sum_nil, rv_cat]; exact Nat.le_of_ble_eq_true rfl)) rfl (hL.ks hlt) ?_
        rintro _ _ ⟨rfl, rfl⟩
        rw [R0.dx W hlt hl]
        refine r_iadd (q := 117) C rfl (by decide +kernel) ?_
        rw [nI_add, ← dr_xy]
        refine r_goto (off := 4) (tgt := 121) C (by decide +kernel) (by decide) ?_
        exact r_iret C (by decide +kernel) rfl (by decide) (by decide) (eqP hPP ⟨_, rfl, (by first | exact ⟨by rw [nI_clamp (by omega)]; unfold lookV; rw [if_neg (by decide), if_neg (by decide), if_pos rfl, if_pos hl], rfl⟩ | exact ⟨by rw [nI_clamp (by omega)]; unfold lookV; rw [if_neg (by decide), if_neg (by decide), if_pos rfl, if_neg hl], rfl⟩)⟩)
    · refine r_tableIn (dflt := 116) (lo := 0) (hi := 5) (offs := #[39, 52, 71, 101, 106, 111]) (len := 39) (off := 101) (tgt := 122) C (by decide +kernel) (by decide) (by decide) (by decide) (by decide) ?_
      refine r_aload_n (q := 123) (z := 3) C 3 rfl (by decide +kernel) rfl rfl ?_
      refine r_getI (q := 126) C 3 9 201 rfl (by decide +kernel) rfl (by decide) rfl rfl wf_X6_147 win3 (hL.kp hlt) ?_
      rw [R0.rt hlt]
      exact r_iret C (by decide +kernel) rfl (by decide) (by decide) (eqP hPP ⟨_, rfl, ⟨by rw [nI_clamp (by omega)]; unfold lookV; rw [if_neg (by decide), if_neg (by decide), if_neg (by decide), if_pos rfl], rfl⟩⟩)
    · refine r_tableIn (dflt := 116) (lo := 0) (hi := 5) (offs := #[39, 52, 71, 101, 106, 111]) (len := 39) (off := 106) (tgt := 127) C (by decide +kernel) (by decide) (by decide) (by decide) (by decide) ?_
      refine r_aload_n (q := 128) (z := 3) C 3 rfl (by decide +kernel) rfl rfl ?_
      refine r_getI (q := 131) C 3 10 202 rfl (by decide +kernel) rfl (by decide) rfl rfl wf_X6_233 win3 (hL.kp hlt) ?_
      rw [R0.hd hlt]
      exact r_iret C (by decide +kernel) rfl (by decide) (by decide) (eqP hPP ⟨_, rfl, ⟨by rw [nI_clamp (by omega)]; unfold lookV; rw [if_neg (by decide), if_neg (by decide), if_neg (by decide), if_neg (by decide), if_pos rfl], rfl⟩⟩)
    · refine r_tableIn (dflt := 116) (lo := 0) (hi := 5) (offs := #[39, 52, 71, 101, 106, 111]) (len := 39) (off := 111) (tgt := 132) C (by decide +kernel) (by decide) (by decide) (by decide) (by decide) ?_
      refine r_aload_n (q := 133) (z := 3) C 3 rfl (by decide +kernel) rfl rfl ?_
      refine r_getI (q := 136) C 3 11 203 rfl (by decide +kernel) rfl (by decide) rfl rfl wf_X6_162 win3 (hL.kp hlt) ?_
      rw [R0.ms hlt]
      exact r_iret C (by decide +kernel) rfl (by decide) (by decide) (eqP hPP ⟨_, rfl, ⟨by rw [nI_clamp (by omega)]; unfold lookV; rw [if_neg (by decide), if_neg (by decide), if_neg (by decide), if_neg (by decide), if_neg (by decide)], rfl⟩⟩)
  · exact absurd hP.1 ((rdA_0 hL hk0 r10).mp c7)
