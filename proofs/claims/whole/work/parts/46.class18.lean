theorem li_id1 (σ : SG) (a : Nat → Nat) : (σ.ms_ a).li_ σ.li = σ.ms_ a := rfl
theorem li_id4 (σ : SG) (a b c d : Nat → Nat) : ((((σ.ms_ a).rt_ b).hd_ c).ms_ d).li_ σ.li = (((σ.ms_ a).rt_ b).hd_ c).ms_ d := by
  have e : ((((σ.ms_ a).rt_ b).hd_ c).ms_ d).li = σ.li := by rw [gs_li_ms, gs_li_hd, gs_li_rt, gs_li_ms]
  have z := li_id ((((σ.ms_ a).rt_ b).hd_ c).ms_ d)
  rw [e] at z
  exact z
theorem CRc.uhd {σ : SG} {h : HP} {g : Nat} {v : Nat → Nat} (R : CRc σ h g) : CRc (σ.hd_ v) h g := R.cg rfl rfl rfl (fun _ _ => rfl)
theorem CRc.ums {σ : SG} {h : HP} {g : Nat} {v : Nat → Nat} (R : CRc σ h g) : CRc (σ.ms_ v) h g := R.cg rfl rfl rfl (fun _ _ => rfl)
theorem CRc.urt {σ : SG} {h : HP} {g : Nat} {v : Nat → Nat} (R : CRc σ h g) : CRc (σ.rt_ v) h g := R.cg rfl rfl rfl (fun _ _ => rfl)
theorem CRc.usk {σ : SG} {h : HP} {g : Nat} {v : Nat → Bool} (R : CRc σ h g) : CRc (σ.sk_ v) h g := R.cg rfl rfl rfl (fun _ _ => rfl)
theorem CRc.uyr {σ : SG} {h : HP} {g : Nat} {v : Nat} (R : CRc σ h g) : CRc (σ.yr_ v) h g := R.cg rfl rfl rfl (fun _ _ => rfl)
theorem CRc.sI {σ : SG} {h : HP} {g f a : Nat} {v : Int32} (R : CRc σ h g) : CRc σ (h.setI f a v) g := R
theorem JN.sk {σ : SG} {v : Nat → Bool} (J : JN σ) : JN (σ.sk_ v) := J
theorem end_a {h : HP} {g k : Nat} {σ : SG} {p : Nat → Nat} {L : List Nat} (lw : LW) (hL : LCl h.kd h.gl h.fr h.ar g σ.n p L) (R : CRr σ h.fi h.fr g p) (Rc : CRc σ h g) (hk : k < σ.n) (hl : σ.li k < 240) : CRr (end1 lw σ k) (((h.setI 202 (p k) (nI (σ.hd k + 1))).setI 203 (p k) 0).setI 201 (p k) (pl (σ.li k))).fi h.fr g p ∧ CRc (end1 lw σ k) (((h.setI 202 (p k) (nI (σ.hd k + 1))).setI 203 (p k) 0).setI 201 (p k) (pl (σ.li k))) g := by
  rw [end1_y hl]
  have x1 := CRr.uhd (σ.hd k + 1) hL R hk
  have x2 := CRr.ums 0 (h := h.setI 202 (p k) (nI (σ.hd k + 1))) (σ := σ.hd_ (upN σ.hd k (σ.hd k + 1))) (L := L) (r := k) hL x1 hk
  rw [gs_ms_hd] at x2
  have x3 := CRr.urt (σ.li k) (h := (h.setI 202 (p k) (nI (σ.hd k + 1))).setI 203 (p k) (nI 0)) (σ := (σ.hd_ (upN σ.hd k (σ.hd k + 1))).ms_ (upN σ.ms k 0)) (L := L) (r := k) hL x2 hk
  rw [gs_rt_ms, gs_rt_hd] at x3
  exact ⟨x3, Rc.uhd.ums.urt.sI.sI.sI⟩
theorem end_b {h : HP} {g k : Nat} {σ : SG} {p : Nat → Nat} {L : List Nat} (hL : LCl h.kd h.gl h.fr h.ar g σ.n p L) (R : CRr σ h.fi h.fr g p) (Rc : CRc σ h g) (hk : k < σ.n) : CRr (((σ.rt_ (upN σ.rt k 240)).hd_ (upN σ.hd k 0)).ms_ (upN σ.ms k 0)) (((h.setI 201 (p k) (-1)).setI 202 (p k) 0).setI 203 (p k) 0).fi h.fr g p ∧ CRc (((σ.rt_ (upN σ.rt k 240)).hd_ (upN σ.hd k 0)).ms_ (upN σ.ms k 0)) (((h.setI 201 (p k) (-1)).setI 202 (p k) 0).setI 203 (p k) 0) g := by
  have x1 := CRr.urt 240 hL R hk
  have x2 := CRr.uhd 0 (h := h.setI 201 (p k) (pl 240)) (σ := σ.rt_ (upN σ.rt k 240)) (L := L) (r := k) hL x1 hk
  rw [gs_hd_rt] at x2
  have x3 := CRr.ums 0 (h := (h.setI 201 (p k) (pl 240)).setI 202 (p k) (nI 0)) (σ := (σ.rt_ (upN σ.rt k 240)).hd_ (upN σ.hd k 0)) (L := L) (r := k) hL x2 hk
  rw [gs_ms_hd, gs_ms_rt] at x3
  exact ⟨x3, Rc.urt.uhd.ums.sI.sI.sI⟩
set_option maxHeartbeats 4000000 in
theorem c_X6_end {G : GT} {h : HP} {g : Nat} {σ : SG} {p : Nat → Nat} {L : List Nat} {lw : LW} (hL : LCl h.kd h.gl h.fr h.ar g σ.n p L) (R0 : CRr σ h.fi h.fr g p) (Rc : CRc σ h g) (W : WF σ) (J : JN σ) (Q : CLw lw h g) : Con G 5 0 0 yX6_end cX6_end 4 (some .int) [rv g] h (PI (fun v h' => nI (gonN lw σ σ.n) = v ∧ CRr (endS lw σ) h'.fi h'.fr g p ∧ CRc (endS lw σ) h' g ∧ CLw lw h' g ∧ Fm [1, 394, 168, 268] [199, 200, 201, 202, 203, 388] h h')) := by
  refine Con.of (lv := [some (rv g), none, none, none]) (by decide) (by simp only [lvE_r, lvE_i, lvE_l, lvE_s, lvE_0]; rfl) (by simp only [lgl_r, lgl_i, lgl_l, lgl_s, lgl_0]; decide) (fun Γ C R => ?_)
  generalize hPP : (PI (fun v h' => nI (gonN lw σ σ.n) = v ∧ CRr (endS lw σ) h'.fi h'.fr g p ∧ CRc (endS lw σ) h' g ∧ CLw lw h' g ∧ Fm [1, 394, 168, 268] [199, 200, 201, 202, 203, 388] h h')) = PP
  have r10 := W.n10
  have hL0 := hL
  refine r_iconst (q := 1) (z := 0) (v := 0) C rfl (by decide +kernel) (by decide) ?_
  refine r_istore_n (q := 2) (z := 1) C 1 rfl (by decide +kernel) rfl (by decide) (by first | rfl | exact okst_rv rfl) ?_
  dsimp only [List.set]
  refine r_iconst (q := 3) (z := 0) (v := 0) C rfl (by decide +kernel) (by decide) ?_
  refine r_istore_n (q := 4) (z := 2) C 2 rfl (by decide +kernel) rfl (by decide) (by first | rfl | exact okst_rv rfl) ?_
  dsimp only [List.set]
  have L4 : ∀ (fuel4 : Nat) (h2 : HP) (τ : SG) (k : Nat), σ.n - k < fuel4 → (Fm [1, 394, 168, 268] [199, 200, 201, 202, 203, 388] h h2) → (CRr τ h2.fi h2.fr g p) → (CRc τ h2 g) → (WF τ) → (JN τ) → (τ = clrN (endN lw σ k) k) → (k ≤ σ.n) → wX G Γ (qM G Γ PP 0 0) 0 0 (h2) 4 [some (rv g), some (.int (nI (gonN lw σ k))), some (.int (nI k)), none] [] := by
    intro fuel4
    induction fuel4 with
    | zero =>
      intro h2 τ k hm4
      exact absurd hm4 (Nat.not_lt_zero _)
    | succ fuel4 ih4 =>
      intro h2 τ k hm4 F2 R2 Rc2 W2 J2 hτ hk
      have hL : LCl h2.kd h2.gl h2.fr h2.ar g σ.n p L := LCl.fm F2 hL0
      have en : τ.n = σ.n := by rw [hτ, clr_n]; exact (endN_n lw σ k).1
      have ey : τ.yr = σ.yr := by rw [hτ, clr_yr]; exact (endN_n lw σ k).2.2.1
      obtain ⟨τ1, h1⟩ : ∃ τ1, τ1 = end1 lw τ k := ⟨_, rfl⟩
      have g1 : τ1.li = τ.li := by rw [h1]; exact (end1_li lw τ k).1
      have g2 : τ1.sk = τ.sk := by rw [h1]; exact (end1_li lw τ k).2.1
      have g3 : τ1.n = τ.n := by rw [h1]; exact (end1_li lw τ k).2.2.1
      have st : (τ1.li_ (upN τ.li k 240)).sk_ (upN τ.sk k false) = clrN (endN lw σ (k + 1)) (k + 1) := by rw [h1]; exact end_step hτ
      have hLt : LCl h2.kd h2.gl h2.fr h2.ar g τ.n p L := by rw [en]; exact hL
      refine r_iload_n (q := 5) (z := 2) C 2 rfl (by decide +kernel) rfl rfl ?_
      refine r_aload_n (q := 6) (z := 0) C 0 rfl (by decide +kernel) rfl rfl ?_
      refine r_getI (q := 9) C 6 3 387 rfl (by decide +kernel) rfl (by decide) rfl rfl wf_X6_25 win6 hL.kf ?_
      rw [R2.1, en]
      refine r_icmp_ge (q := 12) (off := 73) (tgt := 82) C rfl (by decide +kernel) (by decide) (fun c9 => ?_) (fun c9 => ?_)
      · have ek : k = σ.n := by have := (nI_leI (by omega) (by omega)).mp c9; omega
        subst ek
        refine r_aload_n (q := 83) (z := 0) C 0 rfl (by decide +kernel) rfl rfl ?_
        refine r_dup (q := 84) C rfl (by decide +kernel) (by first | rfl | exact rv_cat _) ?_
        refine r_getI (q := 87) C 6 4 388 rfl (by decide +kernel) rfl (by decide) rfl rfl wf_X6_29 win6 hL.kf ?_
        rw [R2.2.1, ey]
        refine r_iconst (q := 88) (z := 1) (v := 1) C rfl (by decide +kernel) (by decide) ?_
        refine r_iadd (q := 89) C rfl (by decide +kernel) ?_
        rw [nI_1]
        refine r_putI (q := 92) C 6 4 388 rfl (by decide +kernel) rfl (by decide) rfl rfl wf_X6_29 win6 tyX6 tyX6_ok nmX6 rfl (tyX6_ok 4 (by decide)) rfl wnd6 rfl rfl hL.kf ?_
        refine r_iload_n (q := 93) (z := 1) C 1 rfl (by decide +kernel) rfl rfl ?_
        exact r_iret C (by decide +kernel) rfl (by decide) (by decide) (eqP hPP ⟨_, rfl, ⟨rfl, (by rw [endS_eq, ← hτ]; exact CRr.uyr hLt R2), (by rw [endS_eq, ← hτ]; exact Rc2.uyr.sI), CLw.setI (by decide) (Q.fm F2 hL0 (by decide) (by decide)), F2.setI (by decide)⟩⟩)
      · have hlt : k < σ.n := Nat.lt_of_not_le (fun e => c9 (nI_le e (by omega)))
        have hkt : k < τ.n := by omega
        refine r_aload_n (q := 13) (z := 0) C 0 rfl (by decide +kernel) rfl rfl ?_
        refine r_getR (q := 16) C 6 1 385 rfl (by decide +kernel) rfl (by decide) rfl rfl wf_X6_18 win6 hL.kf ?_
        refine r_iload_n (q := 17) (z := 2) C 2 rfl (by decide +kernel) rfl rfl ?_
        refine r_aald (q := 18) C rfl (by decide +kernel) hL.k385 (vp_in_nI (by omega) (by decide)) ?_
        rw [nI_clamp (by omega), hL.ap hlt]
        refine r_astore_n (q := 19) (z := 3) C 3 rfl (by decide +kernel) rfl (by decide) (by first | rfl | exact okst_rv rfl) ?_
        dsimp only [List.set]
        have J71 : ∀ (h3 : HP) (v : Int32), (Fm [1, 394, 168, 268] [199, 200, 201, 202, 203, 388] h h3) → (CRr (τ1.li_ (upN τ.li k 240)) h3.fi h3.fr g p) → (CRc (τ1.li_ (upN τ.li k 240)) h3 g) → (v = nI (gonN lw σ (k + 1))) → wX G Γ (qM G Γ PP 0 0) 0 0 (h3) 71 [some (rv g), some (.int v), some (.int (nI k)), some (rv (p k))] [] := by
          intro h3 v F3 R3 Rc3 hv
          subst hv
          have hL : LCl h3.kd h3.gl h3.fr h3.ar g σ.n p L := LCl.fm F3 hL0
          refine r_aload_n (q := 72) (z := 3) C 3 rfl (by decide +kernel) rfl rfl ?_
          refine r_iconst (q := 73) (z := 0) (v := b2i false) C rfl (by decide +kernel) (by decide) ?_
          refine r_putI (q := 76) C 3 8 200 rfl (by decide +kernel) rfl (by decide) rfl rfl wf_X6_156 win3 tyX3 tyX3_ok nmX3 rfl (tyX3_ok 8 (by decide)) rfl wnd3 (by first | rfl | exact b2i_nar _) (by first | rfl | exact b2i_fit _) (hL.kp hlt) ?_
          have e3 : (τ1.li_ (upN τ.li k 240)).n = σ.n := by rw [gs_n_li, g3, en]
          have R4 := CRr.usk false (r := k) (by rw [e3]; exact hL) R3 (by rw [e3]; exact hlt)
          rw [gs_sk_li, g2, st] at R4
          have Rc4 : CRc (clrN (endN lw σ (k + 1)) (k + 1)) (h3.setI 200 (p k) (b2i false)) g := by rw [← st]; exact Rc3.usk.sI
          have F4 : Fm [1, 394, 168, 268] [199, 200, 201, 202, 203, 388] h (h3.setI 200 (p k) (b2i false)) := F3.setI (by decide)
          have J4 : JN (clrN (endN lw σ (k + 1)) (k + 1)) := by
            rw [← st]
            have z0 : JN τ1 := by rw [h1]; exact JN_end1 J2 lw k
            have z := z0.take (r := k)
            rw [g1] at z
            exact JN.sk z
          refine r_iinc (q := 79) (z := 1) (v := 1) C 2 rfl (by decide +kernel) rfl (by decide) (by decide) (by first | rfl | exact okst_rv rfl) ?_
          dsimp only [List.set]
          rw [nI_1]
          refine r_goto (off := -75) (tgt := 4) C (by decide +kernel) (by decide) ?_
          exact wX.sub (lsub_s (lsub_s (lsub_s (lsub_n (lsub_nil))))) (ih4 _ (clrN (endN lw σ (k + 1)) (k + 1)) (k + 1) (by omega) F4 R4 Rc4 (WF.clr (WF_endN W lw (k + 1) (by omega)) (k + 1) (by rw [(endN_n lw σ (k + 1)).1]; omega)) J4 rfl (by omega))
        refine r_aload_n (q := 20) (z := 3) C 3 rfl (by decide +kernel) rfl rfl ?_
        refine r_getI (q := 23) C 3 7 199 rfl (by decide +kernel) rfl (by decide) rfl rfl wf_X6_122 win3 (hL.kp hlt) ?_
        rw [R2.lie hkt]
        refine r_if_eq (q := 26) (off := 15) (tgt := 38) C rfl (by decide +kernel) (by decide) (fun c23 => ?_) (fun c23 => ?_)
        · have hl : ¬ τ.li k < 240 := of_decide_eq_false ((b2i_0 _).mp c23)
          have hl4 : τ.li k = 240 := by have := (W2.2.2.2.1 k (by omega)).1; omega
          refine r_aload_n (q := 39) (z := 3) C 3 rfl (by decide +kernel) rfl rfl ?_
          refine r_getI (q := 42) C 3 9 201 rfl (by decide +kernel) rfl (by decide) rfl rfl wf_X6_147 win3 (hL.kp hlt) ?_
          rw [R2.rt hkt]
          refine r_iconst (q := 43) (z := (-1)) (v := (-1)) C rfl (by decide +kernel) (by decide) ?_
          refine r_icmp_eq (q := 46) (off := 28) (tgt := 71) C rfl (by decide +kernel) (by decide) (fun c43 => ?_) (fun c43 => ?_)
          · have hrt : ¬ τ.rt k < 240 := pl_m1.mp c43
            have hgo : gon lw τ k = false := by unfold gon; rw [decide_eq_false hrt, Bool.false_and, Bool.and_false]
            have hz0 : (τ1.li_ (upN τ.li k 240)) = τ := by rw [h1, end1_0 hl hrt, upN_id hl4, li_id]
            exact J71 h2 _ F2 (by rw [hz0]; exact R2) (by rw [hz0]; exact Rc2) (by rw [gonN_s hτ, hgo]; rfl)
          · have hrt : τ.rt k < 240 := Classical.not_not.mp (fun e => c43 (pl_m1.mpr e))
            refine r_aload_n (q := 47) (z := 3) C 3 rfl (by decide +kernel) rfl rfl ?_
            refine r_dup (q := 48) C rfl (by decide +kernel) (by first | rfl | exact rv_cat _) ?_
            refine r_getI (q := 51) C 3 11 203 rfl (by decide +kernel) rfl (by decide) rfl rfl wf_X6_162 win3 (hL.kp hlt) ?_
            rw [R2.ms hkt]
            refine r_iconst (q := 52) (z := 1) (v := 1) C rfl (by decide +kernel) (by decide) ?_
            refine r_iadd (q := 53) C rfl (by decide +kernel) ?_
            rw [nI_1]
            refine r_putI (q := 56) C 3 11 203 rfl (by decide +kernel) rfl (by decide) rfl rfl wf_X6_162 win3 tyX3 tyX3_ok nmX3 rfl (tyX3_ok 11 (by decide)) rfl wnd3 rfl rfl (hL.kp hlt) ?_
            have R53 := CRr.ums (τ.ms k + 1) hLt R2 hkt
            refine r_aload_n (q := 57) (z := 0) C 0 rfl (by decide +kernel) rfl rfl ?_
            refine r_aload_n (q := 58) (z := 3) C 3 rfl (by decide +kernel) rfl rfl ?_
            refine cV1I (q := 61) C R rfl (by decide +kernel) lk_X6_165 (c_X6_keepsRight (σ := τ.ms_ (upN τ.ms k (τ.ms k + 1))) (L := L) (lw := lw) hLt R53 hkt (CLw.setI (by decide) (Q.fm F2 hL0 (by decide) (by decide)))) (by decide) (by decide) (by decide) rfl (by first | exact Nat.le_of_ble_eq_true rfl | (simp only [List.map_cons, List.map_nil, List.sum_cons, List.sum_nil, rv_cat]; exact Nat.le_of_ble_eq_true rfl)) rfl hL.kf ?_
            rintro _ h58 ⟨rfl, F58⟩
            have F58t : Fm [1, 394, 168, 268] [199, 200, 201, 202, 203, 388] h h58 := (F2.setI (by decide)).tr (F58.mono (by decide) (by decide))
            have R58 := CRr.fm (σ := τ.ms_ (upN τ.ms k (τ.ms k + 1))) F58 (L := L) hLt (fun x hx => by cases hx) R53
            have Rc53 : CRc (τ.ms_ (upN τ.ms k (τ.ms k + 1))) (h2.setI 203 (p k) (nI (τ.ms k + 1))) g := Rc2.ums.sI
            have Rc58 := CRc.fm F58 (L := L) hLt (by decide) Rc53
            refine r_if_ne (q := 64) (off := 10) (tgt := 71) C rfl (by decide +kernel) (by decide) (fun c61 => ?_) (fun c61 => ?_)
            · have hlp : lps lw τ k = false := by
                have := b2i_tt.mp c61
                show lapV (knw (τ.ms_ (upN τ.ms k (τ.ms k + 1))) k) lw = false
                cases e : lapV (knw (τ.ms_ (upN τ.ms k (τ.ms k + 1))) k) lw with
                | false => rfl
                | true => rw [e] at this; cases this
              have hz1 : (τ1.li_ (upN τ.li k 240)) = τ.ms_ (upN τ.ms k (τ.ms k + 1)) := by rw [h1, end1_k hl hrt hlp, upN_id hl4]; exact li_id1 τ _
              have hgo : gon lw τ k = false := by unfold gon; rw [hlp, Bool.and_false, Bool.and_false]
              exact J71 h58 _ F58t (by rw [hz1]; exact R58) (by rw [hz1]; exact Rc58) (by rw [gonN_s hτ, hgo]; rfl)
            · have hlp : lps lw τ k = true := by
                have := (b2i_0 _).mp c61
                show lapV (knw (τ.ms_ (upN τ.ms k (τ.ms k + 1))) k) lw = true
                cases e : lapV (knw (τ.ms_ (upN τ.ms k (τ.ms k + 1))) k) lw with
                | true => rfl
                | false => rw [e] at this; cases this
              have hz2 : (τ1.li_ (upN τ.li k 240)) = ((((τ.ms_ (upN τ.ms k (τ.ms k + 1))).rt_ (upN τ.rt k 240)).hd_ (upN τ.hd k 0)).ms_ (upN (upN τ.ms k (τ.ms k + 1)) k 0)) := by rw [h1, end1_l hl hrt hlp, upN_id hl4]; exact li_id4 τ _ _ _ _
              have hgo : gon lw τ k = true := by unfold gon; rw [hlp, decide_eq_true hl, decide_eq_true hrt]; rfl
              have hL58 : LCl h58.kd h58.gl h58.fr h58.ar g τ.n p L := by rw [en]; exact LCl.fm F58t hL0
              refine r_aload_n (q := 65) (z := 3) C 3 rfl (by decide +kernel) rfl rfl ?_
              refine cV0V (q := 68) C R rfl (by decide +kernel) lk_X6_168 (c_X3_loseRight (hL58.kp hkt)) (by decide) (by decide) (by decide) rfl (by first | exact Nat.le_of_ble_eq_true rfl | (simp only [List.map_cons, List.map_nil, List.sum_cons, List.sum_nil, rv_cat]; exact Nat.le_of_ble_eq_true rfl)) rfl (hL58.kp hkt) ?_
              rintro _ rfl
              obtain ⟨R65, Rc65⟩ := end_b (σ := τ.ms_ (upN τ.ms k (τ.ms k + 1))) (L := L) hL58 R58 Rc58 hkt
              rw [gs_rt_ms, gs_hd_ms, gs_ms_ms] at R65 Rc65
              have F65 : Fm [1, 394, 168, 268] [199, 200, 201, 202, 203, 388] h (((h58.setI 201 (p k) (-1)).setI 202 (p k) 0).setI 203 (p k) 0) := ((F58t.setI (by decide)).setI (by decide)).setI (by decide)
              refine r_iinc (q := 71) (z := 1) (v := 1) C 1 rfl (by decide +kernel) rfl (by decide) (by decide) (by first | rfl | exact okst_rv rfl) ?_
              dsimp only [List.set]
              rw [nI_1]
              exact J71 _ _ F65 (by rw [hz2]; exact R65) (by rw [hz2]; exact Rc65) (by rw [gonN_s hτ, hgo]; rfl)
        · have hl : τ.li k < 240 := of_decide_eq_true ((b2i_n0 _).mp c23)
          obtain ⟨q1, q2, q3, q4, q5⟩ := R2.sp hkt hl
          have hgo : gon lw τ k = false := by unfold gon; rw [decide_eq_false (fun e => e hl)]; rfl
          refine r_aload_n (q := 27) (z := 3) C 3 rfl (by decide +kernel) rfl rfl ?_
          refine cV0V (q := 30) C R rfl (by decide +kernel) lk_X6_159 (c_X3_holdOneYearMore (hL.kp hlt) (hL.ks hlt)) (by decide) (by decide) (by decide) rfl (by first | exact Nat.le_of_ble_eq_true rfl | (simp only [List.map_cons, List.map_nil, List.sum_cons, List.sum_nil, rv_cat]; exact Nat.le_of_ble_eq_true rfl)) rfl (hL.kp hlt) ?_
          rintro _ rfl
          rw [R2.hd hkt, nI_1, q2, q1, q5, hold_v hl]
          obtain ⟨R27, Rc27⟩ : CRr τ1 (((h2.setI 202 (p k) (nI (τ.hd k + 1))).setI 203 (p k) 0).setI 201 (p k) (pl (τ.li k))).fi h2.fr g p ∧ CRc τ1 (((h2.setI 202 (p k) (nI (τ.hd k + 1))).setI 203 (p k) 0).setI 201 (p k) (pl (τ.li k))) g := by rw [h1]; exact end_a lw hLt R2 Rc2 hkt hl
          have F27 : Fm [1, 394, 168, 268] [199, 200, 201, 202, 203, 388] h (((h2.setI 202 (p k) (nI (τ.hd k + 1))).setI 203 (p k) 0).setI 201 (p k) (pl (τ.li k))) := ((F2.setI (by decide)).setI (by decide)).setI (by decide)
          refine r_aload_n (q := 31) (z := 0) C 0 rfl (by decide +kernel) rfl rfl ?_
          refine r_aload_n (q := 32) (z := 3) C 3 rfl (by decide +kernel) rfl rfl ?_
          refine cV1V (q := 35) C R rfl (by decide +kernel) lk_X6_143 (c_X6_takeAway (σ := τ1) (L := L) (by rw [g3]; exact hLt) R27 Rc27 (by rw [h1]; exact WF_end1 W2 lw hkt) (by rw [h1]; exact JN_end1 J2 lw k) (by rw [g3]; exact hkt) (by rw [g1]; exact hl)) (by decide) (by decide) (by decide) rfl (by first | exact Nat.le_of_ble_eq_true rfl | (simp only [List.map_cons, List.map_nil, List.sum_cons, List.sum_nil, rv_cat]; exact Nat.le_of_ble_eq_true rfl)) rfl hL.kf ?_
          rintro h32 ⟨R32, Rc32, F32⟩
          rw [g1] at R32 Rc32
          have F9 : Fm [1, 394, 168, 268] [199, 200, 201, 202, 203, 388] h h32 := F27.tr (F32.mono (by decide) (by decide))
          refine r_goto (off := 36) (tgt := 71) C (by decide +kernel) (by decide) ?_
          exact J71 h32 _ F9 R32 Rc32 (by rw [gonN_s hτ, hgo]; rfl)
  exact wX.sub (lsub_s (lsub_s (lsub_s (lsub_n (lsub_nil))))) (L4 (σ.n + 1) h σ 0 (by omega) Fm.rf R0 Rc W J (clr_0 σ).symm (by omega))
