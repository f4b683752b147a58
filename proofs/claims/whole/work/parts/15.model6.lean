theorem eqP {P PP : Option Value → HP → Prop} (e : P = PP) {v : Option Value} {h : HP} (hp : P v h) : PP v h := e ▸ hp
theorem Fl.scr486 {h : HP} {m : Nat} {f : Nat → Int32} {rb : Nat → Bool} (hf : Fl f rb 120) : Fl ((h.row (h.fr 486 m) f).ai (h.fr 486 m)) rb 120 := by rw [ai_row_eq]; exact hf
theorem cl_self (σ : SG) : σ.cl_ σ.cl = σ := rfl
theorem m1_ne {c : Nat} (h : c < 1000) : ¬ (-1 : Int32) = nI c := fun e => by
  have := congrArg Int32.toInt e
  rw [nI_toInt (by omega)] at this
  rw [show (-1 : Int32).toInt = -1 from by decide] at this
  omega
theorem MB.be_up {be sh : Nat → Nat} {ra : Nat} {h : HP} {m k : Nat} {v : Int32} (hm : LM h.kd h.gl h.fr m) (M : MB be sh ra h m) (h1 : v = nI v.toNatClampNeg) (h2 : v.toNatClampNeg ≤ 1000) : MB (upN be k v.toNatClampNeg) sh ra (h.row (h.fr 492 m) (upd (h.ai (h.fr 492 m)) k v)) m := by
  obtain ⟨m1, m2, m3, m4⟩ := M
  refine ⟨fun j hj => ?_, ?_, m3, m4⟩
  · rw [fr_row, ai_row_eq]
    show (if j = k then v else h.ai (h.fr 492 m) j) = nI (upN be k v.toNatClampNeg j) ∧ _
    by_cases e : j = k
    · rw [if_pos e, e, upN_s]; exact ⟨h1, h2⟩
    · rw [if_neg e, upN_n e]; exact m1 j hj
  · rw [fr_row, ai_row_ne (gl_ne hm.g494 hm.g492 (by decide))]; exact m2
theorem MB.sh_up {be sh : Nat → Nat} {ra : Nat} {h : HP} {m k : Nat} {v : Int32} (hm : LM h.kd h.gl h.fr m) (M : MB be sh ra h m) (h1 : v = nI v.toNatClampNeg) (h2 : 1 ≤ v.toNatClampNeg ∧ v.toNatClampNeg ≤ 1000) : MB be (upN sh k v.toNatClampNeg) ra (h.row (h.fr 494 m) (upd (h.ai (h.fr 494 m)) k v)) m := by
  obtain ⟨m1, m2, m3, m4⟩ := M
  refine ⟨?_, fun j hj => ?_, m3, m4⟩
  · rw [fr_row, ai_row_ne (gl_ne hm.g492 hm.g494 (by decide))]; exact m1
  · rw [fr_row, ai_row_eq]
    show (if j = k then v else h.ai (h.fr 494 m) j) = nI (upN sh k v.toNatClampNeg j) ∧ _
    by_cases e : j = k
    · rw [if_pos e, e, upN_s]; exact ⟨h1, h2⟩
    · rw [if_neg e, upN_n e]; exact m2 j hj
theorem MB.ra_up {be sh : Nat → Nat} {ra : Nat} {h : HP} {m : Nat} {v : Int32} (M : MB be sh ra h m) (h1 : v = nI v.toNatClampNeg) (h2 : v.toNatClampNeg ≤ 1000) : MB be sh v.toNatClampNeg (h.setI 493 m v) m := by
  obtain ⟨m1, m2, m3, m4⟩ := M
  exact ⟨m1, m2, fi_eq.trans h1, h2⟩
theorem MB.setI {be sh : Nat → Nat} {ra : Nat} {h : HP} {m g b : Nat} {v : Int32} (M : MB be sh ra h m) (hg : g ≠ 493) : MB be sh ra (h.setI g b v) m := ⟨M.1, M.2.1, (fi_ne (Ne.symm hg)).trans M.2.2.1, M.2.2.2⟩
def beP (x p : Int32) : Prop := (0 ≤ x ∧ x ≤ 2) ∧ 0 ≤ p ∧ p ≤ 1000
def shP (x p : Int32) : Prop := (0 ≤ x ∧ x ≤ 2) ∧ 1 ≤ p ∧ p ≤ 1000
theorem nI_rng2 {x : Int32} {a b : Nat} (hb : b < 100000) (h1 : nI a ≤ x) (h2 : x ≤ nI b) (ha : a < 100000) : a ≤ x.toNatClampNeg ∧ x.toNatClampNeg ≤ b ∧ x = nI x.toNatClampNeg := by
  have e0 : ¬ x < 0 := fun e => absurd (Int32.lt_of_le_of_lt h1 e) (nI_pos (by omega))
  obtain ⟨j, hj, rfl⟩ := nI_of e0
  rw [nI_clamp hj]
  exact ⟨(nI_leI (by omega) hj).mp h1, (nI_leI hj (by omega)).mp h2, rfl⟩

theorem c_X7_close {G : GT} {h : HP} {m : Nat} {σ : SG} {x y : Int32} {yes : Bool} (hm : LM h.kd h.gl h.fr m) (M : MR σ h m) (W : WF σ) : Con G 7 0 0 yX7_close cX7_close 7 (some .boolean) [rv m, .int x, .int y, .int (b2i yes)] h (PI (fun v h' => cif (clP σ x y yes) 1 0 = v ∧ MR (cif (clP σ x y yes) (σ.cl_ (upN σ.cl (12 * y + x).toNatClampNeg yes)) σ) h' m ∧ Fm [484, 486, 487] [448] h h')) := by
  refine Con.of (lv := [some (rv m), some (.int x), some (.int y), some (.int (b2i yes)), none, none, none]) (by decide) (by simp only [lvE_r, lvE_i, lvE_l, lvE_s, lvE_0]; rfl) (by simp only [lgl_r, lgl_i, lgl_l, lgl_s, lgl_0]; decide) (fun Γ C R => ?_)
  generalize hPP : (PI (fun v h' => cif (clP σ x y yes) 1 0 = v ∧ MR (cif (clP σ x y yes) (σ.cl_ (upN σ.cl (12 * y + x).toNatClampNeg yes)) σ) h' m ∧ Fm [484, 486, 487] [448] h h')) = PP
  have r10 := W.n10
  have M1 : MR σ (h.setI 448 m 0) m := M.setI (by decide) (by decide) (by decide)
  have g10 := W.gr10
  refine r_aload_n (q := 1) (z := 0) C 0 rfl (by decide +kernel) rfl rfl ?_
  refine r_iconst (q := 2) (z := 0) (v := 0) C rfl (by decide +kernel) (by decide) ?_
  refine r_putI (q := 5) C 7 0 448 rfl (by decide +kernel) rfl (by decide) rfl rfl wf_X7_1 win7 tyX7 tyX7_ok nmX7 rfl (tyX7_ok 0 (by decide)) rfl wnd7 rfl rfl hm.1 ?_
  refine r_iload_n (q := 6) (z := 1) C 1 rfl (by decide +kernel) rfl rfl ?_
  refine r_iload_n (q := 7) (z := 2) C 2 rfl (by decide +kernel) rfl rfl ?_
  refine cS2I (q := 10) C R rfl (by decide +kernel) lk_X7_295 (c_X7_isCell ) (by decide) (by decide) (by decide) rfl (by first | exact Nat.le_of_ble_eq_true rfl | (simp only [List.map_cons, List.map_nil, List.sum_cons, List.sum_nil, rv_cat]; exact Nat.le_of_ble_eq_true rfl))  ?_
  rintro _ _ ⟨rfl, rfl⟩
  refine r_if_ne (q := 13) (off := 5) (tgt := 15) C rfl (by decide +kernel) (by decide) (fun c10 => ?_) (fun c10 => ?_)
  · have c10 := (b2i_n0 _).mp c10
    obtain ⟨c, hc0, hcl⟩ := cAt_of c10
    have h120 := hc0.2.2
    refine r_bipush (q := 17) (z := 12) (v := 12) C rfl (by decide +kernel) (by decide) ?_
    refine r_iload_n (q := 18) (z := 2) C 2 rfl (by decide +kernel) rfl rfl ?_
    refine r_imul (q := 19) C rfl (by decide +kernel) ?_
    refine r_iload_n (q := 20) (z := 1) C 1 rfl (by decide +kernel) rfl rfl ?_
    refine r_iadd (q := 21) C rfl (by decide +kernel) ?_
    rw [hc0.2.1]
    refine r_istore (q := 23) C 4 rfl (by decide +kernel) (by decide) (by first | rfl | exact okst_rv rfl) ?_
    dsimp only [List.set]
    have L51 : ∀ (fuel51 : Nat) (k : Nat) (t : Bool), σ.n - k < fuel51 → (k ≤ σ.n) → (t = true ↔ anyb (fun r => σ.cv r c) σ.n = true ∨ c = 12 * σ.gr ∨ ∃ r, r < k ∧ σ.li r < 240 ∧ σ.dr r = c) → wX G Γ (qM G Γ PP 0 0) 0 0 (h.setI 448 m 0) 51 [some (rv m), some (.int x), some (.int y), some (.int (b2i yes)), some (.int (nI c)), some (.int (b2i t)), some (.int (nI k))] [] := by
      intro fuel51
      induction fuel51 with
      | zero =>
        intro k t hm51
        exact absurd hm51 (Nat.not_lt_zero _)
      | succ fuel51 ih51 =>
        intro k t hm51 hk ht
        refine r_iload (q := 53) C 6 rfl (by decide +kernel) rfl ?_
        refine r_aload_n (q := 54) (z := 0) C 0 rfl (by decide +kernel) rfl rfl ?_
        refine r_getI (q := 57) C 7 24 472 rfl (by decide +kernel) rfl (by decide) rfl rfl wf_X7_243 win7 hm.1 ?_
        rw [M1.fn]
        refine r_icmp_ge (q := 60) (off := 32) (tgt := 89) C rfl (by decide +kernel) (by decide) (fun c57 => ?_) (fun c57 => ?_)
        · have ek : k = σ.n := by have := (nI_leI (by omega) (by omega)).mp c57; omega
          subst ek
          refine r_iload (q := 91) C 5 rfl (by decide +kernel) rfl ?_
          refine r_if_eq (q := 94) (off := 5) (tgt := 96) C rfl (by decide +kernel) (by decide) (fun c91 => ?_) (fun c91 => ?_)
          · have hbad : ¬ σ.bad c := fun e => by have := ht.mpr e; rw [(b2i_0 _).mp c91] at this; cases this
            refine r_iload_n (q := 97) (z := 3) C 3 rfl (by decide +kernel) rfl rfl ?_
            refine r_if_ne (q := 100) (off := 13) (tgt := 110) C rfl (by decide +kernel) (by decide) (fun c97 => ?_) (fun c97 => ?_)
            · have hyes : yes = true := (b2i_n0 _).mp c97
              refine r_aload_n (q := 111) (z := 0) C 0 rfl (by decide +kernel) rfl rfl ?_
              refine cV0V (q := 114) C R rfl (by decide +kernel) lk_X7_298 (c_X7_barsAll hm M1 W) (by decide) (by decide) (by decide) rfl (by first | exact Nat.le_of_ble_eq_true rfl | (simp only [List.map_cons, List.map_nil, List.sum_cons, List.sum_nil, rv_cat]; exact Nat.le_of_ble_eq_true rfl)) rfl hm.1 ?_
              rintro _ rfl
              refine r_aload_n (q := 115) (z := 0) C 0 rfl (by decide +kernel) rfl rfl ?_
              refine r_getR (q := 118) C 7 38 486 rfl (by decide +kernel) rfl (by decide) rfl rfl wf_X7_121 win7 hm.1 ?_
              refine r_iload (q := 120) C 4 rfl (by decide +kernel) rfl ?_
              refine r_iconst (q := 121) (z := 1) (v := 1) C rfl (by decide +kernel) (by decide) ?_
              refine r_zast (q := 122) C rfl (by decide +kernel) (show vp_nar .boolean 1 = 1 by decide) hm.k486 (vp_in_nI h120 (by decide)) ?_
              try simp only [fr_row]
              rw [row_stI, nI_clamp (by omega)]
              have hFl : Fl (upd (mix (fun c => b2i (!σ.fre c)) ((h.setI 448 m 0).ai ((h.setI 448 m 0).fr 486 m)) 120) c 1) (fun k => !σ.fre k || decide (k = c)) 120 := Fl.upd (fun k hk => mix_in hk)
              refine r_aload_n (q := 123) (z := 0) C 0 rfl (by decide +kernel) rfl rfl ?_
              refine cV0I (q := 126) C R rfl (by decide +kernel) lk_X7_301 (c_X7_areDoorsJoined (bar := fun k => !σ.fre k || decide (k = c)) hm (M1.row hm (by show h.gl (h.fr 486 m) ∉ _; rw [hm.g486]; decide)) W (Fl.scr486 (h := h.setI 448 m 0) hFl)) (by decide) (by decide) (by decide) rfl (by first | exact Nat.le_of_ble_eq_true rfl | (simp only [List.map_cons, List.map_nil, List.sum_cons, List.sum_nil, rv_cat]; exact Nat.le_of_ble_eq_true rfl)) rfl hm.1 ?_
              rintro _ _ ⟨f1, rb1, t1, rfl, rfl, hF1, hR1, ht1⟩
              simp only [fr_row, fr_setI]
              have M9 : MR σ (((h.setI 448 m 0).row (h.fr 486 m) (upd (mix (fun c => b2i (!σ.fre c)) ((h.setI 448 m 0).ai (h.fr 486 m)) 120) c 1)).row (h.fr 487 m) f1) m := MR.scr (h := h.setI 448 m 0) hm M1
              refine r_istore (q := 128) C 6 rfl (by decide +kernel) (by decide) (by first | rfl | exact okst_rv rfl) ?_
              dsimp only [List.set]
              refine r_aload_n (q := 129) (z := 0) C 0 rfl (by decide +kernel) rfl rfl ?_
              refine r_getR (q := 132) C 7 36 484 rfl (by decide +kernel) rfl (by decide) rfl rfl wf_X7_118 win7 hm.1 ?_
              refine r_iload (q := 134) C 4 rfl (by decide +kernel) rfl ?_
              refine r_aload_n (q := 135) (z := 0) C 0 rfl (by decide +kernel) rfl rfl ?_
              refine r_getR (q := 138) C 7 36 484 rfl (by decide +kernel) rfl (by decide) rfl rfl wf_X7_118 win7 hm.1 ?_
              refine r_iload (q := 140) C 4 rfl (by decide +kernel) rfl ?_
              refine r_zald (q := 141) C rfl (by decide +kernel) hm.k484 (vp_in_nI h120 (by decide)) ?_
              rw [nI_clamp (by omega), M9.acl h120]
              refine r_if_ne (q := 144) (off := 8) (tgt := 149) C rfl (by decide +kernel) (by decide) (fun c141 => ?_) (fun c141 => ?_)
              · have ev : b2i (σ.cl c || t1) = 1 := by rw [(b2i_n0 _).mp c141]; rfl
                refine r_iconst (q := 150) (z := 1) (v := b2i (σ.cl c || t1)) C rfl (by decide +kernel) (by rw [ev]; decide) ?_
                refine r_goto (off := 4) (tgt := 154) C (by decide +kernel) (by decide) ?_
                refine r_zast (q := 155) C rfl (by decide +kernel) (by first | exact b2i_vn _ | rfl) hm.k484 (vp_in_nI h120 (by decide)) ?_
                rw [stI_row, nI_clamp (by omega)]
                refine r_iload (q := 157) C 6 rfl (by decide +kernel) rfl ?_
                exact r_zret C (by decide +kernel) rfl (by first | decide | exact b2i_nar _) (by decide) (by decide) (eqP hPP ⟨_, rfl, (by
                      subst hyes
                      have hF9 : Fm [484, 486, 487] [448] h ((((h.setI 448 m 0).row (h.fr 486 m) (upd (mix (fun c => b2i (!σ.fre c)) ((h.setI 448 m 0).ai (h.fr 486 m)) 120) c 1)).row (h.fr 487 m) f1).row (h.fr 484 m) (upd ((((h.setI 448 m 0).row (h.fr 486 m) (upd (mix (fun c => b2i (!σ.fre c)) ((h.setI 448 m 0).ai (h.fr 486 m)) 120) c 1)).row (h.fr 487 m) f1).ai (h.fr 484 m)) c (b2i (σ.cl c || t1)))) := by
                        refine Fm.row (Fm.row (Fm.row (Fm.rf.setI (by decide)) ?_) ?_) ?_
                        · rw [hm.g486]; decide
                        · rw [hm.g487]; decide
                        · rw [hm.g484]; decide
                      have hM9 := MR.cl_up (h := ((h.setI 448 m 0).row _ _).row _ _) (r := c) hm M9 (p := σ.cl c || t1) rfl
                      cases t1 with
                      | true =>
                        have hy : clP σ x y true := ⟨c10, by rw [hcl]; exact hbad, fun _ => by rw [hcl]; exact fun q hq hl => (hR1 _ (W.dr hq hl)).mp (ht1.mp rfl q hq hl)⟩
                        rw [cif_t hy, cif_t hy]
                        rw [hcl]
                        rw [Bool.or_true] at hM9
                        rw [Bool.or_true] at hF9 ⊢
                        exact ⟨rfl, hM9, hF9⟩
                      | false =>
                        have hn : ¬ clP σ x y true := fun e => by have := ht1.mpr (fun q hq hl => (hR1 _ (W.dr hq hl)).mpr (by have h9 := e.2.2 rfl; rw [hcl] at h9; exact h9 q hq hl)); cases this
                        rw [cif_f hn, cif_f hn]
                        rw [Bool.or_false, upN_self] at hM9
                        rw [Bool.or_false] at hF9 ⊢
                        exact ⟨rfl, hM9, hF9⟩)⟩)
              · refine r_iload (q := 146) C 6 rfl (by decide +kernel) rfl ?_
                refine r_if_eq (q := 149) (off := 7) (tgt := 153) C rfl (by decide +kernel) (by decide) (fun c146 => ?_) (fun c146 => ?_)
                · have ev : b2i (σ.cl c || t1) = 0 := by rw [(b2i_0 _).mp c141, (b2i_0 _).mp c146]; rfl
                  refine r_iconst (q := 154) (z := 0) (v := b2i (σ.cl c || t1)) C rfl (by decide +kernel) (by rw [ev]; decide) ?_
                  refine r_zast (q := 155) C rfl (by decide +kernel) (by first | exact b2i_vn _ | rfl) hm.k484 (vp_in_nI h120 (by decide)) ?_
                  rw [stI_row, nI_clamp (by omega)]
                  refine r_iload (q := 157) C 6 rfl (by decide +kernel) rfl ?_
                  exact r_zret C (by decide +kernel) rfl (by first | decide | exact b2i_nar _) (by decide) (by decide) (eqP hPP ⟨_, rfl, (by
                        subst hyes
                        have hF9 : Fm [484, 486, 487] [448] h ((((h.setI 448 m 0).row (h.fr 486 m) (upd (mix (fun c => b2i (!σ.fre c)) ((h.setI 448 m 0).ai (h.fr 486 m)) 120) c 1)).row (h.fr 487 m) f1).row (h.fr 484 m) (upd ((((h.setI 448 m 0).row (h.fr 486 m) (upd (mix (fun c => b2i (!σ.fre c)) ((h.setI 448 m 0).ai (h.fr 486 m)) 120) c 1)).row (h.fr 487 m) f1).ai (h.fr 484 m)) c (b2i (σ.cl c || t1)))) := by
                          refine Fm.row (Fm.row (Fm.row (Fm.rf.setI (by decide)) ?_) ?_) ?_
                          · rw [hm.g486]; decide
                          · rw [hm.g487]; decide
                          · rw [hm.g484]; decide
                        have hM9 := MR.cl_up (h := ((h.setI 448 m 0).row _ _).row _ _) (r := c) hm M9 (p := σ.cl c || t1) rfl
                        cases t1 with
                        | true =>
                          have hy : clP σ x y true := ⟨c10, by rw [hcl]; exact hbad, fun _ => by rw [hcl]; exact fun q hq hl => (hR1 _ (W.dr hq hl)).mp (ht1.mp rfl q hq hl)⟩
                          rw [cif_t hy, cif_t hy]
                          rw [hcl]
                          rw [Bool.or_true] at hM9
                          rw [Bool.or_true] at hF9 ⊢
                          exact ⟨rfl, hM9, hF9⟩
                        | false =>
                          have hn : ¬ clP σ x y true := fun e => by have := ht1.mpr (fun q hq hl => (hR1 _ (W.dr hq hl)).mpr (by have h9 := e.2.2 rfl; rw [hcl] at h9; exact h9 q hq hl)); cases this
                          rw [cif_f hn, cif_f hn]
                          rw [Bool.or_false, upN_self] at hM9
                          rw [Bool.or_false] at hF9 ⊢
                          exact ⟨rfl, hM9, hF9⟩)⟩)
                · have ev : b2i (σ.cl c || t1) = 1 := by rw [(b2i_n0 _).mp c146, Bool.or_true]; rfl
                  refine r_iconst (q := 150) (z := 1) (v := b2i (σ.cl c || t1)) C rfl (by decide +kernel) (by rw [ev]; decide) ?_
                  refine r_goto (off := 4) (tgt := 154) C (by decide +kernel) (by decide) ?_
                  refine r_zast (q := 155) C rfl (by decide +kernel) (by first | exact b2i_vn _ | rfl) hm.k484 (vp_in_nI h120 (by decide)) ?_
                  rw [stI_row, nI_clamp (by omega)]
                  refine r_iload (q := 157) C 6 rfl (by decide +kernel) rfl ?_
                  exact r_zret C (by decide +kernel) rfl (by first | decide | exact b2i_nar _) (by decide) (by decide) (eqP hPP ⟨_, rfl, (by
                        subst hyes
                        have hF9 : Fm [484, 486, 487] [448] h ((((h.setI 448 m 0).row (h.fr 486 m) (upd (mix (fun c => b2i (!σ.fre c)) ((h.setI 448 m 0).ai (h.fr 486 m)) 120) c 1)).row (h.fr 487 m) f1).row (h.fr 484 m) (upd ((((h.setI 448 m 0).row (h.fr 486 m) (upd (mix (fun c => b2i (!σ.fre c)) ((h.setI 448 m 0).ai (h.fr 486 m)) 120) c 1)).row (h.fr 487 m) f1).ai (h.fr 484 m)) c (b2i (σ.cl c || t1)))) := by
                          refine Fm.row (Fm.row (Fm.row (Fm.rf.setI (by decide)) ?_) ?_) ?_
                          · rw [hm.g486]; decide
                          · rw [hm.g487]; decide
                          · rw [hm.g484]; decide
                        have hM9 := MR.cl_up (h := ((h.setI 448 m 0).row _ _).row _ _) (r := c) hm M9 (p := σ.cl c || t1) rfl
                        cases t1 with
                        | true =>
                          have hy : clP σ x y true := ⟨c10, by rw [hcl]; exact hbad, fun _ => by rw [hcl]; exact fun q hq hl => (hR1 _ (W.dr hq hl)).mp (ht1.mp rfl q hq hl)⟩
                          rw [cif_t hy, cif_t hy]
                          rw [hcl]
                          rw [Bool.or_true] at hM9
                          rw [Bool.or_true] at hF9 ⊢
                          exact ⟨rfl, hM9, hF9⟩
                        | false =>
                          have hn : ¬ clP σ x y true := fun e => by have := ht1.mpr (fun q hq hl => (hR1 _ (W.dr hq hl)).mpr (by have h9 := e.2.2 rfl; rw [hcl] at h9; exact h9 q hq hl)); cases this
                          rw [cif_f hn, cif_f hn]
                          rw [Bool.or_false, upN_self] at hM9
                          rw [Bool.or_false] at hF9 ⊢
                          exact ⟨rfl, hM9, hF9⟩)⟩)
            · have hyes : yes = false := (b2i_0 _).mp (by first | exact c97 | exact Classical.not_not.mp c97)
              refine r_aload_n (q := 101) (z := 0) C 0 rfl (by decide +kernel) rfl rfl ?_
              refine r_getR (q := 104) C 7 36 484 rfl (by decide +kernel) rfl (by decide) rfl rfl wf_X7_118 win7 hm.1 ?_
              refine r_iload (q := 106) C 4 rfl (by decide +kernel) rfl ?_
              refine r_iconst (q := 107) (z := 0) (v := 0) C rfl (by decide +kernel) (by decide) ?_
              refine r_zast (q := 108) C rfl (by decide +kernel) (show vp_nar .boolean 0 = 0 by decide) hm.k484 (vp_in_nI h120 (by decide)) ?_
              rw [stI_row, nI_clamp (by omega)]
              refine r_iconst (q := 109) (z := 1) (v := 1) C rfl (by decide +kernel) (by decide) ?_
              exact r_zret C (by decide +kernel) rfl (by first | decide | exact b2i_nar _) (by decide) (by decide) (eqP hPP ⟨_, rfl, (by
                    have hy : clP σ x y yes := ⟨c10, by rw [hcl]; exact hbad, fun e => by rw [hyes] at e; cases e⟩
                    rw [cif_t hy, cif_t hy]
                    rw [hcl]
                    subst hyes
                    exact ⟨rfl, MR.cl_up (h := h.setI 448 m 0) hm M1 rfl, Fm.row (Fm.rf.setI (by decide)) (by show h.gl (h.fr 484 m) ∈ _; rw [hm.g484]; decide)⟩)⟩)
          · have hbad : σ.bad c := ht.mp ((b2i_n0 _).mp c91)
            refine r_iconst (q := 95) (z := 0) (v := 0) C rfl (by decide +kernel) (by decide) ?_
            exact r_zret C (by decide +kernel) rfl (by first | decide | exact b2i_nar _) (by decide) (by decide) (eqP hPP ⟨_, rfl, (by
                  have hn : ¬ clP σ x y yes := fun e => e.2.1 (by rw [hcl]; exact hbad)
                  rw [cif_f hn, cif_f hn]
                  exact ⟨rfl, M1, Fm.rf.setI (by decide)⟩)⟩)
        · have hlt : k < σ.n := Nat.lt_of_not_le (fun e => c57 (nI_le e (by omega)))
          refine r_iload (q := 62) C 5 rfl (by decide +kernel) rfl ?_
          refine r_if_ne (q := 65) (off := 14) (tgt := 76) C rfl (by decide +kernel) (by decide) (fun c62 => ?_) (fun c62 => ?_)
          · have ht2 : true = true ↔ anyb (fun r => σ.cv r c) σ.n = true ∨ c = 12 * σ.gr ∨ ∃ r, r < k + 1 ∧ σ.li r < 240 ∧ σ.dr r = c := ⟨fun _ => by
              rcases ht.mp ((b2i_n0 _).mp c62) with e | e | ⟨r, e1, e2⟩
              · exact Or.inl e
              · exact Or.inr (Or.inl e)
              · exact Or.inr (Or.inr ⟨r, by omega, e2⟩), fun _ => rfl⟩
            refine r_iconst (q := 77) (z := 1) (v := b2i true) C rfl (by decide +kernel) (by decide) ?_
            refine r_goto (off := 4) (tgt := 81) C (by decide +kernel) (by decide) ?_
            refine r_istore (q := 83) C 5 rfl (by decide +kernel) (by decide) (by first | rfl | exact okst_rv rfl) ?_
            dsimp only [List.set]
            refine r_iinc (q := 86) (z := 1) (v := 1) C 6 rfl (by decide +kernel) rfl (by decide) (by decide) (by first | rfl | exact okst_rv rfl) ?_
            dsimp only [List.set]
            rw [nI_1]
            refine r_goto (off := -35) (tgt := 51) C (by decide +kernel) (by decide) ?_
            exact ih51 (k + 1) _ (by omega) (by omega) ht2
          · refine r_aload_n (q := 66) (z := 0) C 0 rfl (by decide +kernel) rfl rfl ?_
            refine r_iload (q := 68) C 6 rfl (by decide +kernel) rfl ?_
            refine cV1I (q := 71) C R rfl (by decide +kernel) lk_X7_292 (c_X7_door hm M1 W hlt) (by decide) (by decide) (by decide) rfl (by first | exact Nat.le_of_ble_eq_true rfl | (simp only [List.map_cons, List.map_nil, List.sum_cons, List.sum_nil, rv_cat]; exact Nat.le_of_ble_eq_true rfl)) rfl hm.1 ?_
            rintro _ _ ⟨rfl, rfl⟩
            refine r_iload (q := 73) C 4 rfl (by decide +kernel) rfl ?_
            refine r_icmp_ne (q := 76) (off := 7) (tgt := 80) C rfl (by decide +kernel) (by decide) (fun c73 => ?_) (fun c73 => ?_)
            · have ht2 : false = true ↔ anyb (fun r => σ.cv r c) σ.n = true ∨ c = 12 * σ.gr ∨ ∃ r, r < k + 1 ∧ σ.li r < 240 ∧ σ.dr r = c := ⟨(fun e => nomatch e), fun e => by
                rw [(b2i_0 _).mp c62] at ht
                rcases e with e | e | ⟨r, e1, e2, e3⟩
                · exact ht.mpr (Or.inl e)
                · exact ht.mpr (Or.inr (Or.inl e))
                · by_cases er : r = k
                  · subst er; rw [if_pos e2, e3] at c73; exact absurd rfl c73
                  · exact ht.mpr (Or.inr (Or.inr ⟨r, by omega, e2, e3⟩))⟩
              refine r_iconst (q := 81) (z := 0) (v := b2i false) C rfl (by decide +kernel) (by decide) ?_
              refine r_istore (q := 83) C 5 rfl (by decide +kernel) (by decide) (by first | rfl | exact okst_rv rfl) ?_
              dsimp only [List.set]
              refine r_iinc (q := 86) (z := 1) (v := 1) C 6 rfl (by decide +kernel) rfl (by decide) (by decide) (by first | rfl | exact okst_rv rfl) ?_
              dsimp only [List.set]
              rw [nI_1]
              refine r_goto (off := -35) (tgt := 51) C (by decide +kernel) (by decide) ?_
              exact ih51 (k + 1) _ (by omega) (by omega) ht2
            · have ht2 : true = true ↔ anyb (fun r => σ.cv r c) σ.n = true ∨ c = 12 * σ.gr ∨ ∃ r, r < k + 1 ∧ σ.li r < 240 ∧ σ.dr r = c := ⟨fun _ => by
                by_cases hl : σ.li k < 240
                · rw [if_pos hl] at c73
                  exact Or.inr (Or.inr ⟨k, by omega, hl, (nI_eq (by have := W.dr hlt hl; omega) (by omega)).mp c73⟩)
                · rw [if_neg hl] at c73
                  exact absurd c73 (m1_ne (by omega)), fun _ => rfl⟩
              refine r_iconst (q := 77) (z := 1) (v := b2i true) C rfl (by decide +kernel) (by decide) ?_
              refine r_goto (off := 4) (tgt := 81) C (by decide +kernel) (by decide) ?_
              refine r_istore (q := 83) C 5 rfl (by decide +kernel) (by decide) (by first | rfl | exact okst_rv rfl) ?_
              dsimp only [List.set]
              refine r_iinc (q := 86) (z := 1) (v := 1) C 6 rfl (by decide +kernel) rfl (by decide) (by decide) (by first | rfl | exact okst_rv rfl) ?_
              dsimp only [List.set]
              rw [nI_1]
              refine r_goto (off := -35) (tgt := 51) C (by decide +kernel) (by decide) ?_
              exact ih51 (k + 1) _ (by omega) (by omega) ht2
    refine r_aload_n (q := 24) (z := 0) C 0 rfl (by decide +kernel) rfl rfl ?_
    refine r_iload (q := 26) C 4 rfl (by decide +kernel) rfl ?_
    refine cV1I (q := 29) C R rfl (by decide +kernel) lk_X7_271 (c_X7_coveredBy hm M1 W (by omega)) (by decide) (by decide) (by decide) rfl (by first | exact Nat.le_of_ble_eq_true rfl | (simp only [List.map_cons, List.map_nil, List.sum_cons, List.sum_nil, rv_cat]; exact Nat.le_of_ble_eq_true rfl)) rfl hm.1 ?_
    rintro _ _ ⟨rfl, rfl⟩
    refine r_if_ge (q := 32) (off := 12) (tgt := 41) C rfl (by decide +kernel) (by decide) (fun c29 => ?_) (fun c29 => ?_)
    · have ht0 : true = true ↔ anyb (fun r => σ.cv r c) σ.n = true ∨ c = 12 * σ.gr ∨ ∃ r, r < 0 ∧ σ.li r < 240 ∧ σ.dr r = c := ⟨fun _ => Or.inl (by cases e : anyb (fun r => σ.cv r c) σ.n with | true => rfl | false => exact absurd ((covN_neg r10).mpr e) (Int32.not_lt.mpr c29)), fun _ => rfl⟩
      refine r_iconst (q := 42) (z := 1) (v := b2i true) C rfl (by decide +kernel) (by decide) ?_
      refine r_goto (off := 4) (tgt := 46) C (by decide +kernel) (by decide) ?_
      refine r_istore (q := 48) C 5 rfl (by decide +kernel) (by decide) (by first | rfl | exact okst_rv rfl) ?_
      dsimp only [List.set]
      refine r_iconst (q := 49) (z := 0) (v := 0) C rfl (by decide +kernel) (by decide) ?_
      refine r_istore (q := 51) C 6 rfl (by decide +kernel) (by decide) (by first | rfl | exact okst_rv rfl) ?_
      dsimp only [List.set]
      exact L51 (σ.n + 1) 0 _ (by omega) (by omega) ht0
    · have c29 := (covN_neg r10).mp (Int32.not_le.mp c29)
      refine r_iload (q := 34) C 4 rfl (by decide +kernel) rfl ?_
      refine r_aload_n (q := 35) (z := 0) C 0 rfl (by decide +kernel) rfl rfl ?_
      refine cV0I (q := 38) C R rfl (by decide +kernel) lk_X7_280 (c_X7_gateCell hm M1 W) (by decide) (by decide) (by decide) rfl (by first | exact Nat.le_of_ble_eq_true rfl | (simp only [List.map_cons, List.map_nil, List.sum_cons, List.sum_nil, rv_cat]; exact Nat.le_of_ble_eq_true rfl)) rfl hm.1 ?_
      rintro _ _ ⟨rfl, rfl⟩
      refine r_icmp_ne (q := 41) (off := 7) (tgt := 45) C rfl (by decide +kernel) (by decide) (fun c38 => ?_) (fun c38 => ?_)
      · have ht0 : false = true ↔ anyb (fun r => σ.cv r c) σ.n = true ∨ c = 12 * σ.gr ∨ ∃ r, r < 0 ∧ σ.li r < 240 ∧ σ.dr r = c := ⟨(fun e => nomatch e), fun e => by
          rcases e with e | e | ⟨r, e, -⟩
          · rw [c29] at e; exact e
          · exact absurd (by rw [e]) c38
          · exact absurd e (Nat.not_lt_zero r)⟩
        refine r_iconst (q := 46) (z := 0) (v := b2i false) C rfl (by decide +kernel) (by decide) ?_
        refine r_istore (q := 48) C 5 rfl (by decide +kernel) (by decide) (by first | rfl | exact okst_rv rfl) ?_
        dsimp only [List.set]
        refine r_iconst (q := 49) (z := 0) (v := 0) C rfl (by decide +kernel) (by decide) ?_
        refine r_istore (q := 51) C 6 rfl (by decide +kernel) (by decide) (by first | rfl | exact okst_rv rfl) ?_
        dsimp only [List.set]
        exact L51 (σ.n + 1) 0 _ (by omega) (by omega) ht0
      · have ht0 : true = true ↔ anyb (fun r => σ.cv r c) σ.n = true ∨ c = 12 * σ.gr ∨ ∃ r, r < 0 ∧ σ.li r < 240 ∧ σ.dr r = c := ⟨fun _ => Or.inr (Or.inl ((nI_eq (by omega) (by omega)).mp c38)), fun _ => rfl⟩
        refine r_iconst (q := 42) (z := 1) (v := b2i true) C rfl (by decide +kernel) (by decide) ?_
        refine r_goto (off := 4) (tgt := 46) C (by decide +kernel) (by decide) ?_
        refine r_istore (q := 48) C 5 rfl (by decide +kernel) (by decide) (by first | rfl | exact okst_rv rfl) ?_
        dsimp only [List.set]
        refine r_iconst (q := 49) (z := 0) (v := 0) C rfl (by decide +kernel) (by decide) ?_
        refine r_istore (q := 51) C 6 rfl (by decide +kernel) (by decide) (by first | rfl | exact okst_rv rfl) ?_
        dsimp only [List.set]
        exact L51 (σ.n + 1) 0 _ (by omega) (by omega) ht0
  · have c10 := (b2i_0 _).mp c10
    refine r_iconst (q := 14) (z := 0) (v := 0) C rfl (by decide +kernel) (by decide) ?_
    exact r_zret C (by decide +kernel) rfl (by first | decide | exact b2i_nar _) (by decide) (by decide) (eqP hPP ⟨_, rfl, (by
          have hn : ¬ clP σ x y yes := fun e => absurd e.1 (by rw [c10]; decide)
          rw [cif_f hn, cif_f hn]
          exact ⟨rfl, M1, Fm.rf.setI (by decide)⟩)⟩)
theorem c_X7_bears {G : GT} {h : HP} {m : Nat} {be sh : Nat → Nat} {ra : Nat} {x p : Int32} (hm : LM h.kd h.gl h.fr m) (Mb : MB be sh ra h m) : Con G 1 0 0 yX7_bears cX7_bears 3 (some .boolean) [rv m, .int x, .int p] h (PI (fun v h' => cif (beP x p) 1 0 = v ∧ MB (cif (beP x p) (upN be x.toNatClampNeg p.toNatClampNeg) be) sh ra h' m ∧ Fm [492] [448] h h')) := by
  refine Con.of (lv := [some (rv m), some (.int x), some (.int p)]) (by decide) (by simp only [lvE_r, lvE_i, lvE_l, lvE_s, lvE_0]; rfl) (by simp only [lgl_r, lgl_i, lgl_l, lgl_s, lgl_0]; decide) (fun Γ C R => ?_)
  generalize hPP : (PI (fun v h' => cif (beP x p) 1 0 = v ∧ MB (cif (beP x p) (upN be x.toNatClampNeg p.toNatClampNeg) be) sh ra h' m ∧ Fm [492] [448] h h')) = PP
  have M1 : MB be sh ra (h.setI 448 m 0) m := Mb.setI (by decide)
  refine r_aload_n (q := 1) (z := 0) C 0 rfl (by decide +kernel) rfl rfl ?_
  refine r_iconst (q := 2) (z := 0) (v := 0) C rfl (by decide +kernel) (by decide) ?_
  refine r_putI (q := 5) C 7 0 448 rfl (by decide +kernel) rfl (by decide) rfl rfl wf_X7_1 win7 tyX7 tyX7_ok nmX7 rfl (tyX7_ok 0 (by decide)) rfl wnd7 rfl rfl hm.1 ?_
  refine r_iload_n (q := 6) (z := 1) C 1 rfl (by decide +kernel) rfl rfl ?_
  refine r_if_lt (q := 9) (off := 19) (tgt := 25) C rfl (by decide +kernel) (by decide) (fun c6 => ?_) (fun c6 => ?_)
  · refine r_iconst (q := 26) (z := 0) (v := 0) C rfl (by decide +kernel) (by decide) ?_
    exact r_zret C (by decide +kernel) rfl (by first | decide | exact b2i_nar _) (by decide) (by decide) (eqP hPP ⟨_, rfl, (by
          have hn : ¬ beP x p := by first | exact fun e => absurd e.1.1 (Int32.not_le.mpr c6) | exact fun e => absurd e.1.2 (Int32.not_le.mpr c11) | exact fun e => absurd e.2.1 (Int32.not_le.mpr c15) | exact fun e => c22 e.2.2
          rw [cif_f hn, cif_f hn]
          exact ⟨rfl, M1, Fm.rf.setI (by decide)⟩)⟩)
  · refine r_iload_n (q := 10) (z := 1) C 1 rfl (by decide +kernel) rfl rfl ?_
    refine r_iconst (q := 11) (z := 2) (v := 2) C rfl (by decide +kernel) (by decide) ?_
    refine r_icmp_gt (q := 14) (off := 14) (tgt := 25) C rfl (by decide +kernel) (by decide) (fun c11 => ?_) (fun c11 => ?_)
    · refine r_iconst (q := 26) (z := 0) (v := 0) C rfl (by decide +kernel) (by decide) ?_
      exact r_zret C (by decide +kernel) rfl (by first | decide | exact b2i_nar _) (by decide) (by decide) (eqP hPP ⟨_, rfl, (by
            have hn : ¬ beP x p := by first | exact fun e => absurd e.1.1 (Int32.not_le.mpr c6) | exact fun e => absurd e.1.2 (Int32.not_le.mpr c11) | exact fun e => absurd e.2.1 (Int32.not_le.mpr c15) | exact fun e => c22 e.2.2
            rw [cif_f hn, cif_f hn]
            exact ⟨rfl, M1, Fm.rf.setI (by decide)⟩)⟩)
    · refine r_iload_n (q := 15) (z := 2) C 2 rfl (by decide +kernel) rfl rfl ?_
      refine r_if_lt (q := 18) (off := 10) (tgt := 25) C rfl (by decide +kernel) (by decide) (fun c15 => ?_) (fun c15 => ?_)
      · refine r_iconst (q := 26) (z := 0) (v := 0) C rfl (by decide +kernel) (by decide) ?_
        exact r_zret C (by decide +kernel) rfl (by first | decide | exact b2i_nar _) (by decide) (by decide) (eqP hPP ⟨_, rfl, (by
              have hn : ¬ beP x p := by first | exact fun e => absurd e.1.1 (Int32.not_le.mpr c6) | exact fun e => absurd e.1.2 (Int32.not_le.mpr c11) | exact fun e => absurd e.2.1 (Int32.not_le.mpr c15) | exact fun e => c22 e.2.2
              rw [cif_f hn, cif_f hn]
              exact ⟨rfl, M1, Fm.rf.setI (by decide)⟩)⟩)
      · refine r_iload_n (q := 19) (z := 2) C 2 rfl (by decide +kernel) rfl rfl ?_
        refine r_sipush (q := 22) (z := 1000) (v := 1000) C rfl (by decide +kernel) (by decide) ?_
        refine r_icmp_le (q := 25) (off := 5) (tgt := 27) C rfl (by decide +kernel) (by decide) (fun c22 => ?_) (fun c22 => ?_)
        · have hy : beP x p := ⟨⟨Int32.not_lt.mp c6, Int32.not_lt.mp c11⟩, Int32.not_lt.mp c15, c22⟩
          obtain ⟨x1, x2, x3⟩ := nI_rng2 (a := 0) (b := 2) (by decide) hy.1.1 hy.1.2 (by decide)
          obtain ⟨p1, p2, p3⟩ := nI_rng2 (a := 0) (b := 1000) (by decide) hy.2.1 hy.2.2 (by decide)
          refine r_aload_n (q := 28) (z := 0) C 0 rfl (by decide +kernel) rfl rfl ?_
          refine r_getR (q := 31) C 7 44 492 rfl (by decide +kernel) rfl (by decide) rfl rfl wf_X7_139 win7 hm.1 ?_
          refine r_iload_n (q := 32) (z := 1) C 1 rfl (by decide +kernel) rfl rfl ?_
          refine r_iload_n (q := 33) (z := 2) C 2 rfl (by decide +kernel) rfl rfl ?_
          refine r_iast (q := 34) C rfl (by decide +kernel) rfl hm.k492 (by rw [x3]; exact vp_in_nI (by omega) (by decide)) ?_
          rw [stI_row]
          refine r_iconst (q := 35) (z := 1) (v := 1) C rfl (by decide +kernel) (by decide) ?_
          exact r_zret C (by decide +kernel) rfl (by first | decide | exact b2i_nar _) (by decide) (by decide) (eqP hPP ⟨_, rfl, (by
                rw [cif_t hy, cif_t hy]
                exact ⟨rfl, MB.be_up (h := h.setI 448 m 0) hm M1 p3 p2, Fm.row (Fm.rf.setI (by decide)) (by show h.gl (h.fr 492 m) ∈ _; rw [hm.g492]; decide)⟩)⟩)
        · refine r_iconst (q := 26) (z := 0) (v := 0) C rfl (by decide +kernel) (by decide) ?_
          exact r_zret C (by decide +kernel) rfl (by first | decide | exact b2i_nar _) (by decide) (by decide) (eqP hPP ⟨_, rfl, (by
                have hn : ¬ beP x p := by first | exact fun e => absurd e.1.1 (Int32.not_le.mpr c6) | exact fun e => absurd e.1.2 (Int32.not_le.mpr c11) | exact fun e => absurd e.2.1 (Int32.not_le.mpr c15) | exact fun e => c22 e.2.2
                rw [cif_f hn, cif_f hn]
                exact ⟨rfl, M1, Fm.rf.setI (by decide)⟩)⟩)
theorem c_X7_share {G : GT} {h : HP} {m : Nat} {be sh : Nat → Nat} {ra : Nat} {x p : Int32} (hm : LM h.kd h.gl h.fr m) (Mb : MB be sh ra h m) : Con G 1 0 0 yX7_share cX7_share 3 (some .boolean) [rv m, .int x, .int p] h (PI (fun v h' => cif (shP x p) 1 0 = v ∧ MB be (cif (shP x p) (upN sh x.toNatClampNeg p.toNatClampNeg) sh) ra h' m ∧ Fm [494] [448] h h')) := by
  refine Con.of (lv := [some (rv m), some (.int x), some (.int p)]) (by decide) (by simp only [lvE_r, lvE_i, lvE_l, lvE_s, lvE_0]; rfl) (by simp only [lgl_r, lgl_i, lgl_l, lgl_s, lgl_0]; decide) (fun Γ C R => ?_)
  generalize hPP : (PI (fun v h' => cif (shP x p) 1 0 = v ∧ MB be (cif (shP x p) (upN sh x.toNatClampNeg p.toNatClampNeg) sh) ra h' m ∧ Fm [494] [448] h h')) = PP
  have M1 : MB be sh ra (h.setI 448 m 0) m := Mb.setI (by decide)
  refine r_aload_n (q := 1) (z := 0) C 0 rfl (by decide +kernel) rfl rfl ?_
  refine r_iconst (q := 2) (z := 0) (v := 0) C rfl (by decide +kernel) (by decide) ?_
  refine r_putI (q := 5) C 7 0 448 rfl (by decide +kernel) rfl (by decide) rfl rfl wf_X7_1 win7 tyX7 tyX7_ok nmX7 rfl (tyX7_ok 0 (by decide)) rfl wnd7 rfl rfl hm.1 ?_
  refine r_iload_n (q := 6) (z := 1) C 1 rfl (by decide +kernel) rfl rfl ?_
  refine r_if_lt (q := 9) (off := 20) (tgt := 26) C rfl (by decide +kernel) (by decide) (fun c6 => ?_) (fun c6 => ?_)
  · refine r_iconst (q := 27) (z := 0) (v := 0) C rfl (by decide +kernel) (by decide) ?_
    exact r_zret C (by decide +kernel) rfl (by first | decide | exact b2i_nar _) (by decide) (by decide) (eqP hPP ⟨_, rfl, (by
          have hn : ¬ shP x p := by first | exact fun e => absurd e.1.1 (Int32.not_le.mpr c6) | exact fun e => absurd e.1.2 (Int32.not_le.mpr c11) | exact fun e => absurd e.2.1 (Int32.not_le.mpr c16) | exact fun e => c23 e.2.2
          rw [cif_f hn, cif_f hn]
          exact ⟨rfl, M1, Fm.rf.setI (by decide)⟩)⟩)
  · refine r_iload_n (q := 10) (z := 1) C 1 rfl (by decide +kernel) rfl rfl ?_
    refine r_iconst (q := 11) (z := 2) (v := 2) C rfl (by decide +kernel) (by decide) ?_
    refine r_icmp_gt (q := 14) (off := 15) (tgt := 26) C rfl (by decide +kernel) (by decide) (fun c11 => ?_) (fun c11 => ?_)
    · refine r_iconst (q := 27) (z := 0) (v := 0) C rfl (by decide +kernel) (by decide) ?_
      exact r_zret C (by decide +kernel) rfl (by first | decide | exact b2i_nar _) (by decide) (by decide) (eqP hPP ⟨_, rfl, (by
            have hn : ¬ shP x p := by first | exact fun e => absurd e.1.1 (Int32.not_le.mpr c6) | exact fun e => absurd e.1.2 (Int32.not_le.mpr c11) | exact fun e => absurd e.2.1 (Int32.not_le.mpr c16) | exact fun e => c23 e.2.2
            rw [cif_f hn, cif_f hn]
            exact ⟨rfl, M1, Fm.rf.setI (by decide)⟩)⟩)
    · refine r_iload_n (q := 15) (z := 2) C 2 rfl (by decide +kernel) rfl rfl ?_
      refine r_iconst (q := 16) (z := 1) (v := 1) C rfl (by decide +kernel) (by decide) ?_
      refine r_icmp_lt (q := 19) (off := 10) (tgt := 26) C rfl (by decide +kernel) (by decide) (fun c16 => ?_) (fun c16 => ?_)
      · refine r_iconst (q := 27) (z := 0) (v := 0) C rfl (by decide +kernel) (by decide) ?_
        exact r_zret C (by decide +kernel) rfl (by first | decide | exact b2i_nar _) (by decide) (by decide) (eqP hPP ⟨_, rfl, (by
              have hn : ¬ shP x p := by first | exact fun e => absurd e.1.1 (Int32.not_le.mpr c6) | exact fun e => absurd e.1.2 (Int32.not_le.mpr c11) | exact fun e => absurd e.2.1 (Int32.not_le.mpr c16) | exact fun e => c23 e.2.2
              rw [cif_f hn, cif_f hn]
              exact ⟨rfl, M1, Fm.rf.setI (by decide)⟩)⟩)
      · refine r_iload_n (q := 20) (z := 2) C 2 rfl (by decide +kernel) rfl rfl ?_
        refine r_sipush (q := 23) (z := 1000) (v := 1000) C rfl (by decide +kernel) (by decide) ?_
        refine r_icmp_le (q := 26) (off := 5) (tgt := 28) C rfl (by decide +kernel) (by decide) (fun c23 => ?_) (fun c23 => ?_)
        · have hy : shP x p := ⟨⟨Int32.not_lt.mp c6, Int32.not_lt.mp c11⟩, Int32.not_lt.mp c16, c23⟩
          obtain ⟨x1, x2, x3⟩ := nI_rng2 (a := 0) (b := 2) (by decide) hy.1.1 hy.1.2 (by decide)
          obtain ⟨p1, p2, p3⟩ := nI_rng2 (a := 1) (b := 1000) (by decide) hy.2.1 hy.2.2 (by decide)
          refine r_aload_n (q := 29) (z := 0) C 0 rfl (by decide +kernel) rfl rfl ?_
          refine r_getR (q := 32) C 7 46 494 rfl (by decide +kernel) rfl (by decide) rfl rfl wf_X7_145 win7 hm.1 ?_
          refine r_iload_n (q := 33) (z := 1) C 1 rfl (by decide +kernel) rfl rfl ?_
          refine r_iload_n (q := 34) (z := 2) C 2 rfl (by decide +kernel) rfl rfl ?_
          refine r_iast (q := 35) C rfl (by decide +kernel) rfl hm.k494 (by rw [x3]; exact vp_in_nI (by omega) (by decide)) ?_
          rw [stI_row]
          refine r_iconst (q := 36) (z := 1) (v := 1) C rfl (by decide +kernel) (by decide) ?_
          exact r_zret C (by decide +kernel) rfl (by first | decide | exact b2i_nar _) (by decide) (by decide) (eqP hPP ⟨_, rfl, (by
                rw [cif_t hy, cif_t hy]
                exact ⟨rfl, MB.sh_up (h := h.setI 448 m 0) hm M1 p3 ⟨p1, p2⟩, Fm.row (Fm.rf.setI (by decide)) (by show h.gl (h.fr 494 m) ∈ _; rw [hm.g494]; decide)⟩)⟩)
        · refine r_iconst (q := 27) (z := 0) (v := 0) C rfl (by decide +kernel) (by decide) ?_
          exact r_zret C (by decide +kernel) rfl (by first | decide | exact b2i_nar _) (by decide) (by decide) (eqP hPP ⟨_, rfl, (by
                have hn : ¬ shP x p := by first | exact fun e => absurd e.1.1 (Int32.not_le.mpr c6) | exact fun e => absurd e.1.2 (Int32.not_le.mpr c11) | exact fun e => absurd e.2.1 (Int32.not_le.mpr c16) | exact fun e => c23 e.2.2
                rw [cif_f hn, cif_f hn]
                exact ⟨rfl, M1, Fm.rf.setI (by decide)⟩)⟩)
theorem c_X7_rate {G : GT} {h : HP} {m : Nat} {be sh : Nat → Nat} {ra : Nat} {p : Int32} (hm : LM h.kd h.gl h.fr m) (Mb : MB be sh ra h m) : Con G 1 0 0 yX7_rate cX7_rate 2 (some .boolean) [rv m, .int p] h (PI (fun v h' => cif (0 ≤ p ∧ p ≤ 1000) 1 0 = v ∧ MB be sh (cif (0 ≤ p ∧ p ≤ 1000) p.toNatClampNeg ra) h' m ∧ Fm [] [448, 493] h h')) := by
  refine Con.of (lv := [some (rv m), some (.int p)]) (by decide) (by simp only [lvE_r, lvE_i, lvE_l, lvE_s, lvE_0]; rfl) (by simp only [lgl_r, lgl_i, lgl_l, lgl_s, lgl_0]; decide) (fun Γ C R => ?_)
  generalize hPP : (PI (fun v h' => cif (0 ≤ p ∧ p ≤ 1000) 1 0 = v ∧ MB be sh (cif (0 ≤ p ∧ p ≤ 1000) p.toNatClampNeg ra) h' m ∧ Fm [] [448, 493] h h')) = PP
  have M1 : MB be sh ra (h.setI 448 m 0) m := Mb.setI (by decide)
  refine r_aload_n (q := 1) (z := 0) C 0 rfl (by decide +kernel) rfl rfl ?_
  refine r_iconst (q := 2) (z := 0) (v := 0) C rfl (by decide +kernel) (by decide) ?_
  refine r_putI (q := 5) C 7 0 448 rfl (by decide +kernel) rfl (by decide) rfl rfl wf_X7_1 win7 tyX7 tyX7_ok nmX7 rfl (tyX7_ok 0 (by decide)) rfl wnd7 rfl rfl hm.1 ?_
  refine r_iload_n (q := 6) (z := 1) C 1 rfl (by decide +kernel) rfl rfl ?_
  refine r_if_lt (q := 9) (off := 10) (tgt := 16) C rfl (by decide +kernel) (by decide) (fun c6 => ?_) (fun c6 => ?_)
  · refine r_iconst (q := 17) (z := 0) (v := 0) C rfl (by decide +kernel) (by decide) ?_
    exact r_zret C (by decide +kernel) rfl (by first | decide | exact b2i_nar _) (by decide) (by decide) (eqP hPP ⟨_, rfl, (by
          have hn : ¬ (0 ≤ p ∧ p ≤ 1000) := by first | exact fun e => absurd e.1 (Int32.not_le.mpr c6) | exact fun e => c13 e.2
          rw [cif_f hn, cif_f hn]
          exact ⟨rfl, M1, Fm.rf.setI (by decide)⟩)⟩)
  · refine r_iload_n (q := 10) (z := 1) C 1 rfl (by decide +kernel) rfl rfl ?_
    refine r_sipush (q := 13) (z := 1000) (v := 1000) C rfl (by decide +kernel) (by decide) ?_
    refine r_icmp_le (q := 16) (off := 5) (tgt := 18) C rfl (by decide +kernel) (by decide) (fun c13 => ?_) (fun c13 => ?_)
    · have hy : 0 ≤ p ∧ p ≤ 1000 := ⟨Int32.not_lt.mp c6, c13⟩
      obtain ⟨p1, p2, p3⟩ := nI_rng2 (a := 0) (b := 1000) (by decide) hy.1 hy.2 (by decide)
      refine r_aload_n (q := 19) (z := 0) C 0 rfl (by decide +kernel) rfl rfl ?_
      refine r_iload_n (q := 20) (z := 1) C 1 rfl (by decide +kernel) rfl rfl ?_
      refine r_putI (q := 23) C 7 45 493 rfl (by decide +kernel) rfl (by decide) rfl rfl wf_X7_142 win7 tyX7 tyX7_ok nmX7 rfl (tyX7_ok 45 (by decide)) rfl wnd7 rfl rfl hm.1 ?_
      refine r_iconst (q := 24) (z := 1) (v := 1) C rfl (by decide +kernel) (by decide) ?_
      exact r_zret C (by decide +kernel) rfl (by first | decide | exact b2i_nar _) (by decide) (by decide) (eqP hPP ⟨_, rfl, (by
            rw [cif_t hy, cif_t hy]
            exact ⟨rfl, MB.ra_up M1 p3 p2, (Fm.rf.setI (by decide)).setI (by decide)⟩)⟩)
    · refine r_iconst (q := 17) (z := 0) (v := 0) C rfl (by decide +kernel) (by decide) ?_
      exact r_zret C (by decide +kernel) rfl (by first | decide | exact b2i_nar _) (by decide) (by decide) (eqP hPP ⟨_, rfl, (by
            have hn : ¬ (0 ≤ p ∧ p ≤ 1000) := by first | exact fun e => absurd e.1 (Int32.not_le.mpr c6) | exact fun e => c13 e.2
            rw [cif_f hn, cif_f hn]
            exact ⟨rfl, M1, Fm.rf.setI (by decide)⟩)⟩)
