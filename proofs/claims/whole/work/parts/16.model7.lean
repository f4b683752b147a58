def bx (b : Nat) : Int32 := if b < 10 then nI b else -1
theorem bx_neg {b : Nat} : bx b < 0 ↔ ¬ b < 10 := by
  unfold bx; split
  · rename_i h; exact ⟨fun e => absurd e (nI_pos (by omega)), fun e => absurd h e⟩
  · rename_i h; exact ⟨fun _ => h, fun _ => by decide⟩
theorem bx_in {b : Nat} (h : b < 10) : bx b = nI b := if_pos h
/-- the first of the greatest rank among those asked -/
def bestN (σ : SG) (as : Nat → Bool) : Nat → Nat
  | 0 => 10
  | k + 1 => if as k && (decide (¬ bestN σ as k < 10) || decide (σ.rk (bestN σ as k) < σ.rk k)) then k else bestN σ as k
theorem bestN_lt {σ : SG} {as : Nat → Bool} : ∀ {k : Nat}, k ≤ 10 → bestN σ as k < 10 → bestN σ as k < k
  | 0, _, h => absurd h (show ¬ (10 : Nat) < 10 by decide)
  | k + 1, hk, h => by
    simp only [bestN] at h ⊢
    by_cases e : (as k && (decide (¬ bestN σ as k < 10) || decide (σ.rk (bestN σ as k) < σ.rk k))) = true
    · rw [if_pos e]; omega
    · rw [if_neg e] at h ⊢
      have := bestN_lt (by omega) h; omega
def frst (σ : SG) (r q : Nat) : Prop := q ≤ 240 ∧ (q < 240 → σ.fit r q) ∧ ∀ p, p < q → ¬ σ.fit r p

theorem c_X7_look {G : GT} {h : HP} {m : Nat} {σ : SG} {x w : Int32} (hm : LM h.kd h.gl h.fr m) (M : MR σ h m) (W : WF σ) : Con G 4 0 0 yX7_look cX7_look 3 (some .int) [rv m, .int x, .int w] h (PI (fun v h' => (lkP σ x w → lookV σ x.toNatClampNeg w = v ∧ h.setI 448 m 0 = h') ∧ (¬ lkP σ x w → h.setI 448 m 1 = h'))) := by
  refine Con.of (lv := [some (rv m), some (.int x), some (.int w)]) (by decide) (by simp only [lvE_r, lvE_i, lvE_l, lvE_s, lvE_0]; rfl) (by simp only [lgl_r, lgl_i, lgl_l, lgl_s, lgl_0]; decide) (fun Γ C R => ?_)
  generalize hPP : (PI (fun v h' => (lkP σ x w → lookV σ x.toNatClampNeg w = v ∧ h.setI 448 m 0 = h') ∧ (¬ lkP σ x w → h.setI 448 m 1 = h'))) = PP
  have r10 := W.n10
  have M1 : MR σ (h.setI 448 m 0) m := M.setI (by decide) (by decide) (by decide)
  have J23 : ∀ (v : Int32), ((v = 0 ∧ lkP σ x w) ∨ (v = 1 ∧ ¬ lkP σ x w)) → wX G Γ (qM G Γ PP 0 0) 0 0 (h) 23 [some (rv m), some (.int x), some (.int w)] [.int v, rv m] := by
    intro v hv
    refine r_putI (q := 26) C 7 0 448 rfl (by decide +kernel) rfl (by decide) rfl rfl wf_X7_1 win7 tyX7 tyX7_ok nmX7 rfl (tyX7_ok 0 (by decide)) rfl wnd7 rfl rfl hm.1 ?_
    refine r_aload_n (q := 27) (z := 0) C 0 rfl (by decide +kernel) rfl rfl ?_
    refine r_getI (q := 30) C 7 0 448 rfl (by decide +kernel) rfl (by decide) rfl rfl wf_X7_1 win7 hm.1 ?_
    rw [fi_eq]
    refine r_if_le (q := 33) (off := 5) (tgt := 35) C rfl (by decide +kernel) (by decide) (fun c30 => ?_) (fun c30 => ?_)
    · obtain ⟨rfl, hyes⟩ : v = 0 ∧ lkP σ x w := hv.resolve_right (fun e => by rw [e.1] at c30; exact absurd c30 (by decide))
      obtain ⟨r, hr, rfl⟩ := ride_of r10 hyes.1
      refine r_iload_n (q := 36) (z := 2) C 2 rfl (by decide +kernel) rfl rfl ?_
      refine r_if_ne (q := 39) (off := 20) (tgt := 56) C rfl (by decide +kernel) (by decide) (fun c36 => ?_) (fun c36 => ?_)
      · refine r_iload_n (q := 57) (z := 2) C 2 rfl (by decide +kernel) rfl rfl ?_
        refine r_iconst (q := 58) (z := 1) (v := 1) C rfl (by decide +kernel) (by decide) ?_
        refine r_icmp_ne (q := 61) (off := 12) (tgt := 70) C rfl (by decide +kernel) (by decide) (fun c58 => ?_) (fun c58 => ?_)
        · refine r_iload_n (q := 71) (z := 2) C 2 rfl (by decide +kernel) rfl rfl ?_
          refine r_iconst (q := 72) (z := 2) (v := 2) C rfl (by decide +kernel) (by decide) ?_
          refine r_icmp_ne (q := 75) (off := 11) (tgt := 83) C rfl (by decide +kernel) (by decide) (fun c72 => ?_) (fun c72 => ?_)
          · refine r_iload_n (q := 84) (z := 2) C 2 rfl (by decide +kernel) rfl rfl ?_
            refine r_iconst (q := 85) (z := 3) (v := 3) C rfl (by decide +kernel) (by decide) ?_
            refine r_icmp_ne (q := 88) (off := 12) (tgt := 97) C rfl (by decide +kernel) (by decide) (fun c85 => ?_) (fun c85 => ?_)
            · refine r_iload_n (q := 98) (z := 2) C 2 rfl (by decide +kernel) rfl rfl ?_
              refine r_iconst (q := 99) (z := 4) (v := 4) C rfl (by decide +kernel) (by decide) ?_
              refine r_icmp_ne (q := 102) (off := 12) (tgt := 111) C rfl (by decide +kernel) (by decide) (fun c99 => ?_) (fun c99 => ?_)
              · refine r_aload_n (q := 112) (z := 0) C 0 rfl (by decide +kernel) rfl rfl ?_
                refine r_getR (q := 115) C 7 33 481 rfl (by decide +kernel) rfl (by decide) rfl rfl wf_X7_112 win7 hm.1 ?_
                refine r_iload_n (q := 116) (z := 1) C 1 rfl (by decide +kernel) rfl rfl ?_
                refine r_iald (q := 117) C rfl (by decide +kernel) hm.k481 (vp_in_nI (by omega) (by decide)) ?_
                rw [nI_clamp (by omega), M1.ams (by omega)]
                exact r_iret C (by decide +kernel) rfl (by decide) (by decide) (eqP hPP ⟨_, rfl, ⟨fun _ => ⟨by rw [nI_clamp (by omega)]; unfold lookV; first | (rw [if_pos c36, if_pos (pl_nn.mp c45)]) | (rw [if_pos c36, if_neg (pl_neg.mp c45)]) | (rw [if_neg c36, if_pos c58]) | (rw [if_neg c36, if_neg c58, if_pos c72]) | (rw [if_neg c36, if_neg c58, if_neg c72, if_pos c85]) | (rw [if_neg c36, if_neg c58, if_neg c72, if_neg c85, if_pos c99]) | (rw [if_neg c36, if_neg c58, if_neg c72, if_neg c85, if_neg c99]), rfl⟩, fun e => absurd hyes e⟩⟩)
              · refine r_aload_n (q := 103) (z := 0) C 0 rfl (by decide +kernel) rfl rfl ?_
                refine r_getR (q := 106) C 7 32 480 rfl (by decide +kernel) rfl (by decide) rfl rfl wf_X7_109 win7 hm.1 ?_
                refine r_iload_n (q := 107) (z := 1) C 1 rfl (by decide +kernel) rfl rfl ?_
                refine r_iald (q := 108) C rfl (by decide +kernel) hm.k480 (vp_in_nI (by omega) (by decide)) ?_
                rw [nI_clamp (by omega), M1.ahd (by omega)]
                refine r_goto (off := 9) (tgt := 117) C (by decide +kernel) (by decide) ?_
                exact r_iret C (by decide +kernel) rfl (by decide) (by decide) (eqP hPP ⟨_, rfl, ⟨fun _ => ⟨by rw [nI_clamp (by omega)]; unfold lookV; first | (rw [if_pos c36, if_pos (pl_nn.mp c45)]) | (rw [if_pos c36, if_neg (pl_neg.mp c45)]) | (rw [if_neg c36, if_pos c58]) | (rw [if_neg c36, if_neg c58, if_pos c72]) | (rw [if_neg c36, if_neg c58, if_neg c72, if_pos c85]) | (rw [if_neg c36, if_neg c58, if_neg c72, if_neg c85, if_pos c99]) | (rw [if_neg c36, if_neg c58, if_neg c72, if_neg c85, if_neg c99]), rfl⟩, fun e => absurd hyes e⟩⟩)
            · refine r_aload_n (q := 89) (z := 0) C 0 rfl (by decide +kernel) rfl rfl ?_
              refine r_getR (q := 92) C 7 31 479 rfl (by decide +kernel) rfl (by decide) rfl rfl wf_X7_106 win7 hm.1 ?_
              refine r_iload_n (q := 93) (z := 1) C 1 rfl (by decide +kernel) rfl rfl ?_
              refine r_iald (q := 94) C rfl (by decide +kernel) hm.k479 (vp_in_nI (by omega) (by decide)) ?_
              rw [nI_clamp (by omega), M1.art (by omega)]
              refine r_goto (off := 23) (tgt := 117) C (by decide +kernel) (by decide) ?_
              exact r_iret C (by decide +kernel) rfl (by decide) (by decide) (eqP hPP ⟨_, rfl, ⟨fun _ => ⟨by rw [nI_clamp (by omega)]; unfold lookV; first | (rw [if_pos c36, if_pos (pl_nn.mp c45)]) | (rw [if_pos c36, if_neg (pl_neg.mp c45)]) | (rw [if_neg c36, if_pos c58]) | (rw [if_neg c36, if_neg c58, if_pos c72]) | (rw [if_neg c36, if_neg c58, if_neg c72, if_pos c85]) | (rw [if_neg c36, if_neg c58, if_neg c72, if_neg c85, if_pos c99]) | (rw [if_neg c36, if_neg c58, if_neg c72, if_neg c85, if_neg c99]), rfl⟩, fun e => absurd hyes e⟩⟩)
          · refine r_aload_n (q := 76) (z := 0) C 0 rfl (by decide +kernel) rfl rfl ?_
            refine r_iload_n (q := 77) (z := 1) C 1 rfl (by decide +kernel) rfl rfl ?_
            refine cV1I (q := 80) C R rfl (by decide +kernel) lk_X7_292 (c_X7_door hm M1 W hr) (by decide) (by decide) (by decide) rfl (by first | exact Nat.le_of_ble_eq_true rfl | (simp only [List.map_cons, List.map_nil, List.sum_cons, List.sum_nil, rv_cat]; exact Nat.le_of_ble_eq_true rfl)) rfl hm.1 ?_
            rintro _ _ ⟨rfl, rfl⟩
            refine r_goto (off := 37) (tgt := 117) C (by decide +kernel) (by decide) ?_
            exact r_iret C (by decide +kernel) rfl (by decide) (by decide) (eqP hPP ⟨_, rfl, ⟨fun _ => ⟨by rw [nI_clamp (by omega)]; unfold lookV; first | (rw [if_pos c36, if_pos (pl_nn.mp c45)]) | (rw [if_pos c36, if_neg (pl_neg.mp c45)]) | (rw [if_neg c36, if_pos c58]) | (rw [if_neg c36, if_neg c58, if_pos c72]) | (rw [if_neg c36, if_neg c58, if_neg c72, if_pos c85]) | (rw [if_neg c36, if_neg c58, if_neg c72, if_neg c85, if_pos c99]) | (rw [if_neg c36, if_neg c58, if_neg c72, if_neg c85, if_neg c99]), rfl⟩, fun e => absurd hyes e⟩⟩)
        · refine r_aload_n (q := 62) (z := 0) C 0 rfl (by decide +kernel) rfl rfl ?_
          refine r_getR (q := 65) C 7 30 478 rfl (by decide +kernel) rfl (by decide) rfl rfl wf_X7_103 win7 hm.1 ?_
          refine r_iload_n (q := 66) (z := 1) C 1 rfl (by decide +kernel) rfl rfl ?_
          refine r_iald (q := 67) C rfl (by decide +kernel) hm.k478 (vp_in_nI (by omega) (by decide)) ?_
          rw [nI_clamp (by omega), M1.ali (by omega)]
          refine r_goto (off := 50) (tgt := 117) C (by decide +kernel) (by decide) ?_
          exact r_iret C (by decide +kernel) rfl (by decide) (by decide) (eqP hPP ⟨_, rfl, ⟨fun _ => ⟨by rw [nI_clamp (by omega)]; unfold lookV; first | (rw [if_pos c36, if_pos (pl_nn.mp c45)]) | (rw [if_pos c36, if_neg (pl_neg.mp c45)]) | (rw [if_neg c36, if_pos c58]) | (rw [if_neg c36, if_neg c58, if_pos c72]) | (rw [if_neg c36, if_neg c58, if_neg c72, if_pos c85]) | (rw [if_neg c36, if_neg c58, if_neg c72, if_neg c85, if_pos c99]) | (rw [if_neg c36, if_neg c58, if_neg c72, if_neg c85, if_neg c99]), rfl⟩, fun e => absurd hyes e⟩⟩)
      · refine r_aload_n (q := 40) (z := 0) C 0 rfl (by decide +kernel) rfl rfl ?_
        refine r_getR (q := 43) C 7 30 478 rfl (by decide +kernel) rfl (by decide) rfl rfl wf_X7_103 win7 hm.1 ?_
        refine r_iload_n (q := 44) (z := 1) C 1 rfl (by decide +kernel) rfl rfl ?_
        refine r_iald (q := 45) C rfl (by decide +kernel) hm.k478 (vp_in_nI (by omega) (by decide)) ?_
        rw [nI_clamp (by omega), M1.ali (by omega)]
        refine r_if_lt (q := 48) (off := 7) (tgt := 52) C rfl (by decide +kernel) (by decide) (fun c45 => ?_) (fun c45 => ?_)
        · refine r_iconst (q := 53) (z := 0) (v := 0) C rfl (by decide +kernel) (by decide) ?_
          refine r_goto (off := 64) (tgt := 117) C (by decide +kernel) (by decide) ?_
          exact r_iret C (by decide +kernel) rfl (by decide) (by decide) (eqP hPP ⟨_, rfl, ⟨fun _ => ⟨by rw [nI_clamp (by omega)]; unfold lookV; first | (rw [if_pos c36, if_pos (pl_nn.mp c45)]) | (rw [if_pos c36, if_neg (pl_neg.mp c45)]) | (rw [if_neg c36, if_pos c58]) | (rw [if_neg c36, if_neg c58, if_pos c72]) | (rw [if_neg c36, if_neg c58, if_neg c72, if_pos c85]) | (rw [if_neg c36, if_neg c58, if_neg c72, if_neg c85, if_pos c99]) | (rw [if_neg c36, if_neg c58, if_neg c72, if_neg c85, if_neg c99]), rfl⟩, fun e => absurd hyes e⟩⟩)
        · refine r_iconst (q := 49) (z := 1) (v := 1) C rfl (by decide +kernel) (by decide) ?_
          refine r_goto (off := 68) (tgt := 117) C (by decide +kernel) (by decide) ?_
          exact r_iret C (by decide +kernel) rfl (by decide) (by decide) (eqP hPP ⟨_, rfl, ⟨fun _ => ⟨by rw [nI_clamp (by omega)]; unfold lookV; first | (rw [if_pos c36, if_pos (pl_nn.mp c45)]) | (rw [if_pos c36, if_neg (pl_neg.mp c45)]) | (rw [if_neg c36, if_pos c58]) | (rw [if_neg c36, if_neg c58, if_pos c72]) | (rw [if_neg c36, if_neg c58, if_neg c72, if_pos c85]) | (rw [if_neg c36, if_neg c58, if_neg c72, if_neg c85, if_pos c99]) | (rw [if_neg c36, if_neg c58, if_neg c72, if_neg c85, if_neg c99]), rfl⟩, fun e => absurd hyes e⟩⟩)
    · obtain ⟨rfl, hno⟩ : v = 1 ∧ ¬ lkP σ x w := hv.resolve_left (fun e => by rw [e.1] at c30; exact absurd (by decide) c30)
      refine r_iconst (q := 34) (z := 0) (v := 0) C rfl (by decide +kernel) (by decide) ?_
      exact r_iret C (by decide +kernel) rfl (by decide) (by decide) (eqP hPP ⟨_, rfl, ⟨fun e => absurd e hno, fun _ => rfl⟩⟩)
  refine r_aload_n (q := 1) (z := 0) C 0 rfl (by decide +kernel) rfl rfl ?_
  refine r_aload_n (q := 2) (z := 0) C 0 rfl (by decide +kernel) rfl rfl ?_
  refine r_iload_n (q := 3) (z := 1) C 1 rfl (by decide +kernel) rfl rfl ?_
  refine cV1I (q := 6) C R rfl (by decide +kernel) lk_X7_316 (c_X7_isRide hm M) (by decide) (by decide) (by decide) rfl (by first | exact Nat.le_of_ble_eq_true rfl | (simp only [List.map_cons, List.map_nil, List.sum_cons, List.sum_nil, rv_cat]; exact Nat.le_of_ble_eq_true rfl)) rfl hm.1 ?_
  rintro _ _ ⟨rfl, rfl⟩
  refine r_if_eq (q := 9) (off := 16) (tgt := 22) C rfl (by decide +kernel) (by decide) (fun c6 => ?_) (fun c6 => ?_)
  · have hno : ¬ lkP σ x w := fun e => absurd e.1 (of_decide_eq_false ((b2i_0 _).mp c6))
    refine r_iconst (q := 23) (z := 1) (v := 1) C rfl (by decide +kernel) (by decide) ?_
    exact J23 1 (Or.inr ⟨rfl, hno⟩)
  · have c6 := of_decide_eq_true ((b2i_n0 _).mp c6)
    refine r_iload_n (q := 10) (z := 2) C 2 rfl (by decide +kernel) rfl rfl ?_
    refine r_if_lt (q := 13) (off := 12) (tgt := 22) C rfl (by decide +kernel) (by decide) (fun c10 => ?_) (fun c10 => ?_)
    · have hno : ¬ lkP σ x w := fun e => absurd e.2.1 (Int32.not_le.mpr c10)
      refine r_iconst (q := 23) (z := 1) (v := 1) C rfl (by decide +kernel) (by decide) ?_
      exact J23 1 (Or.inr ⟨rfl, hno⟩)
    · refine r_iload_n (q := 14) (z := 2) C 2 rfl (by decide +kernel) rfl rfl ?_
      refine r_iconst (q := 15) (z := 5) (v := 5) C rfl (by decide +kernel) (by decide) ?_
      refine r_icmp_gt (q := 18) (off := 7) (tgt := 22) C rfl (by decide +kernel) (by decide) (fun c15 => ?_) (fun c15 => ?_)
      · have hno : ¬ lkP σ x w := fun e => absurd e.2.2 (Int32.not_le.mpr c15)
        refine r_iconst (q := 23) (z := 1) (v := 1) C rfl (by decide +kernel) (by decide) ?_
        exact J23 1 (Or.inr ⟨rfl, hno⟩)
      · refine r_iconst (q := 19) (z := 0) (v := 0) C rfl (by decide +kernel) (by decide) ?_
        refine r_goto (off := 4) (tgt := 23) C (by decide +kernel) (by decide) ?_
        exact J23 0 (Or.inl ⟨rfl, c6, Int32.not_lt.mp c10, Int32.not_lt.mp c15⟩)
theorem c_X7_count {G : GT} {h : HP} {m : Nat} {σ : SG} {be sh : Nat → Nat} {ra q0 : Nat} {w : Int32} (hm : LM h.kd h.gl h.fr m) (M : MR σ h m) (W : WF σ) (Mb : MB be sh ra h m) (hh : h.fi 463 m = nI q0) (hq2 : q0 < 2) : Con G 6 0 0 yX7_count cX7_count 5 (some .int) [rv m, .int w] h (PI (fun v h' => countV σ ra (h.ai (h.fr 458 m) q0) (h.fi 450 m) w = v ∧ h.setI 448 m 0 = h')) := by
  refine Con.of (lv := [some (rv m), some (.int w), none, none, none]) (by decide) (by simp only [lvE_r, lvE_i, lvE_l, lvE_s, lvE_0]; rfl) (by simp only [lgl_r, lgl_i, lgl_l, lgl_s, lgl_0]; decide) (fun Γ C R => ?_)
  generalize hPP : (PI (fun v h' => countV σ ra (h.ai (h.fr 458 m) q0) (h.fi 450 m) w = v ∧ h.setI 448 m 0 = h')) = PP
  have r10 := W.n10
  have M1 : MR σ (h.setI 448 m 0) m := M.setI (by decide) (by decide) (by decide)
  have Mb1 : MB be sh ra (h.setI 448 m 0) m := Mb.setI (by decide)
  refine r_aload_n (q := 1) (z := 0) C 0 rfl (by decide +kernel) rfl rfl ?_
  refine r_iconst (q := 2) (z := 0) (v := 0) C rfl (by decide +kernel) (by decide) ?_
  refine r_putI (q := 5) C 7 0 448 rfl (by decide +kernel) rfl (by decide) rfl rfl wf_X7_1 win7 tyX7 tyX7_ok nmX7 rfl (tyX7_ok 0 (by decide)) rfl wnd7 rfl rfl hm.1 ?_
  have L42 : ∀ (fuel42 : Nat) (k : Nat), σ.n - k < fuel42 → (k ≤ σ.n) → wX G Γ (qM G Γ PP 0 0) 0 0 (h.setI 448 m 0) 42 [some (rv m), some (.int w), some (.int (nI (frN σ 120))), some (.int (nI (rtN σ k))), some (.int (nI k))] [] := by
    intro fuel42
    induction fuel42 with
    | zero =>
      intro k hm42
      exact absurd hm42 (Nat.not_lt_zero _)
    | succ fuel42 ih42 =>
      intro k hm42 hk
      refine r_iload (q := 44) C 4 rfl (by decide +kernel) rfl ?_
      refine r_aload_n (q := 45) (z := 0) C 0 rfl (by decide +kernel) rfl rfl ?_
      refine r_getI (q := 48) C 7 24 472 rfl (by decide +kernel) rfl (by decide) rfl rfl wf_X7_243 win7 hm.1 ?_
      rw [M1.fn]
      refine r_icmp_ge (q := 51) (off := 27) (tgt := 75) C rfl (by decide +kernel) (by decide) (fun c48 => ?_) (fun c48 => ?_)
      · have ek : k = σ.n := by have := (nI_leI (by omega) (by omega)).mp c48; omega
        subst ek
        refine r_iload_n (q := 76) (z := 1) C 1 rfl (by decide +kernel) rfl rfl ?_
        refine r_if_ne (q := 79) (off := 10) (tgt := 86) C rfl (by decide +kernel) (by decide) (fun c76 => ?_) (fun c76 => ?_)
        · refine r_iload_n (q := 87) (z := 1) C 1 rfl (by decide +kernel) rfl rfl ?_
          refine r_iconst (q := 88) (z := 1) (v := 1) C rfl (by decide +kernel) (by decide) ?_
          refine r_icmp_ne (q := 91) (off := 10) (tgt := 98) C rfl (by decide +kernel) (by decide) (fun c88 => ?_) (fun c88 => ?_)
          · refine r_iload_n (q := 99) (z := 1) C 1 rfl (by decide +kernel) rfl rfl ?_
            refine r_iconst (q := 100) (z := 2) (v := 2) C rfl (by decide +kernel) (by decide) ?_
            refine r_icmp_ne (q := 103) (off := 10) (tgt := 110) C rfl (by decide +kernel) (by decide) (fun c100 => ?_) (fun c100 => ?_)
            · refine r_iload_n (q := 111) (z := 1) C 1 rfl (by decide +kernel) rfl rfl ?_
              refine r_iconst (q := 112) (z := 3) (v := 3) C rfl (by decide +kernel) (by decide) ?_
              refine r_icmp_ne (q := 115) (off := 7) (tgt := 119) C rfl (by decide +kernel) (by decide) (fun c112 => ?_) (fun c112 => ?_)
              · refine r_iload_n (q := 120) (z := 1) C 1 rfl (by decide +kernel) rfl rfl ?_
                refine r_iconst (q := 121) (z := 4) (v := 4) C rfl (by decide +kernel) (by decide) ?_
                refine r_icmp_ne (q := 124) (off := 7) (tgt := 128) C rfl (by decide +kernel) (by decide) (fun c121 => ?_) (fun c121 => ?_)
                · refine r_iload_n (q := 129) (z := 1) C 1 rfl (by decide +kernel) rfl rfl ?_
                  refine r_iconst (q := 130) (z := 5) (v := 5) C rfl (by decide +kernel) (by decide) ?_
                  refine r_icmp_ne (q := 133) (off := 15) (tgt := 145) C rfl (by decide +kernel) (by decide) (fun c130 => ?_) (fun c130 => ?_)
                  · refine r_iload_n (q := 146) (z := 1) C 1 rfl (by decide +kernel) rfl rfl ?_
                    refine r_bipush (q := 148) (z := 6) (v := 6) C rfl (by decide +kernel) (by decide) ?_
                    refine r_icmp_ne (q := 151) (off := 10) (tgt := 158) C rfl (by decide +kernel) (by decide) (fun c148 => ?_) (fun c148 => ?_)
                    · refine r_iload_n (q := 159) (z := 1) C 1 rfl (by decide +kernel) rfl rfl ?_
                      refine r_bipush (q := 161) (z := 7) (v := 7) C rfl (by decide +kernel) (by decide) ?_
                      refine r_icmp_ne (q := 164) (off := 10) (tgt := 171) C rfl (by decide +kernel) (by decide) (fun c161 => ?_) (fun c161 => ?_)
                      · refine r_iconst (q := 172) (z := (-1)) (v := (-1)) C rfl (by decide +kernel) (by decide) ?_
                        exact r_iret C (by decide +kernel) rfl (by decide) (by decide) (eqP hPP ⟨_, rfl, ⟨by unfold countV; first | (rw [if_pos c76]; done) | (rw [if_neg c76, if_pos c88]; done) | (rw [if_neg c76, if_neg c88, if_pos c100]; done) | (rw [if_neg c76, if_neg c88, if_neg c100, if_pos c112]; done) | (rw [if_neg c76, if_neg c88, if_neg c100, if_neg c112, if_pos c121]; done) | (rw [if_neg c76, if_neg c88, if_neg c100, if_neg c112, if_neg c121, if_pos c130]; done) | (rw [if_neg c76, if_neg c88, if_neg c100, if_neg c112, if_neg c121, if_neg c130, if_pos c148]; done) | (rw [if_neg c76, if_neg c88, if_neg c100, if_neg c112, if_neg c121, if_neg c130, if_neg c148, if_pos c161]; done) | (rw [if_neg c76, if_neg c88, if_neg c100, if_neg c112, if_neg c121, if_neg c130, if_neg c148, if_neg c161]; done) | (rw [if_pos c76]; rfl) | (rw [if_neg c76, if_pos c88]; rfl) | (rw [if_neg c76, if_neg c88, if_pos c100]; rfl) | (rw [if_neg c76, if_neg c88, if_neg c100, if_pos c112]; rfl) | (rw [if_neg c76, if_neg c88, if_neg c100, if_neg c112, if_pos c121]; rfl) | (rw [if_neg c76, if_neg c88, if_neg c100, if_neg c112, if_neg c121, if_pos c130]; rfl) | (rw [if_neg c76, if_neg c88, if_neg c100, if_neg c112, if_neg c121, if_neg c130, if_pos c148]; rfl) | (rw [if_neg c76, if_neg c88, if_neg c100, if_neg c112, if_neg c121, if_neg c130, if_neg c148, if_pos c161]; rfl) | (rw [if_neg c76, if_neg c88, if_neg c100, if_neg c112, if_neg c121, if_neg c130, if_neg c148, if_neg c161]; rfl), rfl⟩⟩)
                      · refine r_aload_n (q := 165) (z := 0) C 0 rfl (by decide +kernel) rfl rfl ?_
                        refine cV0I (q := 168) C R rfl (by decide +kernel) lk_X7_356 (c_X7_rents hm M1 W Mb1) (by decide) (by decide) (by decide) rfl (by first | exact Nat.le_of_ble_eq_true rfl | (simp only [List.map_cons, List.map_nil, List.sum_cons, List.sum_nil, rv_cat]; exact Nat.le_of_ble_eq_true rfl)) rfl hm.1 ?_
                        rintro _ _ ⟨rfl, rfl⟩
                        refine r_goto (off := 4) (tgt := 172) C (by decide +kernel) (by decide) ?_
                        exact r_iret C (by decide +kernel) rfl (by decide) (by decide) (eqP hPP ⟨_, rfl, ⟨by unfold countV; first | (rw [if_pos c76]; done) | (rw [if_neg c76, if_pos c88]; done) | (rw [if_neg c76, if_neg c88, if_pos c100]; done) | (rw [if_neg c76, if_neg c88, if_neg c100, if_pos c112]; done) | (rw [if_neg c76, if_neg c88, if_neg c100, if_neg c112, if_pos c121]; done) | (rw [if_neg c76, if_neg c88, if_neg c100, if_neg c112, if_neg c121, if_pos c130]; done) | (rw [if_neg c76, if_neg c88, if_neg c100, if_neg c112, if_neg c121, if_neg c130, if_pos c148]; done) | (rw [if_neg c76, if_neg c88, if_neg c100, if_neg c112, if_neg c121, if_neg c130, if_neg c148, if_pos c161]; done) | (rw [if_neg c76, if_neg c88, if_neg c100, if_neg c112, if_neg c121, if_neg c130, if_neg c148, if_neg c161]; done) | (rw [if_pos c76]; rfl) | (rw [if_neg c76, if_pos c88]; rfl) | (rw [if_neg c76, if_neg c88, if_pos c100]; rfl) | (rw [if_neg c76, if_neg c88, if_neg c100, if_pos c112]; rfl) | (rw [if_neg c76, if_neg c88, if_neg c100, if_neg c112, if_pos c121]; rfl) | (rw [if_neg c76, if_neg c88, if_neg c100, if_neg c112, if_neg c121, if_pos c130]; rfl) | (rw [if_neg c76, if_neg c88, if_neg c100, if_neg c112, if_neg c121, if_neg c130, if_pos c148]; rfl) | (rw [if_neg c76, if_neg c88, if_neg c100, if_neg c112, if_neg c121, if_neg c130, if_neg c148, if_pos c161]; rfl) | (rw [if_neg c76, if_neg c88, if_neg c100, if_neg c112, if_neg c121, if_neg c130, if_neg c148, if_neg c161]; rfl), rfl⟩⟩)
                    · refine r_aload_n (q := 152) (z := 0) C 0 rfl (by decide +kernel) rfl rfl ?_
                      refine r_getI (q := 155) C 7 2 450 rfl (by decide +kernel) rfl (by decide) rfl rfl wf_X7_11 win7 hm.1 ?_
                      rw [fi_ne (by decide)]
                      refine r_goto (off := 17) (tgt := 172) C (by decide +kernel) (by decide) ?_
                      exact r_iret C (by decide +kernel) rfl (by decide) (by decide) (eqP hPP ⟨_, rfl, ⟨by unfold countV; first | (rw [if_pos c76]; done) | (rw [if_neg c76, if_pos c88]; done) | (rw [if_neg c76, if_neg c88, if_pos c100]; done) | (rw [if_neg c76, if_neg c88, if_neg c100, if_pos c112]; done) | (rw [if_neg c76, if_neg c88, if_neg c100, if_neg c112, if_pos c121]; done) | (rw [if_neg c76, if_neg c88, if_neg c100, if_neg c112, if_neg c121, if_pos c130]; done) | (rw [if_neg c76, if_neg c88, if_neg c100, if_neg c112, if_neg c121, if_neg c130, if_pos c148]; done) | (rw [if_neg c76, if_neg c88, if_neg c100, if_neg c112, if_neg c121, if_neg c130, if_neg c148, if_pos c161]; done) | (rw [if_neg c76, if_neg c88, if_neg c100, if_neg c112, if_neg c121, if_neg c130, if_neg c148, if_neg c161]; done) | (rw [if_pos c76]; rfl) | (rw [if_neg c76, if_pos c88]; rfl) | (rw [if_neg c76, if_neg c88, if_pos c100]; rfl) | (rw [if_neg c76, if_neg c88, if_neg c100, if_pos c112]; rfl) | (rw [if_neg c76, if_neg c88, if_neg c100, if_neg c112, if_pos c121]; rfl) | (rw [if_neg c76, if_neg c88, if_neg c100, if_neg c112, if_neg c121, if_pos c130]; rfl) | (rw [if_neg c76, if_neg c88, if_neg c100, if_neg c112, if_neg c121, if_neg c130, if_pos c148]; rfl) | (rw [if_neg c76, if_neg c88, if_neg c100, if_neg c112, if_neg c121, if_neg c130, if_neg c148, if_pos c161]; rfl) | (rw [if_neg c76, if_neg c88, if_neg c100, if_neg c112, if_neg c121, if_neg c130, if_neg c148, if_neg c161]; rfl), rfl⟩⟩)
                  · refine r_aload_n (q := 134) (z := 0) C 0 rfl (by decide +kernel) rfl rfl ?_
                    refine r_getR (q := 137) C 7 10 458 rfl (by decide +kernel) rfl (by decide) rfl rfl wf_X7_57 win7 hm.1 ?_
                    refine r_aload_n (q := 138) (z := 0) C 0 rfl (by decide +kernel) rfl rfl ?_
                    refine r_getI (q := 141) C 7 15 463 rfl (by decide +kernel) rfl (by decide) rfl rfl wf_X7_207 win7 hm.1 ?_
                    rw [fi_ne (by decide), hh]
                    refine r_iald (q := 142) C rfl (by decide +kernel) hm.k458 (vp_in_nI hq2 (by decide)) ?_
                    rw [nI_clamp (by omega)]
                    refine r_goto (off := 30) (tgt := 172) C (by decide +kernel) (by decide) ?_
                    exact r_iret C (by decide +kernel) rfl (by decide) (by decide) (eqP hPP ⟨_, rfl, ⟨by unfold countV; first | (rw [if_pos c76]; done) | (rw [if_neg c76, if_pos c88]; done) | (rw [if_neg c76, if_neg c88, if_pos c100]; done) | (rw [if_neg c76, if_neg c88, if_neg c100, if_pos c112]; done) | (rw [if_neg c76, if_neg c88, if_neg c100, if_neg c112, if_pos c121]; done) | (rw [if_neg c76, if_neg c88, if_neg c100, if_neg c112, if_neg c121, if_pos c130]; done) | (rw [if_neg c76, if_neg c88, if_neg c100, if_neg c112, if_neg c121, if_neg c130, if_pos c148]; done) | (rw [if_neg c76, if_neg c88, if_neg c100, if_neg c112, if_neg c121, if_neg c130, if_neg c148, if_pos c161]; done) | (rw [if_neg c76, if_neg c88, if_neg c100, if_neg c112, if_neg c121, if_neg c130, if_neg c148, if_neg c161]; done) | (rw [if_pos c76]; rfl) | (rw [if_neg c76, if_pos c88]; rfl) | (rw [if_neg c76, if_neg c88, if_pos c100]; rfl) | (rw [if_neg c76, if_neg c88, if_neg c100, if_pos c112]; rfl) | (rw [if_neg c76, if_neg c88, if_neg c100, if_neg c112, if_pos c121]; rfl) | (rw [if_neg c76, if_neg c88, if_neg c100, if_neg c112, if_neg c121, if_pos c130]; rfl) | (rw [if_neg c76, if_neg c88, if_neg c100, if_neg c112, if_neg c121, if_neg c130, if_pos c148]; rfl) | (rw [if_neg c76, if_neg c88, if_neg c100, if_neg c112, if_neg c121, if_neg c130, if_neg c148, if_pos c161]; rfl) | (rw [if_neg c76, if_neg c88, if_neg c100, if_neg c112, if_neg c121, if_neg c130, if_neg c148, if_neg c161]; rfl), rfl⟩⟩)
                · refine r_iload_n (q := 125) (z := 3) C 3 rfl (by decide +kernel) rfl rfl ?_
                  refine r_goto (off := 47) (tgt := 172) C (by decide +kernel) (by decide) ?_
                  exact r_iret C (by decide +kernel) rfl (by decide) (by decide) (eqP hPP ⟨_, rfl, ⟨by unfold countV; first | (rw [if_pos c76]; done) | (rw [if_neg c76, if_pos c88]; done) | (rw [if_neg c76, if_neg c88, if_pos c100]; done) | (rw [if_neg c76, if_neg c88, if_neg c100, if_pos c112]; done) | (rw [if_neg c76, if_neg c88, if_neg c100, if_neg c112, if_pos c121]; done) | (rw [if_neg c76, if_neg c88, if_neg c100, if_neg c112, if_neg c121, if_pos c130]; done) | (rw [if_neg c76, if_neg c88, if_neg c100, if_neg c112, if_neg c121, if_neg c130, if_pos c148]; done) | (rw [if_neg c76, if_neg c88, if_neg c100, if_neg c112, if_neg c121, if_neg c130, if_neg c148, if_pos c161]; done) | (rw [if_neg c76, if_neg c88, if_neg c100, if_neg c112, if_neg c121, if_neg c130, if_neg c148, if_neg c161]; done) | (rw [if_pos c76]; rfl) | (rw [if_neg c76, if_pos c88]; rfl) | (rw [if_neg c76, if_neg c88, if_pos c100]; rfl) | (rw [if_neg c76, if_neg c88, if_neg c100, if_pos c112]; rfl) | (rw [if_neg c76, if_neg c88, if_neg c100, if_neg c112, if_pos c121]; rfl) | (rw [if_neg c76, if_neg c88, if_neg c100, if_neg c112, if_neg c121, if_pos c130]; rfl) | (rw [if_neg c76, if_neg c88, if_neg c100, if_neg c112, if_neg c121, if_neg c130, if_pos c148]; rfl) | (rw [if_neg c76, if_neg c88, if_neg c100, if_neg c112, if_neg c121, if_neg c130, if_neg c148, if_pos c161]; rfl) | (rw [if_neg c76, if_neg c88, if_neg c100, if_neg c112, if_neg c121, if_neg c130, if_neg c148, if_neg c161]; rfl), rfl⟩⟩)
              · refine r_iload_n (q := 116) (z := 2) C 2 rfl (by decide +kernel) rfl rfl ?_
                refine r_goto (off := 56) (tgt := 172) C (by decide +kernel) (by decide) ?_
                exact r_iret C (by decide +kernel) rfl (by decide) (by decide) (eqP hPP ⟨_, rfl, ⟨by unfold countV; first | (rw [if_pos c76]; done) | (rw [if_neg c76, if_pos c88]; done) | (rw [if_neg c76, if_neg c88, if_pos c100]; done) | (rw [if_neg c76, if_neg c88, if_neg c100, if_pos c112]; done) | (rw [if_neg c76, if_neg c88, if_neg c100, if_neg c112, if_pos c121]; done) | (rw [if_neg c76, if_neg c88, if_neg c100, if_neg c112, if_neg c121, if_pos c130]; done) | (rw [if_neg c76, if_neg c88, if_neg c100, if_neg c112, if_neg c121, if_neg c130, if_pos c148]; done) | (rw [if_neg c76, if_neg c88, if_neg c100, if_neg c112, if_neg c121, if_neg c130, if_neg c148, if_pos c161]; done) | (rw [if_neg c76, if_neg c88, if_neg c100, if_neg c112, if_neg c121, if_neg c130, if_neg c148, if_neg c161]; done) | (rw [if_pos c76]; rfl) | (rw [if_neg c76, if_pos c88]; rfl) | (rw [if_neg c76, if_neg c88, if_pos c100]; rfl) | (rw [if_neg c76, if_neg c88, if_neg c100, if_pos c112]; rfl) | (rw [if_neg c76, if_neg c88, if_neg c100, if_neg c112, if_pos c121]; rfl) | (rw [if_neg c76, if_neg c88, if_neg c100, if_neg c112, if_neg c121, if_pos c130]; rfl) | (rw [if_neg c76, if_neg c88, if_neg c100, if_neg c112, if_neg c121, if_neg c130, if_pos c148]; rfl) | (rw [if_neg c76, if_neg c88, if_neg c100, if_neg c112, if_neg c121, if_neg c130, if_neg c148, if_pos c161]; rfl) | (rw [if_neg c76, if_neg c88, if_neg c100, if_neg c112, if_neg c121, if_neg c130, if_neg c148, if_neg c161]; rfl), rfl⟩⟩)
            · refine r_aload_n (q := 104) (z := 0) C 0 rfl (by decide +kernel) rfl rfl ?_
              refine r_getI (q := 107) C 7 35 483 rfl (by decide +kernel) rfl (by decide) rfl rfl wf_X7_341 win7 hm.1 ?_
              rw [M1.fy]
              refine r_goto (off := 65) (tgt := 172) C (by decide +kernel) (by decide) ?_
              exact r_iret C (by decide +kernel) rfl (by decide) (by decide) (eqP hPP ⟨_, rfl, ⟨by unfold countV; first | (rw [if_pos c76]; done) | (rw [if_neg c76, if_pos c88]; done) | (rw [if_neg c76, if_neg c88, if_pos c100]; done) | (rw [if_neg c76, if_neg c88, if_neg c100, if_pos c112]; done) | (rw [if_neg c76, if_neg c88, if_neg c100, if_neg c112, if_pos c121]; done) | (rw [if_neg c76, if_neg c88, if_neg c100, if_neg c112, if_neg c121, if_pos c130]; done) | (rw [if_neg c76, if_neg c88, if_neg c100, if_neg c112, if_neg c121, if_neg c130, if_pos c148]; done) | (rw [if_neg c76, if_neg c88, if_neg c100, if_neg c112, if_neg c121, if_neg c130, if_neg c148, if_pos c161]; done) | (rw [if_neg c76, if_neg c88, if_neg c100, if_neg c112, if_neg c121, if_neg c130, if_neg c148, if_neg c161]; done) | (rw [if_pos c76]; rfl) | (rw [if_neg c76, if_pos c88]; rfl) | (rw [if_neg c76, if_neg c88, if_pos c100]; rfl) | (rw [if_neg c76, if_neg c88, if_neg c100, if_pos c112]; rfl) | (rw [if_neg c76, if_neg c88, if_neg c100, if_neg c112, if_pos c121]; rfl) | (rw [if_neg c76, if_neg c88, if_neg c100, if_neg c112, if_neg c121, if_pos c130]; rfl) | (rw [if_neg c76, if_neg c88, if_neg c100, if_neg c112, if_neg c121, if_neg c130, if_pos c148]; rfl) | (rw [if_neg c76, if_neg c88, if_neg c100, if_neg c112, if_neg c121, if_neg c130, if_neg c148, if_pos c161]; rfl) | (rw [if_neg c76, if_neg c88, if_neg c100, if_neg c112, if_neg c121, if_neg c130, if_neg c148, if_neg c161]; rfl), rfl⟩⟩)
          · refine r_aload_n (q := 92) (z := 0) C 0 rfl (by decide +kernel) rfl rfl ?_
            refine cV0I (q := 95) C R rfl (by decide +kernel) lk_X7_304 (c_X7_lying hm M1 W) (by decide) (by decide) (by decide) rfl (by first | exact Nat.le_of_ble_eq_true rfl | (simp only [List.map_cons, List.map_nil, List.sum_cons, List.sum_nil, rv_cat]; exact Nat.le_of_ble_eq_true rfl)) rfl hm.1 ?_
            rintro _ _ ⟨rfl, rfl⟩
            refine r_goto (off := 77) (tgt := 172) C (by decide +kernel) (by decide) ?_
            exact r_iret C (by decide +kernel) rfl (by decide) (by decide) (eqP hPP ⟨_, rfl, ⟨by unfold countV; first | (rw [if_pos c76]; done) | (rw [if_neg c76, if_pos c88]; done) | (rw [if_neg c76, if_neg c88, if_pos c100]; done) | (rw [if_neg c76, if_neg c88, if_neg c100, if_pos c112]; done) | (rw [if_neg c76, if_neg c88, if_neg c100, if_neg c112, if_pos c121]; done) | (rw [if_neg c76, if_neg c88, if_neg c100, if_neg c112, if_neg c121, if_pos c130]; done) | (rw [if_neg c76, if_neg c88, if_neg c100, if_neg c112, if_neg c121, if_neg c130, if_pos c148]; done) | (rw [if_neg c76, if_neg c88, if_neg c100, if_neg c112, if_neg c121, if_neg c130, if_neg c148, if_pos c161]; done) | (rw [if_neg c76, if_neg c88, if_neg c100, if_neg c112, if_neg c121, if_neg c130, if_neg c148, if_neg c161]; done) | (rw [if_pos c76]; rfl) | (rw [if_neg c76, if_pos c88]; rfl) | (rw [if_neg c76, if_neg c88, if_pos c100]; rfl) | (rw [if_neg c76, if_neg c88, if_neg c100, if_pos c112]; rfl) | (rw [if_neg c76, if_neg c88, if_neg c100, if_neg c112, if_pos c121]; rfl) | (rw [if_neg c76, if_neg c88, if_neg c100, if_neg c112, if_neg c121, if_pos c130]; rfl) | (rw [if_neg c76, if_neg c88, if_neg c100, if_neg c112, if_neg c121, if_neg c130, if_pos c148]; rfl) | (rw [if_neg c76, if_neg c88, if_neg c100, if_neg c112, if_neg c121, if_neg c130, if_neg c148, if_pos c161]; rfl) | (rw [if_neg c76, if_neg c88, if_neg c100, if_neg c112, if_neg c121, if_neg c130, if_neg c148, if_neg c161]; rfl), rfl⟩⟩)
        · refine r_aload_n (q := 80) (z := 0) C 0 rfl (by decide +kernel) rfl rfl ?_
          refine r_getI (q := 83) C 7 24 472 rfl (by decide +kernel) rfl (by decide) rfl rfl wf_X7_243 win7 hm.1 ?_
          rw [M1.fn]
          refine r_goto (off := 89) (tgt := 172) C (by decide +kernel) (by decide) ?_
          exact r_iret C (by decide +kernel) rfl (by decide) (by decide) (eqP hPP ⟨_, rfl, ⟨by unfold countV; first | (rw [if_pos c76]; done) | (rw [if_neg c76, if_pos c88]; done) | (rw [if_neg c76, if_neg c88, if_pos c100]; done) | (rw [if_neg c76, if_neg c88, if_neg c100, if_pos c112]; done) | (rw [if_neg c76, if_neg c88, if_neg c100, if_neg c112, if_pos c121]; done) | (rw [if_neg c76, if_neg c88, if_neg c100, if_neg c112, if_neg c121, if_pos c130]; done) | (rw [if_neg c76, if_neg c88, if_neg c100, if_neg c112, if_neg c121, if_neg c130, if_pos c148]; done) | (rw [if_neg c76, if_neg c88, if_neg c100, if_neg c112, if_neg c121, if_neg c130, if_neg c148, if_pos c161]; done) | (rw [if_neg c76, if_neg c88, if_neg c100, if_neg c112, if_neg c121, if_neg c130, if_neg c148, if_neg c161]; done) | (rw [if_pos c76]; rfl) | (rw [if_neg c76, if_pos c88]; rfl) | (rw [if_neg c76, if_neg c88, if_pos c100]; rfl) | (rw [if_neg c76, if_neg c88, if_neg c100, if_pos c112]; rfl) | (rw [if_neg c76, if_neg c88, if_neg c100, if_neg c112, if_pos c121]; rfl) | (rw [if_neg c76, if_neg c88, if_neg c100, if_neg c112, if_neg c121, if_pos c130]; rfl) | (rw [if_neg c76, if_neg c88, if_neg c100, if_neg c112, if_neg c121, if_neg c130, if_pos c148]; rfl) | (rw [if_neg c76, if_neg c88, if_neg c100, if_neg c112, if_neg c121, if_neg c130, if_neg c148, if_pos c161]; rfl) | (rw [if_neg c76, if_neg c88, if_neg c100, if_neg c112, if_neg c121, if_neg c130, if_neg c148, if_neg c161]; rfl), rfl⟩⟩)
      · have hlt : k < σ.n := Nat.lt_of_not_le (fun e => c48 (nI_le e (by omega)))
        refine r_iload_n (q := 52) (z := 3) C 3 rfl (by decide +kernel) rfl rfl ?_
        refine r_aload_n (q := 53) (z := 0) C 0 rfl (by decide +kernel) rfl rfl ?_
        refine r_getR (q := 56) C 7 31 479 rfl (by decide +kernel) rfl (by decide) rfl rfl wf_X7_106 win7 hm.1 ?_
        refine r_iload (q := 58) C 4 rfl (by decide +kernel) rfl ?_
        refine r_iald (q := 59) C rfl (by decide +kernel) hm.k479 (vp_in_nI (by omega) (by decide)) ?_
        rw [nI_clamp (by omega), M1.art (by omega)]
        refine r_if_lt (q := 62) (off := 7) (tgt := 66) C rfl (by decide +kernel) (by decide) (fun c59 => ?_) (fun c59 => ?_)
        · have e67 : nI (rtN σ k) + 0 = nI (rtN σ (k + 1)) := by rw [rtN_n (pl_neg.mp c59)]; exact nI_add _ 0
          refine r_iconst (q := 67) (z := 0) (v := 0) C rfl (by decide +kernel) (by decide) ?_
          refine r_iadd (q := 68) C rfl (by decide +kernel) ?_
          rw [e67]
          refine r_istore_n (q := 69) (z := 3) C 3 rfl (by decide +kernel) rfl (by decide) (by first | rfl | exact okst_rv rfl) ?_
          dsimp only [List.set]
          refine r_iinc (q := 72) (z := 1) (v := 1) C 4 rfl (by decide +kernel) rfl (by decide) (by decide) (by first | rfl | exact okst_rv rfl) ?_
          dsimp only [List.set]
          rw [nI_1]
          refine r_goto (off := -30) (tgt := 42) C (by decide +kernel) (by decide) ?_
          exact ih42 (k + 1) (by omega) (by omega)
        · have e67 : nI (rtN σ k) + 1 = nI (rtN σ (k + 1)) := by rw [rtN_y (pl_nn.mp c59)]; exact nI_1 _
          refine r_iconst (q := 63) (z := 1) (v := 1) C rfl (by decide +kernel) (by decide) ?_
          refine r_goto (off := 4) (tgt := 67) C (by decide +kernel) (by decide) ?_
          refine r_iadd (q := 68) C rfl (by decide +kernel) ?_
          rw [e67]
          refine r_istore_n (q := 69) (z := 3) C 3 rfl (by decide +kernel) rfl (by decide) (by first | rfl | exact okst_rv rfl) ?_
          dsimp only [List.set]
          refine r_iinc (q := 72) (z := 1) (v := 1) C 4 rfl (by decide +kernel) rfl (by decide) (by decide) (by first | rfl | exact okst_rv rfl) ?_
          dsimp only [List.set]
          rw [nI_1]
          refine r_goto (off := -30) (tgt := 42) C (by decide +kernel) (by decide) ?_
          exact ih42 (k + 1) (by omega) (by omega)
  refine r_iconst (q := 6) (z := 0) (v := 0) C rfl (by decide +kernel) (by decide) ?_
  refine r_istore_n (q := 7) (z := 2) C 2 rfl (by decide +kernel) rfl (by decide) (by first | rfl | exact okst_rv rfl) ?_
  dsimp only [List.set]
  refine r_iconst (q := 8) (z := 0) (v := 0) C rfl (by decide +kernel) (by decide) ?_
  refine r_istore_n (q := 9) (z := 3) C 3 rfl (by decide +kernel) rfl (by decide) (by first | rfl | exact okst_rv rfl) ?_
  dsimp only [List.set]
  have L9 : ∀ (fuel9 : Nat) (k : Nat), 120 - k < fuel9 → (k ≤ 120) → wX G Γ (qM G Γ PP 0 0) 0 0 (h.setI 448 m 0) 9 [some (rv m), some (.int w), some (.int (nI (frN σ k))), some (.int (nI k)), none] [] := by
    intro fuel9
    induction fuel9 with
    | zero =>
      intro k hm9
      exact absurd hm9 (Nat.not_lt_zero _)
    | succ fuel9 ih9 =>
      intro k hm9 hk
      refine r_iload_n (q := 10) (z := 3) C 3 rfl (by decide +kernel) rfl rfl ?_
      refine r_bipush (q := 12) (z := 120) (v := 120) C rfl (by decide +kernel) (by decide) ?_
      refine r_icmp_ge (q := 15) (off := 25) (tgt := 37) C rfl (by decide +kernel) (by decide) (fun c12 => ?_) (fun c12 => ?_)
      · have ek : k = 120 := by have := (nI_leI (a := 120) (by omega) (by omega)).mp c12; omega
        subst ek
        refine r_iconst (q := 38) (z := 0) (v := 0) C rfl (by decide +kernel) (by decide) ?_
        refine r_istore_n (q := 39) (z := 3) C 3 rfl (by decide +kernel) rfl (by decide) (by first | rfl | exact okst_rv rfl) ?_
        dsimp only [List.set]
        refine r_iconst (q := 40) (z := 0) (v := 0) C rfl (by decide +kernel) (by decide) ?_
        refine r_istore (q := 42) C 4 rfl (by decide +kernel) (by decide) (by first | rfl | exact okst_rv rfl) ?_
        dsimp only [List.set]
        exact L42 (σ.n + 1) 0 (by omega) (by omega)
      · have hlt : k < 120 := Nat.lt_of_not_le (fun e => c12 (nI_le (a := 120) e (by omega)))
        refine r_iload_n (q := 16) (z := 2) C 2 rfl (by decide +kernel) rfl rfl ?_
        refine r_aload_n (q := 17) (z := 0) C 0 rfl (by decide +kernel) rfl rfl ?_
        refine r_iload_n (q := 18) (z := 3) C 3 rfl (by decide +kernel) rfl rfl ?_
        refine cV1I (q := 21) C R rfl (by decide +kernel) lk_X7_286 (c_X7_isFree hm M1 W hlt) (by decide) (by decide) (by decide) rfl (by first | exact Nat.le_of_ble_eq_true rfl | (simp only [List.map_cons, List.map_nil, List.sum_cons, List.sum_nil, rv_cat]; exact Nat.le_of_ble_eq_true rfl)) rfl hm.1 ?_
        rintro _ _ ⟨rfl, rfl⟩
        refine r_if_eq (q := 24) (off := 7) (tgt := 28) C rfl (by decide +kernel) (by decide) (fun c21 => ?_) (fun c21 => ?_)
        · have e29 : nI (frN σ k) + 0 = nI (frN σ (k + 1)) := by rw [frN_n ((b2i_0 _).mp c21)]; exact nI_add _ 0
          refine r_iconst (q := 29) (z := 0) (v := 0) C rfl (by decide +kernel) (by decide) ?_
          refine r_iadd (q := 30) C rfl (by decide +kernel) ?_
          rw [e29]
          refine r_istore_n (q := 31) (z := 2) C 2 rfl (by decide +kernel) rfl (by decide) (by first | rfl | exact okst_rv rfl) ?_
          dsimp only [List.set]
          refine r_iinc (q := 34) (z := 1) (v := 1) C 3 rfl (by decide +kernel) rfl (by decide) (by decide) (by first | rfl | exact okst_rv rfl) ?_
          dsimp only [List.set]
          rw [nI_1]
          refine r_goto (off := -25) (tgt := 9) C (by decide +kernel) (by decide) ?_
          exact wX.sub (lsub_s (lsub_s (lsub_s (lsub_s (lsub_n (lsub_nil)))))) (ih9 (k + 1) (by omega) (by omega))
        · have e29 : nI (frN σ k) + 1 = nI (frN σ (k + 1)) := by rw [frN_y ((b2i_n0 _).mp c21)]; exact nI_1 _
          refine r_iconst (q := 25) (z := 1) (v := 1) C rfl (by decide +kernel) (by decide) ?_
          refine r_goto (off := 4) (tgt := 29) C (by decide +kernel) (by decide) ?_
          refine r_iadd (q := 30) C rfl (by decide +kernel) ?_
          rw [e29]
          refine r_istore_n (q := 31) (z := 2) C 2 rfl (by decide +kernel) rfl (by decide) (by first | rfl | exact okst_rv rfl) ?_
          dsimp only [List.set]
          refine r_iinc (q := 34) (z := 1) (v := 1) C 3 rfl (by decide +kernel) rfl (by decide) (by decide) (by first | rfl | exact okst_rv rfl) ?_
          dsimp only [List.set]
          rw [nI_1]
          refine r_goto (off := -25) (tgt := 9) C (by decide +kernel) (by decide) ?_
          exact wX.sub (lsub_s (lsub_s (lsub_s (lsub_s (lsub_n (lsub_nil)))))) (ih9 (k + 1) (by omega) (by omega))
  exact wX.sub (lsub_s (lsub_s (lsub_s (lsub_s (lsub_n (lsub_nil)))))) (L9 121 0 (by omega) (by omega))
theorem c_X7_firstPlace {G : GT} {h : HP} {m : Nat} {σ : SG} {r : Nat} (hm : LM h.kd h.gl h.fr m) (M : MR σ h m) (W : WF σ) (hr : r < σ.n) : Con G 8 0 0 yX7_firstPlace cX7_firstPlace 3 (some .int) [rv m, .int (nI r)] h (PI (fun v h' => ∃ (q : Nat) (f g : Nat → Int32), pl q = v ∧ frst σ r q ∧ scr h m f g = h')) := by
  refine Con.of (lv := [some (rv m), some (.int (nI r)), none]) (by decide) (by simp only [lvE_r, lvE_i, lvE_l, lvE_s, lvE_0]; rfl) (by simp only [lgl_r, lgl_i, lgl_l, lgl_s, lgl_0]; decide) (fun Γ C R => ?_)
  generalize hPP : (PI (fun v h' => ∃ (q : Nat) (f g : Nat → Int32), pl q = v ∧ frst σ r q ∧ scr h m f g = h')) = PP
  refine r_iconst (q := 1) (z := 0) (v := 0) C rfl (by decide +kernel) (by decide) ?_
  refine r_istore_n (q := 2) (z := 2) C 2 rfl (by decide +kernel) rfl (by decide) (by first | rfl | exact okst_rv rfl) ?_
  dsimp only [List.set]
  have L2 : ∀ (fuel2 : Nat) (p : Nat) (f g : Nat → Int32), 240 - p < fuel2 → (p ≤ 240) → (∀ q, q < p → ¬ σ.fit r q) → wX G Γ (qM G Γ PP 0 0) 0 0 (scr h m f g) 2 [some (rv m), some (.int (nI r)), some (.int (nI p))] [] := by
    intro fuel2
    induction fuel2 with
    | zero =>
      intro p f g hm2
      exact absurd hm2 (Nat.not_lt_zero _)
    | succ fuel2 ih2 =>
      intro p f g hm2 hp hno
      refine r_iload_n (q := 3) (z := 2) C 2 rfl (by decide +kernel) rfl rfl ?_
      refine r_sipush (q := 6) (z := 240) (v := 240) C rfl (by decide +kernel) (by decide) ?_
      refine r_icmp_ge (q := 9) (off := 20) (tgt := 26) C rfl (by decide +kernel) (by decide) (fun c6 => ?_) (fun c6 => ?_)
      · have ep : p = 240 := by have := (nI_leI (a := 240) (by omega) (by omega)).mp c6; omega
        refine r_iconst (q := 27) (z := (-1)) (v := (-1)) C rfl (by decide +kernel) (by decide) ?_
        exact r_iret C (by decide +kernel) rfl (by decide) (by decide) (eqP hPP ⟨_, rfl, ⟨240, _, _, rfl, ⟨by omega, fun e => absurd e (by decide), fun q hq => hno q (by omega)⟩, rfl⟩⟩)
      · have hlt : p < 240 := Nat.lt_of_not_le (fun e => c6 (nI_le (a := 240) e (by omega)))
        refine r_aload_n (q := 10) (z := 0) C 0 rfl (by decide +kernel) rfl rfl ?_
        refine r_iload_n (q := 11) (z := 1) C 1 rfl (by decide +kernel) rfl rfl ?_
        refine r_iload_n (q := 12) (z := 2) C 2 rfl (by decide +kernel) rfl rfl ?_
        refine cV2I (q := 15) C R rfl (by decide +kernel) lk_X7_323 (c_X7_fitsAt hm (M.scr hm) W hr hlt) (by decide) (by decide) (by decide) rfl (by first | exact Nat.le_of_ble_eq_true rfl | (simp only [List.map_cons, List.map_nil, List.sum_cons, List.sum_nil, rv_cat]; exact Nat.le_of_ble_eq_true rfl)) rfl hm.1 ?_
        rintro _ _ ⟨t12, f12, g12, rfl, ht12, rfl⟩
        rw [scr_scr hm]
        refine r_if_eq (q := 18) (off := 5) (tgt := 20) C rfl (by decide +kernel) (by decide) (fun c15 => ?_) (fun c15 => ?_)
        · refine r_iinc (q := 23) (z := 1) (v := 1) C 2 rfl (by decide +kernel) rfl (by decide) (by decide) (by first | rfl | exact okst_rv rfl) ?_
          dsimp only [List.set]
          rw [nI_1]
          refine r_goto (off := -21) (tgt := 2) C (by decide +kernel) (by decide) ?_
          exact ih2 (p + 1) _ _ (by omega) (by omega) (fun q hq hf => by
            by_cases e : q = p
            · subst e; have := ht12.mpr hf; rw [(b2i_0 _).mp c15] at this; cases this
            · exact hno q (by omega) hf)
        · refine r_iload_n (q := 19) (z := 2) C 2 rfl (by decide +kernel) rfl rfl ?_
          exact r_iret C (by decide +kernel) rfl (by decide) (by decide) (eqP hPP ⟨_, rfl, ⟨p, _, _, pl_in hlt, ⟨by omega, fun _ => ht12.mp ((b2i_n0 _).mp c15), hno⟩, rfl⟩⟩)
  have z0 := L2 241 0 (h.ai (h.fr 486 m)) (h.ai (h.fr 487 m)) (by omega) (by omega) (fun q hq => absurd hq (Nat.not_lt_zero q))
  rw [scr_self] at z0
  exact z0
theorem c_X7_nextAsked {G : GT} {h : HP} {m : Nat} {σ : SG} {as : Nat → Bool} (hm : LM h.kd h.gl h.fr m) (M : MR σ h m) (W : WF σ) (ha : Fl (h.ai (h.fr 488 m)) as σ.n) : Con G 2 0 0 yX7_nextAsked cX7_nextAsked 3 (some .int) [rv m] h (PI (fun v h' => bx (bestN σ as σ.n) = v ∧ (if bestN σ as σ.n < 10 then h.row (h.fr 488 m) (upd (h.ai (h.fr 488 m)) (bestN σ as σ.n) 0) else h) = h')) := by
  refine Con.of (lv := [some (rv m), none, none]) (by decide) (by simp only [lvE_r, lvE_i, lvE_l, lvE_s, lvE_0]; rfl) (by simp only [lgl_r, lgl_i, lgl_l, lgl_s, lgl_0]; decide) (fun Γ C R => ?_)
  generalize hPP : (PI (fun v h' => bx (bestN σ as σ.n) = v ∧ (if bestN σ as σ.n < 10 then h.row (h.fr 488 m) (upd (h.ai (h.fr 488 m)) (bestN σ as σ.n) 0) else h) = h')) = PP
  have r10 := W.n10
  refine r_iconst (q := 1) (z := (-1)) (v := (-1)) C rfl (by decide +kernel) (by decide) ?_
  refine r_istore_n (q := 2) (z := 1) C 1 rfl (by decide +kernel) rfl (by decide) (by first | rfl | exact okst_rv rfl) ?_
  dsimp only [List.set]
  refine r_iconst (q := 3) (z := 0) (v := 0) C rfl (by decide +kernel) (by decide) ?_
  refine r_istore_n (q := 4) (z := 2) C 2 rfl (by decide +kernel) rfl (by decide) (by first | rfl | exact okst_rv rfl) ?_
  dsimp only [List.set]
  have L4 : ∀ (fuel4 : Nat) (k : Nat), σ.n - k < fuel4 → (k ≤ σ.n) → wX G Γ (qM G Γ PP 0 0) 0 0 (h) 4 [some (rv m), some (.int (bx (bestN σ as k))), some (.int (nI k))] [] := by
    intro fuel4
    induction fuel4 with
    | zero =>
      intro k hm4
      exact absurd hm4 (Nat.not_lt_zero _)
    | succ fuel4 ih4 =>
      intro k hm4 hk
      refine r_iload_n (q := 5) (z := 2) C 2 rfl (by decide +kernel) rfl rfl ?_
      refine r_aload_n (q := 6) (z := 0) C 0 rfl (by decide +kernel) rfl rfl ?_
      refine r_getI (q := 9) C 7 24 472 rfl (by decide +kernel) rfl (by decide) rfl rfl wf_X7_243 win7 hm.1 ?_
      rw [M.fn]
      refine r_icmp_ge (q := 12) (off := 43) (tgt := 52) C rfl (by decide +kernel) (by decide) (fun c9 => ?_) (fun c9 => ?_)
      · have ek : k = σ.n := by have := (nI_leI (by omega) (by omega)).mp c9; omega
        subst ek
        refine r_iload_n (q := 53) (z := 1) C 1 rfl (by decide +kernel) rfl rfl ?_
        refine r_if_lt (q := 56) (off := 10) (tgt := 63) C rfl (by decide +kernel) (by decide) (fun c53 => ?_) (fun c53 => ?_)
        · have hb := bx_neg.mp c53
          refine r_iload_n (q := 64) (z := 1) C 1 rfl (by decide +kernel) rfl rfl ?_
          exact r_iret C (by decide +kernel) rfl (by decide) (by decide) (eqP hPP ⟨_, rfl, ⟨rfl, by first | rw [if_pos hb] | rw [if_neg hb]⟩⟩)
        · have hb : bestN σ as σ.n < 10 := by
            rcases Nat.lt_or_ge (bestN σ as σ.n) 10 with e | e
            · exact e
            · exact absurd (bx_neg.mpr (by omega)) c53
          refine r_aload_n (q := 57) (z := 0) C 0 rfl (by decide +kernel) rfl rfl ?_
          refine r_getR (q := 60) C 7 40 488 rfl (by decide +kernel) rfl (by decide) rfl rfl wf_X7_127 win7 hm.1 ?_
          refine r_iload_n (q := 61) (z := 1) C 1 rfl (by decide +kernel) rfl rfl ?_
          refine r_iconst (q := 62) (z := 0) (v := 0) C rfl (by decide +kernel) (by decide) ?_
          refine r_zast (q := 63) C rfl (by decide +kernel) (show vp_nar .boolean 0 = 0 by decide) hm.k488 (by rw [bx_in hb]; exact vp_in_nI hb (by decide)) ?_
          rw [stI_row, show (bx (bestN σ as σ.n)).toNatClampNeg = bestN σ as σ.n by rw [bx_in hb]; exact nI_clamp (by omega)]
          refine r_iload_n (q := 64) (z := 1) C 1 rfl (by decide +kernel) rfl rfl ?_
          exact r_iret C (by decide +kernel) rfl (by decide) (by decide) (eqP hPP ⟨_, rfl, ⟨rfl, by first | rw [if_pos hb] | rw [if_neg hb]⟩⟩)
      · have hlt : k < σ.n := Nat.lt_of_not_le (fun e => c9 (nI_le e (by omega)))
        have J45 : ∀ (v : Int32), (v = bx (bestN σ as (k + 1))) → wX G Γ (qM G Γ PP 0 0) 0 0 (h) 45 [some (rv m), some (.int (bx (bestN σ as k))), some (.int (nI k))] [.int v] := by
          intro v hv
          subst hv
          refine r_istore_n (q := 46) (z := 1) C 1 rfl (by decide +kernel) rfl (by decide) (by first | rfl | exact okst_rv rfl) ?_
          dsimp only [List.set]
          refine r_iinc (q := 49) (z := 1) (v := 1) C 2 rfl (by decide +kernel) rfl (by decide) (by decide) (by first | rfl | exact okst_rv rfl) ?_
          dsimp only [List.set]
          rw [nI_1]
          refine r_goto (off := -45) (tgt := 4) C (by decide +kernel) (by decide) ?_
          exact ih4 (k + 1) (by omega) (by omega)
        refine r_aload_n (q := 13) (z := 0) C 0 rfl (by decide +kernel) rfl rfl ?_
        refine r_getR (q := 16) C 7 40 488 rfl (by decide +kernel) rfl (by decide) rfl rfl wf_X7_127 win7 hm.1 ?_
        refine r_iload_n (q := 17) (z := 2) C 2 rfl (by decide +kernel) rfl rfl ?_
        refine r_zald (q := 18) C rfl (by decide +kernel) hm.k488 (vp_in_nI (by omega) (by decide)) ?_
        rw [nI_clamp (by omega), ha _ (by omega)]
        refine r_if_eq (q := 21) (off := 26) (tgt := 44) C rfl (by decide +kernel) (by decide) (fun c18 => ?_) (fun c18 => ?_)
        · have ev : bx (bestN σ as k) = bx (bestN σ as (k + 1)) := by simp [bestN, (b2i_0 _).mp c18]
          refine r_iload_n (q := 45) (z := 1) C 1 rfl (by decide +kernel) rfl rfl ?_
          exact J45 _ ev
        · refine r_iload_n (q := 22) (z := 1) C 1 rfl (by decide +kernel) rfl rfl ?_
          refine r_if_lt (q := 25) (off := 18) (tgt := 40) C rfl (by decide +kernel) (by decide) (fun c22 => ?_) (fun c22 => ?_)
          · have ev : nI k = bx (bestN σ as (k + 1)) := by have h1 := bx_neg.mp c22; simp only [bestN]; rw [(b2i_n0 _).mp c18]; simp [h1, bx_in (show k < 10 by omega)]
            refine r_iload_n (q := 41) (z := 2) C 2 rfl (by decide +kernel) rfl rfl ?_
            refine r_goto (off := 4) (tgt := 45) C (by decide +kernel) (by decide) ?_
            exact J45 _ ev
          · have hb : bestN σ as k < 10 := by
              rcases Nat.lt_or_ge (bestN σ as k) 10 with e | e
              · exact e
              · exact absurd (bx_neg.mpr (by omega)) c22
            have hbk := bestN_lt (by omega) hb
            have hw1 := (W.2.2.1 k hlt).2.2.2.2.2.2
            have hw2 := (W.2.2.1 (bestN σ as k) (by omega)).2.2.2.2.2.2
            refine r_aload_n (q := 26) (z := 0) C 0 rfl (by decide +kernel) rfl rfl ?_
            refine r_getR (q := 29) C 7 29 477 rfl (by decide +kernel) rfl (by decide) rfl rfl wf_X7_100 win7 hm.1 ?_
            refine r_iload_n (q := 30) (z := 2) C 2 rfl (by decide +kernel) rfl rfl ?_
            refine r_iald (q := 31) C rfl (by decide +kernel) hm.k477 (vp_in_nI (by omega) (by decide)) ?_
            rw [nI_clamp (by omega), M.ark (by omega)]
            refine r_aload_n (q := 32) (z := 0) C 0 rfl (by decide +kernel) rfl rfl ?_
            refine r_getR (q := 35) C 7 29 477 rfl (by decide +kernel) rfl (by decide) rfl rfl wf_X7_100 win7 hm.1 ?_
            refine r_iload_n (q := 36) (z := 1) C 1 rfl (by decide +kernel) rfl rfl ?_
            refine r_iald (q := 37) C rfl (by decide +kernel) hm.k477 (by rw [bx_in hb]; exact vp_in_nI hb (by decide)) ?_
            rw [show (bx (bestN σ as k)).toNatClampNeg = bestN σ as k by rw [bx_in hb]; exact nI_clamp (by omega)]
            rw [M.ark (by omega)]
            refine r_icmp_le (q := 40) (off := 7) (tgt := 44) C rfl (by decide +kernel) (by decide) (fun c37 => ?_) (fun c37 => ?_)
            · rw [nI_leI (by omega) (by omega)] at c37
              have ev : bx (bestN σ as k) = bx (bestN σ as (k + 1)) := by simp only [bestN]; rw [if_neg]; simp [hb]; omega
              refine r_iload_n (q := 45) (z := 1) C 1 rfl (by decide +kernel) rfl rfl ?_
              exact J45 _ ev
            · rw [nI_leI (by omega) (by omega)] at c37
              have ev : nI k = bx (bestN σ as (k + 1)) := by simp only [bestN]; rw [if_pos, bx_in (by omega)]; rw [(b2i_n0 _).mp c18]; simp [hb]; omega
              refine r_iload_n (q := 41) (z := 2) C 2 rfl (by decide +kernel) rfl rfl ?_
              refine r_goto (off := 4) (tgt := 45) C (by decide +kernel) (by decide) ?_
              exact J45 _ ev
  exact L4 (σ.n + 1) 0 (by omega) (by omega)
