/-! the class reads lines -/
def RSo (T : TT) (k r a : Nat) (lw : LW) (i : Nat) (h : HP) : Prop := RDl h r ∧ (k = 100 ∨ k = 200) ∧ LwL h.kd h.gl h.fr a k ∧ CKT T h r ∧ h.fi 132 r = nI i ∧ i ≤ T.N ∧ CL lw h a
theorem RSo.adv {T : TT} {k r a : Nat} {lw : LW} {i : Nat} {h : HP} (S : RSo T k r a lw i h) (hi : i + 1 ≤ T.N) : RSo T k r a lw (i + 1) (h.setI 132 r (nI (i + 1))) := by
  obtain ⟨s1, s2, s3, s4, s5, s6, s7⟩ := S
  exact ⟨s1, s2, s3, CKT.fd (a := a) s2 s1 (FdL.rd FdL.rf (Or.inl rfl)) s4, fi_eq, hi, s7.congr (fi_ne (by decide)) (fi_ne (by decide)) rfl rfl rfl⟩
theorem RSo.begin {T : TT} {k r a : Nat} {lw : LW} {i : Nat} {h : HP} {b : Bool} (S : RSo T k r a lw i h) (hn : lw.length < 16) : RSt T k r a lw b i [] (((h.row (h.fr 66 a) (upd (h.ai (h.fr 66 a)) lw.length (nI (tot lw)))).row (h.fr 67 a) (upd ((h.row (h.fr 66 a) (upd (h.ai (h.fr 66 a)) lw.length (nI (tot lw)))).ai (h.fr 67 a)) lw.length (b2i (!b)))).setI 69 a (nI (lw.length + 1))) := by
  obtain ⟨s1, s2, s3, s4, s5, s6, s7⟩ := S
  exact ⟨s1, s2, s3, CKT.fd (a := a) s2 s1 (FdL.bg s3 FdL.rf) s4, (fi_ne (by decide)).trans s5, s6, s7.begin s3 hn⟩
theorem b2i_tt {b : Bool} : ¬ b2i b = 0 ↔ b = true := by cases b <;> decide
theorem stA_e {T : TT} {j : Nat} {cd : Cd} (h : T.kd j ≠ 6) : stA T j 0 [] cd = .inr (.inr (j, cd)) := by unfold stA; rw [if_neg h]; rfl
/-! a fault's number -/
def isF (T : TT) (f : Nat) : Prop := ∃ k j, (k = 1 ∨ k = 5) ∧ f = fq T k j
theorem isF.lt {T : TT} {f : Nat} (W : TW T) (h : isF T f) : 0 < f ∧ f < 10000 := by
  obtain ⟨k, j, hk, rfl⟩ := h
  have := W.pl j
  unfold fq; omega
theorem mst_f {T : TT} {c : CF} {f : Nat} (h : mst T c = .inr (.inl f)) : isF T f := by
  obtain ⟨ph, i, fs, cd⟩ := c
  have hA : ∀ w t cd, stA T i w t cd = .inr (.inl f) → isF T f := by
    intro w t cd h
    unfold stA at h
    split at h
    · cases h
    · cases t with
      | nil => cases h
      | cons x t =>
        simp only at h
        split at h
        · cases h
        · cases h; exact ⟨1, i, Or.inl rfl, rfl⟩
  cases ph with
  | true =>
    have h : stP T i fs cd = .inr (.inl f) := h
    unfold stP at h
    split at h
    · split at h
      · cases h; exact ⟨5, i, Or.inr rfl, rfl⟩
      · split at h <;> cases h
    · cases h; exact ⟨1, i, Or.inl rfl, rfl⟩
  | false =>
    have h : stB T i fs cd = .inr (.inl f) := h
    cases fs with
    | nil => cases h
    | cons x t =>
      obtain ⟨s, g, a⟩ := x
      unfold stB at h
      simp only at h
      split at h
      · cases h
      · split at h
        · cases h
        · exact hA _ _ _ h
theorem RR.f {T : TT} {c : CF} {f : Nat} (h : RR T c (.inl f)) : isF T f := by
  obtain ⟨n, hn⟩ := h
  induction n generalizing c with
  | zero => cases hn
  | succ n ih =>
    simp only [run] at hn
    cases e : mst T c with
    | inl c' => rw [e] at hn; exact ih hn
    | inr r => rw [e] at hn; cases hn; exact mst_f e
theorem LN.f {T : TT} {i f : Nat} {lw : LW} (h : LN T i lw (.inl f)) : isF T f := by
  rcases h with ⟨-, -, e⟩ | ⟨-, ⟨-, e⟩ | ⟨-, ⟨-, e⟩ | ⟨-, y, hy, ⟨g, e1, e2⟩ | ⟨j, cd, e1, ⟨-, e⟩ | ⟨-, e⟩⟩⟩⟩⟩
  · cases e; exact ⟨1, i, Or.inl rfl, rfl⟩
  · cases e; exact ⟨5, i, Or.inr rfl, rfl⟩
  · cases e; exact ⟨1, i + 1, Or.inl rfl, rfl⟩
  · cases e2; rw [e1] at hy; exact hy.f
  · cases e; exact ⟨1, j, Or.inl rfl, rfl⟩
  · cases e

theorem c_X2_readLine {G : GT} {k r a i : Nat} {T : TT} {lw : LW} {h : HP} (hS : RSo T k r a lw i h) (ht : tot lw ≤ i) : Con G 21 0 0 yX2_readLine cX2_readLine 4 (some .boolean) [rv r, rv a, .int (nI lw.length)] h (PI (fun v h' => FdL k a h h' ∧ ((v = 1 ∧ ∃ j ln, i < j ∧ LN T i lw (.inr (j, lw ++ [ln])) ∧ RSo T k r a (lw ++ [ln]) j h' ∧ tot (lw ++ [ln]) ≤ j ∧ hgt ln.2 = some 1) ∨ (v = 0 ∧ ∃ f, LN T i lw (.inl f) ∧ h'.fi 133 r = nI f)))) := by
  refine Con.of (lv := [some (rv r), some (rv a), some (.int (nI lw.length)), none]) (by decide) (by simp only [lvE_r, lvE_i, lvE_l, lvE_s, lvE_0]; rfl) (by simp only [lgl_r, lgl_i, lgl_l, lgl_s, lgl_0]; decide) (fun Γ C R => ?_)
  generalize hPP : (PI (fun v h' => FdL k a h h' ∧ ((v = 1 ∧ ∃ j ln, i < j ∧ LN T i lw (.inr (j, lw ++ [ln])) ∧ RSo T k r a (lw ++ [ln]) j h' ∧ tot (lw ++ [ln]) ≤ j ∧ hgt ln.2 = some 1) ∨ (v = 0 ∧ ∃ f, LN T i lw (.inl f) ∧ h'.fi 133 r = nI f)))) = PP
  have hTW := hS.2.2.2.1.1
  have k6 := hTW.2.1
  have hi := hS.2.2.2.2.2.1
  have kl : T.kd i < 2 ^ 31 := kdlt hTW i
  have hl16 := hS.2.2.2.2.2.2.1
  have J15 : wX G Γ (qM G Γ PP 0 0) 0 0 (h) 15 [some (rv r), some (rv a), some (.int (nI lw.length)), some (.int (b2i (decide (T.kd i = 10))))] [] := by
    have J34 : (T.kd i = 10 ∨ T.kd i = 11) → wX G Γ (qM G Γ PP 0 0) 0 0 (h) 34 [some (rv r), some (rv a), some (.int (nI lw.length)), some (.int (b2i (decide (T.kd i = 10))))] [] := by
      intro  hop
      have eb : decide (T.kd i = 10) = !decide (T.kd i = 11) := by
        rcases hop with e | e <;> rw [e] <;> rfl
      rw [eb]
      have hi1 : i + 1 ≤ T.N := hTW.lt hi (by omega)
      refine r_iload_n (q := 35) (z := 2) C 2 rfl (by decide +kernel) rfl rfl ?_
      refine r_bipush (q := 37) (z := 16) (v := 16) C rfl (by decide +kernel) (by decide) ?_
      refine r_icmp_lt (q := 40) (off := 9) (tgt := 46) C rfl (by decide +kernel) (by decide) (fun c37 => ?_) (fun c37 => ?_)
      · have l16 : lw.length < 16 := (nI_ltI (b := 16) (by omega) (by decide)).mp c37
        refine r_aload_n (q := 47) (z := 0) C 0 rfl (by decide +kernel) rfl rfl ?_
        refine r_dup (q := 48) C rfl (by decide +kernel) (by first | rfl | exact rv_cat _) ?_
        refine r_getI (q := 51) C 2 4 132 rfl (by decide +kernel) rfl (by decide) rfl rfl wf_X2_25 win2 hS.1.1 ?_
        rw [hS.2.2.2.2.1]
        refine r_iconst (q := 52) (z := 1) (v := 1) C rfl (by decide +kernel) (by decide) ?_
        refine r_iadd (q := 53) C rfl (by decide +kernel) ?_
        rw [nI_1]
        refine r_putI (q := 56) C 2 4 132 rfl (by decide +kernel) rfl (by decide) rfl rfl wf_X2_25 win2 tyX2 tyX2_ok nmX2 rfl (tyX2_ok 4 (by decide)) rfl wnd2 rfl rfl hS.1.1 ?_
        have S1 := hS.adv hi1
        refine r_aload_n (q := 57) (z := 1) C 1 rfl (by decide +kernel) rfl rfl ?_
        refine r_iload_n (q := 58) (z := 3) C 3 rfl (by decide +kernel) rfl rfl ?_
        refine cV1V (q := 61) C R rfl (by decide +kernel) lk_X2_117 (c_X1_beginLine (b := !(decide (T.kd i = 11))) S1.2.2.1.1 S1.2.2.1.2.2.2.1.1 S1.2.2.1.2.2.2.2.1.1 l16 S1.2.2.2.2.2.2.2.2.1 S1.2.2.2.2.2.2.2.2.2.1) (by decide) (by decide) (by decide) rfl (by first | exact Nat.le_of_ble_eq_true rfl | (simp only [List.map_cons, List.map_nil, List.sum_cons, List.sum_nil, rv_cat]; exact Nat.le_of_ble_eq_true rfl)) rfl S1.2.2.1.1 ?_
        rintro _ rfl
        have S2 := S1.begin (b := (decide (T.kd i = 11))) l16
        refine r_aload_n (q := 62) (z := 0) C 0 rfl (by decide +kernel) rfl rfl ?_
        refine r_bipush (q := 64) (z := 12) (v := nI 12) C rfl (by decide +kernel) (by decide) ?_
        refine cV1I (q := 67) C R rfl (by decide +kernel) lk_X2_121 (c_X2_skip (k := 12) S2.1 S2.2.2.2.1 S2.2.2.2.2.1 S2.2.2.2.2.2.1 (by decide)) (by decide) (by decide) (by decide) rfl (by first | exact Nat.le_of_ble_eq_true rfl | (simp only [List.map_cons, List.map_nil, List.sum_cons, List.sum_nil, rv_cat]; exact Nat.le_of_ble_eq_true rfl)) rfl S2.1.1 ?_
        rintro _ _ ⟨rfl, rfl⟩
        refine r_if_eq (q := 70) (off := 25) (tgt := 92) C rfl (by decide +kernel) (by decide) (fun c67 => ?_) (fun c67 => ?_)
        · have k12 : ¬ T.kd (i + 1) = 12 := of_decide_eq_false ((b2i_0 _).mp c67)
          rw [if_neg k12]
          refine r_iconst (q := 93) (z := 0) (v := 0) C rfl (by decide +kernel) (by decide) ?_
          exact r_zret C (by decide +kernel) rfl (by first | decide | exact b2i_nar _) (by decide) (by decide) (eqP hPP ⟨_, rfl, (by
                first
                  | exact ⟨(FdL.rd (FdL.bg (h' := h.setI 132 r (nI (i + 1))) hS.2.2.1 (FdL.rd FdL.rf (Or.inl rfl))) (Or.inr rfl)), Or.inr ⟨rfl, _, Or.inr ⟨hop, Or.inr ⟨l16, Or.inl ⟨k12, rfl⟩⟩⟩, fi_eq⟩⟩
                  | exact ⟨(FdL.rd (FdL.bg (h' := h.setI 132 r (nI (i + 1))) hS.2.2.1 (FdL.rd FdL.rf (Or.inl rfl))) (Or.inl rfl)).tr F73, Or.inr ⟨rfl, f8, Or.inr ⟨hop, Or.inr ⟨l16, Or.inr ⟨k12, _, hf8, Or.inl ⟨f8, rfl, rfl⟩⟩⟩⟩, hg8⟩⟩
                  | exact ⟨FdL.rd ((FdL.rd (FdL.bg (h' := h.setI 132 r (nI (i + 1))) hS.2.2.1 (FdL.rd FdL.rf (Or.inl rfl))) (Or.inl rfl)).tr F73) (Or.inr rfl), Or.inr ⟨rfl, _, Or.inr ⟨hop, Or.inr ⟨l16, Or.inr ⟨k12, _, hrr, Or.inr ⟨j, cd1, rfl, Or.inl ⟨k9, rfl⟩⟩⟩⟩⟩, fi_eq⟩⟩
                  | exact ⟨FdL.rd ((FdL.rd (FdL.bg (h' := h.setI 132 r (nI (i + 1))) hS.2.2.1 (FdL.rd FdL.rf (Or.inl rfl))) (Or.inl rfl)).tr F73) (Or.inl rfl), Or.inl ⟨rfl, j + 1, (_, cd1), by omega, Or.inr ⟨hop, Or.inr ⟨l16, Or.inr ⟨k12, _, hrr, Or.inr ⟨j, cd1, rfl, Or.inr ⟨k9, rfl⟩⟩⟩⟩⟩, S4.adv hj1, (by rw [tot_app]; have := b1; simp only [pnd] at this; omega), RR.ok hTW hrr⟩⟩
                  | (show False; done))⟩)
        · have k12 : T.kd (i + 1) = 12 := of_decide_eq_true ((b2i_n0 _).mp c67)
          rw [if_pos k12]
          have S3 := S2.adv (hTW.lt hi1 (by omega))
          refine r_aload_n (q := 71) (z := 0) C 0 rfl (by decide +kernel) rfl rfl ?_
          refine r_aload_n (q := 72) (z := 1) C 1 rfl (by decide +kernel) rfl rfl ?_
          refine r_iconst (q := 73) (z := 0) (v := nI 0) C rfl (by decide +kernel) (by decide) ?_
          refine cV2I (q := 76) C R rfl (by decide +kernel) lk_X2_124 (c_rdT S3 (by omega) (by simp; omega)) (by decide) (by decide) (by decide) rfl (by first | exact Nat.le_of_ble_eq_true rfl | (simp only [List.map_cons, List.map_nil, List.sum_cons, List.sum_nil, rv_cat]; exact Nat.le_of_ble_eq_true rfl)) rfl S2.1.1 ?_
          rintro v73 h73 ⟨F73, X73⟩
          refine r_if_eq (q := 79) (off := 16) (tgt := 92) C rfl (by decide +kernel) (by decide) (fun c76 => ?_) (fun c76 => ?_)
          · obtain ⟨-, f8, hf8, hg8⟩ := X73.resolve_left (fun e => by rw [e.1] at c76; exact absurd c76 (by decide))
            refine r_iconst (q := 93) (z := 0) (v := 0) C rfl (by decide +kernel) (by decide) ?_
            exact r_zret C (by decide +kernel) rfl (by first | decide | exact b2i_nar _) (by decide) (by decide) (eqP hPP ⟨_, rfl, (by
                  first
                    | exact ⟨(FdL.rd (FdL.bg (h' := h.setI 132 r (nI (i + 1))) hS.2.2.1 (FdL.rd FdL.rf (Or.inl rfl))) (Or.inr rfl)), Or.inr ⟨rfl, _, Or.inr ⟨hop, Or.inr ⟨l16, Or.inl ⟨k12, rfl⟩⟩⟩, fi_eq⟩⟩
                    | exact ⟨(FdL.rd (FdL.bg (h' := h.setI 132 r (nI (i + 1))) hS.2.2.1 (FdL.rd FdL.rf (Or.inl rfl))) (Or.inl rfl)).tr F73, Or.inr ⟨rfl, f8, Or.inr ⟨hop, Or.inr ⟨l16, Or.inr ⟨k12, _, hf8, Or.inl ⟨f8, rfl, rfl⟩⟩⟩⟩, hg8⟩⟩
                    | exact ⟨FdL.rd ((FdL.rd (FdL.bg (h' := h.setI 132 r (nI (i + 1))) hS.2.2.1 (FdL.rd FdL.rf (Or.inl rfl))) (Or.inl rfl)).tr F73) (Or.inr rfl), Or.inr ⟨rfl, _, Or.inr ⟨hop, Or.inr ⟨l16, Or.inr ⟨k12, _, hrr, Or.inr ⟨j, cd1, rfl, Or.inl ⟨k9, rfl⟩⟩⟩⟩⟩, fi_eq⟩⟩
                    | exact ⟨FdL.rd ((FdL.rd (FdL.bg (h' := h.setI 132 r (nI (i + 1))) hS.2.2.1 (FdL.rd FdL.rf (Or.inl rfl))) (Or.inl rfl)).tr F73) (Or.inl rfl), Or.inl ⟨rfl, j + 1, (_, cd1), by omega, Or.inr ⟨hop, Or.inr ⟨l16, Or.inr ⟨k12, _, hrr, Or.inr ⟨j, cd1, rfl, Or.inr ⟨k9, rfl⟩⟩⟩⟩⟩, S4.adv hj1, (by rw [tot_app]; have := b1; simp only [pnd] at this; omega), RR.ok hTW hrr⟩⟩
                    | (show False; done))⟩)
          · obtain ⟨-, j, cd1, ij, S4, b1, k61, to1⟩ := X73.resolve_right (fun e => c76 e.1)
            have hj := S4.2.2.2.2.2.1
            have hrr := to1 (.inr (j, cd1)) (by rw [stA_e k61]; rfl)
            refine r_aload_n (q := 80) (z := 0) C 0 rfl (by decide +kernel) rfl rfl ?_
            refine r_bipush (q := 82) (z := 9) (v := nI 9) C rfl (by decide +kernel) (by decide) ?_
            refine cV1I (q := 85) C R rfl (by decide +kernel) lk_X2_121 (c_X2_skip (k := 9) S4.1 S4.2.2.2.1 S4.2.2.2.2.1 S4.2.2.2.2.2.1 (by decide)) (by decide) (by decide) (by decide) rfl (by first | exact Nat.le_of_ble_eq_true rfl | (simp only [List.map_cons, List.map_nil, List.sum_cons, List.sum_nil, rv_cat]; exact Nat.le_of_ble_eq_true rfl)) rfl S4.1.1 ?_
            rintro _ _ ⟨rfl, rfl⟩
            refine r_if_eq (q := 88) (off := 7) (tgt := 92) C rfl (by decide +kernel) (by decide) (fun c85 => ?_) (fun c85 => ?_)
            · have k9 : ¬ T.kd j = 9 := of_decide_eq_false ((b2i_0 _).mp c85)
              rw [if_neg k9]
              refine r_iconst (q := 93) (z := 0) (v := 0) C rfl (by decide +kernel) (by decide) ?_
              exact r_zret C (by decide +kernel) rfl (by first | decide | exact b2i_nar _) (by decide) (by decide) (eqP hPP ⟨_, rfl, (by
                    first
                      | exact ⟨(FdL.rd (FdL.bg (h' := h.setI 132 r (nI (i + 1))) hS.2.2.1 (FdL.rd FdL.rf (Or.inl rfl))) (Or.inr rfl)), Or.inr ⟨rfl, _, Or.inr ⟨hop, Or.inr ⟨l16, Or.inl ⟨k12, rfl⟩⟩⟩, fi_eq⟩⟩
                      | exact ⟨(FdL.rd (FdL.bg (h' := h.setI 132 r (nI (i + 1))) hS.2.2.1 (FdL.rd FdL.rf (Or.inl rfl))) (Or.inl rfl)).tr F73, Or.inr ⟨rfl, f8, Or.inr ⟨hop, Or.inr ⟨l16, Or.inr ⟨k12, _, hf8, Or.inl ⟨f8, rfl, rfl⟩⟩⟩⟩, hg8⟩⟩
                      | exact ⟨FdL.rd ((FdL.rd (FdL.bg (h' := h.setI 132 r (nI (i + 1))) hS.2.2.1 (FdL.rd FdL.rf (Or.inl rfl))) (Or.inl rfl)).tr F73) (Or.inr rfl), Or.inr ⟨rfl, _, Or.inr ⟨hop, Or.inr ⟨l16, Or.inr ⟨k12, _, hrr, Or.inr ⟨j, cd1, rfl, Or.inl ⟨k9, rfl⟩⟩⟩⟩⟩, fi_eq⟩⟩
                      | exact ⟨FdL.rd ((FdL.rd (FdL.bg (h' := h.setI 132 r (nI (i + 1))) hS.2.2.1 (FdL.rd FdL.rf (Or.inl rfl))) (Or.inl rfl)).tr F73) (Or.inl rfl), Or.inl ⟨rfl, j + 1, (_, cd1), by omega, Or.inr ⟨hop, Or.inr ⟨l16, Or.inr ⟨k12, _, hrr, Or.inr ⟨j, cd1, rfl, Or.inr ⟨k9, rfl⟩⟩⟩⟩⟩, S4.adv hj1, (by rw [tot_app]; have := b1; simp only [pnd] at this; omega), RR.ok hTW hrr⟩⟩
                      | (show False; done))⟩)
            · have k9 : T.kd j = 9 := of_decide_eq_true ((b2i_n0 _).mp c85)
              rw [if_pos k9]
              have hj1 : j + 1 ≤ T.N := hTW.lt hj (by omega)
              refine r_iconst (q := 89) (z := 1) (v := 1) C rfl (by decide +kernel) (by decide) ?_
              refine r_goto (off := 4) (tgt := 93) C (by decide +kernel) (by decide) ?_
              exact r_zret C (by decide +kernel) rfl (by first | decide | exact b2i_nar _) (by decide) (by decide) (eqP hPP ⟨_, rfl, (by
                    first
                      | exact ⟨(FdL.rd (FdL.bg (h' := h.setI 132 r (nI (i + 1))) hS.2.2.1 (FdL.rd FdL.rf (Or.inl rfl))) (Or.inr rfl)), Or.inr ⟨rfl, _, Or.inr ⟨hop, Or.inr ⟨l16, Or.inl ⟨k12, rfl⟩⟩⟩, fi_eq⟩⟩
                      | exact ⟨(FdL.rd (FdL.bg (h' := h.setI 132 r (nI (i + 1))) hS.2.2.1 (FdL.rd FdL.rf (Or.inl rfl))) (Or.inl rfl)).tr F73, Or.inr ⟨rfl, f8, Or.inr ⟨hop, Or.inr ⟨l16, Or.inr ⟨k12, _, hf8, Or.inl ⟨f8, rfl, rfl⟩⟩⟩⟩, hg8⟩⟩
                      | exact ⟨FdL.rd ((FdL.rd (FdL.bg (h' := h.setI 132 r (nI (i + 1))) hS.2.2.1 (FdL.rd FdL.rf (Or.inl rfl))) (Or.inl rfl)).tr F73) (Or.inr rfl), Or.inr ⟨rfl, _, Or.inr ⟨hop, Or.inr ⟨l16, Or.inr ⟨k12, _, hrr, Or.inr ⟨j, cd1, rfl, Or.inl ⟨k9, rfl⟩⟩⟩⟩⟩, fi_eq⟩⟩
                      | exact ⟨FdL.rd ((FdL.rd (FdL.bg (h' := h.setI 132 r (nI (i + 1))) hS.2.2.1 (FdL.rd FdL.rf (Or.inl rfl))) (Or.inl rfl)).tr F73) (Or.inl rfl), Or.inl ⟨rfl, j + 1, (_, cd1), by omega, Or.inr ⟨hop, Or.inr ⟨l16, Or.inr ⟨k12, _, hrr, Or.inr ⟨j, cd1, rfl, Or.inr ⟨k9, rfl⟩⟩⟩⟩⟩, S4.adv hj1, (by rw [tot_app]; have := b1; simp only [pnd] at this; omega), RR.ok hTW hrr⟩⟩
                      | (show False; done))⟩)
      · have l16 : 16 ≤ lw.length := Nat.le_of_not_lt (fun q => c37 (nI_lt (b := 16) q (by decide)))
        refine r_aload_n (q := 41) (z := 0) C 0 rfl (by decide +kernel) rfl rfl ?_
        refine r_iconst (q := 42) (z := 5) (v := nI 5) C rfl (by decide +kernel) (by decide) ?_
        refine cV1I (q := 45) C R rfl (by decide +kernel) lk_X2_114 (c_X2_refuse (k := 5) hS.1 hS.2.2.2.1 hS.2.2.2.2.1 hS.2.2.2.2.2.1) (by decide) (by decide) (by decide) rfl (by first | exact Nat.le_of_ble_eq_true rfl | (simp only [List.map_cons, List.map_nil, List.sum_cons, List.sum_nil, rv_cat]; exact Nat.le_of_ble_eq_true rfl)) rfl hS.1.1 ?_
        rintro _ _ ⟨rfl, rfl⟩
        exact r_zret C (by decide +kernel) rfl (by first | decide | exact b2i_nar _) (by decide) (by decide) (eqP hPP ⟨_, rfl, ⟨FdL.rd FdL.rf (Or.inr rfl), Or.inr ⟨rfl, _, Or.inr ⟨hop, Or.inl ⟨l16, rfl⟩⟩, fi_eq⟩⟩⟩)
    refine r_iload_n (q := 16) (z := 3) C 3 rfl (by decide +kernel) rfl rfl ?_
    refine r_if_ne (q := 19) (off := 18) (tgt := 34) C rfl (by decide +kernel) (by decide) (fun c16 => ?_) (fun c16 => ?_)
    · exact J34 (Or.inl (of_decide_eq_true (b2i_tt.mp c16)))
    · have k10 : ¬ T.kd i = 10 := of_decide_eq_false ((b2i_0 _).mp c16)
      refine r_aload_n (q := 20) (z := 0) C 0 rfl (by decide +kernel) rfl rfl ?_
      refine cV0I (q := 23) C R rfl (by decide +kernel) lk_X2_106 (c_X2_kind hS.1 hS.2.2.2.1 hS.2.2.2.2.1 hS.2.2.2.2.2.1) (by decide) (by decide) (by decide) rfl (by first | exact Nat.le_of_ble_eq_true rfl | (simp only [List.map_cons, List.map_nil, List.sum_cons, List.sum_nil, rv_cat]; exact Nat.le_of_ble_eq_true rfl)) rfl hS.1.1 ?_
      rintro _ _ ⟨rfl, rfl⟩
      refine r_bipush (q := 25) (z := 11) (v := 11) C rfl (by decide +kernel) (by decide) ?_
      refine r_icmp_eq (q := 28) (off := 9) (tgt := 34) C rfl (by decide +kernel) (by decide) (fun c25 => ?_) (fun c25 => ?_)
      · exact J34 (Or.inr ((nI_eq (b := 11) kl (by decide)).mp c25))
      · have k11 : ¬ T.kd i = 11 := fun q => c25 (by rw [q]; rfl)
        refine r_aload_n (q := 29) (z := 0) C 0 rfl (by decide +kernel) rfl rfl ?_
        refine r_iconst (q := 30) (z := 1) (v := nI 1) C rfl (by decide +kernel) (by decide) ?_
        refine cV1I (q := 33) C R rfl (by decide +kernel) lk_X2_114 (c_X2_refuse (k := 1) hS.1 hS.2.2.2.1 hS.2.2.2.2.1 hS.2.2.2.2.2.1) (by decide) (by decide) (by decide) rfl (by first | exact Nat.le_of_ble_eq_true rfl | (simp only [List.map_cons, List.map_nil, List.sum_cons, List.sum_nil, rv_cat]; exact Nat.le_of_ble_eq_true rfl)) rfl hS.1.1 ?_
        rintro _ _ ⟨rfl, rfl⟩
        exact r_zret C (by decide +kernel) rfl (by first | decide | exact b2i_nar _) (by decide) (by decide) (eqP hPP ⟨_, rfl, ⟨FdL.rd FdL.rf (Or.inr rfl), Or.inr ⟨rfl, _, Or.inl ⟨k10, k11, rfl⟩, fi_eq⟩⟩⟩)
  refine r_aload_n (q := 1) (z := 0) C 0 rfl (by decide +kernel) rfl rfl ?_
  refine cV0I (q := 4) C R rfl (by decide +kernel) lk_X2_106 (c_X2_kind hS.1 hS.2.2.2.1 hS.2.2.2.2.1 hS.2.2.2.2.2.1) (by decide) (by decide) (by decide) rfl (by first | exact Nat.le_of_ble_eq_true rfl | (simp only [List.map_cons, List.map_nil, List.sum_cons, List.sum_nil, rv_cat]; exact Nat.le_of_ble_eq_true rfl)) rfl hS.1.1 ?_
  rintro _ _ ⟨rfl, rfl⟩
  refine r_bipush (q := 6) (z := 10) (v := 10) C rfl (by decide +kernel) (by decide) ?_
  refine r_icmp_ne (q := 9) (off := 7) (tgt := 13) C rfl (by decide +kernel) (by decide) (fun c6 => ?_) (fun c6 => ?_)
  · have k10 : ¬ T.kd i = 10 := fun q => c6 (by rw [q]; rfl)
    refine r_iconst (q := 14) (z := 0) (v := 0) C rfl (by decide +kernel) (by decide) ?_
    refine r_istore_n (q := 15) (z := 3) C 3 rfl (by decide +kernel) rfl (by decide) (by first | rfl | exact okst_rv rfl) ?_
    dsimp only [List.set]
    have z := J15
    first | (rw [show b2i (decide (T.kd i = 10)) = 1 from bt k10] at z; exact z) | (rw [show b2i (decide (T.kd i = 10)) = 0 from bf k10] at z; exact z)
  · have k10 : T.kd i = 10 := (nI_eq (b := 10) kl (by decide)).mp c6
    refine r_iconst (q := 10) (z := 1) (v := 1) C rfl (by decide +kernel) (by decide) ?_
    refine r_goto (off := 4) (tgt := 14) C (by decide +kernel) (by decide) ?_
    refine r_istore_n (q := 15) (z := 3) C 3 rfl (by decide +kernel) rfl (by decide) (by first | rfl | exact okst_rv rfl) ?_
    dsimp only [List.set]
    have z := J15
    first | (rw [show b2i (decide (T.kd i = 10)) = 1 from bt k10] at z; exact z) | (rw [show b2i (decide (T.kd i = 10)) = 0 from bf k10] at z; exact z)
theorem c_X2_read {G : GT} {k r a : Nat} {T : TT} {h : HP} (hR : RDl h r) (hk : k = 100 ∨ k = 200) (hl : LwL h.kd h.gl h.fr a k) (K : CKT T h r) : Con G 22 0 0 yX2_read cX2_read 3 (some .int) [rv r, rv a] h (PI (fun v h' => ∃ x, TX T 0 [] x ∧ txv x = v ∧ FdL k a h h' ∧ (∀ f, x = .inl f → isF T f) ∧ ∀ l, x = .inr l → CL l h' a ∧ ∀ ln ∈ l, hgt ln.2 = some 1)) := by
  refine Con.of (lv := [some (rv r), some (rv a), none]) (by decide) (by simp only [lvE_r, lvE_i, lvE_l, lvE_s, lvE_0]; rfl) (by simp only [lgl_r, lgl_i, lgl_l, lgl_s, lgl_0]; decide) (fun Γ C R => ?_)
  generalize hPP : (PI (fun v h' => ∃ x, TX T 0 [] x ∧ txv x = v ∧ FdL k a h h' ∧ (∀ f, x = .inl f → isF T f) ∧ ∀ l, x = .inr l → CL l h' a ∧ ∀ ln ∈ l, hgt ln.2 = some 1)) = PP
  have hTW := K.1
  have k6 := hTW.2.1
  refine r_aload_n (q := 1) (z := 1) C 1 rfl (by decide +kernel) rfl rfl ?_
  refine cV0V (q := 4) C R rfl (by decide +kernel) lk_X2_101 (c_X1_wipe hl.1) (by decide) (by decide) (by decide) rfl (by first | exact Nat.le_of_ble_eq_true rfl | (simp only [List.map_cons, List.map_nil, List.sum_cons, List.sum_nil, rv_cat]; exact Nat.le_of_ble_eq_true rfl)) rfl hl.1 ?_
  rintro _ rfl
  refine r_aload_n (q := 5) (z := 0) C 0 rfl (by decide +kernel) rfl rfl ?_
  refine r_iconst (q := 6) (z := 0) (v := 0) C rfl (by decide +kernel) (by decide) ?_
  refine r_putI (q := 9) C 2 4 132 rfl (by decide +kernel) rfl (by decide) rfl rfl wf_X2_25 win2 tyX2 tyX2_ok nmX2 rfl (tyX2_ok 4 (by decide)) rfl wnd2 rfl rfl hR.1 ?_
  refine r_aload_n (q := 10) (z := 0) C 0 rfl (by decide +kernel) rfl rfl ?_
  refine r_iconst (q := 11) (z := 0) (v := 0) C rfl (by decide +kernel) (by decide) ?_
  refine r_putI (q := 14) C 2 5 133 rfl (by decide +kernel) rfl (by decide) rfl rfl wf_X2_28 win2 tyX2 tyX2_ok nmX2 rfl (tyX2_ok 5 (by decide)) rfl wnd2 rfl rfl hR.1 ?_
  have F0 : FdL k a h ((((h.setI 65 a 0).setI 69 a 0).setI 132 r 0).setI 133 r 0) := ⟨((((Fm.rf.setI (by decide)).setI (by decide)).setI (by decide)).setI (by decide)), fun b hb => ⟨by rw [fi_ne (by decide), fi_ne (by decide), fi_ne (by decide), fi_ob hb], by rw [fi_ne (by decide), fi_ne (by decide), fi_ob hb, fi_ne (by decide)]⟩⟩
  have S0 : RSo T k r a [] 0 ((((h.setI 65 a 0).setI 69 a 0).setI 132 r 0).setI 133 r 0) := ⟨hR, hk, hl, CKT.fd hk hR F0 K, by rw [fi_ne (by decide), fi_eq]; rfl, Nat.zero_le _, by decide, by decide, by rw [fi_ne (by decide), fi_ne (by decide), fi_eq]; rfl, by rw [fi_ne (by decide), fi_ne (by decide), fi_ne (by decide), fi_eq]; rfl, fun k ln h9 => by simp at h9⟩
  refine r_iconst (q := 15) (z := 0) (v := 0) C rfl (by decide +kernel) (by decide) ?_
  refine r_istore_n (q := 16) (z := 2) C 2 rfl (by decide +kernel) rfl (by decide) (by first | rfl | exact okst_rv rfl) ?_
  dsimp only [List.set]
  have L16 : ∀ (fuel16 : Nat) (h2 : HP) (i : Nat) (lw : LW), T.N - i < fuel16 → (FdL k a h h2) → (RSo T k r a lw i h2) → (tot lw ≤ i) → (∀ x, TX T i lw x → TX T 0 [] x) → (∀ ln ∈ lw, hgt ln.2 = some 1) → wX G Γ (qM G Γ PP 0 0) 0 0 (h2) 16 [some (rv r), some (rv a), some (.int (nI lw.length))] [] := by
    intro fuel16
    induction fuel16 with
    | zero =>
      intro h2 i lw hm16
      exact absurd hm16 (Nat.not_lt_zero _)
    | succ fuel16 ih16 =>
      intro h2 i lw hm16 F2 S2 b2 to2 hg2
      have hi := S2.2.2.2.2.2.1
      have hl16 := S2.2.2.2.2.2.2.1
      have kl : T.kd i < 2 ^ 31 := kdlt hTW i
      refine r_iload_n (q := 17) (z := 2) C 2 rfl (by decide +kernel) rfl rfl ?_
      refine r_bipush (q := 19) (z := 16) (v := 16) C rfl (by decide +kernel) (by decide) ?_
      refine r_icmp_gt (q := 22) (off := 32) (tgt := 51) C rfl (by decide +kernel) (by decide) (fun c19 => ?_) (fun c19 => ?_)
      · exact absurd ((nI_ltI (a := 16) (by decide) (by omega)).mp c19) (by omega)
      · refine r_aload_n (q := 23) (z := 0) C 0 rfl (by decide +kernel) rfl rfl ?_
        refine cV0I (q := 26) C R rfl (by decide +kernel) lk_X2_106 (c_X2_kind S2.1 S2.2.2.2.1 S2.2.2.2.2.1 S2.2.2.2.2.2.1) (by decide) (by decide) (by decide) rfl (by first | exact Nat.le_of_ble_eq_true rfl | (simp only [List.map_cons, List.map_nil, List.sum_cons, List.sum_nil, rv_cat]; exact Nat.le_of_ble_eq_true rfl)) rfl S2.1.1 ?_
        rintro _ _ ⟨rfl, rfl⟩
        refine r_bipush (q := 28) (z := 13) (v := 13) C rfl (by decide +kernel) (by decide) ?_
        refine r_icmp_eq (q := 31) (off := 23) (tgt := 51) C rfl (by decide +kernel) (by decide) (fun c28 => ?_) (fun c28 => ?_)
        · have k13 : T.kd i = 13 := (nI_eq (b := 13) kl (by decide)).mp c28
          refine r_iconst (q := 52) (z := 0) (v := 0) C rfl (by decide +kernel) (by decide) ?_
          exact r_iret C (by decide +kernel) rfl (by decide) (by decide) (eqP hPP ⟨_, rfl, ⟨.inr lw, to2 _ (TX.en k13), rfl, F2, fun f e => (by cases e), fun l e => (by cases e; exact ⟨S2.2.2.2.2.2.2, hg2⟩)⟩⟩)
        · have k13 : T.kd i ≠ 13 := fun q => c28 (by rw [q]; rfl)
          refine r_aload_n (q := 32) (z := 0) C 0 rfl (by decide +kernel) rfl rfl ?_
          refine r_aload_n (q := 33) (z := 1) C 1 rfl (by decide +kernel) rfl rfl ?_
          refine r_iload_n (q := 34) (z := 2) C 2 rfl (by decide +kernel) rfl rfl ?_
          refine cV2I (q := 37) C R rfl (by decide +kernel) lk_X2_110 (c_X2_readLine S2 b2) (by decide) (by decide) (by decide) rfl (by first | exact Nat.le_of_ble_eq_true rfl | (simp only [List.map_cons, List.map_nil, List.sum_cons, List.sum_nil, rv_cat]; exact Nat.le_of_ble_eq_true rfl)) rfl S2.1.1 ?_
          rintro v34 h34 ⟨F34, X34⟩
          refine r_if_ne (q := 40) (off := 8) (tgt := 45) C rfl (by decide +kernel) (by decide) (fun c37 => ?_) (fun c37 => ?_)
          · obtain ⟨-, j, ln, ij, n4, S4, b4, g4⟩ := X34.resolve_right (fun e => c37 e.1)
            have hj := S4.2.2.2.2.2.1
            refine r_iinc (q := 48) (z := 1) (v := 1) C 2 rfl (by decide +kernel) rfl (by decide) (by decide) (by first | rfl | exact okst_rv rfl) ?_
            dsimp only [List.set]
            rw [nI_1, show lw.length + 1 = (lw ++ [ln]).length by simp]
            refine r_goto (off := -32) (tgt := 16) C (by decide +kernel) (by decide) ?_
            exact ih16 h34 j (lw ++ [ln]) (by omega) (F2.tr F34) S4 b4 (fun x hx => to2 x (TX.st k13 n4 hx)) (fun l hl => (List.mem_append.mp hl).elim (hg2 l) (fun q => by rw [List.mem_singleton] at q; rw [q]; exact g4))
          · obtain ⟨-, f8, n8, hg8⟩ := X34.resolve_left (fun e => by rw [e.1] at c37; exact absurd c37 (by decide))
            refine r_aload_n (q := 41) (z := 0) C 0 rfl (by decide +kernel) rfl rfl ?_
            refine r_getI (q := 44) C 2 5 133 rfl (by decide +kernel) rfl (by decide) rfl rfl wf_X2_28 win2 (by rw [F34.1.1]; exact S2.1.1) ?_
            rw [hg8]
            exact r_iret C (by decide +kernel) rfl (by decide) (by decide) (eqP hPP ⟨_, rfl, ⟨.inl f8, to2 _ (TX.flt k13 n8), rfl, F2.tr F34, fun f e => (by cases e; exact n8.f), fun l e => (by cases e)⟩⟩)
  exact L16 (T.N + 1) _ 0 [] (by omega) F0 S0 (by decide) (fun x hx => hx) (fun ln hln => by cases hln)
