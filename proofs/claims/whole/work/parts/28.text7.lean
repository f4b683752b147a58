abbrev WW : Type := Sum Nat (Nat × LW)
set_option maxHeartbeats 4000000 in
theorem c_X7_line {G : GT} {h : HP} {m X i : Nat} {T : TT} {lw : LW} (hm : LM h.kd h.gl h.fr m) (K : MKW T h m) (V : TV T) (Bf : BF T i 0 h m) (tS : TS X lw i h m) (k13 : T.kd i ≠ 13) : Con G 4 0 0 yX7_line cX7_line 4 none [rv m] h (PV (fun h' => ∃ w, LN T i lw w ∧ PW T X w h' m ∧ mw T w < mw T (.inr (i, lw)) ∧ OX X m h h' ∧ Fm [458, 459, 460, 461, 462, 467, 468, 469] [455, 456, 465, 466] h h')) := by
  refine Con.of (lv := [some (rv m), none, none, none]) (by decide) (by simp only [lvE_r, lvE_i, lvE_l, lvE_s, lvE_0]; rfl) (by simp only [lgl_r, lgl_i, lgl_l, lgl_s, lgl_0]; decide) (fun Γ C R => ?_)
  generalize hPP : (PV (fun h' => ∃ w, LN T i lw w ∧ PW T X w h' m ∧ mw T w < mw T (.inr (i, lw)) ∧ OX X m h h' ∧ Fm [458, 459, 460, 461, 462, 467, 468, 469] [455, 456, 465, 466] h h')) = PP
  obtain ⟨t1, t2, t3, t4, c, t5, t6, t7⟩ := id tS
  have hN6 := K.2.2.2.1
  have hiN := K.2.2.lt Bf.2.1 k13
  have K0 := K
  have hmH := hm
  refine r_aload_n (q := 1) (z := 0) C 0 rfl (by decide +kernel) rfl rfl ?_
  refine r_iconst (q := 2) (z := 1) (v := nI 1) C rfl (by decide +kernel) (by decide) ?_
  refine cV1I (q := 5) C R rfl (by decide +kernel) lk_X7_192 (c_X7_isWord (w := 1) (F := 0) hm K Bf (by decide)) (by decide) (by decide) (by decide) rfl (by first | exact Nat.le_of_ble_eq_true rfl | (simp only [List.map_cons, List.map_nil, List.sum_cons, List.sum_nil, rv_cat]; exact Nat.le_of_ble_eq_true rfl)) rfl hm.1 ?_
  rintro _ _ ⟨rfl, rfl⟩
  obtain ⟨lp, hlp⟩ : ∃ lp, lp = decide ((0 : Nat) = 0 ∧ (T.kd i, T.vl i) = kw 1) := ⟨_, rfl⟩
  rw [← hlp]
  have hlp2 : lp = decide (T.kd i = 11) := by rw [hlp]; exact decide_eq_decide.mpr ⟨fun e => V.lapse.mp e.2, fun e => ⟨rfl, V.lapse.mpr e⟩⟩
  refine r_istore_n (q := 6) (z := 1) C 1 rfl (by decide +kernel) rfl (by decide) (by first | rfl | exact okst_rv rfl) ?_
  dsimp only [List.set]
  have J45 : ∀ (h3 : HP) (F3 : Nat), (BF T i F3 h3 m) → (Fm [] [456] h h3) → ((F3 = 0 ∧ h = h3 ∧ (T.kd i = 10 ∨ T.kd i = 11) ∧ lw.length < 16) ∨ (0 < F3 ∧ LN T i lw (.inl F3))) → wX G Γ (qM G Γ PP 0 0) 0 0 (h3) 45 [some (rv m), some (.int (b2i lp)), none, none] [] := by
    intro h3 F3 Bf3 Fr3 hz3
    have hm0 := hm
    have hm : LM h3.kd h3.gl h3.fr m := LM.fm Fr3 hm0
    have hF9 := Bf3.2.2.2
    refine r_aload_n (q := 46) (z := 0) C 0 rfl (by decide +kernel) rfl rfl ?_
    refine r_getI (q := 49) C 7 8 456 rfl (by decide +kernel) rfl (by decide) rfl rfl wf_X7_182 win7 hm.1 ?_
    rw [Bf3.2.2.1]
    refine r_if_le (q := 52) (off := 4) (tgt := 53) C rfl (by decide +kernel) (by decide) (fun c49 => ?_) (fun c49 => ?_)
    · have e3 : F3 = 0 := by
        rcases Nat.eq_zero_or_pos F3 with e | e
        · exact e
        · exact absurd c49 (nI_nle e (by omega))
      obtain ⟨-, rfl, hop, hl16⟩ : F3 = 0 ∧ h = h3 ∧ (T.kd i = 10 ∨ T.kd i = 11) ∧ lw.length < 16 := hz3.resolve_right (fun e => by omega)
      clear Bf3 Fr3 hz3
      have J157 : ∀ (h3 : HP) (y : RE), (PZ T X c (.inr y) h3 m) → (∀ r, RO T (.inr y) r → RO T (z0L T i) r) → (LB X m (16 * X + lw.length) lp c h h3) → (HC X c m h h3) → (Fm [459, 460, 461, 462, 467, 468, 469] [455, 456, 465, 466] h h3) → wX G Γ (qM G Γ PP 0 0) 0 0 (h3) 157 [some (rv m), some (.int (b2i lp)), some (.int (nI (16 * X + lw.length))), none] [] := by
        intro h3 y Z3 hR3 B3 H3 F3
        have hm : LM h3.kd h3.gl h3.fr m := LM.fm F3 hmH
        have hm3 := hm
        have K : MKW T h3 m := MKW.fm F3 hmH (by decide) K0
        obtain ⟨s9, cd9, i9, F9, Kc9, hl9, Bf9, hcase⟩ := Z3.kc K.2.2 t2
        refine r_aload_n (q := 158) (z := 0) C 0 rfl (by decide +kernel) rfl rfl ?_
        refine r_iconst (q := 159) (z := 0) (v := nI 0) C rfl (by decide +kernel) (by decide) ?_
        refine r_iconst (q := 160) (z := 0) (v := nI 0) C rfl (by decide +kernel) (by decide) ?_
        refine cV2V (q := 163) C R rfl (by decide +kernel) lk_X7_229 (c_X7_emit (o := 0) (a := 0) hm Kc9 (by omega)) (by decide) (by decide) (by decide) rfl (by first | exact Nat.le_of_ble_eq_true rfl | (simp only [List.map_cons, List.map_nil, List.sum_cons, List.sum_nil, rv_cat]; exact Nat.le_of_ble_eq_true rfl)) rfl hm.1 ?_
        rintro h160 ⟨K160, H160, F160⟩
        have hm160 : LM h160.kd h160.gl h160.fr m := LM.fm F160 hm3
        have hm := hm160
        have K160w := MKW.fm F160 hm3 (by decide) K
        refine r_aload_n (q := 164) (z := 0) C 0 rfl (by decide +kernel) rfl rfl ?_
        refine r_bipush (q := 166) (z := 59) (v := nI 59) C rfl (by decide +kernel) (by decide) ?_
        refine cV1V (q := 169) C R rfl (by decide +kernel) lk_X7_233 (c_X7_takeSign (c := 59) hm K160w (Bf9.fm F160 (by decide)) (by decide) (by decide)) (by decide) (by decide) (by decide) rfl (by first | exact Nat.le_of_ble_eq_true rfl | (simp only [List.map_cons, List.map_nil, List.sum_cons, List.sum_nil, rv_cat]; exact Nat.le_of_ble_eq_true rfl)) rfl hm.1 ?_
        rintro h166 ⟨By166, Bn166, F166⟩
        have hm : LM h166.kd h166.gl h166.fr m := LM.fm F166 hm160
        have e458 : h166.ai (h166.fr 458 m) X = nI lw.length := by
          rw [F166.2.1, (F166.2.2.2.2.2 _ (by simp)).1, F160.2.1, (F160.2.2.2.2.2 _ (by rw [hm3.g458]; decide)).1, B3.2.2]; exact t4
        refine r_aload_n (q := 170) (z := 0) C 0 rfl (by decide +kernel) rfl rfl ?_
        refine r_getR (q := 173) C 7 10 458 rfl (by decide +kernel) rfl (by decide) rfl rfl wf_X7_57 win7 hm.1 ?_
        refine r_aload_n (q := 174) (z := 0) C 0 rfl (by decide +kernel) rfl rfl ?_
        refine r_getI (q := 177) C 7 16 464 rfl (by decide +kernel) rfl (by decide) rfl rfl wf_X7_198 win7 hm.1 ?_
        rw [F166.2.2.2.2.1 _ _ (by decide), F160.2.2.2.2.1 _ _ (by decide), F3.2.2.2.2.1 _ _ (by decide), t1]
        refine r_dup2 (q := 178) C rfl (by decide +kernel) (by first | rfl | exact rv_cat _) (by first | rfl | exact rv_cat _) ?_
        refine r_iald (q := 179) C rfl (by decide +kernel) hm.k458 (vp_in_nI t2 (by decide)) ?_
        rw [nI_clamp (by omega), e458]
        refine r_iconst (q := 180) (z := 1) (v := 1) C rfl (by decide +kernel) (by decide) ?_
        refine r_iadd (q := 181) C rfl (by decide +kernel) ?_
        rw [nI_1]
        refine r_iast (q := 182) C rfl (by decide +kernel) rfl hm.k458 (vp_in_nI t2 (by decide)) ?_
        rw [stI_row, nI_clamp (by omega)]
        exact r_ret C (by decide +kernel) rfl (by decide) (by decide) (eqP hPP ⟨rfl, (by
              have hR9 := hR3 y rfl
              have hLN := LN.mk hop hl16 hR9
              have F166t : Fm [461, 462] [455, 456, 465] h3 h166 := (F160.mono (by decide) (by decide)).tr (F166.mono (by decide) (by decide))
              have B6 := B3.fm F166t hm3 (by decide)
              have H6 : HC X 0 m h h166 := H3.zero.tr (H160.zero.tr (HC.fm F166 hm160 (by decide)))
              have FE : Fm [458, 459, 460, 461, 462, 467, 468, 469] [455, 456, 465, 466] h (h166.row (h166.fr 458 m) (upd (h166.ai (h166.fr 458 m)) X (nI (lw.length + 1)))) := Fm.row ((F3.mono (by decide) (by decide)).tr (F166t.mono (by decide) (by decide))) (by rw [← F3.2.2.1, ← F166t.2.2.1, hm.g458]; decide)
              have OE : OX X m h (h166.row (h166.fr 458 m) (upd (h166.ai (h166.fr 458 m)) X (nI (lw.length + 1)))) := OX.line hm hl16 B6 H6
              rcases hcase with ⟨hF, hy⟩ | ⟨hF, hy, hs, hb⟩
              · have hB := Bn166 (fun e => by omega)
                rw [if_neg (by omega)] at hB
                exact ⟨.inl F9, hLN.1 F9 hy, ⟨hF, i9, hB⟩, (by show 0 < T.N + 1 - i; omega), OE, FE⟩
              · obtain ⟨hj, hRR, hn9, hy9⟩ := hLN.2 i9 cd9 hy
                subst hF
                by_cases k9 : T.kd i9 = 9
                · have hB := By166 ⟨rfl, k9⟩
                  have hg := RR.ok K.2.2 hRR
                  refine ⟨.inr (i9 + 1, lw ++ [(lp, cd9)]), by rw [hlp2]; exact hy9 k9, ⟨hB, ?_⟩, (by show T.N + 1 - (i9 + 1) < T.N + 1 - i; have := hB.2.1; omega), OE, FE⟩
                  subst hs
                  have H6c : HC X s9 m h h166 := H3.tr (H160.tr (HC.fm F166 hm160 (by decide)))
                  have K6 : KC X s9 (cd9 ++ [(0, 0)]) h166 m := K160.fm F166 hm160 (by decide) (by decide)
                  refine ⟨(FE.2.2.2.2.1 _ _ (by decide)).trans t1, t2, by simp; omega, ?_, s9 + cd9.length + 1, by omega, ?_, fun k ln hk => ?_⟩
                  · show (h166.row (h166.fr 458 m) _).ai (h166.fr 458 m) X = _
                    rw [ai_row_eq, pk_us]; simp
                  · have := K6.2.2.1
                    simp at this
                    exact this
                  · have hA := TS.push (by omega) t7 B6 H6c K6 hg k ln hk
                    obtain ⟨a1, q, a2, a3, a4, a5⟩ := hA
                    refine ⟨?_, q, ?_, a3, ?_, a5⟩
                    · show (h166.row (h166.fr 458 m) _).ai (h166.fr 459 m) _ = _
                      rw [ai_row_ne (gl_ne hm.g459 hm.g458 (by decide))]; exact a1
                    · show (h166.row (h166.fr 458 m) _).ai (h166.fr 460 m) _ = _
                      rw [ai_row_ne (gl_ne hm.g460 hm.g458 (by decide))]; exact a2
                    · show CA ((h166.row (h166.fr 458 m) _).ai (h166.fr 461 m)) ((h166.row (h166.fr 458 m) _).ai (h166.fr 462 m)) _ _
                      rw [ai_row_ne (gl_ne hm.g461 hm.g458 (by decide)), ai_row_ne (gl_ne hm.g462 hm.g458 (by decide))]; exact a4
                · have hB := Bn166 (fun e => k9 e.2)
                  rw [if_pos rfl] at hB
                  exact ⟨.inl (fq T 1 i9), hn9 k9, ⟨fq_pos (by decide), i9, hB⟩, (by show 0 < T.N + 1 - i; omega), OE, FE⟩)⟩)
      have J88 : ∀ (h4 : HP), (BF T (i + 1) 0 h4 m) → (h4.ai (h4.fr 459 m) = upd (h.ai (h.fr 459 m)) (16 * X + lw.length) (b2i lp)) → (Fm [459] [455] h h4) → wX G Γ (qM G Γ PP 0 0) 0 0 (h4) 88 [some (rv m), some (.int (b2i lp)), some (.int (nI (16 * X + lw.length))), none] [] := by
        intro h4 B4 e4 F4
        have hm : LM h4.kd h4.gl h4.fr m := LM.fm F4 hmH
        have K : MKW T h4 m := MKW.fm F4 hmH (by decide) K0
        refine r_aload_n (q := 89) (z := 0) C 0 rfl (by decide +kernel) rfl rfl ?_
        refine r_iconst (q := 90) (z := 2) (v := nI 2) C rfl (by decide +kernel) (by decide) ?_
        refine cV1V (q := 93) C R rfl (by decide +kernel) lk_X7_213 (c_X7_takeWord (w := 2) (F := 0) hm K B4 (by decide)) (by decide) (by decide) (by decide) rfl (by first | exact Nat.le_of_ble_eq_true rfl | (simp only [List.map_cons, List.map_nil, List.sum_cons, List.sum_nil, rv_cat]; exact Nat.le_of_ble_eq_true rfl)) rfl hm.1 ?_
        rintro h90 ⟨By90, Bn90, F90⟩
        have hm4 := hm
        have hm : LM h90.kd h90.gl h90.fr m := LM.fm F90 hm4
        have F90t : Fm [459] [455, 456] h h90 := (F4.mono (by decide) (by decide)).tr (F90.mono (by decide) (by decide))
        refine r_aload_n (q := 94) (z := 0) C 0 rfl (by decide +kernel) rfl rfl ?_
        refine r_getR (q := 97) C 7 12 460 rfl (by decide +kernel) rfl (by decide) rfl rfl wf_X7_64 win7 hm.1 ?_
        refine r_iload_n (q := 98) (z := 2) C 2 rfl (by decide +kernel) rfl rfl ?_
        refine r_sipush (q := 101) (z := 660) (v := 660) C rfl (by decide +kernel) (by decide) ?_
        refine r_aload_n (q := 102) (z := 0) C 0 rfl (by decide +kernel) rfl rfl ?_
        refine r_getI (q := 105) C 7 16 464 rfl (by decide +kernel) rfl (by decide) rfl rfl wf_X7_198 win7 hm.1 ?_
        rw [F90t.2.2.2.2.1 _ _ (by decide), t1]
        refine r_imul (q := 106) C rfl (by decide +kernel) ?_
        rw [show (660 : Int32) = nI 660 from rfl, pk_mul]
        refine r_aload_n (q := 107) (z := 0) C 0 rfl (by decide +kernel) rfl rfl ?_
        refine r_getI (q := 110) C 7 17 465 rfl (by decide +kernel) rfl (by decide) rfl rfl wf_X7_201 win7 hm.1 ?_
        rw [F90t.2.2.2.2.1 _ _ (by decide), t6]
        refine r_iadd (q := 111) C rfl (by decide +kernel) ?_
        rw [nI_add]
        refine r_iast (q := 112) C rfl (by decide +kernel) rfl hm.k460 (vp_in_nI (by omega) (by decide)) ?_
        rw [stI_row, nI_clamp (by omega)]
        refine r_aload_n (q := 113) (z := 0) C 0 rfl (by decide +kernel) rfl rfl ?_
        refine r_iconst (q := 114) (z := 0) (v := nI 0) C rfl (by decide +kernel) (by decide) ?_
        refine r_putI (q := 117) C 7 18 466 rfl (by decide +kernel) rfl (by decide) rfl rfl wf_X7_216 win7 tyX7 tyX7_ok nmX7 rfl (tyX7_ok 18 (by decide)) rfl wnd7 rfl rfl hm.1 ?_
        refine r_aload_n (q := 118) (z := 0) C 0 rfl (by decide +kernel) rfl rfl ?_
        refine cV0V (q := 121) C R rfl (by decide +kernel) lk_X7_219 (c_X7_opens (t := []) hm fi_eq (by decide) trivial) (by decide) (by decide) (by decide) rfl (by first | exact Nat.le_of_ble_eq_true rfl | (simp only [List.map_cons, List.map_nil, List.sum_cons, List.sum_nil, rv_cat]; exact Nat.le_of_ble_eq_true rfl)) rfl hm.1 ?_
        rintro h118 ⟨R118, F118⟩
        have F9c : Fm [459, 460] [455, 456, 466] h ((h90.row (h90.fr 460 m) (upd (h90.ai (h90.fr 460 m)) (16 * X + lw.length) (nI (660 * X + c)))).setI 466 m (nI 0)) := Fm.setI (Fm.row (F90t.mono (by decide) (by decide)) (by rw [← F90t.2.2.1, hm.g460]; decide)) (by decide)
        have F118t : Fm [459, 460, 461, 462, 467, 468, 469] [455, 456, 465, 466] h h118 := (F9c.mono (by decide) (by decide)).tr (F118.mono (by decide) (by decide))
        have B118 : LB X m (16 * X + lw.length) lp c h h118 := LB.fm F118 (h1 := (h90.row _ _).setI 466 m (nI 0)) hm (by decide) (LB.begin hmH F4 e4 F90)
        have H118 : HC X c m h h118 := HC.fm ((F9c.mono (A' := [459, 460, 467, 468, 469]) (B' := [455, 456, 466]) (by decide) (by decide)).tr (F118.mono (by decide) (by decide))) hmH (by decide)
        have FB : Fm [460, 467, 468, 469] [466] h90 h118 := Fm.tr (Fm.setI (Fm.row Fm.rf (by rw [hm.g460]; decide)) (by decide)) (F118.mono (by decide) (by decide))
        have Z118 : PZ T X c (z0L T i) h118 m := PZ.begin t2 ((F118t.2.2.2.2.1 464 m (by decide)).trans t1) ((Fm.tr (F9c.mono (A' := [459, 460, 467, 468, 469]) (B' := [455, 456, 466]) (by decide) (by decide)) (F118.mono (by decide) (by decide))).2.2.2.2.1 465 m (by decide) |>.trans t6) ((F118.2.2.2.2.1 466 m (by decide)).trans fi_eq) R118 t5 K.2.2 hiN (fun e => (By90 ⟨rfl, V.when.mpr e⟩).fm FB (by decide)) (fun e => by have h9 := (Bn90 (fun q => e (V.when.mp q.2))).fm FB (by decide); rw [if_pos rfl] at h9; exact h9)
        have hq0 : isQ (z0L T i) := by unfold z0L; split <;> trivial
        have hmo0 : true = isP (z0L T i) ∨ (true = true ∧ ∃ f, z0L T i = .inr (.inl f)) := by
          unfold z0L
          split
          · exact Or.inl rfl
          · exact Or.inr ⟨rfl, _, rfl⟩
        refine r_iconst (q := 122) (z := 1) (v := b2i true) C rfl (by decide +kernel) (by decide) ?_
        refine r_istore_n (q := 123) (z := 3) C 3 rfl (by decide +kernel) rfl (by decide) (by first | rfl | exact okst_rv rfl) ?_
        dsimp only [List.set]
        have L123 : ∀ (fuel123 : Nat) (h3 : HP) (z3 : Sum CF RE) (mo : Bool), mz T z3 < fuel123 → (PZ T X c z3 h3 m) → (isQ z3) → (mo = isP z3 ∨ (mo = true ∧ ∃ f, z3 = .inr (.inl f))) → (∀ r, RO T z3 r → RO T (z0L T i) r) → (LB X m (16 * X + lw.length) lp c h h3) → (HC X c m h h3) → (Fm [459, 460, 461, 462, 467, 468, 469] [455, 456, 465, 466] h h3) → wX G Γ (qM G Γ PP 0 0) 0 0 (h3) 123 [some (rv m), some (.int (b2i lp)), some (.int (nI (16 * X + lw.length))), some (.int (b2i mo))] [] := by
          intro fuel123
          induction fuel123 with
          | zero =>
            intro h3 z3 mo hm123
            exact absurd hm123 (Nat.not_lt_zero _)
          | succ fuel123 ih123 =>
            intro h3 z3 mo hm123 Z3 hq3 hmo hR3 B3 H3 F3
            have hm : LM h3.kd h3.gl h3.fr m := LM.fm F3 hmH
            have K : MKW T h3 m := MKW.fm F3 hmH (by decide) K0
            obtain ⟨iv, Fv, Bv, hfv⟩ := Z3.fv
            have hFv := Bv.2.2.2
            refine r_iload_n (q := 124) (z := 3) C 3 rfl (by decide +kernel) rfl rfl ?_
            refine r_if_eq (q := 127) (off := 33) (tgt := 157) C rfl (by decide +kernel) (by decide) (fun c124 => ?_) (fun c124 => ?_)
            · have em : mo = false := (b2i_0 _).mp c124
              have hp : isP z3 = false := by
                rcases hmo with e | ⟨e, -⟩
                · rw [← e]; exact em
                · rw [em] at e; cases e
              obtain ⟨y, rfl⟩ := isP_f hq3 hp
              exact wX.sub (lsub_s (lsub_s (lsub_s (lsub_n (lsub_nil))))) (J157 h3 y Z3 hR3 B3 H3 F3)
            · have em : mo = true := (b2i_n0 _).mp c124
              refine r_aload_n (q := 128) (z := 0) C 0 rfl (by decide +kernel) rfl rfl ?_
              refine r_getI (q := 131) C 7 8 456 rfl (by decide +kernel) rfl (by decide) rfl rfl wf_X7_182 win7 hm.1 ?_
              rw [Bv.2.2.1]
              refine r_if_ne (q := 134) (off := 26) (tgt := 157) C rfl (by decide +kernel) (by decide) (fun c131 => ?_) (fun c131 => ?_)
              · have hF : 0 < Fv := by
                  rcases Nat.eq_zero_or_pos Fv with e | e
                  · rw [e] at c131; exact absurd rfl c131
                  · exact e
                obtain ⟨-, hzz⟩ : 0 < Fv ∧ z3 = .inr (.inl Fv) := hfv.resolve_left (fun e => by omega)
                obtain ⟨y, hy⟩ : ∃ y : RE, y = .inl Fv := ⟨_, rfl⟩
                rw [← hy] at hzz
                subst hzz
                exact wX.sub (lsub_s (lsub_s (lsub_s (lsub_n (lsub_nil))))) (J157 h3 y Z3 hR3 B3 H3 F3)
              · have hF : Fv = 0 := (nI_eq (b := 0) (by omega) (by decide)).mp c131
                have hnf := (hfv.resolve_right (fun e => by omega)).2
                have hp : isP z3 = true := by
                  rcases hmo with e | ⟨-, f, e⟩
                  · rw [← e]; exact em
                  · exact absurd e (hnf f)
                obtain ⟨i3, fs3, cd3, rfl⟩ := isP_t hp
                have S3 : PSt T X c i3 fs3 cd3 h3 m := Z3.1
                have ok3 : cok (true, i3, fs3, cd3) := Z3.2
                have hi3 : i3 ≤ T.N := S3.1.2.1
                have hmz3 : mz T (.inl (true, i3, fs3, cd3)) = T.N + 1 - i3 := rfl
                have J153 : ∀ (h5 : HP) (z5 : Sum CF RE) (b5 : Bool), (PZ T X c z5 h5 m) → (isQ z5) → (b5 = isP z5) → (∀ r, RO T z5 r → RO T (z0L T i) r) → (mz T z5 < T.N + 1 - i3) → (LB X m (16 * X + lw.length) lp c h h5) → (HC X c m h h5) → (Fm [459, 460, 461, 462, 467, 468, 469] [455, 456, 465, 466] h h5) → wX G Γ (qM G Γ PP 0 0) 0 0 (h5) 153 [some (rv m), some (.int (b2i lp)), some (.int (nI (16 * X + lw.length))), none] [.int (b2i b5)] := by
                  intro h5 z5 b5 Z5 hq5 hb5 hR5 hm5 B5 H5 F5
                  refine r_istore_n (q := 154) (z := 3) C 3 rfl (by decide +kernel) rfl (by decide) (by first | rfl | exact okst_rv rfl) ?_
                  dsimp only [List.set]
                  refine r_goto (off := -31) (tgt := 123) C (by decide +kernel) (by decide) ?_
                  exact ih123 h5 z5 b5 (by omega) Z5 hq5 (Or.inl hb5) hR5 B5 H5 F5
                refine r_aload_n (q := 135) (z := 0) C 0 rfl (by decide +kernel) rfl rfl ?_
                refine cV0I (q := 138) C R rfl (by decide +kernel) lk_X7_222 (c_X7_part hm K S3 ok3) (by decide) (by decide) (by decide) rfl (by first | exact Nat.le_of_ble_eq_true rfl | (simp only [List.map_cons, List.map_nil, List.sum_cons, List.sum_nil, rv_cat]; exact Nat.le_of_ble_eq_true rfl)) rfl hm.1 ?_
                rintro _ h135 ⟨rfl, Z135, H135, F135⟩
                have hm135 := hm
                have hm : LM h135.kd h135.gl h135.fr m := LM.fm F135 hm135
                have K135 := MKW.fm F135 hm135 (by decide) K
                have F135t : Fm [459, 460, 461, 462, 467, 468, 469] [455, 456, 465, 466] h h135 := F3.tr (F135.mono (by decide) (by decide))
                have B135 := B3.fm F135 hm135 (by decide)
                have H135t := H3.tr H135
                have hR135 : ∀ r, RO T (stP T i3 fs3 cd3) r → RO T (z0L T i) r := fun r hr => hR3 r (RO.of (c := (true, i3, fs3, cd3)) rfl hr)
                have hmP := mz_stP (T := T) (fs := fs3) (cd := cd3) hi3
                refine r_if_ne (q := 141) (off := 10) (tgt := 148) C rfl (by decide +kernel) (by decide) (fun c138 => ?_) (fun c138 => ?_)
                · have hpp := (b2i_n0 _).mp c138
                  obtain ⟨z9, hz9⟩ : ∃ z9, z9 = stP T i3 fs3 cd3 := ⟨_, rfl⟩
                  rw [← hz9] at Z135 hR135 hpp hmP
                  have Z9 := Z135
                  have hq9 : isQ z9 := by rw [hz9]; exact stP_Q (by rw [← hz9]; exact hpp)
                  have hb9 : true = isP z9 := hpp.symm
                  have hR9 := hR135
                  have hm9 := hmP
                  have B9 := B135
                  have H9 := H135t
                  have F9 := F135t
                  refine r_iconst (q := 149) (z := 1) (v := b2i true) C rfl (by decide +kernel) (by decide) ?_
                  refine r_goto (off := 4) (tgt := 153) C (by decide +kernel) (by decide) ?_
                  exact wX.sub (lsub_s (lsub_s (lsub_s (lsub_n (lsub_nil))))) (J153 _ z9 true Z9 hq9 hb9 hR9 hm9 B9 H9 F9)
                · have hpp := (b2i_0 _).mp c138
                  refine r_aload_n (q := 142) (z := 0) C 0 rfl (by decide +kernel) rfl rfl ?_
                  refine cV0I (q := 145) C R rfl (by decide +kernel) lk_X7_226 (c_X7_goesOnBehind hm K135 V Z135 (stP_B hpp)) (by decide) (by decide) (by decide) rfl (by first | exact Nat.le_of_ble_eq_true rfl | (simp only [List.map_cons, List.map_nil, List.sum_cons, List.sum_nil, rv_cat]; exact Nat.le_of_ble_eq_true rfl)) rfl hm.1 ?_
                  rintro _ h142 ⟨z142, rfl, Z142, Q142, R142, ms142, H142, F142⟩
                  have Z9 := Z142
                  have hq9 := Q142
                  have hR9 : ∀ r, RO T z142 r → RO T (z0L T i) r := fun r hr => hR135 r (R142 r hr)
                  have hm9 : mz T z142 < T.N + 1 - i3 := by
                    cases e : isP z142 with
                    | true => have := ms142 e; omega
                    | false => obtain ⟨y, hy⟩ := isP_f Q142 e; rw [hy]; show 0 < _; omega
                  have B9 := B135.fm F142 hm (by decide)
                  have H9 := H135t.tr H142
                  have F9 : Fm [459, 460, 461, 462, 467, 468, 469] [455, 456, 465, 466] h h142 := F135t.tr (F142.mono (by decide) (by decide))
                  obtain ⟨z9, hz9⟩ : ∃ z9, z9 = z142 := ⟨_, rfl⟩
                  rw [← hz9] at Z9 hq9 hR9 hm9 ⊢
                  refine r_if_eq (q := 148) (off := 7) (tgt := 152) C rfl (by decide +kernel) (by decide) (fun c145 => ?_) (fun c145 => ?_)
                  · have hb9 : false = isP z9 := ((b2i_0 _).mp c145).symm
                    refine r_iconst (q := 153) (z := 0) (v := b2i false) C rfl (by decide +kernel) (by decide) ?_
                    exact wX.sub (lsub_s (lsub_s (lsub_s (lsub_n (lsub_nil))))) (J153 _ z9 false Z9 hq9 hb9 hR9 hm9 B9 H9 F9)
                  · have hb9 : true = isP z9 := ((b2i_n0 _).mp c145).symm
                    refine r_iconst (q := 149) (z := 1) (v := b2i true) C rfl (by decide +kernel) (by decide) ?_
                    refine r_goto (off := 4) (tgt := 153) C (by decide +kernel) (by decide) ?_
                    exact wX.sub (lsub_s (lsub_s (lsub_s (lsub_n (lsub_nil))))) (J153 _ z9 true Z9 hq9 hb9 hR9 hm9 B9 H9 F9)
        exact L123 (mz T (z0L T i) + 1) h118 (z0L T i) true (Nat.lt_succ_self _) Z118 hq0 hmo0 (fun r h => h) B118 H118 F118t
      refine r_aload_n (q := 54) (z := 0) C 0 rfl (by decide +kernel) rfl rfl ?_
      refine r_dup (q := 55) C rfl (by decide +kernel) (by first | rfl | exact rv_cat _) ?_
      refine r_getI (q := 58) C 7 7 455 rfl (by decide +kernel) rfl (by decide) rfl rfl wf_X7_179 win7 hm.1 ?_
      rw [Bf.1]
      refine r_iconst (q := 59) (z := 1) (v := 1) C rfl (by decide +kernel) (by decide) ?_
      refine r_iadd (q := 60) C rfl (by decide +kernel) ?_
      rw [nI_1]
      refine r_putI (q := 63) C 7 7 455 rfl (by decide +kernel) rfl (by decide) rfl rfl wf_X7_179 win7 tyX7 tyX7_ok nmX7 rfl (tyX7_ok 7 (by decide)) rfl wnd7 rfl rfl hm.1 ?_
      refine r_bipush (q := 65) (z := 16) (v := 16) C rfl (by decide +kernel) (by decide) ?_
      refine r_aload_n (q := 66) (z := 0) C 0 rfl (by decide +kernel) rfl rfl ?_
      refine r_getI (q := 69) C 7 16 464 rfl (by decide +kernel) rfl (by decide) rfl rfl wf_X7_198 win7 hm.1 ?_
      rw [fi_ne (by decide), t1]
      refine r_imul (q := 70) C rfl (by decide +kernel) ?_
      rw [show (16 : Int32) = nI 16 from rfl, pk_mul]
      refine r_aload_n (q := 71) (z := 0) C 0 rfl (by decide +kernel) rfl rfl ?_
      refine r_getR (q := 74) C 7 10 458 rfl (by decide +kernel) rfl (by decide) rfl rfl wf_X7_57 win7 hm.1 ?_
      refine r_aload_n (q := 75) (z := 0) C 0 rfl (by decide +kernel) rfl rfl ?_
      refine r_getI (q := 78) C 7 16 464 rfl (by decide +kernel) rfl (by decide) rfl rfl wf_X7_198 win7 hm.1 ?_
      rw [fi_ne (by decide), t1]
      refine r_iald (q := 79) C rfl (by decide +kernel) hm.k458 (vp_in_nI t2 (by decide)) ?_
      simp only [fr_setI, ai_setI]
      rw [nI_clamp (by omega), t4]
      refine r_iadd (q := 80) C rfl (by decide +kernel) ?_
      rw [nI_add]
      refine r_istore_n (q := 81) (z := 2) C 2 rfl (by decide +kernel) rfl (by decide) (by first | rfl | exact okst_rv rfl) ?_
      dsimp only [List.set]
      refine r_aload_n (q := 82) (z := 0) C 0 rfl (by decide +kernel) rfl rfl ?_
      refine r_getR (q := 85) C 7 11 459 rfl (by decide +kernel) rfl (by decide) rfl rfl wf_X7_60 win7 hm.1 ?_
      refine r_iload_n (q := 86) (z := 2) C 2 rfl (by decide +kernel) rfl rfl ?_
      refine r_iload_n (q := 87) (z := 1) C 1 rfl (by decide +kernel) rfl rfl ?_
      refine r_zast (q := 88) C rfl (by decide +kernel) (by first | exact b2i_vn _ | rfl) hm.k459 (vp_in_nI (by omega) (by decide)) ?_
      simp only [fr_setI]
      rw [stI_row, nI_clamp (by omega)]
      exact wX.sub (lsub_s (lsub_s (lsub_s (lsub_n (lsub_nil))))) (J88 _ (BF.adv (h := h) K.2.2 Bf k13) (by show (HP.row _ (h.fr 459 m) _).ai (h.fr 459 m) = _; rw [ai_row_eq]; rfl) (Fm.row (Fm.setI Fm.rf (by decide)) (by rw [hm.g459]; decide)))
    · obtain ⟨hF3, hst⟩ : 0 < F3 ∧ LN T i lw (.inl F3) := hz3.resolve_left (fun e => by rw [e.1] at c49; exact absurd (by decide) c49)
      exact r_ret C (by decide +kernel) rfl (by decide) (by decide) (eqP hPP ⟨rfl, ⟨.inl F3, hst, ⟨hF3, i, Bf3⟩, (by show 0 < T.N + 1 - i; omega), OX.fm Fr3 hm0 (by decide), Fr3.mono (by decide) (by decide)⟩⟩)
  have J26 : (T.kd i = 10 ∨ T.kd i = 11) → wX G Γ (qM G Γ PP 0 0) 0 0 (h) 26 [some (rv m), some (.int (b2i lp)), none, none] [] := by
    intro  hop
    refine r_aload_n (q := 27) (z := 0) C 0 rfl (by decide +kernel) rfl rfl ?_
    refine r_getR (q := 30) C 7 10 458 rfl (by decide +kernel) rfl (by decide) rfl rfl wf_X7_57 win7 hm.1 ?_
    refine r_aload_n (q := 31) (z := 0) C 0 rfl (by decide +kernel) rfl rfl ?_
    refine r_getI (q := 34) C 7 16 464 rfl (by decide +kernel) rfl (by decide) rfl rfl wf_X7_198 win7 hm.1 ?_
    rw [t1]
    refine r_iald (q := 35) C rfl (by decide +kernel) hm.k458 (vp_in_nI t2 (by decide)) ?_
    rw [nI_clamp (by omega), t4]
    refine r_bipush (q := 37) (z := 16) (v := 16) C rfl (by decide +kernel) (by decide) ?_
    refine r_icmp_ne (q := 40) (off := 8) (tgt := 45) C rfl (by decide +kernel) (by decide) (fun c37 => ?_) (fun c37 => ?_)
    · have c37 : ¬ lw.length = 16 := fun e => c37 (by rw [e]; rfl)
      exact wX.sub (lsub_s (lsub_s (lsub_n (lsub_n (lsub_nil))))) (J45 h 0 Bf Fm.rf (Or.inl ⟨rfl, rfl, hop, by omega⟩))
    · have c37 : lw.length = 16 := (nI_eq (b := 16) (by omega) (by decide)).mp c37
      refine r_aload_n (q := 41) (z := 0) C 0 rfl (by decide +kernel) rfl rfl ?_
      refine r_iconst (q := 42) (z := 5) (v := nI 5) C rfl (by decide +kernel) (by decide) ?_
      refine cV1V (q := 45) C R rfl (by decide +kernel) lk_X7_188 (c_X7_wrong (k := 5) (F := 0) hm K Bf (by decide)) (by decide) (by decide) (by decide) rfl (by first | exact Nat.le_of_ble_eq_true rfl | (simp only [List.map_cons, List.map_nil, List.sum_cons, List.sum_nil, rv_cat]; exact Nat.le_of_ble_eq_true rfl)) rfl hm.1 ?_
      rintro h42 ⟨B42, F42⟩
      rw [if_pos rfl] at B42
      exact wX.sub (lsub_s (lsub_s (lsub_n (lsub_n (lsub_nil))))) (J45 h42 _ B42 F42 (Or.inr ⟨fq_pos (by decide), Or.inr ⟨hop, Or.inl ⟨by omega, rfl⟩⟩⟩))
  refine r_iload_n (q := 7) (z := 1) C 1 rfl (by decide +kernel) rfl rfl ?_
  refine r_if_ne (q := 10) (off := 19) (tgt := 26) C rfl (by decide +kernel) (by decide) (fun c7 => ?_) (fun c7 => ?_)
  · have k11 : T.kd i = 11 := by have := (b2i_n0 _).mp c7; rw [hlp2] at this; exact of_decide_eq_true this
    exact wX.sub (lsub_s (lsub_s (lsub_n (lsub_n (lsub_nil))))) (J26 (Or.inr k11))
  · have n11 : T.kd i ≠ 11 := by have := (b2i_0 _).mp c7; rw [hlp2] at this; exact of_decide_eq_false this
    refine r_aload_n (q := 11) (z := 0) C 0 rfl (by decide +kernel) rfl rfl ?_
    refine r_iconst (q := 12) (z := 0) (v := nI 0) C rfl (by decide +kernel) (by decide) ?_
    refine cV1I (q := 15) C R rfl (by decide +kernel) lk_X7_192 (c_X7_isWord (w := 0) (F := 0) hm K Bf (by decide)) (by decide) (by decide) (by decide) rfl (by first | exact Nat.le_of_ble_eq_true rfl | (simp only [List.map_cons, List.map_nil, List.sum_cons, List.sum_nil, rv_cat]; exact Nat.le_of_ble_eq_true rfl)) rfl hm.1 ?_
    rintro _ _ ⟨rfl, rfl⟩
    refine r_if_ne (q := 18) (off := 11) (tgt := 26) C rfl (by decide +kernel) (by decide) (fun c15 => ?_) (fun c15 => ?_)
    · have k10 : T.kd i = 10 := V.keep.mp (of_decide_eq_true ((b2i_n0 _).mp c15)).2
      exact wX.sub (lsub_s (lsub_s (lsub_n (lsub_n (lsub_nil))))) (J26 (Or.inl k10))
    · have n10 : T.kd i ≠ 10 := fun e => of_decide_eq_false ((b2i_0 _).mp c15) ⟨rfl, V.keep.mpr e⟩
      refine r_aload_n (q := 19) (z := 0) C 0 rfl (by decide +kernel) rfl rfl ?_
      refine r_iconst (q := 20) (z := 1) (v := nI 1) C rfl (by decide +kernel) (by decide) ?_
      refine cV1V (q := 23) C R rfl (by decide +kernel) lk_X7_188 (c_X7_wrong (k := 1) (F := 0) hm K Bf (by decide)) (by decide) (by decide) (by decide) rfl (by first | exact Nat.le_of_ble_eq_true rfl | (simp only [List.map_cons, List.map_nil, List.sum_cons, List.sum_nil, rv_cat]; exact Nat.le_of_ble_eq_true rfl)) rfl hm.1 ?_
      rintro h20 ⟨B20, F20⟩
      rw [if_pos rfl] at B20
      refine r_goto (off := 22) (tgt := 45) C (by decide +kernel) (by decide) ?_
      exact wX.sub (lsub_s (lsub_s (lsub_n (lsub_n (lsub_nil))))) (J45 h20 _ B20 F20 (Or.inr ⟨fq_pos (by decide), Or.inl ⟨n10, n11, rfl⟩⟩))
set_option maxHeartbeats 4000000 in
theorem c_X7_text {G : GT} {h : HP} {m : Nat} {tp : List Nat} {lw : LW} (hm : LM h.kd h.gl h.fr m) (T : MT tp h m) (L : ML lw h m) (Wd : MWd h m) : Con G 5 0 0 yX7_text cX7_text 1 (some .int) [rv m] h (PI (fun v h' => ∃ r, TX (lexT tp) 0 [] r ∧ txv r = v ∧ ML (txl lw r) h' m ∧ MT [] h' m ∧ Fm [452, 453, 454, 458, 459, 460, 461, 462, 467, 468, 469] [448, 450, 451, 455, 456, 463, 464, 465, 466] h h')) := by
  refine Con.of (lv := [some (rv m)]) (by decide) (by simp only [lvE_r, lvE_i, lvE_l, lvE_s, lvE_0]; rfl) (by simp only [lgl_r, lgl_i, lgl_l, lgl_s, lgl_0]; decide) (fun Γ C R => ?_)
  generalize hPP : (PI (fun v h' => ∃ r, TX (lexT tp) 0 [] r ∧ txv r = v ∧ ML (txl lw r) h' m ∧ MT [] h' m ∧ Fm [452, 453, 454, 458, 459, 460, 461, 462, 467, 468, 469] [448, 450, 451, 455, 456, 463, 464, 465, 466] h h')) = PP
  obtain ⟨H, H2, hh, hl16, hln, hLA⟩ := id L
  have hTW := lex_TW T.1
  have hTV := lex_TV tp
  have hmH := hm
  have hN6 := hTW.2.1
  obtain ⟨X, hX⟩ : ∃ X, X = 1 - H := ⟨_, rfl⟩
  refine r_aload_n (q := 1) (z := 0) C 0 rfl (by decide +kernel) rfl rfl ?_
  refine r_iconst (q := 2) (z := 0) (v := 0) C rfl (by decide +kernel) (by decide) ?_
  refine r_putI (q := 5) C 7 0 448 rfl (by decide +kernel) rfl (by decide) rfl rfl wf_X7_1 win7 tyX7 tyX7_ok nmX7 rfl (tyX7_ok 0 (by decide)) rfl wnd7 rfl rfl hm.1 ?_
  refine r_aload_n (q := 6) (z := 0) C 0 rfl (by decide +kernel) rfl rfl ?_
  refine cV0V (q := 9) C R rfl (by decide +kernel) lk_X7_204 (c_X7_cutAll (tp := tp) hm (T.setI (by decide))) (by decide) (by decide) (by decide) rfl (by first | exact Nat.le_of_ble_eq_true rfl | (simp only [List.map_cons, List.map_nil, List.sum_cons, List.sum_nil, rv_cat]; exact Nat.le_of_ble_eq_true rfl)) rfl hm.1 ?_
  rintro h6 ⟨K6, z506, z556, z566, F6⟩
  have hm6 : LM h6.kd h6.gl h6.fr m := LM.fm F6 (h := h.setI 448 m 0) hm
  have hm := hm6
  have F6t : Fm [452, 453, 454] [448, 450, 451, 455, 456] h h6 := (Fm.setI (Fm.rf (A := [452, 453, 454]) (B := [448, 450, 451, 455, 456])) (by decide)).tr (F6.mono (by decide) (by decide))
  have K6w : MKW (lexT tp) h6 m := ⟨K6, Wd.fm F6t hmH (by decide), hTW⟩
  have B6 : BF (lexT tp) 0 0 h6 m := ⟨z556, Nat.zero_le _, z566, by decide⟩
  have J19 : ∀ (h1 : HP), (MKW (lexT tp) h1 m) → (BF (lexT tp) 0 0 h1 m) → (h1.fi 464 m = nI X) → (h1.fi 450 m = 0) → (Fm [452, 453, 454] [448, 450, 451, 455, 456, 464] h h1) → wX G Γ (qM G Γ PP 0 0) 0 0 (h1) 19 [some (rv m)] [] := by
    intro h1 K1 B1 x1 z1 F1
    have hm : LM h1.kd h1.gl h1.fr m := LM.fm F1 hmH
    have J60 : ∀ (h3 : HP) (i F : Nat), (BF (lexT tp) i F h3 m) → ((0 < F ∧ TX (lexT tp) 0 [] (.inl F)) ∨ (F = 0 ∧ ∃ lw2, TX (lexT tp) 0 [] (.inr lw2) ∧ TS X lw2 i h3 m)) → (h3.fi 464 m = nI X) → (h3.fi 450 m = 0) → (OX X m h h3) → (Fm [452, 453, 454, 458, 459, 460, 461, 462, 467, 468, 469] [448, 450, 451, 455, 456, 464, 465, 466] h h3) → wX G Γ (qM G Γ PP 0 0) 0 0 (h3) 60 [some (rv m)] [] := by
      intro h3 i F Bf hcase x3 z3 O3 F3
      have hm : LM h3.kd h3.gl h3.fr m := LM.fm F3 hmH
      have hF9 := Bf.2.2.2
      refine r_aload_n (q := 61) (z := 0) C 0 rfl (by decide +kernel) rfl rfl ?_
      refine r_getI (q := 64) C 7 8 456 rfl (by decide +kernel) rfl (by decide) rfl rfl wf_X7_182 win7 hm.1 ?_
      rw [Bf.2.2.1]
      refine r_if_ne (q := 67) (off := 11) (tgt := 75) C rfl (by decide +kernel) (by decide) (fun c64 => ?_) (fun c64 => ?_)
      · have hF : 0 < F := by
          rcases Nat.eq_zero_or_pos F with e | e
          · rw [e] at c64; exact absurd rfl c64
          · exact e
        obtain ⟨-, hX9⟩ := hcase.resolve_right (fun e => by omega)
        refine r_aload_n (q := 76) (z := 0) C 0 rfl (by decide +kernel) rfl rfl ?_
        refine r_getI (q := 79) C 7 8 456 rfl (by decide +kernel) rfl (by decide) rfl rfl wf_X7_182 win7 hm.1 ?_
        first | rw [fi_ne (by decide), Bf.2.2.1] | rw [Bf.2.2.1]
        exact r_iret C (by decide +kernel) rfl (by decide) (by decide) (eqP hPP ⟨_, rfl, (by
              first
                | exact ⟨.inl F, hX9, rfl, ML.other hX H2 ⟨hh, hl16, hln, hLA⟩ O3 (F3.2.2.2.2.1 _ _ (by decide)), ⟨⟨by decide, fun j hj => absurd hj (Nat.not_lt_zero j)⟩, z3, fun j hj => absurd hj (Nat.not_lt_zero j)⟩, F3.mono (by decide) (by decide)⟩
                | exact ⟨.inr lw2, hX9, rfl, ML.adopt hTW Bf.2.1 S2, ⟨⟨by decide, fun j hj => absurd hj (Nat.not_lt_zero j)⟩, (fi_ne (by decide)).trans z3, fun j hj => absurd hj (Nat.not_lt_zero j)⟩, (F3.mono (by decide) (by decide)).setI (by decide)⟩)⟩)
      · have hF : F = 0 := (nI_eq (b := 0) (by omega) (by decide)).mp c64
        obtain ⟨-, lw2, hX9, S2⟩ := hcase.resolve_left (fun e => by omega)
        subst hF
        refine r_aload_n (q := 68) (z := 0) C 0 rfl (by decide +kernel) rfl rfl ?_
        refine r_aload_n (q := 69) (z := 0) C 0 rfl (by decide +kernel) rfl rfl ?_
        refine r_getI (q := 72) C 7 16 464 rfl (by decide +kernel) rfl (by decide) rfl rfl wf_X7_198 win7 hm.1 ?_
        rw [x3]
        refine r_putI (q := 75) C 7 15 463 rfl (by decide +kernel) rfl (by decide) rfl rfl wf_X7_207 win7 tyX7 tyX7_ok nmX7 rfl (tyX7_ok 15 (by decide)) rfl wnd7 rfl rfl hm.1 ?_
        refine r_aload_n (q := 76) (z := 0) C 0 rfl (by decide +kernel) rfl rfl ?_
        refine r_getI (q := 79) C 7 8 456 rfl (by decide +kernel) rfl (by decide) rfl rfl wf_X7_182 win7 hm.1 ?_
        first | rw [fi_ne (by decide), Bf.2.2.1] | rw [Bf.2.2.1]
        exact r_iret C (by decide +kernel) rfl (by decide) (by decide) (eqP hPP ⟨_, rfl, (by
              first
                | exact ⟨.inl F, hX9, rfl, ML.other hX H2 ⟨hh, hl16, hln, hLA⟩ O3 (F3.2.2.2.2.1 _ _ (by decide)), ⟨⟨by decide, fun j hj => absurd hj (Nat.not_lt_zero j)⟩, z3, fun j hj => absurd hj (Nat.not_lt_zero j)⟩, F3.mono (by decide) (by decide)⟩
                | exact ⟨.inr lw2, hX9, rfl, ML.adopt hTW Bf.2.1 S2, ⟨⟨by decide, fun j hj => absurd hj (Nat.not_lt_zero j)⟩, (fi_ne (by decide)).trans z3, fun j hj => absurd hj (Nat.not_lt_zero j)⟩, (F3.mono (by decide) (by decide)).setI (by decide)⟩)⟩)
    refine r_aload_n (q := 20) (z := 0) C 0 rfl (by decide +kernel) rfl rfl ?_
    refine r_getR (q := 23) C 7 10 458 rfl (by decide +kernel) rfl (by decide) rfl rfl wf_X7_57 win7 hm.1 ?_
    refine r_aload_n (q := 24) (z := 0) C 0 rfl (by decide +kernel) rfl rfl ?_
    refine r_getI (q := 27) C 7 16 464 rfl (by decide +kernel) rfl (by decide) rfl rfl wf_X7_198 win7 hm.1 ?_
    rw [x1]
    refine r_iconst (q := 28) (z := 0) (v := 0) C rfl (by decide +kernel) (by decide) ?_
    refine r_iast (q := 29) C rfl (by decide +kernel) rfl hm.k458 (vp_in_nI (by omega) (by decide)) ?_
    rw [stI_row, nI_clamp (by omega)]
    refine r_aload_n (q := 30) (z := 0) C 0 rfl (by decide +kernel) rfl rfl ?_
    refine r_iconst (q := 31) (z := 0) (v := 0) C rfl (by decide +kernel) (by decide) ?_
    refine r_putI (q := 34) C 7 17 465 rfl (by decide +kernel) rfl (by decide) rfl rfl wf_X7_201 win7 tyX7 tyX7_ok nmX7 rfl (tyX7_ok 17 (by decide)) rfl wnd7 rfl rfl hm.1 ?_
    have FR1 : Fm [458] [465] h1 ((h1.row (h1.fr 458 m) (upd (h1.ai (h1.fr 458 m)) X 0)).setI 465 m 0) := Fm.setI (Fm.row Fm.rf (by rw [hm.g458]; decide)) (by decide)
    have ENT34 : PW (lexT tp) X (.inr (0, [])) ((h1.row (h1.fr 458 m) (upd (h1.ai (h1.fr 458 m)) X 0)).setI 465 m 0) m := ⟨B1.fm FR1 (by decide), (FR1.2.2.2.2.1 _ _ (by decide)).trans x1, by omega, by decide, (by show (h1.row (h1.fr 458 m) _).ai (h1.fr 458 m) X = _; rw [ai_row_eq, pk_us]; rfl), 0, Nat.le_refl _, fi_eq, fun k ln hk => by simp at hk⟩
    have K34 := MKW.fm FR1 hm (by decide) K1
    have x34 := (FR1.2.2.2.2.1 464 m (by decide)).trans x1
    have z34 := (FR1.2.2.2.2.1 450 m (by decide)).trans z1
    have F34 : Fm [452, 453, 454, 458, 459, 460, 461, 462, 467, 468, 469] [448, 450, 451, 455, 456, 464, 465, 466] h ((h1.row (h1.fr 458 m) (upd (h1.ai (h1.fr 458 m)) X 0)).setI 465 m 0) := (F1.mono (by decide) (by decide)).tr (FR1.mono (by decide) (by decide))
    have O34 : OX X m h ((h1.row (h1.fr 458 m) (upd (h1.ai (h1.fr 458 m)) X 0)).setI 465 m 0) := by
      refine (OX.fm F1 hmH (by decide)).tr ⟨HC.fm FR1 hm (by decide), fun p hp => ?_, fun p hp => ?_⟩
      · show (h1.row (h1.fr 458 m) _).ai (h1.fr 459 m) p = _ ∧ (h1.row (h1.fr 458 m) _).ai (h1.fr 460 m) p = _
        rw [ai_row_ne (gl_ne hm.g459 hm.g458 (by decide)), ai_row_ne (gl_ne hm.g460 hm.g458 (by decide))]; exact ⟨rfl, rfl⟩
      · show (h1.row (h1.fr 458 m) _).ai (h1.fr 458 m) p = _
        rw [ai_row_eq, pk_un hp]
    have L34 : ∀ (fuel34 : Nat) (h2 : HP) (w : WW), mw (lexT tp) w < fuel34 → (PW (lexT tp) X w h2 m) → (∀ r, RX (lexT tp) w r → TX (lexT tp) 0 [] r) → (MKW (lexT tp) h2 m) → (h2.fi 464 m = nI X) → (h2.fi 450 m = 0) → (OX X m h h2) → (Fm [452, 453, 454, 458, 459, 460, 461, 462, 467, 468, 469] [448, 450, 451, 455, 456, 464, 465, 466] h h2) → wX G Γ (qM G Γ PP 0 0) 0 0 (h2) 34 [some (rv m)] [] := by
      intro fuel34
      induction fuel34 with
      | zero =>
        intro h2 w hm34
        exact absurd hm34 (Nat.not_lt_zero _)
      | succ fuel34 ih34 =>
        intro h2 w hm34 Zw hRw K2 x2 z2 O2 F2
        have hm : LM h2.kd h2.gl h2.fr m := LM.fm F2 hmH
        obtain ⟨i, F, Bf, hcase⟩ := Zw.bf
        have hF9 := Bf.2.2.2
        have hiN := Bf.2.1
        refine r_aload_n (q := 35) (z := 0) C 0 rfl (by decide +kernel) rfl rfl ?_
        refine r_getI (q := 38) C 7 8 456 rfl (by decide +kernel) rfl (by decide) rfl rfl wf_X7_182 win7 hm.1 ?_
        rw [Bf.2.2.1]
        refine r_if_ne (q := 41) (off := 22) (tgt := 60) C rfl (by decide +kernel) (by decide) (fun c38 => ?_) (fun c38 => ?_)
        · have hF : 0 < F := by
            rcases Nat.eq_zero_or_pos F with e | e
            · rw [e] at c38; exact absurd rfl c38
            · exact e
          obtain ⟨-, rfl⟩ : 0 < F ∧ w = .inl F := hcase.resolve_left (fun e => by omega)
          exact J60 h2 i F Bf (Or.inl ⟨hF, hRw _ rfl⟩) x2 z2 O2 F2
        · have hF : F = 0 := (nI_eq (b := 0) (by omega) (by decide)).mp c38
          obtain ⟨-, lw2, rfl, S2⟩ := hcase.resolve_right (fun e => by omega)
          subst hF
          refine r_aload_n (q := 42) (z := 0) C 0 rfl (by decide +kernel) rfl rfl ?_
          refine r_getR (q := 45) C 7 4 452 rfl (by decide +kernel) rfl (by decide) rfl rfl wf_X7_24 win7 hm.1 ?_
          refine r_aload_n (q := 46) (z := 0) C 0 rfl (by decide +kernel) rfl rfl ?_
          refine r_getI (q := 49) C 7 7 455 rfl (by decide +kernel) rfl (by decide) rfl rfl wf_X7_179 win7 hm.1 ?_
          rw [Bf.1]
          refine r_iald (q := 50) C rfl (by decide +kernel) hm.k452 (vp_in_nI (by omega) (by decide)) ?_
          rw [nI_clamp (by omega)]
          refine r_if_eq (q := 53) (off := 10) (tgt := 60) C rfl (by decide +kernel) (by decide) (fun c50 => ?_) (fun c50 => ?_)
          · have k13 : (lexT tp).kd i = 13 := (K2.1.num K2.2.2 hiN).2.2.1.mp c50
            exact J60 h2 i 0 Bf (Or.inr ⟨rfl, lw2, hRw _ (TX.en k13), S2⟩) x2 z2 O2 F2
          · have k13 : (lexT tp).kd i ≠ 13 := fun e => c50 ((K2.1.num K2.2.2 hiN).2.2.1.mpr e)
            refine r_aload_n (q := 54) (z := 0) C 0 rfl (by decide +kernel) rfl rfl ?_
            refine cV0V (q := 57) C R rfl (by decide +kernel) lk_X7_210 (c_X7_line hm K2 hTV Bf S2 k13) (by decide) (by decide) (by decide) rfl (by first | exact Nat.le_of_ble_eq_true rfl | (simp only [List.map_cons, List.map_nil, List.sum_cons, List.sum_nil, rv_cat]; exact Nat.le_of_ble_eq_true rfl)) rfl hm.1 ?_
            rintro h54 ⟨w54, N54, Z54, ms54, O54, F54⟩
            have K54 := MKW.fm F54 hm (by decide) K2
            have hst : ∀ r, RX (lexT tp) w54 r → TX (lexT tp) i lw2 r := fun r hr => by
              rcases w54 with f | ⟨j, l⟩
              · rw [show r = .inl f from hr]; exact TX.flt k13 N54
              · exact TX.st k13 N54 hr
            refine r_goto (off := -23) (tgt := 34) C (by decide +kernel) (by decide) ?_
            exact ih34 h54 w54 (by omega) Z54 (fun r hr => hRw r (hst r hr)) K54 ((F54.2.2.2.2.1 _ _ (by decide)).trans x2) ((F54.2.2.2.2.1 _ _ (by decide)).trans z2) (O2.tr O54) (F2.tr (F54.mono (by decide) (by decide)))
    exact L34 (mw (lexT tp) (.inr (0, [])) + 1) _ (.inr (0, [])) (Nat.lt_succ_self _) ENT34 (fun r h => h) K34 x34 z34 O34 F34
  refine r_aload_n (q := 10) (z := 0) C 0 rfl (by decide +kernel) rfl rfl ?_
  refine r_iconst (q := 11) (z := 1) (v := 1) C rfl (by decide +kernel) (by decide) ?_
  refine r_aload_n (q := 12) (z := 0) C 0 rfl (by decide +kernel) rfl rfl ?_
  refine r_getI (q := 15) C 7 15 463 rfl (by decide +kernel) rfl (by decide) rfl rfl wf_X7_207 win7 hm.1 ?_
  rw [F6t.2.2.2.2.1 _ _ (by decide), hh]
  refine r_isub (q := 16) C rfl (by decide +kernel) ?_
  rw [show (1 : Int32) = nI 1 from rfl, pk_sub (by omega), ← hX]
  refine r_putI (q := 19) C 7 16 464 rfl (by decide +kernel) rfl (by decide) rfl rfl wf_X7_198 win7 tyX7 tyX7_ok nmX7 rfl (tyX7_ok 16 (by decide)) rfl wnd7 rfl rfl hm.1 ?_
  exact J19 _ (MKW.fm (A := []) (B := [464]) (Fm.setI Fm.rf (by decide)) hm ⟨by simp, by simp, by simp, by simp⟩ K6w) ((BF.fm (A := []) (B := [464]) (Fm.setI Fm.rf (by decide)) (by decide) B6)) fi_eq ((fi_ne (by decide)).trans z506) (Fm.setI (F6t.mono (by decide) (by decide)) (by decide))
