set_option maxHeartbeats 8000000 in
theorem law_loop {G : GT} {Γ : CT} {Q : State → Prop} {nm ds : String} {b N g m o kc0 nc0 : Nat} {xs : Nat → Int32} {h : HP} (C : Cx G Γ ⟨RL, nm, ds⟩ cL_law 7 (some .boolean)) (R : Rm Γ 30 601024 7293034) (hX : va_X b N xs Γ.s Γ.s.heap) (hbl : b < Γ.s.heap.size) (hbA : ¬ G.A b) (hN : N ≤ 3584) (HC0 : CP s0 (fun _ => 100) (fun _ => 1) 1 [] [] [] (fun _ => 0) h g) (HM0 : MP s0 (fun _ => 100) (fun _ => 1) 1 [] [] h m) (HO0 : OO o h) (hk0 : kc0 ≤ 200) (hn0 : nc0 ≤ 20000)
    (Hend : ∀ (k n : Nat) (h : HP) (lv : List (Option Value)), k ≤ 601024 → n ≤ 7293034 → wX G Γ Q k n h 1081 lv [])
    (Hlk : ∀ {σ : SG} {be sh : Nat → Nat} {ra : Nat} {tp : List Nat} {lw : LW} {L : List Nat} {p : Nat → Nat} {h : HP} {x w : Int32} {k n : Nat} {lv : List (Option Value)}, CP σ be sh ra tp lw L p h g → OO o h → WF σ → k + 2 ≤ 601024 → n + 40 ≤ 7293034 → (∀ v h', ((lkP σ x w → 0 = v ∧ h.rowL o (vp_updL (h.al o) 0 (lookV σ x.toNatClampNeg w).toInt64) = h') ∧ (¬ lkP σ x w → 1 = v ∧ h = h')) → wX G Γ Q (k + 2) (n + 40) h' 962 lv (.int v :: [])) → wX G Γ Q k n h 959 lv (rv o :: .int w :: .int x :: rv g :: [])) :
    wX G Γ Q kc0 nc0 h 23 [some (.ref b), some (rv g), some (rv m), some (rv o), some (.int (nI 0)), none, none] [] := by
  have L23 : ∀ (fuel23 : Nat) (h2 : HP) (i kc nc : Nat) (σ : SG) (be sh : Nat → Nat) (ra : Nat) (tp : List Nat) (lw : LW) (L : List Nat) (p : Nat → Nat), N - i < fuel23 → (CP σ be sh ra tp lw L p h2 g) → (MP σ be sh ra tp lw h2 m) → (PK σ L) → (OO o h2) → (i ≤ N) → (kc ≤ 200 + 4 * i) → (nc ≤ 20000 + 100 * i) → wX G Γ Q kc nc (h2) 23 [some (.ref b), some (rv g), some (rv m), some (rv o), some (.int (nI i)), none, none] [] := by
    intro fuel23
    induction fuel23 with
    | zero =>
      intro h2 i kc nc σ be sh ra tp lw L p hm23
      exact absurd hm23 (Nat.not_lt_zero _)
    | succ fuel23 ih23 =>
      intro h2 i kc nc σ be sh ra tp lw L p hm23 HC HM HK HO hi hkc hnc
      obtain ⟨c1, c2, c3, c4, c5, c6⟩ := id HC
      obtain ⟨m1, m2, m3, m4, m5, m6⟩ := id HM
      obtain ⟨W, J, Srt0, hNW⟩ := id HK
      have r10 := W.n10
      refine r_iload (q := 25) C 4 rfl (by decide +kernel) rfl ?_
      refine r_aload_nS (q := 26) (z := 0) C 0 rfl (by decide +kernel) rfl rfl ?_
      refine r_sln (q := 27) C rfl (by decide +kernel) hX hbl hbA ?_
      refine r_bipush (q := 29) (z := 7) (v := 7) C rfl (by decide +kernel) (by decide) ?_
      refine r_isub (q := 30) C rfl (by decide +kernel) ?_
      refine r_icmp_gt (q := 33) (off := 1051) (tgt := 1081) C rfl (by decide +kernel) (by decide) (fun c30 => ?_) (fun c30 => ?_)
      · exact Hend _ _ _ _ (by omega) (by omega)
      · have h7 : i + 7 ≤ N := by
          rcases Nat.lt_or_ge N (i + 7) with q9 | q9
          · exact absurd ((gt7 (by omega) (by omega)).mpr q9) c30
          · exact q9
        have J1075 : ∀ (h3 : HP) (kd nd : Nat) (σ3 : SG) (be3 sh3 : Nat → Nat) (ra3 : Nat) (tp3 : List Nat) (lw3 : LW) (L3 : List Nat) (p3 : Nat → Nat), (CP σ3 be3 sh3 ra3 tp3 lw3 L3 p3 h3 g) → (MP σ3 be3 sh3 ra3 tp3 lw3 h3 m) → (PK σ3 L3) → (OO o h3) → (kd ≤ kc + 4) → (nd ≤ nc + 100) → wX G Γ Q kd nd (h3) 1075 [some (.ref b), some (rv g), some (rv m), some (rv o), some (.int (nI i)), none, none] [] := by
          intro h3 kd nd σ3 be3 sh3 ra3 tp3 lw3 L3 p3 HC3 HM3 HK3 HO3 hkd hnd
          refine r_iinc (q := 1078) (z := 7) (v := 7) C 4 rfl (by decide +kernel) rfl (by decide) (by decide) (by first | rfl | exact okst_rv rfl) ?_
          dsimp only [List.set]
          rw [show (7 : Int32) = nI 7 from rfl, nI_add]
          refine r_goto (off := -1055) (tgt := 23) C (by decide +kernel) (by decide) ?_
          exact wX.sub (lsub_s (lsub_s (lsub_s (lsub_s (lsub_s (lsub_n (lsub_n (lsub_nil)))))))) (ih23 h3 (i + 7) kd nd σ3 be3 sh3 ra3 tp3 lw3 L3 p3 (by omega) HC3 HM3 HK3 HO3 (by omega) (by omega) (by omega))
        refine r_aload_nS (q := 34) (z := 0) C 0 rfl (by decide +kernel) rfl rfl ?_
        refine r_iload (q := 36) C 4 rfl (by decide +kernel) rfl ?_
        refine r_sld (q := 37) C rfl (by decide +kernel) hX hbl hbA (vp_in_nI (by omega) (by omega)) ?_
        rw [nI_clamp (by omega)]
        refine r_bipush (q := 39) (z := 31) (v := 31) C rfl (by decide +kernel) (by decide) ?_
        refine r_iand (q := 40) C rfl (by decide +kernel) ?_
        obtain ⟨w, hw0⟩ : ∃ w, w = xs i &&& 31 := ⟨_, rfl⟩
        rw [← hw0]
        rcases sw22 hw0 with rfl | rfl | rfl | rfl | rfl | rfl | rfl | rfl | rfl | rfl | rfl | rfl | rfl | rfl | rfl | rfl | rfl | rfl | rfl | rfl | rfl | rfl | hw
        · refine r_tableIn (dflt := 1035) (lo := 0) (hi := 21) (offs := #[104, 169, 194, 267, 344, 421, 446, 459, 472, 497, 522, 535, 682, 695, 732, 757, 782, 819, 844, 905, 973, 1010]) (len := 104) (off := 104) (tgt := 144) C (by decide +kernel) (by decide) (by decide) (by decide) (by decide) ?_
          have J171 : wX G Γ Q kc nc (h2) 171 [some (.ref b), some (rv g), some (rv m), some (rv o), some (.int (nI i)), none, none] [.int (b2i (decide (¬ xs (i + 3) = 0))), .int (xs (i + 2)), .int (xs (i + 1)), rv g] := by
            refine cV3I (q := 174) C R rfl (by decide +kernel) lk_L_19 (c_X6_close (L := L) c1 c2 c3 W J) (by decide) (by omega) (by omega) rfl (by first | exact Nat.le_of_ble_eq_true rfl | (simp only [List.map_cons, List.map_nil, List.sum_cons, List.sum_nil, rv_cat]; exact Nat.le_of_ble_eq_true rfl)) rfl c1.kf ?_
            rintro _ h171 ⟨rfl, R171, Rc171, F171⟩
            have HCc := HC.up F171 (by decide) (by decide) n_cl R171 Rc171
            have HMc := HM.kc (F171.kc (by decide) (by decide))
            have HOc := HO.fm F171
            have J201 : wX G Γ Q (kc + 0) (nc + 0) (h171) 201 [some (.ref b), some (rv g), some (rv m), some (rv o), some (.int (nI i)), none, none] [.int (b2i (decide (¬ xs (i + 3) = 0))), .int (xs (i + 2)), .int (xs (i + 1)), rv m, .int (cif (clP σ (xs (i + 1)) (xs (i + 2)) (decide (¬ xs (i + 3) = 0))) 1 0)] := by
              refine cV3I (q := 204) C R rfl (by decide +kernel) lk_L_23 (c_X7_close HMc.1 HMc.2.1 W) (by decide) (by omega) (by omega) rfl (by first | exact Nat.le_of_ble_eq_true rfl | (simp only [List.map_cons, List.map_nil, List.sum_cons, List.sum_nil, rv_cat]; exact Nat.le_of_ble_eq_true rfl)) rfl HMc.1.1 ?_
              rintro _ h201 ⟨rfl, M201, F201⟩
              refine r_icmp_eq (q := 207) (off := 871) (tgt := 1075) C rfl (by decide +kernel) (by decide) (fun c204 => ?_) (fun c204 => ?_)
              · exact wX.sub (lsub_s (lsub_s (lsub_s (lsub_s (lsub_s (lsub_n (lsub_n (lsub_nil)))))))) (wX.sub (lsub_s (lsub_s (lsub_s (lsub_s (lsub_s (lsub_n (lsub_n lsub_nil))))))) (J1075 h201 _ _ _ _ _ _ _ _ _ _ (CP.fm F201 (by decide) (by decide) HCc) (HMc.up F201 (by decide) (by decide) M201) HK.close (HOc.fm F201) (by omega) (by omega)))
              · exact absurd rfl c204
            refine r_aload_n (q := 175) (z := 2) C 2 rfl (by decide +kernel) rfl rfl ?_
            refine r_aload_nS (q := 176) (z := 0) C 0 rfl (by decide +kernel) rfl rfl ?_
            refine r_iload (q := 178) C 4 rfl (by decide +kernel) rfl ?_
            refine r_iconst (q := 179) (z := 1) (v := nI 1) C rfl (by decide +kernel) (by decide) ?_
            refine r_iadd (q := 180) C rfl (by decide +kernel) ?_
            rw [nI_add]
            refine r_sld (q := 181) C rfl (by decide +kernel) hX hbl hbA (vp_in_nI (by omega) (by omega)) ?_
            rw [nI_clamp (by omega)]
            refine r_aload_nS (q := 182) (z := 0) C 0 rfl (by decide +kernel) rfl rfl ?_
            refine r_iload (q := 184) C 4 rfl (by decide +kernel) rfl ?_
            refine r_iconst (q := 185) (z := 2) (v := nI 2) C rfl (by decide +kernel) (by decide) ?_
            refine r_iadd (q := 186) C rfl (by decide +kernel) ?_
            rw [nI_add]
            refine r_sld (q := 187) C rfl (by decide +kernel) hX hbl hbA (vp_in_nI (by omega) (by omega)) ?_
            rw [nI_clamp (by omega)]
            refine r_aload_nS (q := 188) (z := 0) C 0 rfl (by decide +kernel) rfl rfl ?_
            refine r_iload (q := 190) C 4 rfl (by decide +kernel) rfl ?_
            refine r_iconst (q := 191) (z := 3) (v := nI 3) C rfl (by decide +kernel) (by decide) ?_
            refine r_iadd (q := 192) C rfl (by decide +kernel) ?_
            rw [nI_add]
            refine r_sld (q := 193) C rfl (by decide +kernel) hX hbl hbA (vp_in_nI (by omega) (by omega)) ?_
            rw [nI_clamp (by omega)]
            refine r_if_eq (q := 196) (off := 7) (tgt := 200) C rfl (by decide +kernel) (by decide) (fun c193 => ?_) (fun c193 => ?_)
            · refine r_iconst (q := 201) (z := 0) (v := 0) C rfl (by decide +kernel) (by decide) ?_
              have z9 := J201
              first | (rw [show b2i (decide (¬ xs (i + 3) = 0)) = 1 from bt c193] at z9; exact z9) | (rw [show b2i (decide (¬ xs (i + 3) = 0)) = 0 from bf (fun q9 => q9 c193)] at z9; exact z9)
            · refine r_iconst (q := 197) (z := 1) (v := 1) C rfl (by decide +kernel) (by decide) ?_
              refine r_goto (off := 4) (tgt := 201) C (by decide +kernel) (by decide) ?_
              have z9 := J201
              first | (rw [show b2i (decide (¬ xs (i + 3) = 0)) = 1 from bt c193] at z9; exact z9) | (rw [show b2i (decide (¬ xs (i + 3) = 0)) = 0 from bf (fun q9 => q9 c193)] at z9; exact z9)
          refine r_aload_n (q := 145) (z := 1) C 1 rfl (by decide +kernel) rfl rfl ?_
          refine r_aload_nS (q := 146) (z := 0) C 0 rfl (by decide +kernel) rfl rfl ?_
          refine r_iload (q := 148) C 4 rfl (by decide +kernel) rfl ?_
          refine r_iconst (q := 149) (z := 1) (v := nI 1) C rfl (by decide +kernel) (by decide) ?_
          refine r_iadd (q := 150) C rfl (by decide +kernel) ?_
          rw [nI_add]
          refine r_sld (q := 151) C rfl (by decide +kernel) hX hbl hbA (vp_in_nI (by omega) (by omega)) ?_
          rw [nI_clamp (by omega)]
          refine r_aload_nS (q := 152) (z := 0) C 0 rfl (by decide +kernel) rfl rfl ?_
          refine r_iload (q := 154) C 4 rfl (by decide +kernel) rfl ?_
          refine r_iconst (q := 155) (z := 2) (v := nI 2) C rfl (by decide +kernel) (by decide) ?_
          refine r_iadd (q := 156) C rfl (by decide +kernel) ?_
          rw [nI_add]
          refine r_sld (q := 157) C rfl (by decide +kernel) hX hbl hbA (vp_in_nI (by omega) (by omega)) ?_
          rw [nI_clamp (by omega)]
          refine r_aload_nS (q := 158) (z := 0) C 0 rfl (by decide +kernel) rfl rfl ?_
          refine r_iload (q := 160) C 4 rfl (by decide +kernel) rfl ?_
          refine r_iconst (q := 161) (z := 3) (v := nI 3) C rfl (by decide +kernel) (by decide) ?_
          refine r_iadd (q := 162) C rfl (by decide +kernel) ?_
          rw [nI_add]
          refine r_sld (q := 163) C rfl (by decide +kernel) hX hbl hbA (vp_in_nI (by omega) (by omega)) ?_
          rw [nI_clamp (by omega)]
          refine r_if_eq (q := 166) (off := 7) (tgt := 170) C rfl (by decide +kernel) (by decide) (fun c163 => ?_) (fun c163 => ?_)
          · refine r_iconst (q := 171) (z := 0) (v := 0) C rfl (by decide +kernel) (by decide) ?_
            have z9 := J171
            first | (rw [show b2i (decide (¬ xs (i + 3) = 0)) = 1 from bt c163] at z9; exact z9) | (rw [show b2i (decide (¬ xs (i + 3) = 0)) = 0 from bf (fun q9 => q9 c163)] at z9; exact z9)
          · refine r_iconst (q := 167) (z := 1) (v := 1) C rfl (by decide +kernel) (by decide) ?_
            refine r_goto (off := 4) (tgt := 171) C (by decide +kernel) (by decide) ?_
            have z9 := J171
            first | (rw [show b2i (decide (¬ xs (i + 3) = 0)) = 1 from bt c163] at z9; exact z9) | (rw [show b2i (decide (¬ xs (i + 3) = 0)) = 0 from bf (fun q9 => q9 c163)] at z9; exact z9)
        · refine r_tableIn (dflt := 1035) (lo := 0) (hi := 21) (offs := #[104, 169, 194, 267, 344, 421, 446, 459, 472, 497, 522, 535, 682, 695, 732, 757, 782, 819, 844, 905, 973, 1010]) (len := 104) (off := 169) (tgt := 209) C (by decide +kernel) (by decide) (by decide) (by decide) (by decide) ?_
          refine r_aload_n (q := 210) (z := 1) C 1 rfl (by decide +kernel) rfl rfl ?_
          refine r_aload_nS (q := 211) (z := 0) C 0 rfl (by decide +kernel) rfl rfl ?_
          refine r_iload (q := 213) C 4 rfl (by decide +kernel) rfl ?_
          refine r_iconst (q := 214) (z := 1) (v := nI 1) C rfl (by decide +kernel) (by decide) ?_
          refine r_iadd (q := 215) C rfl (by decide +kernel) ?_
          rw [nI_add]
          refine r_sld (q := 216) C rfl (by decide +kernel) hX hbl hbA (vp_in_nI (by omega) (by omega)) ?_
          rw [nI_clamp (by omega)]
          refine cV1I (q := 219) C R rfl (by decide +kernel) lk_L_24 (c_X6_gate (L := L) c1 c2 c3 W) (by decide) (by omega) (by omega) rfl (by first | exact Nat.le_of_ble_eq_true rfl | (simp only [List.map_cons, List.map_nil, List.sum_cons, List.sum_nil, rv_cat]; exact Nat.le_of_ble_eq_true rfl)) rfl c1.kf ?_
          rintro _ h216 ⟨rfl, R216, Rc216, F216⟩
          have HCc := HC.up F216 (by decide) (by decide) n_gr R216 Rc216
          have HMc := HM.kc (F216.kc (by decide) (by decide))
          have HOc := HO.fm F216
          refine r_aload_n (q := 220) (z := 2) C 2 rfl (by decide +kernel) rfl rfl ?_
          refine r_aload_nS (q := 221) (z := 0) C 0 rfl (by decide +kernel) rfl rfl ?_
          refine r_iload (q := 223) C 4 rfl (by decide +kernel) rfl ?_
          refine r_iconst (q := 224) (z := 1) (v := nI 1) C rfl (by decide +kernel) (by decide) ?_
          refine r_iadd (q := 225) C rfl (by decide +kernel) ?_
          rw [nI_add]
          refine r_sld (q := 226) C rfl (by decide +kernel) hX hbl hbA (vp_in_nI (by omega) (by omega)) ?_
          rw [nI_clamp (by omega)]
          refine cV1I (q := 229) C R rfl (by decide +kernel) lk_L_28 (c_X7_gate HMc.1 HMc.2.1 W) (by decide) (by omega) (by omega) rfl (by first | exact Nat.le_of_ble_eq_true rfl | (simp only [List.map_cons, List.map_nil, List.sum_cons, List.sum_nil, rv_cat]; exact Nat.le_of_ble_eq_true rfl)) rfl HMc.1.1 ?_
          rintro _ h226 ⟨rfl, M226, F226⟩
          refine r_icmp_eq (q := 232) (off := 846) (tgt := 1075) C rfl (by decide +kernel) (by decide) (fun c229 => ?_) (fun c229 => ?_)
          · exact wX.sub (lsub_s (lsub_s (lsub_s (lsub_s (lsub_s (lsub_n (lsub_n (lsub_nil)))))))) (wX.sub (lsub_s (lsub_s (lsub_s (lsub_s (lsub_s (lsub_n (lsub_n lsub_nil))))))) (J1075 h226 _ _ _ _ _ _ _ _ _ _ (CP.fm F226 (by decide) (by decide) HCc) (HMc.up F226 (by decide) (by decide) M226) HK.gate (HOc.fm F226) (by omega) (by omega)))
          · exact absurd rfl c229
        · refine r_tableIn (dflt := 1035) (lo := 0) (hi := 21) (offs := #[104, 169, 194, 267, 344, 421, 446, 459, 472, 497, 522, 535, 682, 695, 732, 757, 782, 819, 844, 905, 973, 1010]) (len := 104) (off := 194) (tgt := 234) C (by decide +kernel) (by decide) (by decide) (by decide) (by decide) ?_
          refine r_aload_n (q := 235) (z := 1) C 1 rfl (by decide +kernel) rfl rfl ?_
          refine r_aload_nS (q := 236) (z := 0) C 0 rfl (by decide +kernel) rfl rfl ?_
          refine r_iload (q := 238) C 4 rfl (by decide +kernel) rfl ?_
          refine r_iconst (q := 239) (z := 1) (v := nI 1) C rfl (by decide +kernel) (by decide) ?_
          refine r_iadd (q := 240) C rfl (by decide +kernel) ?_
          rw [nI_add]
          refine r_sld (q := 241) C rfl (by decide +kernel) hX hbl hbA (vp_in_nI (by omega) (by omega)) ?_
          rw [nI_clamp (by omega)]
          refine r_aload_nS (q := 242) (z := 0) C 0 rfl (by decide +kernel) rfl rfl ?_
          refine r_iload (q := 244) C 4 rfl (by decide +kernel) rfl ?_
          refine r_iconst (q := 245) (z := 2) (v := nI 2) C rfl (by decide +kernel) (by decide) ?_
          refine r_iadd (q := 246) C rfl (by decide +kernel) ?_
          rw [nI_add]
          refine r_sld (q := 247) C rfl (by decide +kernel) hX hbl hbA (vp_in_nI (by omega) (by omega)) ?_
          rw [nI_clamp (by omega)]
          refine r_aload_nS (q := 248) (z := 0) C 0 rfl (by decide +kernel) rfl rfl ?_
          refine r_iload (q := 250) C 4 rfl (by decide +kernel) rfl ?_
          refine r_iconst (q := 251) (z := 3) (v := nI 3) C rfl (by decide +kernel) (by decide) ?_
          refine r_iadd (q := 252) C rfl (by decide +kernel) ?_
          rw [nI_add]
          refine r_sld (q := 253) C rfl (by decide +kernel) hX hbl hbA (vp_in_nI (by omega) (by omega)) ?_
          rw [nI_clamp (by omega)]
          refine r_aload_nS (q := 254) (z := 0) C 0 rfl (by decide +kernel) rfl rfl ?_
          refine r_iload (q := 256) C 4 rfl (by decide +kernel) rfl ?_
          refine r_iconst (q := 257) (z := 4) (v := nI 4) C rfl (by decide +kernel) (by decide) ?_
          refine r_iadd (q := 258) C rfl (by decide +kernel) ?_
          rw [nI_add]
          refine r_sld (q := 259) C rfl (by decide +kernel) hX hbl hbA (vp_in_nI (by omega) (by omega)) ?_
          rw [nI_clamp (by omega)]
          refine r_aload_nS (q := 260) (z := 0) C 0 rfl (by decide +kernel) rfl rfl ?_
          refine r_iload (q := 262) C 4 rfl (by decide +kernel) rfl ?_
          refine r_iconst (q := 263) (z := 5) (v := nI 5) C rfl (by decide +kernel) (by decide) ?_
          refine r_iadd (q := 264) C rfl (by decide +kernel) ?_
          rw [nI_add]
          refine r_sld (q := 265) C rfl (by decide +kernel) hX hbl hbA (vp_in_nI (by omega) (by omega)) ?_
          rw [nI_clamp (by omega)]
          refine cV5I (q := 268) C R rfl (by decide +kernel) lk_L_29 (c_X6_ride (L := L) c1 c2 c3 W Srt0 hNW) (by decide) (by omega) (by omega) rfl (by first | exact Nat.le_of_ble_eq_true rfl | (simp only [List.map_cons, List.map_nil, List.sum_cons, List.sum_nil, rv_cat]; exact Nat.le_of_ble_eq_true rfl)) rfl c1.kf ?_
          rintro v265 h265 ⟨Y265, N265, K265⟩
          obtain ⟨τ, L2, p2, ev, HCc, HKc, eτ⟩ := rd_step HC HK Y265 N265 K265
          have HMc := HM.kc K265.kc
          have HOc := HO.kc K265.kc
          subst ev
          refine r_aload_n (q := 269) (z := 2) C 2 rfl (by decide +kernel) rfl rfl ?_
          refine r_aload_nS (q := 270) (z := 0) C 0 rfl (by decide +kernel) rfl rfl ?_
          refine r_iload (q := 272) C 4 rfl (by decide +kernel) rfl ?_
          refine r_iconst (q := 273) (z := 1) (v := nI 1) C rfl (by decide +kernel) (by decide) ?_
          refine r_iadd (q := 274) C rfl (by decide +kernel) ?_
          rw [nI_add]
          refine r_sld (q := 275) C rfl (by decide +kernel) hX hbl hbA (vp_in_nI (by omega) (by omega)) ?_
          rw [nI_clamp (by omega)]
          refine r_aload_nS (q := 276) (z := 0) C 0 rfl (by decide +kernel) rfl rfl ?_
          refine r_iload (q := 278) C 4 rfl (by decide +kernel) rfl ?_
          refine r_iconst (q := 279) (z := 2) (v := nI 2) C rfl (by decide +kernel) (by decide) ?_
          refine r_iadd (q := 280) C rfl (by decide +kernel) ?_
          rw [nI_add]
          refine r_sld (q := 281) C rfl (by decide +kernel) hX hbl hbA (vp_in_nI (by omega) (by omega)) ?_
          rw [nI_clamp (by omega)]
          refine r_aload_nS (q := 282) (z := 0) C 0 rfl (by decide +kernel) rfl rfl ?_
          refine r_iload (q := 284) C 4 rfl (by decide +kernel) rfl ?_
          refine r_iconst (q := 285) (z := 3) (v := nI 3) C rfl (by decide +kernel) (by decide) ?_
          refine r_iadd (q := 286) C rfl (by decide +kernel) ?_
          rw [nI_add]
          refine r_sld (q := 287) C rfl (by decide +kernel) hX hbl hbA (vp_in_nI (by omega) (by omega)) ?_
          rw [nI_clamp (by omega)]
          refine r_aload_nS (q := 288) (z := 0) C 0 rfl (by decide +kernel) rfl rfl ?_
          refine r_iload (q := 290) C 4 rfl (by decide +kernel) rfl ?_
          refine r_iconst (q := 291) (z := 4) (v := nI 4) C rfl (by decide +kernel) (by decide) ?_
          refine r_iadd (q := 292) C rfl (by decide +kernel) ?_
          rw [nI_add]
          refine r_sld (q := 293) C rfl (by decide +kernel) hX hbl hbA (vp_in_nI (by omega) (by omega)) ?_
          rw [nI_clamp (by omega)]
          refine r_aload_nS (q := 294) (z := 0) C 0 rfl (by decide +kernel) rfl rfl ?_
          refine r_iload (q := 296) C 4 rfl (by decide +kernel) rfl ?_
          refine r_iconst (q := 297) (z := 5) (v := nI 5) C rfl (by decide +kernel) (by decide) ?_
          refine r_iadd (q := 298) C rfl (by decide +kernel) ?_
          rw [nI_add]
          refine r_sld (q := 299) C rfl (by decide +kernel) hX hbl hbA (vp_in_nI (by omega) (by omega)) ?_
          rw [nI_clamp (by omega)]
          refine cV5I (q := 302) C R rfl (by decide +kernel) lk_L_33 (c_X7_ride HMc.1 HMc.2.1 W) (by decide) (by omega) (by omega) rfl (by first | exact Nat.le_of_ble_eq_true rfl | (simp only [List.map_cons, List.map_nil, List.sum_cons, List.sum_nil, rv_cat]; exact Nat.le_of_ble_eq_true rfl)) rfl HMc.1.1 ?_
          rintro _ h299 ⟨rfl, M299, F299⟩
          rw [← eτ] at M299
          refine r_icmp_eq (q := 305) (off := 773) (tgt := 1075) C rfl (by decide +kernel) (by decide) (fun c302 => ?_) (fun c302 => ?_)
          · exact wX.sub (lsub_s (lsub_s (lsub_s (lsub_s (lsub_s (lsub_n (lsub_n (lsub_nil)))))))) (wX.sub (lsub_s (lsub_s (lsub_s (lsub_s (lsub_s (lsub_n (lsub_n lsub_nil))))))) (J1075 h299 (kc + 2 + 0) (nc + 17 + 0) _ _ _ _ _ _ _ _ (CP.fm F299 (by decide) (by decide) HCc) (HMc.up F299 (by decide) (by decide) M299) HKc (HOc.fm F299) (by omega) (by omega)))
          · exact absurd rfl c302
        · refine r_tableIn (dflt := 1035) (lo := 0) (hi := 21) (offs := #[104, 169, 194, 267, 344, 421, 446, 459, 472, 497, 522, 535, 682, 695, 732, 757, 782, 819, 844, 905, 973, 1010]) (len := 104) (off := 267) (tgt := 307) C (by decide +kernel) (by decide) (by decide) (by decide) (by decide) ?_
          have J340 : wX G Γ Q kc nc (h2) 340 [some (.ref b), some (rv g), some (rv m), some (rv o), some (.int (nI i)), none, none] [.int (b2i (decide (¬ xs (i + 4) = 0))), .int (xs (i + 3)), .int (xs (i + 2)), .int (xs (i + 1)), rv g] := by
            refine cV4I (q := 343) C R rfl (by decide +kernel) lk_L_34 (c_X6_fits (L := L) c1 c2 c3 W) (by decide) (by omega) (by omega) rfl (by first | exact Nat.le_of_ble_eq_true rfl | (simp only [List.map_cons, List.map_nil, List.sum_cons, List.sum_nil, rv_cat]; exact Nat.le_of_ble_eq_true rfl)) rfl c1.kf ?_
            rintro _ h340 ⟨rfl, R340, Rc340, F340⟩
            have HCc := HC.up F340 (by decide) (by decide) rfl R340 Rc340
            have HMc := HM.kc (F340.kc (by decide) (by decide))
            have HOc := HO.fm F340
            have J376 : wX G Γ Q (kc + 0) (nc + 0) (h340) 376 [some (.ref b), some (rv g), some (rv m), some (rv o), some (.int (nI i)), none, none] [.int (b2i (decide (¬ xs (i + 4) = 0))), .int (xs (i + 3)), .int (xs (i + 2)), .int (xs (i + 1)), rv m, .int (fitsV σ (xs (i + 1)) (xs (i + 2)) (xs (i + 3)) (decide (¬ xs (i + 4) = 0)))] := by
              refine cV4I (q := 379) C R rfl (by decide +kernel) lk_L_38 (c_X7_fits HMc.1 HMc.2.1 W) (by decide) (by omega) (by omega) rfl (by first | exact Nat.le_of_ble_eq_true rfl | (simp only [List.map_cons, List.map_nil, List.sum_cons, List.sum_nil, rv_cat]; exact Nat.le_of_ble_eq_true rfl)) rfl HMc.1.1 ?_
              rintro _ h376 ⟨rfl, M376, F376⟩
              refine r_icmp_eq (q := 382) (off := 696) (tgt := 1075) C rfl (by decide +kernel) (by decide) (fun c379 => ?_) (fun c379 => ?_)
              · exact wX.sub (lsub_s (lsub_s (lsub_s (lsub_s (lsub_s (lsub_n (lsub_n (lsub_nil)))))))) (wX.sub (lsub_s (lsub_s (lsub_s (lsub_s (lsub_s (lsub_n (lsub_n lsub_nil))))))) (J1075 h376 _ _ _ _ _ _ _ _ _ _ (CP.fm F376 (by decide) (by decide) HCc) (HMc.up F376 (by decide) (by decide) M376) HK (HOc.fm F376) (by omega) (by omega)))
              · exact absurd rfl c379
            refine r_aload_n (q := 344) (z := 2) C 2 rfl (by decide +kernel) rfl rfl ?_
            refine r_aload_nS (q := 345) (z := 0) C 0 rfl (by decide +kernel) rfl rfl ?_
            refine r_iload (q := 347) C 4 rfl (by decide +kernel) rfl ?_
            refine r_iconst (q := 348) (z := 1) (v := nI 1) C rfl (by decide +kernel) (by decide) ?_
            refine r_iadd (q := 349) C rfl (by decide +kernel) ?_
            rw [nI_add]
            refine r_sld (q := 350) C rfl (by decide +kernel) hX hbl hbA (vp_in_nI (by omega) (by omega)) ?_
            rw [nI_clamp (by omega)]
            refine r_aload_nS (q := 351) (z := 0) C 0 rfl (by decide +kernel) rfl rfl ?_
            refine r_iload (q := 353) C 4 rfl (by decide +kernel) rfl ?_
            refine r_iconst (q := 354) (z := 2) (v := nI 2) C rfl (by decide +kernel) (by decide) ?_
            refine r_iadd (q := 355) C rfl (by decide +kernel) ?_
            rw [nI_add]
            refine r_sld (q := 356) C rfl (by decide +kernel) hX hbl hbA (vp_in_nI (by omega) (by omega)) ?_
            rw [nI_clamp (by omega)]
            refine r_aload_nS (q := 357) (z := 0) C 0 rfl (by decide +kernel) rfl rfl ?_
            refine r_iload (q := 359) C 4 rfl (by decide +kernel) rfl ?_
            refine r_iconst (q := 360) (z := 3) (v := nI 3) C rfl (by decide +kernel) (by decide) ?_
            refine r_iadd (q := 361) C rfl (by decide +kernel) ?_
            rw [nI_add]
            refine r_sld (q := 362) C rfl (by decide +kernel) hX hbl hbA (vp_in_nI (by omega) (by omega)) ?_
            rw [nI_clamp (by omega)]
            refine r_aload_nS (q := 363) (z := 0) C 0 rfl (by decide +kernel) rfl rfl ?_
            refine r_iload (q := 365) C 4 rfl (by decide +kernel) rfl ?_
            refine r_iconst (q := 366) (z := 4) (v := nI 4) C rfl (by decide +kernel) (by decide) ?_
            refine r_iadd (q := 367) C rfl (by decide +kernel) ?_
            rw [nI_add]
            refine r_sld (q := 368) C rfl (by decide +kernel) hX hbl hbA (vp_in_nI (by omega) (by omega)) ?_
            rw [nI_clamp (by omega)]
            refine r_if_eq (q := 371) (off := 7) (tgt := 375) C rfl (by decide +kernel) (by decide) (fun c368 => ?_) (fun c368 => ?_)
            · refine r_iconst (q := 376) (z := 0) (v := 0) C rfl (by decide +kernel) (by decide) ?_
              have z9 := J376
              first | (rw [show b2i (decide (¬ xs (i + 4) = 0)) = 1 from bt c368] at z9; exact z9) | (rw [show b2i (decide (¬ xs (i + 4) = 0)) = 0 from bf (fun q9 => q9 c368)] at z9; exact z9)
            · refine r_iconst (q := 372) (z := 1) (v := 1) C rfl (by decide +kernel) (by decide) ?_
              refine r_goto (off := 4) (tgt := 376) C (by decide +kernel) (by decide) ?_
              have z9 := J376
              first | (rw [show b2i (decide (¬ xs (i + 4) = 0)) = 1 from bt c368] at z9; exact z9) | (rw [show b2i (decide (¬ xs (i + 4) = 0)) = 0 from bf (fun q9 => q9 c368)] at z9; exact z9)
          refine r_aload_n (q := 308) (z := 1) C 1 rfl (by decide +kernel) rfl rfl ?_
          refine r_aload_nS (q := 309) (z := 0) C 0 rfl (by decide +kernel) rfl rfl ?_
          refine r_iload (q := 311) C 4 rfl (by decide +kernel) rfl ?_
          refine r_iconst (q := 312) (z := 1) (v := nI 1) C rfl (by decide +kernel) (by decide) ?_
          refine r_iadd (q := 313) C rfl (by decide +kernel) ?_
          rw [nI_add]
          refine r_sld (q := 314) C rfl (by decide +kernel) hX hbl hbA (vp_in_nI (by omega) (by omega)) ?_
          rw [nI_clamp (by omega)]
          refine r_aload_nS (q := 315) (z := 0) C 0 rfl (by decide +kernel) rfl rfl ?_
          refine r_iload (q := 317) C 4 rfl (by decide +kernel) rfl ?_
          refine r_iconst (q := 318) (z := 2) (v := nI 2) C rfl (by decide +kernel) (by decide) ?_
          refine r_iadd (q := 319) C rfl (by decide +kernel) ?_
          rw [nI_add]
          refine r_sld (q := 320) C rfl (by decide +kernel) hX hbl hbA (vp_in_nI (by omega) (by omega)) ?_
          rw [nI_clamp (by omega)]
          refine r_aload_nS (q := 321) (z := 0) C 0 rfl (by decide +kernel) rfl rfl ?_
          refine r_iload (q := 323) C 4 rfl (by decide +kernel) rfl ?_
          refine r_iconst (q := 324) (z := 3) (v := nI 3) C rfl (by decide +kernel) (by decide) ?_
          refine r_iadd (q := 325) C rfl (by decide +kernel) ?_
          rw [nI_add]
          refine r_sld (q := 326) C rfl (by decide +kernel) hX hbl hbA (vp_in_nI (by omega) (by omega)) ?_
          rw [nI_clamp (by omega)]
          refine r_aload_nS (q := 327) (z := 0) C 0 rfl (by decide +kernel) rfl rfl ?_
          refine r_iload (q := 329) C 4 rfl (by decide +kernel) rfl ?_
          refine r_iconst (q := 330) (z := 4) (v := nI 4) C rfl (by decide +kernel) (by decide) ?_
          refine r_iadd (q := 331) C rfl (by decide +kernel) ?_
          rw [nI_add]
          refine r_sld (q := 332) C rfl (by decide +kernel) hX hbl hbA (vp_in_nI (by omega) (by omega)) ?_
          rw [nI_clamp (by omega)]
          refine r_if_eq (q := 335) (off := 7) (tgt := 339) C rfl (by decide +kernel) (by decide) (fun c332 => ?_) (fun c332 => ?_)
          · refine r_iconst (q := 340) (z := 0) (v := 0) C rfl (by decide +kernel) (by decide) ?_
            have z9 := J340
            first | (rw [show b2i (decide (¬ xs (i + 4) = 0)) = 1 from bt c332] at z9; exact z9) | (rw [show b2i (decide (¬ xs (i + 4) = 0)) = 0 from bf (fun q9 => q9 c332)] at z9; exact z9)
          · refine r_iconst (q := 336) (z := 1) (v := 1) C rfl (by decide +kernel) (by decide) ?_
            refine r_goto (off := 4) (tgt := 340) C (by decide +kernel) (by decide) ?_
            have z9 := J340
            first | (rw [show b2i (decide (¬ xs (i + 4) = 0)) = 1 from bt c332] at z9; exact z9) | (rw [show b2i (decide (¬ xs (i + 4) = 0)) = 0 from bf (fun q9 => q9 c332)] at z9; exact z9)
        · refine r_tableIn (dflt := 1035) (lo := 0) (hi := 21) (offs := #[104, 169, 194, 267, 344, 421, 446, 459, 472, 497, 522, 535, 682, 695, 732, 757, 782, 819, 844, 905, 973, 1010]) (len := 104) (off := 344) (tgt := 384) C (by decide +kernel) (by decide) (by decide) (by decide) (by decide) ?_
          have J417 : wX G Γ Q kc nc (h2) 417 [some (.ref b), some (rv g), some (rv m), some (rv o), some (.int (nI i)), none, none] [.int (b2i (decide (¬ xs (i + 4) = 0))), .int (xs (i + 3)), .int (xs (i + 2)), .int (xs (i + 1)), rv g] := by
            refine cV4I (q := 420) C R rfl (by decide +kernel) lk_L_39 (c_X6_lay (L := L) c1 c2 c3 W) (by decide) (by omega) (by omega) rfl (by first | exact Nat.le_of_ble_eq_true rfl | (simp only [List.map_cons, List.map_nil, List.sum_cons, List.sum_nil, rv_cat]; exact Nat.le_of_ble_eq_true rfl)) rfl c1.kf ?_
            rintro _ h417 ⟨rfl, R417, Rc417, F417⟩
            have HCc := HC.up F417 (by decide) (by decide) n_li R417 Rc417
            have HMc := HM.kc (F417.kc (by decide) (by decide))
            have HOc := HO.fm F417
            have J453 : wX G Γ Q (kc + 0) (nc + 0) (h417) 453 [some (.ref b), some (rv g), some (rv m), some (rv o), some (.int (nI i)), none, none] [.int (b2i (decide (¬ xs (i + 4) = 0))), .int (xs (i + 3)), .int (xs (i + 2)), .int (xs (i + 1)), rv m, .int (cif (layP σ (xs (i + 1)) (xs (i + 2)) (xs (i + 3)) (decide (¬ xs (i + 4) = 0))) 1 0)] := by
              refine cV4I (q := 456) C R rfl (by decide +kernel) lk_L_43 (c_X7_lay_ HMc.1 HMc.2.1 W) (by decide) (by omega) (by omega) rfl (by first | exact Nat.le_of_ble_eq_true rfl | (simp only [List.map_cons, List.map_nil, List.sum_cons, List.sum_nil, rv_cat]; exact Nat.le_of_ble_eq_true rfl)) rfl HMc.1.1 ?_
              rintro _ h453 ⟨rfl, M453, F453⟩
              refine r_icmp_eq (q := 459) (off := 619) (tgt := 1075) C rfl (by decide +kernel) (by decide) (fun c456 => ?_) (fun c456 => ?_)
              · exact wX.sub (lsub_s (lsub_s (lsub_s (lsub_s (lsub_s (lsub_n (lsub_n (lsub_nil)))))))) (wX.sub (lsub_s (lsub_s (lsub_s (lsub_s (lsub_s (lsub_n (lsub_n lsub_nil))))))) (J1075 h453 _ _ _ _ _ _ _ _ _ _ (CP.fm F453 (by decide) (by decide) HCc) (HMc.up F453 (by decide) (by decide) M453) HK.lay (HOc.fm F453) (by omega) (by omega)))
              · exact absurd rfl c456
            refine r_aload_n (q := 421) (z := 2) C 2 rfl (by decide +kernel) rfl rfl ?_
            refine r_aload_nS (q := 422) (z := 0) C 0 rfl (by decide +kernel) rfl rfl ?_
            refine r_iload (q := 424) C 4 rfl (by decide +kernel) rfl ?_
            refine r_iconst (q := 425) (z := 1) (v := nI 1) C rfl (by decide +kernel) (by decide) ?_
            refine r_iadd (q := 426) C rfl (by decide +kernel) ?_
            rw [nI_add]
            refine r_sld (q := 427) C rfl (by decide +kernel) hX hbl hbA (vp_in_nI (by omega) (by omega)) ?_
            rw [nI_clamp (by omega)]
            refine r_aload_nS (q := 428) (z := 0) C 0 rfl (by decide +kernel) rfl rfl ?_
            refine r_iload (q := 430) C 4 rfl (by decide +kernel) rfl ?_
            refine r_iconst (q := 431) (z := 2) (v := nI 2) C rfl (by decide +kernel) (by decide) ?_
            refine r_iadd (q := 432) C rfl (by decide +kernel) ?_
            rw [nI_add]
            refine r_sld (q := 433) C rfl (by decide +kernel) hX hbl hbA (vp_in_nI (by omega) (by omega)) ?_
            rw [nI_clamp (by omega)]
            refine r_aload_nS (q := 434) (z := 0) C 0 rfl (by decide +kernel) rfl rfl ?_
            refine r_iload (q := 436) C 4 rfl (by decide +kernel) rfl ?_
            refine r_iconst (q := 437) (z := 3) (v := nI 3) C rfl (by decide +kernel) (by decide) ?_
            refine r_iadd (q := 438) C rfl (by decide +kernel) ?_
            rw [nI_add]
            refine r_sld (q := 439) C rfl (by decide +kernel) hX hbl hbA (vp_in_nI (by omega) (by omega)) ?_
            rw [nI_clamp (by omega)]
            refine r_aload_nS (q := 440) (z := 0) C 0 rfl (by decide +kernel) rfl rfl ?_
            refine r_iload (q := 442) C 4 rfl (by decide +kernel) rfl ?_
            refine r_iconst (q := 443) (z := 4) (v := nI 4) C rfl (by decide +kernel) (by decide) ?_
            refine r_iadd (q := 444) C rfl (by decide +kernel) ?_
            rw [nI_add]
            refine r_sld (q := 445) C rfl (by decide +kernel) hX hbl hbA (vp_in_nI (by omega) (by omega)) ?_
            rw [nI_clamp (by omega)]
            refine r_if_eq (q := 448) (off := 7) (tgt := 452) C rfl (by decide +kernel) (by decide) (fun c445 => ?_) (fun c445 => ?_)
            · refine r_iconst (q := 453) (z := 0) (v := 0) C rfl (by decide +kernel) (by decide) ?_
              have z9 := J453
              first | (rw [show b2i (decide (¬ xs (i + 4) = 0)) = 1 from bt c445] at z9; exact z9) | (rw [show b2i (decide (¬ xs (i + 4) = 0)) = 0 from bf (fun q9 => q9 c445)] at z9; exact z9)
            · refine r_iconst (q := 449) (z := 1) (v := 1) C rfl (by decide +kernel) (by decide) ?_
              refine r_goto (off := 4) (tgt := 453) C (by decide +kernel) (by decide) ?_
              have z9 := J453
              first | (rw [show b2i (decide (¬ xs (i + 4) = 0)) = 1 from bt c445] at z9; exact z9) | (rw [show b2i (decide (¬ xs (i + 4) = 0)) = 0 from bf (fun q9 => q9 c445)] at z9; exact z9)
          refine r_aload_n (q := 385) (z := 1) C 1 rfl (by decide +kernel) rfl rfl ?_
          refine r_aload_nS (q := 386) (z := 0) C 0 rfl (by decide +kernel) rfl rfl ?_
          refine r_iload (q := 388) C 4 rfl (by decide +kernel) rfl ?_
          refine r_iconst (q := 389) (z := 1) (v := nI 1) C rfl (by decide +kernel) (by decide) ?_
          refine r_iadd (q := 390) C rfl (by decide +kernel) ?_
          rw [nI_add]
          refine r_sld (q := 391) C rfl (by decide +kernel) hX hbl hbA (vp_in_nI (by omega) (by omega)) ?_
          rw [nI_clamp (by omega)]
          refine r_aload_nS (q := 392) (z := 0) C 0 rfl (by decide +kernel) rfl rfl ?_
          refine r_iload (q := 394) C 4 rfl (by decide +kernel) rfl ?_
          refine r_iconst (q := 395) (z := 2) (v := nI 2) C rfl (by decide +kernel) (by decide) ?_
          refine r_iadd (q := 396) C rfl (by decide +kernel) ?_
          rw [nI_add]
          refine r_sld (q := 397) C rfl (by decide +kernel) hX hbl hbA (vp_in_nI (by omega) (by omega)) ?_
          rw [nI_clamp (by omega)]
          refine r_aload_nS (q := 398) (z := 0) C 0 rfl (by decide +kernel) rfl rfl ?_
          refine r_iload (q := 400) C 4 rfl (by decide +kernel) rfl ?_
          refine r_iconst (q := 401) (z := 3) (v := nI 3) C rfl (by decide +kernel) (by decide) ?_
          refine r_iadd (q := 402) C rfl (by decide +kernel) ?_
          rw [nI_add]
          refine r_sld (q := 403) C rfl (by decide +kernel) hX hbl hbA (vp_in_nI (by omega) (by omega)) ?_
          rw [nI_clamp (by omega)]
          refine r_aload_nS (q := 404) (z := 0) C 0 rfl (by decide +kernel) rfl rfl ?_
          refine r_iload (q := 406) C 4 rfl (by decide +kernel) rfl ?_
          refine r_iconst (q := 407) (z := 4) (v := nI 4) C rfl (by decide +kernel) (by decide) ?_
          refine r_iadd (q := 408) C rfl (by decide +kernel) ?_
          rw [nI_add]
          refine r_sld (q := 409) C rfl (by decide +kernel) hX hbl hbA (vp_in_nI (by omega) (by omega)) ?_
          rw [nI_clamp (by omega)]
          refine r_if_eq (q := 412) (off := 7) (tgt := 416) C rfl (by decide +kernel) (by decide) (fun c409 => ?_) (fun c409 => ?_)
          · refine r_iconst (q := 417) (z := 0) (v := 0) C rfl (by decide +kernel) (by decide) ?_
            have z9 := J417
            first | (rw [show b2i (decide (¬ xs (i + 4) = 0)) = 1 from bt c409] at z9; exact z9) | (rw [show b2i (decide (¬ xs (i + 4) = 0)) = 0 from bf (fun q9 => q9 c409)] at z9; exact z9)
          · refine r_iconst (q := 413) (z := 1) (v := 1) C rfl (by decide +kernel) (by decide) ?_
            refine r_goto (off := 4) (tgt := 417) C (by decide +kernel) (by decide) ?_
            have z9 := J417
            first | (rw [show b2i (decide (¬ xs (i + 4) = 0)) = 1 from bt c409] at z9; exact z9) | (rw [show b2i (decide (¬ xs (i + 4) = 0)) = 0 from bf (fun q9 => q9 c409)] at z9; exact z9)
        · refine r_tableIn (dflt := 1035) (lo := 0) (hi := 21) (offs := #[104, 169, 194, 267, 344, 421, 446, 459, 472, 497, 522, 535, 682, 695, 732, 757, 782, 819, 844, 905, 973, 1010]) (len := 104) (off := 421) (tgt := 461) C (by decide +kernel) (by decide) (by decide) (by decide) (by decide) ?_
          refine r_aload_n (q := 462) (z := 1) C 1 rfl (by decide +kernel) rfl rfl ?_
          refine r_aload_nS (q := 463) (z := 0) C 0 rfl (by decide +kernel) rfl rfl ?_
          refine r_iload (q := 465) C 4 rfl (by decide +kernel) rfl ?_
          refine r_iconst (q := 466) (z := 1) (v := nI 1) C rfl (by decide +kernel) (by decide) ?_
          refine r_iadd (q := 467) C rfl (by decide +kernel) ?_
          rw [nI_add]
          refine r_sld (q := 468) C rfl (by decide +kernel) hX hbl hbA (vp_in_nI (by omega) (by omega)) ?_
          rw [nI_clamp (by omega)]
          refine cV1I (q := 471) C R rfl (by decide +kernel) lk_L_44 (c_X6_take (L := L) c1 c2 c3 W J) (by decide) (by omega) (by omega) rfl (by first | exact Nat.le_of_ble_eq_true rfl | (simp only [List.map_cons, List.map_nil, List.sum_cons, List.sum_nil, rv_cat]; exact Nat.le_of_ble_eq_true rfl)) rfl c1.kf ?_
          rintro _ h468 ⟨rfl, R468, Rc468, F468⟩
          have HCc := HC.up F468 (by decide) (by decide) n_li R468 Rc468
          have HMc := HM.kc (F468.kc (by decide) (by decide))
          have HOc := HO.fm F468
          refine r_aload_n (q := 472) (z := 2) C 2 rfl (by decide +kernel) rfl rfl ?_
          refine r_aload_nS (q := 473) (z := 0) C 0 rfl (by decide +kernel) rfl rfl ?_
          refine r_iload (q := 475) C 4 rfl (by decide +kernel) rfl ?_
          refine r_iconst (q := 476) (z := 1) (v := nI 1) C rfl (by decide +kernel) (by decide) ?_
          refine r_iadd (q := 477) C rfl (by decide +kernel) ?_
          rw [nI_add]
          refine r_sld (q := 478) C rfl (by decide +kernel) hX hbl hbA (vp_in_nI (by omega) (by omega)) ?_
          rw [nI_clamp (by omega)]
          refine cV1I (q := 481) C R rfl (by decide +kernel) lk_L_47 (c_X7_take HMc.1 HMc.2.1 W) (by decide) (by omega) (by omega) rfl (by first | exact Nat.le_of_ble_eq_true rfl | (simp only [List.map_cons, List.map_nil, List.sum_cons, List.sum_nil, rv_cat]; exact Nat.le_of_ble_eq_true rfl)) rfl HMc.1.1 ?_
          rintro _ h478 ⟨rfl, M478, F478⟩
          refine r_icmp_eq (q := 484) (off := 594) (tgt := 1075) C rfl (by decide +kernel) (by decide) (fun c481 => ?_) (fun c481 => ?_)
          · exact wX.sub (lsub_s (lsub_s (lsub_s (lsub_s (lsub_s (lsub_n (lsub_n (lsub_nil)))))))) (wX.sub (lsub_s (lsub_s (lsub_s (lsub_s (lsub_s (lsub_n (lsub_n lsub_nil))))))) (J1075 h478 _ _ _ _ _ _ _ _ _ _ (CP.fm F478 (by decide) (by decide) HCc) (HMc.up F478 (by decide) (by decide) M478) HK.take (HOc.fm F478) (by omega) (by omega)))
          · exact absurd rfl c481
        · refine r_tableIn (dflt := 1035) (lo := 0) (hi := 21) (offs := #[104, 169, 194, 267, 344, 421, 446, 459, 472, 497, 522, 535, 682, 695, 732, 757, 782, 819, 844, 905, 973, 1010]) (len := 104) (off := 446) (tgt := 486) C (by decide +kernel) (by decide) (by decide) (by decide) (by decide) ?_
          refine r_aload_n (q := 487) (z := 1) C 1 rfl (by decide +kernel) rfl rfl ?_
          refine cV0I (q := 490) C R rfl (by decide +kernel) lk_L_48 (c_X6_layAll (L := L) c1 c2 c3 W Srt0) (by decide) (by omega) (by omega) rfl (by first | exact Nat.le_of_ble_eq_true rfl | (simp only [List.map_cons, List.map_nil, List.sum_cons, List.sum_nil, rv_cat]; exact Nat.le_of_ble_eq_true rfl)) rfl c1.kf ?_
          rintro _ h487 ⟨rfl, R487, Rc487, W487, F487⟩
          have HCc := HC.up F487 (by decide) (by decide) (n_p2 (fun r hr => (Srt0.2 r).mp hr) J) R487 Rc487
          have HMc := HM.kc (F487.kc (by decide) (by decide))
          have HOc := HO.fm F487
          refine r_aload_n (q := 491) (z := 2) C 2 rfl (by decide +kernel) rfl rfl ?_
          refine cV0I (q := 494) C R rfl (by decide +kernel) lk_L_52 (c_X7_layAll HMc.1 HMc.2.1 W Srt0) (by decide) (by omega) (by omega) rfl (by first | exact Nat.le_of_ble_eq_true rfl | (simp only [List.map_cons, List.map_nil, List.sum_cons, List.sum_nil, rv_cat]; exact Nat.le_of_ble_eq_true rfl)) rfl HMc.1.1 ?_
          rintro _ h491 ⟨rfl, M491, W491, F491⟩
          refine r_icmp_eq (q := 497) (off := 581) (tgt := 1075) C rfl (by decide +kernel) (by decide) (fun c494 => ?_) (fun c494 => ?_)
          · exact wX.sub (lsub_s (lsub_s (lsub_s (lsub_s (lsub_s (lsub_n (lsub_n (lsub_nil)))))))) (wX.sub (lsub_s (lsub_s (lsub_s (lsub_s (lsub_s (lsub_n (lsub_n lsub_nil))))))) (J1075 h491 _ _ _ _ _ _ _ _ _ _ (CP.fm F491 (by decide) (by decide) HCc) (HMc.up F491 (by decide) (by decide) M491) (HK.layAll W487) (HOc.fm F491) (by omega) (by omega)))
          · exact absurd rfl c494
        · refine r_tableIn (dflt := 1035) (lo := 0) (hi := 21) (offs := #[104, 169, 194, 267, 344, 421, 446, 459, 472, 497, 522, 535, 682, 695, 732, 757, 782, 819, 844, 905, 973, 1010]) (len := 104) (off := 459) (tgt := 499) C (by decide +kernel) (by decide) (by decide) (by decide) (by decide) ?_
          refine r_aload_n (q := 500) (z := 1) C 1 rfl (by decide +kernel) rfl rfl ?_
          refine cV0I (q := 503) C R rfl (by decide +kernel) lk_L_53 (c_X6_orders (L := L) c1 c2 W) (by decide) (by omega) (by omega) rfl (by first | exact Nat.le_of_ble_eq_true rfl | (simp only [List.map_cons, List.map_nil, List.sum_cons, List.sum_nil, rv_cat]; exact Nat.le_of_ble_eq_true rfl)) rfl c1.kf ?_
          rintro _ _ ⟨rfl, rfl⟩
          refine r_aload_n (q := 504) (z := 2) C 2 rfl (by decide +kernel) rfl rfl ?_
          refine cV0I (q := 507) C R rfl (by decide +kernel) lk_L_56 (c_X7_orders HM.1 HM.2.1 W J) (by decide) (by omega) (by omega) rfl (by first | exact Nat.le_of_ble_eq_true rfl | (simp only [List.map_cons, List.map_nil, List.sum_cons, List.sum_nil, rv_cat]; exact Nat.le_of_ble_eq_true rfl)) rfl HM.1.1 ?_
          rintro _ h504 ⟨rfl, F504⟩
          refine r_icmp_eq (q := 510) (off := 568) (tgt := 1075) C rfl (by decide +kernel) (by decide) (fun c507 => ?_) (fun c507 => ?_)
          · exact wX.sub (lsub_s (lsub_s (lsub_s (lsub_s (lsub_s (lsub_n (lsub_n (lsub_nil)))))))) (wX.sub (lsub_s (lsub_s (lsub_s (lsub_s (lsub_s (lsub_n (lsub_n lsub_nil))))))) (J1075 h504 _ _ _ _ _ _ _ _ _ _ (CP.fm F504 (by decide) (by decide) HC) (HM.same F504 (by decide) (by decide) (by decide) (by decide)) HK (HO.fm F504) (by omega) (by omega)))
          · exact absurd rfl c507
        · refine r_tableIn (dflt := 1035) (lo := 0) (hi := 21) (offs := #[104, 169, 194, 267, 344, 421, 446, 459, 472, 497, 522, 535, 682, 695, 732, 757, 782, 819, 844, 905, 973, 1010]) (len := 104) (off := 472) (tgt := 512) C (by decide +kernel) (by decide) (by decide) (by decide) (by decide) ?_
          refine r_aload_n (q := 513) (z := 1) C 1 rfl (by decide +kernel) rfl rfl ?_
          refine r_aload_nS (q := 514) (z := 0) C 0 rfl (by decide +kernel) rfl rfl ?_
          refine r_iload (q := 516) C 4 rfl (by decide +kernel) rfl ?_
          refine r_iconst (q := 517) (z := 1) (v := nI 1) C rfl (by decide +kernel) (by decide) ?_
          refine r_iadd (q := 518) C rfl (by decide +kernel) ?_
          rw [nI_add]
          refine r_sld (q := 519) C rfl (by decide +kernel) hX hbl hbA (vp_in_nI (by omega) (by omega)) ?_
          rw [nI_clamp (by omega)]
          refine cV1I (q := 522) C R rfl (by decide +kernel) lk_L_57 (c_X6_order (L := L) c1 c2 W) (by decide) (by omega) (by omega) rfl (by first | exact Nat.le_of_ble_eq_true rfl | (simp only [List.map_cons, List.map_nil, List.sum_cons, List.sum_nil, rv_cat]; exact Nat.le_of_ble_eq_true rfl)) rfl c1.kf ?_
          rintro _ _ ⟨rfl, rfl⟩
          refine r_aload_n (q := 523) (z := 2) C 2 rfl (by decide +kernel) rfl rfl ?_
          refine r_aload_nS (q := 524) (z := 0) C 0 rfl (by decide +kernel) rfl rfl ?_
          refine r_iload (q := 526) C 4 rfl (by decide +kernel) rfl ?_
          refine r_iconst (q := 527) (z := 1) (v := nI 1) C rfl (by decide +kernel) (by decide) ?_
          refine r_iadd (q := 528) C rfl (by decide +kernel) ?_
          rw [nI_add]
          refine r_sld (q := 529) C rfl (by decide +kernel) hX hbl hbA (vp_in_nI (by omega) (by omega)) ?_
          rw [nI_clamp (by omega)]
          refine cV1I (q := 532) C R rfl (by decide +kernel) lk_L_61 (c_X7_order HM.1 HM.2.1 W J) (by decide) (by omega) (by omega) rfl (by first | exact Nat.le_of_ble_eq_true rfl | (simp only [List.map_cons, List.map_nil, List.sum_cons, List.sum_nil, rv_cat]; exact Nat.le_of_ble_eq_true rfl)) rfl HM.1.1 ?_
          rintro _ h529 ⟨rfl, F529⟩
          refine r_icmp_eq (q := 535) (off := 543) (tgt := 1075) C rfl (by decide +kernel) (by decide) (fun c532 => ?_) (fun c532 => ?_)
          · exact wX.sub (lsub_s (lsub_s (lsub_s (lsub_s (lsub_s (lsub_n (lsub_n (lsub_nil)))))))) (wX.sub (lsub_s (lsub_s (lsub_s (lsub_s (lsub_s (lsub_n (lsub_n lsub_nil))))))) (J1075 h529 _ _ _ _ _ _ _ _ _ _ (CP.fm F529 (by decide) (by decide) HC) (HM.same F529 (by decide) (by decide) (by decide) (by decide)) HK (HO.fm F529) (by omega) (by omega)))
          · exact absurd rfl c532
        · refine r_tableIn (dflt := 1035) (lo := 0) (hi := 21) (offs := #[104, 169, 194, 267, 344, 421, 446, 459, 472, 497, 522, 535, 682, 695, 732, 757, 782, 819, 844, 905, 973, 1010]) (len := 104) (off := 497) (tgt := 537) C (by decide +kernel) (by decide) (by decide) (by decide) (by decide) ?_
          refine r_aload_n (q := 538) (z := 1) C 1 rfl (by decide +kernel) rfl rfl ?_
          refine r_aload_nS (q := 539) (z := 0) C 0 rfl (by decide +kernel) rfl rfl ?_
          refine r_iload (q := 541) C 4 rfl (by decide +kernel) rfl ?_
          refine r_iconst (q := 542) (z := 1) (v := nI 1) C rfl (by decide +kernel) (by decide) ?_
          refine r_iadd (q := 543) C rfl (by decide +kernel) ?_
          rw [nI_add]
          refine r_sld (q := 544) C rfl (by decide +kernel) hX hbl hbA (vp_in_nI (by omega) (by omega)) ?_
          rw [nI_clamp (by omega)]
          refine cV1I (q := 547) C R rfl (by decide +kernel) lk_L_62 (c_X6_sick (L := L) c1 c2 c3 W) (by decide) (by omega) (by omega) rfl (by first | exact Nat.le_of_ble_eq_true rfl | (simp only [List.map_cons, List.map_nil, List.sum_cons, List.sum_nil, rv_cat]; exact Nat.le_of_ble_eq_true rfl)) rfl c1.kf ?_
          rintro _ h544 ⟨rfl, R544, Rc544, F544⟩
          have HCc := HC.up F544 (by decide) (by decide) n_sk R544 Rc544
          have HMc := HM.kc (F544.kc (by decide) (by decide))
          have HOc := HO.fm F544
          refine r_aload_n (q := 548) (z := 2) C 2 rfl (by decide +kernel) rfl rfl ?_
          refine r_aload_nS (q := 549) (z := 0) C 0 rfl (by decide +kernel) rfl rfl ?_
          refine r_iload (q := 551) C 4 rfl (by decide +kernel) rfl ?_
          refine r_iconst (q := 552) (z := 1) (v := nI 1) C rfl (by decide +kernel) (by decide) ?_
          refine r_iadd (q := 553) C rfl (by decide +kernel) ?_
          rw [nI_add]
          refine r_sld (q := 554) C rfl (by decide +kernel) hX hbl hbA (vp_in_nI (by omega) (by omega)) ?_
          rw [nI_clamp (by omega)]
          refine cV1I (q := 557) C R rfl (by decide +kernel) lk_L_65 (c_X7_sick HMc.1 HMc.2.1 W) (by decide) (by omega) (by omega) rfl (by first | exact Nat.le_of_ble_eq_true rfl | (simp only [List.map_cons, List.map_nil, List.sum_cons, List.sum_nil, rv_cat]; exact Nat.le_of_ble_eq_true rfl)) rfl HMc.1.1 ?_
          rintro _ h554 ⟨rfl, M554, F554⟩
          refine r_icmp_eq (q := 560) (off := 518) (tgt := 1075) C rfl (by decide +kernel) (by decide) (fun c557 => ?_) (fun c557 => ?_)
          · exact wX.sub (lsub_s (lsub_s (lsub_s (lsub_s (lsub_s (lsub_n (lsub_n (lsub_nil)))))))) (wX.sub (lsub_s (lsub_s (lsub_s (lsub_s (lsub_s (lsub_n (lsub_n lsub_nil))))))) (J1075 h554 _ _ _ _ _ _ _ _ _ _ (CP.fm F554 (by decide) (by decide) HCc) (HMc.up F554 (by decide) (by decide) M554) HK.sick (HOc.fm F554) (by omega) (by omega)))
          · exact absurd rfl c557
        · refine r_tableIn (dflt := 1035) (lo := 0) (hi := 21) (offs := #[104, 169, 194, 267, 344, 421, 446, 459, 472, 497, 522, 535, 682, 695, 732, 757, 782, 819, 844, 905, 973, 1010]) (len := 104) (off := 522) (tgt := 562) C (by decide +kernel) (by decide) (by decide) (by decide) (by decide) ?_
          refine r_aload_n (q := 563) (z := 1) C 1 rfl (by decide +kernel) rfl rfl ?_
          refine cV0I (q := 566) C R rfl (by decide +kernel) lk_L_66 (c_X6_end (L := L) c1 c2 c3 W J c6) (by decide) (by omega) (by omega) rfl (by first | exact Nat.le_of_ble_eq_true rfl | (simp only [List.map_cons, List.map_nil, List.sum_cons, List.sum_nil, rv_cat]; exact Nat.le_of_ble_eq_true rfl)) rfl c1.kf ?_
          rintro _ h563 ⟨rfl, R563, Rc563, Q563, F563⟩
          have HCc := HC.up F563 (by decide) (by decide) (endS_f lw σ).1 R563 Rc563
          have HMc := HM.kc (F563.kc (by decide) (by decide))
          have HOc := HO.fm F563
          refine r_aload_n (q := 567) (z := 2) C 2 rfl (by decide +kernel) rfl rfl ?_
          refine cV0I (q := 570) C R rfl (by decide +kernel) lk_L_69 (c_X7_end HMc.1 HMc.2.1 W HMc.2.2.2.2.1) (by decide) (by omega) (by omega) rfl (by first | exact Nat.le_of_ble_eq_true rfl | (simp only [List.map_cons, List.map_nil, List.sum_cons, List.sum_nil, rv_cat]; exact Nat.le_of_ble_eq_true rfl)) rfl HMc.1.1 ?_
          rintro _ h567 ⟨rfl, M567, F567⟩
          refine r_icmp_eq (q := 573) (off := 505) (tgt := 1075) C rfl (by decide +kernel) (by decide) (fun c570 => ?_) (fun c570 => ?_)
          · exact wX.sub (lsub_s (lsub_s (lsub_s (lsub_s (lsub_s (lsub_n (lsub_n (lsub_nil)))))))) (wX.sub (lsub_s (lsub_s (lsub_s (lsub_s (lsub_s (lsub_n (lsub_n lsub_nil))))))) (J1075 h567 _ _ _ _ _ _ _ _ _ _ (CP.fm F567 (by decide) (by decide) HCc) (HMc.up F567 (by decide) (by decide) M567) (HK.end_ lw) (HOc.fm F567) (by omega) (by omega)))
          · exact absurd rfl c570
        · refine r_tableIn (dflt := 1035) (lo := 0) (hi := 21) (offs := #[104, 169, 194, 267, 344, 421, 446, 459, 472, 497, 522, 535, 682, 695, 732, 757, 782, 819, 844, 905, 973, 1010]) (len := 104) (off := 535) (tgt := 575) C (by decide +kernel) (by decide) (by decide) (by decide) (by decide) ?_
          refine r_aload_n (q := 576) (z := 1) C 1 rfl (by decide +kernel) rfl rfl ?_
          refine r_aload_nS (q := 577) (z := 0) C 0 rfl (by decide +kernel) rfl rfl ?_
          refine r_iload (q := 579) C 4 rfl (by decide +kernel) rfl ?_
          refine r_iconst (q := 580) (z := 1) (v := nI 1) C rfl (by decide +kernel) (by decide) ?_
          refine r_iadd (q := 581) C rfl (by decide +kernel) ?_
          rw [nI_add]
          refine r_sld (q := 582) C rfl (by decide +kernel) hX hbl hbA (vp_in_nI (by omega) (by omega)) ?_
          rw [nI_clamp (by omega)]
          refine r_i2l (q := 583) C rfl (by decide +kernel) ?_
          refine r_bipush (q := 585) (z := 32) (v := 32) C rfl (by decide +kernel) (by decide) ?_
          refine r_lshl (q := 586) C rfl (by decide +kernel) ?_
          refine r_aload_nS (q := 587) (z := 0) C 0 rfl (by decide +kernel) rfl rfl ?_
          refine r_iload (q := 589) C 4 rfl (by decide +kernel) rfl ?_
          refine r_iconst (q := 590) (z := 2) (v := nI 2) C rfl (by decide +kernel) (by decide) ?_
          refine r_iadd (q := 591) C rfl (by decide +kernel) ?_
          rw [nI_add]
          refine r_sld (q := 592) C rfl (by decide +kernel) hX hbl hbA (vp_in_nI (by omega) (by omega)) ?_
          rw [nI_clamp (by omega)]
          refine r_i2l (q := 593) C rfl (by decide +kernel) ?_
          refine r_ldc2 (q := 596) C rfl (by decide +kernel) wl_L_70 ?_
          refine r_land (q := 597) C rfl (by decide +kernel) ?_
          refine r_lor (q := 598) C rfl (by decide +kernel) ?_
          refine r_aload_nS (q := 599) (z := 0) C 0 rfl (by decide +kernel) rfl rfl ?_
          refine r_iload (q := 601) C 4 rfl (by decide +kernel) rfl ?_
          refine r_iconst (q := 602) (z := 3) (v := nI 3) C rfl (by decide +kernel) (by decide) ?_
          refine r_iadd (q := 603) C rfl (by decide +kernel) ?_
          rw [nI_add]
          refine r_sld (q := 604) C rfl (by decide +kernel) hX hbl hbA (vp_in_nI (by omega) (by omega)) ?_
          rw [nI_clamp (by omega)]
          refine r_i2l (q := 605) C rfl (by decide +kernel) ?_
          refine r_bipush (q := 607) (z := 32) (v := 32) C rfl (by decide +kernel) (by decide) ?_
          refine r_lshl (q := 608) C rfl (by decide +kernel) ?_
          refine r_aload_nS (q := 609) (z := 0) C 0 rfl (by decide +kernel) rfl rfl ?_
          refine r_iload (q := 611) C 4 rfl (by decide +kernel) rfl ?_
          refine r_iconst (q := 612) (z := 4) (v := nI 4) C rfl (by decide +kernel) (by decide) ?_
          refine r_iadd (q := 613) C rfl (by decide +kernel) ?_
          rw [nI_add]
          refine r_sld (q := 614) C rfl (by decide +kernel) hX hbl hbA (vp_in_nI (by omega) (by omega)) ?_
          rw [nI_clamp (by omega)]
          refine r_i2l (q := 615) C rfl (by decide +kernel) ?_
          refine r_ldc2 (q := 618) C rfl (by decide +kernel) wl_L_70 ?_
          refine r_land (q := 619) C rfl (by decide +kernel) ?_
          refine r_lor (q := 620) C rfl (by decide +kernel) ?_
          refine r_aload_nS (q := 621) (z := 0) C 0 rfl (by decide +kernel) rfl rfl ?_
          refine r_iload (q := 623) C 4 rfl (by decide +kernel) rfl ?_
          refine r_iconst (q := 624) (z := 5) (v := nI 5) C rfl (by decide +kernel) (by decide) ?_
          refine r_iadd (q := 625) C rfl (by decide +kernel) ?_
          rw [nI_add]
          refine r_sld (q := 626) C rfl (by decide +kernel) hX hbl hbA (vp_in_nI (by omega) (by omega)) ?_
          rw [nI_clamp (by omega)]
          refine r_i2l (q := 627) C rfl (by decide +kernel) ?_
          refine r_bipush (q := 629) (z := 32) (v := 32) C rfl (by decide +kernel) (by decide) ?_
          refine r_lshl (q := 630) C rfl (by decide +kernel) ?_
          refine r_aload_nS (q := 631) (z := 0) C 0 rfl (by decide +kernel) rfl rfl ?_
          refine r_iload (q := 633) C 4 rfl (by decide +kernel) rfl ?_
          refine r_bipush (q := 635) (z := 6) (v := nI 6) C rfl (by decide +kernel) (by decide) ?_
          refine r_iadd (q := 636) C rfl (by decide +kernel) ?_
          rw [nI_add]
          refine r_sld (q := 637) C rfl (by decide +kernel) hX hbl hbA (vp_in_nI (by omega) (by omega)) ?_
          rw [nI_clamp (by omega)]
          refine r_i2l (q := 638) C rfl (by decide +kernel) ?_
          refine r_ldc2 (q := 641) C rfl (by decide +kernel) wl_L_70 ?_
          refine r_land (q := 642) C rfl (by decide +kernel) ?_
          refine r_lor (q := 643) C rfl (by decide +kernel) ?_
          refine cV3I (q := 646) C R rfl (by decide +kernel) lk_L_72 (c_X6_feed (L := L) c1 c5) (by decide) (by omega) (by omega) rfl (by first | exact Nat.le_of_ble_eq_true rfl | (simp only [List.map_cons, List.map_nil, List.sum_cons, List.sum_nil, rv_cat]; exact Nat.le_of_ble_eq_true rfl)) rfl c1.kf ?_
          rintro _ h643 ⟨rfl, T643, F643⟩
          have HCc := HC.feed F643 T643
          have HMc := HM.kc (F643.kc (by decide) (by decide))
          have HOc := HO.fm F643
          refine r_aload_n (q := 647) (z := 2) C 2 rfl (by decide +kernel) rfl rfl ?_
          refine r_aload_nS (q := 648) (z := 0) C 0 rfl (by decide +kernel) rfl rfl ?_
          refine r_iload (q := 650) C 4 rfl (by decide +kernel) rfl ?_
          refine r_iconst (q := 651) (z := 1) (v := nI 1) C rfl (by decide +kernel) (by decide) ?_
          refine r_iadd (q := 652) C rfl (by decide +kernel) ?_
          rw [nI_add]
          refine r_sld (q := 653) C rfl (by decide +kernel) hX hbl hbA (vp_in_nI (by omega) (by omega)) ?_
          rw [nI_clamp (by omega)]
          refine r_i2l (q := 654) C rfl (by decide +kernel) ?_
          refine r_bipush (q := 656) (z := 32) (v := 32) C rfl (by decide +kernel) (by decide) ?_
          refine r_lshl (q := 657) C rfl (by decide +kernel) ?_
          refine r_aload_nS (q := 658) (z := 0) C 0 rfl (by decide +kernel) rfl rfl ?_
          refine r_iload (q := 660) C 4 rfl (by decide +kernel) rfl ?_
          refine r_iconst (q := 661) (z := 2) (v := nI 2) C rfl (by decide +kernel) (by decide) ?_
          refine r_iadd (q := 662) C rfl (by decide +kernel) ?_
          rw [nI_add]
          refine r_sld (q := 663) C rfl (by decide +kernel) hX hbl hbA (vp_in_nI (by omega) (by omega)) ?_
          rw [nI_clamp (by omega)]
          refine r_i2l (q := 664) C rfl (by decide +kernel) ?_
          refine r_ldc2 (q := 667) C rfl (by decide +kernel) wl_L_70 ?_
          refine r_land (q := 668) C rfl (by decide +kernel) ?_
          refine r_lor (q := 669) C rfl (by decide +kernel) ?_
          refine r_aload_nS (q := 670) (z := 0) C 0 rfl (by decide +kernel) rfl rfl ?_
          refine r_iload (q := 672) C 4 rfl (by decide +kernel) rfl ?_
          refine r_iconst (q := 673) (z := 3) (v := nI 3) C rfl (by decide +kernel) (by decide) ?_
          refine r_iadd (q := 674) C rfl (by decide +kernel) ?_
          rw [nI_add]
          refine r_sld (q := 675) C rfl (by decide +kernel) hX hbl hbA (vp_in_nI (by omega) (by omega)) ?_
          rw [nI_clamp (by omega)]
          refine r_i2l (q := 676) C rfl (by decide +kernel) ?_
          refine r_bipush (q := 678) (z := 32) (v := 32) C rfl (by decide +kernel) (by decide) ?_
          refine r_lshl (q := 679) C rfl (by decide +kernel) ?_
          refine r_aload_nS (q := 680) (z := 0) C 0 rfl (by decide +kernel) rfl rfl ?_
          refine r_iload (q := 682) C 4 rfl (by decide +kernel) rfl ?_
          refine r_iconst (q := 683) (z := 4) (v := nI 4) C rfl (by decide +kernel) (by decide) ?_
          refine r_iadd (q := 684) C rfl (by decide +kernel) ?_
          rw [nI_add]
          refine r_sld (q := 685) C rfl (by decide +kernel) hX hbl hbA (vp_in_nI (by omega) (by omega)) ?_
          rw [nI_clamp (by omega)]
          refine r_i2l (q := 686) C rfl (by decide +kernel) ?_
          refine r_ldc2 (q := 689) C rfl (by decide +kernel) wl_L_70 ?_
          refine r_land (q := 690) C rfl (by decide +kernel) ?_
          refine r_lor (q := 691) C rfl (by decide +kernel) ?_
          refine r_aload_nS (q := 692) (z := 0) C 0 rfl (by decide +kernel) rfl rfl ?_
          refine r_iload (q := 694) C 4 rfl (by decide +kernel) rfl ?_
          refine r_iconst (q := 695) (z := 5) (v := nI 5) C rfl (by decide +kernel) (by decide) ?_
          refine r_iadd (q := 696) C rfl (by decide +kernel) ?_
          rw [nI_add]
          refine r_sld (q := 697) C rfl (by decide +kernel) hX hbl hbA (vp_in_nI (by omega) (by omega)) ?_
          rw [nI_clamp (by omega)]
          refine r_i2l (q := 698) C rfl (by decide +kernel) ?_
          refine r_bipush (q := 700) (z := 32) (v := 32) C rfl (by decide +kernel) (by decide) ?_
          refine r_lshl (q := 701) C rfl (by decide +kernel) ?_
          refine r_aload_nS (q := 702) (z := 0) C 0 rfl (by decide +kernel) rfl rfl ?_
          refine r_iload (q := 704) C 4 rfl (by decide +kernel) rfl ?_
          refine r_bipush (q := 706) (z := 6) (v := nI 6) C rfl (by decide +kernel) (by decide) ?_
          refine r_iadd (q := 707) C rfl (by decide +kernel) ?_
          rw [nI_add]
          refine r_sld (q := 708) C rfl (by decide +kernel) hX hbl hbA (vp_in_nI (by omega) (by omega)) ?_
          rw [nI_clamp (by omega)]
          refine r_i2l (q := 709) C rfl (by decide +kernel) ?_
          refine r_ldc2 (q := 712) C rfl (by decide +kernel) wl_L_70 ?_
          refine r_land (q := 713) C rfl (by decide +kernel) ?_
          refine r_lor (q := 714) C rfl (by decide +kernel) ?_
          refine cV3I (q := 717) C R rfl (by decide +kernel) lk_L_76 (c_X7_feed HMc.1 HMc.2.2.2.1) (by decide) (by omega) (by omega) rfl (by first | exact Nat.le_of_ble_eq_true rfl | (simp only [List.map_cons, List.map_nil, List.sum_cons, List.sum_nil, rv_cat]; exact Nat.le_of_ble_eq_true rfl)) rfl HMc.1.1 ?_
          rintro _ h714 ⟨rfl, T714, F714⟩
          refine r_icmp_eq (q := 720) (off := 358) (tgt := 1075) C rfl (by decide +kernel) (by decide) (fun c717 => ?_) (fun c717 => ?_)
          · exact wX.sub (lsub_s (lsub_s (lsub_s (lsub_s (lsub_s (lsub_n (lsub_n (lsub_nil)))))))) (wX.sub (lsub_s (lsub_s (lsub_s (lsub_s (lsub_s (lsub_n (lsub_n lsub_nil))))))) (J1075 h714 _ _ _ _ _ _ _ _ _ _ (CP.fm F714 (by decide) (by decide) HCc) (HMc.feed F714 T714) HK (HOc.fm F714) (by omega) (by omega)))
          · exact absurd rfl c717
        · refine r_tableIn (dflt := 1035) (lo := 0) (hi := 21) (offs := #[104, 169, 194, 267, 344, 421, 446, 459, 472, 497, 522, 535, 682, 695, 732, 757, 782, 819, 844, 905, 973, 1010]) (len := 104) (off := 682) (tgt := 722) C (by decide +kernel) (by decide) (by decide) (by decide) (by decide) ?_
          refine r_aload_n (q := 723) (z := 1) C 1 rfl (by decide +kernel) rfl rfl ?_
          refine cV0I (q := 726) C R rfl (by decide +kernel) lk_L_77 (c_X6_text (L := L) c1 c5 c6) (by decide) (by omega) (by omega) rfl (by first | exact Nat.le_of_ble_eq_true rfl | (simp only [List.map_cons, List.map_nil, List.sum_cons, List.sum_nil, rv_cat]; exact Nat.le_of_ble_eq_true rfl)) rfl c1.kf ?_
          rintro _ h723 ⟨x723, X723, rfl, Q723, T723, hL723, F723⟩
          have HCc := HC.text F723 hL723 T723 Q723
          have HMc := HM.kc (F723.kc (by decide) (by decide))
          have HOc := HO.kc (F723.kc (by decide) (by decide))
          refine r_aload_n (q := 727) (z := 2) C 2 rfl (by decide +kernel) rfl rfl ?_
          refine cV0I (q := 730) C R rfl (by decide +kernel) lk_L_80 (c_X7_text HMc.1 HMc.2.2.2.1 HMc.2.2.2.2.1 HMc.2.2.2.2.2) (by decide) (by omega) (by omega) rfl (by first | exact Nat.le_of_ble_eq_true rfl | (simp only [List.map_cons, List.map_nil, List.sum_cons, List.sum_nil, rv_cat]; exact Nat.le_of_ble_eq_true rfl)) rfl HMc.1.1 ?_
          rintro _ h727 ⟨r727, X727, rfl, L727, T727, F727⟩
          have e9 := TX.one X723 X727
          subst e9
          refine r_icmp_eq (q := 733) (off := 345) (tgt := 1075) C rfl (by decide +kernel) (by decide) (fun c730 => ?_) (fun c730 => ?_)
          · exact wX.sub (lsub_s (lsub_s (lsub_s (lsub_s (lsub_s (lsub_n (lsub_n (lsub_nil)))))))) (wX.sub (lsub_s (lsub_s (lsub_s (lsub_s (lsub_s (lsub_n (lsub_n lsub_nil))))))) (J1075 h727 _ _ _ _ _ _ _ _ _ _ (CP.fm F727 (by decide) (by decide) HCc) (HMc.text F727 T727 L727) HK (HOc.fm F727) (by omega) (by omega)))
          · exact absurd rfl c730
        · refine r_tableIn (dflt := 1035) (lo := 0) (hi := 21) (offs := #[104, 169, 194, 267, 344, 421, 446, 459, 472, 497, 522, 535, 682, 695, 732, 757, 782, 819, 844, 905, 973, 1010]) (len := 104) (off := 695) (tgt := 735) C (by decide +kernel) (by decide) (by decide) (by decide) (by decide) ?_
          refine r_aload_n (q := 736) (z := 1) C 1 rfl (by decide +kernel) rfl rfl ?_
          refine r_aload_nS (q := 737) (z := 0) C 0 rfl (by decide +kernel) rfl rfl ?_
          refine r_iload (q := 739) C 4 rfl (by decide +kernel) rfl ?_
          refine r_iconst (q := 740) (z := 1) (v := nI 1) C rfl (by decide +kernel) (by decide) ?_
          refine r_iadd (q := 741) C rfl (by decide +kernel) ?_
          rw [nI_add]
          refine r_sld (q := 742) C rfl (by decide +kernel) hX hbl hbA (vp_in_nI (by omega) (by omega)) ?_
          rw [nI_clamp (by omega)]
          refine r_aload_nS (q := 743) (z := 0) C 0 rfl (by decide +kernel) rfl rfl ?_
          refine r_iload (q := 745) C 4 rfl (by decide +kernel) rfl ?_
          refine r_iconst (q := 746) (z := 2) (v := nI 2) C rfl (by decide +kernel) (by decide) ?_
          refine r_iadd (q := 747) C rfl (by decide +kernel) ?_
          rw [nI_add]
          refine r_sld (q := 748) C rfl (by decide +kernel) hX hbl hbA (vp_in_nI (by omega) (by omega)) ?_
          rw [nI_clamp (by omega)]
          refine cV2I (q := 751) C R rfl (by decide +kernel) lk_L_81 (c_X6_bears (L := L) c1 c4) (by decide) (by omega) (by omega) rfl (by first | exact Nat.le_of_ble_eq_true rfl | (simp only [List.map_cons, List.map_nil, List.sum_cons, List.sum_nil, rv_cat]; exact Nat.le_of_ble_eq_true rfl)) rfl c1.kf ?_
          rintro _ h748 ⟨rfl, M748, F748⟩
          have HCc := HC.upB F748 (by decide) (by decide) M748
          have HMc := HM.kc (F748.kc (by decide) (by decide))
          have HOc := HO.fm F748
          refine r_aload_n (q := 752) (z := 2) C 2 rfl (by decide +kernel) rfl rfl ?_
          refine r_aload_nS (q := 753) (z := 0) C 0 rfl (by decide +kernel) rfl rfl ?_
          refine r_iload (q := 755) C 4 rfl (by decide +kernel) rfl ?_
          refine r_iconst (q := 756) (z := 1) (v := nI 1) C rfl (by decide +kernel) (by decide) ?_
          refine r_iadd (q := 757) C rfl (by decide +kernel) ?_
          rw [nI_add]
          refine r_sld (q := 758) C rfl (by decide +kernel) hX hbl hbA (vp_in_nI (by omega) (by omega)) ?_
          rw [nI_clamp (by omega)]
          refine r_aload_nS (q := 759) (z := 0) C 0 rfl (by decide +kernel) rfl rfl ?_
          refine r_iload (q := 761) C 4 rfl (by decide +kernel) rfl ?_
          refine r_iconst (q := 762) (z := 2) (v := nI 2) C rfl (by decide +kernel) (by decide) ?_
          refine r_iadd (q := 763) C rfl (by decide +kernel) ?_
          rw [nI_add]
          refine r_sld (q := 764) C rfl (by decide +kernel) hX hbl hbA (vp_in_nI (by omega) (by omega)) ?_
          rw [nI_clamp (by omega)]
          refine cV2I (q := 767) C R rfl (by decide +kernel) lk_L_85 (c_X7_bears HMc.1 HMc.2.2.1) (by decide) (by omega) (by omega) rfl (by first | exact Nat.le_of_ble_eq_true rfl | (simp only [List.map_cons, List.map_nil, List.sum_cons, List.sum_nil, rv_cat]; exact Nat.le_of_ble_eq_true rfl)) rfl HMc.1.1 ?_
          rintro _ h764 ⟨rfl, M764, F764⟩
          refine r_icmp_eq (q := 770) (off := 308) (tgt := 1075) C rfl (by decide +kernel) (by decide) (fun c767 => ?_) (fun c767 => ?_)
          · exact wX.sub (lsub_s (lsub_s (lsub_s (lsub_s (lsub_s (lsub_n (lsub_n (lsub_nil)))))))) (wX.sub (lsub_s (lsub_s (lsub_s (lsub_s (lsub_s (lsub_n (lsub_n lsub_nil))))))) (J1075 h764 _ _ _ _ _ _ _ _ _ _ (CP.fm F764 (by decide) (by decide) HCc) (HMc.upB F764 (by decide) (by decide) (by decide) (by decide) M764) HK (HOc.fm F764) (by omega) (by omega)))
          · exact absurd rfl c767
        · refine r_tableIn (dflt := 1035) (lo := 0) (hi := 21) (offs := #[104, 169, 194, 267, 344, 421, 446, 459, 472, 497, 522, 535, 682, 695, 732, 757, 782, 819, 844, 905, 973, 1010]) (len := 104) (off := 732) (tgt := 772) C (by decide +kernel) (by decide) (by decide) (by decide) (by decide) ?_
          refine r_aload_n (q := 773) (z := 1) C 1 rfl (by decide +kernel) rfl rfl ?_
          refine r_aload_nS (q := 774) (z := 0) C 0 rfl (by decide +kernel) rfl rfl ?_
          refine r_iload (q := 776) C 4 rfl (by decide +kernel) rfl ?_
          refine r_iconst (q := 777) (z := 1) (v := nI 1) C rfl (by decide +kernel) (by decide) ?_
          refine r_iadd (q := 778) C rfl (by decide +kernel) ?_
          rw [nI_add]
          refine r_sld (q := 779) C rfl (by decide +kernel) hX hbl hbA (vp_in_nI (by omega) (by omega)) ?_
          rw [nI_clamp (by omega)]
          refine cV1I (q := 782) C R rfl (by decide +kernel) lk_L_86 (c_X6_lit (L := L) c1 c2 W c4 Srt0) (by decide) (by omega) (by omega) rfl (by first | exact Nat.le_of_ble_eq_true rfl | (simp only [List.map_cons, List.map_nil, List.sum_cons, List.sum_nil, rv_cat]; exact Nat.le_of_ble_eq_true rfl)) rfl c1.kf ?_
          rintro _ _ ⟨rfl, rfl⟩
          refine r_aload_n (q := 783) (z := 2) C 2 rfl (by decide +kernel) rfl rfl ?_
          refine r_aload_nS (q := 784) (z := 0) C 0 rfl (by decide +kernel) rfl rfl ?_
          refine r_iload (q := 786) C 4 rfl (by decide +kernel) rfl ?_
          refine r_iconst (q := 787) (z := 1) (v := nI 1) C rfl (by decide +kernel) (by decide) ?_
          refine r_iadd (q := 788) C rfl (by decide +kernel) ?_
          rw [nI_add]
          refine r_sld (q := 789) C rfl (by decide +kernel) hX hbl hbA (vp_in_nI (by omega) (by omega)) ?_
          rw [nI_clamp (by omega)]
          refine cV1I (q := 792) C R rfl (by decide +kernel) lk_L_89 (c_X7_lit HM.1 HM.2.1 W HM.2.2.1 Srt0) (by decide) (by omega) (by omega) rfl (by first | exact Nat.le_of_ble_eq_true rfl | (simp only [List.map_cons, List.map_nil, List.sum_cons, List.sum_nil, rv_cat]; exact Nat.le_of_ble_eq_true rfl)) rfl HM.1.1 ?_
          rintro _ h789 ⟨rfl, M789, F789⟩
          refine r_icmp_eq (q := 795) (off := 283) (tgt := 1075) C rfl (by decide +kernel) (by decide) (fun c792 => ?_) (fun c792 => ?_)
          · exact wX.sub (lsub_s (lsub_s (lsub_s (lsub_s (lsub_s (lsub_n (lsub_n (lsub_nil)))))))) (wX.sub (lsub_s (lsub_s (lsub_s (lsub_s (lsub_s (lsub_n (lsub_n lsub_nil))))))) (J1075 h789 _ _ _ _ _ _ _ _ _ _ (CP.fm F789 (by decide) (by decide) HC) (HM.up F789 (by decide) (by decide) M789) HK (HO.fm F789) (by omega) (by omega)))
          · exact absurd rfl c792
        · refine r_tableIn (dflt := 1035) (lo := 0) (hi := 21) (offs := #[104, 169, 194, 267, 344, 421, 446, 459, 472, 497, 522, 535, 682, 695, 732, 757, 782, 819, 844, 905, 973, 1010]) (len := 104) (off := 757) (tgt := 797) C (by decide +kernel) (by decide) (by decide) (by decide) (by decide) ?_
          refine r_aload_n (q := 798) (z := 1) C 1 rfl (by decide +kernel) rfl rfl ?_
          refine r_aload_nS (q := 799) (z := 0) C 0 rfl (by decide +kernel) rfl rfl ?_
          refine r_iload (q := 801) C 4 rfl (by decide +kernel) rfl ?_
          refine r_iconst (q := 802) (z := 1) (v := nI 1) C rfl (by decide +kernel) (by decide) ?_
          refine r_iadd (q := 803) C rfl (by decide +kernel) ?_
          rw [nI_add]
          refine r_sld (q := 804) C rfl (by decide +kernel) hX hbl hbA (vp_in_nI (by omega) (by omega)) ?_
          rw [nI_clamp (by omega)]
          refine cV1I (q := 807) C R rfl (by decide +kernel) lk_L_90 (c_X6_rate (L := L) c1 c4) (by decide) (by omega) (by omega) rfl (by first | exact Nat.le_of_ble_eq_true rfl | (simp only [List.map_cons, List.map_nil, List.sum_cons, List.sum_nil, rv_cat]; exact Nat.le_of_ble_eq_true rfl)) rfl c1.kf ?_
          rintro _ h804 ⟨rfl, M804, F804⟩
          have HCc := HC.upB F804 (by decide) (by decide) M804
          have HMc := HM.kc (F804.kc (by decide) (by decide))
          have HOc := HO.fm F804
          refine r_aload_n (q := 808) (z := 2) C 2 rfl (by decide +kernel) rfl rfl ?_
          refine r_aload_nS (q := 809) (z := 0) C 0 rfl (by decide +kernel) rfl rfl ?_
          refine r_iload (q := 811) C 4 rfl (by decide +kernel) rfl ?_
          refine r_iconst (q := 812) (z := 1) (v := nI 1) C rfl (by decide +kernel) (by decide) ?_
          refine r_iadd (q := 813) C rfl (by decide +kernel) ?_
          rw [nI_add]
          refine r_sld (q := 814) C rfl (by decide +kernel) hX hbl hbA (vp_in_nI (by omega) (by omega)) ?_
          rw [nI_clamp (by omega)]
          refine cV1I (q := 817) C R rfl (by decide +kernel) lk_L_93 (c_X7_rate HMc.1 HMc.2.2.1) (by decide) (by omega) (by omega) rfl (by first | exact Nat.le_of_ble_eq_true rfl | (simp only [List.map_cons, List.map_nil, List.sum_cons, List.sum_nil, rv_cat]; exact Nat.le_of_ble_eq_true rfl)) rfl HMc.1.1 ?_
          rintro _ h814 ⟨rfl, M814, F814⟩
          refine r_icmp_eq (q := 820) (off := 258) (tgt := 1075) C rfl (by decide +kernel) (by decide) (fun c817 => ?_) (fun c817 => ?_)
          · exact wX.sub (lsub_s (lsub_s (lsub_s (lsub_s (lsub_s (lsub_n (lsub_n (lsub_nil)))))))) (wX.sub (lsub_s (lsub_s (lsub_s (lsub_s (lsub_s (lsub_n (lsub_n lsub_nil))))))) (J1075 h814 _ _ _ _ _ _ _ _ _ _ (CP.fm F814 (by decide) (by decide) HCc) (HMc.upB F814 (by decide) (by decide) (by decide) (by decide) M814) HK (HOc.fm F814) (by omega) (by omega)))
          · exact absurd rfl c817
        · refine r_tableIn (dflt := 1035) (lo := 0) (hi := 21) (offs := #[104, 169, 194, 267, 344, 421, 446, 459, 472, 497, 522, 535, 682, 695, 732, 757, 782, 819, 844, 905, 973, 1010]) (len := 104) (off := 782) (tgt := 822) C (by decide +kernel) (by decide) (by decide) (by decide) (by decide) ?_
          refine r_aload_n (q := 823) (z := 1) C 1 rfl (by decide +kernel) rfl rfl ?_
          refine r_aload_nS (q := 824) (z := 0) C 0 rfl (by decide +kernel) rfl rfl ?_
          refine r_iload (q := 826) C 4 rfl (by decide +kernel) rfl ?_
          refine r_iconst (q := 827) (z := 1) (v := nI 1) C rfl (by decide +kernel) (by decide) ?_
          refine r_iadd (q := 828) C rfl (by decide +kernel) ?_
          rw [nI_add]
          refine r_sld (q := 829) C rfl (by decide +kernel) hX hbl hbA (vp_in_nI (by omega) (by omega)) ?_
          rw [nI_clamp (by omega)]
          refine r_aload_nS (q := 830) (z := 0) C 0 rfl (by decide +kernel) rfl rfl ?_
          refine r_iload (q := 832) C 4 rfl (by decide +kernel) rfl ?_
          refine r_iconst (q := 833) (z := 2) (v := nI 2) C rfl (by decide +kernel) (by decide) ?_
          refine r_iadd (q := 834) C rfl (by decide +kernel) ?_
          rw [nI_add]
          refine r_sld (q := 835) C rfl (by decide +kernel) hX hbl hbA (vp_in_nI (by omega) (by omega)) ?_
          rw [nI_clamp (by omega)]
          refine cV2I (q := 838) C R rfl (by decide +kernel) lk_L_94 (c_X6_share (L := L) c1 c4) (by decide) (by omega) (by omega) rfl (by first | exact Nat.le_of_ble_eq_true rfl | (simp only [List.map_cons, List.map_nil, List.sum_cons, List.sum_nil, rv_cat]; exact Nat.le_of_ble_eq_true rfl)) rfl c1.kf ?_
          rintro _ h835 ⟨rfl, M835, F835⟩
          have HCc := HC.upB F835 (by decide) (by decide) M835
          have HMc := HM.kc (F835.kc (by decide) (by decide))
          have HOc := HO.fm F835
          refine r_aload_n (q := 839) (z := 2) C 2 rfl (by decide +kernel) rfl rfl ?_
          refine r_aload_nS (q := 840) (z := 0) C 0 rfl (by decide +kernel) rfl rfl ?_
          refine r_iload (q := 842) C 4 rfl (by decide +kernel) rfl ?_
          refine r_iconst (q := 843) (z := 1) (v := nI 1) C rfl (by decide +kernel) (by decide) ?_
          refine r_iadd (q := 844) C rfl (by decide +kernel) ?_
          rw [nI_add]
          refine r_sld (q := 845) C rfl (by decide +kernel) hX hbl hbA (vp_in_nI (by omega) (by omega)) ?_
          rw [nI_clamp (by omega)]
          refine r_aload_nS (q := 846) (z := 0) C 0 rfl (by decide +kernel) rfl rfl ?_
          refine r_iload (q := 848) C 4 rfl (by decide +kernel) rfl ?_
          refine r_iconst (q := 849) (z := 2) (v := nI 2) C rfl (by decide +kernel) (by decide) ?_
          refine r_iadd (q := 850) C rfl (by decide +kernel) ?_
          rw [nI_add]
          refine r_sld (q := 851) C rfl (by decide +kernel) hX hbl hbA (vp_in_nI (by omega) (by omega)) ?_
          rw [nI_clamp (by omega)]
          refine cV2I (q := 854) C R rfl (by decide +kernel) lk_L_97 (c_X7_share HMc.1 HMc.2.2.1) (by decide) (by omega) (by omega) rfl (by first | exact Nat.le_of_ble_eq_true rfl | (simp only [List.map_cons, List.map_nil, List.sum_cons, List.sum_nil, rv_cat]; exact Nat.le_of_ble_eq_true rfl)) rfl HMc.1.1 ?_
          rintro _ h851 ⟨rfl, M851, F851⟩
          refine r_icmp_eq (q := 857) (off := 221) (tgt := 1075) C rfl (by decide +kernel) (by decide) (fun c854 => ?_) (fun c854 => ?_)
          · exact wX.sub (lsub_s (lsub_s (lsub_s (lsub_s (lsub_s (lsub_n (lsub_n (lsub_nil)))))))) (wX.sub (lsub_s (lsub_s (lsub_s (lsub_s (lsub_s (lsub_n (lsub_n lsub_nil))))))) (J1075 h851 _ _ _ _ _ _ _ _ _ _ (CP.fm F851 (by decide) (by decide) HCc) (HMc.upB F851 (by decide) (by decide) (by decide) (by decide) M851) HK (HOc.fm F851) (by omega) (by omega)))
          · exact absurd rfl c854
        · refine r_tableIn (dflt := 1035) (lo := 0) (hi := 21) (offs := #[104, 169, 194, 267, 344, 421, 446, 459, 472, 497, 522, 535, 682, 695, 732, 757, 782, 819, 844, 905, 973, 1010]) (len := 104) (off := 819) (tgt := 859) C (by decide +kernel) (by decide) (by decide) (by decide) (by decide) ?_
          refine r_aload_n (q := 860) (z := 1) C 1 rfl (by decide +kernel) rfl rfl ?_
          refine r_aload_nS (q := 861) (z := 0) C 0 rfl (by decide +kernel) rfl rfl ?_
          refine r_iload (q := 863) C 4 rfl (by decide +kernel) rfl ?_
          refine r_iconst (q := 864) (z := 1) (v := nI 1) C rfl (by decide +kernel) (by decide) ?_
          refine r_iadd (q := 865) C rfl (by decide +kernel) ?_
          rw [nI_add]
          refine r_sld (q := 866) C rfl (by decide +kernel) hX hbl hbA (vp_in_nI (by omega) (by omega)) ?_
          rw [nI_clamp (by omega)]
          refine cV1I (q := 869) C R rfl (by decide +kernel) lk_L_98 (c_X6_rent (L := L) c1 c2 W c4) (by decide) (by omega) (by omega) rfl (by first | exact Nat.le_of_ble_eq_true rfl | (simp only [List.map_cons, List.map_nil, List.sum_cons, List.sum_nil, rv_cat]; exact Nat.le_of_ble_eq_true rfl)) rfl c1.kf ?_
          rintro _ _ ⟨rfl, rfl⟩
          refine r_aload_n (q := 870) (z := 2) C 2 rfl (by decide +kernel) rfl rfl ?_
          refine r_aload_nS (q := 871) (z := 0) C 0 rfl (by decide +kernel) rfl rfl ?_
          refine r_iload (q := 873) C 4 rfl (by decide +kernel) rfl ?_
          refine r_iconst (q := 874) (z := 1) (v := nI 1) C rfl (by decide +kernel) (by decide) ?_
          refine r_iadd (q := 875) C rfl (by decide +kernel) ?_
          rw [nI_add]
          refine r_sld (q := 876) C rfl (by decide +kernel) hX hbl hbA (vp_in_nI (by omega) (by omega)) ?_
          rw [nI_clamp (by omega)]
          refine cV1I (q := 879) C R rfl (by decide +kernel) lk_L_101 (c_X7_rent HM.1 HM.2.1 W HM.2.2.1) (by decide) (by omega) (by omega) rfl (by first | exact Nat.le_of_ble_eq_true rfl | (simp only [List.map_cons, List.map_nil, List.sum_cons, List.sum_nil, rv_cat]; exact Nat.le_of_ble_eq_true rfl)) rfl HM.1.1 ?_
          rintro _ h876 ⟨rfl, F876⟩
          refine r_icmp_eq (q := 882) (off := 196) (tgt := 1075) C rfl (by decide +kernel) (by decide) (fun c879 => ?_) (fun c879 => ?_)
          · exact wX.sub (lsub_s (lsub_s (lsub_s (lsub_s (lsub_s (lsub_n (lsub_n (lsub_nil)))))))) (wX.sub (lsub_s (lsub_s (lsub_s (lsub_s (lsub_s (lsub_n (lsub_n lsub_nil))))))) (J1075 h876 _ _ _ _ _ _ _ _ _ _ (CP.fm F876 (by decide) (by decide) HC) (HM.same F876 (by decide) (by decide) (by decide) (by decide)) HK (HO.fm F876) (by omega) (by omega)))
          · exact absurd rfl c879
        · refine r_tableIn (dflt := 1035) (lo := 0) (hi := 21) (offs := #[104, 169, 194, 267, 344, 421, 446, 459, 472, 497, 522, 535, 682, 695, 732, 757, 782, 819, 844, 905, 973, 1010]) (len := 104) (off := 844) (tgt := 884) C (by decide +kernel) (by decide) (by decide) (by decide) (by decide) ?_
          refine r_aload_n (q := 885) (z := 1) C 1 rfl (by decide +kernel) rfl rfl ?_
          refine r_aload_nS (q := 886) (z := 0) C 0 rfl (by decide +kernel) rfl rfl ?_
          refine r_iload (q := 888) C 4 rfl (by decide +kernel) rfl ?_
          refine r_iconst (q := 889) (z := 1) (v := nI 1) C rfl (by decide +kernel) (by decide) ?_
          refine r_iadd (q := 890) C rfl (by decide +kernel) ?_
          rw [nI_add]
          refine r_sld (q := 891) C rfl (by decide +kernel) hX hbl hbA (vp_in_nI (by omega) (by omega)) ?_
          rw [nI_clamp (by omega)]
          refine r_aload_nS (q := 892) (z := 0) C 0 rfl (by decide +kernel) rfl rfl ?_
          refine r_iload (q := 894) C 4 rfl (by decide +kernel) rfl ?_
          refine r_iconst (q := 895) (z := 2) (v := nI 2) C rfl (by decide +kernel) (by decide) ?_
          refine r_iadd (q := 896) C rfl (by decide +kernel) ?_
          rw [nI_add]
          refine r_sld (q := 897) C rfl (by decide +kernel) hX hbl hbA (vp_in_nI (by omega) (by omega)) ?_
          rw [nI_clamp (by omega)]
          refine r_aload_nS (q := 898) (z := 0) C 0 rfl (by decide +kernel) rfl rfl ?_
          refine r_iload (q := 900) C 4 rfl (by decide +kernel) rfl ?_
          refine r_iconst (q := 901) (z := 3) (v := nI 3) C rfl (by decide +kernel) (by decide) ?_
          refine r_iadd (q := 902) C rfl (by decide +kernel) ?_
          rw [nI_add]
          refine r_sld (q := 903) C rfl (by decide +kernel) hX hbl hbA (vp_in_nI (by omega) (by omega)) ?_
          rw [nI_clamp (by omega)]
          refine r_aload_nS (q := 904) (z := 0) C 0 rfl (by decide +kernel) rfl rfl ?_
          refine r_iload (q := 906) C 4 rfl (by decide +kernel) rfl ?_
          refine r_iconst (q := 907) (z := 4) (v := nI 4) C rfl (by decide +kernel) (by decide) ?_
          refine r_iadd (q := 908) C rfl (by decide +kernel) ?_
          rw [nI_add]
          refine r_sld (q := 909) C rfl (by decide +kernel) hX hbl hbA (vp_in_nI (by omega) (by omega)) ?_
          rw [nI_clamp (by omega)]
          refine cV4I (q := 912) C R rfl (by decide +kernel) lk_L_102 (c_X6_change (L := L) c1 c2 c3 W) (by decide) (by omega) (by omega) rfl (by first | exact Nat.le_of_ble_eq_true rfl | (simp only [List.map_cons, List.map_nil, List.sum_cons, List.sum_nil, rv_cat]; exact Nat.le_of_ble_eq_true rfl)) rfl c1.kf ?_
          rintro _ h909 ⟨rfl, R909, Rc909, F909⟩
          have HCc := HC.up F909 (by decide) (by decide) rfl R909 Rc909
          have HMc := HM.kc (F909.kc (by decide) (by decide))
          have HOc := HO.fm F909
          refine r_aload_n (q := 913) (z := 2) C 2 rfl (by decide +kernel) rfl rfl ?_
          refine r_aload_nS (q := 914) (z := 0) C 0 rfl (by decide +kernel) rfl rfl ?_
          refine r_iload (q := 916) C 4 rfl (by decide +kernel) rfl ?_
          refine r_iconst (q := 917) (z := 1) (v := nI 1) C rfl (by decide +kernel) (by decide) ?_
          refine r_iadd (q := 918) C rfl (by decide +kernel) ?_
          rw [nI_add]
          refine r_sld (q := 919) C rfl (by decide +kernel) hX hbl hbA (vp_in_nI (by omega) (by omega)) ?_
          rw [nI_clamp (by omega)]
          refine r_aload_nS (q := 920) (z := 0) C 0 rfl (by decide +kernel) rfl rfl ?_
          refine r_iload (q := 922) C 4 rfl (by decide +kernel) rfl ?_
          refine r_iconst (q := 923) (z := 2) (v := nI 2) C rfl (by decide +kernel) (by decide) ?_
          refine r_iadd (q := 924) C rfl (by decide +kernel) ?_
          rw [nI_add]
          refine r_sld (q := 925) C rfl (by decide +kernel) hX hbl hbA (vp_in_nI (by omega) (by omega)) ?_
          rw [nI_clamp (by omega)]
          refine r_aload_nS (q := 926) (z := 0) C 0 rfl (by decide +kernel) rfl rfl ?_
          refine r_iload (q := 928) C 4 rfl (by decide +kernel) rfl ?_
          refine r_iconst (q := 929) (z := 3) (v := nI 3) C rfl (by decide +kernel) (by decide) ?_
          refine r_iadd (q := 930) C rfl (by decide +kernel) ?_
          rw [nI_add]
          refine r_sld (q := 931) C rfl (by decide +kernel) hX hbl hbA (vp_in_nI (by omega) (by omega)) ?_
          rw [nI_clamp (by omega)]
          refine r_aload_nS (q := 932) (z := 0) C 0 rfl (by decide +kernel) rfl rfl ?_
          refine r_iload (q := 934) C 4 rfl (by decide +kernel) rfl ?_
          refine r_iconst (q := 935) (z := 4) (v := nI 4) C rfl (by decide +kernel) (by decide) ?_
          refine r_iadd (q := 936) C rfl (by decide +kernel) ?_
          rw [nI_add]
          refine r_sld (q := 937) C rfl (by decide +kernel) hX hbl hbA (vp_in_nI (by omega) (by omega)) ?_
          rw [nI_clamp (by omega)]
          refine cV4I (q := 940) C R rfl (by decide +kernel) lk_L_106 (c_X7_change HMc.1 HMc.2.1 W) (by decide) (by omega) (by omega) rfl (by first | exact Nat.le_of_ble_eq_true rfl | (simp only [List.map_cons, List.map_nil, List.sum_cons, List.sum_nil, rv_cat]; exact Nat.le_of_ble_eq_true rfl)) rfl HMc.1.1 ?_
          rintro _ _ ⟨rfl, rfl⟩
          refine r_icmp_eq (q := 943) (off := 135) (tgt := 1075) C rfl (by decide +kernel) (by decide) (fun c940 => ?_) (fun c940 => ?_)
          · exact wX.sub (lsub_s (lsub_s (lsub_s (lsub_s (lsub_s (lsub_n (lsub_n (lsub_nil)))))))) (wX.sub (lsub_s (lsub_s (lsub_s (lsub_s (lsub_s (lsub_n (lsub_n lsub_nil))))))) (J1075 (h909.setI 448 m 0) _ _ _ _ _ _ _ _ _ _ HCc.s8 HMc.s8 HK HOc (by omega) (by omega)))
          · exact absurd rfl c940
        · refine r_tableIn (dflt := 1035) (lo := 0) (hi := 21) (offs := #[104, 169, 194, 267, 344, 421, 446, 459, 472, 497, 522, 535, 682, 695, 732, 757, 782, 819, 844, 905, 973, 1010]) (len := 104) (off := 905) (tgt := 945) C (by decide +kernel) (by decide) (by decide) (by decide) (by decide) ?_
          refine r_aload_n (q := 946) (z := 1) C 1 rfl (by decide +kernel) rfl rfl ?_
          refine r_aload_nS (q := 947) (z := 0) C 0 rfl (by decide +kernel) rfl rfl ?_
          refine r_iload (q := 949) C 4 rfl (by decide +kernel) rfl ?_
          refine r_iconst (q := 950) (z := 1) (v := nI 1) C rfl (by decide +kernel) (by decide) ?_
          refine r_iadd (q := 951) C rfl (by decide +kernel) ?_
          rw [nI_add]
          refine r_sld (q := 952) C rfl (by decide +kernel) hX hbl hbA (vp_in_nI (by omega) (by omega)) ?_
          rw [nI_clamp (by omega)]
          refine r_aload_nS (q := 953) (z := 0) C 0 rfl (by decide +kernel) rfl rfl ?_
          refine r_iload (q := 955) C 4 rfl (by decide +kernel) rfl ?_
          refine r_iconst (q := 956) (z := 2) (v := nI 2) C rfl (by decide +kernel) (by decide) ?_
          refine r_iadd (q := 957) C rfl (by decide +kernel) ?_
          rw [nI_add]
          refine r_sld (q := 958) C rfl (by decide +kernel) hX hbl hbA (vp_in_nI (by omega) (by omega)) ?_
          rw [nI_clamp (by omega)]
          refine r_aload_n (q := 959) (z := 3) C 3 rfl (by decide +kernel) rfl rfl ?_
          refine Hlk HC HO W (by omega) (by omega) ?_
          rintro v959 h959 ⟨hy959, hn959⟩
          obtain ⟨ev9, HCc, HMc, HOc, al9⟩ := lk_step HC HM HO hy959 hn959
          subst ev9
          refine r_istore (q := 964) C 5 rfl (by decide +kernel) (by decide) (by first | rfl | exact okst_rv rfl) ?_
          dsimp only [List.set]
          refine r_aload_n (q := 965) (z := 2) C 2 rfl (by decide +kernel) rfl rfl ?_
          refine r_aload_nS (q := 966) (z := 0) C 0 rfl (by decide +kernel) rfl rfl ?_
          refine r_iload (q := 968) C 4 rfl (by decide +kernel) rfl ?_
          refine r_iconst (q := 969) (z := 1) (v := nI 1) C rfl (by decide +kernel) (by decide) ?_
          refine r_iadd (q := 970) C rfl (by decide +kernel) ?_
          rw [nI_add]
          refine r_sld (q := 971) C rfl (by decide +kernel) hX hbl hbA (vp_in_nI (by omega) (by omega)) ?_
          rw [nI_clamp (by omega)]
          refine r_aload_nS (q := 972) (z := 0) C 0 rfl (by decide +kernel) rfl rfl ?_
          refine r_iload (q := 974) C 4 rfl (by decide +kernel) rfl ?_
          refine r_iconst (q := 975) (z := 2) (v := nI 2) C rfl (by decide +kernel) (by decide) ?_
          refine r_iadd (q := 976) C rfl (by decide +kernel) ?_
          rw [nI_add]
          refine r_sld (q := 977) C rfl (by decide +kernel) hX hbl hbA (vp_in_nI (by omega) (by omega)) ?_
          rw [nI_clamp (by omega)]
          refine cV2I (q := 980) C R rfl (by decide +kernel) lk_L_112 (c_X7_look HMc.1 HMc.2.1 W) (by decide) (by omega) (by omega) rfl (by first | exact Nat.le_of_ble_eq_true rfl | (simp only [List.map_cons, List.map_nil, List.sum_cons, List.sum_nil, rv_cat]; exact Nat.le_of_ble_eq_true rfl)) rfl HMc.1.1 ?_
          rintro v977 h977 ⟨hy977, hn977⟩
          obtain ⟨tv9, HCd, HMd, HOd, al8⟩ := lk_step2 HCc HMc HOc al9 hy977 hn977
          refine r_istore (q := 982) C 6 rfl (by decide +kernel) (by decide) (by first | rfl | exact okst_rv rfl) ?_
          dsimp only [List.set]
          refine r_aload_n (q := 983) (z := 2) C 2 rfl (by decide +kernel) rfl rfl ?_
          refine cV0I (q := 986) C R rfl (by decide +kernel) lk_L_113 (c_X7_thrown HMd.1) (by decide) (by omega) (by omega) rfl (by first | exact Nat.le_of_ble_eq_true rfl | (simp only [List.map_cons, List.map_nil, List.sum_cons, List.sum_nil, rv_cat]; exact Nat.le_of_ble_eq_true rfl)) rfl HMd.1.1 ?_
          rintro _ _ ⟨rfl, rfl⟩
          rw [tv9]
          refine r_iload (q := 988) C 5 rfl (by decide +kernel) rfl ?_
          refine r_icmp_eq (q := 991) (off := 5) (tgt := 993) C rfl (by decide +kernel) (by decide) (fun c988 => ?_) (fun c988 => ?_)
          · refine r_iload (q := 995) C 5 rfl (by decide +kernel) rfl ?_
            refine r_if_ne (q := 998) (off := 15) (tgt := 1010) C rfl (by decide +kernel) (by decide) (fun c995 => ?_) (fun c995 => ?_)
            · refine r_goto (off := 65) (tgt := 1075) C (by decide +kernel) (by decide) ?_
              exact wX.sub (lsub_s (lsub_s (lsub_s (lsub_s (lsub_s (lsub_n (lsub_n (lsub_nil)))))))) (wX.sub (lsub_s (lsub_s (lsub_s (lsub_s (lsub_s (lsub_n (lsub_n lsub_nil))))))) (J1075 h977 _ _ _ _ _ _ _ _ _ _ HCd HMd HK HOd (by omega) (by omega)))
            · have hP9 : lkP σ (xs (i + 1)) (xs (i + 2)) := cif01.mp c995
              refine r_aload_n (q := 999) (z := 3) C 3 rfl (by decide +kernel) rfl rfl ?_
              refine r_iconst (q := 1000) (z := 0) (v := nI 0) C rfl (by decide +kernel) (by decide) ?_
              refine r_lald (q := 1001) C rfl (by decide +kernel) HOd.1 (vp_in_nI (by decide) (by decide)) ?_
              rw [nI_clamp (by decide), al8 hP9]
              refine r_iload (q := 1003) C 6 rfl (by decide +kernel) rfl ?_
              refine r_i2l (q := 1004) C rfl (by decide +kernel) ?_
              refine r_lcmp (q := 1005) C rfl (by decide +kernel) ?_
              refine r_if_eq (q := 1008) (off := 5) (tgt := 1010) C rfl (by decide +kernel) (by decide) (fun c1005 => ?_) (fun c1005 => ?_)
              · refine r_goto (off := 65) (tgt := 1075) C (by decide +kernel) (by decide) ?_
                exact wX.sub (lsub_s (lsub_s (lsub_s (lsub_s (lsub_s (lsub_n (lsub_n (lsub_nil)))))))) (wX.sub (lsub_s (lsub_s (lsub_s (lsub_s (lsub_s (lsub_n (lsub_n lsub_nil))))))) (J1075 h977 _ _ _ _ _ _ _ _ _ _ HCd HMd HK HOd (by omega) (by omega)))
              · exact absurd (lcmp_s _) c1005
          · exact absurd rfl c988
        · refine r_tableIn (dflt := 1035) (lo := 0) (hi := 21) (offs := #[104, 169, 194, 267, 344, 421, 446, 459, 472, 497, 522, 535, 682, 695, 732, 757, 782, 819, 844, 905, 973, 1010]) (len := 104) (off := 973) (tgt := 1013) C (by decide +kernel) (by decide) (by decide) (by decide) (by decide) ?_
          refine r_aload_n (q := 1014) (z := 1) C 1 rfl (by decide +kernel) rfl rfl ?_
          refine r_aload_nS (q := 1015) (z := 0) C 0 rfl (by decide +kernel) rfl rfl ?_
          refine r_iload (q := 1017) C 4 rfl (by decide +kernel) rfl ?_
          refine r_iconst (q := 1018) (z := 1) (v := nI 1) C rfl (by decide +kernel) (by decide) ?_
          refine r_iadd (q := 1019) C rfl (by decide +kernel) ?_
          rw [nI_add]
          refine r_sld (q := 1020) C rfl (by decide +kernel) hX hbl hbA (vp_in_nI (by omega) (by omega)) ?_
          rw [nI_clamp (by omega)]
          refine r_aload_nS (q := 1021) (z := 0) C 0 rfl (by decide +kernel) rfl rfl ?_
          refine r_iload (q := 1023) C 4 rfl (by decide +kernel) rfl ?_
          refine r_iconst (q := 1024) (z := 2) (v := nI 2) C rfl (by decide +kernel) (by decide) ?_
          refine r_iadd (q := 1025) C rfl (by decide +kernel) ?_
          rw [nI_add]
          refine r_sld (q := 1026) C rfl (by decide +kernel) hX hbl hbA (vp_in_nI (by omega) (by omega)) ?_
          rw [nI_clamp (by omega)]
          refine cV2I (q := 1029) C R rfl (by decide +kernel) lk_L_116 (c_X6_cell (L := L) c1 c3) (by decide) (by omega) (by omega) rfl (by first | exact Nat.le_of_ble_eq_true rfl | (simp only [List.map_cons, List.map_nil, List.sum_cons, List.sum_nil, rv_cat]; exact Nat.le_of_ble_eq_true rfl)) rfl c1.kf ?_
          rintro _ _ ⟨rfl, rfl⟩
          refine r_aload_n (q := 1030) (z := 2) C 2 rfl (by decide +kernel) rfl rfl ?_
          refine r_aload_nS (q := 1031) (z := 0) C 0 rfl (by decide +kernel) rfl rfl ?_
          refine r_iload (q := 1033) C 4 rfl (by decide +kernel) rfl ?_
          refine r_iconst (q := 1034) (z := 1) (v := nI 1) C rfl (by decide +kernel) (by decide) ?_
          refine r_iadd (q := 1035) C rfl (by decide +kernel) ?_
          rw [nI_add]
          refine r_sld (q := 1036) C rfl (by decide +kernel) hX hbl hbA (vp_in_nI (by omega) (by omega)) ?_
          rw [nI_clamp (by omega)]
          refine r_aload_nS (q := 1037) (z := 0) C 0 rfl (by decide +kernel) rfl rfl ?_
          refine r_iload (q := 1039) C 4 rfl (by decide +kernel) rfl ?_
          refine r_iconst (q := 1040) (z := 2) (v := nI 2) C rfl (by decide +kernel) (by decide) ?_
          refine r_iadd (q := 1041) C rfl (by decide +kernel) ?_
          rw [nI_add]
          refine r_sld (q := 1042) C rfl (by decide +kernel) hX hbl hbA (vp_in_nI (by omega) (by omega)) ?_
          rw [nI_clamp (by omega)]
          refine cV2I (q := 1045) C R rfl (by decide +kernel) lk_L_119 (c_X7_cell HM.1 HM.2.1 W) (by decide) (by omega) (by omega) rfl (by first | exact Nat.le_of_ble_eq_true rfl | (simp only [List.map_cons, List.map_nil, List.sum_cons, List.sum_nil, rv_cat]; exact Nat.le_of_ble_eq_true rfl)) rfl HM.1.1 ?_
          rintro _ _ ⟨rfl, rfl⟩
          refine r_icmp_eq (q := 1048) (off := 30) (tgt := 1075) C rfl (by decide +kernel) (by decide) (fun c1045 => ?_) (fun c1045 => ?_)
          · exact wX.sub (lsub_s (lsub_s (lsub_s (lsub_s (lsub_s (lsub_n (lsub_n (lsub_nil)))))))) (wX.sub (lsub_s (lsub_s (lsub_s (lsub_s (lsub_s (lsub_n (lsub_n lsub_nil))))))) (J1075 (h2.setI 448 m 0) _ _ _ _ _ _ _ _ _ _ HC.s8 HM.s8 HK HO (by omega) (by omega)))
          · exact absurd rfl c1045
        · refine r_tableIn (dflt := 1035) (lo := 0) (hi := 21) (offs := #[104, 169, 194, 267, 344, 421, 446, 459, 472, 497, 522, 535, 682, 695, 732, 757, 782, 819, 844, 905, 973, 1010]) (len := 104) (off := 1010) (tgt := 1050) C (by decide +kernel) (by decide) (by decide) (by decide) (by decide) ?_
          refine r_aload_n (q := 1051) (z := 1) C 1 rfl (by decide +kernel) rfl rfl ?_
          refine r_aload_nS (q := 1052) (z := 0) C 0 rfl (by decide +kernel) rfl rfl ?_
          refine r_iload (q := 1054) C 4 rfl (by decide +kernel) rfl ?_
          refine r_iconst (q := 1055) (z := 1) (v := nI 1) C rfl (by decide +kernel) (by decide) ?_
          refine r_iadd (q := 1056) C rfl (by decide +kernel) ?_
          rw [nI_add]
          refine r_sld (q := 1057) C rfl (by decide +kernel) hX hbl hbA (vp_in_nI (by omega) (by omega)) ?_
          rw [nI_clamp (by omega)]
          refine cV1I (q := 1060) C R rfl (by decide +kernel) lk_L_120 (c_X6_count (L := L) c1 c2 c3 W c4 c5 c6) (by decide) (by omega) (by omega) rfl (by first | exact Nat.le_of_ble_eq_true rfl | (simp only [List.map_cons, List.map_nil, List.sum_cons, List.sum_nil, rv_cat]; exact Nat.le_of_ble_eq_true rfl)) rfl c1.kf ?_
          rintro _ _ ⟨rfl, rfl⟩
          obtain ⟨q0, q1, q2, q3, q4, -⟩ := id m5
          refine r_aload_n (q := 1061) (z := 2) C 2 rfl (by decide +kernel) rfl rfl ?_
          refine r_aload_nS (q := 1062) (z := 0) C 0 rfl (by decide +kernel) rfl rfl ?_
          refine r_iload (q := 1064) C 4 rfl (by decide +kernel) rfl ?_
          refine r_iconst (q := 1065) (z := 1) (v := nI 1) C rfl (by decide +kernel) (by decide) ?_
          refine r_iadd (q := 1066) C rfl (by decide +kernel) ?_
          rw [nI_add]
          refine r_sld (q := 1067) C rfl (by decide +kernel) hX hbl hbA (vp_in_nI (by omega) (by omega)) ?_
          rw [nI_clamp (by omega)]
          refine cV1I (q := 1070) C R rfl (by decide +kernel) lk_L_123 (c_X7_count (q0 := q0) HM.1 HM.2.1 W HM.2.2.1 q2 q1) (by decide) (by omega) (by omega) rfl (by first | exact Nat.le_of_ble_eq_true rfl | (simp only [List.map_cons, List.map_nil, List.sum_cons, List.sum_nil, rv_cat]; exact Nat.le_of_ble_eq_true rfl)) rfl HM.1.1 ?_
          rintro _ _ ⟨rfl, rfl⟩
          rw [q4, m4.2.1]
          refine r_icmp_eq (q := 1073) (off := 5) (tgt := 1075) C rfl (by decide +kernel) (by decide) (fun c1070 => ?_) (fun c1070 => ?_)
          · exact wX.sub (lsub_s (lsub_s (lsub_s (lsub_s (lsub_s (lsub_n (lsub_n (lsub_nil)))))))) (wX.sub (lsub_s (lsub_s (lsub_s (lsub_s (lsub_s (lsub_n (lsub_n lsub_nil))))))) (J1075 (h2.setI 448 m 0) _ _ _ _ _ _ _ _ _ _ HC.s8 HM.s8 HK HO (by omega) (by omega)))
          · exact absurd rfl c1070
        · refine r_tableOut (dflt := 1035) (lo := 0) (hi := 21) (offs := #[104, 169, 194, 267, 344, 421, 446, 459, 472, 497, 522, 535, 682, 695, 732, 757, 782, 819, 844, 905, 973, 1010]) (len := 104) (tgt := 1075) C (by decide +kernel) (Or.inr hw) (by decide) ?_
          exact wX.sub (lsub_s (lsub_s (lsub_s (lsub_s (lsub_s (lsub_n (lsub_n (lsub_nil)))))))) (wX.sub (lsub_s (lsub_s (lsub_s (lsub_s (lsub_s (lsub_n (lsub_n lsub_nil))))))) (J1075 h2 _ _ _ _ _ _ _ _ _ _ HC HM HK HO (by omega) (by omega)))
  exact wX.sub (lsub_s (lsub_s (lsub_s (lsub_s (lsub_s (lsub_n (lsub_n (lsub_nil)))))))) (L23 (N + 1) h 0 kc0 nc0 s0 (fun _ => 100) (fun _ => 1) 1 [] [] [] (fun _ => 0) (by omega) HC0 HM0 PK.s0 HO0 (by omega) (by omega) (by omega))
