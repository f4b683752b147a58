/-! the class's words -/
theorem fk_w (W : List Nat) : (fnV W = -1 → kwV W = nI (kw (wix W)).1 ∧ ¬ (kw (wix W)).1 < 2) ∧ (¬ fnV W = -1 → (kw (wix W)).1 = 1 ∧ fnV W = nI (kw (wix W)).2) := by
  by_cases h : wix W < 10
  · have e := (wix_le W).2 h
    obtain ⟨w, hw⟩ : ∃ w, w = wix W := ⟨_, rfl⟩
    rw [← hw] at h e ⊢
    subst e
    exact (by decide +kernel : ∀ w : Fin 10, (fnV (wd w.val) = -1 → kwV (wd w.val) = nI (kw w.val).1 ∧ ¬ (kw w.val).1 < 2) ∧ (¬ fnV (wd w.val) = -1 → (kw w.val).1 = 1 ∧ fnV (wd w.val) = nI (kw w.val).2)) ⟨w, h⟩
  · have e : wix W = 10 := by have := (wix_le W).1; omega
    have n : ∀ w, w < 10 → ¬ W = wd w := fun w hw q => h (by rw [(wix_iff hw).mpr q]; exact hw)
    rw [e, fnV, kwV, if_neg (n 4 (by decide)), if_neg (n 5 (by decide)), if_neg (n 6 (by decide)), if_neg (n 7 (by decide)), if_neg (n 8 (by decide)), if_neg (n 9 (by decide)), if_neg (n 0 (by decide)), if_neg (n 1 (by decide)), if_neg (n 2 (by decide)), if_neg (n 3 (by decide))]
    decide

theorem c_X2_scanWord {G : GT} {h : HP} {r a s : Nat} {tp : List Nat} {ts : TkL} (hR : RDl h r) (hk5 : h.kd a = (0, 5)) (hs : h.kd (h.fr 320 a) = (8, 600)) (T : TpC tp h a) (K : CK ts h r) (hts : ts.length ≤ 600) (hs1 : s < tp.length) (hl : isL (sg tp s) = true) : Con G 7 0 0 yX2_scanWord cX2_scanWord 5 (some .int) [rv r, rv a, .int (nI s)] h (PI (fun v h' => ∃ e, nI e = v ∧ te (sg tp) s = e ∧ s < e ∧ e ≤ tp.length ∧ CK (ts ++ [tkn (sg tp) s e]) h' r ∧ Fm [128, 129, 130] [131] h h')) := by
  refine Con.of (lv := [some (rv r), some (rv a), some (.int (nI s)), none, none]) (by decide) (by simp only [lvE_r, lvE_i, lvE_l, lvE_s, lvE_0]; rfl) (by simp only [lgl_r, lgl_i, lgl_l, lgl_s, lgl_0]; decide) (fun Γ C R => ?_)
  generalize hPP : (PI (fun v h' => ∃ e, nI e = v ∧ te (sg tp) s = e ∧ s < e ∧ e ≤ tp.length ∧ CK (ts ++ [tkn (sg tp) s e]) h' r ∧ Fm [128, 129, 130] [131] h h')) = PP
  have h6 := T.1.1
  have ht : h.fi 131 r = nI ts.length := K.1
  refine r_iload_n (q := 1) (z := 2) C 2 rfl (by decide +kernel) rfl rfl ?_
  refine r_istore_n (q := 2) (z := 3) C 3 rfl (by decide +kernel) rfl (by decide) (by first | rfl | exact okst_rv rfl) ?_
  dsimp only [List.set]
  have L2 : ∀ (fuel2 : Nat) (k2 : Nat), tp.length - k2 < fuel2 → (s ≤ k2) → (k2 ≤ tp.length) → (∀ j, s ≤ j → j < k2 → isL (sg tp j) = true) → wX G Γ (qM G Γ PP 0 0) 0 0 (h) 2 [some (rv r), some (rv a), some (.int (nI s)), some (.int (nI k2)), none] [] := by
    intro fuel2
    induction fuel2 with
    | zero =>
      intro k2 hm2
      exact absurd hm2 (Nat.not_lt_zero _)
    | succ fuel2 ih2 =>
      intro k2 hm2 hk1 hk2 hall
      refine r_iload_n (q := 3) (z := 3) C 3 rfl (by decide +kernel) rfl rfl ?_
      have J23 : (isL (sg tp k2) = false) → wX G Γ (qM G Γ PP 0 0) 0 0 (h) 23 [some (rv r), some (rv a), some (.int (nI s)), some (.int (nI k2)), none] [] := by
        intro  hend
        have hlt : s < k2 := by
          rcases Nat.lt_or_ge s k2 with q | q
          · exact q
          · rw [show k2 = s by omega, hl] at hend; cases hend
        have hte : te (sg tp) s = k2 := by unfold te; rw [if_pos hl]; exact rE_eq 601 s (by omega) hall hend (by omega)
        have htk : tkn (sg tp) s k2 = ((kw (wix (wl (sg tp) s k2))).1, (kw (wix (wl (sg tp) s k2))).2, s) := by unfold tkn; rw [if_pos hl]
        obtain ⟨fk1, fk2⟩ := fk_w (wl (sg tp) s k2)
        refine r_aload_n (q := 24) (z := 1) C 1 rfl (by decide +kernel) rfl rfl ?_
        refine r_iload_n (q := 25) (z := 2) C 2 rfl (by decide +kernel) rfl rfl ?_
        refine r_iload_n (q := 26) (z := 3) C 3 rfl (by decide +kernel) rfl rfl ?_
        refine cS3I (q := 29) C R rfl (by decide +kernel) lk_X2_70 (c_X2_factNamed hk5 hs T (by omega) (by omega)) (by decide) (by decide) (by decide) rfl (by first | exact Nat.le_of_ble_eq_true rfl | (simp only [List.map_cons, List.map_nil, List.sum_cons, List.sum_nil, rv_cat]; exact Nat.le_of_ble_eq_true rfl))  ?_
        rintro _ _ ⟨rfl, rfl⟩
        refine r_istore (q := 31) C 4 rfl (by decide +kernel) (by decide) (by first | rfl | exact okst_rv rfl) ?_
        dsimp only [List.set]
        refine r_iload (q := 33) C 4 rfl (by decide +kernel) rfl ?_
        refine r_iconst (q := 34) (z := (-1)) (v := (-1)) C rfl (by decide +kernel) (by decide) ?_
        refine r_icmp_ne (q := 37) (off := 18) (tgt := 52) C rfl (by decide +kernel) (by decide) (fun c34 => ?_) (fun c34 => ?_)
        · obtain ⟨g1, g2⟩ := fk2 c34
          rw [g2]
          have z : CK (ts ++ [tkn (sg tp) s k2]) _ r := CK.add (b := nI (kw (wix (wl (sg tp) s k2))).2) hR K (fun q => by rw [htk])
          rw [htk, g1] at z
          refine r_aload_n (q := 53) (z := 0) C 0 rfl (by decide +kernel) rfl rfl ?_
          refine r_iconst (q := 54) (z := 1) (v := 1) C rfl (by decide +kernel) (by decide) ?_
          refine r_iload (q := 56) C 4 rfl (by decide +kernel) rfl ?_
          refine r_iload_n (q := 57) (z := 2) C 2 rfl (by decide +kernel) rfl rfl ?_
          refine cV3V (q := 60) C R rfl (by decide +kernel) lk_X2_60 (c_X2_addToken hR hts ht) (by decide) (by decide) (by decide) rfl (by first | exact Nat.le_of_ble_eq_true rfl | (simp only [List.map_cons, List.map_nil, List.sum_cons, List.sum_nil, rv_cat]; exact Nat.le_of_ble_eq_true rfl)) rfl hR.1 ?_
          rintro _ rfl
          refine r_iload_n (q := 61) (z := 3) C 3 rfl (by decide +kernel) rfl rfl ?_
          exact r_iret C (by decide +kernel) rfl (by decide) (by decide) (eqP hPP ⟨_, rfl, ⟨k2, rfl, hte, hlt, hk2, by rw [htk]; (try rw [g1]); exact z, tkP_f hR⟩⟩)
        · obtain ⟨g1, g2⟩ := fk1 c34
          refine r_aload_n (q := 38) (z := 0) C 0 rfl (by decide +kernel) rfl rfl ?_
          refine r_aload_n (q := 39) (z := 1) C 1 rfl (by decide +kernel) rfl rfl ?_
          refine r_iload_n (q := 40) (z := 2) C 2 rfl (by decide +kernel) rfl rfl ?_
          refine r_iload_n (q := 41) (z := 3) C 3 rfl (by decide +kernel) rfl rfl ?_
          refine cS3I (q := 44) C R rfl (by decide +kernel) lk_X2_74 (c_X2_kindOfWord hk5 hs T (by omega) (by omega)) (by decide) (by decide) (by decide) rfl (by first | exact Nat.le_of_ble_eq_true rfl | (simp only [List.map_cons, List.map_nil, List.sum_cons, List.sum_nil, rv_cat]; exact Nat.le_of_ble_eq_true rfl))  ?_
          rintro _ _ ⟨rfl, rfl⟩
          rw [g1]
          have z : CK (ts ++ [tkn (sg tp) s k2]) _ r := CK.add (b := 0) hR K (fun q => absurd (by rw [htk] at q; exact q) g2)
          rw [htk] at z
          refine r_iconst (q := 45) (z := 0) (v := 0) C rfl (by decide +kernel) (by decide) ?_
          refine r_iload_n (q := 46) (z := 2) C 2 rfl (by decide +kernel) rfl rfl ?_
          refine cV3V (q := 49) C R rfl (by decide +kernel) lk_X2_60 (c_X2_addToken hR hts ht) (by decide) (by decide) (by decide) rfl (by first | exact Nat.le_of_ble_eq_true rfl | (simp only [List.map_cons, List.map_nil, List.sum_cons, List.sum_nil, rv_cat]; exact Nat.le_of_ble_eq_true rfl)) rfl hR.1 ?_
          rintro _ rfl
          refine r_goto (off := 11) (tgt := 60) C (by decide +kernel) (by decide) ?_
          refine r_iload_n (q := 61) (z := 3) C 3 rfl (by decide +kernel) rfl rfl ?_
          exact r_iret C (by decide +kernel) rfl (by decide) (by decide) (eqP hPP ⟨_, rfl, ⟨k2, rfl, hte, hlt, hk2, by rw [htk]; (try rw [g1]); exact z, tkP_f hR⟩⟩)
      refine r_sipush (q := 6) (z := 600) (v := 600) C rfl (by decide +kernel) (by decide) ?_
      refine r_icmp_ge (q := 9) (off := 17) (tgt := 23) C rfl (by decide +kernel) (by decide) (fun c6 => ?_) (fun c6 => ?_)
      · have e6 := (nI_leI (a := 600) (by omega) (by omega)).mp c6
        exact wX.sub (lsub_s (lsub_s (lsub_s (lsub_s (lsub_n (lsub_nil)))))) (J23 (by rw [sg_out (by omega)]; rfl))
      · refine r_aload_n (q := 10) (z := 1) C 1 rfl (by decide +kernel) rfl rfl ?_
        refine r_iload_n (q := 11) (z := 3) C 3 rfl (by decide +kernel) rfl rfl ?_
        refine cV1I (q := 14) C R rfl (by decide +kernel) lk_X2_36 (c_X5_isLetter hk5 hs T (by omega)) (by decide) (by decide) (by decide) rfl (by first | exact Nat.le_of_ble_eq_true rfl | (simp only [List.map_cons, List.map_nil, List.sum_cons, List.sum_nil, rv_cat]; exact Nat.le_of_ble_eq_true rfl)) rfl hk5 ?_
        rintro _ _ ⟨rfl, rfl⟩
        refine r_if_eq (q := 17) (off := 9) (tgt := 23) C rfl (by decide +kernel) (by decide) (fun c14 => ?_) (fun c14 => ?_)
        · exact wX.sub (lsub_s (lsub_s (lsub_s (lsub_s (lsub_n (lsub_nil)))))) (J23 ((b2i_0 _).mp c14))
        · have c14 := (b2i_n0 _).mp c14
          have hlt : k2 + 1 ≤ tp.length := by
            rcases Nat.lt_or_ge k2 tp.length with q | q
            · exact q
            · rw [sg_out q] at c14; cases c14
          have hall2 : ∀ j, s ≤ j → j < k2 + 1 → isL (sg tp j) = true := fun j h1 h2 => by
            by_cases q : j = k2
            · rw [q]; exact c14
            · exact hall j h1 (by omega)
          refine r_iinc (q := 20) (z := 1) (v := 1) C 3 rfl (by decide +kernel) rfl (by decide) (by decide) (by first | rfl | exact okst_rv rfl) ?_
          dsimp only [List.set]
          rw [nI_1]
          refine r_goto (off := -18) (tgt := 2) C (by decide +kernel) (by decide) ?_
          exact wX.sub (lsub_s (lsub_s (lsub_s (lsub_s (lsub_n (lsub_nil)))))) (ih2 (k2 + 1) (by omega) (by omega) hlt hall2)
  exact wX.sub (lsub_s (lsub_s (lsub_s (lsub_s (lsub_n (lsub_nil)))))) (L2 (tp.length + 1) s (by omega) (Nat.le_refl _) (by omega) (fun j h1 h2 => absurd h1 (by omega)))
