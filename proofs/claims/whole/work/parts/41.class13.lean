/-! the class cuts its tape -/
theorem CK.fin {tp : List Nat} {ts : TkL} {h : HP} {r : Nat} (W : TpW tp) (H : RDl h r) (M : CK ts h r) (hx : lex (sg tp) tp.length (tp.length + 1) 0 = ts) : CKT (lexT tp) (tkP h r ts.length 13 0 (nI tp.length)) r := by
  refine ⟨lex_TW W, ?_⟩
  have z := CK.add (t := (13, 0, tp.length)) (b := 0) H M (fun q => absurd q (show ¬ (13 : Nat) < 2 by decide))
  have e : Prod.snd (lexT tp) = ts := hx
  rw [e]
  exact z

theorem c_X2_scan {G : GT} {h : HP} {r a : Nat} {tp : List Nat} (hR : RDl h r) (hk5 : h.kd a = (0, 5)) (hs : h.kd (h.fr 320 a) = (8, 600)) (hg : h.gl (h.fr 320 a) = 320) (T : TpC tp h a) : Con G 8 0 0 yX2_scan cX2_scan 4 none [rv r, rv a] h (PV (fun h' => CKT (lexT tp) h' r ∧ Fm [128, 129, 130] [131] h h')) := by
  refine Con.of (lv := [some (rv r), some (rv a), none, none]) (by decide) (by simp only [lvE_r, lvE_i, lvE_l, lvE_s, lvE_0]; rfl) (by simp only [lgl_r, lgl_i, lgl_l, lgl_s, lgl_0]; decide) (fun Γ C R => ?_)
  generalize hPP : (PV (fun h' => CKT (lexT tp) h' r ∧ Fm [128, 129, 130] [131] h h')) = PP
  have h6 := T.1.1
  refine r_aload_n (q := 1) (z := 0) C 0 rfl (by decide +kernel) rfl rfl ?_
  refine r_iconst (q := 2) (z := 0) (v := 0) C rfl (by decide +kernel) (by decide) ?_
  refine r_putI (q := 5) C 2 3 131 rfl (by decide +kernel) rfl (by decide) rfl rfl wf_X2_21 win2 tyX2 tyX2_ok nmX2 rfl (tyX2_ok 3 (by decide)) rfl wnd2 rfl rfl hR.1 ?_
  refine r_iconst (q := 6) (z := 0) (v := 0) C rfl (by decide +kernel) (by decide) ?_
  refine r_istore_n (q := 7) (z := 2) C 2 rfl (by decide +kernel) rfl (by decide) (by first | rfl | exact okst_rv rfl) ?_
  dsimp only [List.set]
  have L7 : ∀ (fuel7 : Nat) (h2 : HP) (ts : TkL) (k f : Nat), tp.length - k < fuel7 → (Fm [128, 129, 130] [131] h h2) → (CK ts h2 r) → (k ≤ tp.length) → (lex (sg tp) tp.length (tp.length + 1) 0 = ts ++ lex (sg tp) tp.length f k) → (tp.length - k ≤ f) → (ts.length ≤ k) → wX G Γ (qM G Γ PP 0 0) 0 0 (h2) 7 [some (rv r), some (rv a), some (.int (nI k)), none] [] := by
    intro fuel7
    induction fuel7 with
    | zero =>
      intro h2 ts k f hm7
      exact absurd hm7 (Nat.not_lt_zero _)
    | succ fuel7 ih7 =>
      intro h2 ts k f hm7 F2 K2 hk hx hf htl
      have hR0 := hR
      have hR : RDl h2 r := hR0.fm F2
      have hk50 := hk5
      have hk5 : h2.kd a = (0, 5) := by rw [F2.1]; exact hk50
      have hs0 := hs
      have hs : h2.kd (h2.fr 320 a) = (8, 600) := by rw [F2.1, F2.2.1]; exact hs0
      have T0 := T
      have T : TpC tp h2 a := ⟨T0.1, (F2.2.2.2.2.1 _ _ (by decide)).trans T0.2.1, by rw [F2.2.1, (F2.2.2.2.2.2 _ (by rw [hg]; decide)).1]; exact T0.2.2⟩
      have ht9 : h2.fi 131 r = nI ts.length := K2.1
      refine r_iload_n (q := 8) (z := 2) C 2 rfl (by decide +kernel) rfl rfl ?_
      refine r_aload_n (q := 9) (z := 1) C 1 rfl (by decide +kernel) rfl rfl ?_
      refine r_getI (q := 12) C 5 1 321 rfl (by decide +kernel) rfl (by decide) rfl rfl wf_X2_31 win5 hk5 ?_
      rw [T.2.1]
      refine r_icmp_ge (q := 15) (off := 76) (tgt := 88) C rfl (by decide +kernel) (by decide) (fun c12 => ?_) (fun c12 => ?_)
      · have ek : k = tp.length := by have := (nI_leI (by omega) (by omega)).mp c12; omega
        have hx0 : lex (sg tp) tp.length (tp.length + 1) 0 = ts := by rw [hx, lex_end (by omega), List.append_nil]
        refine r_aload_n (q := 89) (z := 0) C 0 rfl (by decide +kernel) rfl rfl ?_
        refine r_bipush (q := 91) (z := 13) (v := 13) C rfl (by decide +kernel) (by decide) ?_
        refine r_iconst (q := 92) (z := 0) (v := 0) C rfl (by decide +kernel) (by decide) ?_
        refine r_aload_n (q := 93) (z := 1) C 1 rfl (by decide +kernel) rfl rfl ?_
        refine r_getI (q := 96) C 5 1 321 rfl (by decide +kernel) rfl (by decide) rfl rfl wf_X2_31 win5 hk5 ?_
        rw [T.2.1]
        refine cV3V (q := 99) C R rfl (by decide +kernel) lk_X2_60 (c_X2_addToken hR (by omega) ht9) (by decide) (by decide) (by decide) rfl (by first | exact Nat.le_of_ble_eq_true rfl | (simp only [List.map_cons, List.map_nil, List.sum_cons, List.sum_nil, rv_cat]; exact Nat.le_of_ble_eq_true rfl)) rfl hR.1 ?_
        rintro _ rfl
        exact r_ret C (by decide +kernel) rfl (by decide) (by decide) (eqP hPP ⟨rfl, ⟨CK.fin T.1 hR K2 hx0, F2.tr (tkP_f hR)⟩⟩)
      · have hlt : k < tp.length := Nat.lt_of_not_le (fun e => c12 (nI_le e (by omega)))
        obtain ⟨f, rfl⟩ : ∃ f2, f = f2 + 1 := ⟨f - 1, by omega⟩
        refine r_iload_n (q := 16) (z := 2) C 2 rfl (by decide +kernel) rfl rfl ?_
        refine r_iconst (q := 17) (z := 1) (v := 1) C rfl (by decide +kernel) (by decide) ?_
        refine r_iadd (q := 18) C rfl (by decide +kernel) ?_
        rw [nI_1]
        refine r_istore_n (q := 19) (z := 3) C 3 rfl (by decide +kernel) rfl (by decide) (by first | rfl | exact okst_rv rfl) ?_
        dsimp only [List.set]
        have J77 : ∀ (h3 : HP) (ts3 : TkL) (e : Nat), (Fm [128, 129, 130] [131] h h3) → (CK ts3 h3 r) → (lex (sg tp) tp.length (tp.length + 1) 0 = ts3 ++ lex (sg tp) tp.length f e) → (k < e ∧ e ≤ tp.length) → (ts3.length ≤ e) → wX G Γ (qM G Γ PP 0 0) 0 0 (h3) 77 [some (rv r), some (rv a), some (.int (nI k)), some (.int (nI e))] [] := by
          intro h3 ts3 e F3 K3 hx3 ke tl3
          refine r_iload_n (q := 78) (z := 3) C 3 rfl (by decide +kernel) rfl rfl ?_
          refine r_iload_n (q := 79) (z := 2) C 2 rfl (by decide +kernel) rfl rfl ?_
          refine r_iconst (q := 80) (z := 1) (v := 1) C rfl (by decide +kernel) (by decide) ?_
          refine r_iadd (q := 81) C rfl (by decide +kernel) ?_
          rw [nI_1]
          refine r_mmax (q := 84) (i := 64) C R rfl (by decide +kernel) (by decide +kernel) (by decide) (by decide) (by decide) (by first | exact Nat.le_of_ble_eq_true rfl | (simp only [List.map_cons, List.map_nil, List.sum_cons, List.sum_nil, rv_cat]; exact Nat.le_of_ble_eq_true rfl)) ?_
          rw [if_neg (by rw [nI_ltI (by omega) (by omega)]; omega)]
          refine r_istore_n (q := 85) (z := 2) C 2 rfl (by decide +kernel) rfl (by decide) (by first | rfl | exact okst_rv rfl) ?_
          dsimp only [List.set]
          refine r_goto (off := -78) (tgt := 7) C (by decide +kernel) (by decide) ?_
          exact wX.sub (lsub_s (lsub_s (lsub_s (lsub_n (lsub_nil))))) (ih7 h3 ts3 e f (by omega) F3 K3 ke.2 hx3 (by omega) tl3)
        refine r_aload_n (q := 20) (z := 1) C 1 rfl (by decide +kernel) rfl rfl ?_
        refine r_iload_n (q := 21) (z := 2) C 2 rfl (by decide +kernel) rfl rfl ?_
        refine cV1I (q := 24) C R rfl (by decide +kernel) lk_X2_36 (c_X5_isLetter hk5 hs T (by omega)) (by decide) (by decide) (by decide) rfl (by first | exact Nat.le_of_ble_eq_true rfl | (simp only [List.map_cons, List.map_nil, List.sum_cons, List.sum_nil, rv_cat]; exact Nat.le_of_ble_eq_true rfl)) rfl hk5 ?_
        rintro _ _ ⟨rfl, rfl⟩
        refine r_if_eq (q := 27) (off := 13) (tgt := 37) C rfl (by decide +kernel) (by decide) (fun c24 => ?_) (fun c24 => ?_)
        · have cl0 := (b2i_0 _).mp c24
          refine r_aload_n (q := 38) (z := 1) C 1 rfl (by decide +kernel) rfl rfl ?_
          refine r_iload_n (q := 39) (z := 2) C 2 rfl (by decide +kernel) rfl rfl ?_
          refine cV1I (q := 42) C R rfl (by decide +kernel) lk_X2_44 (c_X5_isDigit hk5 hs T (by omega)) (by decide) (by decide) (by decide) rfl (by first | exact Nat.le_of_ble_eq_true rfl | (simp only [List.map_cons, List.map_nil, List.sum_cons, List.sum_nil, rv_cat]; exact Nat.le_of_ble_eq_true rfl)) rfl hk5 ?_
          rintro _ _ ⟨rfl, rfl⟩
          refine r_if_eq (q := 45) (off := 13) (tgt := 55) C rfl (by decide +kernel) (by decide) (fun c42 => ?_) (fun c42 => ?_)
          · have cd0 := (b2i_0 _).mp c42
            refine r_aload_n (q := 56) (z := 1) C 1 rfl (by decide +kernel) rfl rfl ?_
            refine r_iload_n (q := 57) (z := 2) C 2 rfl (by decide +kernel) rfl rfl ?_
            refine cV1I (q := 60) C R rfl (by decide +kernel) lk_X2_50 (c_X5_isBlank hk5 hs T (by omega)) (by decide) (by decide) (by decide) rfl (by first | exact Nat.le_of_ble_eq_true rfl | (simp only [List.map_cons, List.map_nil, List.sum_cons, List.sum_nil, rv_cat]; exact Nat.le_of_ble_eq_true rfl)) rfl hk5 ?_
            rintro _ _ ⟨rfl, rfl⟩
            refine r_if_ne (q := 63) (off := 17) (tgt := 77) C rfl (by decide +kernel) (by decide) (fun c60 => ?_) (fun c60 => ?_)
            · exact J77 h2 ts (k + 1) F2 K2 (lex_bl hlt (of_decide_eq_true ((b2i_n0 _).mp c60)) hx) ⟨by omega, by omega⟩ (by omega)
            · have hbl := of_decide_eq_false ((b2i_0 _).mp c60)
              have hx3 := lex_tk hlt hbl hx
              have te9 : te (sg tp) k = k + 1 := by unfold te; rw [if_neg (by rw [cl0]; decide), if_neg (by rw [cd0]; decide)]
              have tk9 : tkn (sg tp) k (k + 1) = (sgk (sg tp k), 0, k) := by unfold tkn; rw [cl0, cd0]; rfl
              have z74 := CK.add (t := tkn (sg tp) k (k + 1)) (b := 0) hR K2 (fun q => by rw [tk9] at q ⊢; rfl)
              have e74 : nI (tkn (sg tp) k (k + 1)).1 = nI (sgk (sg tp k)) ∧ (tkn (sg tp) k (k + 1)).2.2 = k := by rw [tk9]; exact ⟨rfl, rfl⟩
              rw [e74.1, e74.2] at z74
              refine r_aload_n (q := 64) (z := 0) C 0 rfl (by decide +kernel) rfl rfl ?_
              refine r_aload_n (q := 65) (z := 1) C 1 rfl (by decide +kernel) rfl rfl ?_
              refine r_iload_n (q := 66) (z := 2) C 2 rfl (by decide +kernel) rfl rfl ?_
              refine cV1I (q := 69) C R rfl (by decide +kernel) lk_X2_53 (c_X5_signAt hk5 hs T (by omega)) (by decide) (by decide) (by decide) rfl (by first | exact Nat.le_of_ble_eq_true rfl | (simp only [List.map_cons, List.map_nil, List.sum_cons, List.sum_nil, rv_cat]; exact Nat.le_of_ble_eq_true rfl)) rfl hk5 ?_
              rintro _ _ ⟨rfl, rfl⟩
              refine cS1I (q := 72) C R rfl (by decide +kernel) lk_X2_57 (c_X2_kindOfSign (sg_lt T.1 k)) (by decide) (by decide) (by decide) rfl (by first | exact Nat.le_of_ble_eq_true rfl | (simp only [List.map_cons, List.map_nil, List.sum_cons, List.sum_nil, rv_cat]; exact Nat.le_of_ble_eq_true rfl))  ?_
              rintro _ _ ⟨rfl, rfl⟩
              refine r_iconst (q := 73) (z := 0) (v := 0) C rfl (by decide +kernel) (by decide) ?_
              refine r_iload_n (q := 74) (z := 2) C 2 rfl (by decide +kernel) rfl rfl ?_
              refine cV3V (q := 77) C R rfl (by decide +kernel) lk_X2_60 (c_X2_addToken hR (by omega) ht9) (by decide) (by decide) (by decide) rfl (by first | exact Nat.le_of_ble_eq_true rfl | (simp only [List.map_cons, List.map_nil, List.sum_cons, List.sum_nil, rv_cat]; exact Nat.le_of_ble_eq_true rfl)) rfl hR.1 ?_
              rintro _ rfl
              exact J77 _ (ts ++ [tkn (sg tp) k (k + 1)]) (k + 1) (F2.tr (tkP_f hR)) z74 (by rw [te9] at hx3; exact hx3) ⟨by omega, by omega⟩ (by simp; omega)
          · have cd := (b2i_n0 _).mp c42
            have hbl : ¬ (sg tp k = 10 ∨ sg tp k = 32) := fun q => by
              rcases q with q | q <;> rw [q] at cd <;> cases cd
            have hx3 := lex_tk hlt hbl hx
            refine r_aload_n (q := 46) (z := 0) C 0 rfl (by decide +kernel) rfl rfl ?_
            refine r_aload_n (q := 47) (z := 1) C 1 rfl (by decide +kernel) rfl rfl ?_
            refine r_iload_n (q := 48) (z := 2) C 2 rfl (by decide +kernel) rfl rfl ?_
            refine cV2I (q := 51) C R rfl (by decide +kernel) lk_X2_47 (c_X2_scanNumber hR hk5 hs T K2 (by omega) hlt cl0 cd) (by decide) (by decide) (by decide) rfl (by first | exact Nat.le_of_ble_eq_true rfl | (simp only [List.map_cons, List.map_nil, List.sum_cons, List.sum_nil, rv_cat]; exact Nat.le_of_ble_eq_true rfl)) rfl hR.1 ?_
            rintro _ h48 ⟨e48, rfl, te48, se48, el48, K48, F48⟩
            refine r_istore_n (q := 52) (z := 3) C 3 rfl (by decide +kernel) rfl (by decide) (by first | rfl | exact okst_rv rfl) ?_
            dsimp only [List.set]
            refine r_goto (off := 25) (tgt := 77) C (by decide +kernel) (by decide) ?_
            exact J77 h48 (ts ++ [tkn (sg tp) k e48]) e48 (F2.tr F48) K48 (by rw [te48] at hx3; exact hx3) ⟨se48, el48⟩ (by simp; omega)
        · have cl := (b2i_n0 _).mp c24
          have hbl : ¬ (sg tp k = 10 ∨ sg tp k = 32) := fun q => by
            rcases q with q | q <;> rw [q] at cl <;> cases cl
          have hx3 := lex_tk hlt hbl hx
          refine r_aload_n (q := 28) (z := 0) C 0 rfl (by decide +kernel) rfl rfl ?_
          refine r_aload_n (q := 29) (z := 1) C 1 rfl (by decide +kernel) rfl rfl ?_
          refine r_iload_n (q := 30) (z := 2) C 2 rfl (by decide +kernel) rfl rfl ?_
          refine cV2I (q := 33) C R rfl (by decide +kernel) lk_X2_40 (c_X2_scanWord hR hk5 hs T K2 (by omega) hlt cl) (by decide) (by decide) (by decide) rfl (by first | exact Nat.le_of_ble_eq_true rfl | (simp only [List.map_cons, List.map_nil, List.sum_cons, List.sum_nil, rv_cat]; exact Nat.le_of_ble_eq_true rfl)) rfl hR.1 ?_
          rintro _ h30 ⟨e30, rfl, te30, se30, el30, K30, F30⟩
          refine r_istore_n (q := 34) (z := 3) C 3 rfl (by decide +kernel) rfl (by decide) (by first | rfl | exact okst_rv rfl) ?_
          dsimp only [List.set]
          refine r_goto (off := 43) (tgt := 77) C (by decide +kernel) (by decide) ?_
          exact J77 h30 (ts ++ [tkn (sg tp) k e30]) e30 (F2.tr F30) K30 (by rw [te30] at hx3; exact hx3) ⟨se30, el30⟩ (by simp; omega)
  exact wX.sub (lsub_s (lsub_s (lsub_s (lsub_n (lsub_nil))))) (L7 (tp.length + 1) (h.setI 131 r 0) [] 0 (tp.length + 1) (by omega) (Fm.rf.setI (by decide)) ⟨fi_eq, fun i t ht => by simp at ht⟩ (by omega) rfl (by omega) (by decide))
