theorem nm4 {f : Nat → Nat} {s k : Nat} (h : 4 ≤ k - s) : nI (num f s (if 4 < k - s then 4 else k - s)) = nI (num f s (if 4 < k + 1 - s then 4 else k + 1 - s)) := by
  rw [if_pos (show 4 < k + 1 - s by omega)]
  by_cases q : 4 < k - s
  · rw [if_pos q]
  · rw [if_neg q, show k - s = 4 by omega]
theorem nm3 {f : Nat → Nat} {s k : Nat} (h : k - s < 4) (hs : s ≤ k) (hd : 48 ≤ f k) : nI (10 * num f s (if 4 < k - s then 4 else k - s) + f k - 48) = nI (num f s (if 4 < k + 1 - s then 4 else k + 1 - s)) := by
  rw [if_neg (show ¬ 4 < k + 1 - s by omega), if_neg (show ¬ 4 < k - s by omega), show k + 1 - s = (k - s) + 1 by omega]
  show _ = nI (10 * num f s (k - s) + (f (s + (k - s)) - 48))
  rw [show s + (k - s) = k by omega]
  exact congrArg nI (by omega)

theorem c_X2_scanNumber {G : GT} {h : HP} {r a s : Nat} {tp : List Nat} {ts : TkL} (hR : RDl h r) (hk5 : h.kd a = (0, 5)) (hs : h.kd (h.fr 320 a) = (8, 600)) (T : TpC tp h a) (K : CK ts h r) (hts : ts.length ≤ 600) (hs1 : s < tp.length) (hl0 : isL (sg tp s) = false) (hl : isD (sg tp s) = true) : Con G 7 0 0 yX2_scanNumber cX2_scanNumber 5 (some .int) [rv r, rv a, .int (nI s)] h (PI (fun v h' => ∃ e, nI e = v ∧ te (sg tp) s = e ∧ s < e ∧ e ≤ tp.length ∧ CK (ts ++ [tkn (sg tp) s e]) h' r ∧ Fm [128, 129, 130] [131] h h')) := by
  refine Con.of (lv := [some (rv r), some (rv a), some (.int (nI s)), none, none]) (by decide) (by simp only [lvE_r, lvE_i, lvE_l, lvE_s, lvE_0]; rfl) (by simp only [lgl_r, lgl_i, lgl_l, lgl_s, lgl_0]; decide) (fun Γ C R => ?_)
  generalize hPP : (PI (fun v h' => ∃ e, nI e = v ∧ te (sg tp) s = e ∧ s < e ∧ e ≤ tp.length ∧ CK (ts ++ [tkn (sg tp) s e]) h' r ∧ Fm [128, 129, 130] [131] h h')) = PP
  have h6 := T.1.1
  have ht : h.fi 131 r = nI ts.length := K.1
  refine r_iload_n (q := 1) (z := 2) C 2 rfl (by decide +kernel) rfl rfl ?_
  refine r_istore_n (q := 2) (z := 3) C 3 rfl (by decide +kernel) rfl (by decide) (by first | rfl | exact okst_rv rfl) ?_
  dsimp only [List.set]
  refine r_iconst (q := 3) (z := 0) (v := 0) C rfl (by decide +kernel) (by decide) ?_
  refine r_istore (q := 5) C 4 rfl (by decide +kernel) (by decide) (by first | rfl | exact okst_rv rfl) ?_
  dsimp only [List.set]
  have L5 : ∀ (fuel5 : Nat) (k2 : Nat), tp.length - k2 < fuel5 → (s ≤ k2) → (k2 ≤ tp.length) → (∀ j, s ≤ j → j < k2 → isD (sg tp j) = true) → wX G Γ (qM G Γ PP 0 0) 0 0 (h) 5 [some (rv r), some (rv a), some (.int (nI s)), some (.int (nI k2)), some (.int (nI (num (sg tp) s (if 4 < k2 - s then 4 else k2 - s))))] [] := by
    intro fuel5
    induction fuel5 with
    | zero =>
      intro k2 hm5
      exact absurd hm5 (Nat.not_lt_zero _)
    | succ fuel5 ih5 =>
      intro k2 hm5 hk1 hk2 hall
      refine r_iload_n (q := 6) (z := 3) C 3 rfl (by decide +kernel) rfl rfl ?_
      have J49 : (isD (sg tp k2) = false) → wX G Γ (qM G Γ PP 0 0) 0 0 (h) 49 [some (rv r), some (rv a), some (.int (nI s)), some (.int (nI k2)), some (.int (nI (num (sg tp) s (if 4 < k2 - s then 4 else k2 - s))))] [] := by
        intro  hend
        have hlt : s < k2 := by
          rcases Nat.lt_or_ge s k2 with q | q
          · exact q
          · rw [show k2 = s by omega, hl] at hend; cases hend
        have hte : te (sg tp) s = k2 := by unfold te; rw [if_neg (by rw [hl0]; decide), if_pos hl]; exact rE_eq 601 s (by omega) hall hend (by omega)
        have htk : tkn (sg tp) s k2 = (if 4 < k2 - s then (14, 0, s) else (0, num (sg tp) s (k2 - s), s)) := by unfold tkn; rw [if_neg (by rw [hl0]; decide), if_pos hl]
        refine r_aload_n (q := 50) (z := 0) C 0 rfl (by decide +kernel) rfl rfl ?_
        refine r_iload_n (q := 51) (z := 3) C 3 rfl (by decide +kernel) rfl rfl ?_
        refine r_iload_n (q := 52) (z := 2) C 2 rfl (by decide +kernel) rfl rfl ?_
        refine r_isub (q := 53) C rfl (by decide +kernel) ?_
        rw [pk_sub hk1]
        refine r_iconst (q := 54) (z := 4) (v := 4) C rfl (by decide +kernel) (by decide) ?_
        refine r_icmp_le (q := 57) (off := 8) (tgt := 62) C rfl (by decide +kernel) (by decide) (fun c54 => ?_) (fun c54 => ?_)
        · have e54 := (nI_leI (b := 4) (by omega) (by omega)).mp c54
          have z : CK (ts ++ [tkn (sg tp) s k2]) (tkP h r ts.length 0 (nI (num (sg tp) s (if 4 < k2 - s then 4 else k2 - s))) (nI s)) r := by
            have z := CK.add (t := tkn (sg tp) s k2) (b := nI (num (sg tp) s (if 4 < k2 - s then 4 else k2 - s))) hR K (fun _ => by rw [htk, if_neg (by omega), if_neg (by omega)])
            have e2 : (nI (tkn (sg tp) s k2).1 = 0) ∧ (tkn (sg tp) s k2).2.2 = s := by rw [htk, if_neg (by omega)]; exact ⟨rfl, rfl⟩
            rw [e2.1, e2.2] at z; exact z
          refine r_iconst (q := 63) (z := 0) (v := 0) C rfl (by decide +kernel) (by decide) ?_
          refine r_iload (q := 65) C 4 rfl (by decide +kernel) rfl ?_
          refine r_iload_n (q := 66) (z := 2) C 2 rfl (by decide +kernel) rfl rfl ?_
          refine cV3V (q := 69) C R rfl (by decide +kernel) lk_X2_60 (c_X2_addToken hR hts ht) (by decide) (by decide) (by decide) rfl (by first | exact Nat.le_of_ble_eq_true rfl | (simp only [List.map_cons, List.map_nil, List.sum_cons, List.sum_nil, rv_cat]; exact Nat.le_of_ble_eq_true rfl)) rfl hR.1 ?_
          rintro _ rfl
          refine r_iload_n (q := 70) (z := 3) C 3 rfl (by decide +kernel) rfl rfl ?_
          exact r_iret C (by decide +kernel) rfl (by decide) (by decide) (eqP hPP ⟨_, rfl, ⟨k2, rfl, hte, hlt, hk2, z, tkP_f hR⟩⟩)
        · have e54 : 4 < k2 - s := Nat.lt_of_not_le (fun q => c54 (nI_le (b := 4) q (by omega)))
          have z : CK (ts ++ [tkn (sg tp) s k2]) (tkP h r ts.length 14 (nI (num (sg tp) s (if 4 < k2 - s then 4 else k2 - s))) (nI s)) r := by
            have e2 : (tkn (sg tp) s k2).1 = 14 ∧ (tkn (sg tp) s k2).2.2 = s := by rw [htk, if_pos e54]; exact ⟨rfl, rfl⟩
            have z := CK.add (t := tkn (sg tp) s k2) (b := nI (num (sg tp) s (if 4 < k2 - s then 4 else k2 - s))) hR K (fun q => absurd q (by rw [e2.1]; decide))
            rw [e2.1, e2.2] at z; exact z
          refine r_bipush (q := 59) (z := 14) (v := 14) C rfl (by decide +kernel) (by decide) ?_
          refine r_goto (off := 4) (tgt := 63) C (by decide +kernel) (by decide) ?_
          refine r_iload (q := 65) C 4 rfl (by decide +kernel) rfl ?_
          refine r_iload_n (q := 66) (z := 2) C 2 rfl (by decide +kernel) rfl rfl ?_
          refine cV3V (q := 69) C R rfl (by decide +kernel) lk_X2_60 (c_X2_addToken hR hts ht) (by decide) (by decide) (by decide) rfl (by first | exact Nat.le_of_ble_eq_true rfl | (simp only [List.map_cons, List.map_nil, List.sum_cons, List.sum_nil, rv_cat]; exact Nat.le_of_ble_eq_true rfl)) rfl hR.1 ?_
          rintro _ rfl
          refine r_iload_n (q := 70) (z := 3) C 3 rfl (by decide +kernel) rfl rfl ?_
          exact r_iret C (by decide +kernel) rfl (by decide) (by decide) (eqP hPP ⟨_, rfl, ⟨k2, rfl, hte, hlt, hk2, z, tkP_f hR⟩⟩)
      refine r_sipush (q := 9) (z := 600) (v := 600) C rfl (by decide +kernel) (by decide) ?_
      refine r_icmp_ge (q := 12) (off := 40) (tgt := 49) C rfl (by decide +kernel) (by decide) (fun c9 => ?_) (fun c9 => ?_)
      · have e9 := (nI_leI (a := 600) (by omega) (by omega)).mp c9
        exact J49 (by rw [sg_out (by omega)]; rfl)
      · refine r_aload_n (q := 13) (z := 1) C 1 rfl (by decide +kernel) rfl rfl ?_
        refine r_iload_n (q := 14) (z := 3) C 3 rfl (by decide +kernel) rfl rfl ?_
        refine cV1I (q := 17) C R rfl (by decide +kernel) lk_X2_44 (c_X5_isDigit hk5 hs T (by omega)) (by decide) (by decide) (by decide) rfl (by first | exact Nat.le_of_ble_eq_true rfl | (simp only [List.map_cons, List.map_nil, List.sum_cons, List.sum_nil, rv_cat]; exact Nat.le_of_ble_eq_true rfl)) rfl hk5 ?_
        rintro _ _ ⟨rfl, rfl⟩
        refine r_if_eq (q := 20) (off := 32) (tgt := 49) C rfl (by decide +kernel) (by decide) (fun c17 => ?_) (fun c17 => ?_)
        · exact J49 ((b2i_0 _).mp c17)
        · have c17 := (b2i_n0 _).mp c17
          have hlt : k2 + 1 ≤ tp.length := by
            rcases Nat.lt_or_ge k2 tp.length with q | q
            · exact q
            · rw [sg_out q] at c17; cases c17
          have hall2 : ∀ j, s ≤ j → j < k2 + 1 → isD (sg tp j) = true := fun j h1 h2 => by
            by_cases q : j = k2
            · rw [q]; exact c17
            · exact hall j h1 (by omega)
          have hd9 : 48 ≤ sg tp k2 := (of_decide_eq_true c17).1
          have J43 : ∀ (v : Int32), (v = nI (num (sg tp) s (if 4 < k2 + 1 - s then 4 else k2 + 1 - s))) → wX G Γ (qM G Γ PP 0 0) 0 0 (h) 43 [some (rv r), some (rv a), some (.int (nI s)), some (.int (nI k2)), some (.int v)] [] := by
            intro v ev2
            subst ev2
            refine r_iinc (q := 46) (z := 1) (v := 1) C 3 rfl (by decide +kernel) rfl (by decide) (by decide) (by first | rfl | exact okst_rv rfl) ?_
            dsimp only [List.set]
            rw [nI_1]
            refine r_goto (off := -41) (tgt := 5) C (by decide +kernel) (by decide) ?_
            exact ih5 (k2 + 1) (by omega) (by omega) hlt hall2
          refine r_iload_n (q := 21) (z := 3) C 3 rfl (by decide +kernel) rfl rfl ?_
          refine r_iload_n (q := 22) (z := 2) C 2 rfl (by decide +kernel) rfl rfl ?_
          refine r_isub (q := 23) C rfl (by decide +kernel) ?_
          rw [pk_sub hk1]
          refine r_iconst (q := 24) (z := 4) (v := 4) C rfl (by decide +kernel) (by decide) ?_
          refine r_icmp_ge (q := 27) (off := 19) (tgt := 43) C rfl (by decide +kernel) (by decide) (fun c24 => ?_) (fun c24 => ?_)
          · have e24 := (nI_leI (a := 4) (by omega) (by omega)).mp c24
            exact J43 _ (nm4 e24)
          · have e24 : k2 - s < 4 := Nat.lt_of_not_le (fun q => c24 (nI_le (a := 4) q (by omega)))
            refine r_bipush (q := 29) (z := 10) (v := 10) C rfl (by decide +kernel) (by decide) ?_
            refine r_iload (q := 31) C 4 rfl (by decide +kernel) rfl ?_
            refine r_imul (q := 32) C rfl (by decide +kernel) ?_
            rw [show (10 : Int32) = nI 10 from rfl, pk_mul]
            refine r_aload_n (q := 33) (z := 1) C 1 rfl (by decide +kernel) rfl rfl ?_
            refine r_iload_n (q := 34) (z := 3) C 3 rfl (by decide +kernel) rfl rfl ?_
            refine cV1I (q := 37) C R rfl (by decide +kernel) lk_X2_53 (c_X5_signAt hk5 hs T (by omega)) (by decide) (by decide) (by decide) rfl (by first | exact Nat.le_of_ble_eq_true rfl | (simp only [List.map_cons, List.map_nil, List.sum_cons, List.sum_nil, rv_cat]; exact Nat.le_of_ble_eq_true rfl)) rfl hk5 ?_
            rintro _ _ ⟨rfl, rfl⟩
            refine r_iadd (q := 38) C rfl (by decide +kernel) ?_
            rw [nI_add]
            refine r_bipush (q := 40) (z := 48) (v := 48) C rfl (by decide +kernel) (by decide) ?_
            refine r_isub (q := 41) C rfl (by decide +kernel) ?_
            rw [show (48 : Int32) = nI 48 from rfl, pk_sub (by omega)]
            refine r_istore (q := 43) C 4 rfl (by decide +kernel) (by decide) (by first | rfl | exact okst_rv rfl) ?_
            dsimp only [List.set]
            exact J43 _ (nm3 e24 hk1 hd9)
  have z0 := L5 (tp.length + 1) s (by omega) (Nat.le_refl _) (by omega) (fun j h1 h2 => absurd h1 (by omega))
  rw [show s - s = 0 by omega, if_neg (by decide)] at z0
  exact z0
