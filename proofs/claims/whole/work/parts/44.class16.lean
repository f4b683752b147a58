/-! the class weighs a line -/
theorem dm {o v : Nat} (ho : o < 100) (hv : v < 10000) : nI (10000 * o + v) / 10000 = nI o ∧ nI (10000 * o + v) - nI (10000 * o + v) / 10000 * 10000 = nI v := by
  have h1 : nI (10000 * o + v) / 10000 = nI ((10000 * o + v) / 10000) := pk_div (d := 10000) (by omega) (by decide) (by decide)
  have h2 : nI (10000 * o + v) - nI (10000 * o + v) / 10000 * 10000 = nI ((10000 * o + v) % 10000) := pk_rem (d := 10000) (by omega) (by decide) (by decide)
  exact ⟨by rw [h1]; congr 1; omega, by rw [h2]; congr 1; omega⟩
theorem n_m1 {n : Nat} (h : 0 < n) : nI n + -1 = nI (n - 1) := by rw [← m1x n h, Int32.sub_eq_add_neg]
theorem drop_s {l : LW} {k : Nat} {x : Bool × Cd} (h : l[k]? = some x) : l.drop k = x :: l.drop (k + 1) := by
  have hk := (List.getElem?_eq_some_iff.mp h).1
  rw [List.drop_eq_getElem_cons hk]
  have : l[k] = x := (List.getElem?_eq_some_iff.mp h).2
  rw [this]

theorem c_X1_worth {G : GT} {h : HP} {a f k s : Nat} {cd : Cd} (hL : LwL h.kd h.gl h.fr a k) (hk : k = 100 ∨ k = 200) (hkf : h.kd f = (9, 6)) (hgf : h.gl f = 394) (hs : s + cd.length ≤ 600) (hc : ∀ j x, cd[j]? = some x → h.ai (h.fr 64 a) (s + j) = cdW x) (hg : hgt cd = some 1) : Con G 2 0 0 yX1_worth cX1_worth 8 (some .int) [rv a, .int (nI s), .int (nI (s + cd.length)), rv f] h (PI (fun v h' => val (fun q => h.ai f q) cd = v ∧ Fm [k + 68] [] h h')) := by
  refine Con.of (lv := [some (rv a), some (.int (nI s)), some (.int (nI (s + cd.length))), some (rv f), none, none, none, none]) (by decide) (by simp only [lvE_r, lvE_i, lvE_l, lvE_s, lvE_0]; rfl) (by simp only [lgl_r, lgl_i, lgl_l, lgl_s, lgl_0]; decide) (fun Γ C R => ?_)
  generalize hPP : (PI (fun v h' => val (fun q => h.ai f q) cd = v ∧ Fm [k + 68] [] h h')) = PP
  refine r_iconst (q := 1) (z := 0) (v := 0) C rfl (by decide +kernel) (by decide) ?_
  refine r_istore (q := 3) C 4 rfl (by decide +kernel) (by decide) (by first | rfl | exact okst_rv rfl) ?_
  dsimp only [List.set]
  refine r_iload_n (q := 4) (z := 1) C 1 rfl (by decide +kernel) rfl rfl ?_
  refine r_istore (q := 6) C 5 rfl (by decide +kernel) (by decide) (by first | rfl | exact okst_rv rfl) ?_
  dsimp only [List.set]
  have L6 : ∀ (fuel6 : Nat) (h2 : HP) (p q : Cd), q.length < fuel6 → (Fm [k + 68] [] h h2) → (cd = p ++ q) → (PL (h2.ai (h2.fr 68 a)) (evl (fun q => h.ai f q) p)) → wX G Γ (qM G Γ PP 0 0) 0 0 (h2) 6 [some (rv a), some (.int (nI s)), some (.int (nI (s + cd.length))), some (rv f), some (.int (nI (evl (fun q => h.ai f q) p).length)), some (.int (nI (s + p.length))), none, none] [] := by
    intro fuel6
    induction fuel6 with
    | zero =>
      intro h2 p q hm6
      exact absurd hm6 (Nat.not_lt_zero _)
    | succ fuel6 ih6 =>
      intro h2 p q hm6 F2 e2 P2
      have hL0 := hL
      have hL : LwL h2.kd h2.gl h2.fr a k := by rw [F2.1, F2.2.1, F2.2.2.1]; exact hL0
      have hkf0 := hkf
      have hkf : h2.kd f = (9, 6) := by rw [F2.1]; exact hkf0
      have hlen : cd.length = p.length + q.length := by rw [e2]; simp
      have n48 : h2.fr 64 a ≠ h2.fr 68 a := gl_ne hL.2.2.1.2 hL.2.2.2.2.2.2 (by omega)
      have ef : h2.ai f = h.ai f := (F2.2.2.2.2.2 f (by rw [hgf]; rcases hk with e | e <;> subst e <;> decide)).1
      have ec : h2.ai (h2.fr 64 a) = h.ai (h.fr 64 a) := by rw [F2.2.1]; exact (F2.2.2.2.2.2 _ (by rw [hL0.2.2.1.2]; simp)).1
      have el16 : ∀ z : Nat, hgt p = some z → (evl (fun q => h.ai f q) p).length = z := fun z hz => evl_len' hz
      refine r_iload (q := 8) C 5 rfl (by decide +kernel) rfl ?_
      refine r_if_lt (q := 11) (off := 135) (tgt := 143) C rfl (by decide +kernel) (by decide) (fun c8 => ?_) (fun c8 => ?_)
      · exact absurd c8 (nI_pos (by omega))
      · refine r_iload (q := 13) C 5 rfl (by decide +kernel) rfl ?_
        refine r_iload_n (q := 14) (z := 2) C 2 rfl (by decide +kernel) rfl rfl ?_
        refine r_icmp_ge (q := 17) (off := 129) (tgt := 143) C rfl (by decide +kernel) (by decide) (fun c14 => ?_) (fun c14 => ?_)
        · have eq : q = [] := by
            have := (nI_leI (by omega) (by omega)).mp c14
            exact List.length_eq_zero_iff.mp (by omega)
          subst eq
          have ep : cd = p := by rw [e2]; simp
          have hg1 : hgt p = some 1 := by rw [← ep]; exact hg
          have l1 := el16 1 hg1
          refine r_iload (q := 145) C 4 rfl (by decide +kernel) rfl ?_
          refine r_if_le (q := 148) (off := 12) (tgt := 157) C rfl (by decide +kernel) (by decide) (fun c145 => ?_) (fun c145 => ?_)
          · exact absurd c145 (nI_nle (by omega) (by omega))
          · refine r_aload_n (q := 149) (z := 0) C 0 rfl (by decide +kernel) rfl rfl ?_
            refine r_getR (q := 152) C 1 4 68 rfl (by decide +kernel) rfl (by decide) rfl rfl wf_X1_26 win1 hL.1 ?_
            refine r_iconst (q := 153) (z := 0) (v := nI 0) C rfl (by decide +kernel) (by decide) ?_
            refine r_iald (q := 154) C rfl (by decide +kernel) hL.2.2.2.2.2.1 (vp_in_nI (n := 0) (by decide) (by decide)) ?_
            rw [nI_clamp (by decide)]
            obtain ⟨v, hv⟩ : ∃ v, evl (fun q => h.ai f q) p = [v] := by
              match hq : evl (fun q => h.ai f q) p with
              | [] => rw [hq] at l1; simp at l1
              | [v] => exact ⟨v, rfl⟩
              | _ :: _ :: _ => rw [hq] at l1; simp at l1
            rw [hv] at P2
            refine r_goto (off := 4) (tgt := 158) C (by decide +kernel) (by decide) ?_
            exact r_iret C (by decide +kernel) rfl (by decide) (by decide) (eqP hPP ⟨_, rfl, ⟨by rw [ep]; unfold val; rw [hv]; exact P2.1.symm, F2⟩⟩)
        · obtain ⟨x, q, rfl⟩ : ∃ x q2, q = x :: q2 := by
            cases q with
            | nil => exact absurd (nI_le (by simp at hlen; omega) (by omega)) c14
            | cons x q => exact ⟨x, q, rfl⟩
          obtain ⟨kk, kk2, g1, g2, g3⟩ := hgt_mid (by rw [e2] at hg; exact hg)
          have hin := hst_inv g2
          have l1 := el16 kk g1
          have hxo : 1 ≤ x.1 ∧ x.1 ≤ 7 ∧ x.2 < 10000 := by omega
          obtain ⟨d1, d2⟩ := dm (o := x.1 - 1) (v := x.2) (by omega) hxo.2.2
          have hcx : h2.ai (h2.fr 64 a) (s + p.length) = nI (10000 * (x.1 - 1) + x.2) := by rw [ec]; exact hc p.length x (by rw [e2]; simp)
          have hk16 := hgt_le g1
          refine r_iload (q := 19) C 5 rfl (by decide +kernel) rfl ?_
          refine r_sipush (q := 22) (z := 600) (v := 600) C rfl (by decide +kernel) (by decide) ?_
          refine r_icmp_ge (q := 25) (off := 121) (tgt := 143) C rfl (by decide +kernel) (by decide) (fun c22 => ?_) (fun c22 => ?_)
          · exact absurd ((nI_leI (a := 600) (by omega) (by omega)).mp c22) (by simp at hlen; omega)
          · have J137 : ∀ (h3 : HP), (Fm [k + 68] [] h h3) → (PL (h3.ai (h3.fr 68 a)) (evl (fun q => h.ai f q) (p ++ [x]))) → wX G Γ (qM G Γ PP 0 0) 0 0 (h3) 137 [some (rv a), some (.int (nI s)), some (.int (nI (s + cd.length))), some (rv f), some (.int (nI (evl (fun q => h.ai f q) (p ++ [x])).length)), some (.int (nI (s + p.length))), none, none] [] := by
              intro h3 F3 P3
              refine r_iinc (q := 140) (z := 1) (v := 1) C 5 rfl (by decide +kernel) rfl (by decide) (by decide) (by first | rfl | exact okst_rv rfl) ?_
              dsimp only [List.set]
              rw [nI_1]
              refine r_goto (off := -134) (tgt := 6) C (by decide +kernel) (by decide) ?_
              have z0 := ih6 h3 (p ++ [x]) q (by simp at hm6; omega) F3 (by rw [e2]; simp) P3
              rw [show s + (p ++ [x]).length = s + p.length + 1 by simp; omega] at z0
              exact wX.sub (lsub_s (lsub_s (lsub_s (lsub_s (lsub_s (lsub_s (lsub_n (lsub_n (lsub_nil))))))))) z0
            refine r_aload_n (q := 26) (z := 0) C 0 rfl (by decide +kernel) rfl rfl ?_
            refine r_getR (q := 29) C 1 0 64 rfl (by decide +kernel) rfl (by decide) rfl rfl wf_X1_9 win1 hL.1 ?_
            refine r_iload (q := 31) C 5 rfl (by decide +kernel) rfl ?_
            refine r_iald (q := 32) C rfl (by decide +kernel) hL.2.2.1.1 (vp_in_nI (by simp at hlen; omega) (by decide)) ?_
            rw [nI_clamp (by omega), hcx]
            refine r_sipush (q := 35) (z := 10000) (v := 10000) C rfl (by decide +kernel) (by decide) ?_
            refine r_idiv (q := 36) C rfl (by decide +kernel) (by decide) ?_
            rw [d1]
            refine r_istore (q := 38) C 6 rfl (by decide +kernel) (by decide) (by first | rfl | exact okst_rv rfl) ?_
            dsimp only [List.set]
            refine r_aload_n (q := 39) (z := 0) C 0 rfl (by decide +kernel) rfl rfl ?_
            refine r_getR (q := 42) C 1 0 64 rfl (by decide +kernel) rfl (by decide) rfl rfl wf_X1_9 win1 hL.1 ?_
            refine r_iload (q := 44) C 5 rfl (by decide +kernel) rfl ?_
            refine r_iald (q := 45) C rfl (by decide +kernel) hL.2.2.1.1 (vp_in_nI (by simp at hlen; omega) (by decide)) ?_
            rw [nI_clamp (by omega), hcx]
            refine r_sipush (q := 48) (z := 10000) (v := 10000) C rfl (by decide +kernel) (by decide) ?_
            refine r_irem (q := 49) C rfl (by decide +kernel) (by decide) ?_
            rw [d2]
            refine r_istore (q := 51) C 7 rfl (by decide +kernel) (by decide) (by first | rfl | exact okst_rv rfl) ?_
            dsimp only [List.set]
            have J62 : (x.1 = 1 ∨ x.1 = 2) → wX G Γ (qM G Γ PP 0 0) 0 0 (h2) 62 [some (rv a), some (.int (nI s)), some (.int (nI (s + cd.length))), some (rv f), some (.int (nI (evl (fun q => h.ai f q) p).length)), some (.int (nI (s + p.length))), some (.int (nI (x.1 - 1))), some (.int (nI x.2))] [] := by
              intro  hx
              obtain ⟨hx1, k16, kk1⟩ := hin.resolve_right (fun e => by omega)
              refine r_iload (q := 64) C 4 rfl (by decide +kernel) rfl ?_
              refine r_bipush (q := 66) (z := 16) (v := 16) C rfl (by decide +kernel) (by decide) ?_
              refine r_icmp_ge (q := 69) (off := 71) (tgt := 137) C rfl (by decide +kernel) (by decide) (fun c66 => ?_) (fun c66 => ?_)
              · exact absurd ((nI_leI (a := 16) (by decide) (by omega)).mp c66) (by omega)
              · refine r_aload_n (q := 70) (z := 0) C 0 rfl (by decide +kernel) rfl rfl ?_
                refine r_getR (q := 73) C 1 4 68 rfl (by decide +kernel) rfl (by decide) rfl rfl wf_X1_26 win1 hL.1 ?_
                refine r_iload (q := 75) C 4 rfl (by decide +kernel) rfl ?_
                refine r_iload (q := 77) C 6 rfl (by decide +kernel) rfl ?_
                refine r_if_ne (q := 80) (off := 8) (tgt := 85) C rfl (by decide +kernel) (by decide) (fun c77 => ?_) (fun c77 => ?_)
                · have x2 : x.1 = 2 := by
                    rcases hx with e | e
                    · exact absurd (by rw [e]; rfl) c77
                    · exact e
                  have v6 : x.2 < 6 := by omega
                  refine r_aload_n (q := 86) (z := 3) C 3 rfl (by decide +kernel) rfl rfl ?_
                  refine r_iload (q := 88) C 7 rfl (by decide +kernel) rfl ?_
                  refine cS2I (q := 91) C R rfl (by decide +kernel) lk_X1_36 (c_X1_factAt hkf v6) (by decide) (by decide) (by decide) rfl (by first | exact Nat.le_of_ble_eq_true rfl | (simp only [List.map_cons, List.map_nil, List.sum_cons, List.sum_nil, rv_cat]; exact Nat.le_of_ble_eq_true rfl))  ?_
                  rintro _ _ ⟨rfl, rfl⟩
                  rw [ef]
                  refine r_iast (q := 92) C rfl (by decide +kernel) rfl hL.2.2.2.2.2.1 (vp_in_nI (by omega) (by decide)) ?_
                  rw [stI_row, nI_clamp (by omega)]
                  have F9 := Fm.row (f := upd (h2.ai (h2.fr 68 a)) (evl (fun q => h.ai f q) p).length (if x.1 = 1 then nI x.2 else h.ai f x.2)) F2 (by rw [← F2.2.2.1, hL.2.2.2.2.2.2]; simp)
                  have P9 : PL (((h2.row (h2.fr 68 a) (upd (h2.ai (h2.fr 68 a)) (evl (fun q => h.ai f q) p).length (if x.1 = 1 then nI x.2 else h.ai f x.2)))).ai (h2.fr 68 a)) (evl (fun q => h.ai f q) (p ++ [x])) := by
                    rw [ai_row_eq, evl_s]
                    first
                      | (rw [evs_1 x1, if_pos x1]; exact ⟨pk_us, PL.up (Nat.le_refl _) P2⟩)
                      | (rw [evs_2 x2, if_neg (by omega)]; exact ⟨pk_us, PL.up (Nat.le_refl _) P2⟩)
                  first | rw [if_pos x1] at F9 P9 | rw [if_neg (by omega)] at F9 P9
                  have e9 : (evl (fun q => h.ai f q) (p ++ [x])).length = (evl (fun q => h.ai f q) p).length + 1 := by
                    rw [evl_s]
                    first | (rw [evs_1 x1]; rfl) | (rw [evs_2 x2]; rfl)
                  refine r_iinc (q := 95) (z := 1) (v := 1) C 4 rfl (by decide +kernel) rfl (by decide) (by decide) (by first | rfl | exact okst_rv rfl) ?_
                  dsimp only [List.set]
                  rw [nI_1]
                  refine r_goto (off := 42) (tgt := 137) C (by decide +kernel) (by decide) ?_
                  have z0 := J137 _ F9 P9
                  rw [e9] at z0
                  exact wX.sub (lsub_s (lsub_s (lsub_s (lsub_s (lsub_s (lsub_s (lsub_n (lsub_n (lsub_nil))))))))) z0
                · have x1 : x.1 = 1 := by have := (nI_eq (b := 0) (by omega) (by decide)).mp c77; omega
                  refine r_iload (q := 82) C 7 rfl (by decide +kernel) rfl ?_
                  refine r_goto (off := 9) (tgt := 91) C (by decide +kernel) (by decide) ?_
                  refine r_iast (q := 92) C rfl (by decide +kernel) rfl hL.2.2.2.2.2.1 (vp_in_nI (by omega) (by decide)) ?_
                  rw [stI_row, nI_clamp (by omega)]
                  have F9 := Fm.row (f := upd (h2.ai (h2.fr 68 a)) (evl (fun q => h.ai f q) p).length (if x.1 = 1 then nI x.2 else h.ai f x.2)) F2 (by rw [← F2.2.2.1, hL.2.2.2.2.2.2]; simp)
                  have P9 : PL (((h2.row (h2.fr 68 a) (upd (h2.ai (h2.fr 68 a)) (evl (fun q => h.ai f q) p).length (if x.1 = 1 then nI x.2 else h.ai f x.2)))).ai (h2.fr 68 a)) (evl (fun q => h.ai f q) (p ++ [x])) := by
                    rw [ai_row_eq, evl_s]
                    first
                      | (rw [evs_1 x1, if_pos x1]; exact ⟨pk_us, PL.up (Nat.le_refl _) P2⟩)
                      | (rw [evs_2 x2, if_neg (by omega)]; exact ⟨pk_us, PL.up (Nat.le_refl _) P2⟩)
                  first | rw [if_pos x1] at F9 P9 | rw [if_neg (by omega)] at F9 P9
                  have e9 : (evl (fun q => h.ai f q) (p ++ [x])).length = (evl (fun q => h.ai f q) p).length + 1 := by
                    rw [evl_s]
                    first | (rw [evs_1 x1]; rfl) | (rw [evs_2 x2]; rfl)
                  refine r_iinc (q := 95) (z := 1) (v := 1) C 4 rfl (by decide +kernel) rfl (by decide) (by decide) (by first | rfl | exact okst_rv rfl) ?_
                  dsimp only [List.set]
                  rw [nI_1]
                  refine r_goto (off := 42) (tgt := 137) C (by decide +kernel) (by decide) ?_
                  have z0 := J137 _ F9 P9
                  rw [e9] at z0
                  exact wX.sub (lsub_s (lsub_s (lsub_s (lsub_s (lsub_s (lsub_s (lsub_n (lsub_n (lsub_nil))))))))) z0
            refine r_iload (q := 53) C 6 rfl (by decide +kernel) rfl ?_
            refine r_if_eq (q := 56) (off := 9) (tgt := 62) C rfl (by decide +kernel) (by decide) (fun c53 => ?_) (fun c53 => ?_)
            · exact J62 (Or.inl (by have := (nI_eq (b := 0) (by omega) (by decide)).mp c53; omega))
            · have x1 : ¬ x.1 = 1 := fun e => c53 (by rw [e]; rfl)
              refine r_iload (q := 58) C 6 rfl (by decide +kernel) rfl ?_
              refine r_iconst (q := 59) (z := 1) (v := 1) C rfl (by decide +kernel) (by decide) ?_
              refine r_icmp_ne (q := 62) (off := 39) (tgt := 98) C rfl (by decide +kernel) (by decide) (fun c59 => ?_) (fun c59 => ?_)
              · have x2 : ¬ x.1 = 2 := fun e => c59 (by rw [e]; rfl)
                obtain ⟨o1, o2, o3, o4, o5⟩ := hin.resolve_left (fun e => by omega)
                obtain ⟨vb, va, t, hev⟩ : ∃ vb va t, evl (fun q => h.ai f q) p = vb :: va :: t := by
                  match hq : evl (fun q => h.ai f q) p with
                  | [] => rw [hq] at l1; simp at l1; omega
                  | [_] => rw [hq] at l1; simp at l1; omega
                  | vb :: va :: t => exact ⟨vb, va, t, rfl⟩
                rw [hev] at P2
                have lt2 : (evl (fun q => h.ai f q) p).length = t.length + 2 := by rw [hev]; rfl
                rw [lt2]
                obtain ⟨P21, P22, P23⟩ := P2
                refine r_iload (q := 100) C 4 rfl (by decide +kernel) rfl ?_
                refine r_iconst (q := 101) (z := 2) (v := 2) C rfl (by decide +kernel) (by decide) ?_
                refine r_icmp_lt (q := 104) (off := 36) (tgt := 137) C rfl (by decide +kernel) (by decide) (fun c101 => ?_) (fun c101 => ?_)
                · exact absurd ((nI_ltI (b := 2) (by omega) (by decide)).mp c101) (by omega)
                · refine r_iinc (q := 107) (z := (-1)) (v := (-1)) C 4 rfl (by decide +kernel) rfl (by decide) (by decide) (by first | rfl | exact okst_rv rfl) ?_
                  dsimp only [List.set]
                  rw [n_m1 (by omega), show t.length + 2 - 1 = t.length + 1 by omega]
                  refine r_aload_n (q := 108) (z := 0) C 0 rfl (by decide +kernel) rfl rfl ?_
                  refine r_getR (q := 111) C 1 4 68 rfl (by decide +kernel) rfl (by decide) rfl rfl wf_X1_26 win1 hL.1 ?_
                  refine r_iload (q := 113) C 4 rfl (by decide +kernel) rfl ?_
                  refine r_iconst (q := 114) (z := 1) (v := 1) C rfl (by decide +kernel) (by decide) ?_
                  refine r_isub (q := 115) C rfl (by decide +kernel) ?_
                  rw [m1x _ (by omega), show t.length + 1 - 1 = t.length by omega]
                  refine r_iload (q := 117) C 6 rfl (by decide +kernel) rfl ?_
                  refine r_aload_n (q := 118) (z := 0) C 0 rfl (by decide +kernel) rfl rfl ?_
                  refine r_getR (q := 121) C 1 4 68 rfl (by decide +kernel) rfl (by decide) rfl rfl wf_X1_26 win1 hL.1 ?_
                  refine r_iload (q := 123) C 4 rfl (by decide +kernel) rfl ?_
                  refine r_iconst (q := 124) (z := 1) (v := 1) C rfl (by decide +kernel) (by decide) ?_
                  refine r_isub (q := 125) C rfl (by decide +kernel) ?_
                  rw [m1x _ (by omega), show t.length + 1 - 1 = t.length by omega]
                  refine r_iald (q := 126) C rfl (by decide +kernel) hL.2.2.2.2.2.1 (vp_in_nI (by omega) (by decide)) ?_
                  rw [nI_clamp (by omega), P22]
                  refine r_aload_n (q := 127) (z := 0) C 0 rfl (by decide +kernel) rfl rfl ?_
                  refine r_getR (q := 130) C 1 4 68 rfl (by decide +kernel) rfl (by decide) rfl rfl wf_X1_26 win1 hL.1 ?_
                  refine r_iload (q := 132) C 4 rfl (by decide +kernel) rfl ?_
                  refine r_iald (q := 133) C rfl (by decide +kernel) hL.2.2.2.2.2.1 (vp_in_nI (by omega) (by decide)) ?_
                  rw [nI_clamp (by omega), show h2.ai (h2.fr 68 a) (t.length + 1) = vb from P21]
                  refine cS3I (q := 136) C R rfl (by decide +kernel) lk_X1_40 (c_X1_joined (k := x.1 - 1) (by omega)) (by decide) (by decide) (by decide) rfl (by first | exact Nat.le_of_ble_eq_true rfl | (simp only [List.map_cons, List.map_nil, List.sum_cons, List.sum_nil, rv_cat]; exact Nat.le_of_ble_eq_true rfl))  ?_
                  rintro _ _ ⟨rfl, rfl⟩
                  rw [show x.1 - 1 + 1 = x.1 by omega]
                  refine r_iast (q := 137) C rfl (by decide +kernel) rfl hL.2.2.2.2.2.1 (vp_in_nI (by omega) (by decide)) ?_
                  rw [stI_row, nI_clamp (by omega)]
                  have F9 := Fm.row (f := upd (h2.ai (h2.fr 68 a)) t.length (jnV x.1 va vb)) F2 (by rw [← F2.2.2.1, hL.2.2.2.2.2.2]; simp)
                  have P9 : PL (((h2.row (h2.fr 68 a) (upd (h2.ai (h2.fr 68 a)) t.length (jnV x.1 va vb)))).ai (h2.fr 68 a)) (evl (fun q => h.ai f q) (p ++ [x])) := by
                    rw [ai_row_eq, evl_s, hev, evs_o x1 x2]
                    exact ⟨pk_us, PL.up (Nat.le_refl _) P23⟩
                  have e9 : (evl (fun q => h.ai f q) (p ++ [x])).length = t.length + 1 := by rw [evl_s, hev, evs_o x1 x2]; rfl
                  have z0 := J137 _ F9 P9
                  rw [e9] at z0
                  exact wX.sub (lsub_s (lsub_s (lsub_s (lsub_s (lsub_s (lsub_s (lsub_n (lsub_n (lsub_nil))))))))) z0
              · exact J62 (Or.inr (by have := (nI_eq (b := 1) (by omega) (by decide)).mp c59; omega))
  exact wX.sub (lsub_s (lsub_s (lsub_s (lsub_s (lsub_s (lsub_s (lsub_n (lsub_n (lsub_nil))))))))) (L6 (cd.length + 1) h [] cd (Nat.lt_succ_self _) Fm.rf rfl trivial)
theorem c_X1_isKept {G : GT} {h : HP} {a f k : Nat} {lw : LW} (hL : LwL h.kd h.gl h.fr a k) (hk : k = 100 ∨ k = 200) (hkf : h.kd f = (9, 6)) (hgf : h.gl f = 394) (M : CL lw h a) (hh : ∀ ln ∈ lw, hgt ln.2 = some 1) : Con G 3 0 0 yX1_isKept cX1_isKept 4 (some .boolean) [rv a, rv f] h (PI (fun v h' => b2i (!lapV (fun q => h.ai f q) lw) = v ∧ Fm [k + 68] [] h h')) := by
  refine Con.of (lv := [some (rv a), some (rv f), none, none]) (by decide) (by simp only [lvE_r, lvE_i, lvE_l, lvE_s, lvE_0]; rfl) (by simp only [lgl_r, lgl_i, lgl_l, lgl_s, lgl_0]; decide) (fun Γ C R => ?_)
  generalize hPP : (PI (fun v h' => b2i (!lapV (fun q => h.ai f q) lw) = v ∧ Fm [k + 68] [] h h')) = PP
  have hl16 := M.1
  refine r_iconst (q := 1) (z := 0) (v := 0) C rfl (by decide +kernel) (by decide) ?_
  refine r_istore_n (q := 2) (z := 2) C 2 rfl (by decide +kernel) rfl (by decide) (by first | rfl | exact okst_rv rfl) ?_
  dsimp only [List.set]
  have L2 : ∀ (fuel2 : Nat) (h2 : HP) (n : Nat), lw.length - n < fuel2 → (Fm [k + 68] [] h h2) → (n ≤ lw.length) → (lapV (fun q => h.ai f q) lw = lapV (fun q => h.ai f q) (lw.drop n)) → wX G Γ (qM G Γ PP 0 0) 0 0 (h2) 2 [some (rv a), some (rv f), some (.int (nI n)), none] [] := by
    intro fuel2
    induction fuel2 with
    | zero =>
      intro h2 n hm2
      exact absurd hm2 (Nat.not_lt_zero _)
    | succ fuel2 ih2 =>
      intro h2 n hm2 F2 hn hlp
      have hL0 := hL
      have hL : LwL h2.kd h2.gl h2.fr a k := by rw [F2.1, F2.2.1, F2.2.2.1]; exact hL0
      have hkf0 := hkf
      have hkf : h2.kd f = (9, 6) := by rw [F2.1]; exact hkf0
      have hgf0 := hgf
      have hgf : h2.gl f = 394 := by rw [F2.2.2.1]; exact hgf0
      have ef : h2.ai f = h.ai f := (F2.2.2.2.2.2 f (by rw [hgf0]; rcases hk with e | e <;> subst e <;> decide)).1
      have M0 := M
      have M : CL lw h2 a := M0.congr (F2.2.2.2.2.1 _ _ (by decide)) (F2.2.2.2.2.1 _ _ (by decide)) (by rw [F2.2.1]; exact (F2.2.2.2.2.2 _ (by rw [hL0.2.2.1.2]; simp)).1) (by rw [F2.2.1]; exact (F2.2.2.2.2.2 _ (by rw [hL0.2.2.2.1.2]; simp)).1) (by rw [F2.2.1]; exact (F2.2.2.2.2.2 _ (by rw [hL0.2.2.2.2.1.2]; simp)).1)
      have t6 := M.2.1
      refine r_iload_n (q := 3) (z := 2) C 2 rfl (by decide +kernel) rfl rfl ?_
      refine r_aload_n (q := 4) (z := 0) C 0 rfl (by decide +kernel) rfl rfl ?_
      refine r_getI (q := 7) C 1 5 69 rfl (by decide +kernel) rfl (by decide) rfl rfl wf_X1_29 win1 hL.1 ?_
      rw [M.2.2.1]
      refine r_icmp_ge (q := 10) (off := 71) (tgt := 78) C rfl (by decide +kernel) (by decide) (fun c7 => ?_) (fun c7 => ?_)
      · have en : n = lw.length := by have := (nI_leI (by omega) (by omega)).mp c7; omega
        refine r_iconst (q := 79) (z := 1) (v := 1) C rfl (by decide +kernel) (by decide) ?_
        exact r_zret C (by decide +kernel) rfl (by first | decide | exact b2i_nar _) (by decide) (by decide) (eqP hPP ⟨_, rfl, ⟨by rw [hlp, en, List.drop_length]; rfl, F2⟩⟩)
      · have hlt : n < lw.length := Nat.lt_of_not_le (fun e => c7 (nI_le e (by omega)))
        obtain ⟨ln, hln⟩ : ∃ ln, lw[n]? = some ln := ⟨_, List.getElem?_eq_getElem hlt⟩
        obtain ⟨z1, z2, z3⟩ := M.2.2.2.2 n ln hln
        have es := cst_s lw n ln hln
        have em := cst_mono lw (n + 1) (by omega)
        have et : tot lw = cst lw lw.length := rfl
        have hdr := drop_s hln
        refine r_iload_n (q := 11) (z := 2) C 2 rfl (by decide +kernel) rfl rfl ?_
        refine r_bipush (q := 13) (z := 16) (v := 16) C rfl (by decide +kernel) (by decide) ?_
        refine r_icmp_ge (q := 16) (off := 65) (tgt := 78) C rfl (by decide +kernel) (by decide) (fun c13 => ?_) (fun c13 => ?_)
        · exact absurd ((nI_leI (a := 16) (by decide) (by omega)).mp c13) (by omega)
        · have J49 : wX G Γ (qM G Γ PP 0 0) 0 0 (h2) 49 [some (rv a), some (rv f), some (.int (nI n)), none] [.int (nI (cst lw n + ln.2.length))] := by
            refine r_istore_n (q := 50) (z := 3) C 3 rfl (by decide +kernel) rfl (by decide) (by first | rfl | exact okst_rv rfl) ?_
            dsimp only [List.set]
            refine r_aload_n (q := 51) (z := 0) C 0 rfl (by decide +kernel) rfl rfl ?_
            refine r_aload_n (q := 52) (z := 0) C 0 rfl (by decide +kernel) rfl rfl ?_
            refine r_getR (q := 55) C 1 2 66 rfl (by decide +kernel) rfl (by decide) rfl rfl wf_X1_19 win1 hL.1 ?_
            refine r_iload_n (q := 56) (z := 2) C 2 rfl (by decide +kernel) rfl rfl ?_
            refine r_iald (q := 57) C rfl (by decide +kernel) hL.2.2.2.1.1 (vp_in_nI (by omega) (by decide)) ?_
            rw [nI_clamp (by omega), z2]
            refine r_iload_n (q := 58) (z := 3) C 3 rfl (by decide +kernel) rfl rfl ?_
            refine r_aload_n (q := 59) (z := 1) C 1 rfl (by decide +kernel) rfl rfl ?_
            refine cV3I (q := 62) C R rfl (by decide +kernel) lk_X1_32 (c_X1_worth hL hk hkf hgf (by omega) z3 (hh ln (List.mem_of_getElem? hln))) (by decide) (by decide) (by decide) rfl (by first | exact Nat.le_of_ble_eq_true rfl | (simp only [List.map_cons, List.map_nil, List.sum_cons, List.sum_nil, rv_cat]; exact Nat.le_of_ble_eq_true rfl)) rfl hL.1 ?_
            rintro _ h59 ⟨rfl, F59⟩
            rw [ef]
            have hlpn : lapV (fun q => h.ai f q) lw = (if val (fun q => h.ai f q) ln.2 = 0 then lapV (fun q => h.ai f q) (lw.drop (n + 1)) else ln.1) := by rw [hlp, hdr]; rfl
            refine r_if_eq (q := 65) (off := 10) (tgt := 72) C rfl (by decide +kernel) (by decide) (fun c62 => ?_) (fun c62 => ?_)
            · have hlp2 : lapV (fun q => h.ai f q) lw = lapV (fun q => h.ai f q) (lw.drop (n + 1)) := by rw [hlpn, if_pos c62]
              refine r_iinc (q := 75) (z := 1) (v := 1) C 2 rfl (by decide +kernel) rfl (by decide) (by decide) (by first | rfl | exact okst_rv rfl) ?_
              dsimp only [List.set]
              rw [nI_1]
              refine r_goto (off := -73) (tgt := 2) C (by decide +kernel) (by decide) ?_
              exact wX.sub (lsub_s (lsub_s (lsub_s (lsub_n (lsub_nil))))) (ih2 h59 (n + 1) (by omega) (F2.tr F59) (by omega) hlp2)
            · have hlp2 : lapV (fun q => h.ai f q) lw = ln.1 := by rw [hlpn, if_neg c62]
              have F9 := F2.tr F59
              refine r_aload_n (q := 66) (z := 0) C 0 rfl (by decide +kernel) rfl rfl ?_
              refine r_getR (q := 69) C 1 3 67 rfl (by decide +kernel) rfl (by decide) rfl rfl wf_X1_22 win1 (by rw [F59.1]; exact hL.1) ?_
              refine r_iload_n (q := 70) (z := 2) C 2 rfl (by decide +kernel) rfl rfl ?_
              refine r_zald (q := 71) C rfl (by decide +kernel) (by rw [F59.1, F59.2.1]; exact hL.2.2.2.2.1.1) (vp_in_nI (by omega) (by decide)) ?_
              rw [nI_clamp (by omega), F59.2.1, (F59.2.2.2.2.2 _ (by rw [hL.2.2.2.2.1.2]; simp)).1, z1]
              exact r_zret C (by decide +kernel) rfl (by first | decide | exact b2i_nar _) (by decide) (by decide) (eqP hPP ⟨_, rfl, ⟨by rw [hlp2], F9⟩⟩)
          refine r_iload_n (q := 17) (z := 2) C 2 rfl (by decide +kernel) rfl rfl ?_
          refine r_iconst (q := 18) (z := 1) (v := 1) C rfl (by decide +kernel) (by decide) ?_
          refine r_iadd (q := 19) C rfl (by decide +kernel) ?_
          rw [nI_1]
          refine r_aload_n (q := 20) (z := 0) C 0 rfl (by decide +kernel) rfl rfl ?_
          refine r_getI (q := 23) C 1 5 69 rfl (by decide +kernel) rfl (by decide) rfl rfl wf_X1_29 win1 hL.1 ?_
          rw [M.2.2.1]
          refine r_icmp_ge (q := 26) (off := 22) (tgt := 45) C rfl (by decide +kernel) (by decide) (fun c23 => ?_) (fun c23 => ?_)
          · have en : n + 1 = lw.length := by have := (nI_leI (by omega) (by omega)).mp c23; omega
            refine r_aload_n (q := 46) (z := 0) C 0 rfl (by decide +kernel) rfl rfl ?_
            refine r_getI (q := 49) C 1 1 65 rfl (by decide +kernel) rfl (by decide) rfl rfl wf_X1_15 win1 hL.1 ?_
            rw [M.2.2.2.1, show tot lw = cst lw n + ln.2.length by rw [et, ← es, en]]
            exact wX.sub (lsub_s (lsub_s (lsub_s (lsub_n (lsub_nil))))) (J49)
          · have hlt2 : n + 1 < lw.length := Nat.lt_of_not_le (fun e => c23 (nI_le e (by omega)))
            refine r_iload_n (q := 27) (z := 2) C 2 rfl (by decide +kernel) rfl rfl ?_
            refine r_iconst (q := 28) (z := 1) (v := 1) C rfl (by decide +kernel) (by decide) ?_
            refine r_iadd (q := 29) C rfl (by decide +kernel) ?_
            rw [nI_1]
            refine r_bipush (q := 31) (z := 16) (v := 16) C rfl (by decide +kernel) (by decide) ?_
            refine r_icmp_ge (q := 34) (off := 14) (tgt := 45) C rfl (by decide +kernel) (by decide) (fun c31 => ?_) (fun c31 => ?_)
            · exact absurd ((nI_leI (a := 16) (by decide) (by omega)).mp c31) (by omega)
            · refine r_aload_n (q := 35) (z := 0) C 0 rfl (by decide +kernel) rfl rfl ?_
              refine r_getR (q := 38) C 1 2 66 rfl (by decide +kernel) rfl (by decide) rfl rfl wf_X1_19 win1 hL.1 ?_
              refine r_iload_n (q := 39) (z := 2) C 2 rfl (by decide +kernel) rfl rfl ?_
              refine r_iconst (q := 40) (z := 1) (v := 1) C rfl (by decide +kernel) (by decide) ?_
              refine r_iadd (q := 41) C rfl (by decide +kernel) ?_
              rw [nI_1]
              refine r_iald (q := 42) C rfl (by decide +kernel) hL.2.2.2.1.1 (vp_in_nI (by omega) (by decide)) ?_
              rw [nI_clamp (by omega), (M.2.2.2.2 (n + 1) _ (List.getElem?_eq_getElem hlt2)).2.1, es]
              refine r_goto (off := 7) (tgt := 49) C (by decide +kernel) (by decide) ?_
              exact wX.sub (lsub_s (lsub_s (lsub_s (lsub_n (lsub_nil))))) (J49)
  exact wX.sub (lsub_s (lsub_s (lsub_s (lsub_n (lsub_nil))))) (L2 (lw.length + 1) h 0 (by omega) Fm.rf (by omega) rfl)
