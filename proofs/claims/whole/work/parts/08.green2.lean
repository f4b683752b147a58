theorem LGn.row {h : HP} {a b : Nat} {f : Nat → Int32} (hg : LGn h.kd h.gl h.fr a) : LGn (h.row b f).kd (h.row b f).gl (h.row b f).fr a := hg
def cvr (v : Int32) (old : Nat → Int32) (x y w j i : Nat) : Nat → Int32 := fun c => if inn x y w j c || inn x (y + j) i 1 c then v else old c
theorem inn_z0 {x y w c : Nat} : inn x y w 0 c = false := by simp only [inn, decide_eq_false_iff_not]; omega
theorem inn_w0 {x y z c : Nat} : inn x y 0 z c = false := by simp only [inn, decide_eq_false_iff_not]; omega
theorem cvr_0 {v : Int32} {old : Nat → Int32} {x y w : Nat} : cvr v old x y w 0 0 = old := by
  funext c; unfold cvr; rw [inn_z0, inn_w0]; rfl
theorem cvr_end {v : Int32} {old : Nat → Int32} {x y w z : Nat} : cvr v old x y w z 0 = fun c => if inn x y w z c then v else old c := by
  funext c; unfold cvr; rw [inn_w0, Bool.or_false]
theorem inn_row {x y w j c : Nat} : (inn x y w j c || inn x (y + j) w 1 c) = inn x y w (j + 1) c := by
  rw [Bool.eq_iff_iff]; simp only [Bool.or_eq_true, inn_iff]; omega
theorem cvr_row {v : Int32} {old : Nat → Int32} {x y w j : Nat} : cvr v old x y w j w = cvr v old x y w (j + 1) 0 := by
  funext c; unfold cvr; rw [inn_row, inn_w0, Bool.or_false]
theorem inn_cell {x y i j c : Nat} (hx : x + i < 12) : (inn x (y + j) i 1 c || decide (c = 12 * (y + j) + (x + i))) = inn x (y + j) (i + 1) 1 c := by
  rw [Bool.eq_iff_iff]; simp only [Bool.or_eq_true, inn_iff, decide_eq_true_eq]; omega
theorem cvr_s {v : Int32} {old : Nat → Int32} {x y w j i : Nat} (hx : x + i < 12) : upd (cvr v old x y w j i) (12 * (y + j) + (x + i)) v = cvr v old x y w j (i + 1) := by
  funext c
  unfold upd cvr
  rw [← inn_cell hx]
  by_cases e : c = 12 * (y + j) + (x + i)
  · simp [e]
  · simp [e]
/-- the content of a cell lets a spot lie, and where wanted nobody else -/
def okc (unc : Bool) (v : Int32) : Prop := ¬ v < -1 ∧ (unc = true → v = -1)

theorem c_X0_cover {G : GT} {h : HP} {a b x y w z : Nat} {v : Int32} (hg : LGn h.kd h.gl h.fr a) (hs : SpN h.kd h.fi b x y w z) : Con G 3 0 0 yX0_cover cX0_cover 5 none [rv a, rv b, .int v] h (PV (fun h' => h.row (h.fr 0 a) (fun c => if inn x y w z c then v else h.ai (h.fr 0 a) c) = h')) := by
  refine Con.of (lv := [some (rv a), some (rv b), some (.int v), none, none]) (by decide) (by simp only [lvE_r, lvE_i, lvE_l, lvE_s, lvE_0]; rfl) (by simp only [lgl_r, lgl_i, lgl_l, lgl_s, lgl_0]; decide) (fun Γ C R => ?_)
  obtain ⟨g1, g2, g3, g4, g5, g6, g7⟩ := id hg
  obtain ⟨s1, s2, s3, s4, s5, s6, s7⟩ := id hs
  refine r_aload_n (q := 1) (z := 1) C 1 rfl (by decide +kernel) rfl rfl ?_
  refine r_getI (q := 4) C 4 1 257 rfl (by decide +kernel) rfl (by decide) rfl rfl wf_X0_38 win4 (by assumption) ?_
  try simp only [fi_row, fr_row, s2, s3, s4, s5]
  refine r_istore_n (q := 5) (z := 3) C 3 rfl (by decide +kernel) rfl (by decide) (by first | rfl | exact okst_rv rfl) ?_
  dsimp only [List.set]
  have L5 : ∀ (fuel5 : Nat) (j : Nat), z - j < fuel5 → (j ≤ z) → wX G Γ (qM G Γ (PV (fun h' => h.row (h.fr 0 a) (fun c => if inn x y w z c then v else h.ai (h.fr 0 a) c) = h')) 0 0) 0 0 (h.row (h.fr 0 a) (cvr v (h.ai (h.fr 0 a)) x y w j 0)) 5 [some (rv a), some (rv b), some (.int v), some (.int (nI (y + j))), none] [] := by
    intro fuel5
    induction fuel5 with
    | zero =>
      intro j hm5
      exact absurd hm5 (Nat.not_lt_zero _)
    | succ fuel5 ih5 =>
      intro j hm5 hj
      refine r_iload_n (q := 6) (z := 3) C 3 rfl (by decide +kernel) rfl rfl ?_
      refine r_aload_n (q := 7) (z := 1) C 1 rfl (by decide +kernel) rfl rfl ?_
      refine r_getI (q := 10) C 4 1 257 rfl (by decide +kernel) rfl (by decide) rfl rfl wf_X0_38 win4 (by assumption) ?_
      try simp only [fi_row, fr_row, s2, s3, s4, s5]
      refine r_aload_n (q := 11) (z := 1) C 1 rfl (by decide +kernel) rfl rfl ?_
      refine r_getI (q := 14) C 4 3 259 rfl (by decide +kernel) rfl (by decide) rfl rfl wf_X0_43 win4 (by assumption) ?_
      try simp only [fi_row, fr_row, s2, s3, s4, s5]
      refine r_iadd (q := 15) C rfl (by decide +kernel) ?_
      rw [nI_add]
      refine r_icmp_ge (q := 18) (off := 43) (tgt := 58) C rfl (by decide +kernel) (by decide) (fun c15 => ?_) (fun c15 => ?_)
      · have ez : j = z := by have := (nI_leI (by omega) (by omega)).mp c15; omega
        subst ez
        exact r_ret C (by decide +kernel) rfl (by decide) (by decide) ⟨rfl, (by rw [cvr_end])⟩
      · have hjz : j < z := Nat.lt_of_not_le (fun e => c15 (nI_le (by omega) (by omega)))
        refine r_aload_n (q := 19) (z := 1) C 1 rfl (by decide +kernel) rfl rfl ?_
        refine r_getI (q := 22) C 4 0 256 rfl (by decide +kernel) rfl (by decide) rfl rfl wf_X0_46 win4 (by assumption) ?_
        try simp only [fi_row, fr_row, s2, s3, s4, s5]
        refine r_istore (q := 24) C 4 rfl (by decide +kernel) (by decide) (by first | rfl | exact okst_rv rfl) ?_
        dsimp only [List.set]
        have L24 : ∀ (fuel24 : Nat) (i : Nat), w - i < fuel24 → (i ≤ w) → wX G Γ (qM G Γ (PV (fun h' => h.row (h.fr 0 a) (fun c => if inn x y w z c then v else h.ai (h.fr 0 a) c) = h')) 0 0) 0 0 (h.row (h.fr 0 a) (cvr v (h.ai (h.fr 0 a)) x y w j i)) 24 [some (rv a), some (rv b), some (.int v), some (.int (nI (y + j))), some (.int (nI (x + i)))] [] := by
          intro fuel24
          induction fuel24 with
          | zero =>
            intro i hm24
            exact absurd hm24 (Nat.not_lt_zero _)
          | succ fuel24 ih24 =>
            intro i hm24 hi
            refine r_iload (q := 26) C 4 rfl (by decide +kernel) rfl ?_
            refine r_aload_n (q := 27) (z := 1) C 1 rfl (by decide +kernel) rfl rfl ?_
            refine r_getI (q := 30) C 4 0 256 rfl (by decide +kernel) rfl (by decide) rfl rfl wf_X0_46 win4 (by assumption) ?_
            try simp only [fi_row, fr_row, s2, s3, s4, s5]
            refine r_aload_n (q := 31) (z := 1) C 1 rfl (by decide +kernel) rfl rfl ?_
            refine r_getI (q := 34) C 4 2 258 rfl (by decide +kernel) rfl (by decide) rfl rfl wf_X0_49 win4 (by assumption) ?_
            try simp only [fi_row, fr_row, s2, s3, s4, s5]
            refine r_iadd (q := 35) C rfl (by decide +kernel) ?_
            rw [nI_add]
            refine r_icmp_ge (q := 38) (off := 17) (tgt := 52) C rfl (by decide +kernel) (by decide) (fun c35 => ?_) (fun c35 => ?_)
            · have ew : i = w := by have := (nI_leI (by omega) (by omega)).mp c35; omega
              subst ew
              rw [cvr_row]
              refine r_iinc (q := 55) (z := 1) (v := 1) C 3 rfl (by decide +kernel) rfl (by decide) (by decide) (by first | rfl | exact okst_rv rfl) ?_
              dsimp only [List.set]
              rw [nI_1]
              refine r_goto (off := -50) (tgt := 5) C (by decide +kernel) (by decide) ?_
              exact wX.sub (lsub_s (lsub_s (lsub_s (lsub_s (lsub_n (lsub_nil)))))) (ih5 (j + 1) (by omega) (by omega))
            · have hiw : i < w := Nat.lt_of_not_le (fun e => c35 (nI_le (by omega) (by omega)))
              refine r_aload_n (q := 39) (z := 0) C 0 rfl (by decide +kernel) rfl rfl ?_
              refine r_iload (q := 41) C 4 rfl (by decide +kernel) rfl ?_
              refine r_iload_n (q := 42) (z := 3) C 3 rfl (by decide +kernel) rfl rfl ?_
              refine r_iload_n (q := 43) (z := 2) C 2 rfl (by decide +kernel) rfl rfl ?_
              refine cV3V (q := 46) C R rfl (by decide +kernel) lk_X0_52 (c_X0_put (by assumption) (by assumption)) (by decide) (by decide) (by decide) rfl (by first | exact Nat.le_of_ble_eq_true rfl | (simp only [List.map_cons, List.map_nil, List.sum_cons, List.sum_nil, rv_cat]; exact Nat.le_of_ble_eq_true rfl)) rfl (by assumption) ?_
              rintro _ rfl
              rw [if_pos (hasC_nI (by omega) (by omega)), cIx, nI_clamp (by omega)]
              simp only [fr_row]
              rw [row_stI, cvr_s (by omega)]
              refine r_iinc (q := 49) (z := 1) (v := 1) C 4 rfl (by decide +kernel) rfl (by decide) (by decide) (by first | rfl | exact okst_rv rfl) ?_
              dsimp only [List.set]
              rw [nI_1]
              refine r_goto (off := -25) (tgt := 24) C (by decide +kernel) (by decide) ?_
              exact ih24 (i + 1) (by omega) (by omega)
        exact L24 (w + 1) 0 (by omega) (by omega)
  have z0 := L5 (z + 1) 0 (by omega) (by omega)
  rw [cvr_0, row_self] at z0
  exact z0
theorem c_X0_isOpen {G : GT} {h : HP} {a b x y w z : Nat} {u : Bool} (hg : LGn h.kd h.gl h.fr a) (hs : SpN h.kd h.fi b x y w z) : Con G 3 0 0 yX0_isOpen cX0_isOpen 6 (some .boolean) [rv a, rv b, .int (b2i u)] h (PI (fun r h' => ∃ t : Bool, b2i t = r ∧ (t = true ↔ ∀ c, c < 120 → inn x y w z c = true → okc u (h.ai (h.fr 0 a) c)) ∧ h = h')) := by
  refine Con.of (lv := [some (rv a), some (rv b), some (.int (b2i u)), none, none, none]) (by decide) (by simp only [lvE_r, lvE_i, lvE_l, lvE_s, lvE_0]; rfl) (by simp only [lgl_r, lgl_i, lgl_l, lgl_s, lgl_0]; decide) (fun Γ C R => ?_)
  obtain ⟨g1, g2, g3, g4, g5, g6, g7⟩ := id hg
  obtain ⟨s1, s2, s3, s4, s5, s6, s7⟩ := id hs
  refine r_aload_n (q := 1) (z := 1) C 1 rfl (by decide +kernel) rfl rfl ?_
  refine r_getI (q := 4) C 4 1 257 rfl (by decide +kernel) rfl (by decide) rfl rfl wf_X0_38 win4 (by assumption) ?_
  try simp only [fi_row, fr_row, s2, s3, s4, s5]
  refine r_istore_n (q := 5) (z := 3) C 3 rfl (by decide +kernel) rfl (by decide) (by first | rfl | exact okst_rv rfl) ?_
  dsimp only [List.set]
  have L5 : ∀ (fuel5 : Nat) (j : Nat), z - j < fuel5 → (j ≤ z) → (∀ c, c < 120 → inn x y w j c = true → okc u (h.ai (h.fr 0 a) c)) → wX G Γ (qM G Γ (PI (fun r h' => ∃ t : Bool, b2i t = r ∧ (t = true ↔ ∀ c, c < 120 → inn x y w z c = true → okc u (h.ai (h.fr 0 a) c)) ∧ h = h')) 0 0) 0 0 (h) 5 [some (rv a), some (rv b), some (.int (b2i u)), some (.int (nI (y + j))), none, none] [] := by
    intro fuel5
    induction fuel5 with
    | zero =>
      intro j hm5
      exact absurd hm5 (Nat.not_lt_zero _)
    | succ fuel5 ih5 =>
      intro j hm5 hj ho
      refine r_iload_n (q := 6) (z := 3) C 3 rfl (by decide +kernel) rfl rfl ?_
      refine r_aload_n (q := 7) (z := 1) C 1 rfl (by decide +kernel) rfl rfl ?_
      refine r_getI (q := 10) C 4 1 257 rfl (by decide +kernel) rfl (by decide) rfl rfl wf_X0_38 win4 (by assumption) ?_
      try simp only [fi_row, fr_row, s2, s3, s4, s5]
      refine r_aload_n (q := 11) (z := 1) C 1 rfl (by decide +kernel) rfl rfl ?_
      refine r_getI (q := 14) C 4 3 259 rfl (by decide +kernel) rfl (by decide) rfl rfl wf_X0_43 win4 (by assumption) ?_
      try simp only [fi_row, fr_row, s2, s3, s4, s5]
      refine r_iadd (q := 15) C rfl (by decide +kernel) ?_
      rw [nI_add]
      refine r_icmp_ge (q := 18) (off := 62) (tgt := 77) C rfl (by decide +kernel) (by decide) (fun c15 => ?_) (fun c15 => ?_)
      · have ez : j = z := by have := (nI_leI (by omega) (by omega)).mp c15; omega
        subst ez
        refine r_iconst (q := 78) (z := 1) (v := 1) C rfl (by decide +kernel) (by decide) ?_
        exact r_zret C (by decide +kernel) rfl (by first | decide | exact b2i_nar _) (by decide) (by decide) ⟨_, rfl, ⟨true, rfl, ⟨fun _ => ho, fun _ => rfl⟩, rfl⟩⟩
      · have hjz : j < z := Nat.lt_of_not_le (fun e => c15 (nI_le (by omega) (by omega)))
        refine r_aload_n (q := 19) (z := 1) C 1 rfl (by decide +kernel) rfl rfl ?_
        refine r_getI (q := 22) C 4 0 256 rfl (by decide +kernel) rfl (by decide) rfl rfl wf_X0_46 win4 (by assumption) ?_
        try simp only [fi_row, fr_row, s2, s3, s4, s5]
        refine r_istore (q := 24) C 4 rfl (by decide +kernel) (by decide) (by first | rfl | exact okst_rv rfl) ?_
        dsimp only [List.set]
        have L24 : ∀ (fuel24 : Nat) (i : Nat), w - i < fuel24 → (i ≤ w) → (∀ c, c < 120 → inn x (y + j) i 1 c = true → okc u (h.ai (h.fr 0 a) c)) → wX G Γ (qM G Γ (PI (fun r h' => ∃ t : Bool, b2i t = r ∧ (t = true ↔ ∀ c, c < 120 → inn x y w z c = true → okc u (h.ai (h.fr 0 a) c)) ∧ h = h')) 0 0) 0 0 (h) 24 [some (rv a), some (rv b), some (.int (b2i u)), some (.int (nI (y + j))), some (.int (nI (x + i))), none] [] := by
          intro fuel24
          induction fuel24 with
          | zero =>
            intro i hm24
            exact absurd hm24 (Nat.not_lt_zero _)
          | succ fuel24 ih24 =>
            intro i hm24 hi ho2
            refine r_iload (q := 26) C 4 rfl (by decide +kernel) rfl ?_
            refine r_aload_n (q := 27) (z := 1) C 1 rfl (by decide +kernel) rfl rfl ?_
            refine r_getI (q := 30) C 4 0 256 rfl (by decide +kernel) rfl (by decide) rfl rfl wf_X0_46 win4 (by assumption) ?_
            try simp only [fi_row, fr_row, s2, s3, s4, s5]
            refine r_aload_n (q := 31) (z := 1) C 1 rfl (by decide +kernel) rfl rfl ?_
            refine r_getI (q := 34) C 4 2 258 rfl (by decide +kernel) rfl (by decide) rfl rfl wf_X0_49 win4 (by assumption) ?_
            try simp only [fi_row, fr_row, s2, s3, s4, s5]
            refine r_iadd (q := 35) C rfl (by decide +kernel) ?_
            rw [nI_add]
            refine r_icmp_ge (q := 38) (off := 36) (tgt := 71) C rfl (by decide +kernel) (by decide) (fun c35 => ?_) (fun c35 => ?_)
            · have ew : i = w := by have := (nI_leI (by omega) (by omega)).mp c35; omega
              subst ew
              refine r_iinc (q := 74) (z := 1) (v := 1) C 3 rfl (by decide +kernel) rfl (by decide) (by decide) (by first | rfl | exact okst_rv rfl) ?_
              dsimp only [List.set]
              rw [nI_1]
              refine r_goto (off := -69) (tgt := 5) C (by decide +kernel) (by decide) ?_
              exact wX.sub (lsub_s (lsub_s (lsub_s (lsub_s (lsub_n (lsub_n (lsub_nil))))))) (ih5 (j + 1) (by omega) (by omega) (fun c hc hi => (Bool.or_eq_true _ _ ▸ inn_row ▸ hi).elim (ho c hc) (ho2 c hc)))
            · have hiw : i < w := Nat.lt_of_not_le (fun e => c35 (nI_le (by omega) (by omega)))
              refine r_aload_n (q := 39) (z := 0) C 0 rfl (by decide +kernel) rfl rfl ?_
              refine r_iload (q := 41) C 4 rfl (by decide +kernel) rfl ?_
              refine r_iload_n (q := 42) (z := 3) C 3 rfl (by decide +kernel) rfl rfl ?_
              refine cV2I (q := 45) C R rfl (by decide +kernel) lk_X0_56 (c_X0_at (by assumption) (by assumption)) (by decide) (by decide) (by decide) rfl (by first | exact Nat.le_of_ble_eq_true rfl | (simp only [List.map_cons, List.map_nil, List.sum_cons, List.sum_nil, rv_cat]; exact Nat.le_of_ble_eq_true rfl)) rfl (by assumption) ?_
              rintro _ _ ⟨rfl, rfl⟩
              rw [if_pos (hasC_nI (by omega) (by omega)), cIx, nI_clamp (by omega)]
              refine r_istore (q := 47) C 5 rfl (by decide +kernel) (by decide) (by first | rfl | exact okst_rv rfl) ?_
              dsimp only [List.set]
              refine r_iload (q := 49) C 5 rfl (by decide +kernel) rfl ?_
              refine r_iconst (q := 50) (z := (-1)) (v := (-1)) C rfl (by decide +kernel) (by decide) ?_
              refine r_icmp_lt (q := 53) (off := 13) (tgt := 63) C rfl (by decide +kernel) (by decide) (fun c50 => ?_) (fun c50 => ?_)
              · refine r_iconst (q := 64) (z := 0) (v := 0) C rfl (by decide +kernel) (by decide) ?_
                exact r_zret C (by decide +kernel) rfl (by first | decide | exact b2i_nar _) (by decide) (by decide) ⟨_, rfl, ⟨false, rfl, ⟨(fun e => nomatch e), fun hall => absurd (hall (12 * (y + j) + (x + i)) (by omega) (by rw [inn_iff]; omega)) (fun k => by first | exact k.1 c50 | exact c60 (k.2 ((b2i_n0 _).mp c54)))⟩, rfl⟩⟩
              · refine r_iload_n (q := 54) (z := 2) C 2 rfl (by decide +kernel) rfl rfl ?_
                refine r_if_eq (q := 57) (off := 11) (tgt := 65) C rfl (by decide +kernel) (by decide) (fun c54 => ?_) (fun c54 => ?_)
                · have hok : okc u (h.ai (h.fr 0 a) (12 * (y + j) + (x + i))) := ⟨c50, fun e => absurd e (by rw [(b2i_0 _).mp c54]; decide)⟩
                  have hn3 : ∀ c, c < 120 → inn x (y + j) (i + 1) 1 c = true → okc u (h.ai (h.fr 0 a) c) := fun c hc hi => by
                    rw [← inn_cell (by omega), Bool.or_eq_true, decide_eq_true_eq] at hi
                    rcases hi with hi | rfl
                    · exact ho2 c hc hi
                    · exact hok
                  refine r_iinc (q := 68) (z := 1) (v := 1) C 4 rfl (by decide +kernel) rfl (by decide) (by decide) (by first | rfl | exact okst_rv rfl) ?_
                  dsimp only [List.set]
                  rw [nI_1]
                  refine r_goto (off := -44) (tgt := 24) C (by decide +kernel) (by decide) ?_
                  exact wX.sub (lsub_s (lsub_s (lsub_s (lsub_s (lsub_s (lsub_n (lsub_nil))))))) (ih24 (i + 1) (by omega) (by omega) hn3)
                · refine r_iload (q := 59) C 5 rfl (by decide +kernel) rfl ?_
                  refine r_iconst (q := 60) (z := (-1)) (v := (-1)) C rfl (by decide +kernel) (by decide) ?_
                  refine r_icmp_eq (q := 63) (off := 5) (tgt := 65) C rfl (by decide +kernel) (by decide) (fun c60 => ?_) (fun c60 => ?_)
                  · have hok : okc u (h.ai (h.fr 0 a) (12 * (y + j) + (x + i))) := ⟨c50, fun _ => c60⟩
                    have hn3 : ∀ c, c < 120 → inn x (y + j) (i + 1) 1 c = true → okc u (h.ai (h.fr 0 a) c) := fun c hc hi => by
                      rw [← inn_cell (by omega), Bool.or_eq_true, decide_eq_true_eq] at hi
                      rcases hi with hi | rfl
                      · exact ho2 c hc hi
                      · exact hok
                    refine r_iinc (q := 68) (z := 1) (v := 1) C 4 rfl (by decide +kernel) rfl (by decide) (by decide) (by first | rfl | exact okst_rv rfl) ?_
                    dsimp only [List.set]
                    rw [nI_1]
                    refine r_goto (off := -44) (tgt := 24) C (by decide +kernel) (by decide) ?_
                    exact wX.sub (lsub_s (lsub_s (lsub_s (lsub_s (lsub_s (lsub_n (lsub_nil))))))) (ih24 (i + 1) (by omega) (by omega) hn3)
                  · refine r_iconst (q := 64) (z := 0) (v := 0) C rfl (by decide +kernel) (by decide) ?_
                    exact r_zret C (by decide +kernel) rfl (by first | decide | exact b2i_nar _) (by decide) (by decide) ⟨_, rfl, ⟨false, rfl, ⟨(fun e => nomatch e), fun hall => absurd (hall (12 * (y + j) + (x + i)) (by omega) (by rw [inn_iff]; omega)) (fun k => by first | exact k.1 c50 | exact c60 (k.2 ((b2i_n0 _).mp c54)))⟩, rfl⟩⟩
        exact wX.sub (lsub_s (lsub_s (lsub_s (lsub_s (lsub_s (lsub_n (lsub_nil))))))) (L24 (w + 1) 0 (by omega) (by omega) (fun c _ hc => by rw [inn_w0] at hc; cases hc))
  exact wX.sub (lsub_s (lsub_s (lsub_s (lsub_s (lsub_n (lsub_n (lsub_nil))))))) (L5 (z + 1) 0 (by omega) (by omega) (fun c _ hc => by rw [inn_z0] at hc; cases hc))
