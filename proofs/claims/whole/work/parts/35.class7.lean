/-! the class's tape and the text in force -/
def TpC (tp : List Nat) (h : HP) (a : Nat) : Prop := TpW tp ∧ h.fi 321 a = nI tp.length ∧ ∀ j, j < tp.length → h.ai (h.fr 320 a) j = nI (sg tp j)
theorem TpC.add {tp : List Nat} {h : HP} {a c : Nat} (M : TpC tp h a) (hc : okS c) (hl : tp.length < 600) : TpC (tp ++ [c]) ((h.row (h.fr 320 a) (upd (h.ai (h.fr 320 a)) tp.length (nI c))).setI 321 a (nI (tp.length + 1))) a := by
  refine ⟨M.1.add hc hl, by rw [fi_eq]; simp, fun j hj => ?_⟩
  simp at hj
  show (h.row (h.fr 320 a) (upd (h.ai (h.fr 320 a)) tp.length (nI c))).ai (h.fr 320 a) j = _
  rw [ai_row_eq, sg_app]
  by_cases e : j = tp.length
  · rw [if_pos e, e, pk_us]
  · rw [if_neg e, pk_un e]; exact M.2.2 j (by omega)
theorem nar_b {c : Nat} (h : c < 127) : vp_nar .byte (nI c) = nI c := (by decide : ∀ c : Fin 127, vp_nar .byte (nI c.val) = nI c.val) ⟨c, h⟩
theorem i8_b {c : Nat} (h : c < 127) : (nI c).toInt8.toInt32 = nI c := (by decide : ∀ c : Fin 127, (nI c.val).toInt8.toInt32 = nI c.val) ⟨c, h⟩
theorem okS_lt {c : Nat} (h : okS c) : c < 127 := by unfold okS at h; omega
theorem sg_lt {tp : List Nat} (W : TpW tp) (j : Nat) : sg tp j < 127 := by
  by_cases e : j < tp.length
  · exact okS_lt (W.2 j e)
  · rw [sg_out (Nat.le_of_not_lt e)]; decide
theorem nI_in2 {c a b : Nat} (h : c < 2 ^ 31) (ha : a < 2 ^ 31) (hb : b < 2 ^ 31) : (nI a ≤ nI c ∧ nI c ≤ nI b) ↔ (a ≤ c ∧ c ≤ b) := by rw [nI_leI ha h, nI_leI h hb]

theorem c_X1_wipe {G : GT} {h : HP} {a : Nat} (hk : h.kd a = (0, 1)) : Con G 1 0 0 yX1_wipe cX1_wipe 1 none [rv a] h (PV (fun h' => (h.setI 65 a 0).setI 69 a 0 = h')) := by
  refine Con.of (lv := [some (rv a)]) (by decide) (by simp only [lvE_r, lvE_i, lvE_l, lvE_s, lvE_0]; rfl) (by simp only [lgl_r, lgl_i, lgl_l, lgl_s, lgl_0]; decide) (fun Γ C R => ?_)
  generalize hPP : (PV (fun h' => (h.setI 65 a 0).setI 69 a 0 = h')) = PP
  refine r_aload_n (q := 1) (z := 0) C 0 rfl (by decide +kernel) rfl rfl ?_
  refine r_iconst (q := 2) (z := 0) (v := 0) C rfl (by decide +kernel) (by decide) ?_
  refine r_putI (q := 5) C 1 1 65 rfl (by decide +kernel) rfl (by decide) rfl rfl wf_X1_15 win1 tyX1 tyX1_ok nmX1 rfl (tyX1_ok 1 (by decide)) rfl wnd1 rfl rfl hk ?_
  refine r_aload_n (q := 6) (z := 0) C 0 rfl (by decide +kernel) rfl rfl ?_
  refine r_iconst (q := 7) (z := 0) (v := 0) C rfl (by decide +kernel) (by decide) ?_
  refine r_putI (q := 10) C 1 5 69 rfl (by decide +kernel) rfl (by decide) rfl rfl wf_X1_29 win1 tyX1 tyX1_ok nmX1 rfl (tyX1_ok 5 (by decide)) rfl wnd1 rfl rfl hk ?_
  exact r_ret C (by decide +kernel) rfl (by decide) (by decide) (eqP hPP ⟨rfl, rfl⟩)
theorem c_X1_beginLine {G : GT} {h : HP} {a n c : Nat} {b : Bool} (hk : h.kd a = (0, 1)) (h66 : h.kd (h.fr 66 a) = (9, 16)) (h67 : h.kd (h.fr 67 a) = (11, 16)) (hn : n < 16) (hl : h.fi 69 a = nI n) (hc : h.fi 65 a = nI c) : Con G 1 0 0 yX1_beginLine cX1_beginLine 2 none [rv a, .int (b2i b)] h (PV (fun h' => ((h.row (h.fr 66 a) (upd (h.ai (h.fr 66 a)) n (nI c))).row (h.fr 67 a) (upd ((h.row (h.fr 66 a) (upd (h.ai (h.fr 66 a)) n (nI c))).ai (h.fr 67 a)) n (b2i b))).setI 69 a (nI (n + 1)) = h')) := by
  refine Con.of (lv := [some (rv a), some (.int (b2i b))]) (by decide) (by simp only [lvE_r, lvE_i, lvE_l, lvE_s, lvE_0]; rfl) (by simp only [lgl_r, lgl_i, lgl_l, lgl_s, lgl_0]; decide) (fun Γ C R => ?_)
  generalize hPP : (PV (fun h' => ((h.row (h.fr 66 a) (upd (h.ai (h.fr 66 a)) n (nI c))).row (h.fr 67 a) (upd ((h.row (h.fr 66 a) (upd (h.ai (h.fr 66 a)) n (nI c))).ai (h.fr 67 a)) n (b2i b))).setI 69 a (nI (n + 1)) = h')) = PP
  refine r_aload_n (q := 1) (z := 0) C 0 rfl (by decide +kernel) rfl rfl ?_
  refine r_getI (q := 4) C 1 5 69 rfl (by decide +kernel) rfl (by decide) rfl rfl wf_X1_29 win1 hk ?_
  rw [hl]
  refine r_bipush (q := 6) (z := 16) (v := 16) C rfl (by decide +kernel) (by decide) ?_
  refine r_icmp_ge (q := 9) (off := 36) (tgt := 42) C rfl (by decide +kernel) (by decide) (fun c6 => ?_) (fun c6 => ?_)
  · exact absurd ((nI_leI (a := 16) (by omega) (by omega)).mp c6) (by omega)
  · refine r_aload_n (q := 10) (z := 0) C 0 rfl (by decide +kernel) rfl rfl ?_
    refine r_getR (q := 13) C 1 2 66 rfl (by decide +kernel) rfl (by decide) rfl rfl wf_X1_19 win1 hk ?_
    refine r_aload_n (q := 14) (z := 0) C 0 rfl (by decide +kernel) rfl rfl ?_
    refine r_getI (q := 17) C 1 5 69 rfl (by decide +kernel) rfl (by decide) rfl rfl wf_X1_29 win1 hk ?_
    rw [hl]
    refine r_aload_n (q := 18) (z := 0) C 0 rfl (by decide +kernel) rfl rfl ?_
    refine r_getI (q := 21) C 1 1 65 rfl (by decide +kernel) rfl (by decide) rfl rfl wf_X1_15 win1 hk ?_
    rw [hc]
    refine r_iast (q := 22) C rfl (by decide +kernel) rfl h66 (vp_in_nI hn (by decide)) ?_
    rw [stI_row, nI_clamp (by omega)]
    refine r_aload_n (q := 23) (z := 0) C 0 rfl (by decide +kernel) rfl rfl ?_
    refine r_getR (q := 26) C 1 3 67 rfl (by decide +kernel) rfl (by decide) rfl rfl wf_X1_22 win1 hk ?_
    simp only [fr_row]
    refine r_aload_n (q := 27) (z := 0) C 0 rfl (by decide +kernel) rfl rfl ?_
    refine r_getI (q := 30) C 1 5 69 rfl (by decide +kernel) rfl (by decide) rfl rfl wf_X1_29 win1 hk ?_
    rw [fi_row, hl]
    refine r_iload_n (q := 31) (z := 1) C 1 rfl (by decide +kernel) rfl rfl ?_
    refine r_zast (q := 32) C rfl (by decide +kernel) (by first | exact b2i_vn _ | rfl) h67 (vp_in_nI hn (by decide)) ?_
    rw [stI_row, nI_clamp (by omega)]
    refine r_aload_n (q := 33) (z := 0) C 0 rfl (by decide +kernel) rfl rfl ?_
    refine r_dup (q := 34) C rfl (by decide +kernel) (by first | rfl | exact rv_cat _) ?_
    refine r_getI (q := 37) C 1 5 69 rfl (by decide +kernel) rfl (by decide) rfl rfl wf_X1_29 win1 hk ?_
    rw [fi_row, fi_row, hl]
    refine r_iconst (q := 38) (z := 1) (v := 1) C rfl (by decide +kernel) (by decide) ?_
    refine r_iadd (q := 39) C rfl (by decide +kernel) ?_
    rw [nI_1]
    refine r_putI (q := 42) C 1 5 69 rfl (by decide +kernel) rfl (by decide) rfl rfl wf_X1_29 win1 tyX1 tyX1_ok nmX1 rfl (tyX1_ok 5 (by decide)) rfl wnd1 rfl rfl hk ?_
    exact r_ret C (by decide +kernel) rfl (by decide) (by decide) (eqP hPP ⟨rfl, rfl⟩)
theorem c_X1_add {G : GT} {h : HP} {a c k v : Nat} (hk : h.kd a = (0, 1)) (h64 : h.kd (h.fr 64 a) = (9, 600)) (hn : c < 600) (hc : h.fi 65 a = nI c) : Con G 1 0 0 yX1_add cX1_add 3 none [rv a, .int (nI k), .int (nI v)] h (PV (fun h' => (h.row (h.fr 64 a) (upd (h.ai (h.fr 64 a)) c (nI (10000 * k + v)))).setI 65 a (nI (c + 1)) = h')) := by
  refine Con.of (lv := [some (rv a), some (.int (nI k)), some (.int (nI v))]) (by decide) (by simp only [lvE_r, lvE_i, lvE_l, lvE_s, lvE_0]; rfl) (by simp only [lgl_r, lgl_i, lgl_l, lgl_s, lgl_0]; decide) (fun Γ C R => ?_)
  generalize hPP : (PV (fun h' => (h.row (h.fr 64 a) (upd (h.ai (h.fr 64 a)) c (nI (10000 * k + v)))).setI 65 a (nI (c + 1)) = h')) = PP
  refine r_aload_n (q := 1) (z := 0) C 0 rfl (by decide +kernel) rfl rfl ?_
  refine r_getI (q := 4) C 1 1 65 rfl (by decide +kernel) rfl (by decide) rfl rfl wf_X1_15 win1 hk ?_
  rw [hc]
  refine r_sipush (q := 7) (z := 600) (v := 600) C rfl (by decide +kernel) (by decide) ?_
  refine r_icmp_ge (q := 10) (off := 29) (tgt := 36) C rfl (by decide +kernel) (by decide) (fun c7 => ?_) (fun c7 => ?_)
  · exact absurd ((nI_leI (a := 600) (by omega) (by omega)).mp c7) (by omega)
  · refine r_aload_n (q := 11) (z := 0) C 0 rfl (by decide +kernel) rfl rfl ?_
    refine r_getR (q := 14) C 1 0 64 rfl (by decide +kernel) rfl (by decide) rfl rfl wf_X1_9 win1 hk ?_
    refine r_aload_n (q := 15) (z := 0) C 0 rfl (by decide +kernel) rfl rfl ?_
    refine r_getI (q := 18) C 1 1 65 rfl (by decide +kernel) rfl (by decide) rfl rfl wf_X1_15 win1 hk ?_
    rw [hc]
    refine r_sipush (q := 21) (z := 10000) (v := 10000) C rfl (by decide +kernel) (by decide) ?_
    refine r_iload_n (q := 22) (z := 1) C 1 rfl (by decide +kernel) rfl rfl ?_
    refine r_imul (q := 23) C rfl (by decide +kernel) ?_
    rw [show (10000 : Int32) = nI 10000 from rfl, pk_mul]
    refine r_iload_n (q := 24) (z := 2) C 2 rfl (by decide +kernel) rfl rfl ?_
    refine r_iadd (q := 25) C rfl (by decide +kernel) ?_
    rw [nI_add]
    refine r_iast (q := 26) C rfl (by decide +kernel) rfl h64 (vp_in_nI hn (by decide)) ?_
    rw [stI_row, nI_clamp (by omega)]
    refine r_aload_n (q := 27) (z := 0) C 0 rfl (by decide +kernel) rfl rfl ?_
    refine r_dup (q := 28) C rfl (by decide +kernel) (by first | rfl | exact rv_cat _) ?_
    refine r_getI (q := 31) C 1 1 65 rfl (by decide +kernel) rfl (by decide) rfl rfl wf_X1_15 win1 hk ?_
    rw [fi_row, hc]
    refine r_iconst (q := 32) (z := 1) (v := 1) C rfl (by decide +kernel) (by decide) ?_
    refine r_iadd (q := 33) C rfl (by decide +kernel) ?_
    rw [nI_1]
    refine r_putI (q := 36) C 1 1 65 rfl (by decide +kernel) rfl (by decide) rfl rfl wf_X1_15 win1 tyX1 tyX1_ok nmX1 rfl (tyX1_ok 1 (by decide)) rfl wnd1 rfl rfl hk ?_
    exact r_ret C (by decide +kernel) rfl (by decide) (by decide) (eqP hPP ⟨rfl, rfl⟩)
theorem c_X1_factAt {G : GT} {h : HP} {a k : Nat} (hk : h.kd a = (9, 6)) (hn : k < 6) : Con G 1 0 0 yX1_factAt cX1_factAt 2 (some .int) [rv a, .int (nI k)] h (PI (fun v h' => h.ai a k = v ∧ h = h')) := by
  refine Con.of (lv := [some (rv a), some (.int (nI k))]) (by decide) (by simp only [lvE_r, lvE_i, lvE_l, lvE_s, lvE_0]; rfl) (by simp only [lgl_r, lgl_i, lgl_l, lgl_s, lgl_0]; decide) (fun Γ C R => ?_)
  generalize hPP : (PI (fun v h' => h.ai a k = v ∧ h = h')) = PP
  refine r_iload_n (q := 1) (z := 1) C 1 rfl (by decide +kernel) rfl rfl ?_
  refine r_if_lt (q := 4) (off := 15) (tgt := 16) C rfl (by decide +kernel) (by decide) (fun c1 => ?_) (fun c1 => ?_)
  · exact absurd c1 (nI_pos (by omega))
  · refine r_iload_n (q := 5) (z := 1) C 1 rfl (by decide +kernel) rfl rfl ?_
    refine r_aload_n (q := 6) (z := 0) C 0 rfl (by decide +kernel) rfl rfl ?_
    refine r_alen (q := 7) C rfl (by decide +kernel) hk (by first | exact Or.inl rfl | exact Or.inr rfl) ?_
    refine r_icmp_ge (q := 10) (off := 9) (tgt := 16) C rfl (by decide +kernel) (by decide) (fun c7 => ?_) (fun c7 => ?_)
    · exact absurd ((nI_leI (a := 6) (by omega) (by omega)).mp c7) (by omega)
    · refine r_aload_n (q := 11) (z := 0) C 0 rfl (by decide +kernel) rfl rfl ?_
      refine r_iload_n (q := 12) (z := 1) C 1 rfl (by decide +kernel) rfl rfl ?_
      refine r_iald (q := 13) C rfl (by decide +kernel) hk (vp_in_nI hn (by decide)) ?_
      rw [nI_clamp (by omega)]
      refine r_goto (off := 4) (tgt := 17) C (by decide +kernel) (by decide) ?_
      exact r_iret C (by decide +kernel) rfl (by decide) (by decide) (eqP hPP ⟨_, rfl, ⟨rfl, rfl⟩⟩)
theorem c_X1_joined {G : GT} {h : HP} {k : Nat} {x z : Int32} (hk : k = 2 ∨ k = 3 ∨ k = 4 ∨ k = 5 ∨ k = 6) : Con G 1 0 0 yX1_joined cX1_joined 3 (some .int) [.int (nI k), .int x, .int z] h (PI (fun v h' => jnV (k + 1) x z = v ∧ h = h')) := by
  refine Con.of (lv := [some (.int (nI k)), some (.int x), some (.int z)]) (by decide) (by simp only [lvE_r, lvE_i, lvE_l, lvE_s, lvE_0]; rfl) (by simp only [lgl_r, lgl_i, lgl_l, lgl_s, lgl_0]; decide) (fun Γ C R => ?_)
  generalize hPP : (PI (fun v h' => jnV (k + 1) x z = v ∧ h = h')) = PP
  refine r_iload_n (q := 1) (z := 0) C 0 rfl (by decide +kernel) rfl rfl ?_
  rcases hk with rfl | rfl | rfl | rfl | rfl
  · refine r_tableIn (dflt := 61) (lo := 2) (hi := 5) (offs := #[31, 35, 39, 50]) (len := 31) (off := 31) (tgt := 32) C (by decide +kernel) (by decide) (by decide) (by decide) (by decide) ?_
    refine r_iload_n (q := 33) (z := 1) C 1 rfl (by decide +kernel) rfl rfl ?_
    refine r_iload_n (q := 34) (z := 2) C 2 rfl (by decide +kernel) rfl rfl ?_
    refine r_iadd (q := 35) C rfl (by decide +kernel) ?_
    exact r_iret C (by decide +kernel) rfl (by decide) (by decide) (eqP hPP ⟨_, rfl, ⟨by clear C R; simp_all [jnV, ← Int32.not_lt], rfl⟩⟩)
  · refine r_tableIn (dflt := 61) (lo := 2) (hi := 5) (offs := #[31, 35, 39, 50]) (len := 31) (off := 35) (tgt := 36) C (by decide +kernel) (by decide) (by decide) (by decide) (by decide) ?_
    refine r_iload_n (q := 37) (z := 1) C 1 rfl (by decide +kernel) rfl rfl ?_
    refine r_iload_n (q := 38) (z := 2) C 2 rfl (by decide +kernel) rfl rfl ?_
    refine r_isub (q := 39) C rfl (by decide +kernel) ?_
    exact r_iret C (by decide +kernel) rfl (by decide) (by decide) (eqP hPP ⟨_, rfl, ⟨by clear C R; simp_all [jnV, ← Int32.not_lt], rfl⟩⟩)
  · refine r_tableIn (dflt := 61) (lo := 2) (hi := 5) (offs := #[31, 35, 39, 50]) (len := 31) (off := 39) (tgt := 40) C (by decide +kernel) (by decide) (by decide) (by decide) (by decide) ?_
    refine r_iload_n (q := 41) (z := 1) C 1 rfl (by decide +kernel) rfl rfl ?_
    refine r_iload_n (q := 42) (z := 2) C 2 rfl (by decide +kernel) rfl rfl ?_
    refine r_icmp_ge (q := 45) (off := 7) (tgt := 49) C rfl (by decide +kernel) (by decide) (fun c42 => ?_) (fun c42 => ?_)
    · refine r_iconst (q := 50) (z := 0) (v := 0) C rfl (by decide +kernel) (by decide) ?_
      exact r_iret C (by decide +kernel) rfl (by decide) (by decide) (eqP hPP ⟨_, rfl, ⟨by clear C R; simp_all [jnV, ← Int32.not_lt], rfl⟩⟩)
    · refine r_iconst (q := 46) (z := 1) (v := 1) C rfl (by decide +kernel) (by decide) ?_
      refine r_goto (off := 4) (tgt := 50) C (by decide +kernel) (by decide) ?_
      exact r_iret C (by decide +kernel) rfl (by decide) (by decide) (eqP hPP ⟨_, rfl, ⟨by clear C R; simp_all [jnV, ← Int32.not_lt], rfl⟩⟩)
  · refine r_tableIn (dflt := 61) (lo := 2) (hi := 5) (offs := #[31, 35, 39, 50]) (len := 31) (off := 50) (tgt := 51) C (by decide +kernel) (by decide) (by decide) (by decide) (by decide) ?_
    refine r_iload_n (q := 52) (z := 1) C 1 rfl (by decide +kernel) rfl rfl ?_
    refine r_iload_n (q := 53) (z := 2) C 2 rfl (by decide +kernel) rfl rfl ?_
    refine r_icmp_ne (q := 56) (off := 7) (tgt := 60) C rfl (by decide +kernel) (by decide) (fun c53 => ?_) (fun c53 => ?_)
    · refine r_iconst (q := 61) (z := 0) (v := 0) C rfl (by decide +kernel) (by decide) ?_
      exact r_iret C (by decide +kernel) rfl (by decide) (by decide) (eqP hPP ⟨_, rfl, ⟨by clear C R; simp_all [jnV, ← Int32.not_lt], rfl⟩⟩)
    · refine r_iconst (q := 57) (z := 1) (v := 1) C rfl (by decide +kernel) (by decide) ?_
      refine r_goto (off := 4) (tgt := 61) C (by decide +kernel) (by decide) ?_
      exact r_iret C (by decide +kernel) rfl (by decide) (by decide) (eqP hPP ⟨_, rfl, ⟨by clear C R; simp_all [jnV, ← Int32.not_lt], rfl⟩⟩)
  · refine r_tableOut (dflt := 61) (lo := 2) (hi := 5) (offs := #[31, 35, 39, 50]) (len := 31) (tgt := 62) C (by decide +kernel) (Or.inr (by decide)) (by decide) ?_
    refine r_iload_n (q := 63) (z := 1) C 1 rfl (by decide +kernel) rfl rfl ?_
    refine r_if_eq (q := 66) (off := 11) (tgt := 74) C rfl (by decide +kernel) (by decide) (fun c63 => ?_) (fun c63 => ?_)
    · refine r_iconst (q := 75) (z := 0) (v := 0) C rfl (by decide +kernel) (by decide) ?_
      exact r_iret C (by decide +kernel) rfl (by decide) (by decide) (eqP hPP ⟨_, rfl, ⟨by clear C R; simp_all [jnV, ← Int32.not_lt], rfl⟩⟩)
    · refine r_iload_n (q := 67) (z := 2) C 2 rfl (by decide +kernel) rfl rfl ?_
      refine r_if_eq (q := 70) (off := 7) (tgt := 74) C rfl (by decide +kernel) (by decide) (fun c67 => ?_) (fun c67 => ?_)
      · refine r_iconst (q := 75) (z := 0) (v := 0) C rfl (by decide +kernel) (by decide) ?_
        exact r_iret C (by decide +kernel) rfl (by decide) (by decide) (eqP hPP ⟨_, rfl, ⟨by clear C R; simp_all [jnV, ← Int32.not_lt], rfl⟩⟩)
      · refine r_iconst (q := 71) (z := 1) (v := 1) C rfl (by decide +kernel) (by decide) ?_
        refine r_goto (off := 4) (tgt := 75) C (by decide +kernel) (by decide) ?_
        exact r_iret C (by decide +kernel) rfl (by decide) (by decide) (eqP hPP ⟨_, rfl, ⟨by clear C R; simp_all [jnV, ← Int32.not_lt], rfl⟩⟩)
theorem c_X5_wipe {G : GT} {h : HP} {a : Nat} (hk : h.kd a = (0, 5)) : Con G 1 0 0 yX5_wipe cX5_wipe 1 none [rv a] h (PV (fun h' => h.setI 321 a 0 = h')) := by
  refine Con.of (lv := [some (rv a)]) (by decide) (by simp only [lvE_r, lvE_i, lvE_l, lvE_s, lvE_0]; rfl) (by simp only [lgl_r, lgl_i, lgl_l, lgl_s, lgl_0]; decide) (fun Γ C R => ?_)
  generalize hPP : (PV (fun h' => h.setI 321 a 0 = h')) = PP
  refine r_aload_n (q := 1) (z := 0) C 0 rfl (by decide +kernel) rfl rfl ?_
  refine r_iconst (q := 2) (z := 0) (v := 0) C rfl (by decide +kernel) (by decide) ?_
  refine r_putI (q := 5) C 5 1 321 rfl (by decide +kernel) rfl (by decide) rfl rfl wf_X5_15 win5 tyX5 tyX5_ok nmX5 rfl (tyX5_ok 1 (by decide)) rfl wnd5 rfl rfl hk ?_
  exact r_ret C (by decide +kernel) rfl (by decide) (by decide) (eqP hPP ⟨rfl, rfl⟩)
theorem c_X5_signAt {G : GT} {h : HP} {a j : Nat} {tp : List Nat} (hk : h.kd a = (0, 5)) (hs : h.kd (h.fr 320 a) = (8, 600)) (T : TpC tp h a) (hj : j < 2000) : Con G 1 0 0 yX5_signAt cX5_signAt 2 (some .int) [rv a, .int (nI j)] h (PI (fun v h' => nI (sg tp j) = v ∧ h = h')) := by
  refine Con.of (lv := [some (rv a), some (.int (nI j))]) (by decide) (by simp only [lvE_r, lvE_i, lvE_l, lvE_s, lvE_0]; rfl) (by simp only [lgl_r, lgl_i, lgl_l, lgl_s, lgl_0]; decide) (fun Γ C R => ?_)
  generalize hPP : (PI (fun v h' => nI (sg tp j) = v ∧ h = h')) = PP
  have h6 := T.1.1
  refine r_iload_n (q := 1) (z := 1) C 1 rfl (by decide +kernel) rfl rfl ?_
  refine r_if_lt (q := 4) (off := 27) (tgt := 28) C rfl (by decide +kernel) (by decide) (fun c1 => ?_) (fun c1 => ?_)
  · exact absurd c1 (nI_pos (by omega))
  · refine r_iload_n (q := 5) (z := 1) C 1 rfl (by decide +kernel) rfl rfl ?_
    refine r_aload_n (q := 6) (z := 0) C 0 rfl (by decide +kernel) rfl rfl ?_
    refine r_getI (q := 9) C 5 1 321 rfl (by decide +kernel) rfl (by decide) rfl rfl wf_X5_15 win5 hk ?_
    rw [T.2.1]
    refine r_icmp_ge (q := 12) (off := 19) (tgt := 28) C rfl (by decide +kernel) (by decide) (fun c9 => ?_) (fun c9 => ?_)
    · have e9 : ¬ j < tp.length := by have := (nI_leI (by omega) (by omega)).mp c9; omega
      try (rw [sg_out (Nat.le_of_not_lt e9)])
      refine r_iconst (q := 29) (z := 0) (v := 0) C rfl (by decide +kernel) (by decide) ?_
      exact r_iret C (by decide +kernel) rfl (by decide) (by decide) (eqP hPP ⟨_, rfl, ⟨by first | rfl | rw [sg_out (Nat.le_of_not_lt e9)]; rfl, rfl⟩⟩)
    · have e9 : j < tp.length := Nat.lt_of_not_le (fun e => c9 (nI_le e (by omega)))
      refine r_iload_n (q := 13) (z := 1) C 1 rfl (by decide +kernel) rfl rfl ?_
      refine r_sipush (q := 16) (z := 600) (v := 600) C rfl (by decide +kernel) (by decide) ?_
      refine r_icmp_ge (q := 19) (off := 12) (tgt := 28) C rfl (by decide +kernel) (by decide) (fun c16 => ?_) (fun c16 => ?_)
      · exact absurd ((nI_leI (a := 600) (by omega) (by omega)).mp c16) (by omega)
      · refine r_aload_n (q := 20) (z := 0) C 0 rfl (by decide +kernel) rfl rfl ?_
        refine r_getR (q := 23) C 5 0 320 rfl (by decide +kernel) rfl (by decide) rfl rfl wf_X5_9 win5 hk ?_
        refine r_iload_n (q := 24) (z := 1) C 1 rfl (by decide +kernel) rfl rfl ?_
        refine r_bald (q := 25) C rfl (by decide +kernel) hs (vp_in_nI (by omega) (by decide)) ?_
        rw [nI_clamp (by omega), T.2.2 j e9]
        refine r_goto (off := 4) (tgt := 29) C (by decide +kernel) (by decide) ?_
        exact r_iret C (by decide +kernel) rfl (by decide) (by decide) (eqP hPP ⟨_, rfl, ⟨by first | rfl | rw [sg_out (Nat.le_of_not_lt e9)]; rfl, rfl⟩⟩)
theorem c_X5_isBlank {G : GT} {h : HP} {a j : Nat} {tp : List Nat} (hk : h.kd a = (0, 5)) (hs : h.kd (h.fr 320 a) = (8, 600)) (T : TpC tp h a) (hj : j < 2000) : Con G 2 0 0 yX5_isBlank cX5_isBlank 2 (some .boolean) [rv a, .int (nI j)] h (PI (fun v h' => b2i (decide (sg tp j = 10 ∨ sg tp j = 32)) = v ∧ h = h')) := by
  refine Con.of (lv := [some (rv a), some (.int (nI j))]) (by decide) (by simp only [lvE_r, lvE_i, lvE_l, lvE_s, lvE_0]; rfl) (by simp only [lgl_r, lgl_i, lgl_l, lgl_s, lgl_0]; decide) (fun Γ C R => ?_)
  generalize hPP : (PI (fun v h' => b2i (decide (sg tp j = 10 ∨ sg tp j = 32)) = v ∧ h = h')) = PP
  have h7 := sg_lt T.1 j
  refine r_aload_n (q := 1) (z := 0) C 0 rfl (by decide +kernel) rfl rfl ?_
  refine r_iload_n (q := 2) (z := 1) C 1 rfl (by decide +kernel) rfl rfl ?_
  refine cV1I (q := 5) C R rfl (by decide +kernel) lk_X5_25 (c_X5_signAt hk hs T hj) (by decide) (by decide) (by decide) rfl (by first | exact Nat.le_of_ble_eq_true rfl | (simp only [List.map_cons, List.map_nil, List.sum_cons, List.sum_nil, rv_cat]; exact Nat.le_of_ble_eq_true rfl)) rfl hk ?_
  rintro _ _ ⟨rfl, rfl⟩
  refine r_bipush (q := 7) (z := 10) (v := 10) C rfl (by decide +kernel) (by decide) ?_
  refine r_icmp_eq (q := 10) (off := 13) (tgt := 20) C rfl (by decide +kernel) (by decide) (fun c7 => ?_) (fun c7 => ?_)
  · have c7 := (nI_eq (b := 10) (by omega) (by decide)).mp c7
    refine r_iconst (q := 21) (z := 1) (v := 1) C rfl (by decide +kernel) (by decide) ?_
    refine r_goto (off := 4) (tgt := 25) C (by decide +kernel) (by decide) ?_
    exact r_zret C (by decide +kernel) rfl (by first | decide | exact b2i_nar _) (by decide) (by decide) (eqP hPP ⟨_, rfl, ⟨by clear C R; first | exact bt (Or.inl c7) | exact bt (Or.inr c17) | exact bf (by omega), rfl⟩⟩)
  · have c7 : ¬ sg tp j = 10 := fun e => c7 (by rw [e]; rfl)
    refine r_aload_n (q := 11) (z := 0) C 0 rfl (by decide +kernel) rfl rfl ?_
    refine r_iload_n (q := 12) (z := 1) C 1 rfl (by decide +kernel) rfl rfl ?_
    refine cV1I (q := 15) C R rfl (by decide +kernel) lk_X5_25 (c_X5_signAt hk hs T hj) (by decide) (by decide) (by decide) rfl (by first | exact Nat.le_of_ble_eq_true rfl | (simp only [List.map_cons, List.map_nil, List.sum_cons, List.sum_nil, rv_cat]; exact Nat.le_of_ble_eq_true rfl)) rfl hk ?_
    rintro _ _ ⟨rfl, rfl⟩
    refine r_bipush (q := 17) (z := 32) (v := 32) C rfl (by decide +kernel) (by decide) ?_
    refine r_icmp_ne (q := 20) (off := 7) (tgt := 24) C rfl (by decide +kernel) (by decide) (fun c17 => ?_) (fun c17 => ?_)
    · have c17 : ¬ sg tp j = 32 := fun e => c17 (by rw [e]; rfl)
      refine r_iconst (q := 25) (z := 0) (v := 0) C rfl (by decide +kernel) (by decide) ?_
      exact r_zret C (by decide +kernel) rfl (by first | decide | exact b2i_nar _) (by decide) (by decide) (eqP hPP ⟨_, rfl, ⟨by clear C R; first | exact bt (Or.inl c7) | exact bt (Or.inr c17) | exact bf (by omega), rfl⟩⟩)
    · have c17 := (nI_eq (b := 32) (by omega) (by decide)).mp c17
      refine r_iconst (q := 21) (z := 1) (v := 1) C rfl (by decide +kernel) (by decide) ?_
      refine r_goto (off := 4) (tgt := 25) C (by decide +kernel) (by decide) ?_
      exact r_zret C (by decide +kernel) rfl (by first | decide | exact b2i_nar _) (by decide) (by decide) (eqP hPP ⟨_, rfl, ⟨by clear C R; first | exact bt (Or.inl c7) | exact bt (Or.inr c17) | exact bf (by omega), rfl⟩⟩)
theorem c_X5_isLetter {G : GT} {h : HP} {a j : Nat} {tp : List Nat} (hk : h.kd a = (0, 5)) (hs : h.kd (h.fr 320 a) = (8, 600)) (T : TpC tp h a) (hj : j < 2000) : Con G 2 0 0 yX5_isLetter cX5_isLetter 2 (some .boolean) [rv a, .int (nI j)] h (PI (fun v h' => b2i (isL (sg tp j)) = v ∧ h = h')) := by
  refine Con.of (lv := [some (rv a), some (.int (nI j))]) (by decide) (by simp only [lvE_r, lvE_i, lvE_l, lvE_s, lvE_0]; rfl) (by simp only [lgl_r, lgl_i, lgl_l, lgl_s, lgl_0]; decide) (fun Γ C R => ?_)
  generalize hPP : (PI (fun v h' => b2i (isL (sg tp j)) = v ∧ h = h')) = PP
  have h7 := sg_lt T.1 j
  refine r_aload_n (q := 1) (z := 0) C 0 rfl (by decide +kernel) rfl rfl ?_
  refine r_iload_n (q := 2) (z := 1) C 1 rfl (by decide +kernel) rfl rfl ?_
  refine cV1I (q := 5) C R rfl (by decide +kernel) lk_X5_25 (c_X5_signAt hk hs T hj) (by decide) (by decide) (by decide) rfl (by first | exact Nat.le_of_ble_eq_true rfl | (simp only [List.map_cons, List.map_nil, List.sum_cons, List.sum_nil, rv_cat]; exact Nat.le_of_ble_eq_true rfl)) rfl hk ?_
  rintro _ _ ⟨rfl, rfl⟩
  refine r_bipush (q := 7) (z := 97) (v := 97) C rfl (by decide +kernel) (by decide) ?_
  refine r_bipush (q := 9) (z := 122) (v := 122) C rfl (by decide +kernel) (by decide) ?_
  refine cSN3I (q := 12) C R rfl (by decide +kernel) lk_X5_21 (c_X6_isWithin ) (by decide) (by decide) (by decide) rfl (by first | exact Nat.le_of_ble_eq_true rfl | (simp only [List.map_cons, List.map_nil, List.sum_cons, List.sum_nil, rv_cat]; exact Nat.le_of_ble_eq_true rfl))  ?_
  rintro _ _ ⟨rfl, rfl⟩
  exact r_zret C (by decide +kernel) rfl (by first | decide | exact b2i_nar _) (by decide) (by decide) (eqP hPP ⟨_, rfl, ⟨by rw [isL]; exact congrArg b2i (decide_eq_decide.mpr (nI_in2 (a := 97) (b := 122) (by omega) (by decide) (by decide)).symm), rfl⟩⟩)
theorem c_X5_isDigit {G : GT} {h : HP} {a j : Nat} {tp : List Nat} (hk : h.kd a = (0, 5)) (hs : h.kd (h.fr 320 a) = (8, 600)) (T : TpC tp h a) (hj : j < 2000) : Con G 2 0 0 yX5_isDigit cX5_isDigit 2 (some .boolean) [rv a, .int (nI j)] h (PI (fun v h' => b2i (isD (sg tp j)) = v ∧ h = h')) := by
  refine Con.of (lv := [some (rv a), some (.int (nI j))]) (by decide) (by simp only [lvE_r, lvE_i, lvE_l, lvE_s, lvE_0]; rfl) (by simp only [lgl_r, lgl_i, lgl_l, lgl_s, lgl_0]; decide) (fun Γ C R => ?_)
  generalize hPP : (PI (fun v h' => b2i (isD (sg tp j)) = v ∧ h = h')) = PP
  have h7 := sg_lt T.1 j
  refine r_aload_n (q := 1) (z := 0) C 0 rfl (by decide +kernel) rfl rfl ?_
  refine r_iload_n (q := 2) (z := 1) C 1 rfl (by decide +kernel) rfl rfl ?_
  refine cV1I (q := 5) C R rfl (by decide +kernel) lk_X5_25 (c_X5_signAt hk hs T hj) (by decide) (by decide) (by decide) rfl (by first | exact Nat.le_of_ble_eq_true rfl | (simp only [List.map_cons, List.map_nil, List.sum_cons, List.sum_nil, rv_cat]; exact Nat.le_of_ble_eq_true rfl)) rfl hk ?_
  rintro _ _ ⟨rfl, rfl⟩
  refine r_bipush (q := 7) (z := 48) (v := 48) C rfl (by decide +kernel) (by decide) ?_
  refine r_bipush (q := 9) (z := 57) (v := 57) C rfl (by decide +kernel) (by decide) ?_
  refine cSN3I (q := 12) C R rfl (by decide +kernel) lk_X5_21 (c_X6_isWithin ) (by decide) (by decide) (by decide) rfl (by first | exact Nat.le_of_ble_eq_true rfl | (simp only [List.map_cons, List.map_nil, List.sum_cons, List.sum_nil, rv_cat]; exact Nat.le_of_ble_eq_true rfl))  ?_
  rintro _ _ ⟨rfl, rfl⟩
  exact r_zret C (by decide +kernel) rfl (by first | decide | exact b2i_nar _) (by decide) (by decide) (eqP hPP ⟨_, rfl, ⟨by rw [isD]; exact congrArg b2i (decide_eq_decide.mpr (nI_in2 (a := 48) (b := 57) (by omega) (by decide) (by decide)).symm), rfl⟩⟩)
theorem c_X5_addBytes {G : GT} {h : HP} {a : Nat} {tp : List Nat} {v : Int64} (hk : h.kd a = (0, 5)) (hs : h.kd (h.fr 320 a) = (8, 600)) (hg : h.gl (h.fr 320 a) = 320) (T : TpC tp h a) : Con G 2 0 0 yX5_addBytes cX5_addBytes 5 none [rv a, .long v] h (PV (fun h' => TpC (addK tp v 8) h' a ∧ Fm [320] [321] h h')) := by
  refine Con.of (lv := [some (rv a), some (.long v), none, none, none]) (by decide) (by simp only [lvE_r, lvE_i, lvE_l, lvE_s, lvE_0]; rfl) (by simp only [lgl_r, lgl_i, lgl_l, lgl_s, lgl_0]; decide) (fun Γ C R => ?_)
  generalize hPP : (PV (fun h' => TpC (addK tp v 8) h' a ∧ Fm [320] [321] h h')) = PP
  refine r_bipush (q := 2) (z := 56) (v := 56) C rfl (by decide +kernel) (by decide) ?_
  refine r_istore_n (q := 3) (z := 3) C 3 rfl (by decide +kernel) rfl (by decide) (by first | rfl | exact okst_rv rfl) ?_
  dsimp only [List.set]
  have L3 : ∀ (fuel3 : Nat) (h2 : HP) (j : Nat), 8 - j < fuel3 → (Fm [320] [321] h h2) → (TpC (addK tp v j) h2 a) → (j ≤ 8) → wX G Γ (qM G Γ PP 0 0) 0 0 (h2) 3 [some (rv a), some (.long v), none, some (.int (sh8 j)), none] [] := by
    intro fuel3
    induction fuel3 with
    | zero =>
      intro h2 j hm3
      exact absurd hm3 (Nat.not_lt_zero _)
    | succ fuel3 ih3 =>
      intro h2 j hm3 F2 T2 hj
      have hk : h2.kd a = (0, 5) := by rw [F2.1]; exact hk
      have hs : h2.kd (h2.fr 320 a) = (8, 600) := by rw [F2.1, F2.2.1]; exact hs
      have hg : h.gl (h2.fr 320 a) = 320 := by rw [F2.2.1]; exact hg
      refine r_iload_n (q := 4) (z := 3) C 3 rfl (by decide +kernel) rfl rfl ?_
      refine r_if_lt (q := 7) (off := 70) (tgt := 74) C rfl (by decide +kernel) (by decide) (fun c4 => ?_) (fun c4 => ?_)
      · have ej : j = 8 := by have := sh8_neg.mp c4; omega
        exact r_ret C (by decide +kernel) rfl (by decide) (by decide) (eqP hPP ⟨rfl, ⟨by rw [ej] at T2; exact T2, F2⟩⟩)
      · have hlt : j < 8 := Classical.not_not.mp (mt sh8_neg.mpr c4)
        refine r_lload_n (q := 8) (z := 1) C 1 rfl (by decide +kernel) rfl rfl ?_
        refine r_iload_n (q := 9) (z := 3) C 3 rfl (by decide +kernel) rfl rfl ?_
        refine r_lushr (q := 10) C rfl (by decide +kernel) ?_
        refine r_ldc2 (q := 13) C rfl (by decide +kernel) wl_X5_19 ?_
        refine r_land (q := 14) C rfl (by decide +kernel) ?_
        refine r_l2i (q := 15) C rfl (by decide +kernel) ?_
        rw [bt_ush (sh8_u j hlt)]
        obtain ⟨c, hc9⟩ : ∃ c, c = byt v (56 - 8 * j) := ⟨_, rfl⟩
        have hc := bt_lt v (56 - 8 * j)
        rw [← hc9] at hc ⊢
        refine r_istore (q := 17) C 4 rfl (by decide +kernel) (by decide) (by first | rfl | exact okst_rv rfl) ?_
        dsimp only [List.set]
        have J68 : ∀ (h3 : HP), (Fm [320] [321] h h3) → (TpC (addB (addK tp v j) c) h3 a) → wX G Γ (qM G Γ PP 0 0) 0 0 (h3) 68 [some (rv a), some (.long v), none, some (.int (sh8 j)), none] [] := by
          intro h3 F3 T3
          rw [hc9] at T3
          refine r_iinc (q := 71) (z := (-8)) (v := (-8)) C 3 rfl (by decide +kernel) rfl (by decide) (by decide) (by first | rfl | exact okst_rv rfl) ?_
          dsimp only [List.set]
          rw [sh8_s j hlt]
          refine r_goto (off := -68) (tgt := 3) C (by decide +kernel) (by decide) ?_
          exact wX.sub (lsub_s (lsub_s (lsub_n (lsub_s (lsub_n (lsub_nil)))))) (ih3 h3 (j + 1) (by omega) F3 T3 (by omega))
        have J36 : (okS c) → wX G Γ (qM G Γ PP 0 0) 0 0 (h2) 36 [some (rv a), some (.long v), none, some (.int (sh8 j)), some (.int (nI c))] [] := by
          intro  ok
          refine r_aload_n (q := 37) (z := 0) C 0 rfl (by decide +kernel) rfl rfl ?_
          refine r_getI (q := 40) C 5 1 321 rfl (by decide +kernel) rfl (by decide) rfl rfl wf_X5_15 win5 hk ?_
          rw [T2.2.1]
          have hl9 := T2.1.1
          refine r_sipush (q := 43) (z := 600) (v := 600) C rfl (by decide +kernel) (by decide) ?_
          refine r_icmp_ge (q := 46) (off := 25) (tgt := 68) C rfl (by decide +kernel) (by decide) (fun c43 => ?_) (fun c43 => ?_)
          · have c43 : ¬ (addK tp v j).length < 600 := by have := (nI_leI (a := 600) (by omega) (by omega)).mp c43; omega
            exact wX.sub (lsub_s (lsub_s (lsub_n (lsub_s (lsub_n (lsub_nil)))))) (J68 h2 F2 (by rw [addB, cif_f (fun e => absurd e.2 (by omega))]; exact T2))
          · have c43 : (addK tp v j).length < 600 := Nat.lt_of_not_le (fun e => c43 (nI_le (a := 600) e (by omega)))
            refine r_aload_n (q := 47) (z := 0) C 0 rfl (by decide +kernel) rfl rfl ?_
            refine r_getR (q := 50) C 5 0 320 rfl (by decide +kernel) rfl (by decide) rfl rfl wf_X5_9 win5 hk ?_
            refine r_aload_n (q := 51) (z := 0) C 0 rfl (by decide +kernel) rfl rfl ?_
            refine r_getI (q := 54) C 5 1 321 rfl (by decide +kernel) rfl (by decide) rfl rfl wf_X5_15 win5 hk ?_
            rw [T2.2.1]
            refine r_iload (q := 56) C 4 rfl (by decide +kernel) rfl ?_
            refine r_i2b (q := 57) C rfl (by decide +kernel) ?_
            rw [i8_b (okS_lt ok)]
            refine r_bast (q := 58) C rfl (by decide +kernel) (nar_b (okS_lt ok)) hs (vp_in_nI c43 (by decide)) ?_
            rw [stI_row, nI_clamp (by omega)]
            refine r_aload_n (q := 59) (z := 0) C 0 rfl (by decide +kernel) rfl rfl ?_
            refine r_dup (q := 60) C rfl (by decide +kernel) (by first | rfl | exact rv_cat _) ?_
            refine r_getI (q := 63) C 5 1 321 rfl (by decide +kernel) rfl (by decide) rfl rfl wf_X5_15 win5 hk ?_
            rw [fi_row, T2.2.1]
            refine r_iconst (q := 64) (z := 1) (v := 1) C rfl (by decide +kernel) (by decide) ?_
            refine r_iadd (q := 65) C rfl (by decide +kernel) ?_
            rw [nI_1]
            refine r_putI (q := 68) C 5 1 321 rfl (by decide +kernel) rfl (by decide) rfl rfl wf_X5_15 win5 tyX5 tyX5_ok nmX5 rfl (tyX5_ok 1 (by decide)) rfl wnd5 rfl rfl hk ?_
            exact wX.sub (lsub_s (lsub_s (lsub_n (lsub_s (lsub_n (lsub_nil)))))) (J68 _ (Fm.setI (Fm.row F2 (by rw [hg]; decide)) (by decide)) (by rw [addB, cif_t ⟨ok, c43⟩]; exact T2.add ok c43))
        refine r_iload (q := 19) C 4 rfl (by decide +kernel) rfl ?_
        refine r_bipush (q := 21) (z := 10) (v := 10) C rfl (by decide +kernel) (by decide) ?_
        refine r_icmp_eq (q := 24) (off := 15) (tgt := 36) C rfl (by decide +kernel) (by decide) (fun c21 => ?_) (fun c21 => ?_)
        · exact wX.sub (lsub_s (lsub_s (lsub_n (lsub_s (lsub_s (lsub_nil)))))) (J36 (Or.inl ((nI_eq (b := 10) (by omega) (by decide)).mp c21)))
        · have c21 : c ≠ 10 := fun e => c21 (by rw [e]; rfl)
          refine r_iload (q := 26) C 4 rfl (by decide +kernel) rfl ?_
          refine r_bipush (q := 28) (z := 32) (v := 32) C rfl (by decide +kernel) (by decide) ?_
          refine r_bipush (q := 30) (z := 126) (v := 126) C rfl (by decide +kernel) (by decide) ?_
          refine cSN3I (q := 33) C R rfl (by decide +kernel) lk_X5_21 (c_X6_isWithin ) (by decide) (by decide) (by decide) rfl (by first | exact Nat.le_of_ble_eq_true rfl | (simp only [List.map_cons, List.map_nil, List.sum_cons, List.sum_nil, rv_cat]; exact Nat.le_of_ble_eq_true rfl))  ?_
          rintro _ _ ⟨rfl, rfl⟩
          refine r_if_eq (q := 36) (off := 35) (tgt := 68) C rfl (by decide +kernel) (by decide) (fun c33 => ?_) (fun c33 => ?_)
          · have c33 := mt (nI_in2 (c := c) (a := 32) (b := 126) (by omega) (by decide) (by decide)).mpr (of_decide_eq_false ((b2i_0 _).mp c33))
            exact wX.sub (lsub_s (lsub_s (lsub_n (lsub_s (lsub_n (lsub_nil)))))) (J68 h2 F2 (by rw [addB, cif_f (fun e => by have := e.1; unfold okS at this; omega)]; exact T2))
          · have c33 := (nI_in2 (c := c) (a := 32) (b := 126) (by omega) (by decide) (by decide)).mp (of_decide_eq_true ((b2i_n0 _).mp c33))
            exact wX.sub (lsub_s (lsub_s (lsub_n (lsub_s (lsub_s (lsub_nil)))))) (J36 (Or.inr c33))
  exact wX.sub (lsub_s (lsub_s (lsub_n (lsub_s (lsub_n (lsub_nil)))))) (L3 9 h 0 (by omega) Fm.rf T (by omega))
