/-! the class adopts a text: law and draft change places -/
def Fx (A B : List Nat) (g : Nat) (h h' : HP) : Prop := h'.kd = h.kd ∧ h'.gl = h.gl ∧ h'.ar = h.ar ∧ (∀ f a, a ≠ g → h'.fr f a = h.fr f a) ∧ (∀ f a, f ≠ 392 → f ≠ 393 → h'.fr f a = h.fr f a) ∧ (∀ f a, f ∉ B → h'.fi f a = h.fi f a) ∧ ∀ a, h.gl a ∉ A → h'.ai a = h.ai a ∧ h'.al a = h.al a
theorem Fm.fx {A B : List Nat} {g : Nat} {h h' : HP} (F : Fm A B h h') : Fx A B g h h' := ⟨F.1, F.2.2.1, F.2.2.2.1, fun f a _ => by rw [F.2.1], fun f a _ _ => by rw [F.2.1], F.2.2.2.2.1, F.2.2.2.2.2⟩
theorem LCl.swap {kd : Nat → Nat × Nat} {gl : Nat → Nat} {fr fr' ar : Nat → Nat → Nat} {g n : Nat} {p : Nat → Nat} {L : List Nat} (hL : LCl kd gl fr ar g n p L) (E : ∀ f a, f ≠ 392 → f ≠ 393 → fr' f a = fr f a) (e2 : fr' 392 g = fr 393 g) (e3 : fr' 393 g = fr 392 g) : LCl kd gl fr' ar g n p L := by
  obtain ⟨k, hk, l1, l2⟩ := hL.lw
  have LwE : ∀ a k, LwL kd gl fr a k → LwL kd gl fr' a k := fun a k h => by
    unfold LwL at *
    rw [E 64 a (by decide) (by decide), E 66 a (by decide) (by decide), E 67 a (by decide) (by decide), E 68 a (by decide) (by decide)]; exact h
  have hG : LGn kd gl fr' (fr' 384 g) := by
    rw [E 384 g (by decide) (by decide)]
    have hg := hL.gn
    unfold LGn at *
    rw [E 0 _ (by decide) (by decide), E 1 _ (by decide) (by decide), E 2 _ (by decide) (by decide)]; exact hg
  unfold LCl
  rw [E 385 g (by decide) (by decide), E 386 g (by decide) (by decide), E 389 g (by decide) (by decide), E 390 g (by decide) (by decide), E 391 g (by decide) (by decide), E 320 _ (by decide) (by decide), E 128 _ (by decide) (by decide), E 129 _ (by decide) (by decide), E 130 _ (by decide) (by decide), E 394 g (by decide) (by decide), E 395 g (by decide) (by decide), E 396 g (by decide) (by decide)]
  exact ⟨hL.kf, hG, hL.k385, hL.g385, hL.k386, hL.g386, hL.k389, hL.g389, hL.k390, hL.k320, hL.g320, hL.k391, hL.k128, hL.g128, hL.k129, hL.g129, hL.k130, hL.g130, hL.k394, hL.g394, hL.k395, hL.g395, hL.k396, hL.g396, hL.ln, ⟨300 - k, by omega, by rw [e2]; exact LwE _ _ l2, by rw [e3, show 300 - (300 - k) = k by omega]; exact LwE _ _ l1⟩, fun r hr => by rw [E 198 (p r) (by decide) (by decide)]; exact hL.rd r hr, hL.rk⟩
theorem txv_0 {T : TT} {x : Sum Nat LW} (W : TW T) (hf : ∀ f, x = .inl f → isF T f) : (txv x = 0 → ∃ l, x = .inr l) ∧ (¬ txv x = 0 → ∃ f, x = .inl f) := by
  cases x with
  | inl f =>
    refine ⟨fun e => ?_, fun _ => ⟨f, rfl⟩⟩
    have h1 := (hf f rfl).lt W
    have e : nI f = nI 0 := e
    have := (nI_eq (by omega) (by decide)).mp e
    omega
  | inr l => exact ⟨fun _ => ⟨l, rfl⟩, fun e => absurd rfl e⟩

theorem c_X6_text {G : GT} {h : HP} {g n : Nat} {p : Nat → Nat} {L : List Nat} {tp : List Nat} {lw : LW} (hL : LCl h.kd h.gl h.fr h.ar g n p L) (T : TpC tp h (h.fr 390 g)) (Q : CLw lw h g) : Con G 23 0 0 yX6_text cX6_text 3 (some .int) [rv g] h (PI (fun v h' => ∃ x, TX (lexT tp) 0 [] x ∧ txv x = v ∧ CLw (txl lw x) h' g ∧ TpC [] h' (h'.fr 390 g) ∧ LCl h'.kd h'.gl h'.fr h'.ar g n p L ∧ Fx [128, 129, 130, 164, 166, 167, 264, 266, 267] [65, 69, 131, 132, 133, 321] g h h')) := by
  refine Con.of (lv := [some (rv g), none, none]) (by decide) (by simp only [lvE_r, lvE_i, lvE_l, lvE_s, lvE_0]; rfl) (by simp only [lgl_r, lgl_i, lgl_l, lgl_s, lgl_0]; decide) (fun Γ C R => ?_)
  generalize hPP : (PI (fun v h' => ∃ x, TX (lexT tp) 0 [] x ∧ txv x = v ∧ CLw (txl lw x) h' g ∧ TpC [] h' (h'.fr 390 g) ∧ LCl h'.kd h'.gl h'.fr h'.ar g n p L ∧ Fx [128, 129, 130, 164, 166, 167, 264, 266, 267] [65, 69, 131, 132, 133, 321] g h h')) = PP
  obtain ⟨kk, hkk, l1, l2⟩ := hL.lw
  have hR0 : RDl h (h.fr 391 g) := ⟨hL.k391, hL.k128, hL.g128, hL.k129, hL.g129, hL.k130, hL.g130⟩
  have nad : (h.fr 392 g) ≠ (h.fr 393 g) := gl_ne l1.2.1 l2.2.1 (by omega)
  refine r_aload_n (q := 1) (z := 0) C 0 rfl (by decide +kernel) rfl rfl ?_
  refine r_getR (q := 4) C 6 7 391 rfl (by decide +kernel) rfl (by decide) rfl rfl wf_X6_49 win6 hL.kf ?_
  refine r_aload_n (q := 5) (z := 0) C 0 rfl (by decide +kernel) rfl rfl ?_
  refine r_getR (q := 8) C 6 6 390 rfl (by decide +kernel) rfl (by decide) rfl rfl wf_X6_42 win6 hL.kf ?_
  refine cV1V (q := 11) C R rfl (by decide +kernel) lk_X6_178 (c_X2_scan hR0 hL.k390 hL.k320 hL.g320 T) (by decide) (by decide) (by decide) rfl (by first | exact Nat.le_of_ble_eq_true rfl | (simp only [List.map_cons, List.map_nil, List.sum_cons, List.sum_nil, rv_cat]; exact Nat.le_of_ble_eq_true rfl)) rfl hL.k391 ?_
  rintro h8 ⟨K8, F8⟩
  have hR8 := hR0.fm F8
  refine r_aload_n (q := 12) (z := 0) C 0 rfl (by decide +kernel) rfl rfl ?_
  refine r_getR (q := 15) C 6 6 390 rfl (by decide +kernel) rfl (by decide) rfl rfl wf_X6_42 win6 (by rw [F8.1]; exact hL.kf) ?_
  rw [F8.2.1]
  refine cV0V (q := 18) C R rfl (by decide +kernel) lk_X6_182 (c_X5_wipe (by rw [F8.1]; exact hL.k390)) (by decide) (by decide) (by decide) rfl (by first | exact Nat.le_of_ble_eq_true rfl | (simp only [List.map_cons, List.map_nil, List.sum_cons, List.sum_nil, rv_cat]; exact Nat.le_of_ble_eq_true rfl)) rfl (by rw [F8.1]; exact hL.k390) ?_
  rintro _ rfl
  have F9m : Fm [128, 129, 130] [131, 321] h (h8.setI 321 (h.fr 390 g) 0) := (F8.mono (by decide) (by decide)).setI (by decide)
  have K9 : CKT (lexT tp) (h8.setI 321 (h.fr 390 g) 0) (h.fr 391 g) := ⟨K8.1, (fi_ne (by decide)).trans K8.2.1, K8.2.2⟩
  have l29 : LwL (h8.setI 321 (h.fr 390 g) 0).kd (h8.setI 321 (h.fr 390 g) 0).gl (h8.setI 321 (h.fr 390 g) 0).fr (h.fr 393 g) (300 - kk) := by rw [F9m.1, F9m.2.2.1, F9m.2.1]; exact l2
  refine r_aload_n (q := 19) (z := 0) C 0 rfl (by decide +kernel) rfl rfl ?_
  refine r_getR (q := 22) C 6 7 391 rfl (by decide +kernel) rfl (by decide) rfl rfl wf_X6_49 win6 (by rw [F9m.1]; exact hL.kf) ?_
  rw [F9m.2.1]
  refine r_aload_n (q := 23) (z := 0) C 0 rfl (by decide +kernel) rfl rfl ?_
  refine r_getR (q := 26) C 6 9 393 rfl (by decide +kernel) rfl (by decide) rfl rfl wf_X6_60 win6 (by rw [F9m.1]; exact hL.kf) ?_
  rw [F9m.2.1]
  refine cV1I (q := 29) C R rfl (by decide +kernel) lk_X6_185 (c_X2_read (k := 300 - kk) (T := lexT tp) hR8 (by omega) l29 K9) (by decide) (by decide) (by decide) rfl (by first | exact Nat.le_of_ble_eq_true rfl | (simp only [List.map_cons, List.map_nil, List.sum_cons, List.sum_nil, rv_cat]; exact Nat.le_of_ble_eq_true rfl)) rfl hR8.1 ?_
  rintro _ h26 ⟨x26, X26, rfl, F26, hf26, hx26⟩
  have Ft : Fm [128, 129, 130, 164, 166, 167, 264, 266, 267] [65, 69, 131, 132, 133, 321] h h26 := (F9m.mono (by decide) (by decide)).tr (F26.1.mono (by rcases hkk with e | e <;> subst e <;> decide) (by decide))
  have hL26 : LCl h26.kd h26.gl h26.fr h26.ar g n p L := LCl.fm Ft hL
  have t26 : h26.fi 321 (h.fr 390 g) = nI 0 := by rw [F26.1.2.2.2.2.1 _ _ (by decide), fi_eq]; rfl
  obtain ⟨z1, z2⟩ := txv_0 (lex_TW T.1) hf26
  have Q9 : CL lw (h8.setI 321 (h.fr 390 g) 0) (h.fr 392 g) := Q.1.congr (F9m.2.2.2.2.1 _ _ (by decide)) (F9m.2.2.2.2.1 _ _ (by decide)) (by rw [F9m.2.1]; exact (F9m.2.2.2.2.2 _ (by rw [l1.2.2.1.2]; rcases hkk with e | e <;> subst e <;> decide)).1) (by rw [F9m.2.1]; exact (F9m.2.2.2.2.2 _ (by rw [l1.2.2.2.1.2]; rcases hkk with e | e <;> subst e <;> decide)).1) (by rw [F9m.2.1]; exact (F9m.2.2.2.2.2 _ (by rw [l1.2.2.2.2.1.2]; rcases hkk with e | e <;> subst e <;> decide)).1)
  have l19 : LwL (h8.setI 321 (h.fr 390 g) 0).kd (h8.setI 321 (h.fr 390 g) 0).gl (h8.setI 321 (h.fr 390 g) 0).fr (h.fr 392 g) kk := by rw [F9m.1, F9m.2.2.1, F9m.2.1]; exact l1
  have Q26 : CL lw h26 (h.fr 392 g) := Q9.congr (F26.2 _ nad).2 (F26.2 _ nad).1 (by rw [F26.1.2.1]; exact (F26.1.2.2.2.2.2 _ (by rw [l19.2.2.1.2]; rcases hkk with e | e <;> subst e <;> decide)).1) (by rw [F26.1.2.1]; exact (F26.1.2.2.2.2.2 _ (by rw [l19.2.2.2.1.2]; rcases hkk with e | e <;> subst e <;> decide)).1) (by rw [F26.1.2.1]; exact (F26.1.2.2.2.2.2 _ (by rw [l19.2.2.2.2.1.2]; rcases hkk with e | e <;> subst e <;> decide)).1)
  refine r_istore_n (q := 30) (z := 1) C 1 rfl (by decide +kernel) rfl (by decide) (by first | rfl | exact okst_rv rfl) ?_
  dsimp only [List.set]
  refine r_iload_n (q := 31) (z := 1) C 1 rfl (by decide +kernel) rfl rfl ?_
  refine r_if_ne (q := 34) (off := 21) (tgt := 52) C rfl (by decide +kernel) (by decide) (fun c31 => ?_) (fun c31 => ?_)
  · obtain ⟨f9, rfl⟩ := z2 c31
    refine r_iload_n (q := 53) (z := 1) C 1 rfl (by decide +kernel) rfl rfl ?_
    exact r_iret C (by decide +kernel) rfl (by decide) (by decide) (eqP hPP ⟨_, rfl, (by
          first
            | exact ⟨.inl f9, X26, rfl, ⟨by rw [Ft.2.1]; exact Q26, Q.2⟩, ⟨⟨by decide, fun j hj => absurd hj (Nat.not_lt_zero j)⟩, by rw [Ft.2.1]; exact t26, fun j hj => absurd hj (Nat.not_lt_zero j)⟩, hL26, Ft.fx⟩
            | exact ⟨.inr l9, X26, rfl, ⟨by rw [e92]; exact (hx26 l9 rfl).1.congr rfl rfl (by rw [eO _ _ (by decide) (by decide)]; rfl) (by rw [eO _ _ (by decide) (by decide)]; rfl) (by rw [eO _ _ (by decide) (by decide)]; rfl), (hx26 l9 rfl).2⟩, ⟨⟨by decide, fun j hj => absurd hj (Nat.not_lt_zero j)⟩, by rw [eO _ _ (by decide) (by decide), Ft.2.1]; exact t26, fun j hj => absurd hj (Nat.not_lt_zero j)⟩, hL26.swap eO (by rw [e92, Ft.2.1]) (by rw [e93, Ft.2.1]), ⟨Ft.1, Ft.2.2.1, Ft.2.2.2.1, fun f a h1 => by rw [eG f a h1, Ft.2.1], fun f a h1 h2 => by rw [eO f a h1 h2, Ft.2.1], Ft.2.2.2.2.1, Ft.2.2.2.2.2⟩⟩
            | (show False; done))⟩)
  · obtain ⟨l9, rfl⟩ := z1 c31
    have e92 : ((h26.setR 392 g (h.fr 393 g)).setR 393 g (h.fr 392 g)).fr 392 g = (h.fr 393 g) := by rw [fr_setR, if_neg (fun e => absurd e.1 (by decide)), fr_setR, if_pos ⟨rfl, rfl⟩]
    have e93 : ((h26.setR 392 g (h.fr 393 g)).setR 393 g (h.fr 392 g)).fr 393 g = (h.fr 392 g) := by rw [fr_setR, if_pos ⟨rfl, rfl⟩]
    have eO : ∀ f a, f ≠ 392 → f ≠ 393 → ((h26.setR 392 g (h.fr 393 g)).setR 393 g (h.fr 392 g)).fr f a = h26.fr f a := fun f a h1 h2 => by rw [fr_setR, if_neg (fun e => h2 e.1), fr_setR, if_neg (fun e => h1 e.1)]
    have eG : ∀ f a, a ≠ g → ((h26.setR 392 g (h.fr 393 g)).setR 393 g (h.fr 392 g)).fr f a = h26.fr f a := fun f a h1 => by rw [fr_setR, if_neg (fun e => h1 e.2), fr_setR, if_neg (fun e => h1 e.2)]
    refine r_aload_n (q := 35) (z := 0) C 0 rfl (by decide +kernel) rfl rfl ?_
    refine r_getR (q := 38) C 6 8 392 rfl (by decide +kernel) rfl (by decide) rfl rfl wf_X6_56 win6 hL26.kf ?_
    rw [Ft.2.1]
    refine r_astore_n (q := 39) (z := 2) C 2 rfl (by decide +kernel) rfl (by decide) (by first | rfl | exact okst_rv rfl) ?_
    dsimp only [List.set]
    refine r_aload_n (q := 40) (z := 0) C 0 rfl (by decide +kernel) rfl rfl ?_
    refine r_aload_n (q := 41) (z := 0) C 0 rfl (by decide +kernel) rfl rfl ?_
    refine r_getR (q := 44) C 6 9 393 rfl (by decide +kernel) rfl (by decide) rfl rfl wf_X6_60 win6 hL26.kf ?_
    rw [Ft.2.1]
    refine r_putR (q := 47) C 6 8 392 rfl (by decide +kernel) rfl (by decide) rfl rfl wf_X6_56 win6 tyX6 tyX6_ok nmX6 rfl (tyX6_ok 8 (by decide)) rfl wnd6 (by first | exact rv_nar_o _ _ | exact rv_nar_a _ _) (by first | exact rv_fit_o _ _ | exact rv_fit_a _ _) hL26.kf ?_
    refine r_aload_n (q := 48) (z := 0) C 0 rfl (by decide +kernel) rfl rfl ?_
    refine r_aload_n (q := 49) (z := 2) C 2 rfl (by decide +kernel) rfl rfl ?_
    refine r_putR (q := 52) C 6 9 393 rfl (by decide +kernel) rfl (by decide) rfl rfl wf_X6_60 win6 tyX6 tyX6_ok nmX6 rfl (tyX6_ok 9 (by decide)) rfl wnd6 (by first | exact rv_nar_o _ _ | exact rv_nar_a _ _) (by first | exact rv_fit_o _ _ | exact rv_fit_a _ _) hL26.kf ?_
    refine r_iload_n (q := 53) (z := 1) C 1 rfl (by decide +kernel) rfl rfl ?_
    exact r_iret C (by decide +kernel) rfl (by decide) (by decide) (eqP hPP ⟨_, rfl, (by
          first
            | exact ⟨.inl f9, X26, rfl, ⟨by rw [Ft.2.1]; exact Q26, Q.2⟩, ⟨⟨by decide, fun j hj => absurd hj (Nat.not_lt_zero j)⟩, by rw [Ft.2.1]; exact t26, fun j hj => absurd hj (Nat.not_lt_zero j)⟩, hL26, Ft.fx⟩
            | exact ⟨.inr l9, X26, rfl, ⟨by rw [e92]; exact (hx26 l9 rfl).1.congr rfl rfl (by rw [eO _ _ (by decide) (by decide)]; rfl) (by rw [eO _ _ (by decide) (by decide)]; rfl) (by rw [eO _ _ (by decide) (by decide)]; rfl), (hx26 l9 rfl).2⟩, ⟨⟨by decide, fun j hj => absurd hj (Nat.not_lt_zero j)⟩, by rw [eO _ _ (by decide) (by decide), Ft.2.1]; exact t26, fun j hj => absurd hj (Nat.not_lt_zero j)⟩, hL26.swap eO (by rw [e92, Ft.2.1]) (by rw [e93, Ft.2.1]), ⟨Ft.1, Ft.2.2.1, Ft.2.2.2.1, fun f a h1 => by rw [eG f a h1, Ft.2.1], fun f a h1 h2 => by rw [eO f a h1 h2, Ft.2.1], Ft.2.2.2.2.1, Ft.2.2.2.2.2⟩⟩
            | (show False; done))⟩)
