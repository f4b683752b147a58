/-! ===== new objects: what a constructor leaves as it was ===== -/
def Gw (a : Nat) (h h' : HP) : Prop := ∀ b, (h.kd b).1 ≠ 99 → h'.kd b = h.kd b ∧ h'.gl b = h.gl b ∧ (b ≠ a → (∀ f, h'.fi f b = h.fi f b) ∧ (∀ f, h'.fr f b = h.fr f b) ∧ h'.ai b = h.ai b ∧ h'.al b = h.al b ∧ h'.ar b = h.ar b)
theorem Gw.rf {a : Nat} {h : HP} : Gw a h h := fun _ _ => ⟨rfl, rfl, fun _ => ⟨fun _ => rfl, fun _ => rfl, rfl, rfl, rfl⟩⟩
theorem Gw.tr {a : Nat} {h h1 h2 : HP} (x : Gw a h h1) (z : Gw a h1 h2) : Gw a h h2 := fun b hb => by
  obtain ⟨x1, x2, x3⟩ := x b hb
  obtain ⟨z1, z2, z3⟩ := z b (by rw [x1]; exact hb)
  refine ⟨z1.trans x1, z2.trans x2, fun hn => ?_⟩
  obtain ⟨p1, p2, p3, p4, p5⟩ := x3 hn
  obtain ⟨q1, q2, q3, q4, q5⟩ := z3 hn
  exact ⟨fun f => (q1 f).trans (p1 f), fun f => (q2 f).trans (p2 f), q3.trans p3, q4.trans p4, q5.trans p5⟩
theorem Gw.to {a c : Nat} {h h1 h2 : HP} (hc : (h.kd c).1 = 99) (x : Gw a h h1) (z : Gw c h1 h2) : Gw a h h2 := fun b hb => by
  obtain ⟨x1, x2, x3⟩ := x b hb
  obtain ⟨z1, z2, z3⟩ := z b (by rw [x1]; exact hb)
  have hbc : b ≠ c := fun e => hb (by rw [e]; exact hc)
  obtain ⟨q1, q2, q3, q4, q5⟩ := z3 hbc
  refine ⟨z1.trans x1, z2.trans x2, fun hn => ?_⟩
  obtain ⟨p1, p2, p3, p4, p5⟩ := x3 hn
  exact ⟨fun f => (q1 f).trans (p1 f), fun f => (q2 f).trans (p2 f), q3.trans p3, q4.trans p4, q5.trans p5⟩
theorem Gw.sI {a f : Nat} {h : HP} {v : Int32} : Gw a h (h.setI f a v) := fun b _ => ⟨rfl, rfl, fun hn => ⟨fun _ => fi_ne2 hn, fun _ => rfl, rfl, rfl, rfl⟩⟩
theorem Gw.sR {a f v : Nat} {h : HP} : Gw a h (h.setR f a v) := fun b _ => ⟨rfl, rfl, fun hn => ⟨fun _ => rfl, fun f' => by rw [fr_setR, if_neg (fun e => hn e.2)], rfl, rfl, rfl⟩⟩
theorem Gw.rw_ {a : Nat} {h : HP} {q : Nat → Int32} : Gw a h (h.row a q) := fun b _ => ⟨rfl, rfl, fun hn => ⟨fun _ => rfl, fun _ => rfl, by rw [ai_row, if_neg hn], rfl, rfl⟩⟩
theorem nw_ne {h : HP} {x b : Nat} {k : Nat × Nat} {lb : Nat} (hb : b ≠ x) : (h.new x k lb).kd b = h.kd b ∧ (h.new x k lb).gl b = h.gl b ∧ (∀ f, (h.new x k lb).fi f b = h.fi f b) ∧ (∀ f, (h.new x k lb).fr f b = h.fr f b) ∧ (h.new x k lb).ai b = h.ai b ∧ (h.new x k lb).al b = h.al b ∧ (h.new x k lb).ar b = h.ar b :=
  ⟨if_neg hb, if_neg hb, fun _ => if_neg hb, fun _ => if_neg hb, by funext j; exact if_neg hb, by funext j; exact if_neg hb, by funext j; exact if_neg hb⟩
theorem nw_eq {h : HP} {x : Nat} {k : Nat × Nat} {lb : Nat} : (h.new x k lb).kd x = k ∧ (h.new x k lb).gl x = lb ∧ (∀ f, (h.new x k lb).fi f x = 0) ∧ (∀ f, (h.new x k lb).fr f x = 0) ∧ (∀ j, (h.new x k lb).ai x j = 0) ∧ (∀ j, (h.new x k lb).al x j = 0) ∧ ∀ j, (h.new x k lb).ar x j = 0 :=
  ⟨if_pos rfl, if_pos rfl, fun _ => if_pos rfl, fun _ => if_pos rfl, fun _ => if_pos rfl, fun _ => if_pos rfl, fun _ => if_pos rfl⟩
theorem Gw.nw {a x lb : Nat} {h : HP} {k : Nat × Nat} (hx : (h.kd x).1 = 99) : Gw a h (h.new x k lb) := fun b hb => by
  have hn : b ≠ x := fun e => hb (by rw [e]; exact hx)
  obtain ⟨e1, e2, e3, e4, e5, e6, e7⟩ := nw_ne (h := h) (k := k) (lb := lb) hn
  exact ⟨e1, e2, fun _ => ⟨e3, e4, e5, e6, e7⟩⟩
theorem nw_k {h : HP} {x a lb : Nat} {k z : Nat × Nat} (hx : (h.kd x).1 = 99) (ha : h.kd a = z) (hz : z.1 ≠ 99) : (h.new x k lb).kd a = z := by
  rw [(nw_ne (h := h) (k := k) (lb := lb) (show a ≠ x from fun e => hz (by rw [← ha, e]; exact hx))).1]; exact ha
theorem ne_fr {h : HP} {x a : Nat} {z : Nat × Nat} (hx : (h.kd x).1 = 99) (ha : h.kd a = z) (hz : z.1 ≠ 99) : a ≠ x := fun e => hz (by rw [← ha, e]; exact hx)
theorem gl_nw {h : HP} {x lb : Nat} {k : Nat × Nat} : (h.new x k lb).gl x = lb := if_pos rfl
/-! a new array in a field -/
theorem al_g {h : HP} {a f x lb : Nat} {k : Nat × Nat} (hx : (h.kd x).1 = 99) : Gw a h ((h.new x k lb).setR f a x) := (Gw.nw hx).tr Gw.sR
theorem al_f {h : HP} {a f x lb : Nat} {k : Nat × Nat} : ((h.new x k lb).setR f a x).fr f a = x := if_pos ⟨rfl, rfl⟩
theorem al_o {h : HP} {a f f' x lb : Nat} {k : Nat × Nat} (hn : a ≠ x) (hf : f' ≠ f) : ((h.new x k lb).setR f a x).fr f' a = h.fr f' a := by rw [fr_setR, if_neg (fun e => hf e.1)]; exact (nw_ne (h := h) (k := k) (lb := lb) hn).2.2.2.1 f'
theorem al_i {h : HP} {a f f' x lb : Nat} {k : Nat × Nat} (hn : a ≠ x) : ((h.new x k lb).setR f a x).fi f' a = h.fi f' a := (nw_ne (h := h) (k := k) (lb := lb) hn).2.2.1 f'
theorem al_k {h : HP} {a f x lb : Nat} {k : Nat × Nat} : ((h.new x k lb).setR f a x).kd x = k ∧ ((h.new x k lb).setR f a x).gl x = lb := ⟨kd_new (lb := lb), gl_nw (k := k)⟩
def spI (h : HP) (a : Nat) : HP := ((((h.setI 256 a 0).setI 257 a 0).setI 258 a 1).setI 259 a 1).setI 260 a 0
theorem spI_kd {h : HP} {a : Nat} : (spI h a).kd = h.kd := rfl
theorem spI_gl {h : HP} {a : Nat} : (spI h a).gl = h.gl := rfl
theorem gl_setR (h : HP) (g a v : Nat) : (h.setR g a v).gl = h.gl := rfl
theorem spI_g {h : HP} {a : Nat} : Gw a h (spI h a) := (((Gw.sI.tr Gw.sI).tr Gw.sI).tr Gw.sI).tr Gw.sI
/-! an object and its new arrays -/
def OI (k0 : Nat × Nat) (l : List (Nat × (Nat × Nat) × Nat)) (z : List Nat) (a : Nat) (h0 h : HP) : Prop := Gw a h0 h ∧ h.kd a = k0 ∧ (∀ q ∈ l, h.kd (h.fr q.1 a) = q.2.1 ∧ h.gl (h.fr q.1 a) = q.2.2 ∧ q.2.1.1 ≠ 99 ∧ h.fr q.1 a ≠ a ∧ (h0.kd (h.fr q.1 a)).1 = 99 ∧ (∀ j, h.ai (h.fr q.1 a) j = 0) ∧ ∀ j, h.al (h.fr q.1 a) j = 0) ∧ ∀ f ∈ z, h.fi f a = 0
theorem OI.rf {k0 : Nat × Nat} {a : Nat} {h : HP} (hk : h.kd a = k0) : OI k0 [] [] a h h := ⟨Gw.rf, hk, fun q hq => (by cases hq), fun q hq => (by cases hq)⟩
theorem OI.arr {k0 kk : Nat × Nat} {l : List (Nat × (Nat × Nat) × Nat)} {z : List Nat} {a f x lb : Nat} {h0 h : HP} (I : OI k0 l z a h0 h) (hx : (h.kd x).1 = 99) (h1 : k0.1 ≠ 99) (h2 : kk.1 ≠ 99) (hf : ∀ q ∈ l, q.1 ≠ f) : OI k0 (l ++ [(f, kk, lb)]) z a h0 ((h.new x kk lb).setR f a x) := by
  obtain ⟨G, K, l1, z1⟩ := I
  have hn : a ≠ x := ne_fr hx K h1
  refine ⟨G.tr (al_g hx), nw_k (lb := lb) hx K h1, fun q hq => ?_, fun f' hf' => (al_i (f := f) (lb := lb) (k := kk) hn).trans (z1 f' hf')⟩
  rcases List.mem_append.mp hq with hq | hq
  · obtain ⟨q1, q2, q3, q4, q7, q5, q6⟩ := l1 q hq
    rw [al_o (lb := lb) (k := kk) hn (hf q hq)]
    have hy : h.fr q.1 a ≠ x := ne_fr hx q1 q3
    obtain ⟨e1, e2, e3, e4, e5, e6, e7⟩ := nw_ne (h := h) (k := kk) (lb := lb) hy
    exact ⟨e1.trans q1, e2.trans q2, q3, q4, q7, fun j => (congrFun e5 j).trans (q5 j), fun j => (congrFun e6 j).trans (q6 j)⟩
  · rw [List.mem_singleton] at hq
    subst hq
    show ((h.new x kk lb).setR f a x).kd (((h.new x kk lb).setR f a x).fr f a) = kk ∧ ((h.new x kk lb).setR f a x).gl (((h.new x kk lb).setR f a x).fr f a) = lb ∧ kk.1 ≠ 99 ∧ ((h.new x kk lb).setR f a x).fr f a ≠ a ∧ (h0.kd (((h.new x kk lb).setR f a x).fr f a)).1 = 99 ∧ (∀ j, ((h.new x kk lb).setR f a x).ai (((h.new x kk lb).setR f a x).fr f a) j = 0) ∧ ∀ j, ((h.new x kk lb).setR f a x).al (((h.new x kk lb).setR f a x).fr f a) j = 0
    rw [al_f]
    obtain ⟨e1, e2, e3, e4, e5, e6, e7⟩ := nw_eq (h := h) (x := x) (k := kk) (lb := lb)
    have h9 : (h0.kd x).1 = 99 := Classical.byContradiction (fun e => by rw [(G x e).1] at hx; exact e hx)
    exact ⟨e1, e2, h2, Ne.symm hn, h9, e5, e6⟩
theorem OI.int {k0 : Nat × Nat} {l : List (Nat × (Nat × Nat) × Nat)} {z : List Nat} {a f : Nat} {h0 h : HP} (I : OI k0 l z a h0 h) : OI k0 l (f :: z) a h0 (h.setI f a 0) := by
  obtain ⟨G, K, l1, z1⟩ := I
  refine ⟨G.tr Gw.sI, K, l1, fun f' hf' => ?_⟩
  by_cases e : f' = f
  · rw [e, fi_eq]
  · rw [fi_ne e]
    rcases List.mem_cons.mp hf' with h | h
    · exact absurd h e
    · exact z1 f' h

theorem c_X4_init {G : GT} {h : HP} {a : Nat} (hk : h.kd a = (0, 4)) : Con G 1 0 0 yX4_init cX4_init 1 none [rv a] h (PV (fun h' => spI h a = h')) := by
  refine Con.of (lv := [some (rv a)]) (by decide) (by simp only [lvE_r, lvE_i, lvE_l, lvE_s, lvE_0]; rfl) (by simp only [lgl_r, lgl_i, lgl_l, lgl_s, lgl_0]; decide) (fun Γ C R => ?_)
  generalize hPP : (PV (fun h' => spI h a = h')) = PP
  refine r_aload_n (q := 1) (z := 0) C 0 rfl (by decide +kernel) rfl rfl ?_
  refine r_objInit (q := 4) C R rfl (by decide +kernel) wo_X4_3 wo_2 wo_5 (by decide) (by first | exact Nat.le_of_ble_eq_true rfl | (simp only [List.map_cons, List.map_nil, List.sum_cons, List.sum_nil, rv_cat]; exact Nat.le_of_ble_eq_true rfl)) hk (by decide) ?_
  refine r_aload_n (q := 5) (z := 0) C 0 rfl (by decide +kernel) rfl rfl ?_
  refine r_iconst (q := 6) (z := 0) (v := 0) C rfl (by decide +kernel) (by decide) ?_
  refine r_putI (q := 9) C 4 0 256 rfl (by decide +kernel) rfl (by decide) rfl rfl wf_X4_9 win4 tyX4 tyX4_ok nmX4 rfl (tyX4_ok 0 (by decide)) rfl wnd4 rfl rfl hk ?_
  refine r_aload_n (q := 10) (z := 0) C 0 rfl (by decide +kernel) rfl rfl ?_
  refine r_iconst (q := 11) (z := 0) (v := 0) C rfl (by decide +kernel) (by decide) ?_
  refine r_putI (q := 14) C 4 1 257 rfl (by decide +kernel) rfl (by decide) rfl rfl wf_X4_15 win4 tyX4 tyX4_ok nmX4 rfl (tyX4_ok 1 (by decide)) rfl wnd4 rfl rfl hk ?_
  refine r_aload_n (q := 15) (z := 0) C 0 rfl (by decide +kernel) rfl rfl ?_
  refine r_iconst (q := 16) (z := 1) (v := 1) C rfl (by decide +kernel) (by decide) ?_
  refine r_putI (q := 19) C 4 2 258 rfl (by decide +kernel) rfl (by decide) rfl rfl wf_X4_18 win4 tyX4 tyX4_ok nmX4 rfl (tyX4_ok 2 (by decide)) rfl wnd4 rfl rfl hk ?_
  refine r_aload_n (q := 20) (z := 0) C 0 rfl (by decide +kernel) rfl rfl ?_
  refine r_iconst (q := 21) (z := 1) (v := 1) C rfl (by decide +kernel) (by decide) ?_
  refine r_putI (q := 24) C 4 3 259 rfl (by decide +kernel) rfl (by decide) rfl rfl wf_X4_21 win4 tyX4 tyX4_ok nmX4 rfl (tyX4_ok 3 (by decide)) rfl wnd4 rfl rfl hk ?_
  refine r_aload_n (q := 25) (z := 0) C 0 rfl (by decide +kernel) rfl rfl ?_
  refine r_iconst (q := 26) (z := 0) (v := 0) C rfl (by decide +kernel) (by decide) ?_
  refine r_putI (q := 29) C 4 4 260 rfl (by decide +kernel) rfl (by decide) rfl rfl wf_X4_24 win4 tyX4 tyX4_ok nmX4 rfl (tyX4_ok 4 (by decide)) rfl wnd4 (by first | rfl | exact b2i_nar _) (by first | rfl | exact b2i_fit _) hk ?_
  exact r_ret C (by decide +kernel) rfl (by decide) (by decide) (eqP hPP ⟨rfl, rfl⟩)
theorem c_X3_init {G : GT} {h : HP} {a lb : Nat} {x0 x1 x2 x3 x4 x5 : Int32} (hk : h.kd a = (0, 3)) : Con G 2 1 5 yX3_init cX3_init 7 none [rv a, .int x0, .int x1, .int x2, .int x3, .int x4, .int x5] h (PV (fun h' => ∃ s, (h.kd s).1 = 99 ∧ Gw a h h' ∧ h'.fr 198 a = s ∧ h'.kd s = (0, 4) ∧ h'.gl s = lb ∧ h'.fi 260 s = 0 ∧ h'.fi 192 a = x0 ∧ h'.fi 193 a = x1 ∧ h'.fi 194 a = x2 ∧ h'.fi 195 a = x3 ∧ h'.fi 196 a = x4 ∧ h'.fi 197 a = x5 ∧ h'.fi 199 a = 0 ∧ h'.fi 200 a = 0 ∧ h'.fi 201 a = -1 ∧ h'.fi 202 a = 0 ∧ h'.fi 203 a = 0)) := by
  refine Con.of (lv := [some (rv a), some (.int x0), some (.int x1), some (.int x2), some (.int x3), some (.int x4), some (.int x5)]) (by decide) (by simp only [lvE_r, lvE_i, lvE_l, lvE_s, lvE_0]; rfl) (by simp only [lgl_r, lgl_i, lgl_l, lgl_s, lgl_0]; decide) (fun Γ C R => ?_)
  generalize hPP : (PV (fun h' => ∃ s, (h.kd s).1 = 99 ∧ Gw a h h' ∧ h'.fr 198 a = s ∧ h'.kd s = (0, 4) ∧ h'.gl s = lb ∧ h'.fi 260 s = 0 ∧ h'.fi 192 a = x0 ∧ h'.fi 193 a = x1 ∧ h'.fi 194 a = x2 ∧ h'.fi 195 a = x3 ∧ h'.fi 196 a = x4 ∧ h'.fi 197 a = x5 ∧ h'.fi 199 a = 0 ∧ h'.fi 200 a = 0 ∧ h'.fi 201 a = -1 ∧ h'.fi 202 a = 0 ∧ h'.fi 203 a = 0)) = PP
  refine r_aload_n (q := 1) (z := 0) C 0 rfl (by decide +kernel) rfl rfl ?_
  refine r_objInit (q := 4) C R rfl (by decide +kernel) wo_X3_3 wo_2 wo_5 (by decide) (by first | exact Nat.le_of_ble_eq_true rfl | (simp only [List.map_cons, List.map_nil, List.sum_cons, List.sum_nil, rv_cat]; exact Nat.le_of_ble_eq_true rfl)) hk (by decide) ?_
  have J15 : ∀ (h1 : HP) (s : Nat), ((h.kd s).1 = 99 ∧ Gw a h h1 ∧ h1.kd a = (0, 3) ∧ h1.fr 198 a = s ∧ h1.kd s = (0, 4) ∧ h1.gl s = lb ∧ h1.fi 260 s = 0) → wX G Γ (qM G Γ PP 1 5) 1 5 (h1) 15 [some (rv a), some (.int x0), some (.int x1), some (.int x2), some (.int x3), some (.int x4), some (.int x5)] [] := by
    intro h1 s D1
    obtain ⟨d1, G1, ka, r1, k1, g1, z1⟩ := D1
    have J40 : ∀ (h2 : HP), (Gw a h h2 ∧ h2.kd a = (0, 3) ∧ h2.fr 198 a = s ∧ h2.kd s = (0, 4) ∧ h2.gl s = lb ∧ h2.fi 260 s = 0 ∧ h2.fi 199 a = 0 ∧ h2.fi 200 a = 0 ∧ h2.fi 201 a = -1 ∧ h2.fi 202 a = 0 ∧ h2.fi 203 a = 0) → wX G Γ (qM G Γ PP 1 5) 1 5 (h2) 40 [some (rv a), some (.int x0), some (.int x1), some (.int x2), some (.int x3), some (.int x4), some (.int x5)] [] := by
      intro h2 D2
      obtain ⟨G2, ka, r2, k2, g2, z2, y1, y2, y3, y4, y5⟩ := D2
      refine r_aload_n (q := 41) (z := 0) C 0 rfl (by decide +kernel) rfl rfl ?_
      refine r_iload_n (q := 42) (z := 1) C 1 rfl (by decide +kernel) rfl rfl ?_
      refine r_putIF (q := 45) C 3 0 192 rfl (by decide +kernel) rfl (by decide) rfl rfl wf_X3_35 win3 tyX3 tyX3_ok nmX3 rfl rfl rfl (tyX3_ok 0 (by decide)) rfl wnd3 rfl rfl ka ?_
      refine r_aload_n (q := 46) (z := 0) C 0 rfl (by decide +kernel) rfl rfl ?_
      refine r_iload_n (q := 47) (z := 2) C 2 rfl (by decide +kernel) rfl rfl ?_
      refine r_putIF (q := 50) C 3 1 193 rfl (by decide +kernel) rfl (by decide) rfl rfl wf_X3_38 win3 tyX3 tyX3_ok nmX3 rfl rfl rfl (tyX3_ok 1 (by decide)) rfl wnd3 rfl rfl ka ?_
      refine r_aload_n (q := 51) (z := 0) C 0 rfl (by decide +kernel) rfl rfl ?_
      refine r_iload_n (q := 52) (z := 3) C 3 rfl (by decide +kernel) rfl rfl ?_
      refine r_putIF (q := 55) C 3 2 194 rfl (by decide +kernel) rfl (by decide) rfl rfl wf_X3_41 win3 tyX3 tyX3_ok nmX3 rfl rfl rfl (tyX3_ok 2 (by decide)) rfl wnd3 rfl rfl ka ?_
      refine r_aload_n (q := 56) (z := 0) C 0 rfl (by decide +kernel) rfl rfl ?_
      refine r_iload (q := 58) C 4 rfl (by decide +kernel) rfl ?_
      refine r_putIF (q := 61) C 3 3 195 rfl (by decide +kernel) rfl (by decide) rfl rfl wf_X3_44 win3 tyX3 tyX3_ok nmX3 rfl rfl rfl (tyX3_ok 3 (by decide)) rfl wnd3 rfl rfl ka ?_
      refine r_aload_n (q := 62) (z := 0) C 0 rfl (by decide +kernel) rfl rfl ?_
      refine r_iload (q := 64) C 5 rfl (by decide +kernel) rfl ?_
      refine r_putIF (q := 67) C 3 4 196 rfl (by decide +kernel) rfl (by decide) rfl rfl wf_X3_47 win3 tyX3 tyX3_ok nmX3 rfl rfl rfl (tyX3_ok 4 (by decide)) rfl wnd3 rfl rfl ka ?_
      refine r_aload_n (q := 68) (z := 0) C 0 rfl (by decide +kernel) rfl rfl ?_
      refine r_iload (q := 70) C 6 rfl (by decide +kernel) rfl ?_
      refine r_putIF (q := 73) C 3 5 197 rfl (by decide +kernel) rfl (by decide) rfl rfl wf_X3_50 win3 tyX3 tyX3_ok nmX3 rfl rfl rfl (tyX3_ok 5 (by decide)) rfl wnd3 rfl rfl ka ?_
      exact r_ret C (by decide +kernel) rfl (by decide) (by decide) (eqP hPP ⟨rfl, ⟨s, d1, (((((G2.tr Gw.sI).tr Gw.sI).tr Gw.sI).tr Gw.sI).tr Gw.sI).tr Gw.sI, r2, k2, g2, (fi_ne (by decide)).trans ((fi_ne (by decide)).trans ((fi_ne (by decide)).trans ((fi_ne (by decide)).trans ((fi_ne (by decide)).trans ((fi_ne (by decide)).trans (z2)))))), (fi_ne (by decide)).trans ((fi_ne (by decide)).trans ((fi_ne (by decide)).trans ((fi_ne (by decide)).trans ((fi_ne (by decide)).trans (fi_eq))))), (fi_ne (by decide)).trans ((fi_ne (by decide)).trans ((fi_ne (by decide)).trans ((fi_ne (by decide)).trans (fi_eq)))), (fi_ne (by decide)).trans ((fi_ne (by decide)).trans ((fi_ne (by decide)).trans (fi_eq))), (fi_ne (by decide)).trans ((fi_ne (by decide)).trans (fi_eq)), (fi_ne (by decide)).trans (fi_eq), fi_eq, (fi_ne (by decide)).trans ((fi_ne (by decide)).trans ((fi_ne (by decide)).trans ((fi_ne (by decide)).trans ((fi_ne (by decide)).trans ((fi_ne (by decide)).trans (y1)))))), (fi_ne (by decide)).trans ((fi_ne (by decide)).trans ((fi_ne (by decide)).trans ((fi_ne (by decide)).trans ((fi_ne (by decide)).trans ((fi_ne (by decide)).trans (y2)))))), (fi_ne (by decide)).trans ((fi_ne (by decide)).trans ((fi_ne (by decide)).trans ((fi_ne (by decide)).trans ((fi_ne (by decide)).trans ((fi_ne (by decide)).trans (y3)))))), (fi_ne (by decide)).trans ((fi_ne (by decide)).trans ((fi_ne (by decide)).trans ((fi_ne (by decide)).trans ((fi_ne (by decide)).trans ((fi_ne (by decide)).trans (y4)))))), (fi_ne (by decide)).trans ((fi_ne (by decide)).trans ((fi_ne (by decide)).trans ((fi_ne (by decide)).trans ((fi_ne (by decide)).trans ((fi_ne (by decide)).trans (y5))))))⟩⟩)
    refine r_aload_n (q := 16) (z := 0) C 0 rfl (by decide +kernel) rfl rfl ?_
    refine r_iconst (q := 17) (z := 0) (v := 0) C rfl (by decide +kernel) (by decide) ?_
    refine r_putI (q := 20) C 3 7 199 rfl (by decide +kernel) rfl (by decide) rfl rfl wf_X3_18 win3 tyX3 tyX3_ok nmX3 rfl (tyX3_ok 7 (by decide)) rfl wnd3 (by first | rfl | exact b2i_nar _) (by first | rfl | exact b2i_fit _) ka ?_
    refine r_aload_n (q := 21) (z := 0) C 0 rfl (by decide +kernel) rfl rfl ?_
    refine r_iconst (q := 22) (z := 0) (v := 0) C rfl (by decide +kernel) (by decide) ?_
    refine r_putI (q := 25) C 3 8 200 rfl (by decide +kernel) rfl (by decide) rfl rfl wf_X3_22 win3 tyX3 tyX3_ok nmX3 rfl (tyX3_ok 8 (by decide)) rfl wnd3 (by first | rfl | exact b2i_nar _) (by first | rfl | exact b2i_fit _) ka ?_
    refine r_aload_n (q := 26) (z := 0) C 0 rfl (by decide +kernel) rfl rfl ?_
    refine r_iconst (q := 27) (z := (-1)) (v := (-1)) C rfl (by decide +kernel) (by decide) ?_
    refine r_putI (q := 30) C 3 9 201 rfl (by decide +kernel) rfl (by decide) rfl rfl wf_X3_25 win3 tyX3 tyX3_ok nmX3 rfl (tyX3_ok 9 (by decide)) rfl wnd3 rfl rfl ka ?_
    refine r_aload_n (q := 31) (z := 0) C 0 rfl (by decide +kernel) rfl rfl ?_
    refine r_iconst (q := 32) (z := 0) (v := 0) C rfl (by decide +kernel) (by decide) ?_
    refine r_putI (q := 35) C 3 10 202 rfl (by decide +kernel) rfl (by decide) rfl rfl wf_X3_29 win3 tyX3 tyX3_ok nmX3 rfl (tyX3_ok 10 (by decide)) rfl wnd3 rfl rfl ka ?_
    refine r_aload_n (q := 36) (z := 0) C 0 rfl (by decide +kernel) rfl rfl ?_
    refine r_iconst (q := 37) (z := 0) (v := 0) C rfl (by decide +kernel) (by decide) ?_
    refine r_putI (q := 40) C 3 11 203 rfl (by decide +kernel) rfl (by decide) rfl rfl wf_X3_32 win3 tyX3 tyX3_ok nmX3 rfl (tyX3_ok 11 (by decide)) rfl wnd3 rfl rfl ka ?_
    exact J40 _ ⟨((((G1.tr Gw.sI).tr Gw.sI).tr Gw.sI).tr Gw.sI).tr Gw.sI, ka, r1, k1, g1, (fi_ne (by decide)).trans ((fi_ne (by decide)).trans ((fi_ne (by decide)).trans ((fi_ne (by decide)).trans ((fi_ne (by decide)).trans (z1))))), (fi_ne (by decide)).trans ((fi_ne (by decide)).trans ((fi_ne (by decide)).trans ((fi_ne (by decide)).trans (fi_eq)))), (fi_ne (by decide)).trans ((fi_ne (by decide)).trans ((fi_ne (by decide)).trans (fi_eq))), (fi_ne (by decide)).trans ((fi_ne (by decide)).trans (fi_eq)), (fi_ne (by decide)).trans (fi_eq), fi_eq⟩
  refine r_aload_n (q := 5) (z := 0) C 0 rfl (by decide +kernel) rfl rfl ?_
  refine r_new (q := 8) C R (lb) 4 rfl (by decide +kernel) rfl win4 tyX4 tyX4_ok wk_X3_9 wi_X4 wn_X4 (by decide +kernel) (by decide) (by decide) ?_
  intro a5 e5
  have ka : (h.new a5 (0, 4) lb).kd a = (0, 3) := nw_k (lb := lb) e5 hk (by decide)
  refine r_dup (q := 9) C rfl (by decide +kernel) (by first | rfl | exact rv_cat _) ?_
  refine cIN0V (q := 12) C R rfl (by decide +kernel) lk_X3_11 (c_X4_init (kd_new (h := h) (lb := lb))) (by decide) (by decide) (by decide) rfl (by first | exact Nat.le_of_ble_eq_true rfl | (simp only [List.map_cons, List.map_nil, List.sum_cons, List.sum_nil, rv_cat]; exact Nat.le_of_ble_eq_true rfl)) (kd_new (h := h) (lb := lb)) (by decide) ?_
  rintro _ rfl
  refine r_putRF (q := 15) C 3 6 198 rfl (by decide +kernel) rfl (by decide) rfl rfl wf_X3_12 win3 tyX3 tyX3_ok nmX3 rfl rfl rfl (tyX3_ok 6 (by decide)) rfl wnd3 (by first | exact rv_nar_o _ _ | exact rv_nar_a _ _) (by first | exact rv_fit_o _ _ | exact rv_fit_a _ _) ka ?_
  exact J15 _ a5 ⟨e5, (Gw.to e5 (Gw.nw (k := (0, 4)) (lb := lb) e5) spI_g).tr Gw.sR, (by rw [kd_setR, spI_kd]; exact ka), if_pos ⟨rfl, rfl⟩, (by rw [kd_setR, spI_kd]; exact kd_new (lb := lb)), (by rw [gl_setR, spI_gl]; exact gl_nw (k := (0, 4))), (by rw [fi_setR]; exact fi_eq)⟩
theorem c_X5_init {G : GT} {h : HP} {a : Nat} (hk : h.kd a = (0, 5)) : Con G 1 1 600 yX5_init cX5_init 1 none [rv a] h (PV (fun h' => Gw a h h' ∧ h'.kd (h'.fr 320 a) = (8, 600) ∧ h'.gl (h'.fr 320 a) = 320 ∧ h'.fi 321 a = 0)) := by
  refine Con.of (lv := [some (rv a)]) (by decide) (by simp only [lvE_r, lvE_i, lvE_l, lvE_s, lvE_0]; rfl) (by simp only [lgl_r, lgl_i, lgl_l, lgl_s, lgl_0]; decide) (fun Γ C R => ?_)
  generalize hPP : (PV (fun h' => Gw a h h' ∧ h'.kd (h'.fr 320 a) = (8, 600) ∧ h'.gl (h'.fr 320 a) = 320 ∧ h'.fi 321 a = 0)) = PP
  refine r_aload_n (q := 1) (z := 0) C 0 rfl (by decide +kernel) rfl rfl ?_
  refine r_objInit (q := 4) C R rfl (by decide +kernel) wo_X5_3 wo_2 wo_5 (by decide) (by first | exact Nat.le_of_ble_eq_true rfl | (simp only [List.map_cons, List.map_nil, List.sum_cons, List.sum_nil, rv_cat]; exact Nat.le_of_ble_eq_true rfl)) hk (by decide) ?_
  refine r_aload_n (q := 5) (z := 0) C 0 rfl (by decide +kernel) rfl rfl ?_
  refine r_sipush (q := 8) (z := 600) (v := 600) C rfl (by decide +kernel) (by decide) ?_
  refine r_newaB (q := 10) (z := 600) C R (320) rfl (by decide +kernel) wa_byte (by decide) (by decide) (by decide) (by decide) (by decide) ?_
  intro a8 e8
  refine r_putRF (q := 13) C 5 0 320 rfl (by decide +kernel) rfl (by decide) rfl rfl wf_X5_9 win5 tyX5 tyX5_ok nmX5 rfl rfl rfl (tyX5_ok 0 (by decide)) rfl wnd5 (by first | exact rv_nar_o _ _ | exact rv_nar_a _ _) (by first | exact rv_fit_o _ _ | exact rv_fit_a _ _) (nw_k (lb := 320) e8 hk (by decide)) ?_
  refine r_aload_n (q := 14) (z := 0) C 0 rfl (by decide +kernel) rfl rfl ?_
  refine r_iconst (q := 15) (z := 0) (v := 0) C rfl (by decide +kernel) (by decide) ?_
  refine r_putI (q := 18) C 5 1 321 rfl (by decide +kernel) rfl (by decide) rfl rfl wf_X5_15 win5 tyX5 tyX5_ok nmX5 rfl (tyX5_ok 1 (by decide)) rfl wnd5 rfl rfl (nw_k (lb := 320) e8 hk (by decide)) ?_
  exact r_ret C (by decide +kernel) rfl (by decide) (by decide) (eqP hPP ⟨rfl, ⟨(al_g (f := 320) (k := (8, 600)) (lb := 320) e8).tr Gw.sI, (by show ((h.new a8 (8, 600) 320).setR 320 a a8).kd (((h.new a8 (8, 600) 320).setR 320 a a8).fr 320 a) = _; rw [al_f]; exact al_k.1), (by show ((h.new a8 (8, 600) 320).setR 320 a a8).gl (((h.new a8 (8, 600) 320).setR 320 a a8).fr 320 a) = _; rw [al_f]; exact al_k.2), fi_eq⟩⟩)
theorem c_X1_init {G : GT} {h : HP} {a k : Nat} (hk : h.kd a = (0, 1)) (hg : h.gl a = k + 61) : Con G 1 4 648 yX1_init cX1_init 1 none [rv a] h (PV (fun h' => Gw a h h' ∧ LwL h'.kd h'.gl h'.fr a k ∧ CL [] h' a)) := by
  refine Con.of (lv := [some (rv a)]) (by decide) (by simp only [lvE_r, lvE_i, lvE_l, lvE_s, lvE_0]; rfl) (by simp only [lgl_r, lgl_i, lgl_l, lgl_s, lgl_0]; decide) (fun Γ C R => ?_)
  generalize hPP : (PV (fun h' => Gw a h h' ∧ LwL h'.kd h'.gl h'.fr a k ∧ CL [] h' a)) = PP
  have I0 := OI.rf hk
  refine r_aload_n (q := 1) (z := 0) C 0 rfl (by decide +kernel) rfl rfl ?_
  refine r_objInit (q := 4) C R rfl (by decide +kernel) wo_X1_3 wo_2 wo_5 (by decide) (by first | exact Nat.le_of_ble_eq_true rfl | (simp only [List.map_cons, List.map_nil, List.sum_cons, List.sum_nil, rv_cat]; exact Nat.le_of_ble_eq_true rfl)) hk (by decide) ?_
  have J13 : ∀ (h1 : HP), (OI (0, 1) [(64, (9, 600), k + 64)] [] a h h1) → wX G Γ (qM G Γ PP 4 648) 1 600 (h1) 13 [some (rv a)] [] := by
    intro h1 I1
    have J18 : ∀ (h2 : HP), (OI (0, 1) [(64, (9, 600), k + 64)] [65] a h h2) → wX G Γ (qM G Γ PP 4 648) 1 600 (h2) 18 [some (rv a)] [] := by
      intro h2 I2
      have J26 : ∀ (h3 : HP), (OI (0, 1) [(64, (9, 600), k + 64), (66, (9, 16), k + 66)] [65] a h h3) → wX G Γ (qM G Γ PP 4 648) 2 616 (h3) 26 [some (rv a)] [] := by
        intro h3 I3
        have J34 : ∀ (h4 : HP), (OI (0, 1) [(64, (9, 600), k + 64), (66, (9, 16), k + 66), (67, (11, 16), k + 67)] [65] a h h4) → wX G Γ (qM G Γ PP 4 648) 3 632 (h4) 34 [some (rv a)] [] := by
          intro h4 I4
          have J42 : ∀ (h5 : HP), (OI (0, 1) [(64, (9, 600), k + 64), (66, (9, 16), k + 66), (67, (11, 16), k + 67), (68, (9, 16), k + 68)] [65] a h h5) → wX G Γ (qM G Γ PP 4 648) 4 648 (h5) 42 [some (rv a)] [] := by
            intro h5 I5
            have J47 : ∀ (h6 : HP), (OI (0, 1) [(64, (9, 600), k + 64), (66, (9, 16), k + 66), (67, (11, 16), k + 67), (68, (9, 16), k + 68)] [69, 65] a h h6) → wX G Γ (qM G Γ PP 4 648) 4 648 (h6) 47 [some (rv a)] [] := by
              intro h6 I6
              exact r_ret C (by decide +kernel) rfl (by decide) (by decide) (eqP hPP ⟨rfl, ⟨I6.1, ⟨I6.2.1, (I6.1 a (by rw [hk]; decide)).2.1.trans hg, ⟨(I6.2.2.1 (64, (9, 600), k + 64) (by simp)).1, (I6.2.2.1 (64, (9, 600), k + 64) (by simp)).2.1⟩, ⟨(I6.2.2.1 (66, (9, 16), k + 66) (by simp)).1, (I6.2.2.1 (66, (9, 16), k + 66) (by simp)).2.1⟩, ⟨(I6.2.2.1 (67, (11, 16), k + 67) (by simp)).1, (I6.2.2.1 (67, (11, 16), k + 67) (by simp)).2.1⟩, (I6.2.2.1 (68, (9, 16), k + 68) (by simp)).1, (I6.2.2.1 (68, (9, 16), k + 68) (by simp)).2.1⟩, ⟨by decide, by decide, I6.2.2.2 69 (by simp), I6.2.2.2 65 (by simp), fun j ln hj => by simp at hj⟩⟩⟩)
            refine r_aload_n (q := 43) (z := 0) C 0 rfl (by decide +kernel) rfl rfl ?_
            refine r_iconst (q := 44) (z := 0) (v := 0) C rfl (by decide +kernel) (by decide) ?_
            refine r_putI (q := 47) C 1 5 69 rfl (by decide +kernel) rfl (by decide) rfl rfl wf_X1_29 win1 tyX1 tyX1_ok nmX1 rfl (tyX1_ok 5 (by decide)) rfl wnd1 rfl rfl I5.2.1 ?_
            exact J47 _ (OI.int (f := 69) I5)
          refine r_aload_n (q := 35) (z := 0) C 0 rfl (by decide +kernel) rfl rfl ?_
          refine r_bipush (q := 37) (z := 16) (v := 16) C rfl (by decide +kernel) (by decide) ?_
          refine r_newaI (q := 39) (z := 16) C R (k + 68) rfl (by decide +kernel) wa_int (by decide) (by decide) (by decide) (by decide) (by decide) ?_
          intro a37 e37
          refine r_putRF (q := 42) C 1 4 68 rfl (by decide +kernel) rfl (by decide) rfl rfl wf_X1_26 win1 tyX1 tyX1_ok nmX1 rfl rfl rfl (tyX1_ok 4 (by decide)) rfl wnd1 (by first | exact rv_nar_o _ _ | exact rv_nar_a _ _) (by first | exact rv_fit_o _ _ | exact rv_fit_a _ _) (nw_k (lb := k + 68) e37 I4.2.1 (by decide)) ?_
          exact J42 _ (OI.arr (f := 68) (lb := k + 68) I4 e37 (by decide) (by decide) (by simp))
        refine r_aload_n (q := 27) (z := 0) C 0 rfl (by decide +kernel) rfl rfl ?_
        refine r_bipush (q := 29) (z := 16) (v := 16) C rfl (by decide +kernel) (by decide) ?_
        refine r_newaZ (q := 31) (z := 16) C R (k + 67) rfl (by decide +kernel) wa_boolean (by decide) (by decide) (by decide) (by decide) (by decide) ?_
        intro a29 e29
        refine r_putRF (q := 34) C 1 3 67 rfl (by decide +kernel) rfl (by decide) rfl rfl wf_X1_22 win1 tyX1 tyX1_ok nmX1 rfl rfl rfl (tyX1_ok 3 (by decide)) rfl wnd1 (by first | exact rv_nar_o _ _ | exact rv_nar_a _ _) (by first | exact rv_fit_o _ _ | exact rv_fit_a _ _) (nw_k (lb := k + 67) e29 I3.2.1 (by decide)) ?_
        exact J34 _ (OI.arr (f := 67) (lb := k + 67) I3 e29 (by decide) (by decide) (by simp))
      refine r_aload_n (q := 19) (z := 0) C 0 rfl (by decide +kernel) rfl rfl ?_
      refine r_bipush (q := 21) (z := 16) (v := 16) C rfl (by decide +kernel) (by decide) ?_
      refine r_newaI (q := 23) (z := 16) C R (k + 66) rfl (by decide +kernel) wa_int (by decide) (by decide) (by decide) (by decide) (by decide) ?_
      intro a21 e21
      refine r_putRF (q := 26) C 1 2 66 rfl (by decide +kernel) rfl (by decide) rfl rfl wf_X1_19 win1 tyX1 tyX1_ok nmX1 rfl rfl rfl (tyX1_ok 2 (by decide)) rfl wnd1 (by first | exact rv_nar_o _ _ | exact rv_nar_a _ _) (by first | exact rv_fit_o _ _ | exact rv_fit_a _ _) (nw_k (lb := k + 66) e21 I2.2.1 (by decide)) ?_
      exact J26 _ (OI.arr (f := 66) (lb := k + 66) I2 e21 (by decide) (by decide) (by simp))
    refine r_aload_n (q := 14) (z := 0) C 0 rfl (by decide +kernel) rfl rfl ?_
    refine r_iconst (q := 15) (z := 0) (v := 0) C rfl (by decide +kernel) (by decide) ?_
    refine r_putI (q := 18) C 1 1 65 rfl (by decide +kernel) rfl (by decide) rfl rfl wf_X1_15 win1 tyX1 tyX1_ok nmX1 rfl (tyX1_ok 1 (by decide)) rfl wnd1 rfl rfl I1.2.1 ?_
    exact J18 _ (OI.int (f := 65) I1)
  refine r_aload_n (q := 5) (z := 0) C 0 rfl (by decide +kernel) rfl rfl ?_
  refine r_sipush (q := 8) (z := 600) (v := 600) C rfl (by decide +kernel) (by decide) ?_
  refine r_newaI (q := 10) (z := 600) C R (k + 64) rfl (by decide +kernel) wa_int (by decide) (by decide) (by decide) (by decide) (by decide) ?_
  intro a8 e8
  refine r_putRF (q := 13) C 1 0 64 rfl (by decide +kernel) rfl (by decide) rfl rfl wf_X1_9 win1 tyX1 tyX1_ok nmX1 rfl rfl rfl (tyX1_ok 0 (by decide)) rfl wnd1 (by first | exact rv_nar_o _ _ | exact rv_nar_a _ _) (by first | exact rv_fit_o _ _ | exact rv_fit_a _ _) (nw_k (lb := k + 64) e8 I0.2.1 (by decide)) ?_
  exact J13 _ (OI.arr (f := 64) (lb := k + 64) I0 e8 (by decide) (by decide) (by simp))
theorem c_X2_init {G : GT} {h : HP} {a : Nat} (hk : h.kd a = (0, 2)) : Con G 1 3 1803 yX2_init cX2_init 1 none [rv a] h (PV (fun h' => Gw a h h' ∧ RDl h' a)) := by
  refine Con.of (lv := [some (rv a)]) (by decide) (by simp only [lvE_r, lvE_i, lvE_l, lvE_s, lvE_0]; rfl) (by simp only [lgl_r, lgl_i, lgl_l, lgl_s, lgl_0]; decide) (fun Γ C R => ?_)
  generalize hPP : (PV (fun h' => Gw a h h' ∧ RDl h' a)) = PP
  have I0 := OI.rf hk
  refine r_aload_n (q := 1) (z := 0) C 0 rfl (by decide +kernel) rfl rfl ?_
  refine r_objInit (q := 4) C R rfl (by decide +kernel) wo_X2_3 wo_2 wo_5 (by decide) (by first | exact Nat.le_of_ble_eq_true rfl | (simp only [List.map_cons, List.map_nil, List.sum_cons, List.sum_nil, rv_cat]; exact Nat.le_of_ble_eq_true rfl)) hk (by decide) ?_
  have J13 : ∀ (h1 : HP), (OI (0, 2) [(128, (9, 601), 128)] [] a h h1) → wX G Γ (qM G Γ PP 3 1803) 1 601 (h1) 13 [some (rv a)] [] := by
    intro h1 I1
    have J22 : ∀ (h2 : HP), (OI (0, 2) [(128, (9, 601), 128), (129, (9, 601), 129)] [] a h h2) → wX G Γ (qM G Γ PP 3 1803) 2 1202 (h2) 22 [some (rv a)] [] := by
      intro h2 I2
      have J31 : ∀ (h3 : HP), (OI (0, 2) [(128, (9, 601), 128), (129, (9, 601), 129), (130, (9, 601), 130)] [] a h h3) → wX G Γ (qM G Γ PP 3 1803) 3 1803 (h3) 31 [some (rv a)] [] := by
        intro h3 I3
        have J36 : ∀ (h4 : HP), (OI (0, 2) [(128, (9, 601), 128), (129, (9, 601), 129), (130, (9, 601), 130)] [131] a h h4) → wX G Γ (qM G Γ PP 3 1803) 3 1803 (h4) 36 [some (rv a)] [] := by
          intro h4 I4
          have J41 : ∀ (h5 : HP), (OI (0, 2) [(128, (9, 601), 128), (129, (9, 601), 129), (130, (9, 601), 130)] [132, 131] a h h5) → wX G Γ (qM G Γ PP 3 1803) 3 1803 (h5) 41 [some (rv a)] [] := by
            intro h5 I5
            have J46 : ∀ (h6 : HP), (OI (0, 2) [(128, (9, 601), 128), (129, (9, 601), 129), (130, (9, 601), 130)] [133, 132, 131] a h h6) → wX G Γ (qM G Γ PP 3 1803) 3 1803 (h6) 46 [some (rv a)] [] := by
              intro h6 I6
              exact r_ret C (by decide +kernel) rfl (by decide) (by decide) (eqP hPP ⟨rfl, ⟨I6.1, ⟨I6.2.1, (I6.2.2.1 (128, (9, 601), 128) (by simp)).1, (I6.2.2.1 (128, (9, 601), 128) (by simp)).2.1, (I6.2.2.1 (129, (9, 601), 129) (by simp)).1, (I6.2.2.1 (129, (9, 601), 129) (by simp)).2.1, (I6.2.2.1 (130, (9, 601), 130) (by simp)).1, (I6.2.2.1 (130, (9, 601), 130) (by simp)).2.1⟩⟩⟩)
            refine r_aload_n (q := 42) (z := 0) C 0 rfl (by decide +kernel) rfl rfl ?_
            refine r_iconst (q := 43) (z := 0) (v := 0) C rfl (by decide +kernel) (by decide) ?_
            refine r_putI (q := 46) C 2 5 133 rfl (by decide +kernel) rfl (by decide) rfl rfl wf_X2_28 win2 tyX2 tyX2_ok nmX2 rfl (tyX2_ok 5 (by decide)) rfl wnd2 rfl rfl I5.2.1 ?_
            exact J46 _ (OI.int (f := 133) I5)
          refine r_aload_n (q := 37) (z := 0) C 0 rfl (by decide +kernel) rfl rfl ?_
          refine r_iconst (q := 38) (z := 0) (v := 0) C rfl (by decide +kernel) (by decide) ?_
          refine r_putI (q := 41) C 2 4 132 rfl (by decide +kernel) rfl (by decide) rfl rfl wf_X2_25 win2 tyX2 tyX2_ok nmX2 rfl (tyX2_ok 4 (by decide)) rfl wnd2 rfl rfl I4.2.1 ?_
          exact J41 _ (OI.int (f := 132) I4)
        refine r_aload_n (q := 32) (z := 0) C 0 rfl (by decide +kernel) rfl rfl ?_
        refine r_iconst (q := 33) (z := 0) (v := 0) C rfl (by decide +kernel) (by decide) ?_
        refine r_putI (q := 36) C 2 3 131 rfl (by decide +kernel) rfl (by decide) rfl rfl wf_X2_21 win2 tyX2 tyX2_ok nmX2 rfl (tyX2_ok 3 (by decide)) rfl wnd2 rfl rfl I3.2.1 ?_
        exact J36 _ (OI.int (f := 131) I3)
      refine r_aload_n (q := 23) (z := 0) C 0 rfl (by decide +kernel) rfl rfl ?_
      refine r_sipush (q := 26) (z := 601) (v := 601) C rfl (by decide +kernel) (by decide) ?_
      refine r_newaI (q := 28) (z := 601) C R (130) rfl (by decide +kernel) wa_int (by decide) (by decide) (by decide) (by decide) (by decide) ?_
      intro a26 e26
      refine r_putRF (q := 31) C 2 2 130 rfl (by decide +kernel) rfl (by decide) rfl rfl wf_X2_18 win2 tyX2 tyX2_ok nmX2 rfl rfl rfl (tyX2_ok 2 (by decide)) rfl wnd2 (by first | exact rv_nar_o _ _ | exact rv_nar_a _ _) (by first | exact rv_fit_o _ _ | exact rv_fit_a _ _) (nw_k (lb := 130) e26 I2.2.1 (by decide)) ?_
      exact J31 _ (OI.arr (f := 130) (lb := 130) I2 e26 (by decide) (by decide) (by simp))
    refine r_aload_n (q := 14) (z := 0) C 0 rfl (by decide +kernel) rfl rfl ?_
    refine r_sipush (q := 17) (z := 601) (v := 601) C rfl (by decide +kernel) (by decide) ?_
    refine r_newaI (q := 19) (z := 601) C R (129) rfl (by decide +kernel) wa_int (by decide) (by decide) (by decide) (by decide) (by decide) ?_
    intro a17 e17
    refine r_putRF (q := 22) C 2 1 129 rfl (by decide +kernel) rfl (by decide) rfl rfl wf_X2_15 win2 tyX2 tyX2_ok nmX2 rfl rfl rfl (tyX2_ok 1 (by decide)) rfl wnd2 (by first | exact rv_nar_o _ _ | exact rv_nar_a _ _) (by first | exact rv_fit_o _ _ | exact rv_fit_a _ _) (nw_k (lb := 129) e17 I1.2.1 (by decide)) ?_
    exact J22 _ (OI.arr (f := 129) (lb := 129) I1 e17 (by decide) (by decide) (by simp))
  refine r_aload_n (q := 5) (z := 0) C 0 rfl (by decide +kernel) rfl rfl ?_
  refine r_sipush (q := 8) (z := 601) (v := 601) C rfl (by decide +kernel) (by decide) ?_
  refine r_newaI (q := 10) (z := 601) C R (128) rfl (by decide +kernel) wa_int (by decide) (by decide) (by decide) (by decide) (by decide) ?_
  intro a8 e8
  refine r_putRF (q := 13) C 2 0 128 rfl (by decide +kernel) rfl (by decide) rfl rfl wf_X2_9 win2 tyX2 tyX2_ok nmX2 rfl rfl rfl (tyX2_ok 0 (by decide)) rfl wnd2 (by first | exact rv_nar_o _ _ | exact rv_nar_a _ _) (by first | exact rv_fit_o _ _ | exact rv_fit_a _ _) (nw_k (lb := 128) e8 I0.2.1 (by decide)) ?_
  exact J13 _ (OI.arr (f := 128) (lb := 128) I0 e8 (by decide) (by decide) (by simp))
theorem c_X0_init {G : GT} {h : HP} {a : Nat} (hk : h.kd a = (0, 0)) : Con G 2 3 360 yX0_init cX0_init 1 none [rv a] h (PV (fun h' => Gw a h h' ∧ LGn h'.kd h'.gl h'.fr a ∧ h'.fi 4 a = 0 ∧ ∀ c, c < 120 → h'.ai (h'.fr 0 a) c = -1)) := by
  refine Con.of (lv := [some (rv a)]) (by decide) (by simp only [lvE_r, lvE_i, lvE_l, lvE_s, lvE_0]; rfl) (by simp only [lgl_r, lgl_i, lgl_l, lgl_s, lgl_0]; decide) (fun Γ C R => ?_)
  generalize hPP : (PV (fun h' => Gw a h h' ∧ LGn h'.kd h'.gl h'.fr a ∧ h'.fi 4 a = 0 ∧ ∀ c, c < 120 → h'.ai (h'.fr 0 a) c = -1)) = PP
  have I0 := OI.rf hk
  refine r_aload_n (q := 1) (z := 0) C 0 rfl (by decide +kernel) rfl rfl ?_
  refine r_objInit (q := 4) C R rfl (by decide +kernel) wo_X0_3 wo_2 wo_5 (by decide) (by first | exact Nat.le_of_ble_eq_true rfl | (simp only [List.map_cons, List.map_nil, List.sum_cons, List.sum_nil, rv_cat]; exact Nat.le_of_ble_eq_true rfl)) hk (by decide) ?_
  have J12 : ∀ (h1 : HP), (OI (0, 0) [(0, (9, 120), 1)] [] a h h1) → wX G Γ (qM G Γ PP 3 360) 1 120 (h1) 12 [some (rv a)] [] := by
    intro h1 I1
    have J20 : ∀ (h2 : HP), (OI (0, 0) [(0, (9, 120), 1), (1, (9, 120), 2)] [] a h h2) → wX G Γ (qM G Γ PP 3 360) 2 240 (h2) 20 [some (rv a)] [] := by
      intro h2 I2
      have J28 : ∀ (h3 : HP), (OI (0, 0) [(0, (9, 120), 1), (1, (9, 120), 2), (2, (9, 120), 3)] [] a h h3) → wX G Γ (qM G Γ PP 3 360) 3 360 (h3) 28 [some (rv a)] [] := by
        intro h3 I3
        have J33 : ∀ (h4 : HP), (OI (0, 0) [(0, (9, 120), 1), (1, (9, 120), 2), (2, (9, 120), 3)] [3] a h h4) → wX G Γ (qM G Γ PP 3 360) 3 360 (h4) 33 [some (rv a)] [] := by
          intro h4 I4
          have J38 : ∀ (h5 : HP), (OI (0, 0) [(0, (9, 120), 1), (1, (9, 120), 2), (2, (9, 120), 3)] [4, 3] a h h5) → wX G Γ (qM G Γ PP 3 360) 3 360 (h5) 38 [some (rv a)] [] := by
            intro h5 I5
            refine r_aload_n (q := 39) (z := 0) C 0 rfl (by decide +kernel) rfl rfl ?_
            refine r_getR (q := 42) C 0 0 0 rfl (by decide +kernel) rfl (by decide) rfl rfl wf_X0_9 win0 I5.2.1 ?_
            refine r_iconst (q := 43) (z := (-1)) (v := (-1)) C rfl (by decide +kernel) (by decide) ?_
            refine cS2V (q := 46) C R rfl (by decide +kernel) lk_X0_28 (c_J7_fill_53178 (z := 120) (I5.2.2.1 (0, (9, 120), 1) (by simp)).1 (by decide)) (by decide) (by decide) (by decide) rfl (by first | exact Nat.le_of_ble_eq_true rfl | (simp only [List.map_cons, List.map_nil, List.sum_cons, List.sum_nil, rv_cat]; exact Nat.le_of_ble_eq_true rfl))  ?_
            rintro _ rfl
            exact r_ret C (by decide +kernel) rfl (by decide) (by decide) (eqP hPP ⟨rfl, ⟨Gw.to (I5.2.2.1 (0, (9, 120), 1) (by simp)).2.2.2.2.1 I5.1 Gw.rw_, ⟨I5.2.1, (I5.2.2.1 (0, (9, 120), 1) (by simp)).1, (I5.2.2.1 (1, (9, 120), 2) (by simp)).1, (I5.2.2.1 (2, (9, 120), 3) (by simp)).1, (I5.2.2.1 (0, (9, 120), 1) (by simp)).2.1, (I5.2.2.1 (1, (9, 120), 2) (by simp)).2.1, (I5.2.2.1 (2, (9, 120), 3) (by simp)).2.1⟩, I5.2.2.2 4 (by simp), fun c hc => by show (h5.row (h5.fr 0 a) (mix (fun _ => -1) (h5.ai (h5.fr 0 a)) 120)).ai (h5.fr 0 a) c = -1; rw [ai_row_eq]; exact mix_in hc⟩⟩)
          refine r_aload_n (q := 34) (z := 0) C 0 rfl (by decide +kernel) rfl rfl ?_
          refine r_iconst (q := 35) (z := 0) (v := 0) C rfl (by decide +kernel) (by decide) ?_
          refine r_putI (q := 38) C 0 4 4 rfl (by decide +kernel) rfl (by decide) rfl rfl wf_X0_25 win0 tyX0 tyX0_ok nmX0 rfl (tyX0_ok 4 (by decide)) rfl wnd0 rfl rfl I4.2.1 ?_
          exact J38 _ (OI.int (f := 4) I4)
        refine r_aload_n (q := 29) (z := 0) C 0 rfl (by decide +kernel) rfl rfl ?_
        refine r_iconst (q := 30) (z := 0) (v := 0) C rfl (by decide +kernel) (by decide) ?_
        refine r_putI (q := 33) C 0 3 3 rfl (by decide +kernel) rfl (by decide) rfl rfl wf_X0_21 win0 tyX0 tyX0_ok nmX0 rfl (tyX0_ok 3 (by decide)) rfl wnd0 rfl rfl I3.2.1 ?_
        exact J33 _ (OI.int (f := 3) I3)
      refine r_aload_n (q := 21) (z := 0) C 0 rfl (by decide +kernel) rfl rfl ?_
      refine r_bipush (q := 23) (z := 120) (v := 120) C rfl (by decide +kernel) (by decide) ?_
      refine r_newaI (q := 25) (z := 120) C R (3) rfl (by decide +kernel) wa_int (by decide) (by decide) (by decide) (by decide) (by decide) ?_
      intro a23 e23
      refine r_putRF (q := 28) C 0 2 2 rfl (by decide +kernel) rfl (by decide) rfl rfl wf_X0_18 win0 tyX0 tyX0_ok nmX0 rfl rfl rfl (tyX0_ok 2 (by decide)) rfl wnd0 (by first | exact rv_nar_o _ _ | exact rv_nar_a _ _) (by first | exact rv_fit_o _ _ | exact rv_fit_a _ _) (nw_k (lb := 3) e23 I2.2.1 (by decide)) ?_
      exact J28 _ (OI.arr (f := 2) (lb := 3) I2 e23 (by decide) (by decide) (by simp))
    refine r_aload_n (q := 13) (z := 0) C 0 rfl (by decide +kernel) rfl rfl ?_
    refine r_bipush (q := 15) (z := 120) (v := 120) C rfl (by decide +kernel) (by decide) ?_
    refine r_newaI (q := 17) (z := 120) C R (2) rfl (by decide +kernel) wa_int (by decide) (by decide) (by decide) (by decide) (by decide) ?_
    intro a15 e15
    refine r_putRF (q := 20) C 0 1 1 rfl (by decide +kernel) rfl (by decide) rfl rfl wf_X0_15 win0 tyX0 tyX0_ok nmX0 rfl rfl rfl (tyX0_ok 1 (by decide)) rfl wnd0 (by first | exact rv_nar_o _ _ | exact rv_nar_a _ _) (by first | exact rv_fit_o _ _ | exact rv_fit_a _ _) (nw_k (lb := 2) e15 I1.2.1 (by decide)) ?_
    exact J20 _ (OI.arr (f := 1) (lb := 2) I1 e15 (by decide) (by decide) (by simp))
  refine r_aload_n (q := 5) (z := 0) C 0 rfl (by decide +kernel) rfl rfl ?_
  refine r_bipush (q := 7) (z := 120) (v := 120) C rfl (by decide +kernel) (by decide) ?_
  refine r_newaI (q := 9) (z := 120) C R (1) rfl (by decide +kernel) wa_int (by decide) (by decide) (by decide) (by decide) (by decide) ?_
  intro a7 e7
  refine r_putRF (q := 12) C 0 0 0 rfl (by decide +kernel) rfl (by decide) rfl rfl wf_X0_9 win0 tyX0 tyX0_ok nmX0 rfl rfl rfl (tyX0_ok 0 (by decide)) rfl wnd0 (by first | exact rv_nar_o _ _ | exact rv_nar_a _ _) (by first | exact rv_fit_o _ _ | exact rv_fit_a _ _) (nw_k (lb := 1) e7 I0.2.1 (by decide)) ?_
  exact J12 _ (OI.arr (f := 0) (lb := 1) I0 e7 (by decide) (by decide) (by simp))
