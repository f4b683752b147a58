/-! ===== the class's constructor ===== -/
theorem Gw.ol {g b : Nat} {h h' : HP} {z : Nat × Nat} (G : Gw g h h') (hg : h.kd g = (0, 6)) (hb : h.kd b = z) (h1 : z.1 ≠ 99) (h2 : z ≠ (0, 6)) : h'.kd b = z ∧ h'.gl b = h.gl b ∧ (∀ f, h'.fi f b = h.fi f b) ∧ (∀ f, h'.fr f b = h.fr f b) ∧ h'.ai b = h.ai b := by
  obtain ⟨x1, x2, x3⟩ := G b (by rw [hb]; exact h1)
  obtain ⟨q1, q2, q3, -⟩ := x3 (fun e => h2 (by rw [← hb, e]; exact hg))
  exact ⟨x1.trans hb, x2, q1, q2, q3⟩
def Stb (P : HP → Nat → Prop) : Prop := ∀ (h h' : HP) (x g : Nat), h.kd g = (0, 6) → Gw g h h' → P h x → P h' x
def OC (l : List (Nat × (HP → Nat → Prop))) (g : Nat) (h0 h : HP) : Prop := Gw g h0 h ∧ h.kd g = (0, 6) ∧ (∀ q ∈ l, q.2 h (h.fr q.1 g) ∧ Stb q.2) ∧ ∀ f, h.fi f g = 0
theorem OC.rf {g : Nat} {h : HP} (hk : h.kd g = (0, 6)) (hz : ∀ f, h.fi f g = 0) : OC [] g h h := ⟨Gw.rf, hk, fun q hq => (by cases hq), hz⟩
theorem OC.obj {l : List (Nat × (HP → Nat → Prop))} {g f x lb : Nat} {k : Nat × Nat} {h0 h h1 : HP} {P : HP → Nat → Prop} (I : OC l g h0 h) (hx : (h.kd x).1 = 99) (G1 : Gw x (h.new x k lb) h1) (hf : ∀ q ∈ l, q.1 ≠ f) (hP : P h1 x) (hS : Stb P) : OC (l ++ [(f, P)]) g h0 (h1.setR f g x) := by
  obtain ⟨G, K, l1, z1⟩ := I
  have hn : g ≠ x := ne_fr hx K (by decide)
  have kn : (h.new x k lb).kd g = (0, 6) := nw_k (lb := lb) hx K (by decide)
  obtain ⟨p1, p2, p3, p4, -⟩ := nw_ne (h := h) (k := k) (lb := lb) hn
  obtain ⟨t1, t2, t3⟩ := G1 g (by rw [kn]; decide)
  obtain ⟨u1, u2, -⟩ := t3 hn
  have k1 : h1.kd g = (0, 6) := t1.trans kn
  have g1 : Gw g h h1 := Gw.to hx (Gw.nw (k := k) (lb := lb) hx) G1
  refine ⟨(G.tr g1).tr Gw.sR, by rw [kd_setR]; exact k1, fun q hq => ?_, fun f' => by rw [fi_setR, u1, p3]; exact z1 f'⟩
  rcases List.mem_append.mp hq with hq | hq
  · obtain ⟨q1, q2⟩ := l1 q hq
    have ef : (h1.setR f g x).fr q.1 g = h.fr q.1 g := by rw [fr_setR, if_neg (fun e => hf q hq e.1), u2]; exact p4 q.1
    rw [ef]
    exact ⟨q2 h _ _ g K (g1.tr Gw.sR) q1, q2⟩
  · rw [List.mem_singleton] at hq
    subst hq
    have ef : (h1.setR f g x).fr f g = x := by rw [fr_setR, if_pos ⟨rfl, rfl⟩]
    show P (h1.setR f g x) ((h1.setR f g x).fr f g) ∧ Stb P
    rw [ef]
    exact ⟨hS h1 _ x g k1 Gw.sR hP, hS⟩
theorem OC.int {l : List (Nat × (HP → Nat → Prop))} {g f : Nat} {h0 h : HP} (I : OC l g h0 h) : OC l g h0 (h.setI f g 0) := by
  obtain ⟨G, K, l1, z1⟩ := I
  refine ⟨G.tr Gw.sI, K, fun q hq => ⟨(l1 q hq).2 h _ _ g K Gw.sI (l1 q hq).1, (l1 q hq).2⟩, fun f' => ?_⟩
  by_cases e : f' = f
  · rw [e, fi_eq]
  · rw [fi_ne e]; exact z1 f'
def PA (kk : Nat × Nat) (lb : Nat) (h : HP) (x : Nat) : Prop := h.kd x = kk ∧ h.gl x = lb
def PI3 (lb : Nat) (r : Nat → Int32) (h : HP) (x : Nat) : Prop := h.kd x = (9, 3) ∧ h.gl x = lb ∧ h.ai x = r
def PG (h : HP) (x : Nat) : Prop := LGn h.kd h.gl h.fr x ∧ h.fi 4 x = 0 ∧ ∀ c, c < 120 → h.ai (h.fr 0 x) c = -1
def PT (h : HP) (x : Nat) : Prop := h.kd x = (0, 5) ∧ h.kd (h.fr 320 x) = (8, 600) ∧ h.gl (h.fr 320 x) = 320 ∧ h.fi 321 x = 0
def PL1 (k : Nat) (h : HP) (x : Nat) : Prop := LwL h.kd h.gl h.fr x k ∧ CL [] h x
theorem st_A {kk : Nat × Nat} {lb : Nat} (h1 : kk.1 ≠ 99) : Stb (PA kk lb) := fun h h' x g hg G hp => by
  obtain ⟨x1, x2, -⟩ := G x (by rw [hp.1]; exact h1)
  exact ⟨x1.trans hp.1, x2.trans hp.2⟩
theorem st_I {lb : Nat} {r : Nat → Int32} : Stb (PI3 lb r) := fun h h' x g hg G hp => by
  obtain ⟨a1, a2, a3, a4, a5⟩ := G.ol hg hp.1 (by decide) (by decide)
  exact ⟨a1, a2.trans hp.2.1, a5.trans hp.2.2⟩
theorem st_G : Stb PG := fun h h' x g hg G hp => by
  obtain ⟨⟨g1, g2, g3, g4, g5, g6, g7⟩, z4, hc⟩ := hp
  obtain ⟨a1, a2, a3, a4, a5⟩ := G.ol hg g1 (by decide) (by decide)
  obtain ⟨b1, b2, b3, b4, b5⟩ := G.ol hg g2 (by decide) (by decide)
  obtain ⟨c1, c2, -⟩ := G.ol hg g3 (by decide) (by decide)
  obtain ⟨d1, d2, -⟩ := G.ol hg g4 (by decide) (by decide)
  refine ⟨⟨a1, ?_⟩, (a3 4).trans z4, fun c h9 => ?_⟩
  · rw [a4, a4, a4]; exact ⟨b1, c1, d1, b2.trans g5, c2.trans g6, d2.trans g7⟩
  · rw [a4, b5]; exact hc c h9
theorem st_T : Stb PT := fun h h' x g hg G hp => by
  obtain ⟨g1, g2, g3, g4⟩ := hp
  obtain ⟨a1, a2, a3, a4, a5⟩ := G.ol hg g1 (by decide) (by decide)
  obtain ⟨b1, b2, b3, b4, b5⟩ := G.ol hg g2 (by decide) (by decide)
  unfold PT
  rw [a4]
  exact ⟨a1, b1, b2.trans g3, (a3 321).trans g4⟩
theorem st_R : Stb RDl := fun h h' x g hg G hp => by
  obtain ⟨g1, g2, g3, g4, g5, g6, g7⟩ := hp
  obtain ⟨a1, a2, a3, a4, a5⟩ := G.ol hg g1 (by decide) (by decide)
  obtain ⟨b1, b2, -⟩ := G.ol hg g2 (by decide) (by decide)
  obtain ⟨c1, c2, -⟩ := G.ol hg g4 (by decide) (by decide)
  obtain ⟨d1, d2, -⟩ := G.ol hg g6 (by decide) (by decide)
  unfold RDl
  rw [a4, a4, a4]
  exact ⟨a1, b1, b2.trans g3, c1, c2.trans g5, d1, d2.trans g7⟩
theorem st_L {k : Nat} : Stb (PL1 k) := fun h h' x g hg G hp => by
  obtain ⟨⟨w1, w2, ⟨w3, w4⟩, ⟨w5, w6⟩, ⟨w7, w8⟩, w9, w10⟩, c1, c2, c3, c4, c5⟩ := hp
  obtain ⟨a1, a2, a3, a4, a5⟩ := G.ol hg w1 (by decide) (by decide)
  obtain ⟨b1, b2, -⟩ := G.ol hg w3 (by decide) (by decide)
  obtain ⟨d1, d2, -⟩ := G.ol hg w5 (by decide) (by decide)
  obtain ⟨e1, e2, -⟩ := G.ol hg w7 (by decide) (by decide)
  obtain ⟨f1, f2, -⟩ := G.ol hg w9 (by decide) (by decide)
  refine ⟨⟨a1, a2.trans w2, ?_⟩, c1, c2, (a3 69).trans c3, (a3 65).trans c4, fun j ln hj => by simp at hj⟩
  rw [a4, a4, a4, a4]
  exact ⟨⟨b1, b2.trans w4⟩, ⟨d1, d2.trans w6⟩, ⟨e1, e2.trans w8⟩, f1, f2.trans w10⟩
abbrev ocL : List (Nat × (HP → Nat → Prop)) := [(384, PG), (385, PA (12, 10) 385), (386, PA (12, 10) 386), (389, PA (0, 4) 389), (390, PT), (391, RDl), (392, PL1 100), (393, PL1 200), (394, PA (9, 6) 394), (395, PI3 395 b3r), (396, PI3 396 s3r)]
theorem oc_fin {g : Nat} {h0 h : HP} (I : OC ocL g h0 h) : Gw g h0 (h.setI 397 g 1) ∧ LCl (h.setI 397 g 1).kd (h.setI 397 g 1).gl (h.setI 397 g 1).fr (h.setI 397 g 1).ar g 0 (fun _ => 0) [] ∧ CRr s0 (h.setI 397 g 1).fi (h.setI 397 g 1).fr g (fun _ => 0) ∧ CRc s0 (h.setI 397 g 1) g ∧ CBm (fun _ => 100) (fun _ => 1) 1 (h.setI 397 g 1) g ∧ TpC [] (h.setI 397 g 1) ((h.setI 397 g 1).fr 390 g) ∧ CLw [] (h.setI 397 g 1) g := by
  obtain ⟨G, K, l1, z1⟩ := I
  have p384 : PG h (h.fr 384 g) := (l1 (384, PG) (by simp)).1
  have p385 : PA (12, 10) 385 h (h.fr 385 g) := (l1 (385, PA (12, 10) 385) (by simp)).1
  have p386 : PA (12, 10) 386 h (h.fr 386 g) := (l1 (386, PA (12, 10) 386) (by simp)).1
  have p389 : PA (0, 4) 389 h (h.fr 389 g) := (l1 (389, PA (0, 4) 389) (by simp)).1
  have p390 : PT h (h.fr 390 g) := (l1 (390, PT) (by simp)).1
  have p391 : RDl h (h.fr 391 g) := (l1 (391, RDl) (by simp)).1
  have p392 : PL1 100 h (h.fr 392 g) := (l1 (392, PL1 100) (by simp)).1
  have p393 : PL1 200 h (h.fr 393 g) := (l1 (393, PL1 200) (by simp)).1
  have p394 : PA (9, 6) 394 h (h.fr 394 g) := (l1 (394, PA (9, 6) 394) (by simp)).1
  have p395 : PI3 395 b3r h (h.fr 395 g) := (l1 (395, PI3 395 b3r) (by simp)).1
  have p396 : PI3 396 s3r h (h.fr 396 g) := (l1 (396, PI3 396 s3r) (by simp)).1
  have hL : LCl h.kd h.gl h.fr h.ar g 0 (fun _ => 0) [] := ⟨K, p384.1, p385.1, p385.2, p386.1, p386.2, p389.1, p389.2, p390.1, p390.2.1, p390.2.2.1, p391.1, p391.2.1, p391.2.2.1, p391.2.2.2.1, p391.2.2.2.2.1, p391.2.2.2.2.2.1, p391.2.2.2.2.2.2, p394.1, p394.2, p395.1, p395.2.1, p396.1, p396.2.1, rfl, ⟨100, Or.inl rfl, p392.1, p393.1⟩, fun r hr => absurd hr (Nat.not_lt_zero r), fun j r hj => by simp at hj⟩
  refine ⟨G.tr Gw.sI, hL, ⟨(fi_ne (by decide)).trans (z1 387), (fi_ne (by decide)).trans (z1 388), (fi_ne (by decide)).trans p384.2.1, fun r hr => absurd hr (Nat.not_lt_zero r)⟩, fun c hc => (p384.2.2 c hc).trans rfl, ⟨fun k hk => ⟨?_, show (100 : Nat) ≤ 1000 by decide⟩, fun k hk => ⟨?_, show (1 : Nat) ≤ 1 by decide, show (1 : Nat) ≤ 1000 by decide⟩, fi_eq, by decide⟩, ⟨⟨by decide, fun j hj => absurd hj (Nat.not_lt_zero j)⟩, (fi_ne (by decide)).trans p390.2.2.2, fun j hj => absurd hj (Nat.not_lt_zero j)⟩, CLw.setI (by decide) ⟨p392.2, fun ln hln => by cases hln⟩⟩
  · show h.ai (h.fr 395 g) k = _
    rw [p395.2.2]
    exact (by decide : ∀ k : Fin 3, b3r k.val = nI 100) ⟨k, hk⟩
  · show h.ai (h.fr 396 g) k = _
    rw [p396.2.2]
    exact (by decide : ∀ k : Fin 3, s3r k.val = nI 1) ⟨k, hk⟩

theorem c_X6_init {G : GT} {h : HP} {g : Nat} (hk : h.kd g = (0, 6)) (hz : ∀ f, h.fi f g = 0) : Con G 3 26 4121 yX6_init cX6_init 1 none [rv g] h (PV (fun h' => Gw g h h' ∧ LCl h'.kd h'.gl h'.fr h'.ar g 0 (fun _ => 0) [] ∧ CRr s0 h'.fi h'.fr g (fun _ => 0) ∧ CRc s0 h' g ∧ CBm (fun _ => 100) (fun _ => 1) 1 h' g ∧ TpC [] h' (h'.fr 390 g) ∧ CLw [] h' g)) := by
  refine Con.of (lv := [some (rv g)]) (by decide) (by simp only [lvE_r, lvE_i, lvE_l, lvE_s, lvE_0]; rfl) (by simp only [lgl_r, lgl_i, lgl_l, lgl_s, lgl_0]; decide) (fun Γ C R => ?_)
  generalize hPP : (PV (fun h' => Gw g h h' ∧ LCl h'.kd h'.gl h'.fr h'.ar g 0 (fun _ => 0) [] ∧ CRr s0 h'.fi h'.fr g (fun _ => 0) ∧ CRc s0 h' g ∧ CBm (fun _ => 100) (fun _ => 1) 1 h' g ∧ TpC [] h' (h'.fr 390 g) ∧ CLw [] h' g)) = PP
  have I0 := OC.rf hk hz
  refine r_aload_n (q := 1) (z := 0) C 0 rfl (by decide +kernel) rfl rfl ?_
  refine r_objInit (q := 4) C R rfl (by decide +kernel) wo_X6_1 wo_2 wo_5 (by decide) (by first | exact Nat.le_of_ble_eq_true rfl | (simp only [List.map_cons, List.map_nil, List.sum_cons, List.sum_nil, rv_cat]; exact Nat.le_of_ble_eq_true rfl)) hk (by decide) ?_
  have J15 : ∀ (h101 : HP), (OC [(384, PG)] g h h101) → wX G Γ (qM G Γ PP 26 4121) 4 365 (h101) 15 [some (rv g)] [] := by
    intro h101 I101
    have J24 : ∀ (h102 : HP), (OC [(384, PG), (385, PA (12, 10) 385)] g h h102) → wX G Γ (qM G Γ PP 26 4121) 5 375 (h102) 24 [some (rv g)] [] := by
      intro h102 I102
      have J33 : ∀ (h103 : HP), (OC [(384, PG), (385, PA (12, 10) 385), (386, PA (12, 10) 386)] g h h103) → wX G Γ (qM G Γ PP 26 4121) 6 385 (h103) 33 [some (rv g)] [] := by
        intro h103 I103
        have J38 : ∀ (h104 : HP), (OC [(384, PG), (385, PA (12, 10) 385), (386, PA (12, 10) 386)] g h h104) → wX G Γ (qM G Γ PP 26 4121) 6 385 (h104) 38 [some (rv g)] [] := by
          intro h104 I104
          have J43 : ∀ (h105 : HP), (OC [(384, PG), (385, PA (12, 10) 385), (386, PA (12, 10) 386)] g h h105) → wX G Γ (qM G Γ PP 26 4121) 6 385 (h105) 43 [some (rv g)] [] := by
            intro h105 I105
            have J54 : ∀ (h106 : HP), (OC [(384, PG), (385, PA (12, 10) 385), (386, PA (12, 10) 386), (389, PA (0, 4) 389)] g h h106) → wX G Γ (qM G Γ PP 26 4121) 7 390 (h106) 54 [some (rv g)] [] := by
              intro h106 I106
              have J65 : ∀ (h107 : HP), (OC [(384, PG), (385, PA (12, 10) 385), (386, PA (12, 10) 386), (389, PA (0, 4) 389), (390, PT)] g h h107) → wX G Γ (qM G Γ PP 26 4121) 9 992 (h107) 65 [some (rv g)] [] := by
                intro h107 I107
                have J76 : ∀ (h108 : HP), (OC [(384, PG), (385, PA (12, 10) 385), (386, PA (12, 10) 386), (389, PA (0, 4) 389), (390, PT), (391, RDl)] g h h108) → wX G Γ (qM G Γ PP 26 4121) 13 2801 (h108) 76 [some (rv g)] [] := by
                  intro h108 I108
                  have J87 : ∀ (h109 : HP), (OC [(384, PG), (385, PA (12, 10) 385), (386, PA (12, 10) 386), (389, PA (0, 4) 389), (390, PT), (391, RDl), (392, PL1 100)] g h h109) → wX G Γ (qM G Γ PP 26 4121) 18 3455 (h109) 87 [some (rv g)] [] := by
                    intro h109 I109
                    have J98 : ∀ (h110 : HP), (OC [(384, PG), (385, PA (12, 10) 385), (386, PA (12, 10) 386), (389, PA (0, 4) 389), (390, PT), (391, RDl), (392, PL1 100), (393, PL1 200)] g h h110) → wX G Γ (qM G Γ PP 26 4121) 23 4109 (h110) 98 [some (rv g)] [] := by
                      intro h110 I110
                      have J106 : ∀ (h111 : HP), (OC [(384, PG), (385, PA (12, 10) 385), (386, PA (12, 10) 386), (389, PA (0, 4) 389), (390, PT), (391, RDl), (392, PL1 100), (393, PL1 200), (394, PA (9, 6) 394)] g h h111) → wX G Γ (qM G Γ PP 26 4121) 24 4115 (h111) 106 [some (rv g)] [] := by
                        intro h111 I111
                        have J128 : ∀ (h112 : HP), (OC [(384, PG), (385, PA (12, 10) 385), (386, PA (12, 10) 386), (389, PA (0, 4) 389), (390, PT), (391, RDl), (392, PL1 100), (393, PL1 200), (394, PA (9, 6) 394), (395, PI3 395 b3r)] g h h112) → wX G Γ (qM G Γ PP 26 4121) 25 4118 (h112) 128 [some (rv g)] [] := by
                          intro h112 I112
                          have J147 : ∀ (h113 : HP), (OC [(384, PG), (385, PA (12, 10) 385), (386, PA (12, 10) 386), (389, PA (0, 4) 389), (390, PT), (391, RDl), (392, PL1 100), (393, PL1 200), (394, PA (9, 6) 394), (395, PI3 395 b3r), (396, PI3 396 s3r)] g h h113) → wX G Γ (qM G Γ PP 26 4121) 26 4121 (h113) 147 [some (rv g)] [] := by
                            intro h113 I113
                            refine r_aload_n (q := 148) (z := 0) C 0 rfl (by decide +kernel) rfl rfl ?_
                            refine r_iconst (q := 149) (z := 1) (v := 1) C rfl (by decide +kernel) (by decide) ?_
                            refine r_putI (q := 152) C 6 13 397 rfl (by decide +kernel) rfl (by decide) rfl rfl wf_X6_73 win6 tyX6 tyX6_ok nmX6 rfl (tyX6_ok 13 (by decide)) rfl wnd6 rfl rfl I113.2.1 ?_
                            exact r_ret C (by decide +kernel) rfl (by decide) (by decide) (eqP hPP ⟨rfl, oc_fin I113⟩)
                          refine r_aload_n (q := 129) (z := 0) C 0 rfl (by decide +kernel) rfl rfl ?_
                          refine r_iconst (q := 130) (z := 3) (v := 3) C rfl (by decide +kernel) (by decide) ?_
                          refine r_newaI (q := 132) (z := 3) C R (396) rfl (by decide +kernel) wa_int (by decide) (by decide) (by decide) (by decide) (by decide) ?_
                          intro a130 e130
                          refine r_dup (q := 133) C rfl (by decide +kernel) (by first | rfl | exact rv_cat _) ?_
                          refine r_iconst (q := 134) (z := 0) (v := nI 0) C rfl (by decide +kernel) (by decide) ?_
                          refine r_iconst (q := 135) (z := 1) (v := 1) C rfl (by decide +kernel) (by decide) ?_
                          refine r_iast (q := 136) C rfl (by decide +kernel) rfl (kd_new (lb := 396)) (vp_in_nI (by decide) (by decide)) ?_
                          rw [stI_row, nI_clamp (by decide), ai_new]
                          refine r_dup (q := 137) C rfl (by decide +kernel) (by first | rfl | exact rv_cat _) ?_
                          refine r_iconst (q := 138) (z := 1) (v := nI 1) C rfl (by decide +kernel) (by decide) ?_
                          refine r_iconst (q := 139) (z := 1) (v := 1) C rfl (by decide +kernel) (by decide) ?_
                          refine r_iast (q := 140) C rfl (by decide +kernel) rfl (kd_new (lb := 396)) (vp_in_nI (by decide) (by decide)) ?_
                          rw [row_stI, nI_clamp (by decide)]
                          refine r_dup (q := 141) C rfl (by decide +kernel) (by first | rfl | exact rv_cat _) ?_
                          refine r_iconst (q := 142) (z := 2) (v := nI 2) C rfl (by decide +kernel) (by decide) ?_
                          refine r_iconst (q := 143) (z := 1) (v := 1) C rfl (by decide +kernel) (by decide) ?_
                          refine r_iast (q := 144) C rfl (by decide +kernel) rfl (kd_new (lb := 396)) (vp_in_nI (by decide) (by decide)) ?_
                          rw [row_stI, nI_clamp (by decide)]
                          refine r_putRF (q := 147) C 6 12 396 rfl (by decide +kernel) rfl (by decide) rfl rfl wf_X6_70 win6 tyX6 tyX6_ok nmX6 rfl rfl rfl (tyX6_ok 12 (by decide)) rfl wnd6 (by first | exact rv_nar_o _ _ | exact rv_nar_a _ _) (by first | exact rv_fit_o _ _ | exact rv_fit_a _ _) (nw_k (lb := 396) e130 I112.2.1 (by decide)) ?_
                          exact J147 _ (OC.obj (f := 396) (k := (9, 3)) (lb := 396) (P := PI3 396 s3r) I112 e130 Gw.rw_ (by simp) ⟨kd_new (lb := 396), gl_nw (k := (9, 3)), ai_row_eq⟩ st_I)
                        refine r_aload_n (q := 107) (z := 0) C 0 rfl (by decide +kernel) rfl rfl ?_
                        refine r_iconst (q := 108) (z := 3) (v := 3) C rfl (by decide +kernel) (by decide) ?_
                        refine r_newaI (q := 110) (z := 3) C R (395) rfl (by decide +kernel) wa_int (by decide) (by decide) (by decide) (by decide) (by decide) ?_
                        intro a108 e108
                        refine r_dup (q := 111) C rfl (by decide +kernel) (by first | rfl | exact rv_cat _) ?_
                        refine r_iconst (q := 112) (z := 0) (v := nI 0) C rfl (by decide +kernel) (by decide) ?_
                        refine r_bipush (q := 114) (z := 100) (v := 100) C rfl (by decide +kernel) (by decide) ?_
                        refine r_iast (q := 115) C rfl (by decide +kernel) rfl (kd_new (lb := 395)) (vp_in_nI (by decide) (by decide)) ?_
                        rw [stI_row, nI_clamp (by decide), ai_new]
                        refine r_dup (q := 116) C rfl (by decide +kernel) (by first | rfl | exact rv_cat _) ?_
                        refine r_iconst (q := 117) (z := 1) (v := nI 1) C rfl (by decide +kernel) (by decide) ?_
                        refine r_bipush (q := 119) (z := 100) (v := 100) C rfl (by decide +kernel) (by decide) ?_
                        refine r_iast (q := 120) C rfl (by decide +kernel) rfl (kd_new (lb := 395)) (vp_in_nI (by decide) (by decide)) ?_
                        rw [row_stI, nI_clamp (by decide)]
                        refine r_dup (q := 121) C rfl (by decide +kernel) (by first | rfl | exact rv_cat _) ?_
                        refine r_iconst (q := 122) (z := 2) (v := nI 2) C rfl (by decide +kernel) (by decide) ?_
                        refine r_bipush (q := 124) (z := 100) (v := 100) C rfl (by decide +kernel) (by decide) ?_
                        refine r_iast (q := 125) C rfl (by decide +kernel) rfl (kd_new (lb := 395)) (vp_in_nI (by decide) (by decide)) ?_
                        rw [row_stI, nI_clamp (by decide)]
                        refine r_putRF (q := 128) C 6 11 395 rfl (by decide +kernel) rfl (by decide) rfl rfl wf_X6_67 win6 tyX6 tyX6_ok nmX6 rfl rfl rfl (tyX6_ok 11 (by decide)) rfl wnd6 (by first | exact rv_nar_o _ _ | exact rv_nar_a _ _) (by first | exact rv_fit_o _ _ | exact rv_fit_a _ _) (nw_k (lb := 395) e108 I111.2.1 (by decide)) ?_
                        exact J128 _ (OC.obj (f := 395) (k := (9, 3)) (lb := 395) (P := PI3 395 b3r) I111 e108 Gw.rw_ (by simp) ⟨kd_new (lb := 395), gl_nw (k := (9, 3)), ai_row_eq⟩ st_I)
                      refine r_aload_n (q := 99) (z := 0) C 0 rfl (by decide +kernel) rfl rfl ?_
                      refine r_bipush (q := 101) (z := 6) (v := 6) C rfl (by decide +kernel) (by decide) ?_
                      refine r_newaI (q := 103) (z := 6) C R (394) rfl (by decide +kernel) wa_int (by decide) (by decide) (by decide) (by decide) (by decide) ?_
                      intro a101 e101
                      refine r_putRF (q := 106) C 6 10 394 rfl (by decide +kernel) rfl (by decide) rfl rfl wf_X6_63 win6 tyX6 tyX6_ok nmX6 rfl rfl rfl (tyX6_ok 10 (by decide)) rfl wnd6 (by first | exact rv_nar_o _ _ | exact rv_nar_a _ _) (by first | exact rv_fit_o _ _ | exact rv_fit_a _ _) (nw_k (lb := 394) e101 I110.2.1 (by decide)) ?_
                      exact J106 _ (OC.obj (f := 394) (k := (9, 6)) (lb := 394) (P := PA (9, 6) 394) I110 e101 Gw.rf (by simp) ⟨kd_new (lb := 394), gl_nw (k := (9, 6))⟩ (st_A (by decide)))
                    refine r_aload_n (q := 88) (z := 0) C 0 rfl (by decide +kernel) rfl rfl ?_
                    refine r_new (q := 91) C R (261) 1 rfl (by decide +kernel) rfl win1 tyX1 tyX1_ok wk_X6_53 wi_X1 wn_X1 (by decide +kernel) (by decide) (by decide) ?_
                    intro a88 e88
                    refine r_dup (q := 92) C rfl (by decide +kernel) (by first | rfl | exact rv_cat _) ?_
                    refine cIN0V (q := 95) C R rfl (by decide +kernel) lk_X6_55 (c_X1_init (k := 200) (kd_new (lb := 261)) (gl_nw (k := (0, 1)))) (by decide) (by decide) (by decide) rfl (by first | exact Nat.le_of_ble_eq_true rfl | (simp only [List.map_cons, List.map_nil, List.sum_cons, List.sum_nil, rv_cat]; exact Nat.le_of_ble_eq_true rfl)) (kd_new (lb := 261)) (by decide) ?_
                    rintro h92 ⟨G92, W92, Z92⟩
                    refine r_putR (q := 98) C 6 9 393 rfl (by decide +kernel) rfl (by decide) rfl rfl wf_X6_60 win6 tyX6 tyX6_ok nmX6 rfl (tyX6_ok 9 (by decide)) rfl wnd6 (by first | exact rv_nar_o _ _ | exact rv_nar_a _ _) (by first | exact rv_fit_o _ _ | exact rv_fit_a _ _) ((G92 g (by rw [nw_k (lb := 261) (k := (0, 1)) e88 I109.2.1 (by decide)]; decide)).1.trans (nw_k (lb := 261) (k := (0, 1)) e88 I109.2.1 (by decide))) ?_
                    exact J98 _ (OC.obj (f := 393) (k := (0, 1)) (lb := 261) (P := PL1 200) I109 e88 G92 (by simp) ⟨W92, Z92⟩ st_L)
                  refine r_aload_n (q := 77) (z := 0) C 0 rfl (by decide +kernel) rfl rfl ?_
                  refine r_new (q := 80) C R (161) 1 rfl (by decide +kernel) rfl win1 tyX1 tyX1_ok wk_X6_53 wi_X1 wn_X1 (by decide +kernel) (by decide) (by decide) ?_
                  intro a77 e77
                  refine r_dup (q := 81) C rfl (by decide +kernel) (by first | rfl | exact rv_cat _) ?_
                  refine cIN0V (q := 84) C R rfl (by decide +kernel) lk_X6_55 (c_X1_init (k := 100) (kd_new (lb := 161)) (gl_nw (k := (0, 1)))) (by decide) (by decide) (by decide) rfl (by first | exact Nat.le_of_ble_eq_true rfl | (simp only [List.map_cons, List.map_nil, List.sum_cons, List.sum_nil, rv_cat]; exact Nat.le_of_ble_eq_true rfl)) (kd_new (lb := 161)) (by decide) ?_
                  rintro h81 ⟨G81, W81, Z81⟩
                  refine r_putR (q := 87) C 6 8 392 rfl (by decide +kernel) rfl (by decide) rfl rfl wf_X6_56 win6 tyX6 tyX6_ok nmX6 rfl (tyX6_ok 8 (by decide)) rfl wnd6 (by first | exact rv_nar_o _ _ | exact rv_nar_a _ _) (by first | exact rv_fit_o _ _ | exact rv_fit_a _ _) ((G81 g (by rw [nw_k (lb := 161) (k := (0, 1)) e77 I108.2.1 (by decide)]; decide)).1.trans (nw_k (lb := 161) (k := (0, 1)) e77 I108.2.1 (by decide))) ?_
                  exact J87 _ (OC.obj (f := 392) (k := (0, 1)) (lb := 161) (P := PL1 100) I108 e77 G81 (by simp) ⟨W81, Z81⟩ st_L)
                refine r_aload_n (q := 66) (z := 0) C 0 rfl (by decide +kernel) rfl rfl ?_
                refine r_new (q := 69) C R (391) 2 rfl (by decide +kernel) rfl win2 tyX2 tyX2_ok wk_X6_46 wi_X2 wn_X2 (by decide +kernel) (by decide) (by decide) ?_
                intro a66 e66
                refine r_dup (q := 70) C rfl (by decide +kernel) (by first | rfl | exact rv_cat _) ?_
                refine cIN0V (q := 73) C R rfl (by decide +kernel) lk_X6_48 (c_X2_init (kd_new (lb := 391))) (by decide) (by decide) (by decide) rfl (by first | exact Nat.le_of_ble_eq_true rfl | (simp only [List.map_cons, List.map_nil, List.sum_cons, List.sum_nil, rv_cat]; exact Nat.le_of_ble_eq_true rfl)) (kd_new (lb := 391)) (by decide) ?_
                rintro h70 ⟨G70, W70⟩
                refine r_putRF (q := 76) C 6 7 391 rfl (by decide +kernel) rfl (by decide) rfl rfl wf_X6_49 win6 tyX6 tyX6_ok nmX6 rfl rfl rfl (tyX6_ok 7 (by decide)) rfl wnd6 (by first | exact rv_nar_o _ _ | exact rv_nar_a _ _) (by first | exact rv_fit_o _ _ | exact rv_fit_a _ _) ((G70 g (by rw [nw_k (lb := 391) (k := (0, 2)) e66 I107.2.1 (by decide)]; decide)).1.trans (nw_k (lb := 391) (k := (0, 2)) e66 I107.2.1 (by decide))) ?_
                exact J76 _ (OC.obj (f := 391) (k := (0, 2)) (lb := 391) (P := RDl) I107 e66 G70 (by simp) W70 st_R)
              refine r_aload_n (q := 55) (z := 0) C 0 rfl (by decide +kernel) rfl rfl ?_
              refine r_new (q := 58) C R (390) 5 rfl (by decide +kernel) rfl win5 tyX5 tyX5_ok wk_X6_39 wi_X5 wn_X5 (by decide +kernel) (by decide) (by decide) ?_
              intro a55 e55
              refine r_dup (q := 59) C rfl (by decide +kernel) (by first | rfl | exact rv_cat _) ?_
              refine cIN0V (q := 62) C R rfl (by decide +kernel) lk_X6_41 (c_X5_init (kd_new (lb := 390))) (by decide) (by decide) (by decide) rfl (by first | exact Nat.le_of_ble_eq_true rfl | (simp only [List.map_cons, List.map_nil, List.sum_cons, List.sum_nil, rv_cat]; exact Nat.le_of_ble_eq_true rfl)) (kd_new (lb := 390)) (by decide) ?_
              rintro h59 ⟨G59, k59, g59, z59⟩
              refine r_putRF (q := 65) C 6 6 390 rfl (by decide +kernel) rfl (by decide) rfl rfl wf_X6_42 win6 tyX6 tyX6_ok nmX6 rfl rfl rfl (tyX6_ok 6 (by decide)) rfl wnd6 (by first | exact rv_nar_o _ _ | exact rv_nar_a _ _) (by first | exact rv_fit_o _ _ | exact rv_fit_a _ _) ((G59 g (by rw [nw_k (lb := 390) (k := (0, 5)) e55 I106.2.1 (by decide)]; decide)).1.trans (nw_k (lb := 390) (k := (0, 5)) e55 I106.2.1 (by decide))) ?_
              exact J65 _ (OC.obj (f := 390) (k := (0, 5)) (lb := 390) (P := PT) I106 e55 G59 (by simp) ⟨(G59 a55 (by rw [kd_new]; decide)).1.trans (kd_new (lb := 390)), k59, g59, z59⟩ st_T)
            refine r_aload_n (q := 44) (z := 0) C 0 rfl (by decide +kernel) rfl rfl ?_
            refine r_new (q := 47) C R (389) 4 rfl (by decide +kernel) rfl win4 tyX4 tyX4_ok wk_X6_32 wi_X4 wn_X4 (by decide +kernel) (by decide) (by decide) ?_
            intro a44 e44
            refine r_dup (q := 48) C rfl (by decide +kernel) (by first | rfl | exact rv_cat _) ?_
            refine cIN0V (q := 51) C R rfl (by decide +kernel) lk_X6_34 (c_X4_init (kd_new (lb := 389))) (by decide) (by decide) (by decide) rfl (by first | exact Nat.le_of_ble_eq_true rfl | (simp only [List.map_cons, List.map_nil, List.sum_cons, List.sum_nil, rv_cat]; exact Nat.le_of_ble_eq_true rfl)) (kd_new (lb := 389)) (by decide) ?_
            rintro _ rfl
            refine r_putRF (q := 54) C 6 5 389 rfl (by decide +kernel) rfl (by decide) rfl rfl wf_X6_35 win6 tyX6 tyX6_ok nmX6 rfl rfl rfl (tyX6_ok 5 (by decide)) rfl wnd6 (by first | exact rv_nar_o _ _ | exact rv_nar_a _ _) (by first | exact rv_fit_o _ _ | exact rv_fit_a _ _) (by rw [spI_kd]; exact nw_k (lb := 389) e44 I105.2.1 (by decide)) ?_
            exact J54 _ (OC.obj (f := 389) (k := (0, 4)) (lb := 389) (P := PA (0, 4) 389) I105 e44 spI_g (by simp) ⟨(by rw [spI_kd]; exact kd_new (lb := 389)), (by rw [spI_gl]; exact gl_nw (k := (0, 4)))⟩ (st_A (by decide)))
          refine r_aload_n (q := 39) (z := 0) C 0 rfl (by decide +kernel) rfl rfl ?_
          refine r_iconst (q := 40) (z := 0) (v := 0) C rfl (by decide +kernel) (by decide) ?_
          refine r_putI (q := 43) C 6 4 388 rfl (by decide +kernel) rfl (by decide) rfl rfl wf_X6_29 win6 tyX6 tyX6_ok nmX6 rfl (tyX6_ok 4 (by decide)) rfl wnd6 rfl rfl I104.2.1 ?_
          exact J43 _ (OC.int (f := 388) I104)
        refine r_aload_n (q := 34) (z := 0) C 0 rfl (by decide +kernel) rfl rfl ?_
        refine r_iconst (q := 35) (z := 0) (v := 0) C rfl (by decide +kernel) (by decide) ?_
        refine r_putI (q := 38) C 6 3 387 rfl (by decide +kernel) rfl (by decide) rfl rfl wf_X6_25 win6 tyX6 tyX6_ok nmX6 rfl (tyX6_ok 3 (by decide)) rfl wnd6 rfl rfl I103.2.1 ?_
        exact J38 _ (OC.int (f := 387) I103)
      refine r_aload_n (q := 25) (z := 0) C 0 rfl (by decide +kernel) rfl rfl ?_
      refine r_bipush (q := 27) (z := 10) (v := 10) C rfl (by decide +kernel) (by decide) ?_
      refine r_newaR (q := 30) (z := 10) C R (386) rfl (by decide +kernel) wk_X6_16 (by decide) (by decide) (by decide) (by decide) (by decide) ?_
      intro a27 e27
      refine r_putRF (q := 33) C 6 2 386 rfl (by decide +kernel) rfl (by decide) rfl rfl wf_X6_22 win6 tyX6 tyX6_ok nmX6 rfl rfl rfl (tyX6_ok 2 (by decide)) rfl wnd6 (by first | exact rv_nar_o _ _ | exact rv_nar_a _ _) (by first | exact rv_fit_o _ _ | exact rv_fit_a _ _) (nw_k (lb := 386) e27 I102.2.1 (by decide)) ?_
      exact J33 _ (OC.obj (f := 386) (k := (12, 10)) (lb := 386) (P := PA (12, 10) 386) I102 e27 Gw.rf (by simp) ⟨kd_new (lb := 386), gl_nw (k := (12, 10))⟩ (st_A (by decide)))
    refine r_aload_n (q := 16) (z := 0) C 0 rfl (by decide +kernel) rfl rfl ?_
    refine r_bipush (q := 18) (z := 10) (v := 10) C rfl (by decide +kernel) (by decide) ?_
    refine r_newaR (q := 21) (z := 10) C R (385) rfl (by decide +kernel) wk_X6_16 (by decide) (by decide) (by decide) (by decide) (by decide) ?_
    intro a18 e18
    refine r_putRF (q := 24) C 6 1 385 rfl (by decide +kernel) rfl (by decide) rfl rfl wf_X6_18 win6 tyX6 tyX6_ok nmX6 rfl rfl rfl (tyX6_ok 1 (by decide)) rfl wnd6 (by first | exact rv_nar_o _ _ | exact rv_nar_a _ _) (by first | exact rv_fit_o _ _ | exact rv_fit_a _ _) (nw_k (lb := 385) e18 I101.2.1 (by decide)) ?_
    exact J24 _ (OC.obj (f := 385) (k := (12, 10)) (lb := 385) (P := PA (12, 10) 385) I101 e18 Gw.rf (by simp) ⟨kd_new (lb := 385), gl_nw (k := (12, 10))⟩ (st_A (by decide)))
  refine r_aload_n (q := 5) (z := 0) C 0 rfl (by decide +kernel) rfl rfl ?_
  refine r_new (q := 8) C R (384) 0 rfl (by decide +kernel) rfl win0 tyX0 tyX0_ok wk_X6_7 wi_X0 wn_X0 (by decide +kernel) (by decide) (by decide) ?_
  intro a5 e5
  refine r_dup (q := 9) C rfl (by decide +kernel) (by first | rfl | exact rv_cat _) ?_
  refine cI0V (q := 12) C R rfl (by decide +kernel) lk_X6_9 (c_X0_init (kd_new (lb := 384))) (by decide) (by decide) (by decide) rfl (by first | exact Nat.le_of_ble_eq_true rfl | (simp only [List.map_cons, List.map_nil, List.sum_cons, List.sum_nil, rv_cat]; exact Nat.le_of_ble_eq_true rfl)) (kd_new (lb := 384)) (by decide) ?_
  rintro h9 ⟨G9, W9, z9, c9⟩
  refine r_putRF (q := 15) C 6 0 384 rfl (by decide +kernel) rfl (by decide) rfl rfl wf_X6_10 win6 tyX6 tyX6_ok nmX6 rfl rfl rfl (tyX6_ok 0 (by decide)) rfl wnd6 (by first | exact rv_nar_o _ _ | exact rv_nar_a _ _) (by first | exact rv_fit_o _ _ | exact rv_fit_a _ _) ((G9 g (by rw [nw_k (lb := 384) (k := (0, 0)) e5 I0.2.1 (by decide)]; decide)).1.trans (nw_k (lb := 384) (k := (0, 0)) e5 I0.2.1 (by decide))) ?_
  exact J15 _ (OC.obj (f := 384) (k := (0, 0)) (lb := 384) (P := PG) I0 e5 G9 (by simp) ⟨W9, z9, c9⟩ st_G)
