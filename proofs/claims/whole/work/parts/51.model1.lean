/-! ===== the model's constructor ===== -/
def Ro (x : Nat) (h h' : HP) : Prop := h'.kd = h.kd ∧ h'.gl = h.gl ∧ h'.fi = h.fi ∧ h'.fr = h.fr ∧ ∀ b, b ≠ x → h'.ai b = h.ai b ∧ h'.al b = h.al b ∧ h'.ar b = h.ar b
theorem Ro.rf {x : Nat} {h : HP} : Ro x h h := ⟨rfl, rfl, rfl, rfl, fun _ _ => ⟨rfl, rfl, rfl⟩⟩
theorem Ro.row {x : Nat} {h : HP} {f : Nat → Int32} : Ro x h (h.row x f) := ⟨rfl, rfl, rfl, rfl, fun b hb => ⟨by rw [ai_row, if_neg hb], rfl, rfl⟩⟩
theorem Ro.rowL {x : Nat} {h : HP} {f : Nat → Int64} : Ro x h (h.rowL x f) := ⟨rfl, rfl, rfl, rfl, fun b hb => ⟨rfl, al_rowL_ne hb, rfl⟩⟩
theorem rowL_stL {h : HP} {a i : Nat} {f : Nat → Int64} {v : Int64} : (h.rowL a f).stL a i v = h.rowL a (vp_updL f i v) := by
  rw [stL_row, al_rowL_eq]
  exact HP.ext rfl (fun _ _ => rfl) (fun _ _ => rfl) (fun _ _ => rfl) (fun b j => by
    show (if b = a then vp_updL f i v else if b = a then f else h.al b) j = (if b = a then vp_updL f i v else h.al b) j
    split <;> rfl) (fun _ _ => rfl) rfl
def w10 : Nat → Int64 := vp_updL (vp_updL (vp_updL (vp_updL (vp_updL (vp_updL (vp_updL (vp_updL (vp_updL (vp_updL (fun _ => 0) 0 564229) 1 22563197) 2 1176170) 3 1891) 4 919327497) 5 412517) 6 974850) 7 913652) 8 75481) 9 1273225
def b3r : Nat → Int32 := upd (upd (upd (fun _ => 0) 0 100) 1 100) 2 100
def s3r : Nat → Int32 := upd (upd (upd (fun _ => 0) 0 1) 1 1) 2 1
def Rm0 (f : Nat) : Nat → Int32 := if f = 492 then b3r else if f = 494 then s3r else fun _ => 0
def Sm0 (f : Nat) : Nat → Int64 := if f = 457 then w10 else fun _ => 0
def OM (i : Nat) (r : Int32) (m : Nat) (h0 h : HP) : Prop := Gw m h0 h ∧ h.kd m = (0, 7) ∧ (∀ q ∈ mK.take i, h.kd (h.fr q.1 m) = (q.2.1, q.2.2) ∧ h.gl (h.fr q.1 m) = q.1 ∧ q.2.1 ≠ 99 ∧ (h0.kd (h.fr q.1 m)).1 = 99 ∧ h.ai (h.fr q.1 m) = Rm0 q.1 ∧ h.al (h.fr q.1 m) = Sm0 q.1) ∧ ∀ f, h.fi f m = if f = 493 then r else 0
theorem OM.rf {m : Nat} {h : HP} (hk : h.kd m = (0, 7)) (hz : ∀ f, h.fi f m = 0) : OM 0 0 m h h := ⟨Gw.rf, hk, fun q hq => (by cases hq), fun f => by rw [hz f]; split <;> rfl⟩
theorem OM.arr {i : Nat} {r : Int32} {m f k n x : Nat} {h0 h h1 : HP} (I : OM i r m h0 h) (hx : (h.kd x).1 = 99) (hq : mK[i]? = some (f, k, n)) (hd : ∀ q ∈ mK.take i, q.1 ≠ f) (hk : k ≠ 99) (O : Ro x (h.new x (k, n) f) h1) (e1 : h1.ai x = Rm0 f) (e2 : h1.al x = Sm0 f) : OM (i + 1) r m h0 (h1.setR f m x) := by
  obtain ⟨G, K, l1, z1⟩ := I
  obtain ⟨o1, o2, o3, o4, o5⟩ := O
  have hn : m ≠ x := ne_fr hx K (by decide)
  obtain ⟨p1, p2, p3, p4, p5, p6, p7⟩ := nw_ne (h := h) (k := (k, n)) (lb := f) hn
  have g1 : Gw m h h1 := fun b hb => by
    have hbx : b ≠ x := fun e => hb (by rw [e]; exact hx)
    obtain ⟨t1, t2, t3, t4, t5, t6, t7⟩ := nw_ne (h := h) (k := (k, n)) (lb := f) hbx
    obtain ⟨u1, u2, u3⟩ := o5 b hbx
    exact ⟨by rw [o1]; exact t1, by rw [o2]; exact t2, fun _ => ⟨fun f' => by rw [o3]; exact t3 f', fun f' => by rw [o4]; exact t4 f', u1.trans t5, u2.trans t6, u3.trans t7⟩⟩
  refine ⟨(G.tr g1).tr Gw.sR, by rw [kd_setR, o1]; exact p1.trans K, fun q hq2 => ?_, fun f' => by rw [fi_setR, o3]; exact (p3 f').trans (z1 f')⟩
  rw [List.take_succ, hq] at hq2
  rcases List.mem_append.mp hq2 with hq2 | hq2
  · obtain ⟨q1, q2, q3, q7, q5, q6⟩ := l1 q hq2
    have ef : (h1.setR f m x).fr q.1 m = h.fr q.1 m := by rw [fr_setR, if_neg (fun e => hd q hq2 e.1), o4]; exact p4 q.1
    rw [ef, kd_setR, gl_setR, ai_setR, al_setR, o1, o2]
    have hy : h.fr q.1 m ≠ x := ne_fr hx q1 q3
    obtain ⟨t1, t2, t3, t4, t5, t6, t7⟩ := nw_ne (h := h) (k := (k, n)) (lb := f) hy
    obtain ⟨u1, u2, u3⟩ := o5 _ hy
    exact ⟨t1.trans q1, t2.trans q2, q3, q7, (u1.trans t5).trans q5, (u2.trans t6).trans q6⟩
  · have hq2 : q ∈ [(f, k, n)] := hq2
    rw [List.mem_singleton] at hq2
    subst hq2
    have ef : (h1.setR f m x).fr f m = x := by rw [fr_setR, if_pos ⟨rfl, rfl⟩]
    have h9 : (h0.kd x).1 = 99 := Classical.byContradiction (fun e => by rw [(G x e).1] at hx; exact e hx)
    show (h1.setR f m x).kd ((h1.setR f m x).fr f m) = (k, n) ∧ (h1.setR f m x).gl ((h1.setR f m x).fr f m) = f ∧ k ≠ 99 ∧ (h0.kd ((h1.setR f m x).fr f m)).1 = 99 ∧ (h1.setR f m x).ai ((h1.setR f m x).fr f m) = Rm0 f ∧ (h1.setR f m x).al ((h1.setR f m x).fr f m) = Sm0 f
    rw [ef, kd_setR, gl_setR, ai_setR, al_setR, o1, o2]
    exact ⟨kd_new (lb := f), gl_nw (k := (k, n)), hk, h9, e1, e2⟩
theorem OM.rate {i : Nat} {m : Nat} {h0 h : HP} (I : OM i 0 m h0 h) : OM i 1 m h0 (h.setI 493 m 1) := by
  obtain ⟨G, K, l1, z1⟩ := I
  refine ⟨G.tr Gw.sI, K, l1, fun f => ?_⟩
  by_cases e : f = 493
  · rw [e, fi_eq]; rfl
  · rw [fi_ne e, z1, if_neg e, if_neg e]
theorem OM.at {r : Int32} {m f k n : Nat} {h0 h : HP} (I : OM 37 r m h0 h) (hq : (f, k, n) ∈ mK) : h.kd (h.fr f m) = (k, n) ∧ h.gl (h.fr f m) = f ∧ (h0.kd (h.fr f m)).1 = 99 ∧ h.ai (h.fr f m) = Rm0 f ∧ h.al (h.fr f m) = Sm0 f := by
  obtain ⟨a1, a2, a3, a4, a5, a6⟩ := I.2.2.1 (f, k, n) (by rw [show mK.take 37 = mK from rfl]; exact hq)
  exact ⟨a1, a2, a4, a5, a6⟩
theorem OM.lm {r : Int32} {m : Nat} {h0 h : HP} (I : OM 37 r m h0 h) : LM h.kd h.gl h.fr m := ⟨I.2.1, fun q hq => ⟨(I.at (f := q.1) (k := q.2.1) (n := q.2.2) hq).1, (I.at (f := q.1) (k := q.2.1) (n := q.2.2) hq).2.1⟩⟩
def s0 : SG := (0, fun _ => 0, fun _ => 0, fun _ => 0, fun _ => 0, fun _ => 0, fun _ => 240, fun _ => 240, fun _ => 0, fun _ => 0, fun _ => false, fun _ => false, 0, 0)
theorem om_fin {m : Nat} {h0 h h' : HP} (I : OM 37 1 m h0 h) (e : h' = (h.row (h.fr 478 m) (mix (fun _ => -1) (h.ai (h.fr 478 m)) 10)).row (h.fr 479 m) (mix (fun _ => -1) (h.ai (h.fr 479 m)) 10)) : Gw m h0 h' ∧ LM h'.kd h'.gl h'.fr m ∧ MR s0 h' m ∧ MB (fun _ => 100) (fun _ => 1) 1 h' m ∧ MT [] h' m ∧ ML [] h' m ∧ MWd h' m := by
  have L := I.lm
  have g478 := (I.at (f := 478) (k := 9) (n := 10) (by decide)).2
  have g479 := (I.at (f := 479) (k := 9) (n := 10) (by decide)).2
  have n89 : h.fr 478 m ≠ h.fr 479 m := gl_ne g478.1 g479.1 (by decide)
  have fs : ∀ f, f ≠ 493 → h.fi f m = 0 := fun f hf => by rw [I.2.2.2 f, if_neg hf]
  have f1 : h.fi 493 m = 1 := by rw [I.2.2.2 493, if_pos rfl]
  have efr : h'.fr = h.fr := by rw [e]; rfl
  have efi : h'.fi = h.fi := by rw [e]; rfl
  have ekd : h'.kd = h.kd := by rw [e]; rfl
  have egl : h'.gl = h.gl := by rw [e]; rfl
  have eal : h'.al = h.al := by rw [e]; rfl
  have eai : ∀ f k n, (f, k, n) ∈ mK → f ≠ 478 → f ≠ 479 → h'.ai (h'.fr f m) = Rm0 f := fun f k n hq h1 h2 => by
    have z := I.at hq
    rw [efr, e, ai_row_ne (gl_ne z.2.1 g479.1 h2), ai_row_ne (gl_ne z.2.1 g478.1 h1)]
    exact z.2.2.2.1
  have e478 : ∀ r, r < 10 → h'.ai (h'.fr 478 m) r = -1 := fun r hr => by rw [efr, e, ai_row_ne n89, ai_row_eq]; exact mix_in hr
  have e479 : ∀ r, r < 10 → h'.ai (h'.fr 479 m) r = -1 := fun r hr => by rw [efr, e, ai_row_eq]; exact mix_in hr
  have G1 : Gw m h0 h' := by
    rw [e]
    exact Gw.to g479.2.1 (Gw.to g478.2.1 I.1 Gw.rw_) Gw.rw_
  have z0 : ∀ f k n r, (f, k, n) ∈ mK → f ≠ 478 → f ≠ 479 → f ≠ 492 → f ≠ 494 → h'.ai (h'.fr f m) r = 0 := fun f k n r hq h1 h2 h3 h4 => by
    rw [eai f k n hq h1 h2]; unfold Rm0; rw [if_neg h3, if_neg h4]
  refine ⟨G1, by rw [ekd, egl, efr]; exact L, ⟨by rw [efi]; exact fs 472 (by decide), by rw [efi]; exact fs 485 (by decide), by rw [efi]; exact fs 483 (by decide), fun r _ => z0 473 9 10 r (by decide) (by decide) (by decide) (by decide) (by decide), fun r _ => z0 474 9 10 r (by decide) (by decide) (by decide) (by decide) (by decide), fun r _ => z0 475 9 10 r (by decide) (by decide) (by decide) (by decide) (by decide), fun r _ => z0 476 9 10 r (by decide) (by decide) (by decide) (by decide) (by decide), fun r _ => z0 477 9 10 r (by decide) (by decide) (by decide) (by decide) (by decide), fun r hr => e478 r hr, fun r hr => e479 r hr, fun r _ => z0 480 9 10 r (by decide) (by decide) (by decide) (by decide) (by decide), fun r _ => z0 481 9 10 r (by decide) (by decide) (by decide) (by decide) (by decide), fun r _ => z0 482 11 10 r (by decide) (by decide) (by decide) (by decide) (by decide), fun r _ => z0 484 11 120 r (by decide) (by decide) (by decide) (by decide) (by decide)⟩, ⟨fun k hk => ⟨?_, show (100 : Nat) ≤ 1000 by decide⟩, fun k hk => ⟨?_, show (1 : Nat) ≤ 1 by decide, show (1 : Nat) ≤ 1000 by decide⟩, by rw [efi]; exact f1, by decide⟩, ⟨⟨by decide, fun j hj => absurd hj (Nat.not_lt_zero j)⟩, by rw [efi]; exact fs 450 (by decide), fun j hj => absurd hj (Nat.not_lt_zero j)⟩, ⟨0, by decide, by rw [efi]; exact fs 463 (by decide), by decide, z0 458 9 2 0 (by decide) (by decide) (by decide) (by decide) (by decide), fun k ln hk => by simp at hk⟩, fun w hw => ?_⟩
  · rw [eai 492 9 3 (by decide) (by decide) (by decide)]
    exact (by decide : ∀ k : Fin 3, Rm0 492 k.val = nI 100) ⟨k, hk⟩
  · rw [eai 494 9 3 (by decide) (by decide) (by decide)]
    exact (by decide : ∀ k : Fin 3, Rm0 494 k.val = nI 1) ⟨k, hk⟩
  · rw [efr, eal, (I.at (f := 457) (k := 10) (n := 10) (by decide)).2.2.2.2]
    exact (by decide +kernel : ∀ w : Fin 10, Sm0 457 w.val = lN (Hw w.val)) ⟨w, hw⟩

set_option maxRecDepth 4000 in
theorem c_X7_init {G : GT} {h : HP} {m : Nat} (hk : h.kd m = (0, 7)) (hz : ∀ f, h.fi f m = 0) : Con G 1 37 8469 yX7_init cX7_init 2 none [rv m] h (PV (fun h' => Gw m h h' ∧ LM h'.kd h'.gl h'.fr m ∧ MR s0 h' m ∧ MB (fun _ => 100) (fun _ => 1) 1 h' m ∧ MT [] h' m ∧ ML [] h' m ∧ MWd h' m)) := by
  refine Con.of (lv := [some (rv m), none]) (by decide) (by simp only [lvE_r, lvE_i, lvE_l, lvE_s, lvE_0]; rfl) (by simp only [lgl_r, lgl_i, lgl_l, lgl_s, lgl_0]; decide) (fun Γ C R => ?_)
  generalize hPP : (PV (fun h' => Gw m h h' ∧ LM h'.kd h'.gl h'.fr m ∧ MR s0 h' m ∧ MB (fun _ => 100) (fun _ => 1) 1 h' m ∧ MT [] h' m ∧ ML [] h' m ∧ MWd h' m)) = PP
  have I0 := OM.rf hk hz
  refine r_aload_n (q := 1) (z := 0) C 0 rfl (by decide +kernel) rfl rfl ?_
  refine r_objInit (q := 4) C R rfl (by decide +kernel) wo_X7_18 wo_2 wo_5 (by decide) (by first | exact Nat.le_of_ble_eq_true rfl | (simp only [List.map_cons, List.map_nil, List.sum_cons, List.sum_nil, rv_cat]; exact Nat.le_of_ble_eq_true rfl)) hk (by decide) ?_
  have J13 : ∀ (h1 : HP), (OM 1 0 m h h1) → wX G Γ (qM G Γ PP 37 8469) 1 600 (h1) 13 [some (rv m), none] [] := by
    intro h1 I1
    have J22 : ∀ (h2 : HP), (OM 2 0 m h h2) → wX G Γ (qM G Γ PP 37 8469) 2 1202 (h2) 22 [some (rv m), none] [] := by
      intro h2 I2
      have J31 : ∀ (h3 : HP), (OM 3 0 m h h3) → wX G Γ (qM G Γ PP 37 8469) 3 1804 (h3) 31 [some (rv m), none] [] := by
        intro h3 I3
        have J40 : ∀ (h4 : HP), (OM 4 0 m h h4) → wX G Γ (qM G Γ PP 37 8469) 4 2406 (h4) 40 [some (rv m), none] [] := by
          intro h4 I4
          have J112 : ∀ (h5 : HP), (OM 5 0 m h h5) → wX G Γ (qM G Γ PP 37 8469) 5 2416 (h5) 112 [some (rv m), none] [] := by
            intro h5 I5
            have J119 : ∀ (h6 : HP), (OM 6 0 m h h6) → wX G Γ (qM G Γ PP 37 8469) 6 2418 (h6) 119 [some (rv m), none] [] := by
              intro h6 I6
              have J127 : ∀ (h7 : HP), (OM 7 0 m h h7) → wX G Γ (qM G Γ PP 37 8469) 7 2450 (h7) 127 [some (rv m), none] [] := by
                intro h7 I7
                have J135 : ∀ (h8 : HP), (OM 8 0 m h h8) → wX G Γ (qM G Γ PP 37 8469) 8 2482 (h8) 135 [some (rv m), none] [] := by
                  intro h8 I8
                  have J144 : ∀ (h9 : HP), (OM 9 0 m h h9) → wX G Γ (qM G Γ PP 37 8469) 9 3802 (h9) 144 [some (rv m), none] [] := by
                    intro h9 I9
                    have J153 : ∀ (h10 : HP), (OM 10 0 m h h10) → wX G Γ (qM G Γ PP 37 8469) 10 5122 (h10) 153 [some (rv m), none] [] := by
                      intro h10 I10
                      have J161 : ∀ (h11 : HP), (OM 11 0 m h h11) → wX G Γ (qM G Γ PP 37 8469) 11 5129 (h11) 161 [some (rv m), none] [] := by
                        intro h11 I11
                        have J169 : ∀ (h12 : HP), (OM 12 0 m h h12) → wX G Γ (qM G Γ PP 37 8469) 12 5136 (h12) 169 [some (rv m), none] [] := by
                          intro h12 I12
                          have J177 : ∀ (h13 : HP), (OM 13 0 m h h13) → wX G Γ (qM G Γ PP 37 8469) 13 5143 (h13) 177 [some (rv m), none] [] := by
                            intro h13 I13
                            have J185 : ∀ (h14 : HP), (OM 14 0 m h h14) → wX G Γ (qM G Γ PP 37 8469) 14 5149 (h14) 185 [some (rv m), none] [] := by
                              intro h14 I14
                              have J194 : ∀ (h15 : HP), (OM 15 0 m h h15) → wX G Γ (qM G Γ PP 37 8469) 15 5809 (h15) 194 [some (rv m), none] [] := by
                                intro h15 I15
                                have J202 : ∀ (h16 : HP), (OM 16 0 m h h16) → wX G Γ (qM G Γ PP 37 8469) 16 5819 (h16) 202 [some (rv m), none] [] := by
                                  intro h16 I16
                                  have J210 : ∀ (h17 : HP), (OM 17 0 m h h17) → wX G Γ (qM G Γ PP 37 8469) 17 5829 (h17) 210 [some (rv m), none] [] := by
                                    intro h17 I17
                                    have J218 : ∀ (h18 : HP), (OM 18 0 m h h18) → wX G Γ (qM G Γ PP 37 8469) 18 5839 (h18) 218 [some (rv m), none] [] := by
                                      intro h18 I18
                                      have J226 : ∀ (h19 : HP), (OM 19 0 m h h19) → wX G Γ (qM G Γ PP 37 8469) 19 5849 (h19) 226 [some (rv m), none] [] := by
                                        intro h19 I19
                                        have J234 : ∀ (h20 : HP), (OM 20 0 m h h20) → wX G Γ (qM G Γ PP 37 8469) 20 5859 (h20) 234 [some (rv m), none] [] := by
                                          intro h20 I20
                                          have J242 : ∀ (h21 : HP), (OM 21 0 m h h21) → wX G Γ (qM G Γ PP 37 8469) 21 5869 (h21) 242 [some (rv m), none] [] := by
                                            intro h21 I21
                                            have J250 : ∀ (h22 : HP), (OM 22 0 m h h22) → wX G Γ (qM G Γ PP 37 8469) 22 5879 (h22) 250 [some (rv m), none] [] := by
                                              intro h22 I22
                                              have J258 : ∀ (h23 : HP), (OM 23 0 m h h23) → wX G Γ (qM G Γ PP 37 8469) 23 5889 (h23) 258 [some (rv m), none] [] := by
                                                intro h23 I23
                                                have J266 : ∀ (h24 : HP), (OM 24 0 m h h24) → wX G Γ (qM G Γ PP 37 8469) 24 5899 (h24) 266 [some (rv m), none] [] := by
                                                  intro h24 I24
                                                  have J274 : ∀ (h25 : HP), (OM 25 0 m h h25) → wX G Γ (qM G Γ PP 37 8469) 25 5909 (h25) 274 [some (rv m), none] [] := by
                                                    intro h25 I25
                                                    have J282 : ∀ (h26 : HP), (OM 26 0 m h h26) → wX G Γ (qM G Γ PP 37 8469) 26 6029 (h26) 282 [some (rv m), none] [] := by
                                                      intro h26 I26
                                                      have J290 : ∀ (h27 : HP), (OM 27 0 m h h27) → wX G Γ (qM G Γ PP 37 8469) 27 6149 (h27) 290 [some (rv m), none] [] := by
                                                        intro h27 I27
                                                        have J298 : ∀ (h28 : HP), (OM 28 0 m h h28) → wX G Γ (qM G Γ PP 37 8469) 28 6269 (h28) 298 [some (rv m), none] [] := by
                                                          intro h28 I28
                                                          have J306 : ∀ (h29 : HP), (OM 29 0 m h h29) → wX G Γ (qM G Γ PP 37 8469) 29 6279 (h29) 306 [some (rv m), none] [] := by
                                                            intro h29 I29
                                                            have J315 : ∀ (h30 : HP), (OM 30 0 m h h30) → wX G Γ (qM G Γ PP 37 8469) 30 7303 (h30) 315 [some (rv m), none] [] := by
                                                              intro h30 I30
                                                              have J324 : ∀ (h31 : HP), (OM 31 0 m h h31) → wX G Γ (qM G Γ PP 37 8469) 31 8327 (h31) 324 [some (rv m), none] [] := by
                                                                intro h31 I31
                                                                have J332 : ∀ (h32 : HP), (OM 32 0 m h h32) → wX G Γ (qM G Γ PP 37 8469) 32 8447 (h32) 332 [some (rv m), none] [] := by
                                                                  intro h32 I32
                                                                  have J354 : ∀ (h33 : HP), (OM 33 0 m h h33) → wX G Γ (qM G Γ PP 37 8469) 33 8450 (h33) 354 [some (rv m), none] [] := by
                                                                    intro h33 I33
                                                                    have J359 : ∀ (h34 : HP), (OM 33 1 m h h34) → wX G Γ (qM G Γ PP 37 8469) 33 8450 (h34) 359 [some (rv m), none] [] := by
                                                                      intro h34 I34
                                                                      have J378 : ∀ (h35 : HP), (OM 34 1 m h h35) → wX G Γ (qM G Γ PP 37 8469) 34 8453 (h35) 378 [some (rv m), none] [] := by
                                                                        intro h35 I35
                                                                        have J386 : ∀ (h36 : HP), (OM 35 1 m h h36) → wX G Γ (qM G Γ PP 37 8469) 35 8463 (h36) 386 [some (rv m), none] [] := by
                                                                          intro h36 I36
                                                                          have J393 : ∀ (h37 : HP), (OM 36 1 m h h37) → wX G Γ (qM G Γ PP 37 8469) 36 8466 (h37) 393 [some (rv m), none] [] := by
                                                                            intro h37 I37
                                                                            have J400 : ∀ (h38 : HP), (OM 37 1 m h h38) → wX G Γ (qM G Γ PP 37 8469) 37 8469 (h38) 400 [some (rv m), none] [] := by
                                                                              intro h38 I38
                                                                              refine r_iconst (q := 401) (z := 0) (v := nI 0) C rfl (by decide +kernel) (by decide) ?_
                                                                              refine r_istore_n (q := 402) (z := 1) C 1 rfl (by decide +kernel) rfl (by decide) (by first | rfl | exact okst_rv rfl) ?_
                                                                              dsimp only [List.set]
                                                                              have n89 : (h38.fr 478 m) ≠ (h38.fr 479 m) := gl_ne (I38.at (f := 478) (k := 9) (n := 10) (by decide)).2.1 (I38.at (f := 479) (k := 9) (n := 10) (by decide)).2.1 (by decide)
                                                                              have L402 : ∀ (fuel402 : Nat) (k : Nat), 10 - k < fuel402 → (k ≤ 10) → wX G Γ (qM G Γ PP 37 8469) 37 8469 ((h38.row (h38.fr 478 m) (mix (fun _ => -1) (h38.ai (h38.fr 478 m)) k)).row (h38.fr 479 m) (mix (fun _ => -1) (h38.ai (h38.fr 479 m)) k)) 402 [some (rv m), some (.int (nI k))] [] := by
                                                                                intro fuel402
                                                                                induction fuel402 with
                                                                                | zero =>
                                                                                  intro k hm402
                                                                                  exact absurd hm402 (Nat.not_lt_zero _)
                                                                                | succ fuel402 ih402 =>
                                                                                  intro k hm402 hk9
                                                                                  refine r_iload_n (q := 403) (z := 1) C 1 rfl (by decide +kernel) rfl rfl ?_
                                                                                  refine r_bipush (q := 405) (z := 10) (v := 10) C rfl (by decide +kernel) (by decide) ?_
                                                                                  refine r_icmp_ge (q := 408) (off := 23) (tgt := 428) C rfl (by decide +kernel) (by decide) (fun c405 => ?_) (fun c405 => ?_)
                                                                                  · have ek : k = 10 := by have := (nI_leI (a := 10) (by omega) (by omega)).mp c405; omega
                                                                                    exact r_ret C (by decide +kernel) rfl (by decide) (by decide) (eqP hPP ⟨rfl, om_fin I38 (by rw [ek])⟩)
                                                                                  · have hlt : k < 10 := Nat.lt_of_not_le (fun q => c405 (nI_le (a := 10) q (by omega)))
                                                                                    refine r_aload_n (q := 409) (z := 0) C 0 rfl (by decide +kernel) rfl rfl ?_
                                                                                    refine r_getR (q := 412) C 7 31 479 rfl (by decide +kernel) rfl (by decide) rfl rfl wf_X7_106 win7 I38.2.1 ?_
                                                                                    simp only [fr_row]
                                                                                    refine r_iload_n (q := 413) (z := 1) C 1 rfl (by decide +kernel) rfl rfl ?_
                                                                                    refine r_iconst (q := 414) (z := (-1)) (v := (-1)) C rfl (by decide +kernel) (by decide) ?_
                                                                                    refine r_iast (q := 415) C rfl (by decide +kernel) rfl (I38.at (f := 479) (k := 9) (n := 10) (by decide)).1 (vp_in_nI hlt (by decide)) ?_
                                                                                    rw [row_stI, nI_clamp (by omega)]
                                                                                    refine r_aload_n (q := 416) (z := 0) C 0 rfl (by decide +kernel) rfl rfl ?_
                                                                                    refine r_getR (q := 419) C 7 30 478 rfl (by decide +kernel) rfl (by decide) rfl rfl wf_X7_103 win7 I38.2.1 ?_
                                                                                    simp only [fr_row]
                                                                                    refine r_iload_n (q := 420) (z := 1) C 1 rfl (by decide +kernel) rfl rfl ?_
                                                                                    refine r_iconst (q := 421) (z := (-1)) (v := (-1)) C rfl (by decide +kernel) (by decide) ?_
                                                                                    refine r_iast (q := 422) C rfl (by decide +kernel) rfl (I38.at (f := 478) (k := 9) (n := 10) (by decide)).1 (vp_in_nI hlt (by decide)) ?_
                                                                                    rw [row_stI2 n89, nI_clamp (by omega)]
                                                                                    refine r_iinc (q := 425) (z := 1) (v := 1) C 1 rfl (by decide +kernel) rfl (by decide) (by decide) (by first | rfl | exact okst_rv rfl) ?_
                                                                                    dsimp only [List.set]
                                                                                    rw [nI_1]
                                                                                    refine r_goto (off := -23) (tgt := 402) C (by decide +kernel) (by decide) ?_
                                                                                    have z0 := ih402 (k + 1) (by omega) (by omega)
                                                                                    rw [← mix_s, ← mix_s] at z0
                                                                                    exact z0
                                                                              have z0 := L402 11 0 (by omega) (by omega)
                                                                              rw [mix_0, mix_0, row_self, row_self] at z0
                                                                              exact z0
                                                                            refine r_aload_n (q := 394) (z := 0) C 0 rfl (by decide +kernel) rfl rfl ?_
                                                                            refine r_iconst (q := 395) (z := 3) (v := 3) C rfl (by decide +kernel) (by decide) ?_
                                                                            refine r_newaI (q := 397) (z := 3) C R (497) rfl (by decide +kernel) wa_int (by decide) (by decide) (by decide) (by decide) (by decide) ?_
                                                                            intro a395 e395
                                                                            refine r_putRF (q := 400) C 7 49 497 rfl (by decide +kernel) rfl (by decide) rfl rfl wf_X7_154 win7 tyX7 tyX7_ok nmX7 rfl rfl rfl (tyX7_ok 49 (by decide)) rfl wnd7 (by first | exact rv_nar_o _ _ | exact rv_nar_a _ _) (by first | exact rv_fit_o _ _ | exact rv_fit_a _ _) (nw_k (lb := 497) e395 I37.2.1 (by decide)) ?_
                                                                            exact wX.sub (lsub_s (lsub_n (lsub_nil))) (J400 _ (OM.arr (i := 36) (f := 497) (k := 9) (n := 3) I37 e395 rfl (by decide) (by decide) Ro.rf (ai_new (kd0 := (9, 3)) (lb := 497)) (al_new (kd0 := (9, 3)) (lb := 497))))
                                                                          refine r_aload_n (q := 387) (z := 0) C 0 rfl (by decide +kernel) rfl rfl ?_
                                                                          refine r_iconst (q := 388) (z := 3) (v := 3) C rfl (by decide +kernel) (by decide) ?_
                                                                          refine r_newaI (q := 390) (z := 3) C R (496) rfl (by decide +kernel) wa_int (by decide) (by decide) (by decide) (by decide) (by decide) ?_
                                                                          intro a388 e388
                                                                          refine r_putRF (q := 393) C 7 48 496 rfl (by decide +kernel) rfl (by decide) rfl rfl wf_X7_151 win7 tyX7 tyX7_ok nmX7 rfl rfl rfl (tyX7_ok 48 (by decide)) rfl wnd7 (by first | exact rv_nar_o _ _ | exact rv_nar_a _ _) (by first | exact rv_fit_o _ _ | exact rv_fit_a _ _) (nw_k (lb := 496) e388 I36.2.1 (by decide)) ?_
                                                                          exact wX.sub (lsub_s (lsub_n (lsub_nil))) (J393 _ (OM.arr (i := 35) (f := 496) (k := 9) (n := 3) I36 e388 rfl (by decide) (by decide) Ro.rf (ai_new (kd0 := (9, 3)) (lb := 496)) (al_new (kd0 := (9, 3)) (lb := 496))))
                                                                        refine r_aload_n (q := 379) (z := 0) C 0 rfl (by decide +kernel) rfl rfl ?_
                                                                        refine r_bipush (q := 381) (z := 10) (v := 10) C rfl (by decide +kernel) (by decide) ?_
                                                                        refine r_newaZ (q := 383) (z := 10) C R (495) rfl (by decide +kernel) wa_boolean (by decide) (by decide) (by decide) (by decide) (by decide) ?_
                                                                        intro a381 e381
                                                                        refine r_putRF (q := 386) C 7 47 495 rfl (by decide +kernel) rfl (by decide) rfl rfl wf_X7_148 win7 tyX7 tyX7_ok nmX7 rfl rfl rfl (tyX7_ok 47 (by decide)) rfl wnd7 (by first | exact rv_nar_o _ _ | exact rv_nar_a _ _) (by first | exact rv_fit_o _ _ | exact rv_fit_a _ _) (nw_k (lb := 495) e381 I35.2.1 (by decide)) ?_
                                                                        exact wX.sub (lsub_s (lsub_n (lsub_nil))) (J386 _ (OM.arr (i := 34) (f := 495) (k := 11) (n := 10) I35 e381 rfl (by decide) (by decide) Ro.rf (ai_new (kd0 := (11, 10)) (lb := 495)) (al_new (kd0 := (11, 10)) (lb := 495))))
                                                                      refine r_aload_n (q := 360) (z := 0) C 0 rfl (by decide +kernel) rfl rfl ?_
                                                                      refine r_iconst (q := 361) (z := 3) (v := 3) C rfl (by decide +kernel) (by decide) ?_
                                                                      refine r_newaI (q := 363) (z := 3) C R (494) rfl (by decide +kernel) wa_int (by decide) (by decide) (by decide) (by decide) (by decide) ?_
                                                                      intro a361 e361
                                                                      refine r_dup (q := 364) C rfl (by decide +kernel) (by first | rfl | exact rv_cat _) ?_
                                                                      refine r_iconst (q := 365) (z := 0) (v := nI 0) C rfl (by decide +kernel) (by decide) ?_
                                                                      refine r_iconst (q := 366) (z := 1) (v := 1) C rfl (by decide +kernel) (by decide) ?_
                                                                      refine r_iast (q := 367) C rfl (by decide +kernel) rfl (kd_new (lb := 494)) (vp_in_nI (by decide) (by decide)) ?_
                                                                      rw [stI_row, nI_clamp (by decide), ai_new]
                                                                      refine r_dup (q := 368) C rfl (by decide +kernel) (by first | rfl | exact rv_cat _) ?_
                                                                      refine r_iconst (q := 369) (z := 1) (v := nI 1) C rfl (by decide +kernel) (by decide) ?_
                                                                      refine r_iconst (q := 370) (z := 1) (v := 1) C rfl (by decide +kernel) (by decide) ?_
                                                                      refine r_iast (q := 371) C rfl (by decide +kernel) rfl (kd_new (lb := 494)) (vp_in_nI (by decide) (by decide)) ?_
                                                                      rw [row_stI, nI_clamp (by decide)]
                                                                      refine r_dup (q := 372) C rfl (by decide +kernel) (by first | rfl | exact rv_cat _) ?_
                                                                      refine r_iconst (q := 373) (z := 2) (v := nI 2) C rfl (by decide +kernel) (by decide) ?_
                                                                      refine r_iconst (q := 374) (z := 1) (v := 1) C rfl (by decide +kernel) (by decide) ?_
                                                                      refine r_iast (q := 375) C rfl (by decide +kernel) rfl (kd_new (lb := 494)) (vp_in_nI (by decide) (by decide)) ?_
                                                                      rw [row_stI, nI_clamp (by decide)]
                                                                      refine r_putRF (q := 378) C 7 46 494 rfl (by decide +kernel) rfl (by decide) rfl rfl wf_X7_145 win7 tyX7 tyX7_ok nmX7 rfl rfl rfl (tyX7_ok 46 (by decide)) rfl wnd7 (by first | exact rv_nar_o _ _ | exact rv_nar_a _ _) (by first | exact rv_fit_o _ _ | exact rv_fit_a _ _) (nw_k (lb := 494) e361 I34.2.1 (by decide)) ?_
                                                                      exact wX.sub (lsub_s (lsub_n (lsub_nil))) (J378 _ (OM.arr (i := 33) (f := 494) (k := 9) (n := 3) I34 e361 rfl (by decide) (by decide) Ro.row ai_row_eq (al_new (kd0 := (9, 3)) (lb := 494))))
                                                                    refine r_aload_n (q := 355) (z := 0) C 0 rfl (by decide +kernel) rfl rfl ?_
                                                                    refine r_iconst (q := 356) (z := 1) (v := 1) C rfl (by decide +kernel) (by decide) ?_
                                                                    refine r_putI (q := 359) C 7 45 493 rfl (by decide +kernel) rfl (by decide) rfl rfl wf_X7_142 win7 tyX7 tyX7_ok nmX7 rfl (tyX7_ok 45 (by decide)) rfl wnd7 rfl rfl I33.2.1 ?_
                                                                    exact wX.sub (lsub_s (lsub_n (lsub_nil))) (J359 _ (OM.rate I33))
                                                                  refine r_aload_n (q := 333) (z := 0) C 0 rfl (by decide +kernel) rfl rfl ?_
                                                                  refine r_iconst (q := 334) (z := 3) (v := 3) C rfl (by decide +kernel) (by decide) ?_
                                                                  refine r_newaI (q := 336) (z := 3) C R (492) rfl (by decide +kernel) wa_int (by decide) (by decide) (by decide) (by decide) (by decide) ?_
                                                                  intro a334 e334
                                                                  refine r_dup (q := 337) C rfl (by decide +kernel) (by first | rfl | exact rv_cat _) ?_
                                                                  refine r_iconst (q := 338) (z := 0) (v := nI 0) C rfl (by decide +kernel) (by decide) ?_
                                                                  refine r_bipush (q := 340) (z := 100) (v := 100) C rfl (by decide +kernel) (by decide) ?_
                                                                  refine r_iast (q := 341) C rfl (by decide +kernel) rfl (kd_new (lb := 492)) (vp_in_nI (by decide) (by decide)) ?_
                                                                  rw [stI_row, nI_clamp (by decide), ai_new]
                                                                  refine r_dup (q := 342) C rfl (by decide +kernel) (by first | rfl | exact rv_cat _) ?_
                                                                  refine r_iconst (q := 343) (z := 1) (v := nI 1) C rfl (by decide +kernel) (by decide) ?_
                                                                  refine r_bipush (q := 345) (z := 100) (v := 100) C rfl (by decide +kernel) (by decide) ?_
                                                                  refine r_iast (q := 346) C rfl (by decide +kernel) rfl (kd_new (lb := 492)) (vp_in_nI (by decide) (by decide)) ?_
                                                                  rw [row_stI, nI_clamp (by decide)]
                                                                  refine r_dup (q := 347) C rfl (by decide +kernel) (by first | rfl | exact rv_cat _) ?_
                                                                  refine r_iconst (q := 348) (z := 2) (v := nI 2) C rfl (by decide +kernel) (by decide) ?_
                                                                  refine r_bipush (q := 350) (z := 100) (v := 100) C rfl (by decide +kernel) (by decide) ?_
                                                                  refine r_iast (q := 351) C rfl (by decide +kernel) rfl (kd_new (lb := 492)) (vp_in_nI (by decide) (by decide)) ?_
                                                                  rw [row_stI, nI_clamp (by decide)]
                                                                  refine r_putRF (q := 354) C 7 44 492 rfl (by decide +kernel) rfl (by decide) rfl rfl wf_X7_139 win7 tyX7 tyX7_ok nmX7 rfl rfl rfl (tyX7_ok 44 (by decide)) rfl wnd7 (by first | exact rv_nar_o _ _ | exact rv_nar_a _ _) (by first | exact rv_fit_o _ _ | exact rv_fit_a _ _) (nw_k (lb := 492) e334 I32.2.1 (by decide)) ?_
                                                                  exact wX.sub (lsub_s (lsub_n (lsub_nil))) (J354 _ (OM.arr (i := 32) (f := 492) (k := 9) (n := 3) I32 e334 rfl (by decide) (by decide) Ro.row ai_row_eq (al_new (kd0 := (9, 3)) (lb := 492))))
                                                                refine r_aload_n (q := 325) (z := 0) C 0 rfl (by decide +kernel) rfl rfl ?_
                                                                refine r_bipush (q := 327) (z := 120) (v := 120) C rfl (by decide +kernel) (by decide) ?_
                                                                refine r_newaI (q := 329) (z := 120) C R (491) rfl (by decide +kernel) wa_int (by decide) (by decide) (by decide) (by decide) (by decide) ?_
                                                                intro a327 e327
                                                                refine r_putRF (q := 332) C 7 43 491 rfl (by decide +kernel) rfl (by decide) rfl rfl wf_X7_136 win7 tyX7 tyX7_ok nmX7 rfl rfl rfl (tyX7_ok 43 (by decide)) rfl wnd7 (by first | exact rv_nar_o _ _ | exact rv_nar_a _ _) (by first | exact rv_fit_o _ _ | exact rv_fit_a _ _) (nw_k (lb := 491) e327 I31.2.1 (by decide)) ?_
                                                                exact wX.sub (lsub_s (lsub_n (lsub_nil))) (J332 _ (OM.arr (i := 31) (f := 491) (k := 9) (n := 120) I31 e327 rfl (by decide) (by decide) Ro.rf (ai_new (kd0 := (9, 120)) (lb := 491)) (al_new (kd0 := (9, 120)) (lb := 491))))
                                                              refine r_aload_n (q := 316) (z := 0) C 0 rfl (by decide +kernel) rfl rfl ?_
                                                              refine r_sipush (q := 319) (z := 1024) (v := 1024) C rfl (by decide +kernel) (by decide) ?_
                                                              refine r_newaI (q := 321) (z := 1024) C R (490) rfl (by decide +kernel) wa_int (by decide) (by decide) (by decide) (by decide) (by decide) ?_
                                                              intro a319 e319
                                                              refine r_putRF (q := 324) C 7 42 490 rfl (by decide +kernel) rfl (by decide) rfl rfl wf_X7_133 win7 tyX7 tyX7_ok nmX7 rfl rfl rfl (tyX7_ok 42 (by decide)) rfl wnd7 (by first | exact rv_nar_o _ _ | exact rv_nar_a _ _) (by first | exact rv_fit_o _ _ | exact rv_fit_a _ _) (nw_k (lb := 490) e319 I30.2.1 (by decide)) ?_
                                                              exact wX.sub (lsub_s (lsub_n (lsub_nil))) (J324 _ (OM.arr (i := 30) (f := 490) (k := 9) (n := 1024) I30 e319 rfl (by decide) (by decide) Ro.rf (ai_new (kd0 := (9, 1024)) (lb := 490)) (al_new (kd0 := (9, 1024)) (lb := 490))))
                                                            refine r_aload_n (q := 307) (z := 0) C 0 rfl (by decide +kernel) rfl rfl ?_
                                                            refine r_sipush (q := 310) (z := 1024) (v := 1024) C rfl (by decide +kernel) (by decide) ?_
                                                            refine r_newaI (q := 312) (z := 1024) C R (489) rfl (by decide +kernel) wa_int (by decide) (by decide) (by decide) (by decide) (by decide) ?_
                                                            intro a310 e310
                                                            refine r_putRF (q := 315) C 7 41 489 rfl (by decide +kernel) rfl (by decide) rfl rfl wf_X7_130 win7 tyX7 tyX7_ok nmX7 rfl rfl rfl (tyX7_ok 41 (by decide)) rfl wnd7 (by first | exact rv_nar_o _ _ | exact rv_nar_a _ _) (by first | exact rv_fit_o _ _ | exact rv_fit_a _ _) (nw_k (lb := 489) e310 I29.2.1 (by decide)) ?_
                                                            exact wX.sub (lsub_s (lsub_n (lsub_nil))) (J315 _ (OM.arr (i := 29) (f := 489) (k := 9) (n := 1024) I29 e310 rfl (by decide) (by decide) Ro.rf (ai_new (kd0 := (9, 1024)) (lb := 489)) (al_new (kd0 := (9, 1024)) (lb := 489))))
                                                          refine r_aload_n (q := 299) (z := 0) C 0 rfl (by decide +kernel) rfl rfl ?_
                                                          refine r_bipush (q := 301) (z := 10) (v := 10) C rfl (by decide +kernel) (by decide) ?_
                                                          refine r_newaZ (q := 303) (z := 10) C R (488) rfl (by decide +kernel) wa_boolean (by decide) (by decide) (by decide) (by decide) (by decide) ?_
                                                          intro a301 e301
                                                          refine r_putRF (q := 306) C 7 40 488 rfl (by decide +kernel) rfl (by decide) rfl rfl wf_X7_127 win7 tyX7 tyX7_ok nmX7 rfl rfl rfl (tyX7_ok 40 (by decide)) rfl wnd7 (by first | exact rv_nar_o _ _ | exact rv_nar_a _ _) (by first | exact rv_fit_o _ _ | exact rv_fit_a _ _) (nw_k (lb := 488) e301 I28.2.1 (by decide)) ?_
                                                          exact wX.sub (lsub_s (lsub_n (lsub_nil))) (J306 _ (OM.arr (i := 28) (f := 488) (k := 11) (n := 10) I28 e301 rfl (by decide) (by decide) Ro.rf (ai_new (kd0 := (11, 10)) (lb := 488)) (al_new (kd0 := (11, 10)) (lb := 488))))
                                                        refine r_aload_n (q := 291) (z := 0) C 0 rfl (by decide +kernel) rfl rfl ?_
                                                        refine r_bipush (q := 293) (z := 120) (v := 120) C rfl (by decide +kernel) (by decide) ?_
                                                        refine r_newaZ (q := 295) (z := 120) C R (487) rfl (by decide +kernel) wa_boolean (by decide) (by decide) (by decide) (by decide) (by decide) ?_
                                                        intro a293 e293
                                                        refine r_putRF (q := 298) C 7 39 487 rfl (by decide +kernel) rfl (by decide) rfl rfl wf_X7_124 win7 tyX7 tyX7_ok nmX7 rfl rfl rfl (tyX7_ok 39 (by decide)) rfl wnd7 (by first | exact rv_nar_o _ _ | exact rv_nar_a _ _) (by first | exact rv_fit_o _ _ | exact rv_fit_a _ _) (nw_k (lb := 487) e293 I27.2.1 (by decide)) ?_
                                                        exact wX.sub (lsub_s (lsub_n (lsub_nil))) (J298 _ (OM.arr (i := 27) (f := 487) (k := 11) (n := 120) I27 e293 rfl (by decide) (by decide) Ro.rf (ai_new (kd0 := (11, 120)) (lb := 487)) (al_new (kd0 := (11, 120)) (lb := 487))))
                                                      refine r_aload_n (q := 283) (z := 0) C 0 rfl (by decide +kernel) rfl rfl ?_
                                                      refine r_bipush (q := 285) (z := 120) (v := 120) C rfl (by decide +kernel) (by decide) ?_
                                                      refine r_newaZ (q := 287) (z := 120) C R (486) rfl (by decide +kernel) wa_boolean (by decide) (by decide) (by decide) (by decide) (by decide) ?_
                                                      intro a285 e285
                                                      refine r_putRF (q := 290) C 7 38 486 rfl (by decide +kernel) rfl (by decide) rfl rfl wf_X7_121 win7 tyX7 tyX7_ok nmX7 rfl rfl rfl (tyX7_ok 38 (by decide)) rfl wnd7 (by first | exact rv_nar_o _ _ | exact rv_nar_a _ _) (by first | exact rv_fit_o _ _ | exact rv_fit_a _ _) (nw_k (lb := 486) e285 I26.2.1 (by decide)) ?_
                                                      exact wX.sub (lsub_s (lsub_n (lsub_nil))) (J290 _ (OM.arr (i := 26) (f := 486) (k := 11) (n := 120) I26 e285 rfl (by decide) (by decide) Ro.rf (ai_new (kd0 := (11, 120)) (lb := 486)) (al_new (kd0 := (11, 120)) (lb := 486))))
                                                    refine r_aload_n (q := 275) (z := 0) C 0 rfl (by decide +kernel) rfl rfl ?_
                                                    refine r_bipush (q := 277) (z := 120) (v := 120) C rfl (by decide +kernel) (by decide) ?_
                                                    refine r_newaZ (q := 279) (z := 120) C R (484) rfl (by decide +kernel) wa_boolean (by decide) (by decide) (by decide) (by decide) (by decide) ?_
                                                    intro a277 e277
                                                    refine r_putRF (q := 282) C 7 36 484 rfl (by decide +kernel) rfl (by decide) rfl rfl wf_X7_118 win7 tyX7 tyX7_ok nmX7 rfl rfl rfl (tyX7_ok 36 (by decide)) rfl wnd7 (by first | exact rv_nar_o _ _ | exact rv_nar_a _ _) (by first | exact rv_fit_o _ _ | exact rv_fit_a _ _) (nw_k (lb := 484) e277 I25.2.1 (by decide)) ?_
                                                    exact wX.sub (lsub_s (lsub_n (lsub_nil))) (J282 _ (OM.arr (i := 25) (f := 484) (k := 11) (n := 120) I25 e277 rfl (by decide) (by decide) Ro.rf (ai_new (kd0 := (11, 120)) (lb := 484)) (al_new (kd0 := (11, 120)) (lb := 484))))
                                                  refine r_aload_n (q := 267) (z := 0) C 0 rfl (by decide +kernel) rfl rfl ?_
                                                  refine r_bipush (q := 269) (z := 10) (v := 10) C rfl (by decide +kernel) (by decide) ?_
                                                  refine r_newaZ (q := 271) (z := 10) C R (482) rfl (by decide +kernel) wa_boolean (by decide) (by decide) (by decide) (by decide) (by decide) ?_
                                                  intro a269 e269
                                                  refine r_putRF (q := 274) C 7 34 482 rfl (by decide +kernel) rfl (by decide) rfl rfl wf_X7_115 win7 tyX7 tyX7_ok nmX7 rfl rfl rfl (tyX7_ok 34 (by decide)) rfl wnd7 (by first | exact rv_nar_o _ _ | exact rv_nar_a _ _) (by first | exact rv_fit_o _ _ | exact rv_fit_a _ _) (nw_k (lb := 482) e269 I24.2.1 (by decide)) ?_
                                                  exact wX.sub (lsub_s (lsub_n (lsub_nil))) (J274 _ (OM.arr (i := 24) (f := 482) (k := 11) (n := 10) I24 e269 rfl (by decide) (by decide) Ro.rf (ai_new (kd0 := (11, 10)) (lb := 482)) (al_new (kd0 := (11, 10)) (lb := 482))))
                                                refine r_aload_n (q := 259) (z := 0) C 0 rfl (by decide +kernel) rfl rfl ?_
                                                refine r_bipush (q := 261) (z := 10) (v := 10) C rfl (by decide +kernel) (by decide) ?_
                                                refine r_newaI (q := 263) (z := 10) C R (481) rfl (by decide +kernel) wa_int (by decide) (by decide) (by decide) (by decide) (by decide) ?_
                                                intro a261 e261
                                                refine r_putRF (q := 266) C 7 33 481 rfl (by decide +kernel) rfl (by decide) rfl rfl wf_X7_112 win7 tyX7 tyX7_ok nmX7 rfl rfl rfl (tyX7_ok 33 (by decide)) rfl wnd7 (by first | exact rv_nar_o _ _ | exact rv_nar_a _ _) (by first | exact rv_fit_o _ _ | exact rv_fit_a _ _) (nw_k (lb := 481) e261 I23.2.1 (by decide)) ?_
                                                exact wX.sub (lsub_s (lsub_n (lsub_nil))) (J266 _ (OM.arr (i := 23) (f := 481) (k := 9) (n := 10) I23 e261 rfl (by decide) (by decide) Ro.rf (ai_new (kd0 := (9, 10)) (lb := 481)) (al_new (kd0 := (9, 10)) (lb := 481))))
                                              refine r_aload_n (q := 251) (z := 0) C 0 rfl (by decide +kernel) rfl rfl ?_
                                              refine r_bipush (q := 253) (z := 10) (v := 10) C rfl (by decide +kernel) (by decide) ?_
                                              refine r_newaI (q := 255) (z := 10) C R (480) rfl (by decide +kernel) wa_int (by decide) (by decide) (by decide) (by decide) (by decide) ?_
                                              intro a253 e253
                                              refine r_putRF (q := 258) C 7 32 480 rfl (by decide +kernel) rfl (by decide) rfl rfl wf_X7_109 win7 tyX7 tyX7_ok nmX7 rfl rfl rfl (tyX7_ok 32 (by decide)) rfl wnd7 (by first | exact rv_nar_o _ _ | exact rv_nar_a _ _) (by first | exact rv_fit_o _ _ | exact rv_fit_a _ _) (nw_k (lb := 480) e253 I22.2.1 (by decide)) ?_
                                              exact wX.sub (lsub_s (lsub_n (lsub_nil))) (J258 _ (OM.arr (i := 22) (f := 480) (k := 9) (n := 10) I22 e253 rfl (by decide) (by decide) Ro.rf (ai_new (kd0 := (9, 10)) (lb := 480)) (al_new (kd0 := (9, 10)) (lb := 480))))
                                            refine r_aload_n (q := 243) (z := 0) C 0 rfl (by decide +kernel) rfl rfl ?_
                                            refine r_bipush (q := 245) (z := 10) (v := 10) C rfl (by decide +kernel) (by decide) ?_
                                            refine r_newaI (q := 247) (z := 10) C R (479) rfl (by decide +kernel) wa_int (by decide) (by decide) (by decide) (by decide) (by decide) ?_
                                            intro a245 e245
                                            refine r_putRF (q := 250) C 7 31 479 rfl (by decide +kernel) rfl (by decide) rfl rfl wf_X7_106 win7 tyX7 tyX7_ok nmX7 rfl rfl rfl (tyX7_ok 31 (by decide)) rfl wnd7 (by first | exact rv_nar_o _ _ | exact rv_nar_a _ _) (by first | exact rv_fit_o _ _ | exact rv_fit_a _ _) (nw_k (lb := 479) e245 I21.2.1 (by decide)) ?_
                                            exact wX.sub (lsub_s (lsub_n (lsub_nil))) (J250 _ (OM.arr (i := 21) (f := 479) (k := 9) (n := 10) I21 e245 rfl (by decide) (by decide) Ro.rf (ai_new (kd0 := (9, 10)) (lb := 479)) (al_new (kd0 := (9, 10)) (lb := 479))))
                                          refine r_aload_n (q := 235) (z := 0) C 0 rfl (by decide +kernel) rfl rfl ?_
                                          refine r_bipush (q := 237) (z := 10) (v := 10) C rfl (by decide +kernel) (by decide) ?_
                                          refine r_newaI (q := 239) (z := 10) C R (478) rfl (by decide +kernel) wa_int (by decide) (by decide) (by decide) (by decide) (by decide) ?_
                                          intro a237 e237
                                          refine r_putRF (q := 242) C 7 30 478 rfl (by decide +kernel) rfl (by decide) rfl rfl wf_X7_103 win7 tyX7 tyX7_ok nmX7 rfl rfl rfl (tyX7_ok 30 (by decide)) rfl wnd7 (by first | exact rv_nar_o _ _ | exact rv_nar_a _ _) (by first | exact rv_fit_o _ _ | exact rv_fit_a _ _) (nw_k (lb := 478) e237 I20.2.1 (by decide)) ?_
                                          exact wX.sub (lsub_s (lsub_n (lsub_nil))) (J242 _ (OM.arr (i := 20) (f := 478) (k := 9) (n := 10) I20 e237 rfl (by decide) (by decide) Ro.rf (ai_new (kd0 := (9, 10)) (lb := 478)) (al_new (kd0 := (9, 10)) (lb := 478))))
                                        refine r_aload_n (q := 227) (z := 0) C 0 rfl (by decide +kernel) rfl rfl ?_
                                        refine r_bipush (q := 229) (z := 10) (v := 10) C rfl (by decide +kernel) (by decide) ?_
                                        refine r_newaI (q := 231) (z := 10) C R (477) rfl (by decide +kernel) wa_int (by decide) (by decide) (by decide) (by decide) (by decide) ?_
                                        intro a229 e229
                                        refine r_putRF (q := 234) C 7 29 477 rfl (by decide +kernel) rfl (by decide) rfl rfl wf_X7_100 win7 tyX7 tyX7_ok nmX7 rfl rfl rfl (tyX7_ok 29 (by decide)) rfl wnd7 (by first | exact rv_nar_o _ _ | exact rv_nar_a _ _) (by first | exact rv_fit_o _ _ | exact rv_fit_a _ _) (nw_k (lb := 477) e229 I19.2.1 (by decide)) ?_
                                        exact wX.sub (lsub_s (lsub_n (lsub_nil))) (J234 _ (OM.arr (i := 19) (f := 477) (k := 9) (n := 10) I19 e229 rfl (by decide) (by decide) Ro.rf (ai_new (kd0 := (9, 10)) (lb := 477)) (al_new (kd0 := (9, 10)) (lb := 477))))
                                      refine r_aload_n (q := 219) (z := 0) C 0 rfl (by decide +kernel) rfl rfl ?_
                                      refine r_bipush (q := 221) (z := 10) (v := 10) C rfl (by decide +kernel) (by decide) ?_
                                      refine r_newaI (q := 223) (z := 10) C R (476) rfl (by decide +kernel) wa_int (by decide) (by decide) (by decide) (by decide) (by decide) ?_
                                      intro a221 e221
                                      refine r_putRF (q := 226) C 7 28 476 rfl (by decide +kernel) rfl (by decide) rfl rfl wf_X7_97 win7 tyX7 tyX7_ok nmX7 rfl rfl rfl (tyX7_ok 28 (by decide)) rfl wnd7 (by first | exact rv_nar_o _ _ | exact rv_nar_a _ _) (by first | exact rv_fit_o _ _ | exact rv_fit_a _ _) (nw_k (lb := 476) e221 I18.2.1 (by decide)) ?_
                                      exact wX.sub (lsub_s (lsub_n (lsub_nil))) (J226 _ (OM.arr (i := 18) (f := 476) (k := 9) (n := 10) I18 e221 rfl (by decide) (by decide) Ro.rf (ai_new (kd0 := (9, 10)) (lb := 476)) (al_new (kd0 := (9, 10)) (lb := 476))))
                                    refine r_aload_n (q := 211) (z := 0) C 0 rfl (by decide +kernel) rfl rfl ?_
                                    refine r_bipush (q := 213) (z := 10) (v := 10) C rfl (by decide +kernel) (by decide) ?_
                                    refine r_newaI (q := 215) (z := 10) C R (475) rfl (by decide +kernel) wa_int (by decide) (by decide) (by decide) (by decide) (by decide) ?_
                                    intro a213 e213
                                    refine r_putRF (q := 218) C 7 27 475 rfl (by decide +kernel) rfl (by decide) rfl rfl wf_X7_94 win7 tyX7 tyX7_ok nmX7 rfl rfl rfl (tyX7_ok 27 (by decide)) rfl wnd7 (by first | exact rv_nar_o _ _ | exact rv_nar_a _ _) (by first | exact rv_fit_o _ _ | exact rv_fit_a _ _) (nw_k (lb := 475) e213 I17.2.1 (by decide)) ?_
                                    exact wX.sub (lsub_s (lsub_n (lsub_nil))) (J218 _ (OM.arr (i := 17) (f := 475) (k := 9) (n := 10) I17 e213 rfl (by decide) (by decide) Ro.rf (ai_new (kd0 := (9, 10)) (lb := 475)) (al_new (kd0 := (9, 10)) (lb := 475))))
                                  refine r_aload_n (q := 203) (z := 0) C 0 rfl (by decide +kernel) rfl rfl ?_
                                  refine r_bipush (q := 205) (z := 10) (v := 10) C rfl (by decide +kernel) (by decide) ?_
                                  refine r_newaI (q := 207) (z := 10) C R (474) rfl (by decide +kernel) wa_int (by decide) (by decide) (by decide) (by decide) (by decide) ?_
                                  intro a205 e205
                                  refine r_putRF (q := 210) C 7 26 474 rfl (by decide +kernel) rfl (by decide) rfl rfl wf_X7_91 win7 tyX7 tyX7_ok nmX7 rfl rfl rfl (tyX7_ok 26 (by decide)) rfl wnd7 (by first | exact rv_nar_o _ _ | exact rv_nar_a _ _) (by first | exact rv_fit_o _ _ | exact rv_fit_a _ _) (nw_k (lb := 474) e205 I16.2.1 (by decide)) ?_
                                  exact wX.sub (lsub_s (lsub_n (lsub_nil))) (J210 _ (OM.arr (i := 16) (f := 474) (k := 9) (n := 10) I16 e205 rfl (by decide) (by decide) Ro.rf (ai_new (kd0 := (9, 10)) (lb := 474)) (al_new (kd0 := (9, 10)) (lb := 474))))
                                refine r_aload_n (q := 195) (z := 0) C 0 rfl (by decide +kernel) rfl rfl ?_
                                refine r_bipush (q := 197) (z := 10) (v := 10) C rfl (by decide +kernel) (by decide) ?_
                                refine r_newaI (q := 199) (z := 10) C R (473) rfl (by decide +kernel) wa_int (by decide) (by decide) (by decide) (by decide) (by decide) ?_
                                intro a197 e197
                                refine r_putRF (q := 202) C 7 25 473 rfl (by decide +kernel) rfl (by decide) rfl rfl wf_X7_88 win7 tyX7 tyX7_ok nmX7 rfl rfl rfl (tyX7_ok 25 (by decide)) rfl wnd7 (by first | exact rv_nar_o _ _ | exact rv_nar_a _ _) (by first | exact rv_fit_o _ _ | exact rv_fit_a _ _) (nw_k (lb := 473) e197 I15.2.1 (by decide)) ?_
                                exact wX.sub (lsub_s (lsub_n (lsub_nil))) (J202 _ (OM.arr (i := 15) (f := 473) (k := 9) (n := 10) I15 e197 rfl (by decide) (by decide) Ro.rf (ai_new (kd0 := (9, 10)) (lb := 473)) (al_new (kd0 := (9, 10)) (lb := 473))))
                              refine r_aload_n (q := 186) (z := 0) C 0 rfl (by decide +kernel) rfl rfl ?_
                              refine r_sipush (q := 189) (z := 660) (v := 660) C rfl (by decide +kernel) (by decide) ?_
                              refine r_newaI (q := 191) (z := 660) C R (471) rfl (by decide +kernel) wa_int (by decide) (by decide) (by decide) (by decide) (by decide) ?_
                              intro a189 e189
                              refine r_putRF (q := 194) C 7 23 471 rfl (by decide +kernel) rfl (by decide) rfl rfl wf_X7_85 win7 tyX7 tyX7_ok nmX7 rfl rfl rfl (tyX7_ok 23 (by decide)) rfl wnd7 (by first | exact rv_nar_o _ _ | exact rv_nar_a _ _) (by first | exact rv_fit_o _ _ | exact rv_fit_a _ _) (nw_k (lb := 471) e189 I14.2.1 (by decide)) ?_
                              exact wX.sub (lsub_s (lsub_n (lsub_nil))) (J194 _ (OM.arr (i := 14) (f := 471) (k := 9) (n := 660) I14 e189 rfl (by decide) (by decide) Ro.rf (ai_new (kd0 := (9, 660)) (lb := 471)) (al_new (kd0 := (9, 660)) (lb := 471))))
                            refine r_aload_n (q := 178) (z := 0) C 0 rfl (by decide +kernel) rfl rfl ?_
                            refine r_bipush (q := 180) (z := 6) (v := 6) C rfl (by decide +kernel) (by decide) ?_
                            refine r_newaI (q := 182) (z := 6) C R (470) rfl (by decide +kernel) wa_int (by decide) (by decide) (by decide) (by decide) (by decide) ?_
                            intro a180 e180
                            refine r_putRF (q := 185) C 7 22 470 rfl (by decide +kernel) rfl (by decide) rfl rfl wf_X7_82 win7 tyX7 tyX7_ok nmX7 rfl rfl rfl (tyX7_ok 22 (by decide)) rfl wnd7 (by first | exact rv_nar_o _ _ | exact rv_nar_a _ _) (by first | exact rv_fit_o _ _ | exact rv_fit_a _ _) (nw_k (lb := 470) e180 I13.2.1 (by decide)) ?_
                            exact wX.sub (lsub_s (lsub_n (lsub_nil))) (J185 _ (OM.arr (i := 13) (f := 470) (k := 9) (n := 6) I13 e180 rfl (by decide) (by decide) Ro.rf (ai_new (kd0 := (9, 6)) (lb := 470)) (al_new (kd0 := (9, 6)) (lb := 470))))
                          refine r_aload_n (q := 170) (z := 0) C 0 rfl (by decide +kernel) rfl rfl ?_
                          refine r_bipush (q := 172) (z := 7) (v := 7) C rfl (by decide +kernel) (by decide) ?_
                          refine r_newaI (q := 174) (z := 7) C R (469) rfl (by decide +kernel) wa_int (by decide) (by decide) (by decide) (by decide) (by decide) ?_
                          intro a172 e172
                          refine r_putRF (q := 177) C 7 21 469 rfl (by decide +kernel) rfl (by decide) rfl rfl wf_X7_79 win7 tyX7 tyX7_ok nmX7 rfl rfl rfl (tyX7_ok 21 (by decide)) rfl wnd7 (by first | exact rv_nar_o _ _ | exact rv_nar_a _ _) (by first | exact rv_fit_o _ _ | exact rv_fit_a _ _) (nw_k (lb := 469) e172 I12.2.1 (by decide)) ?_
                          exact wX.sub (lsub_s (lsub_n (lsub_nil))) (J177 _ (OM.arr (i := 12) (f := 469) (k := 9) (n := 7) I12 e172 rfl (by decide) (by decide) Ro.rf (ai_new (kd0 := (9, 7)) (lb := 469)) (al_new (kd0 := (9, 7)) (lb := 469))))
                        refine r_aload_n (q := 162) (z := 0) C 0 rfl (by decide +kernel) rfl rfl ?_
                        refine r_bipush (q := 164) (z := 7) (v := 7) C rfl (by decide +kernel) (by decide) ?_
                        refine r_newaI (q := 166) (z := 7) C R (468) rfl (by decide +kernel) wa_int (by decide) (by decide) (by decide) (by decide) (by decide) ?_
                        intro a164 e164
                        refine r_putRF (q := 169) C 7 20 468 rfl (by decide +kernel) rfl (by decide) rfl rfl wf_X7_76 win7 tyX7 tyX7_ok nmX7 rfl rfl rfl (tyX7_ok 20 (by decide)) rfl wnd7 (by first | exact rv_nar_o _ _ | exact rv_nar_a _ _) (by first | exact rv_fit_o _ _ | exact rv_fit_a _ _) (nw_k (lb := 468) e164 I11.2.1 (by decide)) ?_
                        exact wX.sub (lsub_s (lsub_n (lsub_nil))) (J169 _ (OM.arr (i := 11) (f := 468) (k := 9) (n := 7) I11 e164 rfl (by decide) (by decide) Ro.rf (ai_new (kd0 := (9, 7)) (lb := 468)) (al_new (kd0 := (9, 7)) (lb := 468))))
                      refine r_aload_n (q := 154) (z := 0) C 0 rfl (by decide +kernel) rfl rfl ?_
                      refine r_bipush (q := 156) (z := 7) (v := 7) C rfl (by decide +kernel) (by decide) ?_
                      refine r_newaI (q := 158) (z := 7) C R (467) rfl (by decide +kernel) wa_int (by decide) (by decide) (by decide) (by decide) (by decide) ?_
                      intro a156 e156
                      refine r_putRF (q := 161) C 7 19 467 rfl (by decide +kernel) rfl (by decide) rfl rfl wf_X7_73 win7 tyX7 tyX7_ok nmX7 rfl rfl rfl (tyX7_ok 19 (by decide)) rfl wnd7 (by first | exact rv_nar_o _ _ | exact rv_nar_a _ _) (by first | exact rv_fit_o _ _ | exact rv_fit_a _ _) (nw_k (lb := 467) e156 I10.2.1 (by decide)) ?_
                      exact wX.sub (lsub_s (lsub_n (lsub_nil))) (J161 _ (OM.arr (i := 10) (f := 467) (k := 9) (n := 7) I10 e156 rfl (by decide) (by decide) Ro.rf (ai_new (kd0 := (9, 7)) (lb := 467)) (al_new (kd0 := (9, 7)) (lb := 467))))
                    refine r_aload_n (q := 145) (z := 0) C 0 rfl (by decide +kernel) rfl rfl ?_
                    refine r_sipush (q := 148) (z := 1320) (v := 1320) C rfl (by decide +kernel) (by decide) ?_
                    refine r_newaI (q := 150) (z := 1320) C R (462) rfl (by decide +kernel) wa_int (by decide) (by decide) (by decide) (by decide) (by decide) ?_
                    intro a148 e148
                    refine r_putRF (q := 153) C 7 14 462 rfl (by decide +kernel) rfl (by decide) rfl rfl wf_X7_70 win7 tyX7 tyX7_ok nmX7 rfl rfl rfl (tyX7_ok 14 (by decide)) rfl wnd7 (by first | exact rv_nar_o _ _ | exact rv_nar_a _ _) (by first | exact rv_fit_o _ _ | exact rv_fit_a _ _) (nw_k (lb := 462) e148 I9.2.1 (by decide)) ?_
                    exact wX.sub (lsub_s (lsub_n (lsub_nil))) (J153 _ (OM.arr (i := 9) (f := 462) (k := 9) (n := 1320) I9 e148 rfl (by decide) (by decide) Ro.rf (ai_new (kd0 := (9, 1320)) (lb := 462)) (al_new (kd0 := (9, 1320)) (lb := 462))))
                  refine r_aload_n (q := 136) (z := 0) C 0 rfl (by decide +kernel) rfl rfl ?_
                  refine r_sipush (q := 139) (z := 1320) (v := 1320) C rfl (by decide +kernel) (by decide) ?_
                  refine r_newaI (q := 141) (z := 1320) C R (461) rfl (by decide +kernel) wa_int (by decide) (by decide) (by decide) (by decide) (by decide) ?_
                  intro a139 e139
                  refine r_putRF (q := 144) C 7 13 461 rfl (by decide +kernel) rfl (by decide) rfl rfl wf_X7_67 win7 tyX7 tyX7_ok nmX7 rfl rfl rfl (tyX7_ok 13 (by decide)) rfl wnd7 (by first | exact rv_nar_o _ _ | exact rv_nar_a _ _) (by first | exact rv_fit_o _ _ | exact rv_fit_a _ _) (nw_k (lb := 461) e139 I8.2.1 (by decide)) ?_
                  exact wX.sub (lsub_s (lsub_n (lsub_nil))) (J144 _ (OM.arr (i := 8) (f := 461) (k := 9) (n := 1320) I8 e139 rfl (by decide) (by decide) Ro.rf (ai_new (kd0 := (9, 1320)) (lb := 461)) (al_new (kd0 := (9, 1320)) (lb := 461))))
                refine r_aload_n (q := 128) (z := 0) C 0 rfl (by decide +kernel) rfl rfl ?_
                refine r_bipush (q := 130) (z := 32) (v := 32) C rfl (by decide +kernel) (by decide) ?_
                refine r_newaI (q := 132) (z := 32) C R (460) rfl (by decide +kernel) wa_int (by decide) (by decide) (by decide) (by decide) (by decide) ?_
                intro a130 e130
                refine r_putRF (q := 135) C 7 12 460 rfl (by decide +kernel) rfl (by decide) rfl rfl wf_X7_64 win7 tyX7 tyX7_ok nmX7 rfl rfl rfl (tyX7_ok 12 (by decide)) rfl wnd7 (by first | exact rv_nar_o _ _ | exact rv_nar_a _ _) (by first | exact rv_fit_o _ _ | exact rv_fit_a _ _) (nw_k (lb := 460) e130 I7.2.1 (by decide)) ?_
                exact wX.sub (lsub_s (lsub_n (lsub_nil))) (J135 _ (OM.arr (i := 7) (f := 460) (k := 9) (n := 32) I7 e130 rfl (by decide) (by decide) Ro.rf (ai_new (kd0 := (9, 32)) (lb := 460)) (al_new (kd0 := (9, 32)) (lb := 460))))
              refine r_aload_n (q := 120) (z := 0) C 0 rfl (by decide +kernel) rfl rfl ?_
              refine r_bipush (q := 122) (z := 32) (v := 32) C rfl (by decide +kernel) (by decide) ?_
              refine r_newaZ (q := 124) (z := 32) C R (459) rfl (by decide +kernel) wa_boolean (by decide) (by decide) (by decide) (by decide) (by decide) ?_
              intro a122 e122
              refine r_putRF (q := 127) C 7 11 459 rfl (by decide +kernel) rfl (by decide) rfl rfl wf_X7_60 win7 tyX7 tyX7_ok nmX7 rfl rfl rfl (tyX7_ok 11 (by decide)) rfl wnd7 (by first | exact rv_nar_o _ _ | exact rv_nar_a _ _) (by first | exact rv_fit_o _ _ | exact rv_fit_a _ _) (nw_k (lb := 459) e122 I6.2.1 (by decide)) ?_
              exact wX.sub (lsub_s (lsub_n (lsub_nil))) (J127 _ (OM.arr (i := 6) (f := 459) (k := 11) (n := 32) I6 e122 rfl (by decide) (by decide) Ro.rf (ai_new (kd0 := (11, 32)) (lb := 459)) (al_new (kd0 := (11, 32)) (lb := 459))))
            refine r_aload_n (q := 113) (z := 0) C 0 rfl (by decide +kernel) rfl rfl ?_
            refine r_iconst (q := 114) (z := 2) (v := 2) C rfl (by decide +kernel) (by decide) ?_
            refine r_newaI (q := 116) (z := 2) C R (458) rfl (by decide +kernel) wa_int (by decide) (by decide) (by decide) (by decide) (by decide) ?_
            intro a114 e114
            refine r_putRF (q := 119) C 7 10 458 rfl (by decide +kernel) rfl (by decide) rfl rfl wf_X7_57 win7 tyX7 tyX7_ok nmX7 rfl rfl rfl (tyX7_ok 10 (by decide)) rfl wnd7 (by first | exact rv_nar_o _ _ | exact rv_nar_a _ _) (by first | exact rv_fit_o _ _ | exact rv_fit_a _ _) (nw_k (lb := 458) e114 I5.2.1 (by decide)) ?_
            exact wX.sub (lsub_s (lsub_n (lsub_nil))) (J119 _ (OM.arr (i := 5) (f := 458) (k := 9) (n := 2) I5 e114 rfl (by decide) (by decide) Ro.rf (ai_new (kd0 := (9, 2)) (lb := 458)) (al_new (kd0 := (9, 2)) (lb := 458))))
          refine r_aload_n (q := 41) (z := 0) C 0 rfl (by decide +kernel) rfl rfl ?_
          refine r_bipush (q := 43) (z := 10) (v := 10) C rfl (by decide +kernel) (by decide) ?_
          refine r_newaJ (q := 45) (z := 10) C R (457) rfl (by decide +kernel) wa_long (by decide) (by decide) (by decide) (by decide) (by decide) ?_
          intro a43 e43
          refine r_dup (q := 46) C rfl (by decide +kernel) (by first | rfl | exact rv_cat _) ?_
          refine r_iconst (q := 47) (z := 0) (v := nI 0) C rfl (by decide +kernel) (by decide) ?_
          refine r_ldc2 (q := 50) C rfl (by decide +kernel) wl_X7_34 ?_
          refine r_last (q := 51) C rfl (by decide +kernel) (kd_new (lb := 457)) (vp_in_nI (by decide) (by decide)) ?_
          rw [stL_row, nI_clamp (by decide), al_new]
          refine r_dup (q := 52) C rfl (by decide +kernel) (by first | rfl | exact rv_cat _) ?_
          refine r_iconst (q := 53) (z := 1) (v := nI 1) C rfl (by decide +kernel) (by decide) ?_
          refine r_ldc2 (q := 56) C rfl (by decide +kernel) wl_X7_36 ?_
          refine r_last (q := 57) C rfl (by decide +kernel) (kd_new (lb := 457)) (vp_in_nI (by decide) (by decide)) ?_
          rw [rowL_stL, nI_clamp (by decide)]
          refine r_dup (q := 58) C rfl (by decide +kernel) (by first | rfl | exact rv_cat _) ?_
          refine r_iconst (q := 59) (z := 2) (v := nI 2) C rfl (by decide +kernel) (by decide) ?_
          refine r_ldc2 (q := 62) C rfl (by decide +kernel) wl_X7_38 ?_
          refine r_last (q := 63) C rfl (by decide +kernel) (kd_new (lb := 457)) (vp_in_nI (by decide) (by decide)) ?_
          rw [rowL_stL, nI_clamp (by decide)]
          refine r_dup (q := 64) C rfl (by decide +kernel) (by first | rfl | exact rv_cat _) ?_
          refine r_iconst (q := 65) (z := 3) (v := nI 3) C rfl (by decide +kernel) (by decide) ?_
          refine r_ldc2 (q := 68) C rfl (by decide +kernel) wl_X7_40 ?_
          refine r_last (q := 69) C rfl (by decide +kernel) (kd_new (lb := 457)) (vp_in_nI (by decide) (by decide)) ?_
          rw [rowL_stL, nI_clamp (by decide)]
          refine r_dup (q := 70) C rfl (by decide +kernel) (by first | rfl | exact rv_cat _) ?_
          refine r_iconst (q := 71) (z := 4) (v := nI 4) C rfl (by decide +kernel) (by decide) ?_
          refine r_ldc2 (q := 74) C rfl (by decide +kernel) wl_X7_42 ?_
          refine r_last (q := 75) C rfl (by decide +kernel) (kd_new (lb := 457)) (vp_in_nI (by decide) (by decide)) ?_
          rw [rowL_stL, nI_clamp (by decide)]
          refine r_dup (q := 76) C rfl (by decide +kernel) (by first | rfl | exact rv_cat _) ?_
          refine r_iconst (q := 77) (z := 5) (v := nI 5) C rfl (by decide +kernel) (by decide) ?_
          refine r_ldc2 (q := 80) C rfl (by decide +kernel) wl_X7_44 ?_
          refine r_last (q := 81) C rfl (by decide +kernel) (kd_new (lb := 457)) (vp_in_nI (by decide) (by decide)) ?_
          rw [rowL_stL, nI_clamp (by decide)]
          refine r_dup (q := 82) C rfl (by decide +kernel) (by first | rfl | exact rv_cat _) ?_
          refine r_bipush (q := 84) (z := 6) (v := nI 6) C rfl (by decide +kernel) (by decide) ?_
          refine r_ldc2 (q := 87) C rfl (by decide +kernel) wl_X7_46 ?_
          refine r_last (q := 88) C rfl (by decide +kernel) (kd_new (lb := 457)) (vp_in_nI (by decide) (by decide)) ?_
          rw [rowL_stL, nI_clamp (by decide)]
          refine r_dup (q := 89) C rfl (by decide +kernel) (by first | rfl | exact rv_cat _) ?_
          refine r_bipush (q := 91) (z := 7) (v := nI 7) C rfl (by decide +kernel) (by decide) ?_
          refine r_ldc2 (q := 94) C rfl (by decide +kernel) wl_X7_48 ?_
          refine r_last (q := 95) C rfl (by decide +kernel) (kd_new (lb := 457)) (vp_in_nI (by decide) (by decide)) ?_
          rw [rowL_stL, nI_clamp (by decide)]
          refine r_dup (q := 96) C rfl (by decide +kernel) (by first | rfl | exact rv_cat _) ?_
          refine r_bipush (q := 98) (z := 8) (v := nI 8) C rfl (by decide +kernel) (by decide) ?_
          refine r_ldc2 (q := 101) C rfl (by decide +kernel) wl_X7_50 ?_
          refine r_last (q := 102) C rfl (by decide +kernel) (kd_new (lb := 457)) (vp_in_nI (by decide) (by decide)) ?_
          rw [rowL_stL, nI_clamp (by decide)]
          refine r_dup (q := 103) C rfl (by decide +kernel) (by first | rfl | exact rv_cat _) ?_
          refine r_bipush (q := 105) (z := 9) (v := nI 9) C rfl (by decide +kernel) (by decide) ?_
          refine r_ldc2 (q := 108) C rfl (by decide +kernel) wl_X7_52 ?_
          refine r_last (q := 109) C rfl (by decide +kernel) (kd_new (lb := 457)) (vp_in_nI (by decide) (by decide)) ?_
          rw [rowL_stL, nI_clamp (by decide)]
          refine r_putRF (q := 112) C 7 9 457 rfl (by decide +kernel) rfl (by decide) rfl rfl wf_X7_54 win7 tyX7 tyX7_ok nmX7 rfl rfl rfl (tyX7_ok 9 (by decide)) rfl wnd7 (by first | exact rv_nar_o _ _ | exact rv_nar_a _ _) (by first | exact rv_fit_o _ _ | exact rv_fit_a _ _) (nw_k (lb := 457) e43 I4.2.1 (by decide)) ?_
          exact wX.sub (lsub_s (lsub_n (lsub_nil))) (J112 _ (OM.arr (i := 4) (f := 457) (k := 10) (n := 10) I4 e43 rfl (by decide) (by decide) Ro.rowL (ai_new (kd0 := (10, 10)) (lb := 457)) al_rowL_eq))
        refine r_aload_n (q := 32) (z := 0) C 0 rfl (by decide +kernel) rfl rfl ?_
        refine r_sipush (q := 35) (z := 602) (v := 602) C rfl (by decide +kernel) (by decide) ?_
        refine r_newaJ (q := 37) (z := 602) C R (454) rfl (by decide +kernel) wa_long (by decide) (by decide) (by decide) (by decide) (by decide) ?_
        intro a35 e35
        refine r_putRF (q := 40) C 7 6 454 rfl (by decide +kernel) rfl (by decide) rfl rfl wf_X7_30 win7 tyX7 tyX7_ok nmX7 rfl rfl rfl (tyX7_ok 6 (by decide)) rfl wnd7 (by first | exact rv_nar_o _ _ | exact rv_nar_a _ _) (by first | exact rv_fit_o _ _ | exact rv_fit_a _ _) (nw_k (lb := 454) e35 I3.2.1 (by decide)) ?_
        exact wX.sub (lsub_s (lsub_n (lsub_nil))) (J40 _ (OM.arr (i := 3) (f := 454) (k := 10) (n := 602) I3 e35 rfl (by decide) (by decide) Ro.rf (ai_new (kd0 := (10, 602)) (lb := 454)) (al_new (kd0 := (10, 602)) (lb := 454))))
      refine r_aload_n (q := 23) (z := 0) C 0 rfl (by decide +kernel) rfl rfl ?_
      refine r_sipush (q := 26) (z := 602) (v := 602) C rfl (by decide +kernel) (by decide) ?_
      refine r_newaI (q := 28) (z := 602) C R (453) rfl (by decide +kernel) wa_int (by decide) (by decide) (by decide) (by decide) (by decide) ?_
      intro a26 e26
      refine r_putRF (q := 31) C 7 5 453 rfl (by decide +kernel) rfl (by decide) rfl rfl wf_X7_27 win7 tyX7 tyX7_ok nmX7 rfl rfl rfl (tyX7_ok 5 (by decide)) rfl wnd7 (by first | exact rv_nar_o _ _ | exact rv_nar_a _ _) (by first | exact rv_fit_o _ _ | exact rv_fit_a _ _) (nw_k (lb := 453) e26 I2.2.1 (by decide)) ?_
      exact wX.sub (lsub_s (lsub_n (lsub_nil))) (J31 _ (OM.arr (i := 2) (f := 453) (k := 9) (n := 602) I2 e26 rfl (by decide) (by decide) Ro.rf (ai_new (kd0 := (9, 602)) (lb := 453)) (al_new (kd0 := (9, 602)) (lb := 453))))
    refine r_aload_n (q := 14) (z := 0) C 0 rfl (by decide +kernel) rfl rfl ?_
    refine r_sipush (q := 17) (z := 602) (v := 602) C rfl (by decide +kernel) (by decide) ?_
    refine r_newaI (q := 19) (z := 602) C R (452) rfl (by decide +kernel) wa_int (by decide) (by decide) (by decide) (by decide) (by decide) ?_
    intro a17 e17
    refine r_putRF (q := 22) C 7 4 452 rfl (by decide +kernel) rfl (by decide) rfl rfl wf_X7_24 win7 tyX7 tyX7_ok nmX7 rfl rfl rfl (tyX7_ok 4 (by decide)) rfl wnd7 (by first | exact rv_nar_o _ _ | exact rv_nar_a _ _) (by first | exact rv_fit_o _ _ | exact rv_fit_a _ _) (nw_k (lb := 452) e17 I1.2.1 (by decide)) ?_
    exact wX.sub (lsub_s (lsub_n (lsub_nil))) (J22 _ (OM.arr (i := 1) (f := 452) (k := 9) (n := 602) I1 e17 rfl (by decide) (by decide) Ro.rf (ai_new (kd0 := (9, 602)) (lb := 452)) (al_new (kd0 := (9, 602)) (lb := 452))))
  refine r_aload_n (q := 5) (z := 0) C 0 rfl (by decide +kernel) rfl rfl ?_
  refine r_sipush (q := 8) (z := 600) (v := 600) C rfl (by decide +kernel) (by decide) ?_
  refine r_newaI (q := 10) (z := 600) C R (449) rfl (by decide +kernel) wa_int (by decide) (by decide) (by decide) (by decide) (by decide) ?_
  intro a8 e8
  refine r_putRF (q := 13) C 7 1 449 rfl (by decide +kernel) rfl (by decide) rfl rfl wf_X7_14 win7 tyX7 tyX7_ok nmX7 rfl rfl rfl (tyX7_ok 1 (by decide)) rfl wnd7 (by first | exact rv_nar_o _ _ | exact rv_nar_a _ _) (by first | exact rv_fit_o _ _ | exact rv_fit_a _ _) (nw_k (lb := 449) e8 I0.2.1 (by decide)) ?_
  exact wX.sub (lsub_s (lsub_n (lsub_nil))) (J13 _ (OM.arr (i := 0) (f := 449) (k := 9) (n := 600) I0 e8 rfl (by decide) (by decide) Ro.rf (ai_new (kd0 := (9, 600)) (lb := 449)) (al_new (kd0 := (9, 600)) (lb := 449))))
