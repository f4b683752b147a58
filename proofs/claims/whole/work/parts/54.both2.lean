/-! ===== a call of the class, then the model's ===== -/
theorem CP.up {σ τ : SG} {be sh : Nat → Nat} {ra : Nat} {tp : List Nat} {lw : LW} {L : List Nat} {p : Nat → Nat} {h h' : HP} {g : Nat} {A B : List Nat} (P : CP σ be sh ra tp lw L p h g) (F : Fm A B h h') (hA : ∀ x ∈ [395, 396, 320, 164, 166, 167, 264, 266, 267], x ∉ A) (hB : ∀ x ∈ [397, 321, 65, 69], x ∉ B) (hn : τ.n = σ.n) (R : CRr τ h'.fi h'.fr g p) (Rc : CRc τ h' g) : CP τ be sh ra tp lw L p h' g := by
  obtain ⟨p1, p2, p3, p4, p5, p6⟩ := P
  exact ⟨by rw [hn]; exact LCl.fm F p1, R, Rc, CBm.fm F p1 ⟨hA 395 (by decide), hA 396 (by decide)⟩ (hB 397 (by decide)) p4, TpC.fm F p1 (hA 320 (by decide)) (hB 321 (by decide)) p5, CLw.fm F p1 (fun x hx => hA x ((by decide : ∀ x ∈ [164, 166, 167, 264, 266, 267], x ∈ [395, 396, 320, 164, 166, 167, 264, 266, 267]) x hx)) ⟨hB 65 (by decide), hB 69 (by decide)⟩ p6⟩
theorem CP.upB {σ : SG} {be sh be' sh' : Nat → Nat} {ra ra' : Nat} {tp : List Nat} {lw : LW} {L : List Nat} {p : Nat → Nat} {h h' : HP} {g : Nat} {A B : List Nat} (P : CP σ be sh ra tp lw L p h g) (F : Fm A B h h') (hA : ∀ x ∈ [1, 320, 164, 166, 167, 264, 266, 267], x ∉ A) (hB : ∀ x ∈ B, x = 397) (M : CBm be' sh' ra' h' g) : CP σ be' sh' ra' tp lw L p h' g := by
  obtain ⟨p1, p2, p3, p4, p5, p6⟩ := P
  have nB : ∀ x, x ≠ 397 → x ∉ B := fun x hx e => hx (hB x e)
  exact ⟨LCl.fm F p1, CRr.fm F p1 (fun x hx u => by have := hB x hx; unfold uses at u; omega) p2, CRc.fm F p1 (hA 1 (by decide)) p3, M, TpC.fm F p1 (hA 320 (by decide)) (nB 321 (by decide)) p5, CLw.fm F p1 (fun x hx => hA x ((by decide : ∀ x ∈ [164, 166, 167, 264, 266, 267], x ∈ [1, 320, 164, 166, 167, 264, 266, 267]) x hx)) ⟨nB 65 (by decide), nB 69 (by decide)⟩ p6⟩
theorem CP.feed {σ : SG} {be sh : Nat → Nat} {ra : Nat} {tp tp' : List Nat} {lw : LW} {L : List Nat} {p : Nat → Nat} {h h' : HP} {g : Nat} (P : CP σ be sh ra tp lw L p h g) (F : Fm [320] [321] h h') (T : TpC tp' h' (h'.fr 390 g)) : CP σ be sh ra tp' lw L p h' g := by
  obtain ⟨p1, p2, p3, p4, p5, p6⟩ := P
  exact ⟨LCl.fm F p1, CRr.fm F p1 (fun x hx u => by rw [List.mem_singleton] at hx; unfold uses at u; omega) p2, CRc.fm F p1 (by decide) p3, CBm.fm F p1 (by decide) (by decide) p4, T, CLw.fm F p1 (by decide) (by decide) p6⟩
theorem CP.text {σ : SG} {be sh : Nat → Nat} {ra : Nat} {tp tp' : List Nat} {lw lw' : LW} {L : List Nat} {p : Nat → Nat} {h h' : HP} {g : Nat} (P : CP σ be sh ra tp lw L p h g) (F : Fx [128, 129, 130, 164, 166, 167, 264, 266, 267] [65, 69, 131, 132, 133, 321] g h h') (hL : LCl h'.kd h'.gl h'.fr h'.ar g σ.n p L) (T : TpC tp' h' (h'.fr 390 g)) (Q : CLw lw' h' g) : CP σ be sh ra tp' lw' L p h' g := by
  obtain ⟨p1, p2, p3, p4, p5, p6⟩ := P
  obtain ⟨f1, f2, f3, f4, f5, f6, f7⟩ := F
  have e4 : h'.fr 384 g = h.fr 384 g := f5 384 g (by decide) (by decide)
  refine ⟨hL, ⟨(f6 387 g (by decide)).trans p2.1, (f6 388 g (by decide)).trans p2.2.1, by rw [e4]; exact (f6 4 _ (by decide)).trans p2.2.2.1, fun r hr => ?_⟩, fun c hc => ?_, ⟨fun k hk => ?_, fun k hk => ?_, (f6 397 g (by decide)).trans p4.2.2.1, p4.2.2.2⟩, T, Q⟩
  · rw [f5 198 _ (by decide) (by decide)]
    exact RF.congr (σ := σ) (fi := h.fi) ⟨rfl, rfl, rfl, rfl, rfl, rfl, rfl, rfl, rfl, rfl⟩ (fun g' h1 h2 => f6 g' _ (fun e => by simp at e; omega)) (fun g' h1 h2 => f6 g' _ (fun e => by simp at e; omega)) (p2.2.2.2 r hr)
  · rw [e4, f5 0 _ (by decide) (by decide), (f7 _ (by rw [p1.gn.2.2.2.2.1]; decide)).1]; exact p3 c hc
  · rw [f5 395 g (by decide) (by decide), (f7 _ (by rw [p1.g395]; decide)).1]; exact p4.1 k hk
  · rw [f5 396 g (by decide) (by decide), (f7 _ (by rw [p1.g396]; decide)).1]; exact p4.2.1 k hk
theorem CP.ride {σ τ : SG} {be sh : Nat → Nat} {ra : Nat} {tp : List Nat} {lw : LW} {L L' : List Nat} {p p' : Nat → Nat} {h h' : HP} {g n : Nat} (P : CP σ be sh ra tp lw L p h g) (F : Kg h h') (hn : τ.n = n) (hL : LCl h'.kd h'.gl h'.fr h'.ar g n p' L') (R : CRr τ h'.fi h'.fr g p') (Rc : CRc τ h' g) : CP τ be sh ra tp lw L' p' h' g := by
  obtain ⟨p1, p2, p3, p4, p5, p6⟩ := P
  obtain ⟨k, hk, l1, -⟩ := p1.lw
  have O : ∀ b z, h.kd b = z → z.1 ≠ 99 → h'.kd b = h.kd b ∧ h'.gl b = h.gl b ∧ (∀ f, f ≠ 387 → h'.fi f b = h.fi f b) ∧ (∀ f, h'.fr f b = h.fr f b) ∧ h'.ai b = h.ai b ∧ h'.al b = h.al b := fun b z hb hz => F b (by rw [hb]; exact hz)
  have Og := O g _ p1.kf (by decide)
  refine ⟨by rw [hn]; exact hL, R, Rc, ⟨fun k h9 => ?_, fun k h9 => ?_, (Og.2.2.1 397 (by decide)).trans p4.2.2.1, p4.2.2.2⟩, ⟨p5.1, ?_, fun j hj => ?_⟩, ⟨?_, p6.2⟩⟩
  · rw [Og.2.2.2.1, (O _ _ p1.k395 (by decide)).2.2.2.2.1]; exact p4.1 k h9
  · rw [Og.2.2.2.1, (O _ _ p1.k396 (by decide)).2.2.2.2.1]; exact p4.2.1 k h9
  · rw [Og.2.2.2.1, (O _ _ p1.k390 (by decide)).2.2.1 321 (by decide)]; exact p5.2.1
  · rw [Og.2.2.2.1, (O _ _ p1.k390 (by decide)).2.2.2.1, (O _ _ p1.k320 (by decide)).2.2.2.2.1]; exact p5.2.2 j hj
  · rw [Og.2.2.2.1]
    have Ol := O _ _ l1.1 (by decide)
    exact p6.1.congr (Ol.2.2.1 69 (by decide)) (Ol.2.2.1 65 (by decide)) (by rw [Ol.2.2.2.1, (O _ _ l1.2.2.1.1 (by decide)).2.2.2.2.1]) (by rw [Ol.2.2.2.1, (O _ _ l1.2.2.2.1.1 (by decide)).2.2.2.2.1]) (by rw [Ol.2.2.2.1, (O _ _ l1.2.2.2.2.1.1 (by decide)).2.2.2.2.1])
theorem MP.up {σ τ : SG} {be sh : Nat → Nat} {ra : Nat} {tp : List Nat} {lw : LW} {h h' : HP} {m : Nat} {A B : List Nat} (P : MP σ be sh ra tp lw h m) (F : Fm A B h h') (hA : ∀ x ∈ [449, 457, 458, 459, 460, 461, 462, 492, 494], x ∉ A) (hB : ∀ x ∈ [450, 463, 493], x ∉ B) (M : MR τ h' m) : MP τ be sh ra tp lw h' m := by
  obtain ⟨p1, p2, p3, p4, p5, p6⟩ := P
  exact ⟨LM.fm F p1, M, MB.fm F p1 ⟨hA 492 (by decide), hA 494 (by decide)⟩ (hB 493 (by decide)) p3, MT.fm F p1 (hA 449 (by decide)) (hB 450 (by decide)) p4, ML.fm F p1 (fun x hx => hA x ((by decide : ∀ x ∈ [458, 459, 460, 461, 462], x ∈ [449, 457, 458, 459, 460, 461, 462, 492, 494]) x hx)) (hB 463 (by decide)) p5, MWd.fm F p1 (hA 457 (by decide)) p6⟩
theorem MP.same {σ : SG} {be sh : Nat → Nat} {ra : Nat} {tp : List Nat} {lw : LW} {h h' : HP} {m : Nat} {A B : List Nat} (P : MP σ be sh ra tp lw h m) (F : Fm A B h h') (hA : ∀ x ∈ [449, 457, 458, 459, 460, 461, 462, 492, 494], x ∉ A) (hB : ∀ x ∈ [450, 463, 493], x ∉ B) (hA2 : ∀ x ∈ mP, x ∉ A) (hB2 : 472 ∉ B ∧ 485 ∉ B ∧ 483 ∉ B) : MP σ be sh ra tp lw h' m := P.up F hA hB (MR.fm F P.1 hA2 hB2 P.2.1)
theorem MP.s8 {σ : SG} {be sh : Nat → Nat} {ra : Nat} {tp : List Nat} {lw : LW} {h : HP} {m : Nat} {v : Int32} (P : MP σ be sh ra tp lw h m) : MP σ be sh ra tp lw (h.setI 448 m v) m := P.same (A := []) (B := [448]) (Fm.rf.setI (by decide)) (by decide) (by decide) (by decide) (by decide)
theorem CP.s8 {σ : SG} {be sh : Nat → Nat} {ra : Nat} {tp : List Nat} {lw : LW} {L : List Nat} {p : Nat → Nat} {h : HP} {g m : Nat} {v : Int32} (P : CP σ be sh ra tp lw L p h g) : CP σ be sh ra tp lw L p (h.setI 448 m v) g := CP.fm (A := []) (B := [448]) (Fm.rf.setI (by decide)) (by decide) (by decide) P
theorem MP.upB {σ : SG} {be sh be' sh' : Nat → Nat} {ra ra' : Nat} {tp : List Nat} {lw : LW} {h h' : HP} {m : Nat} {A B : List Nat} (P : MP σ be sh ra tp lw h m) (F : Fm A B h h') (hA : ∀ x ∈ [449, 457, 458, 459, 460, 461, 462], x ∉ A) (hB : ∀ x ∈ [450, 463], x ∉ B) (hA2 : ∀ x ∈ mP, x ∉ A) (hB2 : 472 ∉ B ∧ 485 ∉ B ∧ 483 ∉ B) (M : MB be' sh' ra' h' m) : MP σ be' sh' ra' tp lw h' m := by
  obtain ⟨p1, p2, p3, p4, p5, p6⟩ := P
  exact ⟨LM.fm F p1, MR.fm F p1 hA2 hB2 p2, M, MT.fm F p1 (hA 449 (by decide)) (hB 450 (by decide)) p4, ML.fm F p1 (fun x hx => hA x ((by decide : ∀ x ∈ [458, 459, 460, 461, 462], x ∈ [449, 457, 458, 459, 460, 461, 462]) x hx)) (hB 463 (by decide)) p5, MWd.fm F p1 (hA 457 (by decide)) p6⟩
theorem MP.feed {σ : SG} {be sh : Nat → Nat} {ra : Nat} {tp tp' : List Nat} {lw : LW} {h h' : HP} {m : Nat} (P : MP σ be sh ra tp lw h m) (F : Fm [449] [448, 450] h h') (T : MT tp' h' m) : MP σ be sh ra tp' lw h' m := by
  obtain ⟨p1, p2, p3, p4, p5, p6⟩ := P
  exact ⟨LM.fm F p1, MR.fm F p1 (by decide) (by decide) p2, MB.fm F p1 (by decide) (by decide) p3, T, ML.fm F p1 (by decide) (by decide) p5, MWd.fm F p1 (by decide) p6⟩
theorem MP.text {σ : SG} {be sh : Nat → Nat} {ra : Nat} {tp tp' : List Nat} {lw lw' : LW} {h h' : HP} {m : Nat} (P : MP σ be sh ra tp lw h m) (F : Fm [452, 453, 454, 458, 459, 460, 461, 462, 467, 468, 469] [448, 450, 451, 455, 456, 463, 464, 465, 466] h h') (T : MT tp' h' m) (X : ML lw' h' m) : MP σ be sh ra tp' lw' h' m := by
  obtain ⟨p1, p2, p3, p4, p5, p6⟩ := P
  exact ⟨LM.fm F p1, MR.fm F p1 (by decide) (by decide) p2, MB.fm F p1 (by decide) (by decide) p3, T, X, MWd.fm F p1 (by decide) p6⟩
theorem n_cl {σ : SG} {P : Prop} {f : Nat → Bool} : (cif P (σ.cl_ f) σ).n = σ.n := by
  by_cases e : P
  · rw [cif_t e]; rfl
  · rw [cif_f e]
theorem n_gr {σ : SG} {P : Prop} {f : Nat} : (cif P (σ.gr_ f) σ).n = σ.n := by
  by_cases e : P
  · rw [cif_t e]; rfl
  · rw [cif_f e]
theorem n_li {σ : SG} {P : Prop} {f : Nat → Nat} : (cif P (σ.li_ f) σ).n = σ.n := by
  by_cases e : P
  · rw [cif_t e]; rfl
  · rw [cif_f e]
theorem n_sk {σ : SG} {P : Prop} {f : Nat → Bool} : (cif P (σ.sk_ f) σ).n = σ.n := by
  by_cases e : P
  · rw [cif_t e]; rfl
  · rw [cif_f e]
theorem n_p2 {σ : SG} {L : List Nat} (h : ∀ r ∈ L, r < σ.n) (J : JN σ) : (p2 (p1 σ L) L).n = σ.n := by
  obtain ⟨j1, n1⟩ := JN.ph1 J h
  obtain ⟨-, n2⟩ := JN.ph2 (L := L) j1 (fun r hr => by rw [n1]; exact h r hr)
  exact n2.trans n1

