/-! ===== both sides at once ===== -/
def CP (σ : SG) (be sh : Nat → Nat) (ra : Nat) (tp : List Nat) (lw : LW) (L : List Nat) (p : Nat → Nat) (h : HP) (g : Nat) : Prop := LCl h.kd h.gl h.fr h.ar g σ.n p L ∧ CRr σ h.fi h.fr g p ∧ CRc σ h g ∧ CBm be sh ra h g ∧ TpC tp h (h.fr 390 g) ∧ CLw lw h g
def MP (σ : SG) (be sh : Nat → Nat) (ra : Nat) (tp : List Nat) (lw : LW) (h : HP) (m : Nat) : Prop := LM h.kd h.gl h.fr m ∧ MR σ h m ∧ MB be sh ra h m ∧ MT tp h m ∧ ML lw h m ∧ MWd h m
def PK (σ : SG) (L : List Nat) : Prop := WF σ ∧ JN σ ∧ Srt σ L ∧ NW σ
theorem TpC.fm {tp : List Nat} {A B : List Nat} {h h' : HP} {g n : Nat} {p : Nat → Nat} {L : List Nat} (F : Fm A B h h') (hL : LCl h.kd h.gl h.fr h.ar g n p L) (hA : 320 ∉ A) (hB : 321 ∉ B) (T : TpC tp h (h.fr 390 g)) : TpC tp h' (h'.fr 390 g) := by
  obtain ⟨t1, t2, t3⟩ := T
  refine ⟨t1, by rw [F.2.1, F.2.2.2.2.1 _ _ hB]; exact t2, fun j hj => ?_⟩
  rw [F.2.1, (F.2.2.2.2.2 _ (by rw [hL.g320]; exact hA)).1]; exact t3 j hj
theorem CP.fm {σ : SG} {be sh : Nat → Nat} {ra : Nat} {tp : List Nat} {lw : LW} {L : List Nat} {p : Nat → Nat} {h h' : HP} {g : Nat} {A B : List Nat} (F : Fm A B h h') (hA : ∀ x ∈ A, 448 ≤ x) (hB : ∀ x ∈ B, 448 ≤ x) (P : CP σ be sh ra tp lw L p h g) : CP σ be sh ra tp lw L p h' g := by
  obtain ⟨p1, p2, p3, p4, p5, p6⟩ := P
  have nA : ∀ x, x < 448 → x ∉ A := fun x hx e => by have := hA x e; omega
  have nB : ∀ x, x < 448 → x ∉ B := fun x hx e => by have := hB x e; omega
  refine ⟨LCl.fm F p1, CRr.fm F p1 (fun x hx u => ?_) p2, CRc.fm F p1 (nA 1 (by decide)) p3, CBm.fm F p1 ⟨nA 395 (by decide), nA 396 (by decide)⟩ (nB 397 (by decide)) p4, TpC.fm F p1 (nA 320 (by decide)) (nB 321 (by decide)) p5, CLw.fm F p1 (fun x hx => nA x ?_) ⟨nB 65 (by decide), nB 69 (by decide)⟩ p6⟩
  · have := hB x hx
    unfold uses at u; omega
  · exact (by decide : ∀ x ∈ [164, 166, 167, 264, 266, 267], x < 448) x hx
/-- the model's fields and rows are as they were -/
def Kc (h h' : HP) : Prop := ∀ b, (h.kd b).1 ≠ 99 → h'.kd b = h.kd b ∧ h'.gl b = h.gl b ∧ (∀ f, 448 ≤ f → h'.fi f b = h.fi f b) ∧ (∀ f, 448 ≤ f → h'.fr f b = h.fr f b) ∧ (448 ≤ h.gl b → h.gl b < 1000 → h'.ai b = h.ai b ∧ h'.al b = h.al b)
theorem Fm.kc {A B : List Nat} {h h' : HP} (F : Fm A B h h') (hA : ∀ x ∈ A, x < 448 ∨ 1000 ≤ x) (hB : ∀ x ∈ B, x < 448) : Kc h h' := fun b _ => ⟨by rw [F.1], by rw [F.2.2.1], fun f hf => F.2.2.2.2.1 f b (fun e => by have := hB f e; omega), fun f _ => by rw [F.2.1], fun h1 h2 => F.2.2.2.2.2 b (fun e => by have := hA _ e; omega)⟩
theorem Fx.kc {A B : List Nat} {g : Nat} {h h' : HP} (F : Fx A B g h h') (hA : ∀ x ∈ A, x < 448) (hB : ∀ x ∈ B, x < 448) : Kc h h' := fun b _ => ⟨by rw [F.1], by rw [F.2.1], fun f hf => F.2.2.2.2.2.1 f b (fun e => by have := hB f e; omega), fun f hf => F.2.2.2.2.1 f b (by omega) (by omega), fun h1 h2 => F.2.2.2.2.2.2 b (fun e => by have := hA _ e; omega)⟩
theorem Kg.kc {h h' : HP} (F : Kg h h') : Kc h h' := fun b hb => ⟨(F b hb).1, (F b hb).2.1, fun f hf => (F b hb).2.2.1 f (by omega), fun f _ => (F b hb).2.2.2.1 f, fun _ _ => (F b hb).2.2.2.2⟩
theorem mK_l : ∀ q ∈ mK, 448 ≤ q.1 ∧ q.1 < 1000 ∧ q.2.1 ≠ 99 := by decide
theorem MP.kc {σ : SG} {be sh : Nat → Nat} {ra : Nat} {tp : List Nat} {lw : LW} {h h' : HP} {m : Nat} (F : Kc h h') (P : MP σ be sh ra tp lw h m) : MP σ be sh ra tp lw h' m := by
  obtain ⟨p1, p2, p3, p4, p5, p6⟩ := P
  obtain ⟨f1, f2, f3, f4, -⟩ := F m (by rw [p1.1]; decide)
  have X : ∀ f k n, (f, k, n) ∈ mK → h'.fr f m = h.fr f m ∧ h'.kd (h.fr f m) = (k, n) ∧ h'.gl (h.fr f m) = f ∧ h'.ai (h'.fr f m) = h.ai (h.fr f m) ∧ h'.al (h'.fr f m) = h.al (h.fr f m) := fun f k n hq => by
    obtain ⟨a1, a2, a3⟩ := mK_l _ hq
    obtain ⟨c1, c2⟩ := p1.2 _ hq
    have a1 : 448 ≤ f := a1
    have a2 : f < 1000 := a2
    have a3 : k ≠ 99 := a3
    have c1 : h.kd (h.fr f m) = (k, n) := c1
    have c2 : h.gl (h.fr f m) = f := c2
    obtain ⟨d1, d2, d3, d4, d5⟩ := F (h.fr f m) (by rw [c1]; exact a3)
    obtain ⟨e1, e2⟩ := d5 (by rw [c2]; exact a1) (by rw [c2]; exact a2)
    have e0 := f4 f a1
    rw [e0]
    exact ⟨rfl, d1.trans c1, d2.trans c2, e1, e2⟩
  have A : ∀ f k n, (f, k, n) ∈ mK → h'.ai (h'.fr f m) = h.ai (h.fr f m) := fun f k n hq => (X f k n hq).2.2.2.1
  refine ⟨⟨f1.trans p1.1, fun q hq => ?_⟩, ?_, ?_, ?_, ?_, fun w hw => ?_⟩
  · obtain ⟨x1, x2, x3, -⟩ := X q.1 q.2.1 q.2.2 hq
    rw [x1]; exact ⟨x2, x3⟩
  · unfold MR at *
    rw [f3 472 (by decide), f3 485 (by decide), f3 483 (by decide), A 473 9 10 (by decide), A 474 9 10 (by decide), A 475 9 10 (by decide), A 476 9 10 (by decide), A 477 9 10 (by decide), A 478 9 10 (by decide), A 479 9 10 (by decide), A 480 9 10 (by decide), A 481 9 10 (by decide), A 482 11 10 (by decide), A 484 11 120 (by decide)]
    exact p2
  · unfold MB at *
    rw [f3 493 (by decide), A 492 9 3 (by decide), A 494 9 3 (by decide)]
    exact p3
  · unfold MT at *
    rw [f3 450 (by decide), A 449 9 600 (by decide)]
    exact p4
  · obtain ⟨H, h1, h2, h3, h4, h5⟩ := p5
    refine ⟨H, h1, (f3 463 (by decide)).trans h2, h3, by rw [A 458 9 2 (by decide)]; exact h4, fun k ln hk => LA.congr (fun q hq => ?_) (h5 k ln hk)⟩
    simp only [List.mem_cons, List.not_mem_nil, or_false] at hq
    rcases hq with e | e | e | e <;> subst e
    · exact A 459 11 32 (by decide)
    · exact A 460 9 32 (by decide)
    · exact A 461 9 1320 (by decide)
    · exact A 462 9 1320 (by decide)
  · rw [(X 457 10 10 (by decide)).2.2.2.2]; exact p6 w hw
/-- all that was there is as it was -/
def Sm (h h' : HP) : Prop := ∀ b, (h.kd b).1 ≠ 99 → h'.kd b = h.kd b ∧ h'.gl b = h.gl b ∧ (∀ f, h'.fi f b = h.fi f b) ∧ (∀ f, h'.fr f b = h.fr f b) ∧ h'.ai b = h.ai b ∧ h'.al b = h.al b ∧ h'.ar b = h.ar b
theorem Gw.sm {a : Nat} {h h' : HP} (x : Gw a h h') (ha : (h.kd a).1 = 99) : Sm h h' := fun _ hb => x.old ha hb
theorem Sm.kc {h h' : HP} (F : Sm h h') : Kc h h' := fun b hb => ⟨(F b hb).1, (F b hb).2.1, fun f _ => (F b hb).2.2.1 f, fun f _ => (F b hb).2.2.2.1 f, fun _ _ => ⟨(F b hb).2.2.2.2.1, (F b hb).2.2.2.2.2.1⟩⟩
theorem CP.sm {σ : SG} {be sh : Nat → Nat} {ra : Nat} {tp : List Nat} {lw : LW} {L : List Nat} {p : Nat → Nat} {h h' : HP} {g : Nat} (F : Sm h h') (P : CP σ be sh ra tp lw L p h g) : CP σ be sh ra tp lw L p h' g := by
  obtain ⟨hL, R0, Rc, B, T, Q⟩ := P
  have O : ∀ b z, h.kd b = z → z.1 ≠ 99 → h'.kd b = h.kd b ∧ h'.gl b = h.gl b ∧ (∀ f, h'.fi f b = h.fi f b) ∧ (∀ f, h'.fr f b = h.fr f b) ∧ h'.ai b = h.ai b ∧ h'.al b = h.al b ∧ h'.ar b = h.ar b := fun b z hb hz => F b (by rw [hb]; exact hz)
  have Og := O g _ hL.kf (by decide)
  have O5 := O _ _ hL.k385 (by decide)
  have O6 := O _ _ hL.k386 (by decide)
  have hr : ∀ r, r < σ.n → h'.fr 198 (p r) = h.fr 198 (p r) := fun r hr => (O _ _ (hL.kp hr) (by decide)).2.2.2.1 198
  obtain ⟨k, hk, l1, -⟩ := hL.lw
  refine ⟨hL.grow (fun b hb => ⟨(F b hb).1, (F b hb).2.1, (F b hb).2.2.2.1⟩) hL.ln (fun r h9 => ?_) (fun j r h9 => by rw [O6.2.2.2.2.2.2]; exact hL.rk j r h9), ⟨(Og.2.2.1 387).trans R0.1, (Og.2.2.1 388).trans R0.2.1, ?_, fun r h9 => ?_⟩, fun c hc => ?_, ⟨fun k h9 => ?_, fun k h9 => ?_, (Og.2.2.1 397).trans B.2.2.1, B.2.2.2⟩, ⟨T.1, ?_, fun j hj => ?_⟩, ⟨?_, Q.2⟩⟩
  · rw [hr r h9, (O _ _ (hL.kp h9) (by decide)).1, (O _ _ (hL.kp h9) (by decide)).2.1, (O _ _ (hL.ks h9) (by decide)).1, (O _ _ (hL.ks h9) (by decide)).2.1, O5.2.2.2.2.2.2]; exact hL.rd r h9
  · rw [Og.2.2.2.1, (O _ _ hL.kg (by decide)).2.2.1]; exact R0.2.2.1
  · rw [hr r h9]
    exact RF.congr (σ := σ) (fi := h.fi) ⟨rfl, rfl, rfl, rfl, rfl, rfl, rfl, rfl, rfl, rfl⟩ (fun g' _ _ => (O _ _ (hL.kp h9) (by decide)).2.2.1 g') (fun g' _ _ => (O _ _ (hL.ks h9) (by decide)).2.2.1 g') (R0.2.2.2 r h9)
  · rw [Og.2.2.2.1, (O _ _ hL.kg (by decide)).2.2.2.1, (O _ _ hL.gn.2.1 (by decide)).2.2.2.2.1]; exact Rc c hc
  · rw [Og.2.2.2.1, (O _ _ hL.k395 (by decide)).2.2.2.2.1]; exact B.1 k h9
  · rw [Og.2.2.2.1, (O _ _ hL.k396 (by decide)).2.2.2.2.1]; exact B.2.1 k h9
  · rw [Og.2.2.2.1, (O _ _ hL.k390 (by decide)).2.2.1]; exact T.2.1
  · rw [Og.2.2.2.1, (O _ _ hL.k390 (by decide)).2.2.2.1, (O _ _ hL.k320 (by decide)).2.2.2.2.1]; exact T.2.2 j hj
  · rw [Og.2.2.2.1]
    have Ol := O _ _ l1.1 (by decide)
    exact Q.1.congr (Ol.2.2.1 69) (Ol.2.2.1 65) (by rw [Ol.2.2.2.1, (O _ _ l1.2.2.1.1 (by decide)).2.2.2.2.1]) (by rw [Ol.2.2.2.1, (O _ _ l1.2.2.2.1.1 (by decide)).2.2.2.2.1]) (by rw [Ol.2.2.2.1, (O _ _ l1.2.2.2.2.1.1 (by decide)).2.2.2.2.1])
/-! what the calls keep of the state -/
theorem PK.s0 : PK s0 [] := by
  refine ⟨⟨by decide, by decide, fun r hr => absurd hr (Nat.not_lt_zero r), fun r hr => ⟨Nat.le_refl _, Nat.le_refl _, fun _ => ⟨rfl, rfl⟩⟩, fun r hr => absurd hr (Nat.not_lt_zero r), fun r hr => absurd hr (Nat.not_lt_zero r)⟩, JN.none (fun q hq => absurd hq (Nat.not_lt_zero q)), ⟨List.Pairwise.nil, fun r => ⟨fun h => (by cases h), fun h => absurd h (Nat.not_lt_zero r)⟩⟩, fun r _ _ => ⟨rfl, rfl, rfl⟩⟩
theorem PK.close {σ : SG} {L : List Nat} {x y : Int32} {t : Bool} (P : PK σ L) : PK (cif (clP σ x y t) (σ.cl_ (upN σ.cl (12 * y + x).toNatClampNeg t)) σ) L := by
  by_cases e : clP σ x y t
  · rw [cif_t e]; exact ⟨P.1, P.2.1.close e.2.1 e.2.2, P.2.2.1, P.2.2.2⟩
  · rw [cif_f e]; exact P
theorem PK.gate {σ : SG} {L : List Nat} {y : Int32} (P : PK σ L) : PK (cif (gtP σ y) (σ.gr_ y.toNatClampNeg) σ) L := by
  by_cases e : gtP σ y
  · rw [cif_t e]; exact ⟨P.1.gate e, JN.gate e, P.2.2.1, P.2.2.2⟩
  · rw [cif_f e]; exact P
theorem PK.li {σ : SG} {L : List Nat} {f : Nat → Nat} (P : PK σ L) (W : WF (σ.li_ f)) (J : JN (σ.li_ f)) : PK (σ.li_ f) L := ⟨W, J, P.2.2.1, P.2.2.2⟩
theorem PK.lay {σ : SG} {L : List Nat} {x a b : Int32} {t : Bool} (P : PK σ L) : PK (cif (layP σ x a b t) (σ.li_ (upN σ.li x.toNatClampNeg (plc a b t))) σ) L := by
  by_cases e : layP σ x a b t
  · rw [cif_t e]
    obtain ⟨e1, e2, e3, e4⟩ := e
    obtain ⟨r, hr, rfl⟩ := ride_of P.1.n10 e1
    rw [nI_clamp (by have := P.1.n10; omega)] at e2 e4 ⊢
    obtain ⟨a9, b9, -, -, -, -, hp, -⟩ := plc_of (t := t) e3
    exact P.li (P.1.li_up hr (Nat.le_of_lt hp) (fun _ => e4.1.1)) (P.2.1.lay hr e2 hp e4)
  · rw [cif_f e]; exact P
theorem PK.take {σ : SG} {L : List Nat} {x : Int32} (P : PK σ L) : PK (cif ((0 ≤ x ∧ x < nI σ.n) ∧ σ.li x.toNatClampNeg < 240) (σ.li_ (upN σ.li x.toNatClampNeg 240)) σ) L := by
  by_cases e : (0 ≤ x ∧ x < nI σ.n) ∧ σ.li x.toNatClampNeg < 240
  · rw [cif_t e]
    obtain ⟨r, hr, rfl⟩ := ride_of P.1.n10 e.1
    rw [nI_clamp (by have := P.1.n10; omega)]
    exact P.li (P.1.li_up hr (Nat.le_refl _) (fun h => absurd h (by omega))) P.2.1.take
  · rw [cif_f e]; exact P
theorem PK.sick {σ : SG} {L : List Nat} {x : Int32} (P : PK σ L) : PK (cif ((0 ≤ x ∧ x < nI σ.n) ∧ σ.sk x.toNatClampNeg = false ∧ ¬ σ.li x.toNatClampNeg < 240) (σ.sk_ (upN σ.sk x.toNatClampNeg true)) σ) L := by
  by_cases e : (0 ≤ x ∧ x < nI σ.n) ∧ σ.sk x.toNatClampNeg = false ∧ ¬ σ.li x.toNatClampNeg < 240
  · rw [cif_t e]
    obtain ⟨r, hr, rfl⟩ := ride_of P.1.n10 e.1
    rw [nI_clamp (by have := P.1.n10; omega)]
    refine ⟨P.1, JN.sk P.2.1, P.2.2.1, fun q h1 h2 => ?_⟩
    obtain ⟨n1, n2, n3⟩ := P.2.2.2 q h1 h2
    have h1 : σ.n ≤ q := h1
    exact ⟨n1, n2, (upN_n (by omega)).trans n3⟩
  · rw [cif_f e]; exact P
theorem end1_o {lw : LW} {σ : SG} {r q : Nat} (h : q ≠ r) : (end1 lw σ r).hd q = σ.hd q ∧ (end1 lw σ r).ms q = σ.ms q := by
  by_cases h1 : σ.li r < 240
  · rw [end1_y h1, gs_hd_rt, gs_hd_ms, gs_hd_hd, gs_ms_rt, gs_ms_ms]; exact ⟨upN_n h, upN_n h⟩
  · by_cases h2 : σ.rt r < 240
    · cases h3 : lps lw σ r with
      | true => rw [end1_l h1 h2 h3, gs_hd_ms, gs_hd_hd, gs_ms_ms]; exact ⟨upN_n h, (upN_n h).trans (upN_n h)⟩
      | false => rw [end1_k h1 h2 h3, gs_hd_ms, gs_ms_ms]; exact ⟨rfl, upN_n h⟩
    · rw [end1_0 h1 h2]; exact ⟨rfl, rfl⟩
theorem endN_o {lw : LW} {σ : SG} {q : Nat} : ∀ k, k ≤ q → (endN lw σ k).hd q = σ.hd q ∧ (endN lw σ k).ms q = σ.ms q
  | 0, _ => ⟨rfl, rfl⟩
  | k + 1, h => by
    obtain ⟨a1, a2⟩ := endN_o (lw := lw) (σ := σ) (q := q) k (by omega)
    obtain ⟨b1, b2⟩ := end1_o (lw := lw) (σ := endN lw σ k) (r := k) (q := q) (by omega)
    rw [endN_s]
    exact ⟨b1.trans a1, b2.trans a2⟩
theorem clr_o {σ : SG} {k q : Nat} (h : k ≤ q) : (clrN σ k).sk q = σ.sk q := by
  show (if q < k then false else σ.sk q) = _
  rw [if_neg (by omega)]
theorem endS_f (lw : LW) (σ : SG) : (endS lw σ).n = σ.n ∧ (endS lw σ).rk = σ.rk ∧ (endS lw σ).hd = (endN lw σ σ.n).hd ∧ (endS lw σ).ms = (endN lw σ σ.n).ms ∧ (endS lw σ).sk = (clrN (endN lw σ σ.n) σ.n).sk := by
  obtain ⟨a1, a2, a3, a4, a5, a6, a7, a8, a9, a10, a11⟩ := endN_n lw σ σ.n
  rw [endS_eq, gs_n_yr, gs_rk_yr, gs_hd_yr, gs_ms_yr, gs_sk_yr, clr_n, clr_rk, clr_hd, clr_ms]
  exact ⟨a1, a11, rfl, rfl, rfl⟩
theorem PK.end_ {σ : SG} {L : List Nat} (lw : LW) (P : PK σ L) : PK (endS lw σ) L := by
  obtain ⟨e1, e2, e3, e4, e5⟩ := endS_f lw σ
  refine ⟨WF_endS P.1 lw, JN_endS lw, ⟨?_, fun r => by rw [e1]; exact P.2.2.1.2 r⟩, fun q h1 h2 => ?_⟩
  · have e : bfr (endS lw σ) = bfr σ := by funext a b; unfold bfr; rw [e2]
    rw [e]; exact P.2.2.1.1
  · rw [e1] at h1
    obtain ⟨n1, n2, n3⟩ := P.2.2.2 q h1 h2
    obtain ⟨o1, o2⟩ := endN_o (lw := lw) (σ := σ) (q := q) σ.n h1
    rw [e3, e4, e5, clr_o h1, (endN_n lw σ σ.n).2.2.2.1]
    exact ⟨o1.trans n1, o2.trans n2, n3⟩
theorem p1_form : ∀ (L : List Nat) (σ : SG), p1 σ L = σ.li_ (p1 σ L).li
  | [], σ => (li_id σ).symm
  | r :: L, σ => by
    rw [p1_s]
    have z := p1_form L (if ask1 σ r then lay1 σ r else σ)
    by_cases e : ask1 σ r = true
    · rw [if_pos e] at z ⊢
      rw [(lay1_form σ r).1, li_li] at z
      rw [← (lay1_form σ r).1] at z
      exact z
    · rw [if_neg e] at z ⊢; exact z
theorem p2_form : ∀ (L : List Nat) (σ : SG), p2 σ L = σ.li_ (p2 σ L).li
  | [], σ => (li_id σ).symm
  | r :: L, σ => by
    rw [p2_s]
    have z := p2_form L (if ask2 σ r then lay2 σ r else σ)
    by_cases e : ask2 σ r = true
    · rw [if_pos e] at z ⊢
      have e9 : lay2 σ r = σ.li_ (upN σ.li r (fstP σ r)) := by unfold lay2; rfl
      rw [e9, li_li] at z
      rw [← e9] at z
      exact z
    · rw [if_neg e] at z ⊢; exact z
theorem PK.layAll {σ : SG} {L : List Nat} (P : PK σ L) (W : WF (p2 (p1 σ L) L)) : PK (p2 (p1 σ L) L) L := by
  have hm : ∀ r ∈ L, r < σ.n := fun r hr => (P.2.2.1.2 r).mp hr
  obtain ⟨j1, n1⟩ := JN.ph1 P.2.1 hm
  obtain ⟨j2, n2⟩ := JN.ph2 (L := L) j1 (fun r hr => by rw [n1]; exact hm r hr)
  have e : p2 (p1 σ L) L = σ.li_ (p2 (p1 σ L) L).li := by
    have z := p2_form L (p1 σ L)
    rw [p1_form L σ, li_li] at z
    rw [← p1_form L σ] at z
    exact z
  have Z : PK (σ.li_ (p2 (p1 σ L) L).li) L := P.li (by rw [← e]; exact W) (by rw [← e]; exact j2)
  rw [← e] at Z
  exact Z
theorem PK.ride {σ : SG} {L L' : List Nat} {w z p s k : Int32} (P : PK σ L) (h : rdP σ w z p s k) (S : Srt (σ.add w.toNatClampNeg z.toNatClampNeg p.toNatClampNeg s.toNatClampNeg k.toNatClampNeg) L') : PK (σ.add w.toNatClampNeg z.toNatClampNeg p.toNatClampNeg s.toNatClampNeg k.toNatClampNeg) L' := by
  obtain ⟨w1, w2, -⟩ := nI_rng2 (a := 1) (b := 4) (by decide) h.1.1 h.1.2 (by decide)
  obtain ⟨z1, z2, -⟩ := nI_rng2 (a := 1) (b := 4) (by decide) h.2.1.1 h.2.1.2 (by decide)
  obtain ⟨-, p2, -⟩ := nI_rng2 (a := 0) (b := 100) (by decide) h.2.2.1.1 h.2.2.1.2 (by decide)
  obtain ⟨-, s2, -⟩ := nI_rng2 (a := 0) (b := 9) (by decide) h.2.2.2.1.1 h.2.2.2.1.2 (by decide)
  obtain ⟨-, k2, -⟩ := nI_rng2 (a := 0) (b := 99) (by decide) h.2.2.2.2.1.1 h.2.2.2.2.1.2 (by decide)
  have hn := h.2.2.2.2.2
  refine ⟨P.1.add ⟨w1, w2⟩ ⟨z1, z2⟩ p2 s2 k2 hn, JN.add P.1 P.2.1 hn, S, fun q h1 h2 => ?_⟩
  have h1 : σ.n + 1 ≤ q := h1
  exact P.2.2.2 q (by omega) h2

