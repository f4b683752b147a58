/-! ===== gate, closed cells, money, power: the class ===== -/
theorem lyN_0 {σ : SG} : ∀ {k : Nat}, lyN σ k = 0 ↔ ∀ r, r < k → ¬ σ.li r < 240
  | 0 => ⟨fun _ r hr => absurd hr (Nat.not_lt_zero r), fun _ => rfl⟩
  | k + 1 => by
    by_cases e : σ.li k < 240
    · rw [lyN_y e]; exact ⟨fun h => by omega, fun h => absurd e (h k (by omega))⟩
    · rw [lyN_n e, lyN_0 (k := k)]
      constructor
      · intro h r hr
        by_cases er : r = k
        · rw [er]; exact e
        · exact h r (by omega)
      · intro h r hr; exact h r (by omega)
theorem fre_cl {σ : SG} (h : lyN σ σ.n = 0) (c : Nat) : σ.fre c = true ↔ σ.cl c = false := by
  rw [fre_iff]
  exact ⟨fun e => e.1, fun e => ⟨e, fun r hr => by show (decide (σ.li r < 240) && _) = false; rw [decide_eq_false (lyN_0.mp h r hr), Bool.false_and]⟩⟩
theorem CRr.gate {h : HP} {g y : Nat} {σ : SG} {p : Nat → Nat} {L : List Nat} (hL : LCl h.kd h.gl h.fr h.ar g σ.n p L) (R : CRr σ h.fi h.fr g p) : CRr (σ.gr_ y) (h.setI 4 (h.fr 384 g) (nI y)).fi h.fr g p := by
  obtain ⟨r1, r2, r3, r4⟩ := R
  refine ⟨(fi_ne (by decide)).trans r1, (fi_ne (by decide)).trans r2, fi_eq, fun r hr => RF.congr ⟨rfl, rfl, rfl, rfl, rfl, rfl, rfl, rfl, rfl, rfl⟩ (fun g' h1 h2 => fi_ne (by omega)) (fun g' h1 h2 => fi_ne (by omega)) (r4 r hr)⟩
theorem CRr.cl {fi : Nat → Nat → Int32} {fr : Nat → Nat → Nat} {g : Nat} {σ : SG} {p : Nat → Nat} {f : Nat → Bool} (R : CRr σ fi fr g p) : CRr (σ.cl_ f) fi fr g p := R
theorem cell_cl {σ : SG} {c0 : Nat} {b : Bool} (hn : σ.n ≤ 10) (hu : anyb (fun r => σ.cv r c0) σ.n = false) (c : Nat) : cellV (σ.cl_ (upN σ.cl c0 b)) c = if c = c0 then (if b then -2 else -1) else cellV σ c := by
  unfold cellV
  have e0 : covN (σ.cl_ (upN σ.cl c0 b)) c σ.n = covN σ c σ.n := covN_congr (fun q _ => rfl)
  show (if upN σ.cl c0 b c then -2 else covN (σ.cl_ (upN σ.cl c0 b)) c σ.n) = _
  rw [e0]
  by_cases e : c = c0
  · rw [if_pos e, e, upN_s]
    have : covN σ c0 σ.n = -1 := by
      rw [covN_bx hn, cvN_no (fun r hr => anyb_f.mp hu r hr)]; rfl
    rw [this]
  · rw [if_neg e, upN_n e]
theorem cell_cases {σ : SG} (hn : σ.n ≤ 10) (c : Nat) : (σ.cl c = true ∧ cellV σ c = -2) ∨ (σ.cl c = false ∧ anyb (fun r => σ.cv r c) σ.n = false ∧ cellV σ c = -1) ∨ (σ.cl c = false ∧ anyb (fun r => σ.cv r c) σ.n = true ∧ 0 ≤ cellV σ c) := by
  unfold cellV
  cases e : σ.cl c with
  | true => exact Or.inl ⟨rfl, rfl⟩
  | false =>
    refine Or.inr ?_
    rw [show (if false = true then (-2 : Int32) else covN σ c σ.n) = covN σ c σ.n from rfl]
    cases e2 : anyb (fun r => σ.cv r c) σ.n with
    | false => exact Or.inl ⟨rfl, rfl, by rw [covN_bx hn, cvN_no (fun r hr => anyb_f.mp e2 r hr)]; rfl⟩
    | true => exact Or.inr ⟨rfl, rfl, Int32.not_lt.mp (fun h => by have := (covN_neg hn).mp h; rw [e2] at this; cases this)⟩
def CBm (be sh : Nat → Nat) (ra : Nat) (h : HP) (g : Nat) : Prop := (∀ k, k < 3 → h.ai (h.fr 395 g) k = nI (be k) ∧ be k ≤ 1000) ∧ (∀ k, k < 3 → h.ai (h.fr 396 g) k = nI (sh k) ∧ 1 ≤ sh k ∧ sh k ≤ 1000) ∧ h.fi 397 g = nI ra ∧ ra ≤ 1000
theorem CBm.fm {be sh : Nat → Nat} {ra : Nat} {A B : List Nat} {h h' : HP} {g n : Nat} {p : Nat → Nat} {L : List Nat} (F : Fm A B h h') (hL : LCl h.kd h.gl h.fr h.ar g n p L) (hA : 395 ∉ A ∧ 396 ∉ A) (hB : 397 ∉ B) (M : CBm be sh ra h g) : CBm be sh ra h' g := by
  obtain ⟨m1, m2, m3, m4⟩ := M
  refine ⟨?_, ?_, (F.2.2.2.2.1 _ _ hB).trans m3, m4⟩
  · rw [F.2.1, (F.2.2.2.2.2 _ (by rw [hL.g395]; exact hA.1)).1]; exact m1
  · rw [F.2.1, (F.2.2.2.2.2 _ (by rw [hL.g396]; exact hA.2)).1]; exact m2
theorem CBm.be_up {be sh : Nat → Nat} {ra : Nat} {h : HP} {g n k : Nat} {p : Nat → Nat} {L : List Nat} {v : Int32} (hL : LCl h.kd h.gl h.fr h.ar g n p L) (M : CBm be sh ra h g) (h1 : v = nI v.toNatClampNeg) (h2 : v.toNatClampNeg ≤ 1000) : CBm (upN be k v.toNatClampNeg) sh ra (h.row (h.fr 395 g) (upd (h.ai (h.fr 395 g)) k v)) g := by
  obtain ⟨m1, m2, m3, m4⟩ := M
  refine ⟨fun j hj => ?_, ?_, m3, m4⟩
  · rw [fr_row, ai_row_eq]
    show (if j = k then v else h.ai (h.fr 395 g) j) = nI (upN be k v.toNatClampNeg j) ∧ _
    by_cases e : j = k
    · rw [if_pos e, e, upN_s]; exact ⟨h1, h2⟩
    · rw [if_neg e, upN_n e]; exact m1 j hj
  · rw [fr_row, ai_row_ne (gl_ne hL.g396 hL.g395 (by decide))]; exact m2
theorem CBm.sh_up {be sh : Nat → Nat} {ra : Nat} {h : HP} {g n k : Nat} {p : Nat → Nat} {L : List Nat} {v : Int32} (hL : LCl h.kd h.gl h.fr h.ar g n p L) (M : CBm be sh ra h g) (h1 : v = nI v.toNatClampNeg) (h2 : 1 ≤ v.toNatClampNeg ∧ v.toNatClampNeg ≤ 1000) : CBm be (upN sh k v.toNatClampNeg) ra (h.row (h.fr 396 g) (upd (h.ai (h.fr 396 g)) k v)) g := by
  obtain ⟨m1, m2, m3, m4⟩ := M
  refine ⟨?_, fun j hj => ?_, m3, m4⟩
  · rw [fr_row, ai_row_ne (gl_ne hL.g395 hL.g396 (by decide))]; exact m1
  · rw [fr_row, ai_row_eq]
    show (if j = k then v else h.ai (h.fr 396 g) j) = nI (upN sh k v.toNatClampNeg j) ∧ _
    by_cases e : j = k
    · rw [if_pos e, e, upN_s]; exact ⟨h1, h2⟩
    · rw [if_neg e, upN_n e]; exact m2 j hj
theorem ln_x {σ : SG} (W : WF σ) {r : Nat} (hr : r < σ.n) (hl : σ.li r < 240) : σ.ln r = σ.dX r / 4 := by
  have := W.dxy hr hl
  unfold SG.ln
  rw [dr_xy]
  congr 1
  omega
/-- who is on the line among the first k of the row, the last first -/
def dkT (σ : SG) (L : List Nat) (l k : Nat) : List Nat := (L.take k).reverse.filter (σ.on l)
theorem dkT_s {σ : SG} {L : List Nat} {l k b : Nat} (h : L[k]? = some b) : dkT σ L l (k + 1) = if σ.on l b then b :: dkT σ L l k else dkT σ L l k := by
  unfold dkT
  obtain ⟨hk, e⟩ := List.getElem?_eq_some_iff.mp h
  rw [List.take_succ, h, Option.toList_some, List.reverse_append, List.reverse_singleton, List.singleton_append, List.filter_cons]
theorem dkT_n {σ : SG} {L : List Nat} {l : Nat} : dkT σ L l L.length = dkL σ L l := by unfold dkT dkL; rw [List.take_length]
theorem cell_gr (σ : SG) (y c : Nat) : cellV (σ.gr_ y) c = cellV σ c := by
  unfold cellV
  have e0 : covN (σ.gr_ y) c σ.n = covN σ c σ.n := covN_congr (fun q _ => rfl)
  show (if σ.cl c then -2 else covN (σ.gr_ y) c σ.n) = _
  rw [e0]
theorem cell_sk (σ : SG) (f : Nat → Bool) (c : Nat) : cellV (σ.sk_ f) c = cellV σ c := by
  unfold cellV
  have e0 : covN (σ.sk_ f) c σ.n = covN σ c σ.n := covN_congr (fun q _ => rfl)
  show (if σ.cl c then -2 else covN (σ.sk_ f) c σ.n) = _
  rw [e0]

theorem gate_le {y : Int32} (h : 0 ≤ y ∧ y < 10) : y ≤ nI 9 := by
  obtain ⟨j, hj, rfl⟩ := nI_of (Int32.not_lt.mpr h.1)
  have := (nI_ltI (b := 10) hj (by decide)).mp h.2
  exact nI_le (by omega) (by decide)
theorem cl_jn {σ : SG} {c0 : Nat} {yes : Bool} (J : JN σ) (hg : σ.gr < 10) (hu : anyb (fun r => σ.cv r c0) σ.n = false) : (∀ q, q < σ.n → σ.li q < 240 → RS (fun c => !(σ.cl_ (upN σ.cl c0 yes)).fre c) (12 * σ.gr) (σ.dr q)) ↔ (yes = true → σ.jn c0) := by
  have hfre : ∀ c, (σ.cl_ (upN σ.cl c0 yes)).fre c = if c = c0 then !yes else σ.fre c := fun c => by
    show (!upN σ.cl c0 yes c && !anyb (fun r => σ.cv r c) σ.n) = _
    by_cases e : c = c0
    · rw [if_pos e, e, upN_s, hu]; simp
    · rw [if_neg e, upN_n e]; rfl
  cases yes with
  | true =>
    have e : ∀ c, (!(σ.cl_ (upN σ.cl c0 true)).fre c) = (!σ.fre c || decide (c = c0)) := fun c => by
      rw [hfre]
      by_cases e : c = c0
      · simp [e]
      · simp [e]
    have e2 : (fun c => !(σ.cl_ (upN σ.cl c0 true)).fre c) = fun c => (!σ.fre c || decide (c = c0)) := funext e
    rw [e2]
    exact ⟨fun h _ => h, fun h => h rfl⟩
  | false =>
    refine ⟨(fun _ e => by cases e), fun _ q hq hl => RS.mono (fun c hc => ?_) (J.1 q hq hl)⟩
    rw [hfre]
    by_cases e : c = c0
    · simp [e]
    · rw [if_neg e]; exact hc
theorem CRr.sick {h : HP} {g r : Nat} {σ : SG} {p : Nat → Nat} {L : List Nat} (hL : LCl h.kd h.gl h.fr h.ar g σ.n p L) (R : CRr σ h.fi h.fr g p) (hr : r < σ.n) : CRr (σ.sk_ (upN σ.sk r true)) (h.setI 200 (p r) 1).fi h.fr g p := by
  refine CRr.one hL R rfl rfl rfl hr (fun k hk => ⟨rfl, rfl, rfl, rfl, rfl, rfl, rfl, rfl, rfl, upN_n hk⟩) (fun g' a h6 h7 _ => fi_ne2 h6) ?_
  obtain ⟨f1, f2, f3, f4, f5, f6, f7, f8, f9, f10, f11, ⟨t, f12⟩, f13⟩ := R.2.2.2 r hr
  refine ⟨(fi_ne (by decide)).trans f1, (fi_ne (by decide)).trans f2, (fi_ne (by decide)).trans f3, (fi_ne (by decide)).trans f4, (fi_ne (by decide)).trans f5, (fi_ne (by decide)).trans f6, (fi_ne (by decide)).trans f7, ?_, (fi_ne (by decide)).trans f9, (fi_ne (by decide)).trans f10, (fi_ne (by decide)).trans f11, ⟨t, (fi_ne (by decide)).trans f12⟩, fun h9 => ?_⟩
  · rw [fi_eq, gs_sk_sk, upN_s]; rfl
  · obtain ⟨a1, a2, a3, a4, a5⟩ := f13 h9
    exact ⟨(fi_ne (by decide)).trans a1, (fi_ne (by decide)).trans a2, (fi_ne (by decide)).trans a3, (fi_ne (by decide)).trans a4, (fi_ne (by decide)).trans a5⟩
theorem c_X6_gate {G : GT} {h : HP} {g : Nat} {σ : SG} {p : Nat → Nat} {L : List Nat} {y : Int32} (hL : LCl h.kd h.gl h.fr h.ar g σ.n p L) (R0 : CRr σ h.fi h.fr g p) (Rc : CRc σ h g) (W : WF σ) : Con G 3 0 0 yX6_gate cX6_gate 2 (some .boolean) [rv g, .int y] h (PI (fun v h' => cif (gtP σ y) 1 0 = v ∧ CRr (cif (gtP σ y) (σ.gr_ y.toNatClampNeg) σ) h'.fi h'.fr g p ∧ CRc (cif (gtP σ y) (σ.gr_ y.toNatClampNeg) σ) h' g ∧ Fm [] [4] h h')) := by
  refine Con.of (lv := [some (rv g), some (.int y)]) (by decide) (by simp only [lvE_r, lvE_i, lvE_l, lvE_s, lvE_0]; rfl) (by simp only [lgl_r, lgl_i, lgl_l, lgl_s, lgl_0]; decide) (fun Γ C R => ?_)
  generalize hPP : (PI (fun v h' => cif (gtP σ y) 1 0 = v ∧ CRr (cif (gtP σ y) (σ.gr_ y.toNatClampNeg) σ) h'.fi h'.fr g p ∧ CRc (cif (gtP σ y) (σ.gr_ y.toNatClampNeg) σ) h' g ∧ Fm [] [4] h h')) = PP
  have r10 := W.n10
  obtain ⟨g1, g2, g3, g4, g5, g6, g7⟩ := id hL.gn
  have hl10 := lyN_le σ σ.n
  refine r_aload_n (q := 1) (z := 0) C 0 rfl (by decide +kernel) rfl rfl ?_
  refine cV0I (q := 4) C R rfl (by decide +kernel) lk_X6_95 (c_X6_countLying hL R0 r10) (by decide) (by decide) (by decide) rfl (by first | exact Nat.le_of_ble_eq_true rfl | (simp only [List.map_cons, List.map_nil, List.sum_cons, List.sum_nil, rv_cat]; exact Nat.le_of_ble_eq_true rfl)) rfl hL.kf ?_
  rintro _ _ ⟨rfl, rfl⟩
  refine r_if_gt (q := 7) (off := 16) (tgt := 20) C rfl (by decide +kernel) (by decide) (fun c4 => ?_) (fun c4 => ?_)
  · have c4 : ¬ lyN σ σ.n = 0 := fun e => by rw [e] at c4; exact absurd c4 (by decide)
    have hn : ¬ gtP σ y := fun e => c4 e.2.1
    refine r_iconst (q := 21) (z := 0) (v := 0) C rfl (by decide +kernel) (by decide) ?_
    exact r_zret C (by decide +kernel) rfl (by first | decide | exact b2i_nar _) (by decide) (by decide) (eqP hPP ⟨_, rfl, (by
          rw [cif_f hn, cif_f hn]
          exact ⟨rfl, R0, Rc, Fm.rf⟩)⟩)
  · have c4 : lyN σ σ.n = 0 := by
      rcases Nat.eq_zero_or_pos (lyN σ σ.n) with e | e
      · exact e
      · exact absurd (nI_lt (a := 0) e (by omega)) c4
    refine r_aload_n (q := 8) (z := 0) C 0 rfl (by decide +kernel) rfl rfl ?_
    refine r_getR (q := 11) C 6 0 384 rfl (by decide +kernel) rfl (by decide) rfl rfl wf_X6_10 win6 hL.kf ?_
    refine r_iconst (q := 12) (z := 0) (v := 0) C rfl (by decide +kernel) (by decide) ?_
    refine r_iload_n (q := 13) (z := 1) C 1 rfl (by decide +kernel) rfl rfl ?_
    refine cV2I (q := 16) C R rfl (by decide +kernel) lk_X6_76 (c_X0_at hL.kg g2) (by decide) (by decide) (by decide) rfl (by first | exact Nat.le_of_ble_eq_true rfl | (simp only [List.map_cons, List.map_nil, List.sum_cons, List.sum_nil, rv_cat]; exact Nat.le_of_ble_eq_true rfl)) rfl hL.kg ?_
    rintro _ _ ⟨rfl, rfl⟩
    refine r_iconst (q := 17) (z := (-1)) (v := (-1)) C rfl (by decide +kernel) (by decide) ?_
    refine r_icmp_eq (q := 20) (off := 5) (tgt := 22) C rfl (by decide +kernel) (by decide) (fun c17 => ?_) (fun c17 => ?_)
    · have hC : hasC 0 y = true := by
        cases e : hasC 0 y with
        | true => rfl
        | false => rw [e] at c17; exact absurd (show (-3 : Int32) = -1 from c17) (by decide)
      obtain ⟨a0, b0, ha0, hb0, ea, rfl⟩ := hasC_of hC
      have ea0 : a0 = 0 := ((nI_eq (a := 0) (by decide) (by omega)).mp ea).symm
      subst ea0
      rw [if_pos hC, ea, cIx, nI_clamp (by omega), Rc _ (by omega)] at c17
      have hy : gtP σ (nI b0) := ⟨⟨nI_pos' (by omega), nI_lt (b := 10) hb0 (by decide)⟩, c4, by rw [nI_clamp (by omega)]; exact (fre_cl c4 _).mp ((cell_free r10).mp c17)⟩
      refine r_aload_n (q := 23) (z := 0) C 0 rfl (by decide +kernel) rfl rfl ?_
      refine r_getR (q := 26) C 6 0 384 rfl (by decide +kernel) rfl (by decide) rfl rfl wf_X6_10 win6 hL.kf ?_
      refine r_iload_n (q := 27) (z := 1) C 1 rfl (by decide +kernel) rfl rfl ?_
      refine r_putI (q := 30) C 0 4 4 rfl (by decide +kernel) rfl (by decide) rfl rfl wf_X6_99 win0 tyX0 tyX0_ok nmX0 rfl (tyX0_ok 4 (by decide)) rfl wnd0 rfl rfl hL.kg ?_
      refine r_iconst (q := 31) (z := 1) (v := 1) C rfl (by decide +kernel) (by decide) ?_
      exact r_zret C (by decide +kernel) rfl (by first | decide | exact b2i_nar _) (by decide) (by decide) (eqP hPP ⟨_, rfl, (by
            rw [cif_t hy, cif_t hy, nI_clamp (by omega)]
            exact ⟨rfl, CRr.gate hL R0, fun c hc => (Rc c hc).trans (cell_gr _ _ _).symm, Fm.rf.setI (by decide)⟩)⟩)
    · have hn : ¬ gtP σ y := fun e => by
        obtain ⟨w1, w2, w3⟩ := nI_rng2 (a := 0) (b := 9) (by decide) e.1.1 (gate_le e.1) (by decide)
        rw [w3] at c17
        rw [show (0 : Int32) = nI 0 from rfl, if_pos (hasC_nI (by decide) (by omega)), cIx, nI_clamp (by omega), Rc _ (by omega)] at c17
        exact c17 ((cell_free r10).mpr ((fre_cl c4 _).mpr e.2.2))
      refine r_iconst (q := 21) (z := 0) (v := 0) C rfl (by decide +kernel) (by decide) ?_
      exact r_zret C (by decide +kernel) rfl (by first | decide | exact b2i_nar _) (by decide) (by decide) (eqP hPP ⟨_, rfl, (by
            rw [cif_f hn, cif_f hn]
            exact ⟨rfl, R0, Rc, Fm.rf⟩)⟩)
theorem c_X6_close {G : GT} {h : HP} {g : Nat} {σ : SG} {p : Nat → Nat} {L : List Nat} {x y : Int32} {yes : Bool} (hL : LCl h.kd h.gl h.fr h.ar g σ.n p L) (R0 : CRr σ h.fi h.fr g p) (Rc : CRc σ h g) (W : WF σ) (J : JN σ) : Con G 6 0 0 yX6_close cX6_close 5 (some .boolean) [rv g, .int x, .int y, .int (b2i yes)] h (PI (fun v h' => cif (clP σ x y yes) 1 0 = v ∧ CRr (cif (clP σ x y yes) (σ.cl_ (upN σ.cl (12 * y + x).toNatClampNeg yes)) σ) h'.fi h'.fr g p ∧ CRc (cif (clP σ x y yes) (σ.cl_ (upN σ.cl (12 * y + x).toNatClampNeg yes)) σ) h' g ∧ Fm [1, 2, 3] [3] h h')) := by
  refine Con.of (lv := [some (rv g), some (.int x), some (.int y), some (.int (b2i yes)), none]) (by decide) (by simp only [lvE_r, lvE_i, lvE_l, lvE_s, lvE_0]; rfl) (by simp only [lgl_r, lgl_i, lgl_l, lgl_s, lgl_0]; decide) (fun Γ C R => ?_)
  generalize hPP : (PI (fun v h' => cif (clP σ x y yes) 1 0 = v ∧ CRr (cif (clP σ x y yes) (σ.cl_ (upN σ.cl (12 * y + x).toNatClampNeg yes)) σ) h'.fi h'.fr g p ∧ CRc (cif (clP σ x y yes) (σ.cl_ (upN σ.cl (12 * y + x).toNatClampNeg yes)) σ) h' g ∧ Fm [1, 2, 3] [3] h h')) = PP
  have r10 := W.n10
  obtain ⟨g1, g2, g3, g4, g5, g6, g7⟩ := id hL.gn
  have g10 := W.gr10
  refine r_aload_n (q := 1) (z := 0) C 0 rfl (by decide +kernel) rfl rfl ?_
  refine r_getR (q := 4) C 6 0 384 rfl (by decide +kernel) rfl (by decide) rfl rfl wf_X6_10 win6 hL.kf ?_
  refine r_iload_n (q := 5) (z := 1) C 1 rfl (by decide +kernel) rfl rfl ?_
  refine r_iload_n (q := 6) (z := 2) C 2 rfl (by decide +kernel) rfl rfl ?_
  refine cV2I (q := 9) C R rfl (by decide +kernel) lk_X6_76 (c_X0_at hL.kg g2) (by decide) (by decide) (by decide) rfl (by first | exact Nat.le_of_ble_eq_true rfl | (simp only [List.map_cons, List.map_nil, List.sum_cons, List.sum_nil, rv_cat]; exact Nat.le_of_ble_eq_true rfl)) rfl hL.kg ?_
  rintro _ _ ⟨rfl, rfl⟩
  refine r_istore (q := 11) C 4 rfl (by decide +kernel) (by decide) (by first | rfl | exact okst_rv rfl) ?_
  dsimp only [List.set]
  have J45 : (¬ clP σ x y yes) → wX G Γ (qM G Γ PP 0 0) 0 0 (h) 45 [some (rv g), some (.int x), some (.int y), some (.int (b2i yes)), none] [] := by
    intro  hn
    refine r_iconst (q := 46) (z := 0) (v := 0) C rfl (by decide +kernel) (by decide) ?_
    exact r_zret C (by decide +kernel) rfl (by first | decide | exact b2i_nar _) (by decide) (by decide) (eqP hPP ⟨_, rfl, (by
          rw [cif_f hn, cif_f hn]
          exact ⟨rfl, R0, Rc, Fm.rf⟩)⟩)
  have J24 : (hasC x y = true) → (anyb (fun r => σ.cv r (12 * y + x).toNatClampNeg) σ.n = false) → ((if hasC x y then h.ai (h.fr 0 (h.fr 384 g)) (12 * y + x).toNatClampNeg else -3) = cellV σ (12 * y + x).toNatClampNeg) → wX G Γ (qM G Γ PP 0 0) 0 0 (h) 24 [some (rv g), some (.int x), some (.int y), some (.int (b2i yes)), some (.int (if hasC x y then h.ai (h.fr 0 (h.fr 384 g)) (12 * y + x).toNatClampNeg else -3))] [] := by
    intro  hC hu hbf
    obtain ⟨c0, hc0, hcl⟩ := cAt_of hC
    have h120 := hc0.2.2
    rw [hbf]
    rw [hcl] at hu hbf
    rw [hcl]
    obtain ⟨xa, ya, hxa, hya, ex, ey⟩ := hasC_of hC
    have ec0 : c0 = 12 * ya + xa := by rw [← hcl, ex, ey, cIx, nI_clamp (by omega)]
    refine r_aload_n (q := 25) (z := 0) C 0 rfl (by decide +kernel) rfl rfl ?_
    refine r_getR (q := 28) C 6 0 384 rfl (by decide +kernel) rfl (by decide) rfl rfl wf_X6_10 win6 hL.kf ?_
    refine r_iload_n (q := 29) (z := 1) C 1 rfl (by decide +kernel) rfl rfl ?_
    refine r_iload_n (q := 30) (z := 2) C 2 rfl (by decide +kernel) rfl rfl ?_
    refine cV2I (q := 33) C R rfl (by decide +kernel) lk_X6_80 (c_X0_isGate hL.kg) (by decide) (by decide) (by decide) rfl (by first | exact Nat.le_of_ble_eq_true rfl | (simp only [List.map_cons, List.map_nil, List.sum_cons, List.sum_nil, rv_cat]; exact Nat.le_of_ble_eq_true rfl)) rfl hL.kg ?_
    rintro _ _ ⟨rfl, rfl⟩
    rw [R0.2.2.1]
    refine r_if_ne (q := 36) (off := 12) (tgt := 45) C rfl (by decide +kernel) (by decide) (fun c33 => ?_) (fun c33 => ?_)
    · have hn : ¬ clP σ x y yes := fun e => by
        have h9 := of_decide_eq_true ((b2i_n0 _).mp c33)
        refine e.2.1 (Or.inr (Or.inl ?_))
        rw [h9.1, h9.2, show (0 : Int32) = nI 0 from rfl, cIx, nI_clamp (by omega)]; omega
      exact wX.sub (lsub_s (lsub_s (lsub_s (lsub_s (lsub_n (lsub_nil)))))) (J45 hn)
    · have hng := of_decide_eq_false ((b2i_0 _).mp c33)
      refine r_aload_n (q := 37) (z := 0) C 0 rfl (by decide +kernel) rfl rfl ?_
      refine r_iload_n (q := 38) (z := 1) C 1 rfl (by decide +kernel) rfl rfl ?_
      refine r_iload_n (q := 39) (z := 2) C 2 rfl (by decide +kernel) rfl rfl ?_
      refine cV2I (q := 42) C R rfl (by decide +kernel) lk_X6_84 (c_X6_isDoor hL R0 W) (by decide) (by decide) (by decide) rfl (by first | exact Nat.le_of_ble_eq_true rfl | (simp only [List.map_cons, List.map_nil, List.sum_cons, List.sum_nil, rv_cat]; exact Nat.le_of_ble_eq_true rfl)) rfl hL.kf ?_
      rintro _ _ ⟨t39, rfl, ht39, rfl⟩
      refine r_if_eq (q := 45) (off := 5) (tgt := 47) C rfl (by decide +kernel) (by decide) (fun c42 => ?_) (fun c42 => ?_)
      · have hnb : ¬ σ.bad c0 := fun e => by
          rcases e with e | e | ⟨r, hr, hl, e⟩
          · rw [hu] at e; cases e
          · refine hng ⟨?_, ?_⟩
            · rw [ex, show (0 : Int32) = nI 0 from rfl]; congr 1; omega
            · rw [ey]; congr 1; omega
          · have hxy := W.dxy hr hl
            have := ht39.mpr ⟨r, hr, hl, by rw [ex]; congr 1; rw [dr_xy] at e; omega, by rw [ey]; congr 1; rw [dr_xy] at e; omega⟩
            rw [(b2i_0 _).mp c42] at this; cases this
        have J63 : ∀ (v9 : Int32), (v9 = if yes then -2 else -1) → wX G Γ (qM G Γ PP 0 0) 0 0 (h) 63 [some (rv g), some (.int x), some (.int y), some (.int (b2i yes)), some (.int (cellV σ c0))] [.int v9, .int y, .int x, rv (h.fr 384 g)] := by
          intro v9 hv9
          refine cV3V (q := 66) C R rfl (by decide +kernel) lk_X6_87 (c_X0_put hL.kg g2) (by decide) (by decide) (by decide) rfl (by first | exact Nat.le_of_ble_eq_true rfl | (simp only [List.map_cons, List.map_nil, List.sum_cons, List.sum_nil, rv_cat]; exact Nat.le_of_ble_eq_true rfl)) rfl hL.kg ?_
          rintro _ rfl
          rw [if_pos hC, hcl, stI_row]
          have hcell : ∀ c, c < 120 → (h.row (h.fr 0 (h.fr 384 g)) (upd (h.ai (h.fr 0 (h.fr 384 g))) c0 v9)).ai (h.fr 0 (h.fr 384 g)) c = cellV (σ.cl_ (upN σ.cl c0 yes)) c := fun c hc => by
            rw [ai_row_eq, cell_cl r10 hu]
            show (if c = c0 then v9 else h.ai (h.fr 0 (h.fr 384 g)) c) = _
            by_cases e : c = c0
            · rw [if_pos e, if_pos e, hv9]
            · rw [if_neg e, if_neg e]; exact Rc c hc
          have Rs : CRr (σ.cl_ (upN σ.cl c0 yes)) h.fi h.fr g p := R0.cl
          have FR : Fm [1] [] h (h.row (h.fr 0 (h.fr 384 g)) (upd (h.ai (h.fr 0 (h.fr 384 g))) c0 v9)) := Fm.row Fm.rf (by rw [g5]; decide)
          refine r_aload_n (q := 67) (z := 0) C 0 rfl (by decide +kernel) rfl rfl ?_
          refine cV0I (q := 70) C R rfl (by decide +kernel) lk_X6_91 (c_X6_areDoorsJoined (σ := σ.cl_ (upN σ.cl c0 yes)) (p := p) (L := L) (bar := fun c => !(σ.cl_ (upN σ.cl c0 yes)).fre c) hL Rs W (fun c hc => by show ((h.row (h.fr 0 (h.fr 384 g)) (upd (h.ai (h.fr 0 (h.fr 384 g))) c0 v9)).ai (h.fr 0 (h.fr 384 g)) c = -1 ↔ _); rw [hcell c hc, cell_free (σ := σ.cl_ (upN σ.cl c0 yes)) r10, Bool.not_eq_false'])) (by decide) (by decide) (by decide) rfl (by first | exact Nat.le_of_ble_eq_true rfl | (simp only [List.map_cons, List.map_nil, List.sum_cons, List.sum_nil, rv_cat]; exact Nat.le_of_ble_eq_true rfl)) rfl hL.kf ?_
          rintro _ _ ⟨t67, f67, q67, k67, rfl, rfl, hr67, ht67⟩
          have FB : Fm [1, 2, 3] [3] h (bst (h.row (h.fr 0 (h.fr 384 g)) (upd (h.ai (h.fr 0 (h.fr 384 g))) c0 v9)) (h.fr 384 g) f67 q67 k67) := Fm.bs (FR.mono (by decide) (by decide)) hL.gn (by decide) (by decide) (by decide)
          have RB : CRr σ (bst (h.row (h.fr 0 (h.fr 384 g)) (upd (h.ai (h.fr 0 (h.fr 384 g))) c0 v9)) (h.fr 384 g) f67 q67 k67).fi h.fr g p := CRr.same hL R0 (fun g' a' _ hu => fi_ne (fun e => uses3 (e ▸ hu)))
          have n01 : h.fr 0 (h.fr 384 g) ≠ h.fr 1 (h.fr 384 g) := gl_ne g5 g6 (by decide)
          have n02 : h.fr 0 (h.fr 384 g) ≠ h.fr 2 (h.fr 384 g) := gl_ne g5 g7 (by decide)
          have ecl : (bst (h.row (h.fr 0 (h.fr 384 g)) (upd (h.ai (h.fr 0 (h.fr 384 g))) c0 v9)) (h.fr 384 g) f67 q67 k67).ai (h.fr 0 (h.fr 384 g)) = (h.row (h.fr 0 (h.fr 384 g)) (upd (h.ai (h.fr 0 (h.fr 384 g))) c0 v9)).ai (h.fr 0 (h.fr 384 g)) := bst_ai (h := (h.row (h.fr 0 (h.fr 384 g)) (upd (h.ai (h.fr 0 (h.fr 384 g))) c0 v9))) n01 n02
          have hjn : (∀ q, q < σ.n → σ.li q < 240 → RS (fun c => !(σ.cl_ (upN σ.cl c0 yes)).fre c) (12 * σ.gr) (σ.dr q)) ↔ (yes = true → σ.jn c0) := cl_jn J g10 hu
          refine r_if_eq (q := 73) (off := 5) (tgt := 75) C rfl (by decide +kernel) (by decide) (fun c70 => ?_) (fun c70 => ?_)
          · have hn : ¬ clP σ x y yes := fun e => by have h9 := e.2.2; rw [hcl] at h9; have := ht67.mpr (hjn.mpr h9); rw [(b2i_0 _).mp c70] at this; cases this
            refine r_aload_n (q := 76) (z := 0) C 0 rfl (by decide +kernel) rfl rfl ?_
            refine r_getR (q := 79) C 6 0 384 rfl (by decide +kernel) rfl (by decide) rfl rfl wf_X6_10 win6 hL.kf ?_
            refine r_iload_n (q := 80) (z := 1) C 1 rfl (by decide +kernel) rfl rfl ?_
            refine r_iload_n (q := 81) (z := 2) C 2 rfl (by decide +kernel) rfl rfl ?_
            refine r_iload (q := 83) C 4 rfl (by decide +kernel) rfl ?_
            refine cV3V (q := 86) C R rfl (by decide +kernel) lk_X6_87 (c_X0_put hL.kg g2) (by decide) (by decide) (by decide) rfl (by first | exact Nat.le_of_ble_eq_true rfl | (simp only [List.map_cons, List.map_nil, List.sum_cons, List.sum_nil, rv_cat]; exact Nat.le_of_ble_eq_true rfl)) rfl hL.kg ?_
            rintro _ rfl
            rw [if_pos hC, hcl, stI_row]
            refine r_iconst (q := 87) (z := 0) (v := 0) C rfl (by decide +kernel) (by decide) ?_
            exact r_zret C (by decide +kernel) rfl (by first | decide | exact b2i_nar _) (by decide) (by decide) (eqP hPP ⟨_, rfl, (by
                  rw [cif_f hn, cif_f hn]
                  refine ⟨rfl, RB, fun c hc => ?_, Fm.row FB (by show h.gl (h.fr 0 (h.fr 384 g)) ∈ _; rw [g5]; decide)⟩
                  show (HP.row _ (h.fr 0 (h.fr 384 g)) (upd ((bst _ (h.fr 384 g) f67 q67 k67).ai (h.fr 0 (h.fr 384 g))) c0 (cellV σ c0))).ai (h.fr 0 (h.fr 384 g)) c = _
                  rw [ai_row_eq, ecl, ai_row_eq]
                  by_cases e : c = c0
                  · rw [e, pk_us]
                  · rw [pk_un e, pk_un e]; exact Rc c hc)⟩)
          · have hy : clP σ x y yes := ⟨hC, by rw [hcl]; exact hnb, by rw [hcl]; exact hjn.mp (ht67.mp ((b2i_n0 _).mp c70))⟩
            refine r_iconst (q := 74) (z := 1) (v := 1) C rfl (by decide +kernel) (by decide) ?_
            exact r_zret C (by decide +kernel) rfl (by first | decide | exact b2i_nar _) (by decide) (by decide) (eqP hPP ⟨_, rfl, (by
                  rw [cif_t hy, cif_t hy, hcl]
                  exact ⟨rfl, RB.cl, fun c hc => by show (bst _ (h.fr 384 g) f67 q67 k67).ai (h.fr 0 (h.fr 384 g)) c = _; rw [ecl]; exact hcell c hc, FB⟩)⟩)
        refine r_aload_n (q := 48) (z := 0) C 0 rfl (by decide +kernel) rfl rfl ?_
        refine r_getR (q := 51) C 6 0 384 rfl (by decide +kernel) rfl (by decide) rfl rfl wf_X6_10 win6 hL.kf ?_
        refine r_iload_n (q := 52) (z := 1) C 1 rfl (by decide +kernel) rfl rfl ?_
        refine r_iload_n (q := 53) (z := 2) C 2 rfl (by decide +kernel) rfl rfl ?_
        refine r_iload_n (q := 54) (z := 3) C 3 rfl (by decide +kernel) rfl rfl ?_
        refine r_if_eq (q := 57) (off := 8) (tgt := 62) C rfl (by decide +kernel) (by decide) (fun c54 => ?_) (fun c54 => ?_)
        · have hyes : yes = false := (b2i_0 _).mp c54
          have ev : (-1 : Int32) = if yes then -2 else -1 := by rw [hyes]; rfl
          refine r_iconst (q := 63) (z := (-1)) (v := (-1)) C rfl (by decide +kernel) (by decide) ?_
          exact J63 _ ev
        · have hyes : yes = true := (b2i_n0 _).mp c54
          have ev : (-2 : Int32) = if yes then -2 else -1 := by rw [hyes]; rfl
          refine r_bipush (q := 59) (z := (-2)) (v := (-2)) C rfl (by decide +kernel) (by decide) ?_
          refine r_goto (off := 4) (tgt := 63) C (by decide +kernel) (by decide) ?_
          exact J63 _ ev
      · have hn : ¬ clP σ x y yes := fun e => by
          obtain ⟨r, hr, hl, e1, e2⟩ := ht39.mp ((b2i_n0 _).mp c42)
          have hxy := W.dxy hr hl
          refine e.2.1 (Or.inr (Or.inr ⟨r, hr, hl, ?_⟩))
          rw [← e1, ← e2, cIx, nI_clamp (by omega), dr_xy]
        exact wX.sub (lsub_s (lsub_s (lsub_s (lsub_s (lsub_n (lsub_nil)))))) (J45 hn)
  refine r_iload (q := 13) C 4 rfl (by decide +kernel) rfl ?_
  refine r_iconst (q := 14) (z := (-1)) (v := (-1)) C rfl (by decide +kernel) (by decide) ?_
  refine r_icmp_eq (q := 17) (off := 10) (tgt := 24) C rfl (by decide +kernel) (by decide) (fun c14 => ?_) (fun c14 => ?_)
  · have hC0 : hasC x y = true := by
      cases e : hasC x y with
      | true => rfl
      | false => rw [e] at c14; exact absurd (show (-3 : Int32) = -1 from c14) (by decide)
    have hbf0 : (if hasC x y then h.ai (h.fr 0 (h.fr 384 g)) (12 * y + x).toNatClampNeg else -3) = cellV σ (12 * y + x).toNatClampNeg := by
      obtain ⟨c0, hc0, hcl⟩ := cAt_of hC0
      rw [if_pos hC0, hcl]; exact Rc c0 hc0.2.2
    have hu0 : anyb (fun r => σ.cv r (12 * y + x).toNatClampNeg) σ.n = false := by
      rw [hbf0] at c14
      rcases cell_cases (σ := σ) r10 (12 * y + x).toNatClampNeg with ⟨-, e⟩ | ⟨-, e, -⟩ | ⟨-, -, e⟩
      · rw [e] at c14; exact absurd c14 (by decide)
      · exact e
      · rw [c14] at e; exact absurd e (by decide)
    exact J24 hC0 hu0 hbf0
  · refine r_iload (q := 19) C 4 rfl (by decide +kernel) rfl ?_
    refine r_bipush (q := 21) (z := (-2)) (v := (-2)) C rfl (by decide +kernel) (by decide) ?_
    refine r_icmp_ne (q := 24) (off := 24) (tgt := 45) C rfl (by decide +kernel) (by decide) (fun c21 => ?_) (fun c21 => ?_)
    · have hn : ¬ clP σ x y yes := fun e => by
        obtain ⟨c0, hc0, hcl⟩ := cAt_of e.1
        have hb := e.2.1
        rw [hcl] at hb
        rw [if_pos e.1, hcl, Rc c0 hc0.2.2] at c14 c21
        rcases cell_cases (σ := σ) r10 c0 with ⟨-, e1⟩ | ⟨-, -, e1⟩ | ⟨-, e1, -⟩
        · exact c21 e1
        · exact c14 e1
        · exact hb (Or.inl e1)
      exact wX.sub (lsub_s (lsub_s (lsub_s (lsub_s (lsub_n (lsub_nil)))))) (J45 hn)
    · have hC0 : hasC x y = true := by
        cases e : hasC x y with
        | true => rfl
        | false => rw [e] at c21; exact absurd (show (-3 : Int32) = -2 from c21) (by decide)
      have hbf0 : (if hasC x y then h.ai (h.fr 0 (h.fr 384 g)) (12 * y + x).toNatClampNeg else -3) = cellV σ (12 * y + x).toNatClampNeg := by
        obtain ⟨c0, hc0, hcl⟩ := cAt_of hC0
        rw [if_pos hC0, hcl]; exact Rc c0 hc0.2.2
      have hu0 : anyb (fun r => σ.cv r (12 * y + x).toNatClampNeg) σ.n = false := by
        obtain ⟨c0, hc0, hcl⟩ := cAt_of hC0
        rw [hcl]
        rw [hbf0, hcl] at c21
        rw [anyb_f]
        intro r hr
        rcases cell_cases (σ := σ) r10 c0 with ⟨e, -⟩ | ⟨-, -, e⟩ | ⟨-, -, e⟩
        · cases e9 : σ.cv r c0 with
          | false => rfl
          | true => have := J.2.1 r c0 hr hc0.2.2 e9; rw [e] at this; cases this
        · rw [e] at c21; exact absurd c21 (by decide)
        · rw [c21] at e; exact absurd e (by decide)
      exact J24 hC0 hu0 hbf0
theorem c_X6_cell {G : GT} {h : HP} {g : Nat} {σ : SG} {p : Nat → Nat} {L : List Nat} {x y : Int32} (hL : LCl h.kd h.gl h.fr h.ar g σ.n p L) (Rc : CRc σ h g) : Con G 3 0 0 yX6_cell cX6_cell 3 (some .int) [rv g, .int x, .int y] h (PI (fun v h' => (if hasC x y then (if σ.cl (12 * y + x).toNatClampNeg then -2 else covN σ (12 * y + x).toNatClampNeg σ.n) else -3) = v ∧ h = h')) := by
  refine Con.of (lv := [some (rv g), some (.int x), some (.int y)]) (by decide) (by simp only [lvE_r, lvE_i, lvE_l, lvE_s, lvE_0]; rfl) (by simp only [lgl_r, lgl_i, lgl_l, lgl_s, lgl_0]; decide) (fun Γ C R => ?_)
  generalize hPP : (PI (fun v h' => (if hasC x y then (if σ.cl (12 * y + x).toNatClampNeg then -2 else covN σ (12 * y + x).toNatClampNeg σ.n) else -3) = v ∧ h = h')) = PP
  obtain ⟨g1, g2, g3, g4, g5, g6, g7⟩ := id hL.gn
  refine r_aload_n (q := 1) (z := 0) C 0 rfl (by decide +kernel) rfl rfl ?_
  refine r_getR (q := 4) C 6 0 384 rfl (by decide +kernel) rfl (by decide) rfl rfl wf_X6_10 win6 hL.kf ?_
  refine r_iload_n (q := 5) (z := 1) C 1 rfl (by decide +kernel) rfl rfl ?_
  refine r_iload_n (q := 6) (z := 2) C 2 rfl (by decide +kernel) rfl rfl ?_
  refine cV2I (q := 9) C R rfl (by decide +kernel) lk_X6_76 (c_X0_at hL.kg g2) (by decide) (by decide) (by decide) rfl (by first | exact Nat.le_of_ble_eq_true rfl | (simp only [List.map_cons, List.map_nil, List.sum_cons, List.sum_nil, rv_cat]; exact Nat.le_of_ble_eq_true rfl)) rfl hL.kg ?_
  rintro _ _ ⟨rfl, rfl⟩
  exact r_iret C (by decide +kernel) rfl (by decide) (by decide) (eqP hPP ⟨_, rfl, ⟨by
        cases e : hasC x y with
        | false => rfl
        | true =>
          obtain ⟨c0, hc0, hcl⟩ := cAt_of e
          rw [if_pos rfl, if_pos rfl, hcl, Rc c0 hc0.2.2]; rfl, rfl⟩⟩)
theorem c_X6_orders {G : GT} {h : HP} {g : Nat} {σ : SG} {p : Nat → Nat} {L : List Nat}  (hL : LCl h.kd h.gl h.fr h.ar g σ.n p L) (R0 : CRr σ h.fi h.fr g p) (W : WF σ) : Con G 2 0 0 yX6_orders cX6_orders 4 (some .int) [rv g] h (PI (fun v h' => nI (fac (lyN σ σ.n)) = v ∧ h = h')) := by
  refine Con.of (lv := [some (rv g), none, none, none]) (by decide) (by simp only [lvE_r, lvE_i, lvE_l, lvE_s, lvE_0]; rfl) (by simp only [lgl_r, lgl_i, lgl_l, lgl_s, lgl_0]; decide) (fun Γ C R => ?_)
  generalize hPP : (PI (fun v h' => nI (fac (lyN σ σ.n)) = v ∧ h = h')) = PP
  have r10 := W.n10
  have hl10 := lyN_le σ σ.n
  refine r_iconst (q := 1) (z := 1) (v := 1) C rfl (by decide +kernel) (by decide) ?_
  refine r_istore_n (q := 2) (z := 1) C 1 rfl (by decide +kernel) rfl (by decide) (by first | rfl | exact okst_rv rfl) ?_
  dsimp only [List.set]
  refine r_aload_n (q := 3) (z := 0) C 0 rfl (by decide +kernel) rfl rfl ?_
  refine cV0I (q := 6) C R rfl (by decide +kernel) lk_X6_95 (c_X6_countLying hL R0 r10) (by decide) (by decide) (by decide) rfl (by first | exact Nat.le_of_ble_eq_true rfl | (simp only [List.map_cons, List.map_nil, List.sum_cons, List.sum_nil, rv_cat]; exact Nat.le_of_ble_eq_true rfl)) rfl hL.kf ?_
  rintro _ _ ⟨rfl, rfl⟩
  refine r_istore_n (q := 7) (z := 2) C 2 rfl (by decide +kernel) rfl (by decide) (by first | rfl | exact okst_rv rfl) ?_
  dsimp only [List.set]
  refine r_iconst (q := 8) (z := 2) (v := 2) C rfl (by decide +kernel) (by decide) ?_
  refine r_istore_n (q := 9) (z := 3) C 3 rfl (by decide +kernel) rfl (by decide) (by first | rfl | exact okst_rv rfl) ?_
  dsimp only [List.set]
  have L9 : ∀ (fuel9 : Nat) (k : Nat), lyN σ σ.n + 1 - k < fuel9 → (k ≤ lyN σ σ.n ∨ k = 1) → (1 ≤ k) → wX G Γ (qM G Γ PP 0 0) 0 0 (h) 9 [some (rv g), some (.int (nI (fac k))), some (.int (nI (lyN σ σ.n))), some (.int (nI (k + 1)))] [] := by
    intro fuel9
    induction fuel9 with
    | zero =>
      intro k hm9
      exact absurd hm9 (Nat.not_lt_zero _)
    | succ fuel9 ih9 =>
      intro k hm9 hk h1
      refine r_iload_n (q := 10) (z := 3) C 3 rfl (by decide +kernel) rfl rfl ?_
      refine r_iload_n (q := 11) (z := 2) C 2 rfl (by decide +kernel) rfl rfl ?_
      refine r_icmp_gt (q := 14) (off := 13) (tgt := 24) C rfl (by decide +kernel) (by decide) (fun c11 => ?_) (fun c11 => ?_)
      · have ek : fac k = fac (lyN σ σ.n) := by
          have h9 := (nI_ltI (by omega) (by omega)).mp c11
          rcases Nat.eq_zero_or_pos (lyN σ σ.n) with e | e
          · rw [e, show k = 1 by omega]; rfl
          · rw [show k = lyN σ σ.n by omega]
        rw [ek]
        refine r_iload_n (q := 25) (z := 1) C 1 rfl (by decide +kernel) rfl rfl ?_
        exact r_iret C (by decide +kernel) rfl (by decide) (by decide) (eqP hPP ⟨_, rfl, ⟨rfl, rfl⟩⟩)
      · have hlt : k < lyN σ σ.n := by
          rcases Nat.lt_or_ge k (lyN σ σ.n) with e | e
          · exact e
          · exact absurd (nI_lt (by omega) (by omega)) c11
        refine r_iload_n (q := 15) (z := 1) C 1 rfl (by decide +kernel) rfl rfl ?_
        refine r_iload_n (q := 16) (z := 3) C 3 rfl (by decide +kernel) rfl rfl ?_
        refine r_imul (q := 17) C rfl (by decide +kernel) ?_
        rw [pk_mul, show fac k * (k + 1) = fac (k + 1) by rw [fac, Nat.mul_comm]]
        refine r_istore_n (q := 18) (z := 1) C 1 rfl (by decide +kernel) rfl (by decide) (by first | rfl | exact okst_rv rfl) ?_
        dsimp only [List.set]
        refine r_iinc (q := 21) (z := 1) (v := 1) C 3 rfl (by decide +kernel) rfl (by decide) (by decide) (by first | rfl | exact okst_rv rfl) ?_
        dsimp only [List.set]
        rw [nI_1]
        refine r_goto (off := -12) (tgt := 9) C (by decide +kernel) (by decide) ?_
        exact ih9 (k + 1) (by omega) (by omega) (by omega)
  have z0 := L9 (lyN σ σ.n + 2) 1 (by omega) (by omega) (by omega)
  exact z0
theorem c_X6_order {G : GT} {h : HP} {g : Nat} {σ : SG} {p : Nat → Nat} {L : List Nat} {i : Int32} (hL : LCl h.kd h.gl h.fr h.ar g σ.n p L) (R0 : CRr σ h.fi h.fr g p) (W : WF σ) : Con G 1 0 0 yX6_order cX6_order 4 (some .int) [rv g, .int i] h (PI (fun v h' => ordV σ i = v ∧ h = h')) := by
  refine Con.of (lv := [some (rv g), some (.int i), none, none]) (by decide) (by simp only [lvE_r, lvE_i, lvE_l, lvE_s, lvE_0]; rfl) (by simp only [lgl_r, lgl_i, lgl_l, lgl_s, lgl_0]; decide) (fun Γ C R => ?_)
  generalize hPP : (PI (fun v h' => ordV σ i = v ∧ h = h')) = PP
  have r10 := W.n10
  refine r_iconst (q := 1) (z := 0) (v := 0) C rfl (by decide +kernel) (by decide) ?_
  refine r_istore_n (q := 2) (z := 2) C 2 rfl (by decide +kernel) rfl (by decide) (by first | rfl | exact okst_rv rfl) ?_
  dsimp only [List.set]
  refine r_iconst (q := 3) (z := 0) (v := 0) C rfl (by decide +kernel) (by decide) ?_
  refine r_istore_n (q := 4) (z := 3) C 3 rfl (by decide +kernel) rfl (by decide) (by first | rfl | exact okst_rv rfl) ?_
  dsimp only [List.set]
  have L4 : ∀ (fuel4 : Nat) (k : Nat), σ.n - k < fuel4 → (k ≤ σ.n) → (∀ r, r < k → ¬ ordP σ i r) → wX G Γ (qM G Γ PP 0 0) 0 0 (h) 4 [some (rv g), some (.int i), some (.int (nI (lyN σ k))), some (.int (nI k))] [] := by
    intro fuel4
    induction fuel4 with
    | zero =>
      intro k hm4
      exact absurd hm4 (Nat.not_lt_zero _)
    | succ fuel4 ih4 =>
      intro k hm4 hk hno
      refine r_iload_n (q := 5) (z := 3) C 3 rfl (by decide +kernel) rfl rfl ?_
      refine r_aload_n (q := 6) (z := 0) C 0 rfl (by decide +kernel) rfl rfl ?_
      refine r_getI (q := 9) C 6 3 387 rfl (by decide +kernel) rfl (by decide) rfl rfl wf_X6_25 win6 hL.kf ?_
      rw [R0.1]
      refine r_icmp_ge (q := 12) (off := 31) (tgt := 40) C rfl (by decide +kernel) (by decide) (fun c9 => ?_) (fun c9 => ?_)
      · have ek : k = σ.n := by have := (nI_leI (by omega) (by omega)).mp c9; omega
        subst ek
        refine r_iconst (q := 41) (z := (-1)) (v := (-1)) C rfl (by decide +kernel) (by decide) ?_
        exact r_iret C (by decide +kernel) rfl (by decide) (by decide) (eqP hPP ⟨_, rfl, ⟨ordV_n (fun r e => hno r e.1 e), rfl⟩⟩)
      · have hlt : k < σ.n := Nat.lt_of_not_le (fun e => c9 (nI_le e (by omega)))
        refine r_aload_n (q := 13) (z := 0) C 0 rfl (by decide +kernel) rfl rfl ?_
        refine r_getR (q := 16) C 6 1 385 rfl (by decide +kernel) rfl (by decide) rfl rfl wf_X6_18 win6 hL.kf ?_
        refine r_iload_n (q := 17) (z := 3) C 3 rfl (by decide +kernel) rfl rfl ?_
        refine r_aald (q := 18) C rfl (by decide +kernel) hL.k385 (vp_in_nI (by omega) (by decide)) ?_
        rw [nI_clamp (by omega), hL.ap hlt]
        refine r_getI (q := 21) C 3 7 199 rfl (by decide +kernel) rfl (by decide) rfl rfl wf_X6_122 win3 (hL.kp hlt) ?_
        rw [R0.lie hlt]
        refine r_if_eq (q := 24) (off := 13) (tgt := 34) C rfl (by decide +kernel) (by decide) (fun c21 => ?_) (fun c21 => ?_)
        · have hl := of_decide_eq_false ((b2i_0 _).mp c21)
          rw [← lyN_n hl]
          have hno2 : ∀ r, r < k + 1 → ¬ ordP σ i r := fun r hr e => by
            by_cases er : r = k
            · subst er; exact hl e.2.1
            · exact hno r (by omega) e
          refine r_iinc (q := 37) (z := 1) (v := 1) C 3 rfl (by decide +kernel) rfl (by decide) (by decide) (by first | rfl | exact okst_rv rfl) ?_
          dsimp only [List.set]
          rw [nI_1]
          refine r_goto (off := -33) (tgt := 4) C (by decide +kernel) (by decide) ?_
          exact ih4 (k + 1) (by omega) (by omega) hno2
        · have hl := of_decide_eq_true ((b2i_n0 _).mp c21)
          refine r_iload_n (q := 25) (z := 2) C 2 rfl (by decide +kernel) rfl rfl ?_
          refine r_iload_n (q := 26) (z := 1) C 1 rfl (by decide +kernel) rfl rfl ?_
          refine r_icmp_ne (q := 29) (off := 5) (tgt := 31) C rfl (by decide +kernel) (by decide) (fun c26 => ?_) (fun c26 => ?_)
          · have hno2 : ∀ r, r < k + 1 → ¬ ordP σ i r := fun r hr e => by
              by_cases er : r = k
              · subst er; exact c26 e.2.2.symm
              · exact hno r (by omega) e
            refine r_iinc (q := 34) (z := 1) (v := 1) C 2 rfl (by decide +kernel) rfl (by decide) (by decide) (by first | rfl | exact okst_rv rfl) ?_
            dsimp only [List.set]
            rw [nI_1, ← lyN_y hl]
            refine r_iinc (q := 37) (z := 1) (v := 1) C 3 rfl (by decide +kernel) rfl (by decide) (by decide) (by first | rfl | exact okst_rv rfl) ?_
            dsimp only [List.set]
            rw [nI_1]
            refine r_goto (off := -33) (tgt := 4) C (by decide +kernel) (by decide) ?_
            exact ih4 (k + 1) (by omega) (by omega) hno2
          · have hy : ordP σ i k := ⟨hlt, hl, c26.symm⟩
            refine r_iload_n (q := 30) (z := 3) C 3 rfl (by decide +kernel) rfl rfl ?_
            exact r_iret C (by decide +kernel) rfl (by decide) (by decide) (eqP hPP ⟨_, rfl, ⟨ordV_y r10 hy, rfl⟩⟩)
  exact L4 (σ.n + 1) 0 (by omega) (by omega) (fun r hr => absurd hr (Nat.not_lt_zero r))
theorem c_X6_sick {G : GT} {h : HP} {g : Nat} {σ : SG} {p : Nat → Nat} {L : List Nat} {x : Int32} (hL : LCl h.kd h.gl h.fr h.ar g σ.n p L) (R0 : CRr σ h.fi h.fr g p) (Rc : CRc σ h g) (W : WF σ) : Con G 3 0 0 yX6_sick cX6_sick 3 (some .boolean) [rv g, .int x] h (PI (fun v h' => cif ((0 ≤ x ∧ x < nI σ.n) ∧ σ.sk x.toNatClampNeg = false ∧ ¬ σ.li x.toNatClampNeg < 240) 1 0 = v ∧ CRr (cif ((0 ≤ x ∧ x < nI σ.n) ∧ σ.sk x.toNatClampNeg = false ∧ ¬ σ.li x.toNatClampNeg < 240) (σ.sk_ (upN σ.sk x.toNatClampNeg true)) σ) h'.fi h'.fr g p ∧ CRc (cif ((0 ≤ x ∧ x < nI σ.n) ∧ σ.sk x.toNatClampNeg = false ∧ ¬ σ.li x.toNatClampNeg < 240) (σ.sk_ (upN σ.sk x.toNatClampNeg true)) σ) h' g ∧ Fm [] [200] h h')) := by
  refine Con.of (lv := [some (rv g), some (.int x), none]) (by decide) (by simp only [lvE_r, lvE_i, lvE_l, lvE_s, lvE_0]; rfl) (by simp only [lgl_r, lgl_i, lgl_l, lgl_s, lgl_0]; decide) (fun Γ C R => ?_)
  generalize hPP : (PI (fun v h' => cif ((0 ≤ x ∧ x < nI σ.n) ∧ σ.sk x.toNatClampNeg = false ∧ ¬ σ.li x.toNatClampNeg < 240) 1 0 = v ∧ CRr (cif ((0 ≤ x ∧ x < nI σ.n) ∧ σ.sk x.toNatClampNeg = false ∧ ¬ σ.li x.toNatClampNeg < 240) (σ.sk_ (upN σ.sk x.toNatClampNeg true)) σ) h'.fi h'.fr g p ∧ CRc (cif ((0 ≤ x ∧ x < nI σ.n) ∧ σ.sk x.toNatClampNeg = false ∧ ¬ σ.li x.toNatClampNeg < 240) (σ.sk_ (upN σ.sk x.toNatClampNeg true)) σ) h' g ∧ Fm [] [200] h h')) = PP
  have r10 := W.n10
  refine r_aload_n (q := 1) (z := 0) C 0 rfl (by decide +kernel) rfl rfl ?_
  refine r_iload_n (q := 2) (z := 1) C 1 rfl (by decide +kernel) rfl rfl ?_
  refine cV1R (q := 5) C R rfl (by decide +kernel) lk_X6_118 (c_X6_find hL R0 r10) (by decide) (by decide) (by decide) rfl (by first | exact Nat.le_of_ble_eq_true rfl | (simp only [List.map_cons, List.map_nil, List.sum_cons, List.sum_nil, rv_cat]; exact Nat.le_of_ble_eq_true rfl)) rfl hL.kf ?_
  rintro _ _ ⟨rfl, rfl⟩
  refine wX_k0 C (fun hk0 => ?_)
  refine r_astore_n (q := 6) (z := 2) C 2 rfl (by decide +kernel) rfl (by decide) (by first | rfl | exact okst_rv rfl) ?_
  dsimp only [List.set]
  refine r_aload_n (q := 7) (z := 2) C 2 rfl (by decide +kernel) rfl rfl ?_
  refine r_ifnull (q := 10) (off := 17) (tgt := 24) C rfl (by decide +kernel) (by decide) (fun c7 => ?_) (fun c7 => ?_)
  · have hno : ¬ (0 ≤ x ∧ x < nI σ.n) := (rdA_0 hL hk0 r10).mp c7
    have hn : ¬ ((0 ≤ x ∧ x < nI σ.n) ∧ σ.sk x.toNatClampNeg = false ∧ ¬ σ.li x.toNatClampNeg < 240) := fun e => hno e.1
    refine r_iconst (q := 25) (z := 0) (v := 0) C rfl (by decide +kernel) (by decide) ?_
    exact r_zret C (by decide +kernel) rfl (by first | decide | exact b2i_nar _) (by decide) (by decide) (eqP hPP ⟨_, rfl, (by
          rw [cif_f hn, cif_f hn]
          exact ⟨rfl, R0, Rc, Fm.rf⟩)⟩)
  · have hyr : 0 ≤ x ∧ x < nI σ.n := Classical.not_not.mp (mt (rdA_0 hL hk0 r10).mpr c7)
    obtain ⟨r, hlt, rfl⟩ := ride_of r10 hyr
    rw [rdA_in r10 hlt]
    refine r_aload_n (q := 11) (z := 2) C 2 rfl (by decide +kernel) rfl rfl ?_
    refine r_getI (q := 14) C 3 8 200 rfl (by decide +kernel) rfl (by decide) rfl rfl wf_X6_156 win3 (hL.kp hlt) ?_
    rw [R0.sk hlt]
    refine r_if_ne (q := 17) (off := 10) (tgt := 24) C rfl (by decide +kernel) (by decide) (fun c14 => ?_) (fun c14 => ?_)
    · have hn : ¬ ((0 ≤ nI r ∧ nI r < nI σ.n) ∧ σ.sk (nI r).toNatClampNeg = false ∧ ¬ σ.li (nI r).toNatClampNeg < 240) := fun e => by have h9 := e.2.1; rw [nI_clamp (by omega), (b2i_n0 _).mp c14] at h9; cases h9
      refine r_iconst (q := 25) (z := 0) (v := 0) C rfl (by decide +kernel) (by decide) ?_
      exact r_zret C (by decide +kernel) rfl (by first | decide | exact b2i_nar _) (by decide) (by decide) (eqP hPP ⟨_, rfl, (by
            rw [cif_f hn, cif_f hn]
            exact ⟨rfl, R0, Rc, Fm.rf⟩)⟩)
    · have hsk := (b2i_0 _).mp c14
      refine r_aload_n (q := 18) (z := 2) C 2 rfl (by decide +kernel) rfl rfl ?_
      refine r_getI (q := 21) C 3 7 199 rfl (by decide +kernel) rfl (by decide) rfl rfl wf_X6_122 win3 (hL.kp hlt) ?_
      rw [R0.lie hlt]
      refine r_if_eq (q := 24) (off := 5) (tgt := 26) C rfl (by decide +kernel) (by decide) (fun c21 => ?_) (fun c21 => ?_)
      · have hy : (0 ≤ nI r ∧ nI r < nI σ.n) ∧ σ.sk (nI r).toNatClampNeg = false ∧ ¬ σ.li (nI r).toNatClampNeg < 240 := ⟨hyr, by rw [nI_clamp (by omega)]; exact hsk, by rw [nI_clamp (by omega)]; exact of_decide_eq_false ((b2i_0 _).mp c21)⟩
        refine r_aload_n (q := 27) (z := 2) C 2 rfl (by decide +kernel) rfl rfl ?_
        refine r_iconst (q := 28) (z := 1) (v := 1) C rfl (by decide +kernel) (by decide) ?_
        refine r_putI (q := 31) C 3 8 200 rfl (by decide +kernel) rfl (by decide) rfl rfl wf_X6_156 win3 tyX3 tyX3_ok nmX3 rfl (tyX3_ok 8 (by decide)) rfl wnd3 (by decide) (by decide) (hL.kp hlt) ?_
        refine r_iconst (q := 32) (z := 1) (v := 1) C rfl (by decide +kernel) (by decide) ?_
        exact r_zret C (by decide +kernel) rfl (by first | decide | exact b2i_nar _) (by decide) (by decide) (eqP hPP ⟨_, rfl, (by
              rw [cif_t hy, cif_t hy, nI_clamp (by omega)]
              exact ⟨rfl, CRr.sick hL R0 hlt, fun c hc => (Rc c hc).trans (cell_sk _ _ _).symm, Fm.rf.setI (by decide)⟩)⟩)
      · have hn : ¬ ((0 ≤ nI r ∧ nI r < nI σ.n) ∧ σ.sk (nI r).toNatClampNeg = false ∧ ¬ σ.li (nI r).toNatClampNeg < 240) := fun e => e.2.2 (by rw [nI_clamp (by omega)]; exact of_decide_eq_true ((b2i_n0 _).mp c21))
        refine r_iconst (q := 25) (z := 0) (v := 0) C rfl (by decide +kernel) (by decide) ?_
        exact r_zret C (by decide +kernel) rfl (by first | decide | exact b2i_nar _) (by decide) (by decide) (eqP hPP ⟨_, rfl, (by
              rw [cif_f hn, cif_f hn]
              exact ⟨rfl, R0, Rc, Fm.rf⟩)⟩)
theorem c_X6_bears {G : GT} {h : HP} {g n : Nat} {p : Nat → Nat} {L : List Nat} {be sh : Nat → Nat} {ra : Nat} {x q : Int32} (hL : LCl h.kd h.gl h.fr h.ar g n p L) (Mb : CBm be sh ra h g) : Con G 2 0 0 yX6_bears cX6_bears 3 (some .boolean) [rv g, .int x, .int q] h (PI (fun v h' => cif (beP x q) 1 0 = v ∧ CBm (cif (beP x q) (upN be x.toNatClampNeg q.toNatClampNeg) be) sh ra h' g ∧ Fm [395] [] h h')) := by
  refine Con.of (lv := [some (rv g), some (.int x), some (.int q)]) (by decide) (by simp only [lvE_r, lvE_i, lvE_l, lvE_s, lvE_0]; rfl) (by simp only [lgl_r, lgl_i, lgl_l, lgl_s, lgl_0]; decide) (fun Γ C R => ?_)
  generalize hPP : (PI (fun v h' => cif (beP x q) 1 0 = v ∧ CBm (cif (beP x q) (upN be x.toNatClampNeg q.toNatClampNeg) be) sh ra h' g ∧ Fm [395] [] h h')) = PP
  refine r_iload_n (q := 1) (z := 1) C 1 rfl (by decide +kernel) rfl rfl ?_
  refine r_iconst (q := 2) (z := 0) (v := 0) C rfl (by decide +kernel) (by decide) ?_
  refine r_iconst (q := 3) (z := 2) (v := 2) C rfl (by decide +kernel) (by decide) ?_
  refine cS3I (q := 6) C R rfl (by decide +kernel) lk_X6_105 (c_X6_isWithin ) (by decide) (by decide) (by decide) rfl (by first | exact Nat.le_of_ble_eq_true rfl | (simp only [List.map_cons, List.map_nil, List.sum_cons, List.sum_nil, rv_cat]; exact Nat.le_of_ble_eq_true rfl))  ?_
  rintro _ _ ⟨rfl, rfl⟩
  refine r_if_eq (q := 9) (off := 14) (tgt := 20) C rfl (by decide +kernel) (by decide) (fun c6 => ?_) (fun c6 => ?_)
  · have c6 := of_decide_eq_false ((b2i_0 _).mp c6)
    have hn : ¬ beP x q := fun e => c6 e.1
    refine r_iconst (q := 21) (z := 0) (v := 0) C rfl (by decide +kernel) (by decide) ?_
    exact r_zret C (by decide +kernel) rfl (by first | decide | exact b2i_nar _) (by decide) (by decide) (eqP hPP ⟨_, rfl, (by
          rw [cif_f hn, cif_f hn]
          exact ⟨rfl, Mb, Fm.rf⟩)⟩)
  · have c6 := of_decide_eq_true ((b2i_n0 _).mp c6)
    refine r_iload_n (q := 10) (z := 2) C 2 rfl (by decide +kernel) rfl rfl ?_
    refine r_iconst (q := 11) (z := 0) (v := 0) C rfl (by decide +kernel) (by decide) ?_
    refine r_sipush (q := 14) (z := 1000) (v := 1000) C rfl (by decide +kernel) (by decide) ?_
    refine cS3I (q := 17) C R rfl (by decide +kernel) lk_X6_105 (c_X6_isWithin ) (by decide) (by decide) (by decide) rfl (by first | exact Nat.le_of_ble_eq_true rfl | (simp only [List.map_cons, List.map_nil, List.sum_cons, List.sum_nil, rv_cat]; exact Nat.le_of_ble_eq_true rfl))  ?_
    rintro _ _ ⟨rfl, rfl⟩
    refine r_if_ne (q := 20) (off := 5) (tgt := 22) C rfl (by decide +kernel) (by decide) (fun c17 => ?_) (fun c17 => ?_)
    · have c17 := of_decide_eq_true ((b2i_n0 _).mp c17)
      have hy : beP x q := ⟨c6, c17⟩
      obtain ⟨x1, x2, x3⟩ := nI_rng2 (a := 0) (b := 2) (by decide) hy.1.1 hy.1.2 (by decide)
      obtain ⟨p1, p2, p3⟩ := nI_rng2 (a := 0) (b := 1000) (by decide) hy.2.1 hy.2.2 (by decide)
      refine r_aload_n (q := 23) (z := 0) C 0 rfl (by decide +kernel) rfl rfl ?_
      refine r_getR (q := 26) C 6 11 395 rfl (by decide +kernel) rfl (by decide) rfl rfl wf_X6_67 win6 hL.kf ?_
      refine r_iload_n (q := 27) (z := 1) C 1 rfl (by decide +kernel) rfl rfl ?_
      refine r_iload_n (q := 28) (z := 2) C 2 rfl (by decide +kernel) rfl rfl ?_
      refine r_iast (q := 29) C rfl (by decide +kernel) rfl hL.k395 (by rw [x3]; exact vp_in_nI (by omega) (by decide)) ?_
      rw [stI_row]
      refine r_iconst (q := 30) (z := 1) (v := 1) C rfl (by decide +kernel) (by decide) ?_
      exact r_zret C (by decide +kernel) rfl (by first | decide | exact b2i_nar _) (by decide) (by decide) (eqP hPP ⟨_, rfl, (by
            rw [cif_t hy, cif_t hy]
            exact ⟨rfl, CBm.be_up hL Mb p3 p2, Fm.row Fm.rf (by rw [hL.g395]; decide)⟩)⟩)
    · have c17 := of_decide_eq_false ((b2i_0 _).mp c17)
      have hn : ¬ beP x q := fun e => c17 e.2
      refine r_iconst (q := 21) (z := 0) (v := 0) C rfl (by decide +kernel) (by decide) ?_
      exact r_zret C (by decide +kernel) rfl (by first | decide | exact b2i_nar _) (by decide) (by decide) (eqP hPP ⟨_, rfl, (by
            rw [cif_f hn, cif_f hn]
            exact ⟨rfl, Mb, Fm.rf⟩)⟩)
theorem c_X6_share {G : GT} {h : HP} {g n : Nat} {p : Nat → Nat} {L : List Nat} {be sh : Nat → Nat} {ra : Nat} {x q : Int32} (hL : LCl h.kd h.gl h.fr h.ar g n p L) (Mb : CBm be sh ra h g) : Con G 2 0 0 yX6_share cX6_share 3 (some .boolean) [rv g, .int x, .int q] h (PI (fun v h' => cif (shP x q) 1 0 = v ∧ CBm be (cif (shP x q) (upN sh x.toNatClampNeg q.toNatClampNeg) sh) ra h' g ∧ Fm [396] [] h h')) := by
  refine Con.of (lv := [some (rv g), some (.int x), some (.int q)]) (by decide) (by simp only [lvE_r, lvE_i, lvE_l, lvE_s, lvE_0]; rfl) (by simp only [lgl_r, lgl_i, lgl_l, lgl_s, lgl_0]; decide) (fun Γ C R => ?_)
  generalize hPP : (PI (fun v h' => cif (shP x q) 1 0 = v ∧ CBm be (cif (shP x q) (upN sh x.toNatClampNeg q.toNatClampNeg) sh) ra h' g ∧ Fm [396] [] h h')) = PP
  refine r_iload_n (q := 1) (z := 1) C 1 rfl (by decide +kernel) rfl rfl ?_
  refine r_iconst (q := 2) (z := 0) (v := 0) C rfl (by decide +kernel) (by decide) ?_
  refine r_iconst (q := 3) (z := 2) (v := 2) C rfl (by decide +kernel) (by decide) ?_
  refine cS3I (q := 6) C R rfl (by decide +kernel) lk_X6_105 (c_X6_isWithin ) (by decide) (by decide) (by decide) rfl (by first | exact Nat.le_of_ble_eq_true rfl | (simp only [List.map_cons, List.map_nil, List.sum_cons, List.sum_nil, rv_cat]; exact Nat.le_of_ble_eq_true rfl))  ?_
  rintro _ _ ⟨rfl, rfl⟩
  refine r_if_eq (q := 9) (off := 14) (tgt := 20) C rfl (by decide +kernel) (by decide) (fun c6 => ?_) (fun c6 => ?_)
  · have c6 := of_decide_eq_false ((b2i_0 _).mp c6)
    have hn : ¬ shP x q := fun e => c6 e.1
    refine r_iconst (q := 21) (z := 0) (v := 0) C rfl (by decide +kernel) (by decide) ?_
    exact r_zret C (by decide +kernel) rfl (by first | decide | exact b2i_nar _) (by decide) (by decide) (eqP hPP ⟨_, rfl, (by
          rw [cif_f hn, cif_f hn]
          exact ⟨rfl, Mb, Fm.rf⟩)⟩)
  · have c6 := of_decide_eq_true ((b2i_n0 _).mp c6)
    refine r_iload_n (q := 10) (z := 2) C 2 rfl (by decide +kernel) rfl rfl ?_
    refine r_iconst (q := 11) (z := 1) (v := 1) C rfl (by decide +kernel) (by decide) ?_
    refine r_sipush (q := 14) (z := 1000) (v := 1000) C rfl (by decide +kernel) (by decide) ?_
    refine cS3I (q := 17) C R rfl (by decide +kernel) lk_X6_105 (c_X6_isWithin ) (by decide) (by decide) (by decide) rfl (by first | exact Nat.le_of_ble_eq_true rfl | (simp only [List.map_cons, List.map_nil, List.sum_cons, List.sum_nil, rv_cat]; exact Nat.le_of_ble_eq_true rfl))  ?_
    rintro _ _ ⟨rfl, rfl⟩
    refine r_if_ne (q := 20) (off := 5) (tgt := 22) C rfl (by decide +kernel) (by decide) (fun c17 => ?_) (fun c17 => ?_)
    · have c17 := of_decide_eq_true ((b2i_n0 _).mp c17)
      have hy : shP x q := ⟨c6, c17⟩
      obtain ⟨x1, x2, x3⟩ := nI_rng2 (a := 0) (b := 2) (by decide) hy.1.1 hy.1.2 (by decide)
      obtain ⟨p1, p2, p3⟩ := nI_rng2 (a := 1) (b := 1000) (by decide) hy.2.1 hy.2.2 (by decide)
      refine r_aload_n (q := 23) (z := 0) C 0 rfl (by decide +kernel) rfl rfl ?_
      refine r_getR (q := 26) C 6 12 396 rfl (by decide +kernel) rfl (by decide) rfl rfl wf_X6_70 win6 hL.kf ?_
      refine r_iload_n (q := 27) (z := 1) C 1 rfl (by decide +kernel) rfl rfl ?_
      refine r_iload_n (q := 28) (z := 2) C 2 rfl (by decide +kernel) rfl rfl ?_
      refine r_iast (q := 29) C rfl (by decide +kernel) rfl hL.k396 (by rw [x3]; exact vp_in_nI (by omega) (by decide)) ?_
      rw [stI_row]
      refine r_iconst (q := 30) (z := 1) (v := 1) C rfl (by decide +kernel) (by decide) ?_
      exact r_zret C (by decide +kernel) rfl (by first | decide | exact b2i_nar _) (by decide) (by decide) (eqP hPP ⟨_, rfl, (by
            rw [cif_t hy, cif_t hy]
            exact ⟨rfl, CBm.sh_up hL Mb p3 ⟨p1, p2⟩, Fm.row Fm.rf (by rw [hL.g396]; decide)⟩)⟩)
    · have c17 := of_decide_eq_false ((b2i_0 _).mp c17)
      have hn : ¬ shP x q := fun e => c17 e.2
      refine r_iconst (q := 21) (z := 0) (v := 0) C rfl (by decide +kernel) (by decide) ?_
      exact r_zret C (by decide +kernel) rfl (by first | decide | exact b2i_nar _) (by decide) (by decide) (eqP hPP ⟨_, rfl, (by
            rw [cif_f hn, cif_f hn]
            exact ⟨rfl, Mb, Fm.rf⟩)⟩)
theorem c_X6_rate {G : GT} {h : HP} {g n : Nat} {p : Nat → Nat} {L : List Nat} {be sh : Nat → Nat} {ra : Nat} {q : Int32} (hL : LCl h.kd h.gl h.fr h.ar g n p L) (Mb : CBm be sh ra h g) : Con G 2 0 0 yX6_rate cX6_rate 2 (some .boolean) [rv g, .int q] h (PI (fun v h' => cif (0 ≤ q ∧ q ≤ 1000) 1 0 = v ∧ CBm be sh (cif (0 ≤ q ∧ q ≤ 1000) q.toNatClampNeg ra) h' g ∧ Fm [] [397] h h')) := by
  refine Con.of (lv := [some (rv g), some (.int q)]) (by decide) (by simp only [lvE_r, lvE_i, lvE_l, lvE_s, lvE_0]; rfl) (by simp only [lgl_r, lgl_i, lgl_l, lgl_s, lgl_0]; decide) (fun Γ C R => ?_)
  generalize hPP : (PI (fun v h' => cif (0 ≤ q ∧ q ≤ 1000) 1 0 = v ∧ CBm be sh (cif (0 ≤ q ∧ q ≤ 1000) q.toNatClampNeg ra) h' g ∧ Fm [] [397] h h')) = PP
  refine r_iload_n (q := 1) (z := 1) C 1 rfl (by decide +kernel) rfl rfl ?_
  refine r_iconst (q := 2) (z := 0) (v := 0) C rfl (by decide +kernel) (by decide) ?_
  refine r_sipush (q := 5) (z := 1000) (v := 1000) C rfl (by decide +kernel) (by decide) ?_
  refine cS3I (q := 8) C R rfl (by decide +kernel) lk_X6_105 (c_X6_isWithin ) (by decide) (by decide) (by decide) rfl (by first | exact Nat.le_of_ble_eq_true rfl | (simp only [List.map_cons, List.map_nil, List.sum_cons, List.sum_nil, rv_cat]; exact Nat.le_of_ble_eq_true rfl))  ?_
  rintro _ _ ⟨rfl, rfl⟩
  refine r_if_ne (q := 11) (off := 5) (tgt := 13) C rfl (by decide +kernel) (by decide) (fun c8 => ?_) (fun c8 => ?_)
  · have c8 := of_decide_eq_true ((b2i_n0 _).mp c8)
    obtain ⟨p1, p2, p3⟩ := nI_rng2 (a := 0) (b := 1000) (by decide) c8.1 c8.2 (by decide)
    refine r_aload_n (q := 14) (z := 0) C 0 rfl (by decide +kernel) rfl rfl ?_
    refine r_iload_n (q := 15) (z := 1) C 1 rfl (by decide +kernel) rfl rfl ?_
    refine r_putI (q := 18) C 6 13 397 rfl (by decide +kernel) rfl (by decide) rfl rfl wf_X6_73 win6 tyX6 tyX6_ok nmX6 rfl (tyX6_ok 13 (by decide)) rfl wnd6 rfl rfl hL.kf ?_
    refine r_iconst (q := 19) (z := 1) (v := 1) C rfl (by decide +kernel) (by decide) ?_
    exact r_zret C (by decide +kernel) rfl (by first | decide | exact b2i_nar _) (by decide) (by decide) (eqP hPP ⟨_, rfl, (by
          rw [cif_t c8, cif_t c8]
          exact ⟨rfl, ⟨Mb.1, Mb.2.1, fi_eq.trans p3, p2⟩, Fm.rf.setI (by decide)⟩)⟩)
  · have c8 := of_decide_eq_false ((b2i_0 _).mp c8)
    refine r_iconst (q := 12) (z := 0) (v := 0) C rfl (by decide +kernel) (by decide) ?_
    exact r_zret C (by decide +kernel) rfl (by first | decide | exact b2i_nar _) (by decide) (by decide) (eqP hPP ⟨_, rfl, (by
          rw [cif_f c8, cif_f c8]
          exact ⟨rfl, Mb, Fm.rf⟩)⟩)
theorem c_X6_allRents {G : GT} {h : HP} {g : Nat} {σ : SG} {p : Nat → Nat} {L : List Nat} {be sh : Nat → Nat} {ra : Nat} (hL : LCl h.kd h.gl h.fr h.ar g σ.n p L) (R0 : CRr σ h.fi h.fr g p) (W : WF σ) (Mb : CBm be sh ra h g) : Con G 2 0 0 yX6_allRents cX6_allRents 3 (some .int) [rv g] h (PI (fun v h' => nI (rentN σ ra σ.n) = v ∧ h = h')) := by
  refine Con.of (lv := [some (rv g), none, none]) (by decide) (by simp only [lvE_r, lvE_i, lvE_l, lvE_s, lvE_0]; rfl) (by simp only [lgl_r, lgl_i, lgl_l, lgl_s, lgl_0]; decide) (fun Γ C R => ?_)
  generalize hPP : (PI (fun v h' => nI (rentN σ ra σ.n) = v ∧ h = h')) = PP
  have r10 := W.n10
  refine r_iconst (q := 1) (z := 0) (v := 0) C rfl (by decide +kernel) (by decide) ?_
  refine r_istore_n (q := 2) (z := 1) C 1 rfl (by decide +kernel) rfl (by decide) (by first | rfl | exact okst_rv rfl) ?_
  dsimp only [List.set]
  refine r_iconst (q := 3) (z := 0) (v := 0) C rfl (by decide +kernel) (by decide) ?_
  refine r_istore_n (q := 4) (z := 2) C 2 rfl (by decide +kernel) rfl (by decide) (by first | rfl | exact okst_rv rfl) ?_
  dsimp only [List.set]
  have L4 : ∀ (fuel4 : Nat) (k : Nat), σ.n - k < fuel4 → (k ≤ σ.n) → wX G Γ (qM G Γ PP 0 0) 0 0 (h) 4 [some (rv g), some (.int (nI (rentN σ ra k))), some (.int (nI k))] [] := by
    intro fuel4
    induction fuel4 with
    | zero =>
      intro k hm4
      exact absurd hm4 (Nat.not_lt_zero _)
    | succ fuel4 ih4 =>
      intro k hm4 hk
      refine r_iload_n (q := 5) (z := 2) C 2 rfl (by decide +kernel) rfl rfl ?_
      refine r_aload_n (q := 6) (z := 0) C 0 rfl (by decide +kernel) rfl rfl ?_
      refine r_getI (q := 9) C 6 3 387 rfl (by decide +kernel) rfl (by decide) rfl rfl wf_X6_25 win6 hL.kf ?_
      rw [R0.1]
      refine r_icmp_ge (q := 12) (off := 38) (tgt := 47) C rfl (by decide +kernel) (by decide) (fun c9 => ?_) (fun c9 => ?_)
      · have ek : k = σ.n := by have := (nI_leI (by omega) (by omega)).mp c9; omega
        subst ek
        refine r_iload_n (q := 48) (z := 1) C 1 rfl (by decide +kernel) rfl rfl ?_
        exact r_iret C (by decide +kernel) rfl (by decide) (by decide) (eqP hPP ⟨_, rfl, ⟨rfl, rfl⟩⟩)
      · have hlt : k < σ.n := Nat.lt_of_not_le (fun e => c9 (nI_le e (by omega)))
        refine r_aload_n (q := 13) (z := 0) C 0 rfl (by decide +kernel) rfl rfl ?_
        refine r_getR (q := 16) C 6 1 385 rfl (by decide +kernel) rfl (by decide) rfl rfl wf_X6_18 win6 hL.kf ?_
        refine r_iload_n (q := 17) (z := 2) C 2 rfl (by decide +kernel) rfl rfl ?_
        refine r_aald (q := 18) C rfl (by decide +kernel) hL.k385 (vp_in_nI (by omega) (by decide)) ?_
        rw [nI_clamp (by omega), hL.ap hlt]
        refine r_getI (q := 21) C 3 7 199 rfl (by decide +kernel) rfl (by decide) rfl rfl wf_X6_122 win3 (hL.kp hlt) ?_
        rw [R0.lie hlt]
        refine r_if_eq (q := 24) (off := 20) (tgt := 41) C rfl (by decide +kernel) (by decide) (fun c21 => ?_) (fun c21 => ?_)
        · rw [show rentN σ ra k = rentN σ ra (k + 1) by rw [rentN, if_neg (of_decide_eq_false ((b2i_0 _).mp c21)), Nat.add_zero]]
          refine r_iinc (q := 44) (z := 1) (v := 1) C 2 rfl (by decide +kernel) rfl (by decide) (by decide) (by first | rfl | exact okst_rv rfl) ?_
          dsimp only [List.set]
          rw [nI_1]
          refine r_goto (off := -40) (tgt := 4) C (by decide +kernel) (by decide) ?_
          exact ih4 (k + 1) (by omega) (by omega)
        · refine r_iload_n (q := 25) (z := 1) C 1 rfl (by decide +kernel) rfl rfl ?_
          refine r_aload_n (q := 26) (z := 0) C 0 rfl (by decide +kernel) rfl rfl ?_
          refine r_getR (q := 29) C 6 1 385 rfl (by decide +kernel) rfl (by decide) rfl rfl wf_X6_18 win6 hL.kf ?_
          refine r_iload_n (q := 30) (z := 2) C 2 rfl (by decide +kernel) rfl rfl ?_
          refine r_aald (q := 31) C rfl (by decide +kernel) hL.k385 (vp_in_nI (by omega) (by decide)) ?_
          rw [nI_clamp (by omega), hL.ap hlt]
          refine cV0I (q := 34) C R rfl (by decide +kernel) lk_X6_287 (c_X3_area (hL.kp hlt)) (by decide) (by decide) (by decide) rfl (by first | exact Nat.le_of_ble_eq_true rfl | (simp only [List.map_cons, List.map_nil, List.sum_cons, List.sum_nil, rv_cat]; exact Nat.le_of_ble_eq_true rfl)) rfl (hL.kp hlt) ?_
          rintro _ _ ⟨rfl, rfl⟩
          rw [R0.wd hlt, R0.hg hlt, pk_mul]
          refine r_aload_n (q := 35) (z := 0) C 0 rfl (by decide +kernel) rfl rfl ?_
          refine r_getI (q := 38) C 6 13 397 rfl (by decide +kernel) rfl (by decide) rfl rfl wf_X6_73 win6 hL.kf ?_
          rw [Mb.2.2.1]
          refine r_imul (q := 39) C rfl (by decide +kernel) ?_
          rw [pk_mul]
          refine r_iadd (q := 40) C rfl (by decide +kernel) ?_
          rw [nI_add, show rentN σ ra k + σ.wd k * σ.hg k * ra = rentN σ ra (k + 1) by rw [rentN, if_pos (of_decide_eq_true ((b2i_n0 _).mp c21))]]
          refine r_istore_n (q := 41) (z := 1) C 1 rfl (by decide +kernel) rfl (by decide) (by first | rfl | exact okst_rv rfl) ?_
          dsimp only [List.set]
          refine r_iinc (q := 44) (z := 1) (v := 1) C 2 rfl (by decide +kernel) rfl (by decide) (by decide) (by first | rfl | exact okst_rv rfl) ?_
          dsimp only [List.set]
          rw [nI_1]
          refine r_goto (off := -40) (tgt := 4) C (by decide +kernel) (by decide) ?_
          exact ih4 (k + 1) (by omega) (by omega)
  exact L4 (σ.n + 1) 0 (by omega) (by omega)
theorem c_X6_powerWanted {G : GT} {h : HP} {g : Nat} {σ : SG} {p : Nat → Nat} {L : List Nat} {l : Nat} (hL : LCl h.kd h.gl h.fr h.ar g σ.n p L) (R0 : CRr σ h.fi h.fr g p) (W : WF σ) (hl3 : l < 3) : Con G 3 0 0 yX6_powerWanted cX6_powerWanted 4 (some .int) [rv g, .int (nI l)] h (PI (fun v h' => nI (sumP σ (σ.on l) σ.n) = v ∧ h = h')) := by
  refine Con.of (lv := [some (rv g), some (.int (nI l)), none, none]) (by decide) (by simp only [lvE_r, lvE_i, lvE_l, lvE_s, lvE_0]; rfl) (by simp only [lgl_r, lgl_i, lgl_l, lgl_s, lgl_0]; decide) (fun Γ C R => ?_)
  generalize hPP : (PI (fun v h' => nI (sumP σ (σ.on l) σ.n) = v ∧ h = h')) = PP
  have r10 := W.n10
  refine r_iconst (q := 1) (z := 0) (v := 0) C rfl (by decide +kernel) (by decide) ?_
  refine r_istore_n (q := 2) (z := 2) C 2 rfl (by decide +kernel) rfl (by decide) (by first | rfl | exact okst_rv rfl) ?_
  dsimp only [List.set]
  refine r_iconst (q := 3) (z := 0) (v := 0) C rfl (by decide +kernel) (by decide) ?_
  refine r_istore_n (q := 4) (z := 3) C 3 rfl (by decide +kernel) rfl (by decide) (by first | rfl | exact okst_rv rfl) ?_
  dsimp only [List.set]
  have L4 : ∀ (fuel4 : Nat) (k : Nat), σ.n - k < fuel4 → (k ≤ σ.n) → wX G Γ (qM G Γ PP 0 0) 0 0 (h) 4 [some (rv g), some (.int (nI l)), some (.int (nI (sumP σ (σ.on l) k))), some (.int (nI k))] [] := by
    intro fuel4
    induction fuel4 with
    | zero =>
      intro k hm4
      exact absurd hm4 (Nat.not_lt_zero _)
    | succ fuel4 ih4 =>
      intro k hm4 hk
      refine r_iload_n (q := 5) (z := 3) C 3 rfl (by decide +kernel) rfl rfl ?_
      refine r_aload_n (q := 6) (z := 0) C 0 rfl (by decide +kernel) rfl rfl ?_
      refine r_getI (q := 9) C 6 3 387 rfl (by decide +kernel) rfl (by decide) rfl rfl wf_X6_25 win6 hL.kf ?_
      rw [R0.1]
      refine r_icmp_ge (q := 12) (off := 46) (tgt := 55) C rfl (by decide +kernel) (by decide) (fun c9 => ?_) (fun c9 => ?_)
      · have ek : k = σ.n := by have := (nI_leI (by omega) (by omega)).mp c9; omega
        subst ek
        refine r_iload_n (q := 56) (z := 2) C 2 rfl (by decide +kernel) rfl rfl ?_
        exact r_iret C (by decide +kernel) rfl (by decide) (by decide) (eqP hPP ⟨_, rfl, ⟨rfl, rfl⟩⟩)
      · have hlt : k < σ.n := Nat.lt_of_not_le (fun e => c9 (nI_le e (by omega)))
        refine r_aload_n (q := 13) (z := 0) C 0 rfl (by decide +kernel) rfl rfl ?_
        refine r_getR (q := 16) C 6 1 385 rfl (by decide +kernel) rfl (by decide) rfl rfl wf_X6_18 win6 hL.kf ?_
        refine r_iload_n (q := 17) (z := 3) C 3 rfl (by decide +kernel) rfl rfl ?_
        refine r_aald (q := 18) C rfl (by decide +kernel) hL.k385 (vp_in_nI (by omega) (by decide)) ?_
        rw [nI_clamp (by omega), hL.ap hlt]
        refine r_getI (q := 21) C 3 7 199 rfl (by decide +kernel) rfl (by decide) rfl rfl wf_X6_122 win3 (hL.kp hlt) ?_
        rw [R0.lie hlt]
        refine r_if_eq (q := 24) (off := 28) (tgt := 49) C rfl (by decide +kernel) (by decide) (fun c21 => ?_) (fun c21 => ?_)
        · rw [show sumP σ (σ.on l) k = sumP σ (σ.on l) (k + 1) by rw [sumP, if_neg (by unfold SG.on; rw [decide_eq_false (of_decide_eq_false ((b2i_0 _).mp c21))]; simp), Nat.add_zero]]
          refine r_iinc (q := 52) (z := 1) (v := 1) C 3 rfl (by decide +kernel) rfl (by decide) (by decide) (by first | rfl | exact okst_rv rfl) ?_
          dsimp only [List.set]
          rw [nI_1]
          refine r_goto (off := -48) (tgt := 4) C (by decide +kernel) (by decide) ?_
          exact ih4 (k + 1) (by omega) (by omega)
        · have hl := of_decide_eq_true ((b2i_n0 _).mp c21)
          have hxy := W.dxy hlt hl
          refine r_aload_n (q := 25) (z := 0) C 0 rfl (by decide +kernel) rfl rfl ?_
          refine r_getR (q := 28) C 6 1 385 rfl (by decide +kernel) rfl (by decide) rfl rfl wf_X6_18 win6 hL.kf ?_
          refine r_iload_n (q := 29) (z := 3) C 3 rfl (by decide +kernel) rfl rfl ?_
          refine r_aald (q := 30) C rfl (by decide +kernel) hL.k385 (vp_in_nI (by omega) (by decide)) ?_
          rw [nI_clamp (by omega), hL.ap hlt]
          refine cV0I (q := 33) C R rfl (by decide +kernel) lk_X6_189 (c_X3_powerLine (hL.kp hlt) (hL.ks hlt)) (by decide) (by decide) (by decide) rfl (by first | exact Nat.le_of_ble_eq_true rfl | (simp only [List.map_cons, List.map_nil, List.sum_cons, List.sum_nil, rv_cat]; exact Nat.le_of_ble_eq_true rfl)) rfl (hL.kp hlt) ?_
          rintro _ _ ⟨rfl, rfl⟩
          rw [R0.dx W hlt hl, show nI (σ.dX k) / 4 = nI (σ.dX k / 4) from pk_div (d := 4) (by omega) (by decide) (by decide), ← ln_x W hlt hl]
          have hln := ln_lt (σ := σ) (r := k)
          refine r_iload_n (q := 34) (z := 1) C 1 rfl (by decide +kernel) rfl rfl ?_
          refine r_icmp_ne (q := 37) (off := 15) (tgt := 49) C rfl (by decide +kernel) (by decide) (fun c34 => ?_) (fun c34 => ?_)
          · rw [show sumP σ (σ.on l) k = sumP σ (σ.on l) (k + 1) by rw [sumP, if_neg (fun e => by unfold SG.on at e; rw [Bool.and_eq_true, decide_eq_true_eq, decide_eq_true_eq] at e; exact c34 (by rw [e.2])), Nat.add_zero]]
            refine r_iinc (q := 52) (z := 1) (v := 1) C 3 rfl (by decide +kernel) rfl (by decide) (by decide) (by first | rfl | exact okst_rv rfl) ?_
            dsimp only [List.set]
            rw [nI_1]
            refine r_goto (off := -48) (tgt := 4) C (by decide +kernel) (by decide) ?_
            exact ih4 (k + 1) (by omega) (by omega)
          · refine r_iload_n (q := 38) (z := 2) C 2 rfl (by decide +kernel) rfl rfl ?_
            refine r_aload_n (q := 39) (z := 0) C 0 rfl (by decide +kernel) rfl rfl ?_
            refine r_getR (q := 42) C 6 1 385 rfl (by decide +kernel) rfl (by decide) rfl rfl wf_X6_18 win6 hL.kf ?_
            refine r_iload_n (q := 43) (z := 3) C 3 rfl (by decide +kernel) rfl rfl ?_
            refine r_aald (q := 44) C rfl (by decide +kernel) hL.k385 (vp_in_nI (by omega) (by decide)) ?_
            rw [nI_clamp (by omega), hL.ap hlt]
            refine r_getI (q := 47) C 3 3 195 rfl (by decide +kernel) rfl (by decide) rfl rfl wf_X6_196 win3 (hL.kp hlt) ?_
            rw [R0.pw hlt]
            refine r_iadd (q := 48) C rfl (by decide +kernel) ?_
            rw [nI_add, show sumP σ (σ.on l) k + σ.pw k = sumP σ (σ.on l) (k + 1) by rw [sumP, if_pos (by unfold SG.on; rw [decide_eq_true hl, decide_eq_true ((nI_eq (by omega) (by omega)).mp c34)]; rfl)]]
            refine r_istore_n (q := 49) (z := 2) C 2 rfl (by decide +kernel) rfl (by decide) (by first | rfl | exact okst_rv rfl) ?_
            dsimp only [List.set]
            refine r_iinc (q := 52) (z := 1) (v := 1) C 3 rfl (by decide +kernel) rfl (by decide) (by decide) (by first | rfl | exact okst_rv rfl) ?_
            dsimp only [List.set]
            rw [nI_1]
            refine r_goto (off := -48) (tgt := 4) C (by decide +kernel) (by decide) ?_
            exact ih4 (k + 1) (by omega) (by omega)
  exact L4 (σ.n + 1) 0 (by omega) (by omega)
