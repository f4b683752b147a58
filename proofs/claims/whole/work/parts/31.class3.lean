/-! ===== laying, taking, closing: the class ===== -/
theorem wX_k0 {G : GT} {Γ : CT} {y : MethodName} {cc : ByteArray} {nL : Nat} {rt : Option FieldType} {Q : State → Prop} {k n : Nat} {h : HP} {pc : Nat} {lv : List (Option Value)} {st : List Value} (C : Cx G Γ y cc nL rt) (kk : (∀ a x, h.kd a = x → x.1 ≠ 99 → a ≠ 0) → wX G Γ Q k n h pc lv st) : wX G Γ Q k n h pc lv st := fun H locs ls aa b c => kk (fun _ _ hk h9 => Rl.ne0 aa C.2.2.2.2.2.2.2.2.2.2.2 hk h9) H locs ls aa b c
theorem rdA_in {σ : SG} {p : Nat → Nat} {r : Nat} (hn : σ.n ≤ 10) (hr : r < σ.n) : rdA σ p (nI r) = p r := by rw [rdA, if_pos (ride_ok hn hr), nI_clamp (by omega)]
theorem rdA_0 {σ : SG} {p : Nat → Nat} {x : Int32} {kd : Nat → Nat × Nat} {gl : Nat → Nat} {fr ar : Nat → Nat → Nat} {g : Nat} {L : List Nat} (hL : LCl kd gl fr ar g σ.n p L) (hk : ∀ a x, kd a = x → x.1 ≠ 99 → a ≠ 0) (hn : σ.n ≤ 10) : rdA σ p x = 0 ↔ ¬ (0 ≤ x ∧ x < nI σ.n) := by
  constructor
  · intro e h
    obtain ⟨r, hr, rfl⟩ := ride_of hn h
    rw [rdA_in hn hr] at e
    exact hk _ _ (hL.kp hr) (show (0 : Nat) ≠ 99 by decide) e
  · intro h; exact if_neg h
theorem LCl.fm {A B : List Nat} {h h' : HP} {g n : Nat} {p : Nat → Nat} {L : List Nat} (F : Fm A B h h') (hL : LCl h.kd h.gl h.fr h.ar g n p L) : LCl h'.kd h'.gl h'.fr h'.ar g n p L := by rw [F.1, F.2.1, F.2.2.1, F.2.2.2.1]; exact hL
theorem uses3 : ¬ uses 3 := by unfold uses; omega
theorem CRr.fm {A B : List Nat} {h h' : HP} {g : Nat} {σ : SG} {p : Nat → Nat} {L : List Nat} (F : Fm A B h h') (hL : LCl h.kd h.gl h.fr h.ar g σ.n p L) (hB : ∀ x ∈ B, ¬ uses x) (R : CRr σ h.fi h.fr g p) : CRr σ h'.fi h'.fr g p := by
  rw [F.2.1]
  exact CRr.same hL R (fun g' a _ hu => F.2.2.2.2.1 g' a (fun e => hB g' e hu))
theorem CRc.fm {A B : List Nat} {h h' : HP} {g n : Nat} {σ : SG} {p : Nat → Nat} {L : List Nat} (F : Fm A B h h') (hL : LCl h.kd h.gl h.fr h.ar g n p L) (hA : 1 ∉ A) (R : CRc σ h g) : CRc σ h' g := by
  obtain ⟨g1, g2, g3, g4, g5, g6, g7⟩ := hL.gn
  intro c hc
  rw [F.2.1, (F.2.2.2.2.2 _ (by rw [g5]; exact hA)).1]; exact R c hc
/-- the heap when a ride has been laid -/
def layH (H : HP) (a s tr : Nat) : HP := (((((H.setI 256 s (H.fi 256 tr)).setI 257 s (H.fi 257 tr)).setI 258 s (H.fi 258 tr)).setI 259 s (H.fi 259 tr)).setI 260 s (H.fi 260 tr)).setI 199 a 1
theorem layH_a {H : HP} {a s tr g b : Nat} (hg : g ≠ 199 ∨ b ≠ a) (hb : b ≠ s) : (layH H a s tr).fi g b = H.fi g b := by
  unfold layH
  rw [show ∀ X : HP, (X.setI 199 a 1).fi g b = X.fi g b from fun X => hg.elim (fun e => fi_ne e) (fun e => fi_ne2 e), fi_ne2 hb, fi_ne2 hb, fi_ne2 hb, fi_ne2 hb, fi_ne2 hb]
theorem layH_s {H : HP} {a s tr : Nat} : (layH H a s tr).fi 256 s = H.fi 256 tr ∧ (layH H a s tr).fi 257 s = H.fi 257 tr ∧ (layH H a s tr).fi 258 s = H.fi 258 tr ∧ (layH H a s tr).fi 259 s = H.fi 259 tr ∧ (layH H a s tr).fi 260 s = H.fi 260 tr := by
  unfold layH
  refine ⟨?_, ?_, ?_, ?_, ?_⟩
  · rw [fi_ne (by decide), fi_ne (by decide), fi_ne (by decide), fi_ne (by decide), fi_ne (by decide), fi_eq]
  · rw [fi_ne (by decide), fi_ne (by decide), fi_ne (by decide), fi_ne (by decide), fi_eq]
  · rw [fi_ne (by decide), fi_ne (by decide), fi_ne (by decide), fi_eq]
  · rw [fi_ne (by decide), fi_ne (by decide), fi_eq]
  · rw [fi_ne (by decide), fi_eq]
theorem CRr.lay {kd : Nat → Nat × Nat} {gl : Nat → Nat} {ar : Nat → Nat → Nat} {H : HP} {g r q tr : Nat} {σ : SG} {p : Nat → Nat} {L : List Nat} (hL : LCl kd gl H.fr ar g σ.n p L) (R : CRr σ H.fi H.fr g p) (hr : r < σ.n) (hq : q < 240) (h1 : H.fi 256 tr = nI (px q)) (h2 : H.fi 257 tr = nI (py q)) (h3 : H.fi 258 tr = nI (σ.wA r q)) (h4 : H.fi 259 tr = nI (σ.hA r q)) (h5 : H.fi 260 tr = b2i (decide (q % 2 = 1))) : CRr (σ.li_ (upN σ.li r q)) (layH H (p r) (H.fr 198 (p r)) tr).fi H.fr g p := by
  have n1 : p r ≠ H.fr 198 (p r) := kd_ne (hL.kp hr) (hL.ks hr) (by decide)
  have la : ∀ g', g' ≠ 199 → (layH H (p r) (H.fr 198 (p r)) tr).fi g' (p r) = H.fi g' (p r) := fun g' hg => layH_a (Or.inl hg) n1
  obtain ⟨e1, e2, e3, e4, e5⟩ := layH_s (H := H) (a := p r) (s := H.fr 198 (p r)) (tr := tr)
  refine CRr.one hL R rfl rfl rfl hr (fun k hk => ⟨rfl, rfl, rfl, rfl, rfl, upN_n hk, rfl, rfl, rfl, rfl⟩) (fun g' a h6 h7 _ => layH_a (Or.inr h6) h7) ?_
  obtain ⟨f1, f2, f3, f4, f5, f6, f7, f8, f9, f10, f11, f12, f13⟩ := R.2.2.2 r hr
  have hli : (σ.li_ (upN σ.li r q)).li r = q := upN_s
  refine ⟨(la 192 (by decide)).trans f1, (la 193 (by decide)).trans f2, (la 194 (by decide)).trans f3, (la 195 (by decide)).trans f4, (la 196 (by decide)).trans f5, (la 197 (by decide)).trans f6, ?_, (la 200 (by decide)).trans f8, (la 201 (by decide)).trans f9, (la 202 (by decide)).trans f10, (la 203 (by decide)).trans f11, ⟨_, e5.trans h5⟩, fun _ => ?_⟩
  · rw [hli, decide_eq_true hq]
    show (layH H (p r) (H.fr 198 (p r)) tr).fi 199 (p r) = _
    unfold layH; rw [fi_eq]; rfl
  · rw [hli]
    exact ⟨e1.trans h1, e2.trans h2, e3.trans h3, e4.trans h4, e5.trans h5⟩
theorem CRr.take {kd : Nat → Nat × Nat} {gl : Nat → Nat} {ar : Nat → Nat → Nat} {H : HP} {g r : Nat} {σ : SG} {p : Nat → Nat} {L : List Nat} (hL : LCl kd gl H.fr ar g σ.n p L) (R : CRr σ H.fi H.fr g p) (hr : r < σ.n) : CRr (σ.li_ (upN σ.li r 240)) (H.setI 199 (p r) 0).fi H.fr g p := by
  have n1 : p r ≠ H.fr 198 (p r) := kd_ne (hL.kp hr) (hL.ks hr) (by decide)
  refine CRr.one hL R rfl rfl rfl hr (fun k hk => ⟨rfl, rfl, rfl, rfl, rfl, upN_n hk, rfl, rfl, rfl, rfl⟩) (fun g' a h6 h7 _ => fi_ne2 h6) ?_
  obtain ⟨f1, f2, f3, f4, f5, f6, f7, f8, f9, f10, f11, ⟨t, f12⟩, f13⟩ := R.2.2.2 r hr
  have hli : (σ.li_ (upN σ.li r 240)).li r = 240 := upN_s
  refine ⟨(fi_ne (by decide)).trans f1, (fi_ne (by decide)).trans f2, (fi_ne (by decide)).trans f3, (fi_ne (by decide)).trans f4, (fi_ne (by decide)).trans f5, (fi_ne (by decide)).trans f6, ?_, (fi_ne (by decide)).trans f8, (fi_ne (by decide)).trans f9, (fi_ne (by decide)).trans f10, (fi_ne (by decide)).trans f11, ⟨t, (fi_ne (by decide)).trans f12⟩, fun h9 => ?_⟩
  · rw [hli, fi_eq]; rfl
  · rw [hli] at h9; exact absurd h9 (by decide)
theorem plc_q {q : Nat} (hq : q < 240) : hasC (nI (px q)) (nI (py q)) = true ∧ plc (nI (px q)) (nI (py q)) (decide (q % 2 = 1)) = q := by
  have h1 := px_lt (p := q)
  have h2 := py_lt hq
  have hC := hasC_nI h1 h2
  refine ⟨hC, ?_⟩
  obtain ⟨a, b, ha, hb, ea, eb, -, -, e⟩ := plc_of (t := decide (q % 2 = 1)) hC
  have ea : px q = a := (nI_eq (by omega) (by omega)).mp ea
  have eb : py q = b := (nI_eq (by omega) (by omega)).mp eb
  rw [e, ← ea, ← eb]
  unfold px py
  by_cases h9 : q % 2 = 1
  · simp [h9]; omega
  · simp [h9]; omega
theorem pap {q : Nat} (hq : q < 240) : nI q / 2 - nI q / 2 / 12 * 12 = nI (px q) ∧ nI q / 2 / 12 = nI (py q) ∧ decide (nI q - nI q / 2 * 2 = 1) = decide (q % 2 = 1) := by
  have e : nI q / 2 = nI (q / 2) := pk_div (d := 2) (by omega) (by decide) (by decide)
  refine ⟨by rw [e, rem12 (by omega)]; rfl, by rw [e, div12 (by omega)]; rfl, ?_⟩
  rw [show nI q - nI q / 2 * 2 = nI (q % 2) from pk_rem (d := 2) (by omega) (by decide) (by decide)]
  exact decide_eq_decide.mpr ⟨fun h => (nI_eq (b := 1) (by omega) (by decide)).mp h, fun h => by rw [h]; rfl⟩
theorem spPut_fi {h : HP} {a g b : Nat} {w z x y : Int32} {t : Bool} (hb : b ≠ a) : (spPut h a w z x y t).fi g b = h.fi g b := by
  unfold spPut; rw [fi_ne2 hb, fi_ne2 hb, fi_ne2 hb, fi_ne2 hb, fi_ne2 hb]
theorem spPut_at {h : HP} {a : Nat} {w z x y : Int32} {t : Bool} : (spPut h a w z x y t).fi 256 a = x ∧ (spPut h a w z x y t).fi 257 a = y ∧ (spPut h a w z x y t).fi 258 a = (if t then z else w) ∧ (spPut h a w z x y t).fi 259 a = (if t then w else z) ∧ (spPut h a w z x y t).fi 260 a = b2i t := by
  unfold spPut
  refine ⟨?_, ?_, ?_, ?_, fi_eq⟩
  · rw [fi_ne (by decide), fi_ne (by decide), fi_ne (by decide), fi_ne (by decide), fi_eq]
  · rw [fi_ne (by decide), fi_ne (by decide), fi_ne (by decide), fi_eq]
  · rw [fi_ne (by decide), fi_ne (by decide), fi_eq]
  · rw [fi_ne (by decide), fi_eq]
theorem Fm.spPut {h : HP} {a : Nat} {w z x y : Int32} {t : Bool} : Fm [] [256, 257, 258, 259, 260] h (spPut h a w z x y t) := Fm.setI (Fm.setI (Fm.setI (Fm.setI (Fm.setI Fm.rf (by decide)) (by decide)) (by decide)) (by decide)) (by decide)
/-- the trial spot has been put -/
theorem tri {h : HP} {g r : Nat} {σ : SG} {p : Nat → Nat} {L : List Nat} {x y : Int32} {t : Bool} (hL : LCl h.kd h.gl h.fr h.ar g σ.n p L) (R : CRr σ h.fi h.fr g p) (W : WF σ) (hr : r < σ.n) : CRr σ (spPut h (h.fr 389 g) (nI (σ.wd r)) (nI (σ.hg r)) x y t).fi h.fr g p ∧ SpT h.kd (spPut h (h.fr 389 g) (nI (σ.wd r)) (nI (σ.hg r)) x y t).fi (h.fr 389 g) x y (if t then σ.hg r else σ.wd r) (if t then σ.wd r else σ.hg r) ∧ (spPut h (h.fr 389 g) (nI (σ.wd r)) (nI (σ.hg r)) x y t).fi 260 (h.fr 389 g) = b2i t := by
  obtain ⟨e1, e2, e3, e4, e5⟩ := spPut_at (h := h) (a := h.fr 389 g) (w := nI (σ.wd r)) (z := nI (σ.hg r)) (x := x) (y := y) (t := t)
  have hw := W.2.2.1 r hr
  refine ⟨CRr.same hL R (fun g' a ha _ => spPut_fi ha), ⟨hL.k389, e1, e2, ?_, ?_, ?_, ?_⟩, e5⟩
  · rw [e3]; cases t <;> rfl
  · rw [e4]; cases t <;> rfl
  · cases t <;> simp <;> omega
  · cases t <;> simp <;> omega
theorem wt {σ : SG} {r q : Nat} {t : Bool} (h : q % 2 = 1 ↔ t = true) : (if t then σ.hg r else σ.wd r) = σ.wA r q ∧ (if t then σ.wd r else σ.hg r) = σ.hA r q ∧ b2i t = b2i (decide (q % 2 = 1)) := by
  rw [wA_pl.1, wA_pl.2]
  cases t with
  | true => have h1 := h.mpr rfl; simp [h1]
  | false => have h1 : ¬ q % 2 = 1 := fun e => by cases h.mp e
             simp [h1]
def lyS (b : Bool) (σ : SG) (r q : Nat) : SG := if b then σ.li_ (upN σ.li r q) else σ
theorem lyS_n (b : Bool) (σ : SG) (r q : Nat) : (lyS b σ r q).n = σ.n := by unfold lyS; split <;> rfl

theorem c_X6_layIfItFits {G : GT} {h : HP} {g : Nat} {σ : SG} {p : Nat → Nat} {L : List Nat} {r : Nat} {x y : Int32} {t : Bool} (hL : LCl h.kd h.gl h.fr h.ar g σ.n p L) (R0 : CRr σ h.fi h.fr g p) (Rc : CRc σ h g) (W : WF σ) (hr : r < σ.n) (hnl : ¬ σ.li r < 240) (hs : SpT h.kd h.fi (h.fr 389 g) x y (if t then σ.hg r else σ.wd r) (if t then σ.wd r else σ.hg r)) (h60 : h.fi 260 (h.fr 389 g) = b2i t) : Con G 7 0 0 yX6_layIfItFits cX6_layIfItFits 2 (some .boolean) [rv g, rv (p r)] h (PI (fun v h' => ∃ b : Bool, b2i b = v ∧ (b = true ↔ hasC x y = true ∧ σ.fit r (plc x y t)) ∧ CRr (lyS b σ r (plc x y t)) h'.fi h'.fr g p ∧ CRc (lyS b σ r (plc x y t)) h' g ∧ Fm [1, 2, 3] [3, 199, 256, 257, 258, 259, 260] h h')) := by
  refine Con.of (lv := [some (rv g), some (rv (p r))]) (by decide) (by simp only [lvE_r, lvE_i, lvE_l, lvE_s, lvE_0]; rfl) (by simp only [lgl_r, lgl_i, lgl_l, lgl_s, lgl_0]; decide) (fun Γ C R => ?_)
  generalize hPP : (PI (fun v h' => ∃ b : Bool, b2i b = v ∧ (b = true ↔ hasC x y = true ∧ σ.fit r (plc x y t)) ∧ CRr (lyS b σ r (plc x y t)) h'.fi h'.fr g p ∧ CRc (lyS b σ r (plc x y t)) h' g ∧ Fm [1, 2, 3] [3, 199, 256, 257, 258, 259, 260] h h')) = PP
  have r10 := W.n10
  have J30 : ∀ (h3 : HP), (Fm [2, 3] [3, 199, 256, 257, 258, 259, 260] h h3) → (CRr (σ.li_ (upN σ.li r (plc x y t))) h3.fi h3.fr g p) → (σ.fit r (plc x y t)) → (hasC x y = true) → wX G Γ (qM G Γ PP 0 0) 0 0 (h3) 30 [some (rv g), some (rv (p r))] [] := by
    intro h3 F3 R3 hF hC
    have hL0 := hL
    have hL : LCl h3.kd h3.gl h3.fr h3.ar g σ.n p L := LCl.fm F3 hL0
    have e0 : h3.ai (h3.fr 0 (h3.fr 384 g)) = h.ai (h.fr 0 (h.fr 384 g)) := by
      obtain ⟨g1, g2, g3, g4, g5, g6, g7⟩ := hL0.gn
      rw [F3.2.1]; exact (F3.2.2.2.2.2 _ (by rw [g5]; decide)).1
    obtain ⟨a0, b0, ha0, hb0, ea, eb, hp, -, -⟩ := plc_of (t := t) hC
    have hli : (σ.li_ (upN σ.li r (plc x y t))).li r = plc x y t := upN_s
    have hsp := R3.sp (r := r) hr (by rw [hli]; exact hp)
    rw [hli] at hsp
    have hon := hF.1.1
    refine r_aload_n (q := 31) (z := 0) C 0 rfl (by decide +kernel) rfl rfl ?_
    refine r_getR (q := 34) C 6 0 384 rfl (by decide +kernel) rfl (by decide) rfl rfl wf_X6_10 win6 hL.kf ?_
    refine r_aload_n (q := 35) (z := 1) C 1 rfl (by decide +kernel) rfl rfl ?_
    refine r_getR (q := 38) C 3 6 198 rfl (by decide +kernel) rfl (by decide) rfl rfl wf_X6_221 win3 (hL.kp hr) ?_
    refine r_aload_n (q := 39) (z := 1) C 1 rfl (by decide +kernel) rfl rfl ?_
    refine r_getI (q := 42) C 3 0 192 rfl (by decide +kernel) rfl (by decide) rfl rfl wf_X6_115 win3 (hL.kp hr) ?_
    rw [R3.num hr]
    refine cV2V (q := 45) C R rfl (by decide +kernel) lk_X6_260 (c_X0_cover (x := px (plc x y t)) (y := py (plc x y t)) (w := σ.wA r (plc x y t)) (z := σ.hA r (plc x y t)) hL.gn ⟨hL.ks hr, hsp.1, hsp.2.1, hsp.2.2.1, hsp.2.2.2.1, hon.1, by have := hon.2; omega⟩) (by decide) (by decide) (by decide) rfl (by first | exact Nat.le_of_ble_eq_true rfl | (simp only [List.map_cons, List.map_nil, List.sum_cons, List.sum_nil, rv_cat]; exact Nat.le_of_ble_eq_true rfl)) rfl hL.kg ?_
    rintro _ rfl
    refine r_iconst (q := 46) (z := 1) (v := 1) C rfl (by decide +kernel) (by decide) ?_
    exact r_zret C (by decide +kernel) rfl (by first | decide | exact b2i_nar _) (by decide) (by decide) (eqP hPP ⟨_, rfl, ⟨true, rfl, ⟨fun _ => ⟨hC, hF⟩, fun _ => rfl⟩, R3, fun c hc => by
          show (h3.row (h3.fr 0 (h3.fr 384 g)) _).ai (h3.fr 0 (h3.fr 384 g)) c = cellV (σ.li_ (upN σ.li r (plc x y t))) c
          rw [ai_row_eq, cell_lay r10 hr hnl hp hF.1.2.2.2.1 hc, e0, Rc c hc]; rfl, Fm.row (F3.mono (by decide) (by decide)) (by obtain ⟨g1, g2, g3, g4, g5, g6, g7⟩ := hL.gn; rw [← F3.2.2.1, g5]; decide)⟩⟩)
  refine r_aload_n (q := 1) (z := 0) C 0 rfl (by decide +kernel) rfl rfl ?_
  refine r_aload_n (q := 2) (z := 1) C 1 rfl (by decide +kernel) rfl rfl ?_
  refine r_aload_n (q := 3) (z := 0) C 0 rfl (by decide +kernel) rfl rfl ?_
  refine r_getR (q := 6) C 6 5 389 rfl (by decide +kernel) rfl (by decide) rfl rfl wf_X6_35 win6 hL.kf ?_
  refine cV2I (q := 9) C R rfl (by decide +kernel) lk_X6_135 (c_X6_canLie hL R0 Rc W hr hs) (by decide) (by decide) (by decide) rfl (by first | exact Nat.le_of_ble_eq_true rfl | (simp only [List.map_cons, List.map_nil, List.sum_cons, List.sum_nil, rv_cat]; exact Nat.le_of_ble_eq_true rfl)) rfl hL.kf ?_
  rintro _ _ ⟨t6, f6, q6, k6, rfl, rfl, ht6⟩
  refine r_if_ne (q := 12) (off := 5) (tgt := 14) C rfl (by decide +kernel) (by decide) (fun c9 => ?_) (fun c9 => ?_)
  · have hGL := ht6.mp ((b2i_n0 _).mp c9)
    obtain ⟨hC, hF⟩ := gLay_iff.mp hGL
    obtain ⟨a0, b0, ha0, hb0, ea, eb, hp, -, ep⟩ := plc_of (t := t) hC
    obtain ⟨x1, x2, x3, x4⟩ := plc_xy ha0 hb0 t
    rw [← ep] at x1 x2 x3 x4
    refine r_aload_n (q := 15) (z := 1) C 1 rfl (by decide +kernel) rfl rfl ?_
    refine r_getR (q := 18) C 3 6 198 rfl (by decide +kernel) rfl (by decide) rfl rfl wf_X6_221 win3 (hL.kp hr) ?_
    refine r_aload_n (q := 19) (z := 0) C 0 rfl (by decide +kernel) rfl rfl ?_
    refine r_getR (q := 22) C 6 5 389 rfl (by decide +kernel) rfl (by decide) rfl rfl wf_X6_35 win6 hL.kf ?_
    refine cV1V (q := 25) C R rfl (by decide +kernel) lk_X6_283 (c_X4_putLike (t := t) (hL.ks hr) hL.k389 ((fi_ne (by decide)).trans h60) (fun e => by have h1 := hL.gs hr; rw [show h.fr 198 (p r) = h.fr 389 g from e, hL.g389] at h1; omega)) (by decide) (by decide) (by decide) rfl (by first | exact Nat.le_of_ble_eq_true rfl | (simp only [List.map_cons, List.map_nil, List.sum_cons, List.sum_nil, rv_cat]; exact Nat.le_of_ble_eq_true rfl)) rfl (hL.ks hr) ?_
    rintro _ rfl
    refine r_aload_n (q := 26) (z := 1) C 1 rfl (by decide +kernel) rfl rfl ?_
    refine r_iconst (q := 27) (z := 1) (v := 1) C rfl (by decide +kernel) (by decide) ?_
    refine r_putI (q := 30) C 3 7 199 rfl (by decide +kernel) rfl (by decide) rfl rfl wf_X6_122 win3 tyX3 tyX3_ok nmX3 rfl (tyX3_ok 7 (by decide)) rfl wnd3 (by first | rfl | exact b2i_nar _) (by first | rfl | exact b2i_fit _) (hL.kp hr) ?_
    obtain ⟨s1, s2, s3, s4, s5, s6, s7⟩ := id hs
    have n3 : ∀ g' a', g' ≠ 3 → (bsx h (h.fr 384 g) f6 q6 k6).fi g' a' = h.fi g' a' := fun g' a' hg => fi_ne hg
    have RB : CRr σ (bsx h (h.fr 384 g) f6 q6 k6).fi (bsx h (h.fr 384 g) f6 q6 k6).fr g p := CRr.same hL R0 (fun g' a' _ hu => n3 g' a' (fun e => uses3 (e ▸ hu)))
    have R9 := CRr.lay (H := bsx h (h.fr 384 g) f6 q6 k6) (q := plc x y t) (tr := h.fr 389 g) hL RB hr hp ((n3 _ _ (by decide)).trans (by rw [s2, x1]; exact ea)) ((n3 _ _ (by decide)).trans (by rw [s3, x2]; exact eb)) ((n3 _ _ (by decide)).trans (by rw [s4, (wt x4).1])) ((n3 _ _ (by decide)).trans (by rw [s5, (wt x4).2.1])) ((n3 _ _ (by decide)).trans (by rw [h60, (wt (σ := σ) (r := r) x4).2.2]))
    have FL : Fm [2, 3] [3, 199, 256, 257, 258, 259, 260] h (layH (bsx h (h.fr 384 g) f6 q6 k6) (p r) (h.fr 198 (p r)) (h.fr 389 g)) := Fm.setI (Fm.setI (Fm.setI (Fm.setI (Fm.setI (Fm.setI (Fm.bs Fm.rf hL.gn (by decide) (by decide) (by decide)) (by decide)) (by decide)) (by decide)) (by decide)) (by decide)) (by decide)
    exact J30 _ FL R9 hF hC
  · have hN : ¬ (hasC x y = true ∧ σ.fit r (plc x y t)) := fun e => by have := ht6.mpr (gLay_iff.mpr e); rw [(b2i_0 _).mp c9] at this; cases this
    have FB : Fm [2, 3] [3] h (bsx h (h.fr 384 g) f6 q6 k6) := Fm.bs Fm.rf hL.gn (by decide) (by decide) (by decide)
    refine r_iconst (q := 13) (z := 0) (v := 0) C rfl (by decide +kernel) (by decide) ?_
    exact r_zret C (by decide +kernel) rfl (by first | decide | exact b2i_nar _) (by decide) (by decide) (eqP hPP ⟨_, rfl, ⟨false, rfl, ⟨(fun e => nomatch e), fun e => absurd e hN⟩, CRr.fm FB hL (by intro x hx; rw [List.mem_singleton] at hx; rw [hx]; exact uses3) R0, CRc.fm FB hL (by decide) Rc, FB.mono (by decide) (by decide)⟩⟩)
theorem c_X6_layAtFirstPlace {G : GT} {h : HP} {g : Nat} {σ : SG} {p : Nat → Nat} {L : List Nat} {r : Nat} (hL : LCl h.kd h.gl h.fr h.ar g σ.n p L) (R0 : CRr σ h.fi h.fr g p) (Rc : CRc σ h g) (W : WF σ) (hr : r < σ.n) (hnl : ¬ σ.li r < 240) : Con G 8 0 0 yX6_layAtFirstPlace cX6_layAtFirstPlace 3 none [rv g, rv (p r)] h (PV (fun h' => CRr (lay2 σ r) h'.fi h'.fr g p ∧ CRc (lay2 σ r) h' g ∧ Fm [1, 2, 3] [3, 199, 256, 257, 258, 259, 260] h h')) := by
  refine Con.of (lv := [some (rv g), some (rv (p r)), none]) (by decide) (by simp only [lvE_r, lvE_i, lvE_l, lvE_s, lvE_0]; rfl) (by simp only [lgl_r, lgl_i, lgl_l, lgl_s, lgl_0]; decide) (fun Γ C R => ?_)
  generalize hPP : (PV (fun h' => CRr (lay2 σ r) h'.fi h'.fr g p ∧ CRc (lay2 σ r) h' g ∧ Fm [1, 2, 3] [3, 199, 256, 257, 258, 259, 260] h h')) = PP
  have r10 := W.n10
  have hL0 := hL
  refine r_iconst (q := 1) (z := 0) (v := 0) C rfl (by decide +kernel) (by decide) ?_
  refine r_istore_n (q := 2) (z := 2) C 2 rfl (by decide +kernel) rfl (by decide) (by first | rfl | exact okst_rv rfl) ?_
  dsimp only [List.set]
  have L2 : ∀ (fuel2 : Nat) (h2 : HP) (q : Nat), 240 - q < fuel2 → (Fm [1, 2, 3] [3, 199, 256, 257, 258, 259, 260] h h2) → (CRr σ h2.fi h2.fr g p) → (CRc σ h2 g) → (q ≤ 240) → (∀ j, j < q → ¬ σ.fit r j) → wX G Γ (qM G Γ PP 0 0) 0 0 (h2) 2 [some (rv g), some (rv (p r)), some (.int (nI q))] [] := by
    intro fuel2
    induction fuel2 with
    | zero =>
      intro h2 q hm2
      exact absurd hm2 (Nat.not_lt_zero _)
    | succ fuel2 ih2 =>
      intro h2 q hm2 F2 R2 Rc2 hq0 hno
      have hL : LCl h2.kd h2.gl h2.fr h2.ar g σ.n p L := LCl.fm F2 hL0
      refine r_iload_n (q := 3) (z := 2) C 2 rfl (by decide +kernel) rfl rfl ?_
      refine r_sipush (q := 6) (z := 240) (v := 240) C rfl (by decide +kernel) (by decide) ?_
      refine r_icmp_ge (q := 9) (off := 34) (tgt := 40) C rfl (by decide +kernel) (by decide) (fun c6 => ?_) (fun c6 => ?_)
      · have eq0 : q = 240 := by have := (nI_leI (a := 240) (by omega) (by omega)).mp c6; omega
        exact r_ret C (by decide +kernel) rfl (by decide) (by decide) (eqP hPP ⟨rfl, (by
              have h9 := (W.2.2.2.1 r (by omega)).1
              have hfst : lay2 σ r = σ := by rw [lay2, fstP_eq (q := 240) ⟨by omega, fun e => absurd e (by decide), fun j hj => hno j (by omega)⟩, show (240 : Nat) = σ.li r by omega, upN_self]; rfl
              rw [hfst]
              exact ⟨R2, Rc2, F2⟩)⟩)
      · have hqlt : q < 240 := Nat.lt_of_not_le (fun e => c6 (nI_le (a := 240) e (by omega)))
        obtain ⟨e1, e2, e3⟩ := pap hqlt
        obtain ⟨hC, hpq⟩ := plc_q hqlt
        refine r_aload_n (q := 10) (z := 0) C 0 rfl (by decide +kernel) rfl rfl ?_
        refine r_getR (q := 13) C 6 5 389 rfl (by decide +kernel) rfl (by decide) rfl rfl wf_X6_35 win6 hL.kf ?_
        refine r_aload_n (q := 14) (z := 1) C 1 rfl (by decide +kernel) rfl rfl ?_
        refine r_getI (q := 17) C 3 1 193 rfl (by decide +kernel) rfl (by decide) rfl rfl wf_X6_126 win3 (hL.kp hr) ?_
        rw [R2.wd hr]
        refine r_aload_n (q := 18) (z := 1) C 1 rfl (by decide +kernel) rfl rfl ?_
        refine r_getI (q := 21) C 3 2 194 rfl (by decide +kernel) rfl (by decide) rfl rfl wf_X6_129 win3 (hL.kp hr) ?_
        rw [R2.hg hr]
        refine r_iload_n (q := 22) (z := 2) C 2 rfl (by decide +kernel) rfl rfl ?_
        refine cV3V (q := 25) C R rfl (by decide +kernel) lk_X6_150 (c_X4_putAtPlace hL.k389) (by decide) (by decide) (by decide) rfl (by first | exact Nat.le_of_ble_eq_true rfl | (simp only [List.map_cons, List.map_nil, List.sum_cons, List.sum_nil, rv_cat]; exact Nat.le_of_ble_eq_true rfl)) rfl hL.k389 ?_
        rintro _ rfl
        rw [e1, e2, e3]
        obtain ⟨T1, T2, T3⟩ := tri (x := nI (px q)) (y := nI (py q)) (t := decide (q % 2 = 1)) hL R2 W hr
        refine r_aload_n (q := 26) (z := 0) C 0 rfl (by decide +kernel) rfl rfl ?_
        refine r_aload_n (q := 27) (z := 1) C 1 rfl (by decide +kernel) rfl rfl ?_
        refine cV1I (q := 30) C R rfl (by decide +kernel) lk_X6_139 (c_X6_layIfItFits (σ := σ) (L := L) (x := nI (px q)) (y := nI (py q)) (t := decide (q % 2 = 1)) hL T1 Rc2 W hr hnl T2 T3) (by decide) (by decide) (by decide) rfl (by first | exact Nat.le_of_ble_eq_true rfl | (simp only [List.map_cons, List.map_nil, List.sum_cons, List.sum_nil, rv_cat]; exact Nat.le_of_ble_eq_true rfl)) rfl hL.kf ?_
        rintro _ h27 ⟨b27, rfl, hb27, R27, Rc27, F27⟩
        rw [hpq] at hb27 R27 Rc27
        have F27t : Fm [1, 2, 3] [3, 199, 256, 257, 258, 259, 260] h h27 := F2.tr ((Fm.spPut.mono (by decide) (by decide)).tr F27)
        refine r_if_eq (q := 33) (off := 4) (tgt := 34) C rfl (by decide +kernel) (by decide) (fun c30 => ?_) (fun c30 => ?_)
        · have ebf : b27 = false := (b2i_0 _).mp c30
          rw [ebf] at R27 Rc27
          have hno2 : ∀ j, j < q + 1 → ¬ σ.fit r j := fun j hj e => by
            by_cases ej : j = q
            · subst ej; have := hb27.mpr ⟨hC, e⟩; rw [ebf] at this; cases this
            · exact hno j (by omega) e
          refine r_iinc (q := 37) (z := 1) (v := 1) C 2 rfl (by decide +kernel) rfl (by decide) (by decide) (by first | rfl | exact okst_rv rfl) ?_
          dsimp only [List.set]
          rw [nI_1]
          refine r_goto (off := -35) (tgt := 2) C (by decide +kernel) (by decide) ?_
          exact ih2 h27 (q + 1) (by omega) F27t R27 Rc27 (by omega) hno2
        · have hfit := (hb27.mp ((b2i_n0 _).mp c30)).2
          have ebt : b27 = true := (b2i_n0 _).mp c30
          have hfst : lay2 σ r = lyS b27 σ r q := by rw [ebt, lay2, fstP_eq (q := q) ⟨by omega, fun _ => hfit, hno⟩]; rfl
          exact r_ret C (by decide +kernel) rfl (by decide) (by decide) (eqP hPP ⟨rfl, ⟨by rw [hfst]; exact R27, by rw [hfst]; exact Rc27, F27t⟩⟩)
  exact L2 241 h 0 (by omega) Fm.rf R0 Rc (by omega) (fun j hj => absurd hj (Nat.not_lt_zero j))
theorem c_X6_takeAway {G : GT} {h : HP} {g : Nat} {σ : SG} {p : Nat → Nat} {L : List Nat} {r : Nat} (hL : LCl h.kd h.gl h.fr h.ar g σ.n p L) (R0 : CRr σ h.fi h.fr g p) (Rc : CRc σ h g) (W : WF σ) (J : JN σ) (hr : r < σ.n) (hl : σ.li r < 240) : Con G 4 0 0 yX6_takeAway cX6_takeAway 2 none [rv g, rv (p r)] h (PV (fun h' => CRr (σ.li_ (upN σ.li r 240)) h'.fi h'.fr g p ∧ CRc (σ.li_ (upN σ.li r 240)) h' g ∧ Fm [1] [199] h h')) := by
  refine Con.of (lv := [some (rv g), some (rv (p r))]) (by decide) (by simp only [lvE_r, lvE_i, lvE_l, lvE_s, lvE_0]; rfl) (by simp only [lgl_r, lgl_i, lgl_l, lgl_s, lgl_0]; decide) (fun Γ C R => ?_)
  generalize hPP : (PV (fun h' => CRr (σ.li_ (upN σ.li r 240)) h'.fi h'.fr g p ∧ CRc (σ.li_ (upN σ.li r 240)) h' g ∧ Fm [1] [199] h h')) = PP
  have r10 := W.n10
  obtain ⟨p1, p2, p3, p4, -⟩ := R0.sp hr hl
  have hon := W.2.2.2.2.1 r hr hl
  refine r_aload_n (q := 1) (z := 0) C 0 rfl (by decide +kernel) rfl rfl ?_
  refine r_getR (q := 4) C 6 0 384 rfl (by decide +kernel) rfl (by decide) rfl rfl wf_X6_10 win6 hL.kf ?_
  refine r_aload_n (q := 5) (z := 1) C 1 rfl (by decide +kernel) rfl rfl ?_
  refine r_getR (q := 8) C 3 6 198 rfl (by decide +kernel) rfl (by decide) rfl rfl wf_X6_221 win3 (hL.kp hr) ?_
  refine r_iconst (q := 9) (z := (-1)) (v := (-1)) C rfl (by decide +kernel) (by decide) ?_
  refine cV2V (q := 12) C R rfl (by decide +kernel) lk_X6_260 (c_X0_cover (x := px (σ.li r)) (y := py (σ.li r)) (w := σ.wA r (σ.li r)) (z := σ.hA r (σ.li r)) hL.gn ⟨hL.ks hr, p1, p2, p3, p4, hon.1, by have := hon.2; omega⟩) (by decide) (by decide) (by decide) rfl (by first | exact Nat.le_of_ble_eq_true rfl | (simp only [List.map_cons, List.map_nil, List.sum_cons, List.sum_nil, rv_cat]; exact Nat.le_of_ble_eq_true rfl)) rfl hL.kg ?_
  rintro _ rfl
  refine r_aload_n (q := 13) (z := 1) C 1 rfl (by decide +kernel) rfl rfl ?_
  refine r_iconst (q := 14) (z := 0) (v := 0) C rfl (by decide +kernel) (by decide) ?_
  refine r_putI (q := 17) C 3 7 199 rfl (by decide +kernel) rfl (by decide) rfl rfl wf_X6_122 win3 tyX3 tyX3_ok nmX3 rfl (tyX3_ok 7 (by decide)) rfl wnd3 (by first | rfl | exact b2i_nar _) (by first | rfl | exact b2i_fit _) (hL.kp hr) ?_
  exact r_ret C (by decide +kernel) rfl (by decide) (by decide) (eqP hPP ⟨rfl, ⟨CRr.take (H := h.row _ _) hL R0 hr, fun c hc => by
        show (h.row (h.fr 0 (h.fr 384 g)) _).ai (h.fr 0 (h.fr 384 g)) c = _
        rw [ai_row_eq, cell_take J r10 hr hc, Rc c hc]
        have : σ.cv r c = inn (px (σ.li r)) (py (σ.li r)) (σ.wA r (σ.li r)) (σ.hA r (σ.li r)) c := by show (decide (σ.li r < 240) && _) = _; rw [decide_eq_true hl, Bool.true_and]; rfl
        rw [this], Fm.setI (Fm.row Fm.rf (by obtain ⟨g1, g2, g3, g4, g5, g6, g7⟩ := hL.gn; rw [g5]; decide)) (by decide)⟩⟩)
theorem c_X6_fits {G : GT} {h : HP} {g : Nat} {σ : SG} {p : Nat → Nat} {L : List Nat} {x a b : Int32} {t : Bool} (hL : LCl h.kd h.gl h.fr h.ar g σ.n p L) (R0 : CRr σ h.fi h.fr g p) (Rc : CRc σ h g) (W : WF σ) : Con G 7 0 0 yX6_fits cX6_fits 6 (some .int) [rv g, .int x, .int a, .int b, .int (b2i t)] h (PI (fun v h' => fitsV σ x a b t = v ∧ CRr (σ) h'.fi h'.fr g p ∧ CRc (σ) h' g ∧ Fm [1, 2, 3] [3, 199, 256, 257, 258, 259, 260] h h')) := by
  refine Con.of (lv := [some (rv g), some (.int x), some (.int a), some (.int b), some (.int (b2i t)), none]) (by decide) (by simp only [lvE_r, lvE_i, lvE_l, lvE_s, lvE_0]; rfl) (by simp only [lgl_r, lgl_i, lgl_l, lgl_s, lgl_0]; decide) (fun Γ C R => ?_)
  generalize hPP : (PI (fun v h' => fitsV σ x a b t = v ∧ CRr (σ) h'.fi h'.fr g p ∧ CRc (σ) h' g ∧ Fm [1, 2, 3] [3, 199, 256, 257, 258, 259, 260] h h')) = PP
  have r10 := W.n10
  refine r_aload_n (q := 1) (z := 0) C 0 rfl (by decide +kernel) rfl rfl ?_
  refine r_iload_n (q := 2) (z := 1) C 1 rfl (by decide +kernel) rfl rfl ?_
  refine cV1R (q := 5) C R rfl (by decide +kernel) lk_X6_118 (c_X6_find hL R0 r10) (by decide) (by decide) (by decide) rfl (by first | exact Nat.le_of_ble_eq_true rfl | (simp only [List.map_cons, List.map_nil, List.sum_cons, List.sum_nil, rv_cat]; exact Nat.le_of_ble_eq_true rfl)) rfl hL.kf ?_
  rintro _ _ ⟨rfl, rfl⟩
  refine wX_k0 C (fun hk0 => ?_)
  refine r_astore (q := 7) C 5 rfl (by decide +kernel) (by decide) (by first | rfl | exact okst_rv rfl) ?_
  dsimp only [List.set]
  refine r_aload (q := 9) C 5 rfl (by decide +kernel) rfl ?_
  refine r_ifnull (q := 12) (off := 11) (tgt := 20) C rfl (by decide +kernel) (by decide) (fun c9 => ?_) (fun c9 => ?_)
  · have hno : ¬ (0 ≤ x ∧ x < nI σ.n) := (rdA_0 hL hk0 r10).mp c9
    refine r_iconst (q := 21) (z := (-1)) (v := (-1)) C rfl (by decide +kernel) (by decide) ?_
    exact r_iret C (by decide +kernel) rfl (by decide) (by decide) (eqP hPP ⟨_, rfl, (by first | exact ⟨by rw [fitsV, cif_f hno], R0, Rc, Fm.rf⟩ | exact ⟨by rw [fitsV, cif_t hyr, nI_clamp (by omega), cif_t hl], R0, Rc, Fm.rf⟩)⟩)
  · have hyr : 0 ≤ x ∧ x < nI σ.n := Classical.not_not.mp (mt (rdA_0 hL hk0 r10).mpr c9)
    obtain ⟨r, hlt, rfl⟩ := ride_of r10 hyr
    rw [rdA_in r10 hlt]
    refine r_aload (q := 14) C 5 rfl (by decide +kernel) rfl ?_
    refine r_getI (q := 17) C 3 7 199 rfl (by decide +kernel) rfl (by decide) rfl rfl wf_X6_122 win3 (hL.kp hlt) ?_
    rw [R0.lie hlt]
    refine r_if_eq (q := 20) (off := 5) (tgt := 22) C rfl (by decide +kernel) (by decide) (fun c17 => ?_) (fun c17 => ?_)
    · have hl := of_decide_eq_false ((b2i_0 _).mp c17)
      refine r_aload_n (q := 23) (z := 0) C 0 rfl (by decide +kernel) rfl rfl ?_
      refine r_getR (q := 26) C 6 5 389 rfl (by decide +kernel) rfl (by decide) rfl rfl wf_X6_35 win6 hL.kf ?_
      refine r_aload (q := 28) C 5 rfl (by decide +kernel) rfl ?_
      refine r_getI (q := 31) C 3 1 193 rfl (by decide +kernel) rfl (by decide) rfl rfl wf_X6_126 win3 (hL.kp hlt) ?_
      rw [R0.wd hlt]
      refine r_aload (q := 33) C 5 rfl (by decide +kernel) rfl ?_
      refine r_getI (q := 36) C 3 2 194 rfl (by decide +kernel) rfl (by decide) rfl rfl wf_X6_129 win3 (hL.kp hlt) ?_
      rw [R0.hg hlt]
      refine r_iload_n (q := 37) (z := 2) C 2 rfl (by decide +kernel) rfl rfl ?_
      refine r_iload_n (q := 38) (z := 3) C 3 rfl (by decide +kernel) rfl rfl ?_
      refine r_iload (q := 40) C 4 rfl (by decide +kernel) rfl ?_
      refine cV5V (q := 43) C R rfl (by decide +kernel) lk_X6_132 (c_X4_put hL.k389) (by decide) (by decide) (by decide) rfl (by first | exact Nat.le_of_ble_eq_true rfl | (simp only [List.map_cons, List.map_nil, List.sum_cons, List.sum_nil, rv_cat]; exact Nat.le_of_ble_eq_true rfl)) rfl hL.k389 ?_
      rintro _ rfl
      obtain ⟨T1, T2, T3⟩ := tri (x := a) (y := b) (t := t) hL R0 W hlt
      refine r_aload_n (q := 44) (z := 0) C 0 rfl (by decide +kernel) rfl rfl ?_
      refine r_aload (q := 46) C 5 rfl (by decide +kernel) rfl ?_
      refine r_aload_n (q := 47) (z := 0) C 0 rfl (by decide +kernel) rfl rfl ?_
      refine r_getR (q := 50) C 6 5 389 rfl (by decide +kernel) rfl (by decide) rfl rfl wf_X6_35 win6 hL.kf ?_
      refine cV2I (q := 53) C R rfl (by decide +kernel) lk_X6_135 (c_X6_canLie (σ := σ) (L := L) hL T1 Rc W hlt T2) (by decide) (by decide) (by decide) rfl (by first | exact Nat.le_of_ble_eq_true rfl | (simp only [List.map_cons, List.map_nil, List.sum_cons, List.sum_nil, rv_cat]; exact Nat.le_of_ble_eq_true rfl)) rfl hL.kf ?_
      rintro _ _ ⟨t50, f50, q50, k50, rfl, rfl, ht50⟩
      refine r_if_eq (q := 56) (off := 7) (tgt := 60) C rfl (by decide +kernel) (by decide) (fun c53 => ?_) (fun c53 => ?_)
      · refine r_iconst (q := 61) (z := 0) (v := 0) C rfl (by decide +kernel) (by decide) ?_
        exact r_iret C (by decide +kernel) rfl (by decide) (by decide) (eqP hPP ⟨_, rfl, (by
              have FB : Fm [2, 3] [3, 256, 257, 258, 259, 260] h (bsx (spPut h (h.fr 389 g) (nI (σ.wd r)) (nI (σ.hg r)) a b t) (h.fr 384 g) f50 q50 k50) := Fm.bs (Fm.spPut.mono (by decide) (by decide)) hL.gn (by decide) (by decide) (by decide)
              have R9 : CRr σ (bsx (spPut h (h.fr 389 g) (nI (σ.wd r)) (nI (σ.hg r)) a b t) (h.fr 384 g) f50 q50 k50).fi h.fr g p := CRr.same hL T1 (fun g' a' _ hu => fi_ne (fun e => uses3 (e ▸ hu)))
              have hG := gLay_iff (σ := σ) (r := r) (x := a) (y := b) (t := t)
              refine ⟨?_, R9, CRc.fm FB hL (by decide) Rc, FB.mono (by decide) (by decide)⟩
              rw [fitsV, cif_t hyr, nI_clamp (by omega), cif_f hl]
              first
                | exact cif_f (fun e => by have := ht50.mpr (hG.mpr e); rw [(b2i_0 _).mp c53] at this; cases this)
                | exact cif_t (hG.mp (ht50.mp ((b2i_n0 _).mp c53))))⟩)
      · refine r_iconst (q := 57) (z := 1) (v := 1) C rfl (by decide +kernel) (by decide) ?_
        refine r_goto (off := 4) (tgt := 61) C (by decide +kernel) (by decide) ?_
        exact r_iret C (by decide +kernel) rfl (by decide) (by decide) (eqP hPP ⟨_, rfl, (by
              have FB : Fm [2, 3] [3, 256, 257, 258, 259, 260] h (bsx (spPut h (h.fr 389 g) (nI (σ.wd r)) (nI (σ.hg r)) a b t) (h.fr 384 g) f50 q50 k50) := Fm.bs (Fm.spPut.mono (by decide) (by decide)) hL.gn (by decide) (by decide) (by decide)
              have R9 : CRr σ (bsx (spPut h (h.fr 389 g) (nI (σ.wd r)) (nI (σ.hg r)) a b t) (h.fr 384 g) f50 q50 k50).fi h.fr g p := CRr.same hL T1 (fun g' a' _ hu => fi_ne (fun e => uses3 (e ▸ hu)))
              have hG := gLay_iff (σ := σ) (r := r) (x := a) (y := b) (t := t)
              refine ⟨?_, R9, CRc.fm FB hL (by decide) Rc, FB.mono (by decide) (by decide)⟩
              rw [fitsV, cif_t hyr, nI_clamp (by omega), cif_f hl]
              first
                | exact cif_f (fun e => by have := ht50.mpr (hG.mpr e); rw [(b2i_0 _).mp c53] at this; cases this)
                | exact cif_t (hG.mp (ht50.mp ((b2i_n0 _).mp c53))))⟩)
    · have hl := of_decide_eq_true ((b2i_n0 _).mp c17)
      refine r_iconst (q := 21) (z := (-1)) (v := (-1)) C rfl (by decide +kernel) (by decide) ?_
      exact r_iret C (by decide +kernel) rfl (by decide) (by decide) (eqP hPP ⟨_, rfl, (by first | exact ⟨by rw [fitsV, cif_f hno], R0, Rc, Fm.rf⟩ | exact ⟨by rw [fitsV, cif_t hyr, nI_clamp (by omega), cif_t hl], R0, Rc, Fm.rf⟩)⟩)
theorem c_X6_lay {G : GT} {h : HP} {g : Nat} {σ : SG} {p : Nat → Nat} {L : List Nat} {x a b : Int32} {t : Bool} (hL : LCl h.kd h.gl h.fr h.ar g σ.n p L) (R0 : CRr σ h.fi h.fr g p) (Rc : CRc σ h g) (W : WF σ) : Con G 8 0 0 yX6_lay cX6_lay 6 (some .boolean) [rv g, .int x, .int a, .int b, .int (b2i t)] h (PI (fun v h' => cif (layP σ x a b t) 1 0 = v ∧ CRr (cif (layP σ x a b t) (σ.li_ (upN σ.li x.toNatClampNeg (plc a b t))) σ) h'.fi h'.fr g p ∧ CRc (cif (layP σ x a b t) (σ.li_ (upN σ.li x.toNatClampNeg (plc a b t))) σ) h' g ∧ Fm [1, 2, 3] [3, 199, 256, 257, 258, 259, 260] h h')) := by
  refine Con.of (lv := [some (rv g), some (.int x), some (.int a), some (.int b), some (.int (b2i t)), none]) (by decide) (by simp only [lvE_r, lvE_i, lvE_l, lvE_s, lvE_0]; rfl) (by simp only [lgl_r, lgl_i, lgl_l, lgl_s, lgl_0]; decide) (fun Γ C R => ?_)
  generalize hPP : (PI (fun v h' => cif (layP σ x a b t) 1 0 = v ∧ CRr (cif (layP σ x a b t) (σ.li_ (upN σ.li x.toNatClampNeg (plc a b t))) σ) h'.fi h'.fr g p ∧ CRc (cif (layP σ x a b t) (σ.li_ (upN σ.li x.toNatClampNeg (plc a b t))) σ) h' g ∧ Fm [1, 2, 3] [3, 199, 256, 257, 258, 259, 260] h h')) = PP
  have r10 := W.n10
  refine r_aload_n (q := 1) (z := 0) C 0 rfl (by decide +kernel) rfl rfl ?_
  refine r_iload_n (q := 2) (z := 1) C 1 rfl (by decide +kernel) rfl rfl ?_
  refine cV1R (q := 5) C R rfl (by decide +kernel) lk_X6_118 (c_X6_find hL R0 r10) (by decide) (by decide) (by decide) rfl (by first | exact Nat.le_of_ble_eq_true rfl | (simp only [List.map_cons, List.map_nil, List.sum_cons, List.sum_nil, rv_cat]; exact Nat.le_of_ble_eq_true rfl)) rfl hL.kf ?_
  rintro _ _ ⟨rfl, rfl⟩
  refine wX_k0 C (fun hk0 => ?_)
  refine r_astore (q := 7) C 5 rfl (by decide +kernel) (by decide) (by first | rfl | exact okst_rv rfl) ?_
  dsimp only [List.set]
  refine r_aload (q := 9) C 5 rfl (by decide +kernel) rfl ?_
  refine r_ifnull (q := 12) (off := 11) (tgt := 20) C rfl (by decide +kernel) (by decide) (fun c9 => ?_) (fun c9 => ?_)
  · have hno : ¬ (0 ≤ x ∧ x < nI σ.n) := (rdA_0 hL hk0 r10).mp c9
    have hn : ¬ layP σ x a b t := fun e => hno e.1
    refine r_iconst (q := 21) (z := 0) (v := 0) C rfl (by decide +kernel) (by decide) ?_
    exact r_zret C (by decide +kernel) rfl (by first | decide | exact b2i_nar _) (by decide) (by decide) (eqP hPP ⟨_, rfl, (by
          rw [cif_f hn, cif_f hn]
          exact ⟨rfl, R0, Rc, Fm.rf⟩)⟩)
  · have hyr : 0 ≤ x ∧ x < nI σ.n := Classical.not_not.mp (mt (rdA_0 hL hk0 r10).mpr c9)
    obtain ⟨r, hlt, rfl⟩ := ride_of r10 hyr
    rw [rdA_in r10 hlt]
    refine r_aload (q := 14) C 5 rfl (by decide +kernel) rfl ?_
    refine r_getI (q := 17) C 3 7 199 rfl (by decide +kernel) rfl (by decide) rfl rfl wf_X6_122 win3 (hL.kp hlt) ?_
    rw [R0.lie hlt]
    refine r_if_eq (q := 20) (off := 5) (tgt := 22) C rfl (by decide +kernel) (by decide) (fun c17 => ?_) (fun c17 => ?_)
    · have hl := of_decide_eq_false ((b2i_0 _).mp c17)
      refine r_aload_n (q := 23) (z := 0) C 0 rfl (by decide +kernel) rfl rfl ?_
      refine r_getR (q := 26) C 6 5 389 rfl (by decide +kernel) rfl (by decide) rfl rfl wf_X6_35 win6 hL.kf ?_
      refine r_aload (q := 28) C 5 rfl (by decide +kernel) rfl ?_
      refine r_getI (q := 31) C 3 1 193 rfl (by decide +kernel) rfl (by decide) rfl rfl wf_X6_126 win3 (hL.kp hlt) ?_
      rw [R0.wd hlt]
      refine r_aload (q := 33) C 5 rfl (by decide +kernel) rfl ?_
      refine r_getI (q := 36) C 3 2 194 rfl (by decide +kernel) rfl (by decide) rfl rfl wf_X6_129 win3 (hL.kp hlt) ?_
      rw [R0.hg hlt]
      refine r_iload_n (q := 37) (z := 2) C 2 rfl (by decide +kernel) rfl rfl ?_
      refine r_iload_n (q := 38) (z := 3) C 3 rfl (by decide +kernel) rfl rfl ?_
      refine r_iload (q := 40) C 4 rfl (by decide +kernel) rfl ?_
      refine cV5V (q := 43) C R rfl (by decide +kernel) lk_X6_132 (c_X4_put hL.k389) (by decide) (by decide) (by decide) rfl (by first | exact Nat.le_of_ble_eq_true rfl | (simp only [List.map_cons, List.map_nil, List.sum_cons, List.sum_nil, rv_cat]; exact Nat.le_of_ble_eq_true rfl)) rfl hL.k389 ?_
      rintro _ rfl
      obtain ⟨T1, T2, T3⟩ := tri (x := a) (y := b) (t := t) hL R0 W hlt
      refine r_aload_n (q := 44) (z := 0) C 0 rfl (by decide +kernel) rfl rfl ?_
      refine r_aload (q := 46) C 5 rfl (by decide +kernel) rfl ?_
      refine cV1I (q := 49) C R rfl (by decide +kernel) lk_X6_139 (c_X6_layIfItFits (σ := σ) (L := L) (x := a) (y := b) (t := t) hL T1 Rc W hlt hl T2 T3) (by decide) (by decide) (by decide) rfl (by first | exact Nat.le_of_ble_eq_true rfl | (simp only [List.map_cons, List.map_nil, List.sum_cons, List.sum_nil, rv_cat]; exact Nat.le_of_ble_eq_true rfl)) rfl hL.kf ?_
      rintro _ h46 ⟨b46, rfl, hb46, R46, Rc46, F46⟩
      exact r_zret C (by decide +kernel) rfl (by first | decide | exact b2i_nar _) (by decide) (by decide) (eqP hPP ⟨_, rfl, (by
            have F9 : Fm [1, 2, 3] [3, 199, 256, 257, 258, 259, 260] h h46 := (Fm.spPut.mono (by decide) (by decide)).tr F46
            cases b46 with
            | true =>
              have hy : layP σ (nI r) a b t := ⟨hyr, by rw [nI_clamp (by omega)]; exact hl, (hb46.mp rfl).1, by rw [nI_clamp (by omega)]; exact (hb46.mp rfl).2⟩
              rw [cif_t hy, cif_t hy, nI_clamp (by omega)]
              exact ⟨rfl, R46, Rc46, F9⟩
            | false =>
              have hn : ¬ layP σ (nI r) a b t := fun e => by have h1 := e.2.2; rw [nI_clamp (by omega)] at h1; have := hb46.mpr h1; cases this
              rw [cif_f hn, cif_f hn]
              exact ⟨rfl, R46, Rc46, F9⟩)⟩)
    · have hl := of_decide_eq_true ((b2i_n0 _).mp c17)
      have hn : ¬ layP σ (nI r) a b t := fun e => e.2.1 (by rw [nI_clamp (by omega)]; exact hl)
      refine r_iconst (q := 21) (z := 0) (v := 0) C rfl (by decide +kernel) (by decide) ?_
      exact r_zret C (by decide +kernel) rfl (by first | decide | exact b2i_nar _) (by decide) (by decide) (eqP hPP ⟨_, rfl, (by
            rw [cif_f hn, cif_f hn]
            exact ⟨rfl, R0, Rc, Fm.rf⟩)⟩)
theorem c_X6_take {G : GT} {h : HP} {g : Nat} {σ : SG} {p : Nat → Nat} {L : List Nat} {x : Int32} (hL : LCl h.kd h.gl h.fr h.ar g σ.n p L) (R0 : CRr σ h.fi h.fr g p) (Rc : CRc σ h g) (W : WF σ) (J : JN σ) : Con G 5 0 0 yX6_take cX6_take 3 (some .boolean) [rv g, .int x] h (PI (fun v h' => cif ((0 ≤ x ∧ x < nI σ.n) ∧ σ.li x.toNatClampNeg < 240) 1 0 = v ∧ CRr (cif ((0 ≤ x ∧ x < nI σ.n) ∧ σ.li x.toNatClampNeg < 240) (σ.li_ (upN σ.li x.toNatClampNeg 240)) σ) h'.fi h'.fr g p ∧ CRc (cif ((0 ≤ x ∧ x < nI σ.n) ∧ σ.li x.toNatClampNeg < 240) (σ.li_ (upN σ.li x.toNatClampNeg 240)) σ) h' g ∧ Fm [1] [199] h h')) := by
  refine Con.of (lv := [some (rv g), some (.int x), none]) (by decide) (by simp only [lvE_r, lvE_i, lvE_l, lvE_s, lvE_0]; rfl) (by simp only [lgl_r, lgl_i, lgl_l, lgl_s, lgl_0]; decide) (fun Γ C R => ?_)
  generalize hPP : (PI (fun v h' => cif ((0 ≤ x ∧ x < nI σ.n) ∧ σ.li x.toNatClampNeg < 240) 1 0 = v ∧ CRr (cif ((0 ≤ x ∧ x < nI σ.n) ∧ σ.li x.toNatClampNeg < 240) (σ.li_ (upN σ.li x.toNatClampNeg 240)) σ) h'.fi h'.fr g p ∧ CRc (cif ((0 ≤ x ∧ x < nI σ.n) ∧ σ.li x.toNatClampNeg < 240) (σ.li_ (upN σ.li x.toNatClampNeg 240)) σ) h' g ∧ Fm [1] [199] h h')) = PP
  have r10 := W.n10
  refine r_aload_n (q := 1) (z := 0) C 0 rfl (by decide +kernel) rfl rfl ?_
  refine r_iload_n (q := 2) (z := 1) C 1 rfl (by decide +kernel) rfl rfl ?_
  refine cV1R (q := 5) C R rfl (by decide +kernel) lk_X6_118 (c_X6_find hL R0 r10) (by decide) (by decide) (by decide) rfl (by first | exact Nat.le_of_ble_eq_true rfl | (simp only [List.map_cons, List.map_nil, List.sum_cons, List.sum_nil, rv_cat]; exact Nat.le_of_ble_eq_true rfl)) rfl hL.kf ?_
  rintro _ _ ⟨rfl, rfl⟩
  refine wX_k0 C (fun hk0 => ?_)
  refine r_astore_n (q := 6) (z := 2) C 2 rfl (by decide +kernel) rfl (by decide) (by first | rfl | exact okst_rv rfl) ?_
  dsimp only [List.set]
  refine r_aload_n (q := 7) (z := 2) C 2 rfl (by decide +kernel) rfl rfl ?_
  refine r_ifnull (q := 10) (off := 10) (tgt := 17) C rfl (by decide +kernel) (by decide) (fun c7 => ?_) (fun c7 => ?_)
  · have hno : ¬ (0 ≤ x ∧ x < nI σ.n) := (rdA_0 hL hk0 r10).mp c7
    have hn : ¬ ((0 ≤ x ∧ x < nI σ.n) ∧ σ.li x.toNatClampNeg < 240) := fun e => hno e.1
    refine r_iconst (q := 18) (z := 0) (v := 0) C rfl (by decide +kernel) (by decide) ?_
    exact r_zret C (by decide +kernel) rfl (by first | decide | exact b2i_nar _) (by decide) (by decide) (eqP hPP ⟨_, rfl, (by
          rw [cif_f hn, cif_f hn]
          exact ⟨rfl, R0, Rc, Fm.rf⟩)⟩)
  · have hyr : 0 ≤ x ∧ x < nI σ.n := Classical.not_not.mp (mt (rdA_0 hL hk0 r10).mpr c7)
    obtain ⟨r, hlt, rfl⟩ := ride_of r10 hyr
    rw [rdA_in r10 hlt]
    refine r_aload_n (q := 11) (z := 2) C 2 rfl (by decide +kernel) rfl rfl ?_
    refine r_getI (q := 14) C 3 7 199 rfl (by decide +kernel) rfl (by decide) rfl rfl wf_X6_122 win3 (hL.kp hlt) ?_
    rw [R0.lie hlt]
    refine r_if_ne (q := 17) (off := 5) (tgt := 19) C rfl (by decide +kernel) (by decide) (fun c14 => ?_) (fun c14 => ?_)
    · have hl := of_decide_eq_true ((b2i_n0 _).mp c14)
      refine r_aload_n (q := 20) (z := 0) C 0 rfl (by decide +kernel) rfl rfl ?_
      refine r_aload_n (q := 21) (z := 2) C 2 rfl (by decide +kernel) rfl rfl ?_
      refine cV1V (q := 24) C R rfl (by decide +kernel) lk_X6_143 (c_X6_takeAway hL R0 Rc W J hlt hl) (by decide) (by decide) (by decide) rfl (by first | exact Nat.le_of_ble_eq_true rfl | (simp only [List.map_cons, List.map_nil, List.sum_cons, List.sum_nil, rv_cat]; exact Nat.le_of_ble_eq_true rfl)) rfl hL.kf ?_
      rintro h21 ⟨R21, Rc21, F21⟩
      refine r_iconst (q := 25) (z := 1) (v := 1) C rfl (by decide +kernel) (by decide) ?_
      exact r_zret C (by decide +kernel) rfl (by first | decide | exact b2i_nar _) (by decide) (by decide) (eqP hPP ⟨_, rfl, (by
            have hy : (0 ≤ nI r ∧ nI r < nI σ.n) ∧ σ.li (nI r).toNatClampNeg < 240 := ⟨hyr, by rw [nI_clamp (by omega)]; exact hl⟩
            rw [cif_t hy, cif_t hy, nI_clamp (by omega)]
            exact ⟨rfl, R21, Rc21, F21⟩)⟩)
    · have hl := of_decide_eq_false ((b2i_0 _).mp c14)
      have hn : ¬ ((0 ≤ nI r ∧ nI r < nI σ.n) ∧ σ.li (nI r).toNatClampNeg < 240) := fun e => hl (by have := e.2; rw [nI_clamp (by omega)] at this; exact this)
      refine r_iconst (q := 18) (z := 0) (v := 0) C rfl (by decide +kernel) (by decide) ?_
      exact r_zret C (by decide +kernel) rfl (by first | decide | exact b2i_nar _) (by decide) (by decide) (eqP hPP ⟨_, rfl, (by
            rw [cif_f hn, cif_f hn]
            exact ⟨rfl, R0, Rc, Fm.rf⟩)⟩)
