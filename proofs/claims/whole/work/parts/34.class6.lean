/-! ===== change: the class ===== -/
def ush (x z : Int32) : Int32 := (x.toUInt32 >>> (z.toUInt32 &&& Int32.toUInt32 31)).toInt32
def bc1 (i : Int32) : Int32 := i - (ush i 1 &&& 1431655765)
def bc2 (i : Int32) : Int32 := (i &&& 858993459) + (ush i 2 &&& 858993459)
def bc3 (i : Int32) : Int32 := (i + ush i 4) &&& 252645135
def bc4 (i : Int32) : Int32 := i + ush i 8
def bc5 (i : Int32) : Int32 := i + ush i 16
theorem bitc0 : ∀ s : Fin 1024, nI (pop s.val) = (bc5 (bc4 (bc3 (bc2 (bc1 (nI s.val)))))) &&& 63 := by decide +kernel
theorem bitc {s : Nat} (h : s < 1024) : nI (pop s) = (bc5 (bc4 (bc3 (bc2 (bc1 (nI s)))))) &&& 63 := bitc0 ⟨s, h⟩
theorem cell_open {σ : SG} (hn : σ.n ≤ 10) (c : Nat) : (¬ cellV σ c < -1 ↔ σ.cl c = false) ∧ (cellV σ c = -2 ↔ σ.cl c = true) := by
  rcases cell_cases (σ := σ) hn c with ⟨e1, e2⟩ | ⟨e1, -, e2⟩ | ⟨e1, -, e2⟩
  · rw [e1, e2]; exact ⟨⟨fun h => absurd (by decide) h, fun h => by cases h⟩, ⟨fun _ => rfl, fun _ => rfl⟩⟩
  · rw [e1, e2]; exact ⟨⟨fun _ => rfl, fun _ => by decide⟩, ⟨fun h => absurd h (by decide), fun h => by cases h⟩⟩
  · rw [e1]
    refine ⟨⟨fun _ => rfl, fun _ h => ?_⟩, ⟨fun h => ?_, fun h => by cases h⟩⟩
    · exact absurd (Int32.lt_of_le_of_lt e2 h) (by decide)
    · rw [h] at e2; exact absurd e2 (by decide)
theorem ovl {σ : SG} (W : WF σ) {a b w z k : Nat} (hw : 1 ≤ w) (hz : 1 ≤ z) (hon : a + w ≤ 12 ∧ b + z < 10) (hk : k < σ.n) (hl : σ.li k < 240) : (gp (nI a) (nI w) (nI (px (σ.li k))) (nI (σ.wA k (σ.li k))) < 0 ∧ gp (nI b) (nI z) (nI (py (σ.li k))) (nI (σ.hA k (σ.li k))) < 0) ↔ anyb (fun c => inn a b w z c && σ.cv k c) 120 = true := by
  have h1 := W.2.2.2.2.1 k hk hl
  have h2 := W.wA hk (σ.li k)
  have h3 := W.hA hk (σ.li k)
  unfold SG.onG at h1
  rw [gp_neg (by omega) (by omega) (by omega) (by omega), gp_neg (by omega) (by omega) (by omega) (by omega), anyb_iff]
  have hcv : ∀ c, σ.cv k c = inn (px (σ.li k)) (py (σ.li k)) (σ.wA k (σ.li k)) (σ.hA k (σ.li k)) c := fun c => by show (decide (σ.li k < 240) && _) = _; rw [decide_eq_true hl, Bool.true_and]; rfl
  constructor
  · rintro ⟨⟨x1, x2⟩, y1, y2⟩
    refine ⟨12 * (if b ≤ py (σ.li k) then py (σ.li k) else b) + (if a ≤ px (σ.li k) then px (σ.li k) else a), ?_, ?_⟩
    · split <;> split <;> omega
    · rw [Bool.and_eq_true, hcv, inn_iff, inn_iff]
      split <;> split <;> omega
  · rintro ⟨c, hc, e⟩
    rw [Bool.and_eq_true, hcv, inn_iff, inn_iff] at e
    omega
theorem tri2 {h : HP} {g q w0 z0 : Nat} {σ : SG} {p : Nat → Nat} {L : List Nat} (hL : LCl h.kd h.gl h.fr h.ar g σ.n p L) (R : CRr σ h.fi h.fr g p) (hw : 1 ≤ w0 ∧ w0 ≤ 4) (hz : 1 ≤ z0 ∧ z0 ≤ 4) : CRr σ (spPut h (h.fr 389 g) (nI w0) (nI z0) (nI (px q)) (nI (py q)) (decide (q % 2 = 1))).fi h.fr g p ∧ SpT h.kd (spPut h (h.fr 389 g) (nI w0) (nI z0) (nI (px q)) (nI (py q)) (decide (q % 2 = 1))).fi (h.fr 389 g) (nI (px q)) (nI (py q)) (wAt w0 z0 q) (wAt z0 w0 q) := by
  obtain ⟨e1, e2, e3, e4, e5⟩ := spPut_at (h := h) (a := h.fr 389 g) (w := nI w0) (z := nI z0) (x := nI (px q)) (y := nI (py q)) (t := decide (q % 2 = 1))
  refine ⟨CRr.same hL R (fun g' a ha _ => spPut_fi ha), hL.k389, e1, e2, ?_, ?_, wAt_r hw hz, wAt_r hz hw⟩
  · rw [e3]; unfold wAt
    by_cases h9 : q % 2 = 1
    · simp [h9]
    · simp [h9]
  · rw [e4]; unfold wAt
    by_cases h9 : q % 2 = 1
    · simp [h9]
    · simp [h9]
def fw (x : Nat × Nat) : Int32 := if x.1 < 240 then nI (pop x.2) else 11
def bm (x : Nat × Nat) : Int32 := if x.1 < 240 then nI x.2 else -2
theorem pop_le (s : Nat) : pop s ≤ 10 := popk_le s 10
theorem fw_lt {s : Nat} {x : Nat × Nat} : nI (pop s) < fw x ↔ (¬ x.1 < 240 ∨ pop s < pop x.2) := by
  have h1 := pop_le s
  have h2 := pop_le x.2
  unfold fw; split
  · rename_i h
    rw [nI_ltI (by omega) (by omega)]
    exact ⟨Or.inr, fun e => e.resolve_left (fun q => q h)⟩
  · rename_i h
    rw [show (11 : Int32) = nI 11 from rfl, nI_ltI (by omega) (by omega)]
    exact ⟨fun _ => Or.inl h, fun _ => by omega⟩
theorem chg_y {σ : SG} {r w z q : Nat} (h : σ.gok r (px q) (py q) (wAt w z q) (wAt z w q) = true) (h2 : ¬ (chg σ r w z q).1 < 240 ∨ pop (mset (σ.mvq r (px q) (py q) (wAt w z q) (wAt z w q)) σ.n) < pop (chg σ r w z q).2) : chg σ r w z (q + 1) = (q, mset (σ.mvq r (px q) (py q) (wAt w z q) (wAt z w q)) σ.n) := by
  simp only [chg]; rw [h, if_pos]
  rw [Bool.true_and, Bool.or_eq_true, decide_eq_true_eq, decide_eq_true_eq]; exact h2
theorem chg_n {σ : SG} {r w z q : Nat} (h : ¬ (σ.gok r (px q) (py q) (wAt w z q) (wAt z w q) = true ∧ (¬ (chg σ r w z q).1 < 240 ∨ pop (mset (σ.mvq r (px q) (py q) (wAt w z q) (wAt z w q)) σ.n) < pop (chg σ r w z q).2))) : chg σ r w z (q + 1) = chg σ r w z q := by
  simp only [chg]; rw [if_neg]
  rw [Bool.and_eq_true, Bool.or_eq_true, decide_eq_true_eq, decide_eq_true_eq]; exact h

theorem k01 {k : Int32} (h : 0 ≤ k ∧ k ≤ 1) (h1 : ¬ k = 1) : k = 0 := by
  obtain ⟨x1, x2, x3⟩ := nI_rng2 (a := 0) (b := 1) (by decide) h.1 h.2 (by decide)
  rcases (show k.toNatClampNeg = 0 ∨ k.toNatClampNeg = 1 by omega) with e | e
  · rw [x3, e]; rfl
  · exact absurd (by rw [x3, e]; rfl) h1
theorem c_J6_bitCount_0f7a4 {G : GT} {h : HP} {s : Nat} (hs : s < 1024) : Con G 1 0 0 yJ6_bitCount_0f7a4 cJ6_bitCount_0f7a4 1 (some .int) [.int (nI s)] h (PI (fun v h' => nI (pop s) = v ∧ h = h')) := by
  refine Con.of (lv := [some (.int (nI s))]) (by decide) (by simp only [lvE_r, lvE_i, lvE_l, lvE_s, lvE_0]; rfl) (by simp only [lgl_r, lgl_i, lgl_l, lgl_s, lgl_0]; decide) (fun Γ C R => ?_)
  generalize hPP : (PI (fun v h' => nI (pop s) = v ∧ h = h')) = PP
  refine r_iload_n (q := 1) (z := 0) C 0 rfl (by decide +kernel) rfl rfl ?_
  refine r_iload_n (q := 2) (z := 0) C 0 rfl (by decide +kernel) rfl rfl ?_
  refine r_iconst (q := 3) (z := 1) (v := 1) C rfl (by decide +kernel) (by decide) ?_
  refine r_iushr (q := 4) C rfl (by decide +kernel) ?_
  refine r_ldcw (q := 7) C rfl (by decide +kernel) wc_J6_265 ?_
  refine r_iand (q := 8) C rfl (by decide +kernel) ?_
  refine r_isub (q := 9) C rfl (by decide +kernel) ?_
  change wX _ _ _ _ _ _ _ _ (.int (bc1 (nI s)) :: _)
  refine r_istore_n (q := 10) (z := 0) C 0 rfl (by decide +kernel) rfl (by decide) (by first | rfl | exact okst_rv rfl) ?_
  dsimp only [List.set]
  refine r_iload_n (q := 11) (z := 0) C 0 rfl (by decide +kernel) rfl rfl ?_
  refine r_ldcw (q := 14) C rfl (by decide +kernel) wc_J6_266 ?_
  refine r_iand (q := 15) C rfl (by decide +kernel) ?_
  refine r_iload_n (q := 16) (z := 0) C 0 rfl (by decide +kernel) rfl rfl ?_
  refine r_iconst (q := 17) (z := 2) (v := 2) C rfl (by decide +kernel) (by decide) ?_
  refine r_iushr (q := 18) C rfl (by decide +kernel) ?_
  refine r_ldcw (q := 21) C rfl (by decide +kernel) wc_J6_266 ?_
  refine r_iand (q := 22) C rfl (by decide +kernel) ?_
  refine r_iadd (q := 23) C rfl (by decide +kernel) ?_
  change wX _ _ _ _ _ _ _ _ (.int (bc2 (bc1 (nI s))) :: _)
  refine r_istore_n (q := 24) (z := 0) C 0 rfl (by decide +kernel) rfl (by decide) (by first | rfl | exact okst_rv rfl) ?_
  dsimp only [List.set]
  refine r_iload_n (q := 25) (z := 0) C 0 rfl (by decide +kernel) rfl rfl ?_
  refine r_iload_n (q := 26) (z := 0) C 0 rfl (by decide +kernel) rfl rfl ?_
  refine r_iconst (q := 27) (z := 4) (v := 4) C rfl (by decide +kernel) (by decide) ?_
  refine r_iushr (q := 28) C rfl (by decide +kernel) ?_
  refine r_iadd (q := 29) C rfl (by decide +kernel) ?_
  refine r_ldcw (q := 32) C rfl (by decide +kernel) wc_J6_267 ?_
  refine r_iand (q := 33) C rfl (by decide +kernel) ?_
  change wX _ _ _ _ _ _ _ _ (.int (bc3 (bc2 (bc1 (nI s)))) :: _)
  refine r_istore_n (q := 34) (z := 0) C 0 rfl (by decide +kernel) rfl (by decide) (by first | rfl | exact okst_rv rfl) ?_
  dsimp only [List.set]
  refine r_iload_n (q := 35) (z := 0) C 0 rfl (by decide +kernel) rfl rfl ?_
  refine r_iload_n (q := 36) (z := 0) C 0 rfl (by decide +kernel) rfl rfl ?_
  refine r_bipush (q := 38) (z := 8) (v := 8) C rfl (by decide +kernel) (by decide) ?_
  refine r_iushr (q := 39) C rfl (by decide +kernel) ?_
  refine r_iadd (q := 40) C rfl (by decide +kernel) ?_
  change wX _ _ _ _ _ _ _ _ (.int (bc4 (bc3 (bc2 (bc1 (nI s))))) :: _)
  refine r_istore_n (q := 41) (z := 0) C 0 rfl (by decide +kernel) rfl (by decide) (by first | rfl | exact okst_rv rfl) ?_
  dsimp only [List.set]
  refine r_iload_n (q := 42) (z := 0) C 0 rfl (by decide +kernel) rfl rfl ?_
  refine r_iload_n (q := 43) (z := 0) C 0 rfl (by decide +kernel) rfl rfl ?_
  refine r_bipush (q := 45) (z := 16) (v := 16) C rfl (by decide +kernel) (by decide) ?_
  refine r_iushr (q := 46) C rfl (by decide +kernel) ?_
  refine r_iadd (q := 47) C rfl (by decide +kernel) ?_
  change wX _ _ _ _ _ _ _ _ (.int (bc5 (bc4 (bc3 (bc2 (bc1 (nI s)))))) :: _)
  refine r_istore_n (q := 48) (z := 0) C 0 rfl (by decide +kernel) rfl (by decide) (by first | rfl | exact okst_rv rfl) ?_
  dsimp only [List.set]
  refine r_iload_n (q := 49) (z := 0) C 0 rfl (by decide +kernel) rfl rfl ?_
  refine r_bipush (q := 51) (z := 63) (v := 63) C rfl (by decide +kernel) (by decide) ?_
  refine r_iand (q := 52) C rfl (by decide +kernel) ?_
  exact r_iret C (by decide +kernel) rfl (by decide) (by decide) (eqP hPP ⟨_, rfl, ⟨bitc hs, rfl⟩⟩)
theorem c_X6_couldGrowTo {G : GT} {h : HP} {g : Nat} {σ : SG} {p : Nat → Nat} {L : List Nat} {s r a b w z : Nat} (hL : LCl h.kd h.gl h.fr h.ar g σ.n p L) (R0 : CRr σ h.fi h.fr g p) (Rc : CRc σ h g) (W : WF σ) (hr : r < σ.n) (hl : σ.li r < 240) (hs : SpT h.kd h.fi s (nI a) (nI b) w z) (ha : a < 12) (hb : b < 10) : Con G 4 0 0 yX6_couldGrowTo cX6_couldGrowTo 3 (some .boolean) [rv g, rv (p r), rv s] h (PI (fun v h' => b2i (σ.gok r a b w z) = v ∧ h = h')) := by
  refine Con.of (lv := [some (rv g), some (rv (p r)), some (rv s)]) (by decide) (by simp only [lvE_r, lvE_i, lvE_l, lvE_s, lvE_0]; rfl) (by simp only [lgl_r, lgl_i, lgl_l, lgl_s, lgl_0]; decide) (fun Γ C R => ?_)
  generalize hPP : (PI (fun v h' => b2i (σ.gok r a b w z) = v ∧ h = h')) = PP
  obtain ⟨s1, s2, s3, s4, s5, s6, s7⟩ := id hs
  have r10 := W.n10
  have g10 := W.gr10
  obtain ⟨g1, g2, g3, g4, g5, g6, g7⟩ := id hL.gn
  obtain ⟨p1, p2, p3, p4, -⟩ := R0.sp hr hl
  refine r_aload_n (q := 1) (z := 2) C 2 rfl (by decide +kernel) rfl rfl ?_
  refine cV0I (q := 4) C R rfl (by decide +kernel) lk_X6_264 (c_X4_isOnGreen s1) (by decide) (by decide) (by decide) rfl (by first | exact Nat.le_of_ble_eq_true rfl | (simp only [List.map_cons, List.map_nil, List.sum_cons, List.sum_nil, rv_cat]; exact Nat.le_of_ble_eq_true rfl)) rfl s1 ?_
  rintro _ _ ⟨rfl, rfl⟩
  rw [s2, s3, s4, s5]
  refine r_if_eq (q := 7) (off := 65) (tgt := 69) C rfl (by decide +kernel) (by decide) (fun c4 => ?_) (fun c4 => ?_)
  · have hno : ¬ (a + w ≤ 12 ∧ b + z < 10) := fun e => of_decide_eq_false ((b2i_0 _).mp c4) ((onG_iff (by omega) (by omega)).mpr ⟨a, b, ha, hb, rfl, rfl, e⟩)
    have hN : σ.gok r a b w z = false := by unfold SG.gok; rw [decide_eq_false hno]; rfl
    refine r_iconst (q := 70) (z := 0) (v := 0) C rfl (by decide +kernel) (by decide) ?_
    exact r_zret C (by decide +kernel) rfl (by first | decide | exact b2i_nar _) (by decide) (by decide) (eqP hPP ⟨_, rfl, ⟨by first | (rw [hY]; rfl) | (rw [hN]; rfl), rfl⟩⟩)
  · have hon : a + w ≤ 12 ∧ b + z < 10 := by
      obtain ⟨a', b', -, -, e1, e2, e3⟩ := (onG_iff (by omega) (by omega)).mp (of_decide_eq_true ((b2i_n0 _).mp c4))
      rw [show a = a' from (nI_eq (by omega) (by omega)).mp e1, show b = b' from (nI_eq (by omega) (by omega)).mp e2]; exact e3
    refine r_aload_n (q := 8) (z := 2) C 2 rfl (by decide +kernel) rfl rfl ?_
    refine r_aload_n (q := 9) (z := 1) C 1 rfl (by decide +kernel) rfl rfl ?_
    refine r_getR (q := 12) C 3 6 198 rfl (by decide +kernel) rfl (by decide) rfl rfl wf_X6_221 win3 (hL.kp hr) ?_
    refine cV1I (q := 15) C R rfl (by decide +kernel) lk_X6_294 (c_X4_overlaps s1 (hL.ks hr)) (by decide) (by decide) (by decide) rfl (by first | exact Nat.le_of_ble_eq_true rfl | (simp only [List.map_cons, List.map_nil, List.sum_cons, List.sum_nil, rv_cat]; exact Nat.le_of_ble_eq_true rfl)) rfl s1 ?_
    rintro _ _ ⟨rfl, rfl⟩
    rw [s2, s3, s4, s5, p1, p2, p3, p4]
    refine r_if_eq (q := 18) (off := 54) (tgt := 69) C rfl (by decide +kernel) (by decide) (fun c15 => ?_) (fun c15 => ?_)
    · have hN : σ.gok r a b w z = false := by
        have h9 := mt (ovl W s6.1 s7.1 hon hr hl).mpr (of_decide_eq_false ((b2i_0 _).mp c15))
        unfold SG.gok
        rw [Bool.not_eq_true] at h9
        rw [h9, Bool.and_false]
      refine r_iconst (q := 70) (z := 0) (v := 0) C rfl (by decide +kernel) (by decide) ?_
      exact r_zret C (by decide +kernel) rfl (by first | decide | exact b2i_nar _) (by decide) (by decide) (eqP hPP ⟨_, rfl, ⟨by first | (rw [hY]; rfl) | (rw [hN]; rfl), rfl⟩⟩)
    · have hov := (ovl W s6.1 s7.1 hon hr hl).mp (of_decide_eq_true ((b2i_n0 _).mp c15))
      refine r_aload_n (q := 19) (z := 2) C 2 rfl (by decide +kernel) rfl rfl ?_
      refine r_iconst (q := 20) (z := 0) (v := nI 0) C rfl (by decide +kernel) (by decide) ?_
      refine r_aload_n (q := 21) (z := 0) C 0 rfl (by decide +kernel) rfl rfl ?_
      refine r_getR (q := 24) C 6 0 384 rfl (by decide +kernel) rfl (by decide) rfl rfl wf_X6_10 win6 hL.kf ?_
      refine r_getI (q := 27) C 0 4 4 rfl (by decide +kernel) rfl (by decide) rfl rfl wf_X6_99 win0 hL.kg ?_
      rw [R0.2.2.1]
      refine cV2I (q := 30) C R rfl (by decide +kernel) lk_X6_267 (c_X4_covers s1) (by decide) (by decide) (by decide) rfl (by first | exact Nat.le_of_ble_eq_true rfl | (simp only [List.map_cons, List.map_nil, List.sum_cons, List.sum_nil, rv_cat]; exact Nat.le_of_ble_eq_true rfl)) rfl s1 ?_
      rintro _ _ ⟨rfl, rfl⟩
      rw [s2, s3, s4, s5]
      refine r_if_ne (q := 33) (off := 39) (tgt := 69) C rfl (by decide +kernel) (by decide) (fun c30 => ?_) (fun c30 => ?_)
      · have hin : inn a b w z (12 * σ.gr) = true := (cov_iff (x := 0) (by omega) (by omega) (by omega) (by omega) (by decide) (by omega)).mp (of_decide_eq_true ((b2i_n0 _).mp c30))
        have hN : σ.gok r a b w z = false := by unfold SG.gok; rw [hin]; simp
        refine r_iconst (q := 70) (z := 0) (v := 0) C rfl (by decide +kernel) (by decide) ?_
        exact r_zret C (by decide +kernel) rfl (by first | decide | exact b2i_nar _) (by decide) (by decide) (eqP hPP ⟨_, rfl, ⟨by first | (rw [hY]; rfl) | (rw [hN]; rfl), rfl⟩⟩)
      · have hin : inn a b w z (12 * σ.gr) = false := by
          cases e : inn a b w z (12 * σ.gr) with
          | false => rfl
          | true => exact absurd ((cov_iff (x := 0) (by omega) (by omega) (by omega) (by omega) (by decide) (by omega)).mpr e) (of_decide_eq_false ((b2i_0 _).mp c30))
        refine r_aload_n (q := 34) (z := 0) C 0 rfl (by decide +kernel) rfl rfl ?_
        refine r_getR (q := 37) C 6 0 384 rfl (by decide +kernel) rfl (by decide) rfl rfl wf_X6_10 win6 hL.kf ?_
        refine r_aload_n (q := 38) (z := 2) C 2 rfl (by decide +kernel) rfl rfl ?_
        refine r_iconst (q := 39) (z := 0) (v := b2i false) C rfl (by decide +kernel) (by decide) ?_
        refine cV2I (q := 42) C R rfl (by decide +kernel) lk_X6_270 (c_X0_isOpen (x := a) (y := b) (w := w) (z := z) hL.gn ⟨s1, s2, s3, s4, s5, hon.1, by omega⟩) (by decide) (by decide) (by decide) rfl (by first | exact Nat.le_of_ble_eq_true rfl | (simp only [List.map_cons, List.map_nil, List.sum_cons, List.sum_nil, rv_cat]; exact Nat.le_of_ble_eq_true rfl)) rfl hL.kg ?_
        rintro _ _ ⟨t39, rfl, ht39, rfl⟩
        have ht39b : t39 = true ↔ anyb (fun c => inn a b w z c && σ.cl c) 120 = false := by
          rw [ht39, anyb_f]
          constructor
          · intro h9 c hc
            cases e : inn a b w z c with
            | false => rfl
            | true =>
              have := (h9 c hc e).1
              rw [Rc c hc, (cell_open r10 c).1] at this
              rw [this]; rfl
          · intro h9 c hc e
            have h8 := h9 c hc
            rw [e, Bool.true_and] at h8
            refine ⟨?_, fun q => by cases q⟩
            rw [Rc c hc]; exact (cell_open r10 c).1.mpr h8
        refine r_if_eq (q := 45) (off := 27) (tgt := 69) C rfl (by decide +kernel) (by decide) (fun c42 => ?_) (fun c42 => ?_)
        · have hN : σ.gok r a b w z = false := by
            have h9 : anyb (fun c => inn a b w z c && σ.cl c) 120 = true := by
              cases e : anyb (fun c => inn a b w z c && σ.cl c) 120 with
              | true => rfl
              | false => have := ht39b.mpr e; rw [(b2i_0 _).mp c42] at this; cases this
            unfold SG.gok; rw [h9]; simp
          refine r_iconst (q := 70) (z := 0) (v := 0) C rfl (by decide +kernel) (by decide) ?_
          exact r_zret C (by decide +kernel) rfl (by first | decide | exact b2i_nar _) (by decide) (by decide) (eqP hPP ⟨_, rfl, ⟨by first | (rw [hY]; rfl) | (rw [hN]; rfl), rfl⟩⟩)
        · have hcl := ht39b.mp ((b2i_n0 _).mp c42)
          refine r_aload_n (q := 46) (z := 0) C 0 rfl (by decide +kernel) rfl rfl ?_
          refine r_getR (q := 49) C 6 0 384 rfl (by decide +kernel) rfl (by decide) rfl rfl wf_X6_10 win6 hL.kf ?_
          refine r_aload_n (q := 50) (z := 2) C 2 rfl (by decide +kernel) rfl rfl ?_
          refine cV0I (q := 53) C R rfl (by decide +kernel) lk_X6_230 (c_X4_doorX s1) (by decide) (by decide) (by decide) rfl (by first | exact Nat.le_of_ble_eq_true rfl | (simp only [List.map_cons, List.map_nil, List.sum_cons, List.sum_nil, rv_cat]; exact Nat.le_of_ble_eq_true rfl)) rfl s1 ?_
          rintro _ _ ⟨rfl, rfl⟩
          rw [s2, s4, half_nI (by omega) (by omega)]
          refine r_aload_n (q := 54) (z := 2) C 2 rfl (by decide +kernel) rfl rfl ?_
          refine cV0I (q := 57) C R rfl (by decide +kernel) lk_X6_227 (c_X4_doorY s1) (by decide) (by decide) (by decide) rfl (by first | exact Nat.le_of_ble_eq_true rfl | (simp only [List.map_cons, List.map_nil, List.sum_cons, List.sum_nil, rv_cat]; exact Nat.le_of_ble_eq_true rfl)) rfl s1 ?_
          rintro _ _ ⟨rfl, rfl⟩
          rw [s3, s5, nI_add]
          refine cV2I (q := 60) C R rfl (by decide +kernel) lk_X6_76 (c_X0_at hL.kg g2) (by decide) (by decide) (by decide) rfl (by first | exact Nat.le_of_ble_eq_true rfl | (simp only [List.map_cons, List.map_nil, List.sum_cons, List.sum_nil, rv_cat]; exact Nat.le_of_ble_eq_true rfl)) rfl hL.kg ?_
          rintro _ _ ⟨rfl, rfl⟩
          rw [if_pos (hasC_nI (by omega) (by omega)), cIx, nI_clamp (by omega), Rc _ (by omega), show 12 * (b + z) + (a + (w - 1) / 2) = dcl a b w z by unfold dcl; omega]
          refine r_bipush (q := 62) (z := (-2)) (v := (-2)) C rfl (by decide +kernel) (by decide) ?_
          refine r_icmp_eq (q := 65) (off := 7) (tgt := 69) C rfl (by decide +kernel) (by decide) (fun c62 => ?_) (fun c62 => ?_)
          · have hN : σ.gok r a b w z = false := by unfold SG.gok; rw [(cell_open r10 _).2.mp c62]; simp
            refine r_iconst (q := 70) (z := 0) (v := 0) C rfl (by decide +kernel) (by decide) ?_
            exact r_zret C (by decide +kernel) rfl (by first | decide | exact b2i_nar _) (by decide) (by decide) (eqP hPP ⟨_, rfl, ⟨by first | (rw [hY]; rfl) | (rw [hN]; rfl), rfl⟩⟩)
          · have hY : σ.gok r a b w z = true := by
              have h9 : σ.cl (dcl a b w z) = false := by
                cases e : σ.cl (dcl a b w z) with
                | false => rfl
                | true => exact absurd ((cell_open r10 _).2.mpr e) c62
              unfold SG.gok; rw [decide_eq_true hon, hin, h9, hcl, hov]; rfl
            refine r_iconst (q := 66) (z := 1) (v := 1) C rfl (by decide +kernel) (by decide) ?_
            refine r_goto (off := 4) (tgt := 70) C (by decide +kernel) (by decide) ?_
            exact r_zret C (by decide +kernel) rfl (by first | decide | exact b2i_nar _) (by decide) (by decide) (eqP hPP ⟨_, rfl, ⟨by first | (rw [hY]; rfl) | (rw [hN]; rfl), rfl⟩⟩)
theorem c_X6_movedBy {G : GT} {h : HP} {g : Nat} {σ : SG} {p : Nat → Nat} {L : List Nat} {s r a b w z : Nat} (hL : LCl h.kd h.gl h.fr h.ar g σ.n p L) (R0 : CRr σ h.fi h.fr g p) (W : WF σ) (hr : r < σ.n) (hs : SpT h.kd h.fi s (nI a) (nI b) w z) (hon : a + w ≤ 12 ∧ b + z < 10) : Con G 4 0 0 yX6_movedBy cX6_movedBy 6 (some .int) [rv g, rv (p r), rv s] h (PI (fun v h' => nI (mset (σ.mvq r a b w z) σ.n) = v ∧ h = h')) := by
  refine Con.of (lv := [some (rv g), some (rv (p r)), some (rv s), none, none, none]) (by decide) (by simp only [lvE_r, lvE_i, lvE_l, lvE_s, lvE_0]; rfl) (by simp only [lgl_r, lgl_i, lgl_l, lgl_s, lgl_0]; decide) (fun Γ C R => ?_)
  generalize hPP : (PI (fun v h' => nI (mset (σ.mvq r a b w z) σ.n) = v ∧ h = h')) = PP
  obtain ⟨s1, s2, s3, s4, s5, s6, s7⟩ := id hs
  have r10 := W.n10
  have g10 := W.gr10
  refine r_iconst (q := 1) (z := 0) (v := 0) C rfl (by decide +kernel) (by decide) ?_
  refine r_istore_n (q := 2) (z := 3) C 3 rfl (by decide +kernel) rfl (by decide) (by first | rfl | exact okst_rv rfl) ?_
  dsimp only [List.set]
  refine r_iconst (q := 3) (z := 0) (v := 0) C rfl (by decide +kernel) (by decide) ?_
  refine r_istore (q := 5) C 4 rfl (by decide +kernel) (by decide) (by first | rfl | exact okst_rv rfl) ?_
  dsimp only [List.set]
  have L5 : ∀ (fuel5 : Nat) (k : Nat), σ.n - k < fuel5 → (k ≤ σ.n) → wX G Γ (qM G Γ PP 0 0) 0 0 (h) 5 [some (rv g), some (rv (p r)), some (rv s), some (.int (nI (mset (σ.mvq r a b w z) k))), some (.int (nI k)), none] [] := by
    intro fuel5
    induction fuel5 with
    | zero =>
      intro k hm5
      exact absurd hm5 (Nat.not_lt_zero _)
    | succ fuel5 ih5 =>
      intro k hm5 hk
      refine r_iload (q := 7) C 4 rfl (by decide +kernel) rfl ?_
      refine r_aload_n (q := 8) (z := 0) C 0 rfl (by decide +kernel) rfl rfl ?_
      refine r_getI (q := 11) C 6 3 387 rfl (by decide +kernel) rfl (by decide) rfl rfl wf_X6_25 win6 hL.kf ?_
      rw [R0.1]
      refine r_icmp_ge (q := 14) (off := 75) (tgt := 86) C rfl (by decide +kernel) (by decide) (fun c11 => ?_) (fun c11 => ?_)
      · have ek : k = σ.n := by have := (nI_leI (by omega) (by omega)).mp c11; omega
        subst ek
        refine r_iload_n (q := 87) (z := 3) C 3 rfl (by decide +kernel) rfl rfl ?_
        exact r_iret C (by decide +kernel) rfl (by decide) (by decide) (eqP hPP ⟨_, rfl, ⟨rfl, rfl⟩⟩)
      · have hlt : k < σ.n := Nat.lt_of_not_le (fun e => c11 (nI_le e (by omega)))
        have J80 : ∀ (v : Int32), (v = nI (mset (σ.mvq r a b w z) (k + 1))) → wX G Γ (qM G Γ PP 0 0) 0 0 (h) 80 [some (rv g), some (rv (p r)), some (rv s), some (.int v), some (.int (nI k)), none] [] := by
          intro v hv
          subst hv
          refine r_iinc (q := 83) (z := 1) (v := 1) C 4 rfl (by decide +kernel) rfl (by decide) (by decide) (by first | rfl | exact okst_rv rfl) ?_
          dsimp only [List.set]
          rw [nI_1]
          refine r_goto (off := -78) (tgt := 5) C (by decide +kernel) (by decide) ?_
          exact wX.sub (lsub_s (lsub_s (lsub_s (lsub_s (lsub_s (lsub_n (lsub_nil))))))) (ih5 (k + 1) (by omega) (by omega))
        have J73 : (σ.mvq r a b w z k = true) → wX G Γ (qM G Γ PP 0 0) 0 0 (h) 73 [some (rv g), some (rv (p r)), some (rv s), some (.int (nI (mset (σ.mvq r a b w z) k))), some (.int (nI k)), none] [] := by
          intro  hY
          refine r_iload_n (q := 74) (z := 3) C 3 rfl (by decide +kernel) rfl rfl ?_
          refine r_iconst (q := 75) (z := 1) (v := 1) C rfl (by decide +kernel) (by decide) ?_
          refine r_iload (q := 77) C 4 rfl (by decide +kernel) rfl ?_
          refine r_ishl (q := 78) C rfl (by decide +kernel) ?_
          rw [show (1 : Int32) <<< (nI k &&& 31) = nI (2 ^ k) from shl1 k (by omega)]
          refine r_ior (q := 79) C rfl (by decide +kernel) ?_
          rw [fa_or]
          refine r_istore_n (q := 80) (z := 3) C 3 rfl (by decide +kernel) rfl (by decide) (by first | rfl | exact okst_rv rfl) ?_
          dsimp only [List.set]
          exact wX.sub (lsub_s (lsub_s (lsub_s (lsub_s (lsub_s (lsub_n (lsub_nil))))))) (J80 _ (by rw [mset, if_pos hY]))
        refine r_aload_n (q := 15) (z := 0) C 0 rfl (by decide +kernel) rfl rfl ?_
        refine r_getR (q := 18) C 6 1 385 rfl (by decide +kernel) rfl (by decide) rfl rfl wf_X6_18 win6 hL.kf ?_
        refine r_iload (q := 20) C 4 rfl (by decide +kernel) rfl ?_
        refine r_aald (q := 21) C rfl (by decide +kernel) hL.k385 (vp_in_nI (by omega) (by decide)) ?_
        rw [nI_clamp (by omega), hL.ap hlt]
        refine r_astore (q := 23) C 5 rfl (by decide +kernel) (by decide) (by first | rfl | exact okst_rv rfl) ?_
        dsimp only [List.set]
        refine r_aload (q := 25) C 5 rfl (by decide +kernel) rfl ?_
        refine r_getI (q := 28) C 3 7 199 rfl (by decide +kernel) rfl (by decide) rfl rfl wf_X6_122 win3 (hL.kp hlt) ?_
        rw [R0.lie hlt]
        refine r_if_eq (q := 31) (off := 52) (tgt := 80) C rfl (by decide +kernel) (by decide) (fun c28 => ?_) (fun c28 => ?_)
        · have hN : σ.mvq r a b w z k = false := by
            have hl := of_decide_eq_false ((b2i_0 _).mp c28)
            have hcv : ∀ c, σ.cv k c = false := fun c => by show (decide (σ.li k < 240) && _) = false; rw [decide_eq_false hl, Bool.false_and]
            unfold SG.mvq SG.mv0
            simp [hl, hcv]
            intro _
            rw [anyb_f]; intros; rfl
          exact wX.sub (lsub_s (lsub_s (lsub_s (lsub_s (lsub_s (lsub_n (lsub_nil))))))) (J80 _ (by rw [mset, hN]; rfl))
        · have hl := of_decide_eq_true ((b2i_n0 _).mp c28)
          have hxy := W.dxy hlt hl
          obtain ⟨p1, p2, p3, p4, -⟩ := R0.sp hlt hl
          have q5 := W.wA hlt (σ.li k)
          have q6 := W.hA hlt (σ.li k)
          have q7 := px_lt (p := σ.li k)
          have q8 := py_lt hl
          refine r_aload (q := 33) C 5 rfl (by decide +kernel) rfl ?_
          refine r_aload_n (q := 34) (z := 1) C 1 rfl (by decide +kernel) rfl rfl ?_
          refine r_acmp_eq (q := 37) (off := 46) (tgt := 80) C rfl (by decide +kernel) (by decide) (fun c34 => ?_) (fun c34 => ?_)
          · have hN : σ.mvq r a b w z k = false := by
              have e : k = r := by have h1 := hL.gp hlt; have h2 := hL.gp hr; rw [c34] at h1; omega
              unfold SG.mvq SG.mv0; simp [e]
            exact wX.sub (lsub_s (lsub_s (lsub_s (lsub_s (lsub_s (lsub_n (lsub_nil))))))) (J80 _ (by rw [mset, hN]; rfl))
          · have hne : k ≠ r := fun e => c34 (by rw [e])
            refine r_aload_n (q := 38) (z := 2) C 2 rfl (by decide +kernel) rfl rfl ?_
            refine r_aload (q := 40) C 5 rfl (by decide +kernel) rfl ?_
            refine r_getR (q := 43) C 3 6 198 rfl (by decide +kernel) rfl (by decide) rfl rfl wf_X6_221 win3 (hL.kp hlt) ?_
            refine cV1I (q := 46) C R rfl (by decide +kernel) lk_X6_294 (c_X4_overlaps s1 (hL.ks hlt)) (by decide) (by decide) (by decide) rfl (by first | exact Nat.le_of_ble_eq_true rfl | (simp only [List.map_cons, List.map_nil, List.sum_cons, List.sum_nil, rv_cat]; exact Nat.le_of_ble_eq_true rfl)) rfl s1 ?_
            rintro _ _ ⟨rfl, rfl⟩
            rw [s2, s3, s4, s5, p1, p2, p3, p4]
            refine r_if_ne (q := 49) (off := 27) (tgt := 73) C rfl (by decide +kernel) (by decide) (fun c46 => ?_) (fun c46 => ?_)
            · have hY : σ.mvq r a b w z k = true := by
                have h9 := (ovl W s6.1 s7.1 hon hlt hl).mp (of_decide_eq_true ((b2i_n0 _).mp c46))
                unfold SG.mvq; rw [h9]; simp [hne]
              exact wX.sub (lsub_s (lsub_s (lsub_s (lsub_s (lsub_s (lsub_n (lsub_nil))))))) (J73 hY)
            · have ho := mt (ovl W s6.1 s7.1 hon hlt hl).mpr (of_decide_eq_false ((b2i_0 _).mp c46))
              refine r_aload_n (q := 50) (z := 2) C 2 rfl (by decide +kernel) rfl rfl ?_
              refine r_aload (q := 52) C 5 rfl (by decide +kernel) rfl ?_
              refine r_getR (q := 55) C 3 6 198 rfl (by decide +kernel) rfl (by decide) rfl rfl wf_X6_221 win3 (hL.kp hlt) ?_
              refine cV1I (q := 58) C R rfl (by decide +kernel) lk_X6_277 (c_X4_coversDoorOf s1 (hL.ks hlt)) (by decide) (by decide) (by decide) rfl (by first | exact Nat.le_of_ble_eq_true rfl | (simp only [List.map_cons, List.map_nil, List.sum_cons, List.sum_nil, rv_cat]; exact Nat.le_of_ble_eq_true rfl)) rfl s1 ?_
              rintro _ _ ⟨rfl, rfl⟩
              rw [R0.dx W hlt hl, R0.dy hlt hl, s2, s3, s4, s5]
              refine r_if_ne (q := 61) (off := 15) (tgt := 73) C rfl (by decide +kernel) (by decide) (fun c58 => ?_) (fun c58 => ?_)
              · have hY : σ.mvq r a b w z k = true := by
                  have h9 : inn a b w z (σ.dr k) = true := by rw [dr_xy]; exact (cov_iff (by omega) (by omega) (by omega) (by omega) hxy.1 (by omega)).mp (of_decide_eq_true ((b2i_n0 _).mp c58))
                  unfold SG.mvq SG.mv0; rw [h9]; simp [hne, hl]
                exact wX.sub (lsub_s (lsub_s (lsub_s (lsub_s (lsub_s (lsub_n (lsub_nil))))))) (J73 hY)
              · have hd1 : ¬ inn a b w z (σ.dr k) = true := fun e => by rw [dr_xy] at e; exact of_decide_eq_false ((b2i_0 _).mp c58) ((cov_iff (by omega) (by omega) (by omega) (by omega) hxy.1 (by omega)).mpr e)
                refine r_aload (q := 63) C 5 rfl (by decide +kernel) rfl ?_
                refine r_getR (q := 66) C 3 6 198 rfl (by decide +kernel) rfl (by decide) rfl rfl wf_X6_221 win3 (hL.kp hlt) ?_
                refine r_aload_n (q := 67) (z := 2) C 2 rfl (by decide +kernel) rfl rfl ?_
                refine cV1I (q := 70) C R rfl (by decide +kernel) lk_X6_277 (c_X4_coversDoorOf (hL.ks hlt) s1) (by decide) (by decide) (by decide) rfl (by first | exact Nat.le_of_ble_eq_true rfl | (simp only [List.map_cons, List.map_nil, List.sum_cons, List.sum_nil, rv_cat]; exact Nat.le_of_ble_eq_true rfl)) rfl (hL.ks hlt) ?_
                rintro _ _ ⟨rfl, rfl⟩
                rw [s2, s4, s3, s5, half_nI (by omega) (by omega), nI_add, p1, p2, p3, p4]
                have hcv : σ.cv k (dcl a b w z) = inn (px (σ.li k)) (py (σ.li k)) (σ.wA k (σ.li k)) (σ.hA k (σ.li k)) (12 * (b + z) + (a + (w - 1) / 2)) := by
                  show (decide (σ.li k < 240) && _) = _
                  rw [decide_eq_true hl, Bool.true_and, show 12 * (b + z) + (a + (w - 1) / 2) = dcl a b w z by unfold dcl; omega]; rfl
                refine r_if_eq (q := 73) (off := 10) (tgt := 80) C rfl (by decide +kernel) (by decide) (fun c70 => ?_) (fun c70 => ?_)
                · have hN : σ.mvq r a b w z k = false := by
                    have h9 : ¬ σ.cv k (dcl a b w z) = true := fun e => by rw [hcv] at e; exact of_decide_eq_false ((b2i_0 _).mp c70) ((cov_iff (by omega) (by omega) (by omega) (by omega) (by omega) (by omega)).mpr e)
                    rw [Bool.not_eq_true] at h9 hd1 ho
                    unfold SG.mvq SG.mv0; rw [h9, hd1, ho]; simp
                  exact wX.sub (lsub_s (lsub_s (lsub_s (lsub_s (lsub_s (lsub_n (lsub_nil))))))) (J80 _ (by rw [mset, hN]; rfl))
                · have hY : σ.mvq r a b w z k = true := by
                    have h9 : σ.cv k (dcl a b w z) = true := by rw [hcv]; exact (cov_iff (by omega) (by omega) (by omega) (by omega) (by omega) (by omega)).mp (of_decide_eq_true ((b2i_n0 _).mp c70))
                    unfold SG.mvq SG.mv0; rw [h9]; simp [hne, hl]
                  exact wX.sub (lsub_s (lsub_s (lsub_s (lsub_s (lsub_s (lsub_n (lsub_nil))))))) (J73 hY)
  exact wX.sub (lsub_s (lsub_s (lsub_s (lsub_s (lsub_s (lsub_n (lsub_nil))))))) (L5 (σ.n + 1) 0 (by omega) (by omega))
theorem c_X6_change {G : GT} {h : HP} {g : Nat} {σ : SG} {p : Nat → Nat} {L : List Nat} {x w z k : Int32} (hL : LCl h.kd h.gl h.fr h.ar g σ.n p L) (R0 : CRr σ h.fi h.fr g p) (Rc : CRc σ h g) (W : WF σ) : Con G 5 0 0 yX6_change cX6_change 11 (some .int) [rv g, .int x, .int w, .int z, .int k] h (PI (fun v h' => cif (chP σ x w z k) (chV σ x.toNatClampNeg w.toNatClampNeg z.toNatClampNeg k) (-1) = v ∧ CRr (σ) h'.fi h'.fr g p ∧ CRc (σ) h' g ∧ Fm [] [256, 257, 258, 259, 260] h h')) := by
  refine Con.of (lv := [some (rv g), some (.int x), some (.int w), some (.int z), some (.int k), none, none, none, none, none, none]) (by decide) (by simp only [lvE_r, lvE_i, lvE_l, lvE_s, lvE_0]; rfl) (by simp only [lgl_r, lgl_i, lgl_l, lgl_s, lgl_0]; decide) (fun Γ C R => ?_)
  generalize hPP : (PI (fun v h' => cif (chP σ x w z k) (chV σ x.toNatClampNeg w.toNatClampNeg z.toNatClampNeg k) (-1) = v ∧ CRr (σ) h'.fi h'.fr g p ∧ CRc (σ) h' g ∧ Fm [] [256, 257, 258, 259, 260] h h')) = PP
  have r10 := W.n10
  have hL0 := hL
  refine r_aload_n (q := 1) (z := 0) C 0 rfl (by decide +kernel) rfl rfl ?_
  refine r_iload_n (q := 2) (z := 1) C 1 rfl (by decide +kernel) rfl rfl ?_
  refine cV1R (q := 5) C R rfl (by decide +kernel) lk_X6_118 (c_X6_find hL R0 r10) (by decide) (by decide) (by decide) rfl (by first | exact Nat.le_of_ble_eq_true rfl | (simp only [List.map_cons, List.map_nil, List.sum_cons, List.sum_nil, rv_cat]; exact Nat.le_of_ble_eq_true rfl)) rfl hL.kf ?_
  rintro _ _ ⟨rfl, rfl⟩
  refine wX_k0 C (fun hk0 => ?_)
  refine r_astore (q := 7) C 5 rfl (by decide +kernel) (by decide) (by first | rfl | exact okst_rv rfl) ?_
  dsimp only [List.set]
  refine r_aload (q := 9) C 5 rfl (by decide +kernel) rfl ?_
  refine r_ifnull (q := 12) (off := 29) (tgt := 38) C rfl (by decide +kernel) (by decide) (fun c9 => ?_) (fun c9 => ?_)
  · have hno : ¬ (0 ≤ x ∧ x < nI σ.n) := (rdA_0 hL hk0 r10).mp c9
    have hn : ¬ chP σ x w z k := fun e => hno e.1.1
    refine r_iconst (q := 39) (z := (-1)) (v := (-1)) C rfl (by decide +kernel) (by decide) ?_
    exact r_iret C (by decide +kernel) rfl (by decide) (by decide) (eqP hPP ⟨_, rfl, (by
          rw [cif_f hn]
          exact ⟨rfl, R0, Rc, Fm.rf⟩)⟩)
  · have hyr : 0 ≤ x ∧ x < nI σ.n := Classical.not_not.mp (mt (rdA_0 hL hk0 r10).mpr c9)
    obtain ⟨r, hlt, rfl⟩ := ride_of r10 hyr
    rw [rdA_in r10 hlt]
    refine r_aload (q := 14) C 5 rfl (by decide +kernel) rfl ?_
    refine r_getI (q := 17) C 3 7 199 rfl (by decide +kernel) rfl (by decide) rfl rfl wf_X6_122 win3 (hL.kp hlt) ?_
    rw [R0.lie hlt]
    refine r_if_eq (q := 20) (off := 21) (tgt := 38) C rfl (by decide +kernel) (by decide) (fun c17 => ?_) (fun c17 => ?_)
    · have hl := of_decide_eq_false ((b2i_0 _).mp c17)
      have hn : ¬ chP σ (nI r) w z k := fun e => hl (by have := e.1.2; rw [nI_clamp (by omega)] at this; exact this)
      refine r_iconst (q := 39) (z := (-1)) (v := (-1)) C rfl (by decide +kernel) (by decide) ?_
      exact r_iret C (by decide +kernel) rfl (by decide) (by decide) (eqP hPP ⟨_, rfl, (by
            rw [cif_f hn]
            exact ⟨rfl, R0, Rc, Fm.rf⟩)⟩)
    · have hl := of_decide_eq_true ((b2i_n0 _).mp c17)
      refine r_iload_n (q := 21) (z := 2) C 2 rfl (by decide +kernel) rfl rfl ?_
      refine r_iload_n (q := 22) (z := 3) C 3 rfl (by decide +kernel) rfl rfl ?_
      refine cS2I (q := 25) C R rfl (by decide +kernel) lk_X6_102 (c_X6_isSize ) (by decide) (by decide) (by decide) rfl (by first | exact Nat.le_of_ble_eq_true rfl | (simp only [List.map_cons, List.map_nil, List.sum_cons, List.sum_nil, rv_cat]; exact Nat.le_of_ble_eq_true rfl))  ?_
      rintro _ _ ⟨rfl, rfl⟩
      refine r_if_eq (q := 28) (off := 13) (tgt := 38) C rfl (by decide +kernel) (by decide) (fun c25 => ?_) (fun c25 => ?_)
      · have c25 := of_decide_eq_false ((b2i_0 _).mp c25)
        have hn : ¬ chP σ (nI r) w z k := fun e => c25 ⟨e.2.1, e.2.2.1⟩
        refine r_iconst (q := 39) (z := (-1)) (v := (-1)) C rfl (by decide +kernel) (by decide) ?_
        exact r_iret C (by decide +kernel) rfl (by decide) (by decide) (eqP hPP ⟨_, rfl, (by
              rw [cif_f hn]
              exact ⟨rfl, R0, Rc, Fm.rf⟩)⟩)
      · have c25 := of_decide_eq_true ((b2i_n0 _).mp c25)
        refine r_iload (q := 30) C 4 rfl (by decide +kernel) rfl ?_
        refine r_iconst (q := 31) (z := 0) (v := 0) C rfl (by decide +kernel) (by decide) ?_
        refine r_iconst (q := 32) (z := 1) (v := 1) C rfl (by decide +kernel) (by decide) ?_
        refine cS3I (q := 35) C R rfl (by decide +kernel) lk_X6_105 (c_X6_isWithin ) (by decide) (by decide) (by decide) rfl (by first | exact Nat.le_of_ble_eq_true rfl | (simp only [List.map_cons, List.map_nil, List.sum_cons, List.sum_nil, rv_cat]; exact Nat.le_of_ble_eq_true rfl))  ?_
        rintro _ _ ⟨rfl, rfl⟩
        refine r_if_ne (q := 38) (off := 5) (tgt := 40) C rfl (by decide +kernel) (by decide) (fun c35 => ?_) (fun c35 => ?_)
        · have c35 := of_decide_eq_true ((b2i_n0 _).mp c35)
          have hy : chP σ (nI r) w z k := ⟨⟨hyr, by rw [nI_clamp (by omega)]; exact hl⟩, c25.1, c25.2, c35⟩
          obtain ⟨w1, w2, w3⟩ := nI_rng (a := 1) (b := 4) (by decide) hy.2.1.1 hy.2.1.2 (by decide)
          obtain ⟨z1, z2, z3⟩ := nI_rng (a := 1) (b := 4) (by decide) hy.2.2.1.1 hy.2.2.1.2 (by decide)
          obtain ⟨w0, ew0⟩ : ∃ w0, w0 = w.toNatClampNeg := ⟨_, rfl⟩
          obtain ⟨z0, ez0⟩ : ∃ z0, z0 = z.toNatClampNeg := ⟨_, rfl⟩
          rw [← ew0] at w1 w2 w3
          rw [← ez0] at z1 z2 z3
          rw [w3, z3]
          refine r_bipush (q := 42) (z := (-2)) (v := (-2)) C rfl (by decide +kernel) (by decide) ?_
          refine r_istore (q := 44) C 6 rfl (by decide +kernel) (by decide) (by first | rfl | exact okst_rv rfl) ?_
          dsimp only [List.set]
          refine r_bipush (q := 46) (z := (-2)) (v := (-2)) C rfl (by decide +kernel) (by decide) ?_
          refine r_istore (q := 48) C 7 rfl (by decide +kernel) (by decide) (by first | rfl | exact okst_rv rfl) ?_
          dsimp only [List.set]
          refine r_bipush (q := 50) (z := 11) (v := 11) C rfl (by decide +kernel) (by decide) ?_
          refine r_istore (q := 52) C 8 rfl (by decide +kernel) (by decide) (by first | rfl | exact okst_rv rfl) ?_
          dsimp only [List.set]
          refine r_iconst (q := 53) (z := 0) (v := 0) C rfl (by decide +kernel) (by decide) ?_
          refine r_istore (q := 55) C 9 rfl (by decide +kernel) (by decide) (by first | rfl | exact okst_rv rfl) ?_
          dsimp only [List.set]
          have L55 : ∀ (fuel55 : Nat) (h2 : HP) (q : Nat), 240 - q < fuel55 → (Fm [] [256, 257, 258, 259, 260] h h2) → (CRr σ h2.fi h2.fr g p) → (CRc σ h2 g) → (q ≤ 240) → wX G Γ (qM G Γ PP 0 0) 0 0 (h2) 55 [some (rv g), some (.int (nI r)), some (.int (nI w0)), some (.int (nI z0)), some (.int k), some (rv (p r)), some (.int (pm2 (chg σ r w0 z0 q).1)), some (.int (bm (chg σ r w0 z0 q))), some (.int (fw (chg σ r w0 z0 q))), some (.int (nI q)), none] [] := by
            intro fuel55
            induction fuel55 with
            | zero =>
              intro h2 q hm55
              exact absurd hm55 (Nat.not_lt_zero _)
            | succ fuel55 ih55 =>
              intro h2 q hm55 F2 R2 Rc2 hq0
              have hL : LCl h2.kd h2.gl h2.fr h2.ar g σ.n p L := LCl.fm F2 hL0
              refine r_iload (q := 57) C 9 rfl (by decide +kernel) rfl ?_
              refine r_sipush (q := 60) (z := 240) (v := 240) C rfl (by decide +kernel) (by decide) ?_
              refine r_icmp_ge (q := 63) (off := 70) (tgt := 130) C rfl (by decide +kernel) (by decide) (fun c60 => ?_) (fun c60 => ?_)
              · have eq0 : q = 240 := by have := (nI_leI (a := 240) (by omega) (by omega)).mp c60; omega
                refine r_iload (q := 132) C 4 rfl (by decide +kernel) rfl ?_
                refine r_iconst (q := 133) (z := 1) (v := 1) C rfl (by decide +kernel) (by decide) ?_
                refine r_icmp_ne (q := 136) (off := 8) (tgt := 141) C rfl (by decide +kernel) (by decide) (fun c133 => ?_) (fun c133 => ?_)
                · refine r_iload (q := 143) C 7 rfl (by decide +kernel) rfl ?_
                  exact r_iret C (by decide +kernel) rfl (by decide) (by decide) (eqP hPP ⟨_, rfl, (by
                        rw [cif_t hy, nI_clamp (by omega), ← ew0, ← ez0]
                        refine ⟨?_, R2, Rc2, F2⟩
                        rw [eq0]
                        unfold chV
                        try unfold pm2
                        try unfold bm
                        by_cases e : (chg σ r w0 z0 240).1 < 240
                        · simp only [e, if_true]
                          first
                            | (rw [if_neg (by rw [c133]; decide)])
                            | (rw [if_pos (k01 c35 c133)])
                        · simp only [e, if_false])⟩)
                · refine r_iload (q := 138) C 6 rfl (by decide +kernel) rfl ?_
                  refine r_goto (off := 5) (tgt := 143) C (by decide +kernel) (by decide) ?_
                  exact r_iret C (by decide +kernel) rfl (by decide) (by decide) (eqP hPP ⟨_, rfl, (by
                        rw [cif_t hy, nI_clamp (by omega), ← ew0, ← ez0]
                        refine ⟨?_, R2, Rc2, F2⟩
                        rw [eq0]
                        unfold chV
                        try unfold pm2
                        try unfold bm
                        by_cases e : (chg σ r w0 z0 240).1 < 240
                        · simp only [e, if_true]
                          first
                            | (rw [if_neg (by rw [c133]; decide)])
                            | (rw [if_pos (k01 c35 c133)])
                        · simp only [e, if_false])⟩)
              · have hqlt : q < 240 := Nat.lt_of_not_le (fun e => c60 (nI_le (a := 240) e (by omega)))
                obtain ⟨e1, e2, e3⟩ := pap hqlt
                obtain ⟨T1, T2⟩ := tri2 (q := q) hL R2 ⟨w1, w2⟩ ⟨z1, z2⟩
                have hx12 := px_lt (p := q)
                have hy10 := py_lt hqlt
                have J124 : ∀ (h3 : HP) (v6 v7 v8 : Int32), (Fm [] [256, 257, 258, 259, 260] h h3) → (CRr σ h3.fi h3.fr g p) → (CRc σ h3 g) → (v6 = pm2 (chg σ r w0 z0 (q + 1)).1) → (v7 = bm (chg σ r w0 z0 (q + 1))) → (v8 = fw (chg σ r w0 z0 (q + 1))) → wX G Γ (qM G Γ PP 0 0) 0 0 (h3) 124 [some (rv g), some (.int (nI r)), some (.int (nI w0)), some (.int (nI z0)), some (.int k), some (rv (p r)), some (.int v6), some (.int v7), some (.int v8), some (.int (nI q)), none] [] := by
                  intro h3 v6 v7 v8 F3 R3 Rc3 hv6 hv7 hv8
                  subst hv6
                  subst hv7
                  subst hv8
                  refine r_iinc (q := 127) (z := 1) (v := 1) C 9 rfl (by decide +kernel) rfl (by decide) (by decide) (by first | rfl | exact okst_rv rfl) ?_
                  dsimp only [List.set]
                  rw [nI_1]
                  refine r_goto (off := -72) (tgt := 55) C (by decide +kernel) (by decide) ?_
                  exact wX.sub (lsub_s (lsub_s (lsub_s (lsub_s (lsub_s (lsub_s (lsub_s (lsub_s (lsub_s (lsub_s (lsub_n (lsub_nil)))))))))))) (ih55 h3 (q + 1) (by omega) F3 R3 Rc3 (by omega))
                refine r_aload_n (q := 64) (z := 0) C 0 rfl (by decide +kernel) rfl rfl ?_
                refine r_getR (q := 67) C 6 5 389 rfl (by decide +kernel) rfl (by decide) rfl rfl wf_X6_35 win6 hL.kf ?_
                refine r_iload_n (q := 68) (z := 2) C 2 rfl (by decide +kernel) rfl rfl ?_
                refine r_iload_n (q := 69) (z := 3) C 3 rfl (by decide +kernel) rfl rfl ?_
                refine r_iload (q := 71) C 9 rfl (by decide +kernel) rfl ?_
                refine cV3V (q := 74) C R rfl (by decide +kernel) lk_X6_150 (c_X4_putAtPlace hL.k389) (by decide) (by decide) (by decide) rfl (by first | exact Nat.le_of_ble_eq_true rfl | (simp only [List.map_cons, List.map_nil, List.sum_cons, List.sum_nil, rv_cat]; exact Nat.le_of_ble_eq_true rfl)) rfl hL.k389 ?_
                rintro _ rfl
                rw [e1, e2, e3]
                have F9 : Fm [] [256, 257, 258, 259, 260] h (spPut h2 (h2.fr 389 g) (nI w0) (nI z0) (nI (px q)) (nI (py q)) (decide (q % 2 = 1))) := F2.tr Fm.spPut
                refine r_aload_n (q := 75) (z := 0) C 0 rfl (by decide +kernel) rfl rfl ?_
                refine r_aload (q := 77) C 5 rfl (by decide +kernel) rfl ?_
                refine r_aload_n (q := 78) (z := 0) C 0 rfl (by decide +kernel) rfl rfl ?_
                refine r_getR (q := 81) C 6 5 389 rfl (by decide +kernel) rfl (by decide) rfl rfl wf_X6_35 win6 hL.kf ?_
                refine cV2I (q := 84) C R rfl (by decide +kernel) lk_X6_202 (c_X6_couldGrowTo (σ := σ) (L := L) hL T1 Rc2 W hlt hl T2 hx12 hy10) (by decide) (by decide) (by decide) rfl (by first | exact Nat.le_of_ble_eq_true rfl | (simp only [List.map_cons, List.map_nil, List.sum_cons, List.sum_nil, rv_cat]; exact Nat.le_of_ble_eq_true rfl)) rfl hL.kf ?_
                rintro _ _ ⟨rfl, rfl⟩
                refine r_if_eq (q := 87) (off := 40) (tgt := 124) C rfl (by decide +kernel) (by decide) (fun c84 => ?_) (fun c84 => ?_)
                · have hg := (b2i_0 _).mp c84
                  have ec : (chg σ r w0 z0 (q + 1)) = (chg σ r w0 z0 q) := chg_n (fun e => by rw [hg] at e; cases e.1)
                  exact wX.sub (lsub_s (lsub_s (lsub_s (lsub_s (lsub_s (lsub_s (lsub_s (lsub_s (lsub_s (lsub_s (lsub_n (lsub_nil)))))))))))) (J124 _ _ _ _ F9 T1 Rc2 (by rw [ec]) (by rw [ec]) (by rw [ec]))
                · have hg := (b2i_n0 _).mp c84
                  have hon : px q + wAt w0 z0 q ≤ 12 ∧ py q + wAt z0 w0 q < 10 := by
                    have h9 := hg
                    unfold SG.gok at h9
                    rw [Bool.and_eq_true, Bool.and_eq_true, decide_eq_true_eq] at h9
                    exact h9.1.1
                  have hms := mset_10 (σ.mvq r (px q) (py q) (wAt w0 z0 q) (wAt z0 w0 q)) r10
                  refine r_aload_n (q := 88) (z := 0) C 0 rfl (by decide +kernel) rfl rfl ?_
                  refine r_aload (q := 90) C 5 rfl (by decide +kernel) rfl ?_
                  refine r_aload_n (q := 91) (z := 0) C 0 rfl (by decide +kernel) rfl rfl ?_
                  refine r_getR (q := 94) C 6 5 389 rfl (by decide +kernel) rfl (by decide) rfl rfl wf_X6_35 win6 hL.kf ?_
                  refine cV2I (q := 97) C R rfl (by decide +kernel) lk_X6_205 (c_X6_movedBy (σ := σ) (L := L) hL T1 W hlt T2 hon) (by decide) (by decide) (by decide) rfl (by first | exact Nat.le_of_ble_eq_true rfl | (simp only [List.map_cons, List.map_nil, List.sum_cons, List.sum_nil, rv_cat]; exact Nat.le_of_ble_eq_true rfl)) rfl hL.kf ?_
                  rintro _ _ ⟨rfl, rfl⟩
                  refine r_istore (q := 99) C 10 rfl (by decide +kernel) (by decide) (by first | rfl | exact okst_rv rfl) ?_
                  dsimp only [List.set]
                  refine r_iload (q := 101) C 10 rfl (by decide +kernel) rfl ?_
                  refine cS1I (q := 104) C R rfl (by decide +kernel) lk_X6_209 (c_J6_bitCount_0f7a4 hms) (by decide) (by decide) (by decide) rfl (by first | exact Nat.le_of_ble_eq_true rfl | (simp only [List.map_cons, List.map_nil, List.sum_cons, List.sum_nil, rv_cat]; exact Nat.le_of_ble_eq_true rfl))  ?_
                  rintro _ _ ⟨rfl, rfl⟩
                  refine r_iload (q := 106) C 8 rfl (by decide +kernel) rfl ?_
                  refine r_icmp_ge (q := 109) (off := 18) (tgt := 124) C rfl (by decide +kernel) (by decide) (fun c106 => ?_) (fun c106 => ?_)
                  · have ec : (chg σ r w0 z0 (q + 1)) = (chg σ r w0 z0 q) := chg_n (fun e => absurd (fw_lt.mpr e.2) (Int32.not_lt.mpr c106))
                    exact wX.sub (lsub_s (lsub_s (lsub_s (lsub_s (lsub_s (lsub_s (lsub_s (lsub_s (lsub_s (lsub_s (lsub_n (lsub_nil)))))))))))) (J124 _ _ _ _ F9 T1 Rc2 (by rw [ec]) (by rw [ec]) (by rw [ec]))
                  · have ec : (chg σ r w0 z0 (q + 1)) = (q, mset (σ.mvq r (px q) (py q) (wAt w0 z0 q) (wAt z0 w0 q)) σ.n) := chg_y hg (fw_lt.mp (Int32.not_le.mp c106))
                    refine r_iload (q := 111) C 10 rfl (by decide +kernel) rfl ?_
                    refine cS1I (q := 114) C R rfl (by decide +kernel) lk_X6_209 (c_J6_bitCount_0f7a4 hms) (by decide) (by decide) (by decide) rfl (by first | exact Nat.le_of_ble_eq_true rfl | (simp only [List.map_cons, List.map_nil, List.sum_cons, List.sum_nil, rv_cat]; exact Nat.le_of_ble_eq_true rfl))  ?_
                    rintro _ _ ⟨rfl, rfl⟩
                    refine r_istore (q := 116) C 8 rfl (by decide +kernel) (by decide) (by first | rfl | exact okst_rv rfl) ?_
                    dsimp only [List.set]
                    refine r_iload (q := 118) C 9 rfl (by decide +kernel) rfl ?_
                    refine r_istore (q := 120) C 6 rfl (by decide +kernel) (by decide) (by first | rfl | exact okst_rv rfl) ?_
                    dsimp only [List.set]
                    refine r_iload (q := 122) C 10 rfl (by decide +kernel) rfl ?_
                    refine r_istore (q := 124) C 7 rfl (by decide +kernel) (by decide) (by first | rfl | exact okst_rv rfl) ?_
                    dsimp only [List.set]
                    exact wX.sub (lsub_s (lsub_s (lsub_s (lsub_s (lsub_s (lsub_s (lsub_s (lsub_s (lsub_s (lsub_s (lsub_n (lsub_nil)))))))))))) (J124 _ _ _ _ F9 T1 Rc2 (by rw [ec]; exact (if_pos hqlt).symm) (by rw [ec]; exact (if_pos hqlt).symm) (by rw [ec]; exact (if_pos hqlt).symm))
          exact wX.sub (lsub_s (lsub_s (lsub_s (lsub_s (lsub_s (lsub_s (lsub_s (lsub_s (lsub_s (lsub_s (lsub_n (lsub_nil)))))))))))) (L55 241 h 0 (by omega) Fm.rf R0 Rc (by omega))
        · have c35 := of_decide_eq_false ((b2i_0 _).mp c35)
          have hn : ¬ chP σ (nI r) w z k := fun e => c35 e.2.2.2
          refine r_iconst (q := 39) (z := (-1)) (v := (-1)) C rfl (by decide +kernel) (by decide) ?_
          exact r_iret C (by decide +kernel) rfl (by decide) (by decide) (eqP hPP ⟨_, rfl, (by
                rw [cif_f hn]
                exact ⟨rfl, R0, Rc, Fm.rf⟩)⟩)
