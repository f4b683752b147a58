/-! ===== what a call leaves alone; choices by any proposition ===== -/
noncomputable def cif {α : Type} (P : Prop) (a b : α) : α := @ite α P (Classical.propDecidable P) a b
theorem cif_t {α : Type} {P : Prop} {a b : α} (h : P) : cif P a b = a := @if_pos P (Classical.propDecidable P) h α a b
theorem cif_f {α : Type} {P : Prop} {a b : α} (h : ¬ P) : cif P a b = b := @if_neg P (Classical.propDecidable P) h α a b
theorem cif_b {P : Prop} {t : Bool} (h : t = true ↔ P) : b2i t = cif P 1 0 := by
  cases t with
  | true => rw [cif_t (h.mp rfl)]; rfl
  | false => rw [cif_f (fun e => by cases h.mpr e)]; rfl
/-- but the fields of B and the arrays of labels in A, nothing changes -/
def Fm (A B : List Nat) (h h' : HP) : Prop := h'.kd = h.kd ∧ h'.fr = h.fr ∧ h'.gl = h.gl ∧ h'.ar = h.ar ∧ (∀ g a, g ∉ B → h'.fi g a = h.fi g a) ∧ ∀ a, h.gl a ∉ A → h'.ai a = h.ai a ∧ h'.al a = h.al a
theorem Fm.rf {A B : List Nat} {h : HP} : Fm A B h h := ⟨rfl, rfl, rfl, rfl, fun _ _ _ => rfl, fun _ _ => ⟨rfl, rfl⟩⟩
theorem Fm.tr {A B : List Nat} {h h1 h2 : HP} (a : Fm A B h h1) (b : Fm A B h1 h2) : Fm A B h h2 := by
  obtain ⟨a1, a2, a3, a4, a5, a6⟩ := a
  obtain ⟨b1, b2, b3, b4, b5, b6⟩ := b
  exact ⟨b1.trans a1, b2.trans a2, b3.trans a3, b4.trans a4, fun g x hg => (b5 g x hg).trans (a5 g x hg), fun x hx => ⟨(b6 x (by rw [a3]; exact hx)).1.trans (a6 x hx).1, (b6 x (by rw [a3]; exact hx)).2.trans (a6 x hx).2⟩⟩
theorem Fm.mono {A B A' B' : List Nat} {h h' : HP} (a : Fm A B h h') (hA : ∀ x ∈ A, x ∈ A') (hB : ∀ x ∈ B, x ∈ B') : Fm A' B' h h' := by
  obtain ⟨a1, a2, a3, a4, a5, a6⟩ := a
  exact ⟨a1, a2, a3, a4, fun g x hg => a5 g x (fun e => hg (hB g e)), fun x hx => a6 x (fun e => hx (hA _ e))⟩
theorem Fm.row {A B : List Nat} {h h' : HP} (a : Fm A B h h') {b : Nat} {f : Nat → Int32} (hb : h.gl b ∈ A) : Fm A B h (h'.row b f) := by
  obtain ⟨a1, a2, a3, a4, a5, a6⟩ := a
  refine ⟨a1, a2, a3, a4, a5, fun x hx => ⟨?_, (a6 x hx).2⟩⟩
  rw [ai_row_ne (fun e => hx (by rw [e]; exact hb))]
  exact (a6 x hx).1
theorem Fm.rowL {A B : List Nat} {h h' : HP} (a : Fm A B h h') {b : Nat} {f : Nat → Int64} (hb : h.gl b ∈ A) : Fm A B h (h'.rowL b f) := by
  obtain ⟨a1, a2, a3, a4, a5, a6⟩ := a
  refine ⟨a1, a2, a3, a4, a5, fun x hx => ⟨(a6 x hx).1, ?_⟩⟩
  rw [al_rowL_ne (fun e => hx (by rw [e]; exact hb))]
  exact (a6 x hx).2
theorem Fm.setI {A B : List Nat} {h h' : HP} (a : Fm A B h h') {g b : Nat} {v : Int32} (hg : g ∈ B) : Fm A B h (h'.setI g b v) := by
  obtain ⟨a1, a2, a3, a4, a5, a6⟩ := a
  exact ⟨a1, a2, a3, a4, fun g' x hg' => by rw [fi_ne (fun e => hg' (by rw [e]; exact hg))]; exact a5 g' x hg', a6⟩
theorem LM.fm {A B : List Nat} {h h' : HP} {m : Nat} (F : Fm A B h h') (hm : LM h.kd h.gl h.fr m) : LM h'.kd h'.gl h'.fr m := by
  rw [F.1, F.2.1, F.2.2.1]; exact hm
theorem MR.fm {σ : SG} {A B : List Nat} {h h' : HP} {m : Nat} (F : Fm A B h h') (hm : LM h.kd h.gl h.fr m) (hA : ∀ x ∈ mP, x ∉ A) (hB : 472 ∉ B ∧ 485 ∉ B ∧ 483 ∉ B) (M : MR σ h m) : MR σ h' m := by
  obtain ⟨h1, h2, h3, a0, a1, a2, a3, a4, a5, a6, a7, a8, a9, a10⟩ := M
  obtain ⟨f1, f2, f3, f4, f5, f6⟩ := F
  have key : ∀ (g : Nat), g ∈ mP → h.gl (h.fr g m) = g → h'.ai (h'.fr g m) = h.ai (h.fr g m) := fun g hg e => by
    rw [f2]; exact (f6 _ (by rw [e]; exact hA g hg)).1
  refine ⟨(f5 _ _ hB.1).trans h1, (f5 _ _ hB.2.1).trans h2, (f5 _ _ hB.2.2).trans h3, ?_, ?_, ?_, ?_, ?_, ?_, ?_, ?_, ?_, ?_, ?_⟩
  · rw [key 473 (by decide) hm.g473]; exact a0
  · rw [key 474 (by decide) hm.g474]; exact a1
  · rw [key 475 (by decide) hm.g475]; exact a2
  · rw [key 476 (by decide) hm.g476]; exact a3
  · rw [key 477 (by decide) hm.g477]; exact a4
  · rw [key 478 (by decide) hm.g478]; exact a5
  · rw [key 479 (by decide) hm.g479]; exact a6
  · rw [key 480 (by decide) hm.g480]; exact a7
  · rw [key 481 (by decide) hm.g481]; exact a8
  · rw [key 482 (by decide) hm.g482]; exact a9
  · rw [key 484 (by decide) hm.g484]; exact a10
theorem Fm.sc {A B : List Nat} {h h' : HP} {m : Nat} {f g : Nat → Int32} (a : Fm A B h h') (hm : LM h.kd h.gl h.fr m) (h1 : 486 ∈ A) (h2 : 487 ∈ A) : Fm A B h (scr h' m f g) := by
  unfold scr
  refine Fm.row (Fm.row a ?_) ?_
  · rw [a.2.1, hm.g486]; exact h1
  · rw [a.2.1, hm.g487]; exact h2
theorem ride_of {x : Int32} {n : Nat} (hn : n ≤ 10) (h : 0 ≤ x ∧ x < nI n) : ∃ r, r < n ∧ x = nI r := by
  obtain ⟨j, hj, rfl⟩ := nI_of (Int32.not_lt.mpr h.1)
  exact ⟨j, (nI_ltI hj (by omega)).mp h.2, rfl⟩
theorem ride_ok {r n : Nat} (hn : n ≤ 10) (h : r < n) : 0 ≤ nI r ∧ nI r < nI n := ⟨nI_pos' (by omega), nI_lt h (by omega)⟩
/-- the place of a spot at x, y -/
def plc (x y : Int32) (t : Bool) : Nat := (2 * (12 * y + x) + (if t then 1 else 0) : Int32).toNatClampNeg
theorem plc_of {x y : Int32} {t : Bool} (h : hasC x y = true) : ∃ a b : Nat, a < 12 ∧ b < 10 ∧ x = nI a ∧ y = nI b ∧ plc x y t < 240 ∧ (2 : Int32) * (12 * y + x) + (if t then 1 else 0) = nI (plc x y t) ∧ plc x y t = 2 * (12 * b + a) + (if t then 1 else 0) := by
  obtain ⟨a, b, ha, hb, rfl, rfl⟩ := hasC_of h
  have e : plc (nI a) (nI b) t = 2 * (12 * b + a) + (if t then 1 else 0) := by
    unfold plc; rw [placeOf_nI]; exact nI_clamp (by split <;> omega)
  refine ⟨a, b, ha, hb, rfl, rfl, ?_, ?_, e⟩
  · rw [e]; split <;> omega
  · rw [placeOf_nI, e]
/-! the answers -/
noncomputable def fitsV (σ : SG) (x a b : Int32) (t : Bool) : Int32 := cif (0 ≤ x ∧ x < nI σ.n) (cif (σ.li x.toNatClampNeg < 240) (-1) (cif (hasC a b = true ∧ σ.fit x.toNatClampNeg (plc a b t)) 1 0)) (-1)
/-- lay: whether it is done -/
def layP (σ : SG) (x a b : Int32) (t : Bool) : Prop := (0 ≤ x ∧ x < nI σ.n) ∧ ¬ σ.li x.toNatClampNeg < 240 ∧ hasC a b = true ∧ σ.fit x.toNatClampNeg (plc a b t)
def upN {α : Type} (f : Nat → α) (k : Nat) (v : α) : Nat → α := fun j => if j = k then v else f j
theorem upN_s {α : Type} {f : Nat → α} {k : Nat} {v : α} : upN f k v k = v := if_pos rfl
theorem upN_n {α : Type} {f : Nat → α} {k j : Nat} {v : α} (h : j ≠ k) : upN f k v j = f j := if_neg h
theorem MR.li_up {σ : SG} {h : HP} {m r p : Nat} (hm : LM h.kd h.gl h.fr m) (M : MR σ h m) {v : Int32} (hv : v = pl p) : MR (σ.li_ (upN σ.li r p)) (h.row (h.fr 478 m) (upd (h.ai (h.fr 478 m)) r v)) m := by
  obtain ⟨h1, h2, h3, a0, a1, a2, a3, a4, a5, a6, a7, a8, a9, a10⟩ := M
  have key : ∀ (g : Nat), h.gl (h.fr g m) = g → g ≠ 478 → (h.row (h.fr 478 m) (upd (h.ai (h.fr 478 m)) r v)).ai (h.fr g m) = h.ai (h.fr g m) := fun g e hg => ai_row_ne (gl_ne e hm.g478 hg)
  refine ⟨h1, h2, h3, ?_, ?_, ?_, ?_, ?_, ?_, ?_, ?_, ?_, ?_, ?_⟩
  · rw [fr_row, key 473 hm.g473 (by decide)]; exact a0
  · rw [fr_row, key 474 hm.g474 (by decide)]; exact a1
  · rw [fr_row, key 475 hm.g475 (by decide)]; exact a2
  · rw [fr_row, key 476 hm.g476 (by decide)]; exact a3
  · rw [fr_row, key 477 hm.g477 (by decide)]; exact a4
  · intro j hj
    rw [fr_row, ai_row_eq]
    show (if j = r then v else h.ai (h.fr 478 m) j) = pl (upN σ.li r p j)
    by_cases e : j = r
    · rw [if_pos e, e, upN_s, hv]
    · rw [if_neg e, upN_n e]; exact a5 j hj
  · rw [fr_row, key 479 hm.g479 (by decide)]; exact a6
  · rw [fr_row, key 480 hm.g480 (by decide)]; exact a7
  · rw [fr_row, key 481 hm.g481 (by decide)]; exact a8
  · rw [fr_row, key 482 hm.g482 (by decide)]; exact a9
  · rw [fr_row, key 484 hm.g484 (by decide)]; exact a10
def lyN (σ : SG) (k : Nat) : Nat := cnt (fun r => decide (σ.li r < 240)) k
theorem lyN_y {σ : SG} {k : Nat} (h : σ.li k < 240) : lyN σ (k + 1) = lyN σ k + 1 := by simp [lyN, cnt, h]
theorem lyN_n {σ : SG} {k : Nat} (h : ¬ σ.li k < 240) : lyN σ (k + 1) = lyN σ k := by simp [lyN, cnt, h]
theorem lyN_le (σ : SG) (k : Nat) : lyN σ k ≤ k := cnt_le _ _

theorem c_X7_fitsAt {G : GT} {h : HP} {m : Nat} {σ : SG} {r p : Nat} (hm : LM h.kd h.gl h.fr m) (M : MR σ h m) (W : WF σ) (hr : r < σ.n) (hp : p < 240) : Con G 7 0 0 yX7_fitsAt cX7_fitsAt 4 (some .boolean) [rv m, .int (nI r), .int (nI p)] h (PI (fun v h' => ∃ (t : Bool) (f g : Nat → Int32), b2i t = v ∧ (t = true ↔ σ.fit r p) ∧ scr h m f g = h')) := by
  refine Con.of (lv := [some (rv m), some (.int (nI r)), some (.int (nI p)), none]) (by decide) (by simp only [lvE_r, lvE_i, lvE_l, lvE_s, lvE_0]; rfl) (by simp only [lgl_r, lgl_i, lgl_l, lgl_s, lgl_0]; decide) (fun Γ C R => ?_)
  have r10 := W.n10
  have g10 := W.gr10
  have M2 : ∀ f, MR σ (h.row (h.fr 486 m) f) m := fun f => M.row hm (by rw [hm.g486]; decide)
  have hne : h.fr 487 m ≠ h.fr 486 m := gl_ne hm.g487 hm.g486 (by decide)
  refine r_aload_n (q := 1) (z := 0) C 0 rfl (by decide +kernel) rfl rfl ?_
  refine r_iload_n (q := 2) (z := 1) C 1 rfl (by decide +kernel) rfl rfl ?_
  refine r_iload_n (q := 3) (z := 2) C 2 rfl (by decide +kernel) rfl rfl ?_
  refine cV2I (q := 6) C R rfl (by decide +kernel) lk_X7_313 (c_X7_isRoom hm M W hr hp) (by decide) (by decide) (by decide) rfl (by first | exact Nat.le_of_ble_eq_true rfl | (simp only [List.map_cons, List.map_nil, List.sum_cons, List.sum_nil, rv_cat]; exact Nat.le_of_ble_eq_true rfl)) rfl hm.1 ?_
  rintro _ _ ⟨t3, rfl, ht3, rfl⟩
  refine r_if_ne (q := 9) (off := 5) (tgt := 11) C rfl (by decide +kernel) (by decide) (fun c6 => ?_) (fun c6 => ?_)
  · refine r_aload_n (q := 12) (z := 0) C 0 rfl (by decide +kernel) rfl rfl ?_
    refine cV0V (q := 15) C R rfl (by decide +kernel) lk_X7_298 (c_X7_barsAll hm M W) (by decide) (by decide) (by decide) rfl (by first | exact Nat.le_of_ble_eq_true rfl | (simp only [List.map_cons, List.map_nil, List.sum_cons, List.sum_nil, rv_cat]; exact Nat.le_of_ble_eq_true rfl)) rfl hm.1 ?_
    rintro _ rfl
    refine r_iconst (q := 16) (z := 0) (v := 0) C rfl (by decide +kernel) (by decide) ?_
    refine r_istore_n (q := 17) (z := 3) C 3 rfl (by decide +kernel) rfl (by decide) (by first | rfl | exact okst_rv rfl) ?_
    dsimp only [List.set]
    have L17 : ∀ (fuel17 : Nat) (i : Nat), 120 - i < fuel17 → (i ≤ 120) → wX G Γ (qM G Γ (PI (fun v h' => ∃ (t : Bool) (f g : Nat → Int32), b2i t = v ∧ (t = true ↔ σ.fit r p) ∧ scr h m f g = h')) 0 0) 0 0 (h.row (h.fr 486 m) (mix (fun c => b2i (σ.bar r p c)) (mix (fun c => b2i (!σ.fre c)) (h.ai (h.fr 486 m)) 120) i)) 17 [some (rv m), some (.int (nI r)), some (.int (nI p)), some (.int (nI i))] [] := by
      intro fuel17
      induction fuel17 with
      | zero =>
        intro i hm17
        exact absurd hm17 (Nat.not_lt_zero _)
      | succ fuel17 ih17 =>
        intro i hm17 hi
        refine r_iload_n (q := 18) (z := 3) C 3 rfl (by decide +kernel) rfl rfl ?_
        refine r_bipush (q := 20) (z := 120) (v := 120) C rfl (by decide +kernel) (by decide) ?_
        refine r_icmp_ge (q := 23) (off := 39) (tgt := 59) C rfl (by decide +kernel) (by decide) (fun c20 => ?_) (fun c20 => ?_)
        · have ez : i = 120 := by have := (nI_leI (a := 120) (by omega) (by omega)).mp c20; omega
          subst ez
          refine r_aload_n (q := 60) (z := 0) C 0 rfl (by decide +kernel) rfl rfl ?_
          refine cV0I (q := 63) C R rfl (by decide +kernel) lk_X7_301 (c_X7_areDoorsJoined (bar := σ.bar r p) hm (M2 _) W (fun c hc => by rw [fr_row, ai_row_eq, mix_in hc])) (by decide) (by decide) (by decide) rfl (by first | exact Nat.le_of_ble_eq_true rfl | (simp only [List.map_cons, List.map_nil, List.sum_cons, List.sum_nil, rv_cat]; exact Nat.le_of_ble_eq_true rfl)) rfl hm.1 ?_
          rintro _ _ ⟨f60, rb60, t60, rfl, rfl, hF60, hR60, ht60⟩
          refine r_if_eq (q := 66) (off := 21) (tgt := 84) C rfl (by decide +kernel) (by decide) (fun c63 => ?_) (fun c63 => ?_)
          · refine r_iconst (q := 85) (z := 0) (v := 0) C rfl (by decide +kernel) (by decide) ?_
            exact r_zret C (by decide +kernel) rfl (by first | decide | exact b2i_nar _) (by decide) (by decide) ⟨_, rfl, (by first | exact ⟨false, _, _, rfl, ⟨(fun e => nomatch e), fun e => by have := ht60.mpr (fun q hq hl => (hR60 _ (W.dr hq hl)).mpr (e.2.1 q hq hl)); rw [(b2i_0 _).mp c63] at this; exact this⟩, rfl⟩ | exact ⟨false, _, _, rfl, ⟨(fun e => nomatch e), fun e => by have := (hR60 _ hdl).mpr e.2.2; rw [(b2i_0 _).mp c77] at this; exact this⟩, rfl⟩ | exact ⟨true, _, _, rfl, ⟨fun _ => ⟨ht3.mp ((b2i_n0 _).mp c6), fun q hq hl => (hR60 _ (W.dr hq hl)).mp (ht60.mp ((b2i_n0 _).mp c63) q hq hl), (hR60 _ hdl).mp ((b2i_n0 _).mp c77)⟩, fun _ => rfl⟩, rfl⟩)⟩
          · have hon := (ht3.mp ((b2i_n0 _).mp c6)).1
            have hdl := hon.door W hr
            refine r_aload_n (q := 67) (z := 0) C 0 rfl (by decide +kernel) rfl rfl ?_
            refine r_getR (q := 70) C 7 39 487 rfl (by decide +kernel) rfl (by decide) rfl rfl wf_X7_124 win7 hm.1 ?_
            refine r_aload_n (q := 71) (z := 0) C 0 rfl (by decide +kernel) rfl rfl ?_
            refine r_iload_n (q := 72) (z := 1) C 1 rfl (by decide +kernel) rfl rfl ?_
            refine r_iload_n (q := 73) (z := 2) C 2 rfl (by decide +kernel) rfl rfl ?_
            refine cV2I (q := 76) C R rfl (by decide +kernel) lk_X7_274 (c_X7_doorAt hm (MR.row (h := h.row (h.fr 486 m) _) hm (M2 _) (by rw [gl_row, fr_row, hm.g487]; decide)) W hr hp) (by decide) (by decide) (by decide) rfl (by first | exact Nat.le_of_ble_eq_true rfl | (simp only [List.map_cons, List.map_nil, List.sum_cons, List.sum_nil, rv_cat]; exact Nat.le_of_ble_eq_true rfl)) rfl hm.1 ?_
            rintro _ _ ⟨rfl, rfl⟩
            refine r_zald (q := 77) C rfl (by decide +kernel) hm.k487 (vp_in_nI hdl (by decide)) ?_
            try simp only [fr_row]
            rw [nI_clamp (by omega), ai_row_eq, hF60 _ hdl]
            refine r_if_eq (q := 80) (off := 7) (tgt := 84) C rfl (by decide +kernel) (by decide) (fun c77 => ?_) (fun c77 => ?_)
            · refine r_iconst (q := 85) (z := 0) (v := 0) C rfl (by decide +kernel) (by decide) ?_
              exact r_zret C (by decide +kernel) rfl (by first | decide | exact b2i_nar _) (by decide) (by decide) ⟨_, rfl, (by first | exact ⟨false, _, _, rfl, ⟨(fun e => nomatch e), fun e => by have := ht60.mpr (fun q hq hl => (hR60 _ (W.dr hq hl)).mpr (e.2.1 q hq hl)); rw [(b2i_0 _).mp c63] at this; exact this⟩, rfl⟩ | exact ⟨false, _, _, rfl, ⟨(fun e => nomatch e), fun e => by have := (hR60 _ hdl).mpr e.2.2; rw [(b2i_0 _).mp c77] at this; exact this⟩, rfl⟩ | exact ⟨true, _, _, rfl, ⟨fun _ => ⟨ht3.mp ((b2i_n0 _).mp c6), fun q hq hl => (hR60 _ (W.dr hq hl)).mp (ht60.mp ((b2i_n0 _).mp c63) q hq hl), (hR60 _ hdl).mp ((b2i_n0 _).mp c77)⟩, fun _ => rfl⟩, rfl⟩)⟩
            · refine r_iconst (q := 81) (z := 1) (v := 1) C rfl (by decide +kernel) (by decide) ?_
              refine r_goto (off := 4) (tgt := 85) C (by decide +kernel) (by decide) ?_
              exact r_zret C (by decide +kernel) rfl (by first | decide | exact b2i_nar _) (by decide) (by decide) ⟨_, rfl, (by first | exact ⟨false, _, _, rfl, ⟨(fun e => nomatch e), fun e => by have := ht60.mpr (fun q hq hl => (hR60 _ (W.dr hq hl)).mpr (e.2.1 q hq hl)); rw [(b2i_0 _).mp c63] at this; exact this⟩, rfl⟩ | exact ⟨false, _, _, rfl, ⟨(fun e => nomatch e), fun e => by have := (hR60 _ hdl).mpr e.2.2; rw [(b2i_0 _).mp c77] at this; exact this⟩, rfl⟩ | exact ⟨true, _, _, rfl, ⟨fun _ => ⟨ht3.mp ((b2i_n0 _).mp c6), fun q hq hl => (hR60 _ (W.dr hq hl)).mp (ht60.mp ((b2i_n0 _).mp c63) q hq hl), (hR60 _ hdl).mp ((b2i_n0 _).mp c77)⟩, fun _ => rfl⟩, rfl⟩)⟩
        · have hlt : i < 120 := Nat.lt_of_not_le (fun e => c20 (nI_le (a := 120) e (by omega)))
          refine r_aload_n (q := 24) (z := 0) C 0 rfl (by decide +kernel) rfl rfl ?_
          refine r_getR (q := 27) C 7 38 486 rfl (by decide +kernel) rfl (by decide) rfl rfl wf_X7_121 win7 hm.1 ?_
          refine r_iload_n (q := 28) (z := 3) C 3 rfl (by decide +kernel) rfl rfl ?_
          refine r_aload_n (q := 29) (z := 0) C 0 rfl (by decide +kernel) rfl rfl ?_
          refine r_getR (q := 32) C 7 38 486 rfl (by decide +kernel) rfl (by decide) rfl rfl wf_X7_121 win7 hm.1 ?_
          refine r_iload_n (q := 33) (z := 3) C 3 rfl (by decide +kernel) rfl rfl ?_
          refine r_zald (q := 34) C rfl (by decide +kernel) hm.k486 (vp_in_nI hlt (by decide)) ?_
          try simp only [fr_row]
          rw [nI_clamp (by omega), ai_row_eq, mix_out (Nat.le_refl i), mix_in hlt]
          refine r_if_ne (q := 37) (off := 13) (tgt := 47) C rfl (by decide +kernel) (by decide) (fun c34 => ?_) (fun c34 => ?_)
          · have e52 : b2i (σ.bar r p i) = 1 := by rw [show σ.bar r p i = true by unfold SG.bar; rw [(b2i_n0 _).mp c34]; rfl]; rfl
            refine r_iconst (q := 48) (z := 1) (v := b2i (σ.bar r p i)) C rfl (by decide +kernel) (by rw [e52]; decide) ?_
            refine r_goto (off := 4) (tgt := 52) C (by decide +kernel) (by decide) ?_
            refine r_zast (q := 53) C rfl (by decide +kernel) (by first | exact b2i_vn _ | rfl) hm.k486 (vp_in_nI hlt (by decide)) ?_
            try simp only [fr_row]
            rw [row_stI, nI_clamp (by omega), mix_s (fun c => b2i (σ.bar r p c))]
            refine r_iinc (q := 56) (z := 1) (v := 1) C 3 rfl (by decide +kernel) rfl (by decide) (by decide) (by first | rfl | exact okst_rv rfl) ?_
            dsimp only [List.set]
            rw [nI_1]
            refine r_goto (off := -39) (tgt := 17) C (by decide +kernel) (by decide) ?_
            exact ih17 (i + 1) (by omega) (by omega)
          · refine r_aload_n (q := 38) (z := 0) C 0 rfl (by decide +kernel) rfl rfl ?_
            refine r_iload_n (q := 39) (z := 1) C 1 rfl (by decide +kernel) rfl rfl ?_
            refine r_iload_n (q := 40) (z := 2) C 2 rfl (by decide +kernel) rfl rfl ?_
            refine r_iload_n (q := 41) (z := 3) C 3 rfl (by decide +kernel) rfl rfl ?_
            refine cV3I (q := 44) C R rfl (by decide +kernel) lk_X7_263 (c_X7_coversAt hm (M2 _) W hr hp (by omega)) (by decide) (by decide) (by decide) rfl (by first | exact Nat.le_of_ble_eq_true rfl | (simp only [List.map_cons, List.map_nil, List.sum_cons, List.sum_nil, rv_cat]; exact Nat.le_of_ble_eq_true rfl)) rfl hm.1 ?_
            rintro _ _ ⟨rfl, rfl⟩
            refine r_if_eq (q := 47) (off := 7) (tgt := 51) C rfl (by decide +kernel) (by decide) (fun c44 => ?_) (fun c44 => ?_)
            · have e52 : b2i (σ.bar r p i) = 0 := by rw [show σ.bar r p i = false by unfold SG.bar; rw [(b2i_0 _).mp c34, (b2i_0 _).mp c44]; rfl]; rfl
              refine r_iconst (q := 52) (z := 0) (v := b2i (σ.bar r p i)) C rfl (by decide +kernel) (by rw [e52]; decide) ?_
              refine r_zast (q := 53) C rfl (by decide +kernel) (by first | exact b2i_vn _ | rfl) hm.k486 (vp_in_nI hlt (by decide)) ?_
              try simp only [fr_row]
              rw [row_stI, nI_clamp (by omega), mix_s (fun c => b2i (σ.bar r p c))]
              refine r_iinc (q := 56) (z := 1) (v := 1) C 3 rfl (by decide +kernel) rfl (by decide) (by decide) (by first | rfl | exact okst_rv rfl) ?_
              dsimp only [List.set]
              rw [nI_1]
              refine r_goto (off := -39) (tgt := 17) C (by decide +kernel) (by decide) ?_
              exact ih17 (i + 1) (by omega) (by omega)
            · have e52 : b2i (σ.bar r p i) = 1 := by rw [show σ.bar r p i = true by unfold SG.bar; rw [(b2i_n0 _).mp c44, Bool.or_true]]; rfl
              refine r_iconst (q := 48) (z := 1) (v := b2i (σ.bar r p i)) C rfl (by decide +kernel) (by rw [e52]; decide) ?_
              refine r_goto (off := 4) (tgt := 52) C (by decide +kernel) (by decide) ?_
              refine r_zast (q := 53) C rfl (by decide +kernel) (by first | exact b2i_vn _ | rfl) hm.k486 (vp_in_nI hlt (by decide)) ?_
              try simp only [fr_row]
              rw [row_stI, nI_clamp (by omega), mix_s (fun c => b2i (σ.bar r p c))]
              refine r_iinc (q := 56) (z := 1) (v := 1) C 3 rfl (by decide +kernel) rfl (by decide) (by decide) (by first | rfl | exact okst_rv rfl) ?_
              dsimp only [List.set]
              rw [nI_1]
              refine r_goto (off := -39) (tgt := 17) C (by decide +kernel) (by decide) ?_
              exact ih17 (i + 1) (by omega) (by omega)
    have z0 := L17 121 0 (by omega) (by omega)
    rw [mix_0] at z0
    exact z0
  · refine r_iconst (q := 10) (z := 0) (v := 0) C rfl (by decide +kernel) (by decide) ?_
    exact r_zret C (by decide +kernel) rfl (by first | decide | exact b2i_nar _) (by decide) (by decide) ⟨_, rfl, ⟨false, _, _, rfl, ⟨(fun e => nomatch e), fun e => by rw [(b2i_0 _).mp c6] at ht3; exact ht3.mpr e.1⟩, scr_self⟩⟩
theorem c_X7_placeOf {G : GT} {h : HP} {x y : Int32} {t : Bool} : Con G 1 0 0 yX7_placeOf cX7_placeOf 3 (some .int) [.int x, .int y, .int (b2i t)] h (PI (fun v h' => 2 * (12 * y + x) + (if t then 1 else 0) = v ∧ h = h')) := by
  refine Con.of (lv := [some (.int x), some (.int y), some (.int (b2i t))]) (by decide) (by simp only [lvE_r, lvE_i, lvE_l, lvE_s, lvE_0]; rfl) (by simp only [lgl_r, lgl_i, lgl_l, lgl_s, lgl_0]; decide) (fun Γ C R => ?_)
  refine r_iconst (q := 1) (z := 2) (v := 2) C rfl (by decide +kernel) (by decide) ?_
  refine r_bipush (q := 3) (z := 12) (v := 12) C rfl (by decide +kernel) (by decide) ?_
  refine r_iload_n (q := 4) (z := 1) C 1 rfl (by decide +kernel) rfl rfl ?_
  refine r_imul (q := 5) C rfl (by decide +kernel) ?_
  refine r_iload_n (q := 6) (z := 0) C 0 rfl (by decide +kernel) rfl rfl ?_
  refine r_iadd (q := 7) C rfl (by decide +kernel) ?_
  refine r_imul (q := 8) C rfl (by decide +kernel) ?_
  refine r_iload_n (q := 9) (z := 2) C 2 rfl (by decide +kernel) rfl rfl ?_
  refine r_if_eq (q := 12) (off := 7) (tgt := 16) C rfl (by decide +kernel) (by decide) (fun c9 => ?_) (fun c9 => ?_)
  · refine r_iconst (q := 17) (z := 0) (v := 0) C rfl (by decide +kernel) (by decide) ?_
    refine r_iadd (q := 18) C rfl (by decide +kernel) ?_
    exact r_iret C (by decide +kernel) rfl (by decide) (by decide) ⟨_, rfl, ⟨by clear C R; simp_all [b2i_0, b2i_n0], rfl⟩⟩
  · refine r_iconst (q := 13) (z := 1) (v := 1) C rfl (by decide +kernel) (by decide) ?_
    refine r_goto (off := 4) (tgt := 17) C (by decide +kernel) (by decide) ?_
    refine r_iadd (q := 18) C rfl (by decide +kernel) ?_
    exact r_iret C (by decide +kernel) rfl (by decide) (by decide) ⟨_, rfl, ⟨by clear C R; simp_all [b2i_0, b2i_n0], rfl⟩⟩
theorem c_X7_fits {G : GT} {h : HP} {m : Nat} {σ : SG} {x a b : Int32} {t : Bool} (hm : LM h.kd h.gl h.fr m) (M : MR σ h m) (W : WF σ) : Con G 8 0 0 yX7_fits cX7_fits 5 (some .int) [rv m, .int x, .int a, .int b, .int (b2i t)] h (PI (fun v h' => fitsV σ x a b t = v ∧ MR σ h' m ∧ Fm [486, 487] [448] h h')) := by
  refine Con.of (lv := [some (rv m), some (.int x), some (.int a), some (.int b), some (.int (b2i t))]) (by decide) (by simp only [lvE_r, lvE_i, lvE_l, lvE_s, lvE_0]; rfl) (by simp only [lgl_r, lgl_i, lgl_l, lgl_s, lgl_0]; decide) (fun Γ C R => ?_)
  have r10 := W.n10
  have M1 : MR σ (h.setI 448 m 0) m := M.setI (by decide) (by decide) (by decide)
  refine r_aload_n (q := 1) (z := 0) C 0 rfl (by decide +kernel) rfl rfl ?_
  refine r_iconst (q := 2) (z := 0) (v := 0) C rfl (by decide +kernel) (by decide) ?_
  refine r_putI (q := 5) C 7 0 448 rfl (by decide +kernel) rfl (by decide) rfl rfl wf_X7_1 win7 tyX7 tyX7_ok nmX7 rfl (tyX7_ok 0 (by decide)) rfl wnd7 rfl rfl hm.1 ?_
  refine r_aload_n (q := 6) (z := 0) C 0 rfl (by decide +kernel) rfl rfl ?_
  refine r_iload_n (q := 7) (z := 1) C 1 rfl (by decide +kernel) rfl rfl ?_
  refine cV1I (q := 10) C R rfl (by decide +kernel) lk_X7_316 (c_X7_isRide hm M1) (by decide) (by decide) (by decide) rfl (by first | exact Nat.le_of_ble_eq_true rfl | (simp only [List.map_cons, List.map_nil, List.sum_cons, List.sum_nil, rv_cat]; exact Nat.le_of_ble_eq_true rfl)) rfl hm.1 ?_
  rintro _ _ ⟨rfl, rfl⟩
  refine r_if_eq (q := 13) (off := 12) (tgt := 22) C rfl (by decide +kernel) (by decide) (fun c10 => ?_) (fun c10 => ?_)
  · have c10 := of_decide_eq_false ((b2i_0 _).mp c10)
    refine r_iconst (q := 23) (z := (-1)) (v := (-1)) C rfl (by decide +kernel) (by decide) ?_
    exact r_iret C (by decide +kernel) rfl (by decide) (by decide) ⟨_, rfl, ⟨by first | exact cif_f c10 | (rw [fitsV, cif_t c10, nI_clamp (by omega), cif_t c19]), M1, Fm.rf.setI (by decide)⟩⟩
  · have c10 := of_decide_eq_true ((b2i_n0 _).mp c10)
    obtain ⟨r, hr, rfl⟩ := ride_of r10 c10
    refine r_aload_n (q := 14) (z := 0) C 0 rfl (by decide +kernel) rfl rfl ?_
    refine r_getR (q := 17) C 7 30 478 rfl (by decide +kernel) rfl (by decide) rfl rfl wf_X7_103 win7 hm.1 ?_
    refine r_iload_n (q := 18) (z := 1) C 1 rfl (by decide +kernel) rfl rfl ?_
    refine r_iald (q := 19) C rfl (by decide +kernel) hm.k478 (vp_in_nI (by omega) (by decide)) ?_
    rw [nI_clamp (by omega), M1.ali (by omega)]
    refine r_if_lt (q := 22) (off := 5) (tgt := 24) C rfl (by decide +kernel) (by decide) (fun c19 => ?_) (fun c19 => ?_)
    · have c19 := pl_neg.mp c19
      refine r_iload_n (q := 25) (z := 2) C 2 rfl (by decide +kernel) rfl rfl ?_
      refine r_iload_n (q := 26) (z := 3) C 3 rfl (by decide +kernel) rfl rfl ?_
      refine cS2I (q := 29) C R rfl (by decide +kernel) lk_X7_295 (c_X7_isCell ) (by decide) (by decide) (by decide) rfl (by first | exact Nat.le_of_ble_eq_true rfl | (simp only [List.map_cons, List.map_nil, List.sum_cons, List.sum_nil, rv_cat]; exact Nat.le_of_ble_eq_true rfl))  ?_
      rintro _ _ ⟨rfl, rfl⟩
      refine r_if_eq (q := 32) (off := 22) (tgt := 51) C rfl (by decide +kernel) (by decide) (fun c29 => ?_) (fun c29 => ?_)
      · have c29 := (b2i_0 _).mp c29
        refine r_iconst (q := 52) (z := 0) (v := 0) C rfl (by decide +kernel) (by decide) ?_
        exact r_iret C (by decide +kernel) rfl (by decide) (by decide) ⟨_, rfl, (by first | exact ⟨by rw [fitsV, cif_t c10, nI_clamp (by omega), cif_f c19, cif_f (fun e => by rw [c29] at e; exact absurd e.1 (by decide))], M1, Fm.rf.setI (by decide)⟩ | exact ⟨by rw [fitsV, cif_t c10, nI_clamp (by omega), cif_f c19, cif_f (fun e => by have := ht41.mpr e.2; rw [(b2i_0 _).mp c44] at this; cases this)], M1.scr hm, (Fm.rf.setI (by decide)).sc hm (by decide) (by decide)⟩ | exact ⟨by rw [fitsV, cif_t c10, nI_clamp (by omega), cif_f c19, cif_t ⟨c29, ht41.mp ((b2i_n0 _).mp c44)⟩], M1.scr hm, (Fm.rf.setI (by decide)).sc hm (by decide) (by decide)⟩)⟩
      · have c29 := (b2i_n0 _).mp c29
        obtain ⟨a0, b0, ha0, hb0, ea, eb, hp, ep, -⟩ := plc_of (t := t) c29
        refine r_aload_n (q := 33) (z := 0) C 0 rfl (by decide +kernel) rfl rfl ?_
        refine r_iload_n (q := 34) (z := 1) C 1 rfl (by decide +kernel) rfl rfl ?_
        refine r_iload_n (q := 35) (z := 2) C 2 rfl (by decide +kernel) rfl rfl ?_
        refine r_iload_n (q := 36) (z := 3) C 3 rfl (by decide +kernel) rfl rfl ?_
        refine r_iload (q := 38) C 4 rfl (by decide +kernel) rfl ?_
        refine cS3I (q := 41) C R rfl (by decide +kernel) lk_X7_319 (c_X7_placeOf ) (by decide) (by decide) (by decide) rfl (by first | exact Nat.le_of_ble_eq_true rfl | (simp only [List.map_cons, List.map_nil, List.sum_cons, List.sum_nil, rv_cat]; exact Nat.le_of_ble_eq_true rfl))  ?_
        rintro _ _ ⟨rfl, rfl⟩
        rw [ep]
        refine cV2I (q := 44) C R rfl (by decide +kernel) lk_X7_323 (c_X7_fitsAt hm M1 W hr hp) (by decide) (by decide) (by decide) rfl (by first | exact Nat.le_of_ble_eq_true rfl | (simp only [List.map_cons, List.map_nil, List.sum_cons, List.sum_nil, rv_cat]; exact Nat.le_of_ble_eq_true rfl)) rfl hm.1 ?_
        rintro _ _ ⟨t41, f41, g41, rfl, ht41, rfl⟩
        refine r_if_eq (q := 47) (off := 7) (tgt := 51) C rfl (by decide +kernel) (by decide) (fun c44 => ?_) (fun c44 => ?_)
        · refine r_iconst (q := 52) (z := 0) (v := 0) C rfl (by decide +kernel) (by decide) ?_
          exact r_iret C (by decide +kernel) rfl (by decide) (by decide) ⟨_, rfl, (by first | exact ⟨by rw [fitsV, cif_t c10, nI_clamp (by omega), cif_f c19, cif_f (fun e => by rw [c29] at e; exact absurd e.1 (by decide))], M1, Fm.rf.setI (by decide)⟩ | exact ⟨by rw [fitsV, cif_t c10, nI_clamp (by omega), cif_f c19, cif_f (fun e => by have := ht41.mpr e.2; rw [(b2i_0 _).mp c44] at this; cases this)], M1.scr hm, (Fm.rf.setI (by decide)).sc hm (by decide) (by decide)⟩ | exact ⟨by rw [fitsV, cif_t c10, nI_clamp (by omega), cif_f c19, cif_t ⟨c29, ht41.mp ((b2i_n0 _).mp c44)⟩], M1.scr hm, (Fm.rf.setI (by decide)).sc hm (by decide) (by decide)⟩)⟩
        · refine r_iconst (q := 48) (z := 1) (v := 1) C rfl (by decide +kernel) (by decide) ?_
          refine r_goto (off := 4) (tgt := 52) C (by decide +kernel) (by decide) ?_
          exact r_iret C (by decide +kernel) rfl (by decide) (by decide) ⟨_, rfl, (by first | exact ⟨by rw [fitsV, cif_t c10, nI_clamp (by omega), cif_f c19, cif_f (fun e => by rw [c29] at e; exact absurd e.1 (by decide))], M1, Fm.rf.setI (by decide)⟩ | exact ⟨by rw [fitsV, cif_t c10, nI_clamp (by omega), cif_f c19, cif_f (fun e => by have := ht41.mpr e.2; rw [(b2i_0 _).mp c44] at this; cases this)], M1.scr hm, (Fm.rf.setI (by decide)).sc hm (by decide) (by decide)⟩ | exact ⟨by rw [fitsV, cif_t c10, nI_clamp (by omega), cif_f c19, cif_t ⟨c29, ht41.mp ((b2i_n0 _).mp c44)⟩], M1.scr hm, (Fm.rf.setI (by decide)).sc hm (by decide) (by decide)⟩)⟩
    · have c19 := pl_nn.mp c19
      refine r_iconst (q := 23) (z := (-1)) (v := (-1)) C rfl (by decide +kernel) (by decide) ?_
      exact r_iret C (by decide +kernel) rfl (by decide) (by decide) ⟨_, rfl, ⟨by first | exact cif_f c10 | (rw [fitsV, cif_t c10, nI_clamp (by omega), cif_t c19]), M1, Fm.rf.setI (by decide)⟩⟩
theorem c_X7_lay_ {G : GT} {h : HP} {m : Nat} {σ : SG} {x a b : Int32} {t : Bool} (hm : LM h.kd h.gl h.fr m) (M : MR σ h m) (W : WF σ) : Con G 8 0 0 yX7_lay_ cX7_lay_ 5 (some .boolean) [rv m, .int x, .int a, .int b, .int (b2i t)] h (PI (fun v h' => cif (layP σ x a b t) 1 0 = v ∧ MR (cif (layP σ x a b t) (σ.li_ (upN σ.li x.toNatClampNeg (plc a b t))) σ) h' m ∧ Fm [486, 487, 478] [448] h h')) := by
  refine Con.of (lv := [some (rv m), some (.int x), some (.int a), some (.int b), some (.int (b2i t))]) (by decide) (by simp only [lvE_r, lvE_i, lvE_l, lvE_s, lvE_0]; rfl) (by simp only [lgl_r, lgl_i, lgl_l, lgl_s, lgl_0]; decide) (fun Γ C R => ?_)
  have r10 := W.n10
  have M1 : MR σ (h.setI 448 m 0) m := M.setI (by decide) (by decide) (by decide)
  refine r_aload_n (q := 1) (z := 0) C 0 rfl (by decide +kernel) rfl rfl ?_
  refine r_iconst (q := 2) (z := 0) (v := 0) C rfl (by decide +kernel) (by decide) ?_
  refine r_putI (q := 5) C 7 0 448 rfl (by decide +kernel) rfl (by decide) rfl rfl wf_X7_1 win7 tyX7 tyX7_ok nmX7 rfl (tyX7_ok 0 (by decide)) rfl wnd7 rfl rfl hm.1 ?_
  refine r_aload_n (q := 6) (z := 0) C 0 rfl (by decide +kernel) rfl rfl ?_
  refine r_iload_n (q := 7) (z := 1) C 1 rfl (by decide +kernel) rfl rfl ?_
  refine cV1I (q := 10) C R rfl (by decide +kernel) lk_X7_316 (c_X7_isRide hm M1) (by decide) (by decide) (by decide) rfl (by first | exact Nat.le_of_ble_eq_true rfl | (simp only [List.map_cons, List.map_nil, List.sum_cons, List.sum_nil, rv_cat]; exact Nat.le_of_ble_eq_true rfl)) rfl hm.1 ?_
  rintro _ _ ⟨rfl, rfl⟩
  refine r_if_eq (q := 13) (off := 35) (tgt := 45) C rfl (by decide +kernel) (by decide) (fun c10 => ?_) (fun c10 => ?_)
  · have c10 := of_decide_eq_false ((b2i_0 _).mp c10)
    refine r_iconst (q := 46) (z := 0) (v := 0) C rfl (by decide +kernel) (by decide) ?_
    exact r_zret C (by decide +kernel) rfl (by first | decide | exact b2i_nar _) (by decide) (by decide) ⟨_, rfl, (by
          first | (have hn : ¬ layP σ x a b t := fun e => c10 e.1
                   rw [cif_f hn, cif_f hn]) | (have hn : ¬ layP σ (nI r) a b t := fun e => e.2.1 (by rw [nI_clamp (by omega)]; exact c19)
                                               rw [cif_f hn, cif_f hn]) | (have hn : ¬ layP σ (nI r) a b t := fun e => absurd e.2.2.1 (by rw [c27]; decide)
                                                                           rw [cif_f hn, cif_f hn]) | (have hn : ¬ layP σ (nI r) a b t := fun e => by have h1 := e.2.2.2; rw [nI_clamp (by omega)] at h1; have := ht39.mpr h1; rw [(b2i_0 _).mp c42] at this; cases this
                                                                                                       rw [cif_f hn, cif_f hn])
          first | exact ⟨rfl, M1.scr hm, (Fm.rf.setI (by decide)).sc hm (by decide) (by decide)⟩ | exact ⟨rfl, M1, Fm.rf.setI (by decide)⟩)⟩
  · have c10 := of_decide_eq_true ((b2i_n0 _).mp c10)
    obtain ⟨r, hr, rfl⟩ := ride_of r10 c10
    refine r_aload_n (q := 14) (z := 0) C 0 rfl (by decide +kernel) rfl rfl ?_
    refine r_getR (q := 17) C 7 30 478 rfl (by decide +kernel) rfl (by decide) rfl rfl wf_X7_103 win7 hm.1 ?_
    refine r_iload_n (q := 18) (z := 1) C 1 rfl (by decide +kernel) rfl rfl ?_
    refine r_iald (q := 19) C rfl (by decide +kernel) hm.k478 (vp_in_nI (by omega) (by decide)) ?_
    rw [nI_clamp (by omega), M1.ali (by omega)]
    refine r_if_ge (q := 22) (off := 26) (tgt := 45) C rfl (by decide +kernel) (by decide) (fun c19 => ?_) (fun c19 => ?_)
    · have c19 := pl_le.mp c19
      refine r_iconst (q := 46) (z := 0) (v := 0) C rfl (by decide +kernel) (by decide) ?_
      exact r_zret C (by decide +kernel) rfl (by first | decide | exact b2i_nar _) (by decide) (by decide) ⟨_, rfl, (by
            first | (have hn : ¬ layP σ x a b t := fun e => c10 e.1
                     rw [cif_f hn, cif_f hn]) | (have hn : ¬ layP σ (nI r) a b t := fun e => e.2.1 (by rw [nI_clamp (by omega)]; exact c19)
                                                 rw [cif_f hn, cif_f hn]) | (have hn : ¬ layP σ (nI r) a b t := fun e => absurd e.2.2.1 (by rw [c27]; decide)
                                                                             rw [cif_f hn, cif_f hn]) | (have hn : ¬ layP σ (nI r) a b t := fun e => by have h1 := e.2.2.2; rw [nI_clamp (by omega)] at h1; have := ht39.mpr h1; rw [(b2i_0 _).mp c42] at this; cases this
                                                                                                         rw [cif_f hn, cif_f hn])
            first | exact ⟨rfl, M1.scr hm, (Fm.rf.setI (by decide)).sc hm (by decide) (by decide)⟩ | exact ⟨rfl, M1, Fm.rf.setI (by decide)⟩)⟩
    · have c19 := mt pl_le.mpr c19
      refine r_iload_n (q := 23) (z := 2) C 2 rfl (by decide +kernel) rfl rfl ?_
      refine r_iload_n (q := 24) (z := 3) C 3 rfl (by decide +kernel) rfl rfl ?_
      refine cS2I (q := 27) C R rfl (by decide +kernel) lk_X7_295 (c_X7_isCell ) (by decide) (by decide) (by decide) rfl (by first | exact Nat.le_of_ble_eq_true rfl | (simp only [List.map_cons, List.map_nil, List.sum_cons, List.sum_nil, rv_cat]; exact Nat.le_of_ble_eq_true rfl))  ?_
      rintro _ _ ⟨rfl, rfl⟩
      refine r_if_eq (q := 30) (off := 18) (tgt := 45) C rfl (by decide +kernel) (by decide) (fun c27 => ?_) (fun c27 => ?_)
      · have c27 := (b2i_0 _).mp c27
        refine r_iconst (q := 46) (z := 0) (v := 0) C rfl (by decide +kernel) (by decide) ?_
        exact r_zret C (by decide +kernel) rfl (by first | decide | exact b2i_nar _) (by decide) (by decide) ⟨_, rfl, (by
              first | (have hn : ¬ layP σ x a b t := fun e => c10 e.1
                       rw [cif_f hn, cif_f hn]) | (have hn : ¬ layP σ (nI r) a b t := fun e => e.2.1 (by rw [nI_clamp (by omega)]; exact c19)
                                                   rw [cif_f hn, cif_f hn]) | (have hn : ¬ layP σ (nI r) a b t := fun e => absurd e.2.2.1 (by rw [c27]; decide)
                                                                               rw [cif_f hn, cif_f hn]) | (have hn : ¬ layP σ (nI r) a b t := fun e => by have h1 := e.2.2.2; rw [nI_clamp (by omega)] at h1; have := ht39.mpr h1; rw [(b2i_0 _).mp c42] at this; cases this
                                                                                                           rw [cif_f hn, cif_f hn])
              first | exact ⟨rfl, M1.scr hm, (Fm.rf.setI (by decide)).sc hm (by decide) (by decide)⟩ | exact ⟨rfl, M1, Fm.rf.setI (by decide)⟩)⟩
      · have c27 := (b2i_n0 _).mp c27
        obtain ⟨a0, b0, ha0, hb0, ea, eb, hp, ep, -⟩ := plc_of (t := t) c27
        refine r_aload_n (q := 31) (z := 0) C 0 rfl (by decide +kernel) rfl rfl ?_
        refine r_iload_n (q := 32) (z := 1) C 1 rfl (by decide +kernel) rfl rfl ?_
        refine r_iload_n (q := 33) (z := 2) C 2 rfl (by decide +kernel) rfl rfl ?_
        refine r_iload_n (q := 34) (z := 3) C 3 rfl (by decide +kernel) rfl rfl ?_
        refine r_iload (q := 36) C 4 rfl (by decide +kernel) rfl ?_
        refine cS3I (q := 39) C R rfl (by decide +kernel) lk_X7_319 (c_X7_placeOf ) (by decide) (by decide) (by decide) rfl (by first | exact Nat.le_of_ble_eq_true rfl | (simp only [List.map_cons, List.map_nil, List.sum_cons, List.sum_nil, rv_cat]; exact Nat.le_of_ble_eq_true rfl))  ?_
        rintro _ _ ⟨rfl, rfl⟩
        rw [ep]
        refine cV2I (q := 42) C R rfl (by decide +kernel) lk_X7_323 (c_X7_fitsAt hm M1 W hr hp) (by decide) (by decide) (by decide) rfl (by first | exact Nat.le_of_ble_eq_true rfl | (simp only [List.map_cons, List.map_nil, List.sum_cons, List.sum_nil, rv_cat]; exact Nat.le_of_ble_eq_true rfl)) rfl hm.1 ?_
        rintro _ _ ⟨t39, f39, g39, rfl, ht39, rfl⟩
        refine r_if_ne (q := 45) (off := 5) (tgt := 47) C rfl (by decide +kernel) (by decide) (fun c42 => ?_) (fun c42 => ?_)
        · refine r_aload_n (q := 48) (z := 0) C 0 rfl (by decide +kernel) rfl rfl ?_
          refine r_getR (q := 51) C 7 30 478 rfl (by decide +kernel) rfl (by decide) rfl rfl wf_X7_103 win7 hm.1 ?_
          refine r_iload_n (q := 52) (z := 1) C 1 rfl (by decide +kernel) rfl rfl ?_
          refine r_iload_n (q := 53) (z := 2) C 2 rfl (by decide +kernel) rfl rfl ?_
          refine r_iload_n (q := 54) (z := 3) C 3 rfl (by decide +kernel) rfl rfl ?_
          refine r_iload (q := 56) C 4 rfl (by decide +kernel) rfl ?_
          refine cS3I (q := 59) C R rfl (by decide +kernel) lk_X7_319 (c_X7_placeOf ) (by decide) (by decide) (by decide) rfl (by first | exact Nat.le_of_ble_eq_true rfl | (simp only [List.map_cons, List.map_nil, List.sum_cons, List.sum_nil, rv_cat]; exact Nat.le_of_ble_eq_true rfl))  ?_
          rintro _ _ ⟨rfl, rfl⟩
          rw [ep]
          refine r_iast (q := 60) C rfl (by decide +kernel) rfl hm.k478 (vp_in_nI (by omega) (by decide)) ?_
          rw [stI_row, nI_clamp (by omega)]
          refine r_iconst (q := 61) (z := 1) (v := 1) C rfl (by decide +kernel) (by decide) ?_
          exact r_zret C (by decide +kernel) rfl (by first | decide | exact b2i_nar _) (by decide) (by decide) ⟨_, rfl, (by
                have hy : layP σ (nI r) a b t := ⟨c10, by rw [nI_clamp (by omega)]; exact c19, c27, by rw [nI_clamp (by omega)]; exact ht39.mp ((b2i_n0 _).mp c42)⟩
                rw [cif_t hy, cif_t hy]
                try rw [nI_clamp (by omega)]
                exact ⟨rfl, MR.li_up (h := scr (h.setI 448 m 0) m f39 g39) hm (M1.scr hm) (pl_in hp).symm, Fm.row ((Fm.rf.setI (by decide)).sc hm (by decide) (by decide)) (by show h.gl (h.fr 478 m) ∈ _; rw [hm.g478]; decide)⟩)⟩
        · refine r_iconst (q := 46) (z := 0) (v := 0) C rfl (by decide +kernel) (by decide) ?_
          exact r_zret C (by decide +kernel) rfl (by first | decide | exact b2i_nar _) (by decide) (by decide) ⟨_, rfl, (by
                first | (have hn : ¬ layP σ x a b t := fun e => c10 e.1
                         rw [cif_f hn, cif_f hn]) | (have hn : ¬ layP σ (nI r) a b t := fun e => e.2.1 (by rw [nI_clamp (by omega)]; exact c19)
                                                     rw [cif_f hn, cif_f hn]) | (have hn : ¬ layP σ (nI r) a b t := fun e => absurd e.2.2.1 (by rw [c27]; decide)
                                                                                 rw [cif_f hn, cif_f hn]) | (have hn : ¬ layP σ (nI r) a b t := fun e => by have h1 := e.2.2.2; rw [nI_clamp (by omega)] at h1; have := ht39.mpr h1; rw [(b2i_0 _).mp c42] at this; cases this
                                                                                                             rw [cif_f hn, cif_f hn])
                first | exact ⟨rfl, M1.scr hm, (Fm.rf.setI (by decide)).sc hm (by decide) (by decide)⟩ | exact ⟨rfl, M1, Fm.rf.setI (by decide)⟩)⟩
theorem c_X7_take {G : GT} {h : HP} {m : Nat} {σ : SG} {x : Int32} (hm : LM h.kd h.gl h.fr m) (M : MR σ h m) (W : WF σ) : Con G 2 0 0 yX7_take cX7_take 2 (some .boolean) [rv m, .int x] h (PI (fun v h' => cif ((0 ≤ x ∧ x < nI σ.n) ∧ σ.li x.toNatClampNeg < 240) 1 0 = v ∧ MR (cif ((0 ≤ x ∧ x < nI σ.n) ∧ σ.li x.toNatClampNeg < 240) (σ.li_ (upN σ.li x.toNatClampNeg 240)) σ) h' m ∧ Fm [478] [448] h h')) := by
  refine Con.of (lv := [some (rv m), some (.int x)]) (by decide) (by simp only [lvE_r, lvE_i, lvE_l, lvE_s, lvE_0]; rfl) (by simp only [lgl_r, lgl_i, lgl_l, lgl_s, lgl_0]; decide) (fun Γ C R => ?_)
  have r10 := W.n10
  have M1 : MR σ (h.setI 448 m 0) m := M.setI (by decide) (by decide) (by decide)
  refine r_aload_n (q := 1) (z := 0) C 0 rfl (by decide +kernel) rfl rfl ?_
  refine r_iconst (q := 2) (z := 0) (v := 0) C rfl (by decide +kernel) (by decide) ?_
  refine r_putI (q := 5) C 7 0 448 rfl (by decide +kernel) rfl (by decide) rfl rfl wf_X7_1 win7 tyX7 tyX7_ok nmX7 rfl (tyX7_ok 0 (by decide)) rfl wnd7 rfl rfl hm.1 ?_
  refine r_aload_n (q := 6) (z := 0) C 0 rfl (by decide +kernel) rfl rfl ?_
  refine r_iload_n (q := 7) (z := 1) C 1 rfl (by decide +kernel) rfl rfl ?_
  refine cV1I (q := 10) C R rfl (by decide +kernel) lk_X7_316 (c_X7_isRide hm M1) (by decide) (by decide) (by decide) rfl (by first | exact Nat.le_of_ble_eq_true rfl | (simp only [List.map_cons, List.map_nil, List.sum_cons, List.sum_nil, rv_cat]; exact Nat.le_of_ble_eq_true rfl)) rfl hm.1 ?_
  rintro _ _ ⟨rfl, rfl⟩
  refine r_if_eq (q := 13) (off := 12) (tgt := 22) C rfl (by decide +kernel) (by decide) (fun c10 => ?_) (fun c10 => ?_)
  · have c10 := of_decide_eq_false ((b2i_0 _).mp c10)
    refine r_iconst (q := 23) (z := 0) (v := 0) C rfl (by decide +kernel) (by decide) ?_
    exact r_zret C (by decide +kernel) rfl (by first | decide | exact b2i_nar _) (by decide) (by decide) ⟨_, rfl, (by
          first | (have hn : ¬ ((0 ≤ x ∧ x < nI σ.n) ∧ σ.li x.toNatClampNeg < 240) := fun e => c10 e.1
                   rw [cif_f hn, cif_f hn]) | (have hn : ¬ ((0 ≤ nI r ∧ nI r < nI σ.n) ∧ σ.li r < 240) := fun e => c19 e.2
                                               rw [cif_f hn, cif_f hn])
          exact ⟨rfl, M1, Fm.rf.setI (by decide)⟩)⟩
  · have c10 := of_decide_eq_true ((b2i_n0 _).mp c10)
    obtain ⟨r, hr, rfl⟩ := ride_of r10 c10
    refine r_aload_n (q := 14) (z := 0) C 0 rfl (by decide +kernel) rfl rfl ?_
    refine r_getR (q := 17) C 7 30 478 rfl (by decide +kernel) rfl (by decide) rfl rfl wf_X7_103 win7 hm.1 ?_
    refine r_iload_n (q := 18) (z := 1) C 1 rfl (by decide +kernel) rfl rfl ?_
    refine r_iald (q := 19) C rfl (by decide +kernel) hm.k478 (vp_in_nI (by omega) (by decide)) ?_
    rw [nI_clamp (by omega), M1.ali (by omega)]
    refine r_if_ge (q := 22) (off := 5) (tgt := 24) C rfl (by decide +kernel) (by decide) (fun c19 => ?_) (fun c19 => ?_)
    · have c19 := pl_le.mp c19
      refine r_aload_n (q := 25) (z := 0) C 0 rfl (by decide +kernel) rfl rfl ?_
      refine r_getR (q := 28) C 7 30 478 rfl (by decide +kernel) rfl (by decide) rfl rfl wf_X7_103 win7 hm.1 ?_
      refine r_iload_n (q := 29) (z := 1) C 1 rfl (by decide +kernel) rfl rfl ?_
      refine r_iconst (q := 30) (z := (-1)) (v := (-1)) C rfl (by decide +kernel) (by decide) ?_
      refine r_iast (q := 31) C rfl (by decide +kernel) rfl hm.k478 (vp_in_nI (by omega) (by decide)) ?_
      rw [stI_row, nI_clamp (by omega)]
      refine r_iconst (q := 32) (z := 1) (v := 1) C rfl (by decide +kernel) (by decide) ?_
      exact r_zret C (by decide +kernel) rfl (by first | decide | exact b2i_nar _) (by decide) (by decide) ⟨_, rfl, (by
            have hy : (0 ≤ nI r ∧ nI r < nI σ.n) ∧ σ.li r < 240 := ⟨c10, c19⟩
            rw [cif_t hy, cif_t hy]
            try rw [nI_clamp (by omega)]
            exact ⟨rfl, MR.li_up (h := h.setI 448 m 0) hm M1 (pl_out (by decide)).symm, Fm.row (Fm.rf.setI (by decide)) (by show h.gl (h.fr 478 m) ∈ _; rw [hm.g478]; decide)⟩)⟩
    · have c19 := mt pl_le.mpr c19
      refine r_iconst (q := 23) (z := 0) (v := 0) C rfl (by decide +kernel) (by decide) ?_
      exact r_zret C (by decide +kernel) rfl (by first | decide | exact b2i_nar _) (by decide) (by decide) ⟨_, rfl, (by
            first | (have hn : ¬ ((0 ≤ x ∧ x < nI σ.n) ∧ σ.li x.toNatClampNeg < 240) := fun e => c10 e.1
                     rw [cif_f hn, cif_f hn]) | (have hn : ¬ ((0 ≤ nI r ∧ nI r < nI σ.n) ∧ σ.li r < 240) := fun e => c19 e.2
                                                 rw [cif_f hn, cif_f hn])
            exact ⟨rfl, M1, Fm.rf.setI (by decide)⟩)⟩
theorem c_X7_lying {G : GT} {h : HP} {m : Nat} {σ : SG}  (hm : LM h.kd h.gl h.fr m) (M : MR σ h m) (W : WF σ) : Con G 1 0 0 yX7_lying cX7_lying 3 (some .int) [rv m] h (PI (fun v h' => nI (lyN σ σ.n) = v ∧ h = h')) := by
  refine Con.of (lv := [some (rv m), none, none]) (by decide) (by simp only [lvE_r, lvE_i, lvE_l, lvE_s, lvE_0]; rfl) (by simp only [lgl_r, lgl_i, lgl_l, lgl_s, lgl_0]; decide) (fun Γ C R => ?_)
  have r10 := W.n10
  refine r_iconst (q := 1) (z := 0) (v := 0) C rfl (by decide +kernel) (by decide) ?_
  refine r_istore_n (q := 2) (z := 1) C 1 rfl (by decide +kernel) rfl (by decide) (by first | rfl | exact okst_rv rfl) ?_
  dsimp only [List.set]
  refine r_iconst (q := 3) (z := 0) (v := 0) C rfl (by decide +kernel) (by decide) ?_
  refine r_istore_n (q := 4) (z := 2) C 2 rfl (by decide +kernel) rfl (by decide) (by first | rfl | exact okst_rv rfl) ?_
  dsimp only [List.set]
  have L4 : ∀ (fuel4 : Nat) (k : Nat), σ.n - k < fuel4 → (k ≤ σ.n) → wX G Γ (qM G Γ (PI (fun v h' => nI (lyN σ σ.n) = v ∧ h = h')) 0 0) 0 0 (h) 4 [some (rv m), some (.int (nI (lyN σ k))), some (.int (nI k))] [] := by
    intro fuel4
    induction fuel4 with
    | zero =>
      intro k hm4
      exact absurd hm4 (Nat.not_lt_zero _)
    | succ fuel4 ih4 =>
      intro k hm4 hk
      refine r_iload_n (q := 5) (z := 2) C 2 rfl (by decide +kernel) rfl rfl ?_
      refine r_aload_n (q := 6) (z := 0) C 0 rfl (by decide +kernel) rfl rfl ?_
      refine r_getI (q := 9) C 7 24 472 rfl (by decide +kernel) rfl (by decide) rfl rfl wf_X7_243 win7 hm.1 ?_
      rw [M.fn]
      refine r_icmp_ge (q := 12) (off := 26) (tgt := 35) C rfl (by decide +kernel) (by decide) (fun c9 => ?_) (fun c9 => ?_)
      · have ek : k = σ.n := by have := (nI_leI (by omega) (by omega)).mp c9; omega
        subst ek
        refine r_iload_n (q := 36) (z := 1) C 1 rfl (by decide +kernel) rfl rfl ?_
        exact r_iret C (by decide +kernel) rfl (by decide) (by decide) ⟨_, rfl, ⟨rfl, rfl⟩⟩
      · have hlt : k < σ.n := Nat.lt_of_not_le (fun e => c9 (nI_le e (by omega)))
        refine r_iload_n (q := 13) (z := 1) C 1 rfl (by decide +kernel) rfl rfl ?_
        refine r_aload_n (q := 14) (z := 0) C 0 rfl (by decide +kernel) rfl rfl ?_
        refine r_getR (q := 17) C 7 30 478 rfl (by decide +kernel) rfl (by decide) rfl rfl wf_X7_103 win7 hm.1 ?_
        refine r_iload_n (q := 18) (z := 2) C 2 rfl (by decide +kernel) rfl rfl ?_
        refine r_iald (q := 19) C rfl (by decide +kernel) hm.k478 (vp_in_nI (by omega) (by decide)) ?_
        rw [nI_clamp (by omega), M.ali (by omega)]
        refine r_if_lt (q := 22) (off := 7) (tgt := 26) C rfl (by decide +kernel) (by decide) (fun c19 => ?_) (fun c19 => ?_)
        · have e27 : nI (lyN σ k) + 0 = nI (lyN σ (k + 1)) := by rw [lyN_n (pl_neg.mp c19)]; exact nI_add _ 0
          refine r_iconst (q := 27) (z := 0) (v := 0) C rfl (by decide +kernel) (by decide) ?_
          refine r_iadd (q := 28) C rfl (by decide +kernel) ?_
          rw [e27]
          refine r_istore_n (q := 29) (z := 1) C 1 rfl (by decide +kernel) rfl (by decide) (by first | rfl | exact okst_rv rfl) ?_
          dsimp only [List.set]
          refine r_iinc (q := 32) (z := 1) (v := 1) C 2 rfl (by decide +kernel) rfl (by decide) (by decide) (by first | rfl | exact okst_rv rfl) ?_
          dsimp only [List.set]
          rw [nI_1]
          refine r_goto (off := -28) (tgt := 4) C (by decide +kernel) (by decide) ?_
          exact ih4 (k + 1) (by omega) (by omega)
        · have e27 : nI (lyN σ k) + 1 = nI (lyN σ (k + 1)) := by rw [lyN_y (pl_nn.mp c19)]; exact nI_1 _
          refine r_iconst (q := 23) (z := 1) (v := 1) C rfl (by decide +kernel) (by decide) ?_
          refine r_goto (off := 4) (tgt := 27) C (by decide +kernel) (by decide) ?_
          refine r_iadd (q := 28) C rfl (by decide +kernel) ?_
          rw [e27]
          refine r_istore_n (q := 29) (z := 1) C 1 rfl (by decide +kernel) rfl (by decide) (by first | rfl | exact okst_rv rfl) ?_
          dsimp only [List.set]
          refine r_iinc (q := 32) (z := 1) (v := 1) C 2 rfl (by decide +kernel) rfl (by decide) (by decide) (by first | rfl | exact okst_rv rfl) ?_
          dsimp only [List.set]
          rw [nI_1]
          refine r_goto (off := -28) (tgt := 4) C (by decide +kernel) (by decide) ?_
          exact ih4 (k + 1) (by omega) (by omega)
  exact L4 (σ.n + 1) 0 (by omega) (by omega)
