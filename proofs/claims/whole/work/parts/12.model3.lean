theorem sub3 {a b c : Nat} (ha : a < 1000) (hb : b < 1000) (hc : c < 1000) : (nI a - nI b - nI c).toInt = (a : Int) - b - c := by
  rw [Int32.toInt_sub, pk_sub_toInt (by omega) (by omega), nI_toInt (by omega)]
  simp only [Int.bmod]; omega
def SG.quiet (σ : SG) (r p q : Nat) : Prop := σ.ns r + σ.ns q < 10 ∨ px p + σ.wA r p + 2 ≤ px (σ.li q) ∨ px (σ.li q) + σ.wA q (σ.li q) + 2 ≤ px p ∨ py p + σ.hA r p + 2 ≤ py (σ.li q) ∨ py (σ.li q) + σ.hA q (σ.li q) + 2 ≤ py p
def SG.room (σ : SG) (r p : Nat) : Prop := σ.onG r p ∧ σ.fre (σ.dA r p) = true ∧ σ.cA r p (12 * σ.gr) = false ∧ (∀ c, c < 120 → σ.cA r p c = true → σ.fre c = true) ∧ ∀ q, q < σ.n → σ.li q < 240 → σ.cA r p (σ.dr q) = false ∧ σ.quiet r p q
def SG.bar (σ : SG) (r p c : Nat) : Bool := !σ.fre c || σ.cA r p c
/-- FITS -/
def SG.fit (σ : SG) (r p : Nat) : Prop := σ.room r p ∧ (∀ q, q < σ.n → σ.li q < 240 → RS (σ.bar r p) (12 * σ.gr) (σ.dr q)) ∧ RS (σ.bar r p) (12 * σ.gr) (σ.dA r p)
/-- the model's two rows for the search -/
def scr (h : HP) (m : Nat) (f g : Nat → Int32) : HP := (h.row (h.fr 486 m) f).row (h.fr 487 m) g
theorem scr_self {h : HP} {m : Nat} : scr h m (h.ai (h.fr 486 m)) (h.ai (h.fr 487 m)) = h := by unfold scr; rw [row_self, row_self]
theorem scr_scr {h : HP} {m : Nat} {f g f' g' : Nat → Int32} (hm : LM h.kd h.gl h.fr m) : scr (scr h m f g) m f' g' = scr h m f' g' := by
  show ((((h.row (h.fr 486 m) f).row (h.fr 487 m) g).row (h.fr 486 m) f').row (h.fr 487 m) g') = _
  rw [row_comm (gl_ne hm.g487 hm.g486 (by decide)), row_row, row_row]; rfl
theorem MR.scr {σ : SG} {h : HP} {m : Nat} {f g : Nat → Int32} (hm : LM h.kd h.gl h.fr m) (M : MR σ h m) : MR σ (scr h m f g) m :=
  MR.row (h := h.row (h.fr 486 m) f) hm (M.row hm (by rw [hm.g486]; decide)) (by rw [gl_row, hm.g487]; decide)
theorem placeOf_nI {a b : Nat} (t : Bool) : (2 : Int32) * (12 * nI b + nI a) + (if t then 1 else 0) = nI (2 * (12 * b + a) + (if t then 1 else 0)) := by
  rw [cIx, show (2 : Int32) = nI 2 from rfl, pk_mul]
  cases t
  · exact nI_add _ 0
  · exact nI_add _ 1

theorem c_X7_isOn {G : GT} {h : HP} {m : Nat} {σ : SG} {r p : Nat} (hm : LM h.kd h.gl h.fr m) (M : MR σ h m) (W : WF σ) (hr : r < σ.n) (hp : p < 240) : Con G 2 0 0 yX7_isOn cX7_isOn 5 (some .boolean) [rv m, .int (nI r), .int (nI p)] h (PI (fun v h' => ∃ t : Bool, b2i t = v ∧ (t = true ↔ σ.onG r p) ∧ h = h')) := by
  refine Con.of (lv := [some (rv m), some (.int (nI r)), some (.int (nI p)), none, none]) (by decide) (by simp only [lvE_r, lvE_i, lvE_l, lvE_s, lvE_0]; rfl) (by simp only [lgl_r, lgl_i, lgl_l, lgl_s, lgl_0]; decide) (fun Γ C R => ?_)
  have r10 := W.n10
  have q1 := W.wA hr p
  have q2 := W.hA hr p
  have q3 := px_lt (p := p)
  have q4 := py_lt hp
  refine r_iload_n (q := 1) (z := 2) C 2 rfl (by decide +kernel) rfl rfl ?_
  refine cS1I (q := 4) C R rfl (by decide +kernel) lk_X7_246 (c_X7_placeX hp) (by decide) (by decide) (by decide) rfl (by first | exact Nat.le_of_ble_eq_true rfl | (simp only [List.map_cons, List.map_nil, List.sum_cons, List.sum_nil, rv_cat]; exact Nat.le_of_ble_eq_true rfl))  ?_
  rintro _ _ ⟨rfl, rfl⟩
  refine r_istore_n (q := 5) (z := 3) C 3 rfl (by decide +kernel) rfl (by decide) (by first | rfl | exact okst_rv rfl) ?_
  dsimp only [List.set]
  refine r_iload_n (q := 6) (z := 2) C 2 rfl (by decide +kernel) rfl rfl ?_
  refine cS1I (q := 9) C R rfl (by decide +kernel) lk_X7_249 (c_X7_placeY hp) (by decide) (by decide) (by decide) rfl (by first | exact Nat.le_of_ble_eq_true rfl | (simp only [List.map_cons, List.map_nil, List.sum_cons, List.sum_nil, rv_cat]; exact Nat.le_of_ble_eq_true rfl))  ?_
  rintro _ _ ⟨rfl, rfl⟩
  refine r_istore (q := 11) C 4 rfl (by decide +kernel) (by decide) (by first | rfl | exact okst_rv rfl) ?_
  dsimp only [List.set]
  refine r_iload_n (q := 12) (z := 3) C 3 rfl (by decide +kernel) rfl rfl ?_
  refine r_aload_n (q := 13) (z := 0) C 0 rfl (by decide +kernel) rfl rfl ?_
  refine r_iload_n (q := 14) (z := 1) C 1 rfl (by decide +kernel) rfl rfl ?_
  refine r_iload_n (q := 15) (z := 2) C 2 rfl (by decide +kernel) rfl rfl ?_
  refine cV2I (q := 18) C R rfl (by decide +kernel) lk_X7_252 (c_X7_widthAt hm M (by omega) hp) (by decide) (by decide) (by decide) rfl (by first | exact Nat.le_of_ble_eq_true rfl | (simp only [List.map_cons, List.map_nil, List.sum_cons, List.sum_nil, rv_cat]; exact Nat.le_of_ble_eq_true rfl)) rfl hm.1 ?_
  rintro _ _ ⟨rfl, rfl⟩
  refine r_iadd (q := 19) C rfl (by decide +kernel) ?_
  rw [nI_add]
  refine r_bipush (q := 21) (z := 12) (v := 12) C rfl (by decide +kernel) (by decide) ?_
  refine r_icmp_gt (q := 24) (off := 21) (tgt := 42) C rfl (by decide +kernel) (by decide) (fun c21 => ?_) (fun c21 => ?_)
  · rw [show (12 : Int32) = nI 12 from rfl, nI_ltI (by omega) (by omega)] at c21
    refine r_iconst (q := 43) (z := 0) (v := 0) C rfl (by decide +kernel) (by decide) ?_
    exact r_zret C (by decide +kernel) rfl (by first | decide | exact b2i_nar _) (by decide) (by decide) ⟨_, rfl, (by first | exact ⟨true, rfl, ⟨fun _ => ⟨by omega, by omega⟩, fun _ => rfl⟩, rfl⟩ | exact ⟨false, rfl, ⟨(fun e => nomatch e), fun e => by unfold SG.onG at e; omega⟩, rfl⟩)⟩
  · rw [show (12 : Int32) = nI 12 from rfl, nI_ltI (by omega) (by omega)] at c21
    refine r_iload (q := 26) C 4 rfl (by decide +kernel) rfl ?_
    refine r_aload_n (q := 27) (z := 0) C 0 rfl (by decide +kernel) rfl rfl ?_
    refine r_iload_n (q := 28) (z := 1) C 1 rfl (by decide +kernel) rfl rfl ?_
    refine r_iload_n (q := 29) (z := 2) C 2 rfl (by decide +kernel) rfl rfl ?_
    refine cV2I (q := 32) C R rfl (by decide +kernel) lk_X7_256 (c_X7_heightAt hm M (by omega) hp) (by decide) (by decide) (by decide) rfl (by first | exact Nat.le_of_ble_eq_true rfl | (simp only [List.map_cons, List.map_nil, List.sum_cons, List.sum_nil, rv_cat]; exact Nat.le_of_ble_eq_true rfl)) rfl hm.1 ?_
    rintro _ _ ⟨rfl, rfl⟩
    refine r_iadd (q := 33) C rfl (by decide +kernel) ?_
    rw [nI_add]
    refine r_bipush (q := 35) (z := 10) (v := 10) C rfl (by decide +kernel) (by decide) ?_
    refine r_icmp_ge (q := 38) (off := 7) (tgt := 42) C rfl (by decide +kernel) (by decide) (fun c35 => ?_) (fun c35 => ?_)
    · rw [show (10 : Int32) = nI 10 from rfl, nI_leI (by omega) (by omega)] at c35
      refine r_iconst (q := 43) (z := 0) (v := 0) C rfl (by decide +kernel) (by decide) ?_
      exact r_zret C (by decide +kernel) rfl (by first | decide | exact b2i_nar _) (by decide) (by decide) ⟨_, rfl, (by first | exact ⟨true, rfl, ⟨fun _ => ⟨by omega, by omega⟩, fun _ => rfl⟩, rfl⟩ | exact ⟨false, rfl, ⟨(fun e => nomatch e), fun e => by unfold SG.onG at e; omega⟩, rfl⟩)⟩
    · rw [show (10 : Int32) = nI 10 from rfl, nI_leI (by omega) (by omega)] at c35
      refine r_iconst (q := 39) (z := 1) (v := 1) C rfl (by decide +kernel) (by decide) ?_
      refine r_goto (off := 4) (tgt := 43) C (by decide +kernel) (by decide) ?_
      exact r_zret C (by decide +kernel) rfl (by first | decide | exact b2i_nar _) (by decide) (by decide) ⟨_, rfl, (by first | exact ⟨true, rfl, ⟨fun _ => ⟨by omega, by omega⟩, fun _ => rfl⟩, rfl⟩ | exact ⟨false, rfl, ⟨(fun e => nomatch e), fun e => by unfold SG.onG at e; omega⟩, rfl⟩)⟩
theorem c_X7_isQuiet {G : GT} {h : HP} {m : Nat} {σ : SG} {r p q : Nat} (hm : LM h.kd h.gl h.fr m) (M : MR σ h m) (W : WF σ) (hr : r < σ.n) (hp : p < 240) (hq0 : q < σ.n) (hl : σ.li q < 240) : Con G 2 0 0 yX7_isQuiet cX7_isQuiet 10 (some .boolean) [rv m, .int (nI r), .int (nI p), .int (nI q)] h (PI (fun v h' => ∃ t : Bool, b2i t = v ∧ (t = true ↔ σ.quiet r p q) ∧ h = h')) := by
  refine Con.of (lv := [some (rv m), some (.int (nI r)), some (.int (nI p)), some (.int (nI q)), none, none, none, none, none, none]) (by decide) (by simp only [lvE_r, lvE_i, lvE_l, lvE_s, lvE_0]; rfl) (by simp only [lgl_r, lgl_i, lgl_l, lgl_s, lgl_0]; decide) (fun Γ C R => ?_)
  have r10 := W.n10
  have q1 := W.wA hr p
  have q2 := W.hA hr p
  have q3 := px_lt (p := p)
  have q4 := py_lt hp
  have q5 := W.wA hq0 (σ.li q)
  have q6 := W.hA hq0 (σ.li q)
  have q7 := px_lt (p := σ.li q)
  have q8 := py_lt hl
  have n1 := (W.2.2.1 r hr).2.2.2.2.2.1
  have n2 := (W.2.2.1 q hq0).2.2.2.2.2.1
  refine r_aload_n (q := 1) (z := 0) C 0 rfl (by decide +kernel) rfl rfl ?_
  refine r_getR (q := 4) C 7 28 476 rfl (by decide +kernel) rfl (by decide) rfl rfl wf_X7_97 win7 hm.1 ?_
  refine r_iload_n (q := 5) (z := 1) C 1 rfl (by decide +kernel) rfl rfl ?_
  refine r_iald (q := 6) C rfl (by decide +kernel) hm.k476 (vp_in_nI (by omega) (by decide)) ?_
  rw [nI_clamp (by omega), M.ans (by omega)]
  refine r_aload_n (q := 7) (z := 0) C 0 rfl (by decide +kernel) rfl rfl ?_
  refine r_getR (q := 10) C 7 28 476 rfl (by decide +kernel) rfl (by decide) rfl rfl wf_X7_97 win7 hm.1 ?_
  refine r_iload_n (q := 11) (z := 3) C 3 rfl (by decide +kernel) rfl rfl ?_
  refine r_iald (q := 12) C rfl (by decide +kernel) hm.k476 (vp_in_nI (by omega) (by decide)) ?_
  rw [nI_clamp (by omega), M.ans (by omega)]
  refine r_iadd (q := 13) C rfl (by decide +kernel) ?_
  rw [nI_add]
  refine r_bipush (q := 15) (z := 10) (v := 10) C rfl (by decide +kernel) (by decide) ?_
  refine r_icmp_ge (q := 18) (off := 5) (tgt := 20) C rfl (by decide +kernel) (by decide) (fun c15 => ?_) (fun c15 => ?_)
  · rw [show (10 : Int32) = nI 10 from rfl, nI_leI (by omega) (by omega)] at c15
    refine r_iload_n (q := 21) (z := 2) C 2 rfl (by decide +kernel) rfl rfl ?_
    refine cS1I (q := 24) C R rfl (by decide +kernel) lk_X7_246 (c_X7_placeX hp) (by decide) (by decide) (by decide) rfl (by first | exact Nat.le_of_ble_eq_true rfl | (simp only [List.map_cons, List.map_nil, List.sum_cons, List.sum_nil, rv_cat]; exact Nat.le_of_ble_eq_true rfl))  ?_
    rintro _ _ ⟨rfl, rfl⟩
    refine r_istore (q := 26) C 4 rfl (by decide +kernel) (by decide) (by first | rfl | exact okst_rv rfl) ?_
    dsimp only [List.set]
    refine r_iload_n (q := 27) (z := 2) C 2 rfl (by decide +kernel) rfl rfl ?_
    refine cS1I (q := 30) C R rfl (by decide +kernel) lk_X7_249 (c_X7_placeY hp) (by decide) (by decide) (by decide) rfl (by first | exact Nat.le_of_ble_eq_true rfl | (simp only [List.map_cons, List.map_nil, List.sum_cons, List.sum_nil, rv_cat]; exact Nat.le_of_ble_eq_true rfl))  ?_
    rintro _ _ ⟨rfl, rfl⟩
    refine r_istore (q := 32) C 5 rfl (by decide +kernel) (by decide) (by first | rfl | exact okst_rv rfl) ?_
    dsimp only [List.set]
    refine r_aload_n (q := 33) (z := 0) C 0 rfl (by decide +kernel) rfl rfl ?_
    refine r_getR (q := 36) C 7 30 478 rfl (by decide +kernel) rfl (by decide) rfl rfl wf_X7_103 win7 hm.1 ?_
    refine r_iload_n (q := 37) (z := 3) C 3 rfl (by decide +kernel) rfl rfl ?_
    refine r_iald (q := 38) C rfl (by decide +kernel) hm.k478 (vp_in_nI (by omega) (by decide)) ?_
    rw [nI_clamp (by omega), M.ali (by omega), pl_in hl]
    refine cS1I (q := 41) C R rfl (by decide +kernel) lk_X7_246 (c_X7_placeX hl) (by decide) (by decide) (by decide) rfl (by first | exact Nat.le_of_ble_eq_true rfl | (simp only [List.map_cons, List.map_nil, List.sum_cons, List.sum_nil, rv_cat]; exact Nat.le_of_ble_eq_true rfl))  ?_
    rintro _ _ ⟨rfl, rfl⟩
    refine r_istore (q := 43) C 6 rfl (by decide +kernel) (by decide) (by first | rfl | exact okst_rv rfl) ?_
    dsimp only [List.set]
    refine r_aload_n (q := 44) (z := 0) C 0 rfl (by decide +kernel) rfl rfl ?_
    refine r_getR (q := 47) C 7 30 478 rfl (by decide +kernel) rfl (by decide) rfl rfl wf_X7_103 win7 hm.1 ?_
    refine r_iload_n (q := 48) (z := 3) C 3 rfl (by decide +kernel) rfl rfl ?_
    refine r_iald (q := 49) C rfl (by decide +kernel) hm.k478 (vp_in_nI (by omega) (by decide)) ?_
    rw [nI_clamp (by omega), M.ali (by omega), pl_in hl]
    refine cS1I (q := 52) C R rfl (by decide +kernel) lk_X7_249 (c_X7_placeY hl) (by decide) (by decide) (by decide) rfl (by first | exact Nat.le_of_ble_eq_true rfl | (simp only [List.map_cons, List.map_nil, List.sum_cons, List.sum_nil, rv_cat]; exact Nat.le_of_ble_eq_true rfl))  ?_
    rintro _ _ ⟨rfl, rfl⟩
    refine r_istore (q := 54) C 7 rfl (by decide +kernel) (by decide) (by first | rfl | exact okst_rv rfl) ?_
    dsimp only [List.set]
    have J134 : ∀ (dx dy : Int32), (2 ≤ dx.toInt ↔ px p + σ.wA r p + 2 ≤ px (σ.li q) ∨ px (σ.li q) + σ.wA q (σ.li q) + 2 ≤ px p) → (2 ≤ dy.toInt ↔ py p + σ.hA r p + 2 ≤ py (σ.li q) ∨ py (σ.li q) + σ.hA q (σ.li q) + 2 ≤ py p) → wX G Γ (qM G Γ (PI (fun v h' => ∃ t : Bool, b2i t = v ∧ (t = true ↔ σ.quiet r p q) ∧ h = h')) 0 0) 0 0 (h) 134 [some (rv m), some (.int (nI r)), some (.int (nI p)), some (.int (nI q)), some (.int (nI (px p))), some (.int (nI (py p))), some (.int (nI (px (σ.li q)))), some (.int (nI (py (σ.li q)))), some (.int dx), none] [.int dy] := by
      intro dx dy hdx hdy
      refine r_istore (q := 136) C 9 rfl (by decide +kernel) (by decide) (by first | rfl | exact okst_rv rfl) ?_
      dsimp only [List.set]
      refine r_iload (q := 138) C 8 rfl (by decide +kernel) rfl ?_
      refine r_iconst (q := 139) (z := 2) (v := 2) C rfl (by decide +kernel) (by decide) ?_
      refine r_icmp_ge (q := 142) (off := 9) (tgt := 148) C rfl (by decide +kernel) (by decide) (fun c139 => ?_) (fun c139 => ?_)
      · have c139 : 2 ≤ dx.toInt := Int32.le_iff_toInt_le.mp c139
        refine r_iconst (q := 149) (z := 1) (v := 1) C rfl (by decide +kernel) (by decide) ?_
        refine r_goto (off := 4) (tgt := 153) C (by decide +kernel) (by decide) ?_
        exact r_zret C (by decide +kernel) rfl (by first | decide | exact b2i_nar _) (by decide) (by decide) ⟨_, rfl, (by unfold SG.quiet; first | exact ⟨true, rfl, ⟨fun _ => by omega, fun _ => rfl⟩, rfl⟩ | exact ⟨false, rfl, ⟨(fun e => nomatch e), fun e => by omega⟩, rfl⟩)⟩
      · have c139 : ¬ 2 ≤ dx.toInt := fun e => c139 (Int32.le_iff_toInt_le.mpr e)
        refine r_iload (q := 144) C 9 rfl (by decide +kernel) rfl ?_
        refine r_iconst (q := 145) (z := 2) (v := 2) C rfl (by decide +kernel) (by decide) ?_
        refine r_icmp_lt (q := 148) (off := 7) (tgt := 152) C rfl (by decide +kernel) (by decide) (fun c145 => ?_) (fun c145 => ?_)
        · have c145 : dy.toInt < 2 := Int32.lt_iff_toInt_lt.mp c145
          refine r_iconst (q := 153) (z := 0) (v := 0) C rfl (by decide +kernel) (by decide) ?_
          exact r_zret C (by decide +kernel) rfl (by first | decide | exact b2i_nar _) (by decide) (by decide) ⟨_, rfl, (by unfold SG.quiet; first | exact ⟨true, rfl, ⟨fun _ => by omega, fun _ => rfl⟩, rfl⟩ | exact ⟨false, rfl, ⟨(fun e => nomatch e), fun e => by omega⟩, rfl⟩)⟩
        · have c145 : ¬ dy.toInt < 2 := fun e => c145 (Int32.lt_iff_toInt_lt.mpr e)
          refine r_iconst (q := 149) (z := 1) (v := 1) C rfl (by decide +kernel) (by decide) ?_
          refine r_goto (off := 4) (tgt := 153) C (by decide +kernel) (by decide) ?_
          exact r_zret C (by decide +kernel) rfl (by first | decide | exact b2i_nar _) (by decide) (by decide) ⟨_, rfl, (by unfold SG.quiet; first | exact ⟨true, rfl, ⟨fun _ => by omega, fun _ => rfl⟩, rfl⟩ | exact ⟨false, rfl, ⟨(fun e => nomatch e), fun e => by omega⟩, rfl⟩)⟩
    have J93 : ∀ (dx : Int32), (2 ≤ dx.toInt ↔ px p + σ.wA r p + 2 ≤ px (σ.li q) ∨ px (σ.li q) + σ.wA q (σ.li q) + 2 ≤ px p) → wX G Γ (qM G Γ (PI (fun v h' => ∃ t : Bool, b2i t = v ∧ (t = true ↔ σ.quiet r p q) ∧ h = h')) 0 0) 0 0 (h) 93 [some (rv m), some (.int (nI r)), some (.int (nI p)), some (.int (nI q)), some (.int (nI (px p))), some (.int (nI (py p))), some (.int (nI (px (σ.li q)))), some (.int (nI (py (σ.li q)))), none, none] [.int dx] := by
      intro dx hdx
      refine r_istore (q := 95) C 8 rfl (by decide +kernel) (by decide) (by first | rfl | exact okst_rv rfl) ?_
      dsimp only [List.set]
      refine r_iload (q := 97) C 5 rfl (by decide +kernel) rfl ?_
      refine r_iload (q := 99) C 7 rfl (by decide +kernel) rfl ?_
      refine r_icmp_ge (q := 102) (off := 18) (tgt := 117) C rfl (by decide +kernel) (by decide) (fun c99 => ?_) (fun c99 => ?_)
      · rw [nI_leI (by omega) (by omega)] at c99
        refine r_iload (q := 119) C 5 rfl (by decide +kernel) rfl ?_
        refine r_iload (q := 121) C 7 rfl (by decide +kernel) rfl ?_
        refine r_isub (q := 122) C rfl (by decide +kernel) ?_
        refine r_aload_n (q := 123) (z := 0) C 0 rfl (by decide +kernel) rfl rfl ?_
        refine r_iload_n (q := 124) (z := 3) C 3 rfl (by decide +kernel) rfl rfl ?_
        refine r_aload_n (q := 125) (z := 0) C 0 rfl (by decide +kernel) rfl rfl ?_
        refine r_getR (q := 128) C 7 30 478 rfl (by decide +kernel) rfl (by decide) rfl rfl wf_X7_103 win7 hm.1 ?_
        refine r_iload_n (q := 129) (z := 3) C 3 rfl (by decide +kernel) rfl rfl ?_
        refine r_iald (q := 130) C rfl (by decide +kernel) hm.k478 (vp_in_nI (by omega) (by decide)) ?_
        rw [nI_clamp (by omega), M.ali (by omega), pl_in hl]
        refine cV2I (q := 133) C R rfl (by decide +kernel) lk_X7_256 (c_X7_heightAt hm M (by omega) hl) (by decide) (by decide) (by decide) rfl (by first | exact Nat.le_of_ble_eq_true rfl | (simp only [List.map_cons, List.map_nil, List.sum_cons, List.sum_nil, rv_cat]; exact Nat.le_of_ble_eq_true rfl)) rfl hm.1 ?_
        rintro _ _ ⟨rfl, rfl⟩
        refine r_isub (q := 134) C rfl (by decide +kernel) ?_
        exact wX.sub (lsub_s (lsub_s (lsub_s (lsub_s (lsub_s (lsub_s (lsub_s (lsub_s (lsub_s (lsub_n (lsub_nil))))))))))) (J134 dx _ hdx (by rw [sub3 (by omega) (by omega) (by omega)]; omega))
      · rw [nI_leI (by omega) (by omega)] at c99
        refine r_iload (q := 104) C 7 rfl (by decide +kernel) rfl ?_
        refine r_iload (q := 106) C 5 rfl (by decide +kernel) rfl ?_
        refine r_isub (q := 107) C rfl (by decide +kernel) ?_
        refine r_aload_n (q := 108) (z := 0) C 0 rfl (by decide +kernel) rfl rfl ?_
        refine r_iload_n (q := 109) (z := 1) C 1 rfl (by decide +kernel) rfl rfl ?_
        refine r_iload_n (q := 110) (z := 2) C 2 rfl (by decide +kernel) rfl rfl ?_
        refine cV2I (q := 113) C R rfl (by decide +kernel) lk_X7_256 (c_X7_heightAt hm M (by omega) hp) (by decide) (by decide) (by decide) rfl (by first | exact Nat.le_of_ble_eq_true rfl | (simp only [List.map_cons, List.map_nil, List.sum_cons, List.sum_nil, rv_cat]; exact Nat.le_of_ble_eq_true rfl)) rfl hm.1 ?_
        rintro _ _ ⟨rfl, rfl⟩
        refine r_isub (q := 114) C rfl (by decide +kernel) ?_
        refine r_goto (off := 20) (tgt := 134) C (by decide +kernel) (by decide) ?_
        exact wX.sub (lsub_s (lsub_s (lsub_s (lsub_s (lsub_s (lsub_s (lsub_s (lsub_s (lsub_s (lsub_n (lsub_nil))))))))))) (J134 dx _ hdx (by rw [sub3 (by omega) (by omega) (by omega)]; omega))
    refine r_iload (q := 56) C 4 rfl (by decide +kernel) rfl ?_
    refine r_iload (q := 58) C 6 rfl (by decide +kernel) rfl ?_
    refine r_icmp_ge (q := 61) (off := 18) (tgt := 76) C rfl (by decide +kernel) (by decide) (fun c58 => ?_) (fun c58 => ?_)
    · rw [nI_leI (by omega) (by omega)] at c58
      refine r_iload (q := 78) C 4 rfl (by decide +kernel) rfl ?_
      refine r_iload (q := 80) C 6 rfl (by decide +kernel) rfl ?_
      refine r_isub (q := 81) C rfl (by decide +kernel) ?_
      refine r_aload_n (q := 82) (z := 0) C 0 rfl (by decide +kernel) rfl rfl ?_
      refine r_iload_n (q := 83) (z := 3) C 3 rfl (by decide +kernel) rfl rfl ?_
      refine r_aload_n (q := 84) (z := 0) C 0 rfl (by decide +kernel) rfl rfl ?_
      refine r_getR (q := 87) C 7 30 478 rfl (by decide +kernel) rfl (by decide) rfl rfl wf_X7_103 win7 hm.1 ?_
      refine r_iload_n (q := 88) (z := 3) C 3 rfl (by decide +kernel) rfl rfl ?_
      refine r_iald (q := 89) C rfl (by decide +kernel) hm.k478 (vp_in_nI (by omega) (by decide)) ?_
      rw [nI_clamp (by omega), M.ali (by omega), pl_in hl]
      refine cV2I (q := 92) C R rfl (by decide +kernel) lk_X7_252 (c_X7_widthAt hm M (by omega) hl) (by decide) (by decide) (by decide) rfl (by first | exact Nat.le_of_ble_eq_true rfl | (simp only [List.map_cons, List.map_nil, List.sum_cons, List.sum_nil, rv_cat]; exact Nat.le_of_ble_eq_true rfl)) rfl hm.1 ?_
      rintro _ _ ⟨rfl, rfl⟩
      refine r_isub (q := 93) C rfl (by decide +kernel) ?_
      exact wX.sub (lsub_s (lsub_s (lsub_s (lsub_s (lsub_s (lsub_s (lsub_s (lsub_s (lsub_n (lsub_n (lsub_nil))))))))))) (J93 _ (by rw [sub3 (by omega) (by omega) (by omega)]; omega))
    · rw [nI_leI (by omega) (by omega)] at c58
      refine r_iload (q := 63) C 6 rfl (by decide +kernel) rfl ?_
      refine r_iload (q := 65) C 4 rfl (by decide +kernel) rfl ?_
      refine r_isub (q := 66) C rfl (by decide +kernel) ?_
      refine r_aload_n (q := 67) (z := 0) C 0 rfl (by decide +kernel) rfl rfl ?_
      refine r_iload_n (q := 68) (z := 1) C 1 rfl (by decide +kernel) rfl rfl ?_
      refine r_iload_n (q := 69) (z := 2) C 2 rfl (by decide +kernel) rfl rfl ?_
      refine cV2I (q := 72) C R rfl (by decide +kernel) lk_X7_252 (c_X7_widthAt hm M (by omega) hp) (by decide) (by decide) (by decide) rfl (by first | exact Nat.le_of_ble_eq_true rfl | (simp only [List.map_cons, List.map_nil, List.sum_cons, List.sum_nil, rv_cat]; exact Nat.le_of_ble_eq_true rfl)) rfl hm.1 ?_
      rintro _ _ ⟨rfl, rfl⟩
      refine r_isub (q := 73) C rfl (by decide +kernel) ?_
      refine r_goto (off := 20) (tgt := 93) C (by decide +kernel) (by decide) ?_
      exact wX.sub (lsub_s (lsub_s (lsub_s (lsub_s (lsub_s (lsub_s (lsub_s (lsub_s (lsub_n (lsub_n (lsub_nil))))))))))) (J93 _ (by rw [sub3 (by omega) (by omega) (by omega)]; omega))
  · rw [show (10 : Int32) = nI 10 from rfl, nI_leI (by omega) (by omega)] at c15
    refine r_iconst (q := 19) (z := 1) (v := 1) C rfl (by decide +kernel) (by decide) ?_
    exact r_zret C (by decide +kernel) rfl (by first | decide | exact b2i_nar _) (by decide) (by decide) ⟨_, rfl, ⟨true, rfl, ⟨fun _ => Or.inl (by omega), fun _ => rfl⟩, rfl⟩⟩
theorem c_X7_isRoom {G : GT} {h : HP} {m : Nat} {σ : SG} {r p : Nat} (hm : LM h.kd h.gl h.fr m) (M : MR σ h m) (W : WF σ) (hr : r < σ.n) (hp : p < 240) : Con G 6 0 0 yX7_isRoom cX7_isRoom 5 (some .boolean) [rv m, .int (nI r), .int (nI p)] h (PI (fun v h' => ∃ t : Bool, b2i t = v ∧ (t = true ↔ σ.room r p) ∧ h = h')) := by
  refine Con.of (lv := [some (rv m), some (.int (nI r)), some (.int (nI p)), none, none]) (by decide) (by simp only [lvE_r, lvE_i, lvE_l, lvE_s, lvE_0]; rfl) (by simp only [lgl_r, lgl_i, lgl_l, lgl_s, lgl_0]; decide) (fun Γ C R => ?_)
  have r10 := W.n10
  have g10 := W.gr10
  refine r_aload_n (q := 1) (z := 0) C 0 rfl (by decide +kernel) rfl rfl ?_
  refine r_iload_n (q := 2) (z := 1) C 1 rfl (by decide +kernel) rfl rfl ?_
  refine r_iload_n (q := 3) (z := 2) C 2 rfl (by decide +kernel) rfl rfl ?_
  refine cV2I (q := 6) C R rfl (by decide +kernel) lk_X7_307 (c_X7_isOn hm M W hr hp) (by decide) (by decide) (by decide) rfl (by first | exact Nat.le_of_ble_eq_true rfl | (simp only [List.map_cons, List.map_nil, List.sum_cons, List.sum_nil, rv_cat]; exact Nat.le_of_ble_eq_true rfl)) rfl hm.1 ?_
  rintro _ _ ⟨t3, rfl, ht3, rfl⟩
  refine r_if_eq (q := 9) (off := 16) (tgt := 22) C rfl (by decide +kernel) (by decide) (fun c6 => ?_) (fun c6 => ?_)
  · refine r_iconst (q := 23) (z := 0) (v := 0) C rfl (by decide +kernel) (by decide) ?_
    exact r_zret C (by decide +kernel) rfl (by first | decide | exact b2i_nar _) (by decide) (by decide) ⟨_, rfl, ⟨false, rfl, ⟨(fun e => nomatch e), fun e => by first | exact absurd (ht3.mpr e.1) (by rw [(b2i_0 _).mp c6]; decide) | (have := e.2.1; rw [(b2i_0 _).mp c19] at this; exact this)⟩, rfl⟩⟩
  · refine r_aload_n (q := 10) (z := 0) C 0 rfl (by decide +kernel) rfl rfl ?_
    refine r_aload_n (q := 11) (z := 0) C 0 rfl (by decide +kernel) rfl rfl ?_
    refine r_iload_n (q := 12) (z := 1) C 1 rfl (by decide +kernel) rfl rfl ?_
    refine r_iload_n (q := 13) (z := 2) C 2 rfl (by decide +kernel) rfl rfl ?_
    refine cV2I (q := 16) C R rfl (by decide +kernel) lk_X7_274 (c_X7_doorAt hm M W hr hp) (by decide) (by decide) (by decide) rfl (by first | exact Nat.le_of_ble_eq_true rfl | (simp only [List.map_cons, List.map_nil, List.sum_cons, List.sum_nil, rv_cat]; exact Nat.le_of_ble_eq_true rfl)) rfl hm.1 ?_
    rintro _ _ ⟨rfl, rfl⟩
    refine cV1I (q := 19) C R rfl (by decide +kernel) lk_X7_286 (c_X7_isFree hm M W ((ht3.mp ((b2i_n0 _).mp c6)).door W hr)) (by decide) (by decide) (by decide) rfl (by first | exact Nat.le_of_ble_eq_true rfl | (simp only [List.map_cons, List.map_nil, List.sum_cons, List.sum_nil, rv_cat]; exact Nat.le_of_ble_eq_true rfl)) rfl hm.1 ?_
    rintro _ _ ⟨rfl, rfl⟩
    refine r_if_ne (q := 22) (off := 5) (tgt := 24) C rfl (by decide +kernel) (by decide) (fun c19 => ?_) (fun c19 => ?_)
    · have L46 : ∀ (fuel46 : Nat) (i : Nat) (t : Bool), 120 - i < fuel46 → (i ≤ 120) → (σ.onG r p) → (σ.fre (σ.dA r p) = true) → (t = true ↔ σ.cA r p (12 * σ.gr) = false ∧ ∀ c, c < i → σ.cA r p c = true → σ.fre c = true) → wX G Γ (qM G Γ (PI (fun v h' => ∃ t : Bool, b2i t = v ∧ (t = true ↔ σ.room r p) ∧ h = h')) 0 0) 0 0 (h) 46 [some (rv m), some (.int (nI r)), some (.int (nI p)), some (.int (b2i t)), some (.int (nI i))] [] := by
        intro fuel46
        induction fuel46 with
        | zero =>
          intro i t hm46
          exact absurd hm46 (Nat.not_lt_zero _)
        | succ fuel46 ih46 =>
          intro i t hm46 hi ho hd ht
          refine r_iload (q := 48) C 4 rfl (by decide +kernel) rfl ?_
          refine r_bipush (q := 50) (z := 120) (v := 120) C rfl (by decide +kernel) (by decide) ?_
          refine r_icmp_ge (q := 53) (off := 39) (tgt := 89) C rfl (by decide +kernel) (by decide) (fun c50 => ?_) (fun c50 => ?_)
          · have ez : i = 120 := by have := (nI_leI (a := 120) (by omega) (by omega)).mp c50; omega
            subst ez
            refine r_iconst (q := 90) (z := 0) (v := 0) C rfl (by decide +kernel) (by decide) ?_
            refine r_istore (q := 92) C 4 rfl (by decide +kernel) (by decide) (by first | rfl | exact okst_rv rfl) ?_
            dsimp only [List.set]
            have L92 : ∀ (fuel92 : Nat) (k : Nat) (t : Bool), σ.n - k < fuel92 → (k ≤ σ.n) → (t = true ↔ (σ.cA r p (12 * σ.gr) = false ∧ ∀ c, c < 120 → σ.cA r p c = true → σ.fre c = true) ∧ ∀ q, q < k → σ.li q < 240 → σ.cA r p (σ.dr q) = false ∧ σ.quiet r p q) → wX G Γ (qM G Γ (PI (fun v h' => ∃ t : Bool, b2i t = v ∧ (t = true ↔ σ.room r p) ∧ h = h')) 0 0) 0 0 (h) 92 [some (rv m), some (.int (nI r)), some (.int (nI p)), some (.int (b2i t)), some (.int (nI k))] [] := by
              intro fuel92
              induction fuel92 with
              | zero =>
                intro k t hm92
                exact absurd hm92 (Nat.not_lt_zero _)
              | succ fuel92 ih92 =>
                intro k t hm92 hk ht
                refine r_iload (q := 94) C 4 rfl (by decide +kernel) rfl ?_
                refine r_aload_n (q := 95) (z := 0) C 0 rfl (by decide +kernel) rfl rfl ?_
                refine r_getI (q := 98) C 7 24 472 rfl (by decide +kernel) rfl (by decide) rfl rfl wf_X7_243 win7 hm.1 ?_
                rw [M.fn]
                refine r_icmp_ge (q := 101) (off := 55) (tgt := 153) C rfl (by decide +kernel) (by decide) (fun c98 => ?_) (fun c98 => ?_)
                · have ek : k = σ.n := by have := (nI_leI (by omega) (by omega)).mp c98; omega
                  subst ek
                  refine r_iload_n (q := 154) (z := 3) C 3 rfl (by decide +kernel) rfl rfl ?_
                  exact r_zret C (by decide +kernel) rfl (by first | decide | exact b2i_nar _) (by decide) (by decide) ⟨_, rfl, ⟨t, rfl, ⟨fun e => ⟨ho, hd, (ht.mp e).1.1, (ht.mp e).1.2, (ht.mp e).2⟩, fun e => ht.mpr ⟨⟨e.2.2.1, e.2.2.2.1⟩, e.2.2.2.2⟩⟩, rfl⟩⟩
                · have hlk : k < σ.n := Nat.lt_of_not_le (fun e => c98 (nI_le e (by omega)))
                  refine r_iload_n (q := 102) (z := 3) C 3 rfl (by decide +kernel) rfl rfl ?_
                  refine r_if_eq (q := 105) (off := 43) (tgt := 145) C rfl (by decide +kernel) (by decide) (fun c102 => ?_) (fun c102 => ?_)
                  · have ht2 : false = true ↔ (σ.cA r p (12 * σ.gr) = false ∧ ∀ c, c < 120 → σ.cA r p c = true → σ.fre c = true) ∧ ∀ q, q < k + 1 → σ.li q < 240 → σ.cA r p (σ.dr q) = false ∧ σ.quiet r p q := ⟨(fun e => nomatch e), fun e => by rw [(b2i_0 _).mp c102] at ht; exact ht.mpr ⟨e.1, fun q hq => e.2 q (by omega)⟩⟩
                    refine r_iconst (q := 146) (z := 0) (v := b2i false) C rfl (by decide +kernel) (by decide) ?_
                    refine r_istore_n (q := 147) (z := 3) C 3 rfl (by decide +kernel) rfl (by decide) (by first | rfl | exact okst_rv rfl) ?_
                    dsimp only [List.set]
                    refine r_iinc (q := 150) (z := 1) (v := 1) C 4 rfl (by decide +kernel) rfl (by decide) (by decide) (by first | rfl | exact okst_rv rfl) ?_
                    dsimp only [List.set]
                    rw [nI_1]
                    refine r_goto (off := -58) (tgt := 92) C (by decide +kernel) (by decide) ?_
                    exact ih92 (k + 1) _ (by omega) (by omega) ht2
                  · refine r_aload_n (q := 106) (z := 0) C 0 rfl (by decide +kernel) rfl rfl ?_
                    refine r_getR (q := 109) C 7 30 478 rfl (by decide +kernel) rfl (by decide) rfl rfl wf_X7_103 win7 hm.1 ?_
                    refine r_iload (q := 111) C 4 rfl (by decide +kernel) rfl ?_
                    refine r_iald (q := 112) C rfl (by decide +kernel) hm.k478 (vp_in_nI (by omega) (by decide)) ?_
                    rw [nI_clamp (by omega), M.ali (by omega)]
                    refine r_if_lt (q := 115) (off := 29) (tgt := 141) C rfl (by decide +kernel) (by decide) (fun c112 => ?_) (fun c112 => ?_)
                    · rw [(b2i_n0 _).mp c102] at ht
                      have ht2 : true = true ↔ (σ.cA r p (12 * σ.gr) = false ∧ ∀ c, c < 120 → σ.cA r p c = true → σ.fre c = true) ∧ ∀ q, q < k + 1 → σ.li q < 240 → σ.cA r p (σ.dr q) = false ∧ σ.quiet r p q := ⟨fun _ => ⟨(ht.mp rfl).1, fun q hq hl => by
                        by_cases e : q = k
                        · subst e; exact absurd hl (pl_neg.mp c112)
                        · exact (ht.mp rfl).2 q (by omega) hl⟩, fun _ => rfl⟩
                      refine r_iconst (q := 142) (z := 1) (v := b2i true) C rfl (by decide +kernel) (by decide) ?_
                      refine r_goto (off := 4) (tgt := 146) C (by decide +kernel) (by decide) ?_
                      refine r_istore_n (q := 147) (z := 3) C 3 rfl (by decide +kernel) rfl (by decide) (by first | rfl | exact okst_rv rfl) ?_
                      dsimp only [List.set]
                      refine r_iinc (q := 150) (z := 1) (v := 1) C 4 rfl (by decide +kernel) rfl (by decide) (by decide) (by first | rfl | exact okst_rv rfl) ?_
                      dsimp only [List.set]
                      rw [nI_1]
                      refine r_goto (off := -58) (tgt := 92) C (by decide +kernel) (by decide) ?_
                      exact ih92 (k + 1) _ (by omega) (by omega) ht2
                    · refine r_aload_n (q := 116) (z := 0) C 0 rfl (by decide +kernel) rfl rfl ?_
                      refine r_iload_n (q := 117) (z := 1) C 1 rfl (by decide +kernel) rfl rfl ?_
                      refine r_iload_n (q := 118) (z := 2) C 2 rfl (by decide +kernel) rfl rfl ?_
                      refine r_aload_n (q := 119) (z := 0) C 0 rfl (by decide +kernel) rfl rfl ?_
                      refine r_iload (q := 121) C 4 rfl (by decide +kernel) rfl ?_
                      refine cV1I (q := 124) C R rfl (by decide +kernel) lk_X7_292 (c_X7_door hm M W hlk) (by decide) (by decide) (by decide) rfl (by first | exact Nat.le_of_ble_eq_true rfl | (simp only [List.map_cons, List.map_nil, List.sum_cons, List.sum_nil, rv_cat]; exact Nat.le_of_ble_eq_true rfl)) rfl hm.1 ?_
                      rintro _ _ ⟨rfl, rfl⟩
                      rw [if_pos (pl_nn.mp c112)]
                      refine cV3I (q := 127) C R rfl (by decide +kernel) lk_X7_263 (c_X7_coversAt hm M W hr hp (by have := W.dr hlk (pl_nn.mp c112); omega)) (by decide) (by decide) (by decide) rfl (by first | exact Nat.le_of_ble_eq_true rfl | (simp only [List.map_cons, List.map_nil, List.sum_cons, List.sum_nil, rv_cat]; exact Nat.le_of_ble_eq_true rfl)) rfl hm.1 ?_
                      rintro _ _ ⟨rfl, rfl⟩
                      refine r_if_ne (q := 130) (off := 18) (tgt := 145) C rfl (by decide +kernel) (by decide) (fun c127 => ?_) (fun c127 => ?_)
                      · have ht2 : false = true ↔ (σ.cA r p (12 * σ.gr) = false ∧ ∀ c, c < 120 → σ.cA r p c = true → σ.fre c = true) ∧ ∀ q, q < k + 1 → σ.li q < 240 → σ.cA r p (σ.dr q) = false ∧ σ.quiet r p q := ⟨(fun e => nomatch e), fun e => by have := (e.2 k (by omega) (pl_nn.mp c112)).1; rw [(b2i_n0 _).mp c127] at this; exact this.symm⟩
                        refine r_iconst (q := 146) (z := 0) (v := b2i false) C rfl (by decide +kernel) (by decide) ?_
                        refine r_istore_n (q := 147) (z := 3) C 3 rfl (by decide +kernel) rfl (by decide) (by first | rfl | exact okst_rv rfl) ?_
                        dsimp only [List.set]
                        refine r_iinc (q := 150) (z := 1) (v := 1) C 4 rfl (by decide +kernel) rfl (by decide) (by decide) (by first | rfl | exact okst_rv rfl) ?_
                        dsimp only [List.set]
                        rw [nI_1]
                        refine r_goto (off := -58) (tgt := 92) C (by decide +kernel) (by decide) ?_
                        exact ih92 (k + 1) _ (by omega) (by omega) ht2
                      · refine r_aload_n (q := 131) (z := 0) C 0 rfl (by decide +kernel) rfl rfl ?_
                        refine r_iload_n (q := 132) (z := 1) C 1 rfl (by decide +kernel) rfl rfl ?_
                        refine r_iload_n (q := 133) (z := 2) C 2 rfl (by decide +kernel) rfl rfl ?_
                        refine r_iload (q := 135) C 4 rfl (by decide +kernel) rfl ?_
                        refine cV3I (q := 138) C R rfl (by decide +kernel) lk_X7_310 (c_X7_isQuiet hm M W hr hp hlk (pl_nn.mp c112)) (by decide) (by decide) (by decide) rfl (by first | exact Nat.le_of_ble_eq_true rfl | (simp only [List.map_cons, List.map_nil, List.sum_cons, List.sum_nil, rv_cat]; exact Nat.le_of_ble_eq_true rfl)) rfl hm.1 ?_
                        rintro _ _ ⟨t135, rfl, ht135, rfl⟩
                        refine r_if_eq (q := 141) (off := 7) (tgt := 145) C rfl (by decide +kernel) (by decide) (fun c138 => ?_) (fun c138 => ?_)
                        · have ht2 : false = true ↔ (σ.cA r p (12 * σ.gr) = false ∧ ∀ c, c < 120 → σ.cA r p c = true → σ.fre c = true) ∧ ∀ q, q < k + 1 → σ.li q < 240 → σ.cA r p (σ.dr q) = false ∧ σ.quiet r p q := ⟨(fun e => nomatch e), fun e => by have := ht135.mpr (e.2 k (by omega) (pl_nn.mp c112)).2; rw [(b2i_0 _).mp c138] at this; exact this⟩
                          refine r_iconst (q := 146) (z := 0) (v := b2i false) C rfl (by decide +kernel) (by decide) ?_
                          refine r_istore_n (q := 147) (z := 3) C 3 rfl (by decide +kernel) rfl (by decide) (by first | rfl | exact okst_rv rfl) ?_
                          dsimp only [List.set]
                          refine r_iinc (q := 150) (z := 1) (v := 1) C 4 rfl (by decide +kernel) rfl (by decide) (by decide) (by first | rfl | exact okst_rv rfl) ?_
                          dsimp only [List.set]
                          rw [nI_1]
                          refine r_goto (off := -58) (tgt := 92) C (by decide +kernel) (by decide) ?_
                          exact ih92 (k + 1) _ (by omega) (by omega) ht2
                        · rw [(b2i_n0 _).mp c102] at ht
                          have ht2 : true = true ↔ (σ.cA r p (12 * σ.gr) = false ∧ ∀ c, c < 120 → σ.cA r p c = true → σ.fre c = true) ∧ ∀ q, q < k + 1 → σ.li q < 240 → σ.cA r p (σ.dr q) = false ∧ σ.quiet r p q := ⟨fun _ => ⟨(ht.mp rfl).1, fun q hq hl => by
                            by_cases e : q = k
                            · subst e; exact ⟨(b2i_0 _).mp c127, ht135.mp ((b2i_n0 _).mp c138)⟩
                            · exact (ht.mp rfl).2 q (by omega) hl⟩, fun _ => rfl⟩
                          refine r_iconst (q := 142) (z := 1) (v := b2i true) C rfl (by decide +kernel) (by decide) ?_
                          refine r_goto (off := 4) (tgt := 146) C (by decide +kernel) (by decide) ?_
                          refine r_istore_n (q := 147) (z := 3) C 3 rfl (by decide +kernel) rfl (by decide) (by first | rfl | exact okst_rv rfl) ?_
                          dsimp only [List.set]
                          refine r_iinc (q := 150) (z := 1) (v := 1) C 4 rfl (by decide +kernel) rfl (by decide) (by decide) (by first | rfl | exact okst_rv rfl) ?_
                          dsimp only [List.set]
                          rw [nI_1]
                          refine r_goto (off := -58) (tgt := 92) C (by decide +kernel) (by decide) ?_
                          exact ih92 (k + 1) _ (by omega) (by omega) ht2
            exact L92 (σ.n + 1) 0 t (by omega) (by omega) ⟨fun e => ⟨ht.mp e, fun q hq => absurd hq (Nat.not_lt_zero q)⟩, fun e => ht.mpr e.1⟩
          · have hlt : i < 120 := Nat.lt_of_not_le (fun e => c50 (nI_le (a := 120) e (by omega)))
            refine r_iload_n (q := 54) (z := 3) C 3 rfl (by decide +kernel) rfl rfl ?_
            refine r_if_eq (q := 57) (off := 27) (tgt := 81) C rfl (by decide +kernel) (by decide) (fun c54 => ?_) (fun c54 => ?_)
            · have ht2 : false = true ↔ σ.cA r p (12 * σ.gr) = false ∧ ∀ c, c < i + 1 → σ.cA r p c = true → σ.fre c = true := ⟨(fun e => nomatch e), fun e => by rw [(b2i_0 _).mp c54] at ht; exact ht.mpr ⟨e.1, fun c hc => e.2 c (by omega)⟩⟩
              refine r_iconst (q := 82) (z := 0) (v := b2i false) C rfl (by decide +kernel) (by decide) ?_
              refine r_istore_n (q := 83) (z := 3) C 3 rfl (by decide +kernel) rfl (by decide) (by first | rfl | exact okst_rv rfl) ?_
              dsimp only [List.set]
              refine r_iinc (q := 86) (z := 1) (v := 1) C 4 rfl (by decide +kernel) rfl (by decide) (by decide) (by first | rfl | exact okst_rv rfl) ?_
              dsimp only [List.set]
              rw [nI_1]
              refine r_goto (off := -40) (tgt := 46) C (by decide +kernel) (by decide) ?_
              exact ih46 (i + 1) _ (by omega) (by omega) ho hd ht2
            · refine r_aload_n (q := 58) (z := 0) C 0 rfl (by decide +kernel) rfl rfl ?_
              refine r_iload_n (q := 59) (z := 1) C 1 rfl (by decide +kernel) rfl rfl ?_
              refine r_iload_n (q := 60) (z := 2) C 2 rfl (by decide +kernel) rfl rfl ?_
              refine r_iload (q := 62) C 4 rfl (by decide +kernel) rfl ?_
              refine cV3I (q := 65) C R rfl (by decide +kernel) lk_X7_263 (c_X7_coversAt hm M W hr hp (by omega)) (by decide) (by decide) (by decide) rfl (by first | exact Nat.le_of_ble_eq_true rfl | (simp only [List.map_cons, List.map_nil, List.sum_cons, List.sum_nil, rv_cat]; exact Nat.le_of_ble_eq_true rfl)) rfl hm.1 ?_
              rintro _ _ ⟨rfl, rfl⟩
              refine r_if_eq (q := 68) (off := 12) (tgt := 77) C rfl (by decide +kernel) (by decide) (fun c65 => ?_) (fun c65 => ?_)
              · rw [(b2i_n0 _).mp c54] at ht
                have ht2 : true = true ↔ σ.cA r p (12 * σ.gr) = false ∧ ∀ c, c < i + 1 → σ.cA r p c = true → σ.fre c = true := ⟨fun _ => ⟨(ht.mp rfl).1, fun c hc hcc => by
                  by_cases e : c = i
                  · subst e; rw [(b2i_0 _).mp c65] at hcc; cases hcc
                  · exact (ht.mp rfl).2 c (by omega) hcc⟩, fun _ => rfl⟩
                refine r_iconst (q := 78) (z := 1) (v := b2i true) C rfl (by decide +kernel) (by decide) ?_
                refine r_goto (off := 4) (tgt := 82) C (by decide +kernel) (by decide) ?_
                refine r_istore_n (q := 83) (z := 3) C 3 rfl (by decide +kernel) rfl (by decide) (by first | rfl | exact okst_rv rfl) ?_
                dsimp only [List.set]
                refine r_iinc (q := 86) (z := 1) (v := 1) C 4 rfl (by decide +kernel) rfl (by decide) (by decide) (by first | rfl | exact okst_rv rfl) ?_
                dsimp only [List.set]
                rw [nI_1]
                refine r_goto (off := -40) (tgt := 46) C (by decide +kernel) (by decide) ?_
                exact ih46 (i + 1) _ (by omega) (by omega) ho hd ht2
              · refine r_aload_n (q := 69) (z := 0) C 0 rfl (by decide +kernel) rfl rfl ?_
                refine r_iload (q := 71) C 4 rfl (by decide +kernel) rfl ?_
                refine cV1I (q := 74) C R rfl (by decide +kernel) lk_X7_286 (c_X7_isFree hm M W hlt) (by decide) (by decide) (by decide) rfl (by first | exact Nat.le_of_ble_eq_true rfl | (simp only [List.map_cons, List.map_nil, List.sum_cons, List.sum_nil, rv_cat]; exact Nat.le_of_ble_eq_true rfl)) rfl hm.1 ?_
                rintro _ _ ⟨rfl, rfl⟩
                refine r_if_eq (q := 77) (off := 7) (tgt := 81) C rfl (by decide +kernel) (by decide) (fun c74 => ?_) (fun c74 => ?_)
                · have ht2 : false = true ↔ σ.cA r p (12 * σ.gr) = false ∧ ∀ c, c < i + 1 → σ.cA r p c = true → σ.fre c = true := ⟨(fun e => nomatch e), fun e => by have := e.2 i (by omega) ((b2i_n0 _).mp c65); rw [(b2i_0 _).mp c74] at this; exact this⟩
                  refine r_iconst (q := 82) (z := 0) (v := b2i false) C rfl (by decide +kernel) (by decide) ?_
                  refine r_istore_n (q := 83) (z := 3) C 3 rfl (by decide +kernel) rfl (by decide) (by first | rfl | exact okst_rv rfl) ?_
                  dsimp only [List.set]
                  refine r_iinc (q := 86) (z := 1) (v := 1) C 4 rfl (by decide +kernel) rfl (by decide) (by decide) (by first | rfl | exact okst_rv rfl) ?_
                  dsimp only [List.set]
                  rw [nI_1]
                  refine r_goto (off := -40) (tgt := 46) C (by decide +kernel) (by decide) ?_
                  exact ih46 (i + 1) _ (by omega) (by omega) ho hd ht2
                · rw [(b2i_n0 _).mp c54] at ht
                  have ht2 : true = true ↔ σ.cA r p (12 * σ.gr) = false ∧ ∀ c, c < i + 1 → σ.cA r p c = true → σ.fre c = true := ⟨fun _ => ⟨(ht.mp rfl).1, fun c hc hcc => by
                    by_cases e : c = i
                    · subst e; exact (b2i_n0 _).mp c74
                    · exact (ht.mp rfl).2 c (by omega) hcc⟩, fun _ => rfl⟩
                  refine r_iconst (q := 78) (z := 1) (v := b2i true) C rfl (by decide +kernel) (by decide) ?_
                  refine r_goto (off := 4) (tgt := 82) C (by decide +kernel) (by decide) ?_
                  refine r_istore_n (q := 83) (z := 3) C 3 rfl (by decide +kernel) rfl (by decide) (by first | rfl | exact okst_rv rfl) ?_
                  dsimp only [List.set]
                  refine r_iinc (q := 86) (z := 1) (v := 1) C 4 rfl (by decide +kernel) rfl (by decide) (by decide) (by first | rfl | exact okst_rv rfl) ?_
                  dsimp only [List.set]
                  rw [nI_1]
                  refine r_goto (off := -40) (tgt := 46) C (by decide +kernel) (by decide) ?_
                  exact ih46 (i + 1) _ (by omega) (by omega) ho hd ht2
      refine r_aload_n (q := 25) (z := 0) C 0 rfl (by decide +kernel) rfl rfl ?_
      refine r_iload_n (q := 26) (z := 1) C 1 rfl (by decide +kernel) rfl rfl ?_
      refine r_iload_n (q := 27) (z := 2) C 2 rfl (by decide +kernel) rfl rfl ?_
      refine r_aload_n (q := 28) (z := 0) C 0 rfl (by decide +kernel) rfl rfl ?_
      refine cV0I (q := 31) C R rfl (by decide +kernel) lk_X7_280 (c_X7_gateCell hm M W) (by decide) (by decide) (by decide) rfl (by first | exact Nat.le_of_ble_eq_true rfl | (simp only [List.map_cons, List.map_nil, List.sum_cons, List.sum_nil, rv_cat]; exact Nat.le_of_ble_eq_true rfl)) rfl hm.1 ?_
      rintro _ _ ⟨rfl, rfl⟩
      refine cV3I (q := 34) C R rfl (by decide +kernel) lk_X7_263 (c_X7_coversAt hm M W hr hp (by omega)) (by decide) (by decide) (by decide) rfl (by first | exact Nat.le_of_ble_eq_true rfl | (simp only [List.map_cons, List.map_nil, List.sum_cons, List.sum_nil, rv_cat]; exact Nat.le_of_ble_eq_true rfl)) rfl hm.1 ?_
      rintro _ _ ⟨rfl, rfl⟩
      refine r_if_ne (q := 37) (off := 7) (tgt := 41) C rfl (by decide +kernel) (by decide) (fun c34 => ?_) (fun c34 => ?_)
      · have ht0 : false = true ↔ σ.cA r p (12 * σ.gr) = false ∧ ∀ c, c < 0 → σ.cA r p c = true → σ.fre c = true := ⟨(fun e => nomatch e), fun e => by rw [(b2i_n0 _).mp c34] at e; exact absurd e.1 (by decide)⟩
        refine r_iconst (q := 42) (z := 0) (v := b2i false) C rfl (by decide +kernel) (by decide) ?_
        refine r_istore_n (q := 43) (z := 3) C 3 rfl (by decide +kernel) rfl (by decide) (by first | rfl | exact okst_rv rfl) ?_
        dsimp only [List.set]
        refine r_iconst (q := 44) (z := 0) (v := 0) C rfl (by decide +kernel) (by decide) ?_
        refine r_istore (q := 46) C 4 rfl (by decide +kernel) (by decide) (by first | rfl | exact okst_rv rfl) ?_
        dsimp only [List.set]
        exact L46 121 0 _ (by omega) (by omega) (ht3.mp ((b2i_n0 _).mp c6)) ((b2i_n0 _).mp c19) ht0
      · have ht0 : true = true ↔ σ.cA r p (12 * σ.gr) = false ∧ ∀ c, c < 0 → σ.cA r p c = true → σ.fre c = true := ⟨fun _ => ⟨(b2i_0 _).mp c34, fun c hc => absurd hc (Nat.not_lt_zero c)⟩, fun _ => rfl⟩
        refine r_iconst (q := 38) (z := 1) (v := b2i true) C rfl (by decide +kernel) (by decide) ?_
        refine r_goto (off := 4) (tgt := 42) C (by decide +kernel) (by decide) ?_
        refine r_istore_n (q := 43) (z := 3) C 3 rfl (by decide +kernel) rfl (by decide) (by first | rfl | exact okst_rv rfl) ?_
        dsimp only [List.set]
        refine r_iconst (q := 44) (z := 0) (v := 0) C rfl (by decide +kernel) (by decide) ?_
        refine r_istore (q := 46) C 4 rfl (by decide +kernel) (by decide) (by first | rfl | exact okst_rv rfl) ?_
        dsimp only [List.set]
        exact L46 121 0 _ (by omega) (by omega) (ht3.mp ((b2i_n0 _).mp c6)) ((b2i_n0 _).mp c19) ht0
    · refine r_iconst (q := 23) (z := 0) (v := 0) C rfl (by decide +kernel) (by decide) ?_
      exact r_zret C (by decide +kernel) rfl (by first | decide | exact b2i_nar _) (by decide) (by decide) ⟨_, rfl, ⟨false, rfl, ⟨(fun e => nomatch e), fun e => by first | exact absurd (ht3.mpr e.1) (by rw [(b2i_0 _).mp c6]; decide) | (have := e.2.1; rw [(b2i_0 _).mp c19] at this; exact this)⟩, rfl⟩⟩
