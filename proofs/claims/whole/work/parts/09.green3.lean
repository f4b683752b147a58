def frees (f : Nat → Int32) (n : Nat) : Nat := cnt (fun c => decide (f c = -1)) n
theorem frees_y {f : Nat → Int32} {i : Nat} (h : f i = -1) : frees f (i + 1) = frees f i + 1 := by simp [frees, cnt, h]
theorem frees_n {f : Nat → Int32} {i : Nat} (h : ¬ f i = -1) : frees f (i + 1) = frees f i := by simp [frees, cnt, h]
/-- the heap while the search runs -/
def bst (h : HP) (a : Nat) (f q : Nat → Int32) (k : Nat) : HP := ((h.row (h.fr 1 a) f).row (h.fr 2 a) q).setI 3 a (nI k)
section BST
variable {h : HP} {a : Nat} {f q f' q' : Nat → Int32} {k k' : Nat}
theorem bst_bst (hn : h.fr 1 a ≠ h.fr 2 a) : bst (bst h a f q k) a f' q' k' = bst h a f' q' k' := by
  show ((((((h.row (h.fr 1 a) f).row (h.fr 2 a) q).setI 3 a (nI k)).row (h.fr 1 a) f').row (h.fr 2 a) q').setI 3 a (nI k')) = _
  rw [← setI_row, ← setI_row, setI_setI, row_comm (Ne.symm hn), row_row, row_row]
  rfl
theorem bst_self (hk : h.fi 3 a = nI k) : bst h a (h.ai (h.fr 1 a)) (h.ai (h.fr 2 a)) k = h := by
  unfold bst
  rw [row_self, row_self, ← hk, setI_self]
theorem bst_ai1 (hn : h.fr 1 a ≠ h.fr 2 a) : (bst h a f q k).ai (h.fr 1 a) = f := by
  show ((h.row (h.fr 1 a) f).row (h.fr 2 a) q).ai (h.fr 1 a) = f
  rw [ai_row_ne hn, ai_row_eq]
theorem bst_ai2 : (bst h a f q k).ai (h.fr 2 a) = q := by
  show ((h.row (h.fr 1 a) f).row (h.fr 2 a) q).ai (h.fr 2 a) = q
  rw [ai_row_eq]
theorem bst_ai {b : Nat} (h1 : b ≠ h.fr 1 a) (h2 : b ≠ h.fr 2 a) : (bst h a f q k).ai b = h.ai b := by
  show ((h.row (h.fr 1 a) f).row (h.fr 2 a) q).ai b = h.ai b
  rw [ai_row_ne h2, ai_row_ne h1]
theorem bst_fi3 : (bst h a f q k).fi 3 a = nI k := fi_eq
theorem bst_fi {g b : Nat} (hg : g ≠ 3) : (bst h a f q k).fi g b = h.fi g b := fi_ne hg
theorem bst_fr : (bst h a f q k).fr = h.fr := rfl
theorem bst_kd : (bst h a f q k).kd = h.kd := rfl
theorem bst_gl : (bst h a f q k).gl = h.gl := rfl
theorem bst_al : (bst h a f q k).al = h.al := rfl
theorem bst_ar : (bst h a f q k).ar = h.ar := rfl
end BST
theorem m1x (n : Nat) (h : 0 < n) : nI n - 1 = nI (n - 1) := by
  obtain ⟨m, rfl⟩ : ∃ m, n = m + 1 := ⟨n - 1, by omega⟩
  exact nI_pred m
theorem hasC_iff {x y : Int32} : hasC x y = true ↔ 0 ≤ x.toInt ∧ x.toInt < 12 ∧ 0 ≤ y.toInt ∧ y.toInt < 10 := by
  simp only [hasC, decide_eq_true_eq, Int32.le_iff_toInt_le, Int32.lt_iff_toInt_lt]
  exact Iff.rfl
theorem toInt_m1 {n : Nat} (h : n < 1000) : (nI n - 1).toInt = (n : Int) - 1 := by
  rw [show (1 : Int32) = nI 1 from rfl]
  exact pk_sub_toInt (by omega) (by omega)
theorem toInt_p1 {n : Nat} (h : n < 1000) : (nI n + 1).toInt = (n : Int) + 1 := by
  rw [nI_1, nI_toInt (by omega)]; omega
/-- the four neighbours of the cell c -/
theorem nb_up {c d : Nat} (hc : c < 120) : cAt (nI (c % 12)) (nI (c / 12) - 1) d ↔ d + 12 = c := by
  constructor
  · rintro ⟨h1, h2, h3⟩
    rw [hasC_iff, toInt_m1 (by omega)] at h1
    rw [m1x _ (by omega), cIx] at h2
    have := (nI_eq (by omega) (by omega)).mp h2
    omega
  · intro h
    refine ⟨?_, ?_, by omega⟩
    · rw [hasC_iff, toInt_m1 (by omega), nI_toInt (by omega)]; omega
    · rw [m1x _ (by omega), cIx]; congr 1; omega
theorem nb_left {c d : Nat} (hc : c < 120) : cAt (nI (c % 12) - 1) (nI (c / 12)) d ↔ c % 12 ≠ 0 ∧ d + 1 = c := by
  constructor
  · rintro ⟨h1, h2, h3⟩
    rw [hasC_iff, toInt_m1 (by omega)] at h1
    rw [m1x _ (by omega), cIx] at h2
    have := (nI_eq (by omega) (by omega)).mp h2
    omega
  · rintro ⟨h0, h⟩
    refine ⟨?_, ?_, by omega⟩
    · rw [hasC_iff, toInt_m1 (by omega), nI_toInt (by omega)]; omega
    · rw [m1x _ (by omega), cIx]; congr 1; omega
theorem nb_right {c d : Nat} (hc : c < 120) : cAt (nI (c % 12) + 1) (nI (c / 12)) d ↔ c % 12 ≠ 11 ∧ d = c + 1 := by
  constructor
  · rintro ⟨h1, h2, h3⟩
    rw [hasC_iff, toInt_p1 (by omega)] at h1
    rw [nI_1, cIx] at h2
    have := (nI_eq (by omega) (by omega)).mp h2
    omega
  · rintro ⟨h0, h⟩
    refine ⟨?_, ?_, by omega⟩
    · rw [hasC_iff, toInt_p1 (by omega), nI_toInt (by omega)]; omega
    · rw [nI_1, cIx]; congr 1; omega
theorem nb_down {c d : Nat} (hc : c < 120) : cAt (nI (c % 12)) (nI (c / 12) + 1) d ↔ d = c + 12 ∧ d < 120 := by
  constructor
  · rintro ⟨h1, h2, h3⟩
    rw [hasC_iff, toInt_p1 (by omega)] at h1
    rw [nI_1, cIx] at h2
    have := (nI_eq (by omega) (by omega)).mp h2
    omega
  · rintro ⟨h0, h⟩
    refine ⟨?_, ?_, by omega⟩
    · rw [hasC_iff, toInt_p1 (by omega), nI_toInt (by omega)]; omega
    · rw [nI_1, cIx]; congr 1; omega
theorem cAt_gate {g c : Nat} (hg : g < 10) : cAt 0 (nI g) c ↔ c = 12 * g := by
  rw [show (0 : Int32) = nI 0 from rfl]
  constructor
  · rintro ⟨h1, h2, h3⟩
    rw [cIx] at h2
    have := (nI_eq (by omega) (by omega)).mp h2
    omega
  · rintro rfl
    exact ⟨hasC_nI (by omega) hg, cIx, by omega⟩
theorem rem12 {c : Nat} (hc : c < 120) : nI c - nI c / 12 * 12 = nI (c % 12) := pk_rem (d := 12) (by omega) (by decide) (by decide)
theorem div12 {c : Nat} (hc : c < 120) : nI c / 12 = nI (c / 12) := pk_div (d := 12) (by omega) (by decide) (by decide)
/-- the search has ended: it is closed -/
theorem BI.done {bar : Nat → Bool} {g : Nat} {f q : Nat → Int32} {k : Nat} (hg : g < 120) (h : BI bar g f q k) (hp : ∀ j, j < k → ∀ c, c < 120 → q j = nI c → ∀ b, b < 120 → adj c b → bar b = false → f b = 1) (h0 : bar g = false → f g = 1) : ∀ c, c < 120 → (f c = 1 ↔ RS bar g c) := by
  intro c hc
  constructor
  · intro e
    exact (h.2.2.1 c hc e).1
  · intro e
    have := e (fun c => c < 120 ∧ f c = 1) (fun e => ⟨hg, h0 e⟩) (fun a b ha hb hs hab he => by
      obtain ⟨-, j, hj, hq⟩ := h.2.2.1 a ha hs.2
      exact ⟨hb, hp j hj a ha hq b hb hab he⟩)
    exact this.2
theorem BI.zero {bar : Nat → Bool} {g : Nat} {f q : Nat → Int32} (hf : ∀ c, c < 120 → f c = 0) : BI bar g f q 0 := by
  refine ⟨fun c hc => Or.inl (hf c hc), ?_, fun c hc e => ?_, fun j hj => absurd hj (Nat.not_lt_zero _)⟩
  · have : ∀ n, n ≤ 120 → cnt (fun c => decide (f c = 1)) n = 0 := by
      intro n
      induction n with
      | zero => intro _; rfl
      | succ n ih => intro hn; simp [cnt, ih (by omega), hf n (by omega)]
    exact (this 120 (Nat.le_refl _)).symm
  · rw [hf c hc] at e; exact absurd e (by decide)

theorem c_X0_countFree {G : GT} {h : HP} {a : Nat} (hg : LGn h.kd h.gl h.fr a) : Con G 1 0 0 yX0_countFree cX0_countFree 6 (some .int) [rv a] h (PI (fun r h' => nI (frees (h.ai (h.fr 0 a)) 120) = r ∧ h = h')) := by
  refine Con.of (lv := [some (rv a), none, none, none, none, none]) (by decide) (by simp only [lvE_r, lvE_i, lvE_l, lvE_s, lvE_0]; rfl) (by simp only [lgl_r, lgl_i, lgl_l, lgl_s, lgl_0]; decide) (fun Γ C R => ?_)
  obtain ⟨g1, g2, g3, g4, g5, g6, g7⟩ := id hg
  refine r_iconst (q := 1) (z := 0) (v := 0) C rfl (by decide +kernel) (by decide) ?_
  refine r_istore_n (q := 2) (z := 1) C 1 rfl (by decide +kernel) rfl (by decide) (by first | rfl | exact okst_rv rfl) ?_
  dsimp only [List.set]
  refine r_aload_n (q := 3) (z := 0) C 0 rfl (by decide +kernel) rfl rfl ?_
  refine r_getR (q := 6) C 0 0 0 rfl (by decide +kernel) rfl (by decide) rfl rfl wf_X0_9 win0 (by assumption) ?_
  refine r_astore_n (q := 7) (z := 2) C 2 rfl (by decide +kernel) rfl (by decide) (by first | rfl | exact okst_rv rfl) ?_
  dsimp only [List.set]
  refine r_aload_n (q := 8) (z := 2) C 2 rfl (by decide +kernel) rfl rfl ?_
  refine r_alen (q := 9) C rfl (by decide +kernel) (by assumption) (by first | exact Or.inl rfl | exact Or.inr rfl) ?_
  refine r_istore_n (q := 10) (z := 3) C 3 rfl (by decide +kernel) rfl (by decide) (by first | rfl | exact okst_rv rfl) ?_
  dsimp only [List.set]
  refine r_iconst (q := 11) (z := 0) (v := 0) C rfl (by decide +kernel) (by decide) ?_
  refine r_istore (q := 13) C 4 rfl (by decide +kernel) (by decide) (by first | rfl | exact okst_rv rfl) ?_
  dsimp only [List.set]
  have L13 : ∀ (fuel13 : Nat) (i : Nat), 120 - i < fuel13 → (i ≤ 120) → wX G Γ (qM G Γ (PI (fun r h' => nI (frees (h.ai (h.fr 0 a)) 120) = r ∧ h = h')) 0 0) 0 0 (h) 13 [some (rv a), some (.int (nI (frees (h.ai (h.fr 0 a)) i))), some (rv (h.fr 0 a)), some (.int (nI 120)), some (.int (nI i)), none] [] := by
    intro fuel13
    induction fuel13 with
    | zero =>
      intro i hm13
      exact absurd hm13 (Nat.not_lt_zero _)
    | succ fuel13 ih13 =>
      intro i hm13 hi
      refine r_iload (q := 15) C 4 rfl (by decide +kernel) rfl ?_
      refine r_iload_n (q := 16) (z := 3) C 3 rfl (by decide +kernel) rfl rfl ?_
      refine r_icmp_ge (q := 19) (off := 24) (tgt := 40) C rfl (by decide +kernel) (by decide) (fun c16 => ?_) (fun c16 => ?_)
      · have ez : i = 120 := by have := (nI_leI (by omega) (by omega)).mp c16; omega
        subst ez
        refine r_iload_n (q := 41) (z := 1) C 1 rfl (by decide +kernel) rfl rfl ?_
        exact r_iret C (by decide +kernel) rfl (by decide) (by decide) ⟨_, rfl, ⟨rfl, rfl⟩⟩
      · have hlt : i < 120 := Nat.lt_of_not_le (fun e => c16 (nI_le e (by omega)))
        refine r_aload_n (q := 20) (z := 2) C 2 rfl (by decide +kernel) rfl rfl ?_
        refine r_iload (q := 22) C 4 rfl (by decide +kernel) rfl ?_
        refine r_iald (q := 23) C rfl (by decide +kernel) (by assumption) (vp_in_nI hlt (by omega)) ?_
        rw [nI_clamp (by omega)]
        refine r_istore (q := 25) C 5 rfl (by decide +kernel) (by decide) (by first | rfl | exact okst_rv rfl) ?_
        dsimp only [List.set]
        refine r_iload (q := 27) C 5 rfl (by decide +kernel) rfl ?_
        refine r_iconst (q := 28) (z := (-1)) (v := (-1)) C rfl (by decide +kernel) (by decide) ?_
        refine r_icmp_ne (q := 31) (off := 6) (tgt := 34) C rfl (by decide +kernel) (by decide) (fun c28 => ?_) (fun c28 => ?_)
        · rw [← frees_n c28]
          refine r_iinc (q := 37) (z := 1) (v := 1) C 4 rfl (by decide +kernel) rfl (by decide) (by decide) (by first | rfl | exact okst_rv rfl) ?_
          dsimp only [List.set]
          rw [nI_1]
          refine r_goto (off := -24) (tgt := 13) C (by decide +kernel) (by decide) ?_
          exact wX.sub (lsub_s (lsub_s (lsub_s (lsub_s (lsub_s (lsub_n (lsub_nil))))))) (ih13 (i + 1) (by omega) (by omega))
        · refine r_iinc (q := 34) (z := 1) (v := 1) C 1 rfl (by decide +kernel) rfl (by decide) (by decide) (by first | rfl | exact okst_rv rfl) ?_
          dsimp only [List.set]
          rw [nI_1, ← frees_y c28]
          refine r_iinc (q := 37) (z := 1) (v := 1) C 4 rfl (by decide +kernel) rfl (by decide) (by decide) (by first | rfl | exact okst_rv rfl) ?_
          dsimp only [List.set]
          rw [nI_1]
          refine r_goto (off := -24) (tgt := 13) C (by decide +kernel) (by decide) ?_
          exact wX.sub (lsub_s (lsub_s (lsub_s (lsub_s (lsub_s (lsub_n (lsub_nil))))))) (ih13 (i + 1) (by omega) (by omega))
  exact wX.sub (lsub_s (lsub_s (lsub_s (lsub_s (lsub_s (lsub_n (lsub_nil))))))) (L13 121 0 (by omega) (by omega))
theorem c_X0_reach {G : GT} {h : HP} {a k g : Nat} {x y : Int32} {bar : Nat → Bool} (hg : LGn h.kd h.gl h.fr a) (hB : BI bar g (h.ai (h.fr 1 a)) (h.ai (h.fr 2 a)) k) (hk : h.fi 3 a = nI k) (hc : ∀ c, c < 120 → (h.ai (h.fr 0 a) c = -1 ↔ bar c = false)) (hr : ∀ c, cAt x y c → bar c = false → RS bar g c) : Con G 3 0 0 yX0_reach cX0_reach 4 none [rv a, .int x, .int y] h (PV (fun h' => ∃ f' q' k', bst h a f' q' k' = h' ∧ BI bar g f' q' k' ∧ BS (h.ai (h.fr 1 a)) (h.ai (h.fr 2 a)) k f' q' k' ∧ ∀ c, cAt x y c → bar c = false → f' c = 1)) := by
  refine Con.of (lv := [some (rv a), some (.int x), some (.int y), none]) (by decide) (by simp only [lvE_r, lvE_i, lvE_l, lvE_s, lvE_0]; rfl) (by simp only [lgl_r, lgl_i, lgl_l, lgl_s, lgl_0]; decide) (fun Γ C R => ?_)
  obtain ⟨g1, g2, g3, g4, g5, g6, g7⟩ := id hg
  have hk1 := hB.le
  refine r_iload_n (q := 1) (z := 1) C 1 rfl (by decide +kernel) rfl rfl ?_
  refine r_iload_n (q := 2) (z := 2) C 2 rfl (by decide +kernel) rfl rfl ?_
  refine cS2I (q := 5) C R rfl (by decide +kernel) lk_X0_34 (c_X0_hasCell ) (by decide) (by decide) (by decide) rfl (by first | exact Nat.le_of_ble_eq_true rfl | (simp only [List.map_cons, List.map_nil, List.sum_cons, List.sum_nil, rv_cat]; exact Nat.le_of_ble_eq_true rfl))  ?_
  rintro _ _ ⟨rfl, rfl⟩
  refine r_if_eq (q := 8) (off := 12) (tgt := 17) C rfl (by decide +kernel) (by decide) (fun c5 => ?_) (fun c5 => ?_)
  · exact r_ret C (by decide +kernel) rfl (by decide) (by decide) ⟨rfl, ⟨_, _, k, bst_self hk, hB, BS.rf, fun c hcA hb => absurd hcA.1 (by rw [(b2i_0 _).mp c5]; decide)⟩⟩
  · have hC : hasC x y = true := (b2i_n0 _).mp c5
    obtain ⟨c0, hc0, hcl⟩ := cAt_of hC
    have hl0 := hc0.2.2
    refine r_aload_n (q := 9) (z := 0) C 0 rfl (by decide +kernel) rfl rfl ?_
    refine r_getI (q := 12) C 0 3 3 rfl (by decide +kernel) rfl (by decide) rfl rfl wf_X0_21 win0 (by assumption) ?_
    rw [hk]
    refine r_bipush (q := 14) (z := 120) (v := 120) C rfl (by decide +kernel) (by decide) ?_
    refine r_icmp_lt (q := 17) (off := 4) (tgt := 18) C rfl (by decide +kernel) (by decide) (fun c14 => ?_) (fun c14 => ?_)
    · have hlt : k < 120 := (nI_ltI (b := 120) (by omega) (by omega)).mp c14
      refine r_bipush (q := 20) (z := 12) (v := 12) C rfl (by decide +kernel) (by decide) ?_
      refine r_iload_n (q := 21) (z := 2) C 2 rfl (by decide +kernel) rfl rfl ?_
      refine r_imul (q := 22) C rfl (by decide +kernel) ?_
      refine r_iload_n (q := 23) (z := 1) C 1 rfl (by decide +kernel) rfl rfl ?_
      refine r_iadd (q := 24) C rfl (by decide +kernel) ?_
      rw [hc0.2.1]
      refine r_istore_n (q := 25) (z := 3) C 3 rfl (by decide +kernel) rfl (by decide) (by first | rfl | exact okst_rv rfl) ?_
      dsimp only [List.set]
      refine r_aload_n (q := 26) (z := 0) C 0 rfl (by decide +kernel) rfl rfl ?_
      refine r_getR (q := 29) C 0 0 0 rfl (by decide +kernel) rfl (by decide) rfl rfl wf_X0_9 win0 (by assumption) ?_
      refine r_iload_n (q := 30) (z := 3) C 3 rfl (by decide +kernel) rfl rfl ?_
      refine r_iald (q := 31) C rfl (by decide +kernel) (by assumption) (vp_in_nI hl0 (by omega)) ?_
      rw [nI_clamp (by omega)]
      refine r_iconst (q := 32) (z := (-1)) (v := (-1)) C rfl (by decide +kernel) (by decide) ?_
      refine r_icmp_ne (q := 35) (off := 39) (tgt := 71) C rfl (by decide +kernel) (by decide) (fun c32 => ?_) (fun c32 => ?_)
      · exact r_ret C (by decide +kernel) rfl (by decide) (by decide) ⟨rfl, ⟨_, _, k, bst_self hk, hB, BS.rf, fun c hcA hb => absurd ((hc c0 hl0).mpr (by rw [← cAt_one hcA hc0]; exact hb)) c32⟩⟩
      · have hb0 := (hc c0 hl0).mp c32
        refine r_aload_n (q := 36) (z := 0) C 0 rfl (by decide +kernel) rfl rfl ?_
        refine r_getR (q := 39) C 0 1 1 rfl (by decide +kernel) rfl (by decide) rfl rfl wf_X0_15 win0 (by assumption) ?_
        refine r_iload_n (q := 40) (z := 3) C 3 rfl (by decide +kernel) rfl rfl ?_
        refine r_iald (q := 41) C rfl (by decide +kernel) (by assumption) (vp_in_nI hl0 (by omega)) ?_
        rw [nI_clamp (by omega)]
        refine r_if_ne (q := 44) (off := 30) (tgt := 71) C rfl (by decide +kernel) (by decide) (fun c41 => ?_) (fun c41 => ?_)
        · exact r_ret C (by decide +kernel) rfl (by decide) (by decide) ⟨rfl, ⟨_, _, k, bst_self hk, hB, BS.rf, fun c hcA hb => by rw [cAt_one hcA hc0]; exact (hB.1 c0 hl0).resolve_left c41⟩⟩
        · refine r_aload_n (q := 45) (z := 0) C 0 rfl (by decide +kernel) rfl rfl ?_
          refine r_getR (q := 48) C 0 1 1 rfl (by decide +kernel) rfl (by decide) rfl rfl wf_X0_15 win0 (by assumption) ?_
          refine r_iload_n (q := 49) (z := 3) C 3 rfl (by decide +kernel) rfl rfl ?_
          refine r_iconst (q := 50) (z := 1) (v := 1) C rfl (by decide +kernel) (by decide) ?_
          refine r_iast (q := 51) C rfl (by decide +kernel) rfl (by assumption) (vp_in_nI hl0 (by omega)) ?_
          rw [nI_clamp (by omega), stI_row]
          refine r_aload_n (q := 52) (z := 0) C 0 rfl (by decide +kernel) rfl rfl ?_
          refine r_getR (q := 55) C 0 2 2 rfl (by decide +kernel) rfl (by decide) rfl rfl wf_X0_18 win0 (by assumption) ?_
          refine r_aload_n (q := 56) (z := 0) C 0 rfl (by decide +kernel) rfl rfl ?_
          refine r_getI (q := 59) C 0 3 3 rfl (by decide +kernel) rfl (by decide) rfl rfl wf_X0_21 win0 (by assumption) ?_
          rw [fi_row, hk]
          refine r_iload_n (q := 60) (z := 3) C 3 rfl (by decide +kernel) rfl rfl ?_
          refine r_iast (q := 61) C rfl (by decide +kernel) rfl (by assumption) (vp_in_nI hlt (by omega)) ?_
          simp only [fr_row]
          rw [nI_clamp (by omega), stI_row, ai_row_ne (gl_ne g7 g6 (by decide))]
          refine r_aload_n (q := 62) (z := 0) C 0 rfl (by decide +kernel) rfl rfl ?_
          refine r_dup (q := 63) C rfl (by decide +kernel) (by first | rfl | exact rv_cat _) ?_
          refine r_getI (q := 66) C 0 3 3 rfl (by decide +kernel) rfl (by decide) rfl rfl wf_X0_21 win0 (by assumption) ?_
          simp only [fi_row]
          rw [hk]
          refine r_iconst (q := 67) (z := 1) (v := 1) C rfl (by decide +kernel) (by decide) ?_
          refine r_iadd (q := 68) C rfl (by decide +kernel) ?_
          rw [nI_1]
          refine r_putI (q := 71) C 0 3 3 rfl (by decide +kernel) rfl (by decide) rfl rfl wf_X0_21 win0 tyX0 tyX0_ok nmX0 rfl (tyX0_ok 3 (by decide)) rfl wnd0 rfl rfl (by assumption) ?_
          exact r_ret C (by decide +kernel) rfl (by decide) (by decide) ⟨rfl, ⟨_, _, _, rfl, (hB.add hl0 c41 (hr c0 hc0 hb0)).1, (hB.add hl0 c41 (hr c0 hc0 hb0)).2, fun c hcA hb => by rw [cAt_one hcA hc0]; exact if_pos rfl⟩⟩
    · exact r_ret C (by decide +kernel) rfl (by decide) (by decide) ⟨rfl, ⟨_, _, k, bst_self hk, hB, BS.rf, fun c hcA hb => (hB.1 c hcA.2.2).resolve_left (fun e => c14 (nI_lt (b := 120) (hB.room hcA.2.2 e) (by omega)))⟩⟩
theorem c_X0_spreadFromGate {G : GT} {h : HP} {a g : Nat} {bar : Nat → Bool} (hg : LGn h.kd h.gl h.fr a) (hgt : h.fi 4 a = nI g) (hg10 : g < 10) (hc : ∀ c, c < 120 → (h.ai (h.fr 0 a) c = -1 ↔ bar c = false)) : Con G 4 0 0 yX0_spreadFromGate cX0_spreadFromGate 4 none [rv a] h (PV (fun h' => ∃ f' q' k', bst h a f' q' k' = h' ∧ (∀ c, c < 120 → f' c = 0 ∨ f' c = 1) ∧ ∀ c, c < 120 → (f' c = 1 ↔ RS bar (12 * g) c))) := by
  refine Con.of (lv := [some (rv a), none, none, none]) (by decide) (by simp only [lvE_r, lvE_i, lvE_l, lvE_s, lvE_0]; rfl) (by simp only [lgl_r, lgl_i, lgl_l, lgl_s, lgl_0]; decide) (fun Γ C R => ?_)
  obtain ⟨g1, g2, g3, g4, g5, g6, g7⟩ := id hg
  have hn12 : h.fr 1 a ≠ h.fr 2 a := gl_ne g6 g7 (by decide)
  have hn01 : h.fr 0 a ≠ h.fr 1 a := gl_ne g5 g6 (by decide)
  have hn02 : h.fr 0 a ≠ h.fr 2 a := gl_ne g5 g7 (by decide)
  refine r_aload_n (q := 1) (z := 0) C 0 rfl (by decide +kernel) rfl rfl ?_
  refine r_getR (q := 4) C 0 1 1 rfl (by decide +kernel) rfl (by decide) rfl rfl wf_X0_15 win0 (by assumption) ?_
  refine r_iconst (q := 5) (z := 0) (v := 0) C rfl (by decide +kernel) (by decide) ?_
  refine cS2V (q := 8) C R rfl (by decide +kernel) lk_X0_28 (c_J7_fill_53178 (by assumption) (by decide)) (by decide) (by decide) (by decide) rfl (by first | exact Nat.le_of_ble_eq_true rfl | (simp only [List.map_cons, List.map_nil, List.sum_cons, List.sum_nil, rv_cat]; exact Nat.le_of_ble_eq_true rfl))  ?_
  rintro _ rfl
  have e10 : (h.row (h.fr 1 a) (mix (fun _ => 0) (h.ai (h.fr 1 a)) 120)).setI 3 a 0 = bst h a (mix (fun _ => 0) (h.ai (h.fr 1 a)) 120) (h.ai (h.fr 2 a)) 0 := by
    unfold bst
    rw [show (h.row (h.fr 1 a) (mix (fun _ => 0) (h.ai (h.fr 1 a)) 120)).row (h.fr 2 a) (h.ai (h.fr 2 a)) = h.row (h.fr 1 a) (mix (fun _ => 0) (h.ai (h.fr 1 a)) 120) from by rw [show h.ai (h.fr 2 a) = (h.row (h.fr 1 a) (mix (fun _ => 0) (h.ai (h.fr 1 a)) 120)).ai (h.fr 2 a) from (ai_row_ne (Ne.symm hn12)).symm, row_self]]
    rfl
  refine r_aload_n (q := 9) (z := 0) C 0 rfl (by decide +kernel) rfl rfl ?_
  refine r_iconst (q := 10) (z := 0) (v := 0) C rfl (by decide +kernel) (by decide) ?_
  refine r_putI (q := 13) C 0 3 3 rfl (by decide +kernel) rfl (by decide) rfl rfl wf_X0_21 win0 tyX0 tyX0_ok nmX0 rfl (tyX0_ok 3 (by decide)) rfl wnd0 rfl rfl (by assumption) ?_
  rw [e10]
  refine r_aload_n (q := 14) (z := 0) C 0 rfl (by decide +kernel) rfl rfl ?_
  refine r_iconst (q := 15) (z := 0) (v := 0) C rfl (by decide +kernel) (by decide) ?_
  refine r_aload_n (q := 16) (z := 0) C 0 rfl (by decide +kernel) rfl rfl ?_
  refine r_getI (q := 19) C 0 4 4 rfl (by decide +kernel) rfl (by decide) rfl rfl wf_X0_25 win0 (by assumption) ?_
  rw [bst_fi (by decide), hgt]
  refine cV2V (q := 22) C R rfl (by decide +kernel) lk_X0_60 (c_X0_reach (bar := bar) (g := 12 * g) (by assumption) (by rw [bst_fr, bst_ai1 hn12, bst_ai2]; exact BI.zero (fun c hc => mix_in hc)) bst_fi3 (by rw [bst_fr, bst_ai hn01 hn02]; exact hc) (fun d hd hb => by rw [(cAt_gate hg10).mp hd] at hb ⊢; exact RS.gate hb)) (by decide) (by decide) (by decide) rfl (by first | exact Nat.le_of_ble_eq_true rfl | (simp only [List.map_cons, List.map_nil, List.sum_cons, List.sum_nil, rv_cat]; exact Nat.le_of_ble_eq_true rfl)) rfl (by assumption) ?_
  rintro _ ⟨f19, q19, k19, rfl, hB19, hS19, hN19⟩
  rw [bst_bst hn12]
  refine r_iconst (q := 23) (z := 0) (v := 0) C rfl (by decide +kernel) (by decide) ?_
  refine r_istore_n (q := 24) (z := 1) C 1 rfl (by decide +kernel) rfl (by decide) (by first | rfl | exact okst_rv rfl) ?_
  dsimp only [List.set]
  have L24 : ∀ (fuel24 : Nat) (i : Nat) (f q : Nat → Int32) (k : Nat), 120 - i < fuel24 → (i ≤ k) → (BI bar (12 * g) f q k) → (∀ j, j < i → ∀ c, c < 120 → q j = nI c → ∀ b, b < 120 → adj c b → bar b = false → f b = 1) → (bar (12 * g) = false → f (12 * g) = 1) → wX G Γ (qM G Γ (PV (fun h' => ∃ f' q' k', bst h a f' q' k' = h' ∧ (∀ c, c < 120 → f' c = 0 ∨ f' c = 1) ∧ ∀ c, c < 120 → (f' c = 1 ↔ RS bar (12 * g) c))) 0 0) 0 0 (bst h a f q k) 24 [some (rv a), some (.int (nI i)), none, none] [] := by
    intro fuel24
    induction fuel24 with
    | zero =>
      intro i f q k hm24
      exact absurd hm24 (Nat.not_lt_zero _)
    | succ fuel24 ih24 =>
      intro i f q k hm24 hi hB hP hG
      have hk1 := hB.le
      refine r_iload_n (q := 25) (z := 1) C 1 rfl (by decide +kernel) rfl rfl ?_
      refine r_aload_n (q := 26) (z := 0) C 0 rfl (by decide +kernel) rfl rfl ?_
      refine r_getI (q := 29) C 0 3 3 rfl (by decide +kernel) rfl (by decide) rfl rfl wf_X0_21 win0 (by assumption) ?_
      rw [bst_fi3]
      refine r_icmp_ge (q := 32) (off := 67) (tgt := 96) C rfl (by decide +kernel) (by decide) (fun c29 => ?_) (fun c29 => ?_)
      · have ek : i = k := by have := (nI_leI (by omega) (by omega)).mp c29; omega
        subst ek
        exact r_ret C (by decide +kernel) rfl (by decide) (by decide) ⟨rfl, ⟨f, q, i, rfl, hB.1, hB.done (by omega) hP hG⟩⟩
      · have hik : i < k := Nat.lt_of_not_le (fun e => c29 (nI_le e (by omega)))
        refine r_iload_n (q := 33) (z := 1) C 1 rfl (by decide +kernel) rfl rfl ?_
        refine r_bipush (q := 35) (z := 120) (v := 120) C rfl (by decide +kernel) (by decide) ?_
        refine r_icmp_ge (q := 38) (off := 61) (tgt := 96) C rfl (by decide +kernel) (by decide) (fun c35 => ?_) (fun c35 => ?_)
        · exact absurd ((nI_leI (a := 120) (by omega) (by omega)).mp c35) (by omega)
        · refine r_aload_n (q := 39) (z := 0) C 0 rfl (by decide +kernel) rfl rfl ?_
          refine r_getR (q := 42) C 0 2 2 rfl (by decide +kernel) rfl (by decide) rfl rfl wf_X0_18 win0 (by assumption) ?_
          refine r_iload_n (q := 43) (z := 1) C 1 rfl (by decide +kernel) rfl rfl ?_
          refine r_iald (q := 44) C rfl (by decide +kernel) (by assumption) (vp_in_nI (by omega) (by omega)) ?_
          rw [nI_clamp (by omega), bst_fr, bst_ai2]
          obtain ⟨c0, hcc, hqc, hfc⟩ := hB.2.2.2 i hik
          rw [hqc]
          refine r_bipush (q := 46) (z := 12) (v := 12) C rfl (by decide +kernel) (by decide) ?_
          refine r_irem (q := 47) C rfl (by decide +kernel) (by decide) ?_
          rw [rem12 hcc]
          refine r_istore_n (q := 48) (z := 2) C 2 rfl (by decide +kernel) rfl (by decide) (by first | rfl | exact okst_rv rfl) ?_
          dsimp only [List.set]
          refine r_aload_n (q := 49) (z := 0) C 0 rfl (by decide +kernel) rfl rfl ?_
          refine r_getR (q := 52) C 0 2 2 rfl (by decide +kernel) rfl (by decide) rfl rfl wf_X0_18 win0 (by assumption) ?_
          refine r_iload_n (q := 53) (z := 1) C 1 rfl (by decide +kernel) rfl rfl ?_
          refine r_iald (q := 54) C rfl (by decide +kernel) (by assumption) (vp_in_nI (by omega) (by omega)) ?_
          rw [nI_clamp (by omega), bst_fr, bst_ai2, hqc]
          refine r_bipush (q := 56) (z := 12) (v := 12) C rfl (by decide +kernel) (by decide) ?_
          refine r_idiv (q := 57) C rfl (by decide +kernel) (by decide) ?_
          rw [div12 hcc]
          have hRc := (hB.2.2.1 c0 hcc hfc).1
          have hSS : BS f q k f q k := BS.rf
          have hBB := hB
          refine r_istore_n (q := 58) (z := 3) C 3 rfl (by decide +kernel) rfl (by decide) (by first | rfl | exact okst_rv rfl) ?_
          dsimp only [List.set]
          refine r_aload_n (q := 59) (z := 0) C 0 rfl (by decide +kernel) rfl rfl ?_
          refine r_iload_n (q := 60) (z := 2) C 2 rfl (by decide +kernel) rfl rfl ?_
          refine r_iload_n (q := 61) (z := 3) C 3 rfl (by decide +kernel) rfl rfl ?_
          refine r_iconst (q := 62) (z := 1) (v := 1) C rfl (by decide +kernel) (by decide) ?_
          refine r_isub (q := 63) C rfl (by decide +kernel) ?_
          refine cV2V (q := 66) C R rfl (by decide +kernel) lk_X0_60 (c_X0_reach (bar := bar) (g := 12 * g) (by assumption) (by rw [bst_fr, bst_ai1 hn12, bst_ai2]; exact hBB) bst_fi3 (by rw [bst_fr, bst_ai hn01 hn02]; exact hc) (fun d hd hb => hRc.step hcc hd.2.2 (by have := (nb_up hcc).mp hd; unfold adj; omega) hb)) (by decide) (by decide) (by decide) rfl (by first | exact Nat.le_of_ble_eq_true rfl | (simp only [List.map_cons, List.map_nil, List.sum_cons, List.sum_nil, rv_cat]; exact Nat.le_of_ble_eq_true rfl)) rfl (by assumption) ?_
          rintro _ ⟨f63, q63, k63, rfl, hB63, hS63, hN63⟩
          rw [bst_fr, bst_ai1 hn12, bst_ai2] at hS63
          rw [bst_bst hn12]
          replace hSS := hSS.tr hS63
          clear hBB
          have hBB := hB63
          refine r_aload_n (q := 67) (z := 0) C 0 rfl (by decide +kernel) rfl rfl ?_
          refine r_iload_n (q := 68) (z := 2) C 2 rfl (by decide +kernel) rfl rfl ?_
          refine r_iconst (q := 69) (z := 1) (v := 1) C rfl (by decide +kernel) (by decide) ?_
          refine r_isub (q := 70) C rfl (by decide +kernel) ?_
          refine r_iload_n (q := 71) (z := 3) C 3 rfl (by decide +kernel) rfl rfl ?_
          refine cV2V (q := 74) C R rfl (by decide +kernel) lk_X0_60 (c_X0_reach (bar := bar) (g := 12 * g) (by assumption) (by rw [bst_fr, bst_ai1 hn12, bst_ai2]; exact hBB) bst_fi3 (by rw [bst_fr, bst_ai hn01 hn02]; exact hc) (fun d hd hb => hRc.step hcc hd.2.2 (by have := (nb_left hcc).mp hd; unfold adj; omega) hb)) (by decide) (by decide) (by decide) rfl (by first | exact Nat.le_of_ble_eq_true rfl | (simp only [List.map_cons, List.map_nil, List.sum_cons, List.sum_nil, rv_cat]; exact Nat.le_of_ble_eq_true rfl)) rfl (by assumption) ?_
          rintro _ ⟨f71, q71, k71, rfl, hB71, hS71, hN71⟩
          rw [bst_fr, bst_ai1 hn12, bst_ai2] at hS71
          rw [bst_bst hn12]
          replace hSS := hSS.tr hS71
          clear hBB
          have hBB := hB71
          refine r_aload_n (q := 75) (z := 0) C 0 rfl (by decide +kernel) rfl rfl ?_
          refine r_iload_n (q := 76) (z := 2) C 2 rfl (by decide +kernel) rfl rfl ?_
          refine r_iconst (q := 77) (z := 1) (v := 1) C rfl (by decide +kernel) (by decide) ?_
          refine r_iadd (q := 78) C rfl (by decide +kernel) ?_
          refine r_iload_n (q := 79) (z := 3) C 3 rfl (by decide +kernel) rfl rfl ?_
          refine cV2V (q := 82) C R rfl (by decide +kernel) lk_X0_60 (c_X0_reach (bar := bar) (g := 12 * g) (by assumption) (by rw [bst_fr, bst_ai1 hn12, bst_ai2]; exact hBB) bst_fi3 (by rw [bst_fr, bst_ai hn01 hn02]; exact hc) (fun d hd hb => hRc.step hcc hd.2.2 (by have := (nb_right hcc).mp hd; unfold adj; omega) hb)) (by decide) (by decide) (by decide) rfl (by first | exact Nat.le_of_ble_eq_true rfl | (simp only [List.map_cons, List.map_nil, List.sum_cons, List.sum_nil, rv_cat]; exact Nat.le_of_ble_eq_true rfl)) rfl (by assumption) ?_
          rintro _ ⟨f79, q79, k79, rfl, hB79, hS79, hN79⟩
          rw [bst_fr, bst_ai1 hn12, bst_ai2] at hS79
          rw [bst_bst hn12]
          replace hSS := hSS.tr hS79
          clear hBB
          have hBB := hB79
          refine r_aload_n (q := 83) (z := 0) C 0 rfl (by decide +kernel) rfl rfl ?_
          refine r_iload_n (q := 84) (z := 2) C 2 rfl (by decide +kernel) rfl rfl ?_
          refine r_iload_n (q := 85) (z := 3) C 3 rfl (by decide +kernel) rfl rfl ?_
          refine r_iconst (q := 86) (z := 1) (v := 1) C rfl (by decide +kernel) (by decide) ?_
          refine r_iadd (q := 87) C rfl (by decide +kernel) ?_
          refine cV2V (q := 90) C R rfl (by decide +kernel) lk_X0_60 (c_X0_reach (bar := bar) (g := 12 * g) (by assumption) (by rw [bst_fr, bst_ai1 hn12, bst_ai2]; exact hBB) bst_fi3 (by rw [bst_fr, bst_ai hn01 hn02]; exact hc) (fun d hd hb => hRc.step hcc hd.2.2 (by have := (nb_down hcc).mp hd; unfold adj; omega) hb)) (by decide) (by decide) (by decide) rfl (by first | exact Nat.le_of_ble_eq_true rfl | (simp only [List.map_cons, List.map_nil, List.sum_cons, List.sum_nil, rv_cat]; exact Nat.le_of_ble_eq_true rfl)) rfl (by assumption) ?_
          rintro _ ⟨f87, q87, k87, rfl, hB87, hS87, hN87⟩
          rw [bst_fr, bst_ai1 hn12, bst_ai2] at hS87
          rw [bst_bst hn12]
          replace hSS := hSS.tr hS87
          clear hBB
          have hBB := hB87
          refine r_iinc (q := 93) (z := 1) (v := 1) C 1 rfl (by decide +kernel) rfl (by decide) (by decide) (by first | rfl | exact okst_rv rfl) ?_
          dsimp only [List.set]
          rw [nI_1]
          have hP2 : ∀ j, j < i + 1 → ∀ c, c < 120 → q87 j = nI c → ∀ b, b < 120 → adj c b → bar b = false → f87 b = 1 := by
            intro j hj c hc1 hq b hb hab hf
            rw [hSS.2.1 j (by omega)] at hq
            by_cases e : j = i
            · subst e
              have : c = c0 := (nI_eq (by omega) (by omega)).mp (hq.symm.trans hqc)
              subst this
              rcases hab with e1 | e1 | e1 | e1
              · exact hS87.2.2 b hb (hS79.2.2 b hb (hN71 b ((nb_left hcc).mpr e1) hf))
              · exact hS87.2.2 b hb (hN79 b ((nb_right hcc).mpr e1) hf)
              · exact hS87.2.2 b hb (hS79.2.2 b hb (hS71.2.2 b hb (hN63 b ((nb_up hcc).mpr e1) hf)))
              · exact hN87 b ((nb_down hcc).mpr ⟨e1, hb⟩) hf
            · exact hSS.2.2 b hb (hP j (by omega) c hc1 hq b hb hab hf)
          refine r_goto (off := -69) (tgt := 24) C (by decide +kernel) (by decide) ?_
          exact wX.sub (lsub_s (lsub_s (lsub_n (lsub_n (lsub_nil))))) (ih24 (i + 1) f87 q87 k87 (by omega) (by have := hSS.1; omega) hB87 hP2 (fun e => hSS.2.2 _ (by omega) (hG e)))
  exact wX.sub (lsub_s (lsub_s (lsub_n (lsub_n (lsub_nil))))) (L24 121 0 f19 q19 k19 (by omega) (Nat.zero_le _) hB19 (fun j hj => absurd hj (Nat.not_lt_zero _)) (fun e => hN19 _ ((cAt_gate hg10).mpr rfl) e))
