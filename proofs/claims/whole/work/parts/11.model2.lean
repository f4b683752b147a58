theorem cnt_mono {p q : Nat → Bool} : ∀ n, (∀ k, k < n → p k = true → q k = true) → cnt p n ≤ cnt q n
  | 0, _ => Nat.le_refl _
  | n + 1, h => by
    have := cnt_mono n (fun k hk => h k (by omega))
    simp only [cnt]
    by_cases e : p n = true
    · rw [e, h n (by omega) e]; omega
    · simp [e]; omega
/-- f has the flags rb on the first n -/
def Fl (f : Nat → Int32) (rb : Nat → Bool) (n : Nat) : Prop := ∀ c, c < n → f c = b2i (rb c)
theorem Fl.upd {f : Nat → Int32} {rb : Nat → Bool} {n c : Nat} (h : Fl f rb n) : Fl (upd f c 1) (fun k => rb k || decide (k = c)) n := fun k hk => by
  show (if k = c then (1 : Int32) else f k) = _
  by_cases e : k = c
  · simp [e, b2i]
  · simp [e, h k hk]

theorem c_X7_isBeside {G : GT} {h : HP} {m c : Nat} {rb : Nat → Bool} (hm : LM h.kd h.gl h.fr m) (hF : Fl (h.ai (h.fr 487 m)) rb 120) (hc : c < 120) : Con G 1 0 0 yX7_isBeside cX7_isBeside 3 (some .boolean) [rv m, .int (nI c)] h (PI (fun v h' => ∃ t : Bool, b2i t = v ∧ (t = true ↔ ∃ a, a < 120 ∧ adj c a ∧ rb a = true) ∧ h = h')) := by
  refine Con.of (lv := [some (rv m), some (.int (nI c)), none]) (by decide) (by simp only [lvE_r, lvE_i, lvE_l, lvE_s, lvE_0]; rfl) (by simp only [lgl_r, lgl_i, lgl_l, lgl_s, lgl_0]; decide) (fun Γ C R => ?_)
  refine r_iload_n (q := 1) (z := 1) C 1 rfl (by decide +kernel) rfl rfl ?_
  refine r_bipush (q := 3) (z := 12) (v := 12) C rfl (by decide +kernel) (by decide) ?_
  refine r_irem (q := 4) C rfl (by decide +kernel) (by decide) ?_
  rw [rem12 hc]
  refine r_istore_n (q := 5) (z := 2) C 2 rfl (by decide +kernel) rfl (by decide) (by first | rfl | exact okst_rv rfl) ?_
  dsimp only [List.set]
  have J73 : (∃ a, a < 120 ∧ adj c a ∧ rb a = true) → wX G Γ (qM G Γ (PI (fun v h' => ∃ t : Bool, b2i t = v ∧ (t = true ↔ ∃ a, a < 120 ∧ adj c a ∧ rb a = true) ∧ h = h')) 0 0) 0 0 (h) 73 [some (rv m), some (.int (nI c)), some (.int (nI (c % 12)))] [] := by
    intro  hY
    refine r_iconst (q := 74) (z := 1) (v := 1) C rfl (by decide +kernel) (by decide) ?_
    refine r_goto (off := 4) (tgt := 78) C (by decide +kernel) (by decide) ?_
    exact r_zret C (by decide +kernel) rfl (by first | decide | exact b2i_nar _) (by decide) (by decide) ⟨_, rfl, (by first | exact ⟨true, rfl, ⟨fun _ => hY, fun _ => rfl⟩, rfl⟩ | exact ⟨false, rfl, ⟨(fun e => nomatch e), fun ⟨a, ha, hab, hr⟩ => by
            rcases hab with ⟨e1, e2⟩ | ⟨e1, e2⟩ | e2 | e2
            · rw [show a = c - 1 by omega, n1 e1] at hr; exact hr
            · rw [e2, n2 e1] at hr; exact hr
            · rw [show a = c - 12 by omega, n3 (by omega)] at hr; exact hr
            · rw [e2, n4 (by omega)] at hr; exact hr⟩, rfl⟩)⟩
  have J55 : (c % 12 ≠ 0 → rb (c - 1) = false) → (c % 12 ≠ 11 → rb (c + 1) = false) → (12 ≤ c → rb (c - 12) = false) → wX G Γ (qM G Γ (PI (fun v h' => ∃ t : Bool, b2i t = v ∧ (t = true ↔ ∃ a, a < 120 ∧ adj c a ∧ rb a = true) ∧ h = h')) 0 0) 0 0 (h) 55 [some (rv m), some (.int (nI c)), some (.int (nI (c % 12)))] [] := by
    intro  n1 n2 n3
    refine r_iload_n (q := 56) (z := 1) C 1 rfl (by decide +kernel) rfl rfl ?_
    refine r_bipush (q := 58) (z := 108) (v := 108) C rfl (by decide +kernel) (by decide) ?_
    refine r_icmp_ge (q := 61) (off := 19) (tgt := 77) C rfl (by decide +kernel) (by decide) (fun c58 => ?_) (fun c58 => ?_)
    · have c58 : 108 ≤ c := (nI_leI (a := 108) (by omega) (by omega)).mp c58
      have n4 : c < 108 → rb (c + 12) = false := fun e => absurd e (by omega)
      refine r_iconst (q := 78) (z := 0) (v := 0) C rfl (by decide +kernel) (by decide) ?_
      exact r_zret C (by decide +kernel) rfl (by first | decide | exact b2i_nar _) (by decide) (by decide) ⟨_, rfl, (by first | exact ⟨true, rfl, ⟨fun _ => hY, fun _ => rfl⟩, rfl⟩ | exact ⟨false, rfl, ⟨(fun e => nomatch e), fun ⟨a, ha, hab, hr⟩ => by
              rcases hab with ⟨e1, e2⟩ | ⟨e1, e2⟩ | e2 | e2
              · rw [show a = c - 1 by omega, n1 e1] at hr; exact hr
              · rw [e2, n2 e1] at hr; exact hr
              · rw [show a = c - 12 by omega, n3 (by omega)] at hr; exact hr
              · rw [e2, n4 (by omega)] at hr; exact hr⟩, rfl⟩)⟩
    · have c58 : c < 108 := Nat.lt_of_not_le (fun e => c58 (nI_le (a := 108) e (by omega)))
      refine r_aload_n (q := 62) (z := 0) C 0 rfl (by decide +kernel) rfl rfl ?_
      refine r_getR (q := 65) C 7 39 487 rfl (by decide +kernel) rfl (by decide) rfl rfl wf_X7_124 win7 hm.1 ?_
      refine r_iload_n (q := 66) (z := 1) C 1 rfl (by decide +kernel) rfl rfl ?_
      refine r_bipush (q := 68) (z := 12) (v := 12) C rfl (by decide +kernel) (by decide) ?_
      refine r_iadd (q := 69) C rfl (by decide +kernel) ?_
      rw [show (12 : Int32) = nI 12 from rfl, nI_add]
      refine r_zald (q := 70) C rfl (by decide +kernel) hm.k487 (vp_in_nI (by omega) (by decide)) ?_
      rw [nI_clamp (by omega), hF _ (by omega)]
      refine r_if_eq (q := 73) (off := 7) (tgt := 77) C rfl (by decide +kernel) (by decide) (fun c70 => ?_) (fun c70 => ?_)
      · have n4 : c < 108 → rb (c + 12) = false := fun _ => (b2i_0 _).mp c70
        refine r_iconst (q := 78) (z := 0) (v := 0) C rfl (by decide +kernel) (by decide) ?_
        exact r_zret C (by decide +kernel) rfl (by first | decide | exact b2i_nar _) (by decide) (by decide) ⟨_, rfl, (by first | exact ⟨true, rfl, ⟨fun _ => hY, fun _ => rfl⟩, rfl⟩ | exact ⟨false, rfl, ⟨(fun e => nomatch e), fun ⟨a, ha, hab, hr⟩ => by
                rcases hab with ⟨e1, e2⟩ | ⟨e1, e2⟩ | e2 | e2
                · rw [show a = c - 1 by omega, n1 e1] at hr; exact hr
                · rw [e2, n2 e1] at hr; exact hr
                · rw [show a = c - 12 by omega, n3 (by omega)] at hr; exact hr
                · rw [e2, n4 (by omega)] at hr; exact hr⟩, rfl⟩)⟩
      · exact J73 ⟨c + 12, by omega, by unfold adj; omega, (b2i_n0 _).mp c70⟩
  have J37 : (c % 12 ≠ 0 → rb (c - 1) = false) → (c % 12 ≠ 11 → rb (c + 1) = false) → wX G Γ (qM G Γ (PI (fun v h' => ∃ t : Bool, b2i t = v ∧ (t = true ↔ ∃ a, a < 120 ∧ adj c a ∧ rb a = true) ∧ h = h')) 0 0) 0 0 (h) 37 [some (rv m), some (.int (nI c)), some (.int (nI (c % 12)))] [] := by
    intro  n1 n2
    refine r_iload_n (q := 38) (z := 1) C 1 rfl (by decide +kernel) rfl rfl ?_
    refine r_bipush (q := 40) (z := 12) (v := 12) C rfl (by decide +kernel) (by decide) ?_
    refine r_icmp_lt (q := 43) (off := 15) (tgt := 55) C rfl (by decide +kernel) (by decide) (fun c40 => ?_) (fun c40 => ?_)
    · have c40 : c < 12 := (nI_ltI (b := 12) (by omega) (by omega)).mp c40
      exact J55 n1 n2 (fun e => absurd e (by omega))
    · have c40 : 12 ≤ c := Nat.le_of_not_lt (fun e => c40 (nI_lt (b := 12) e (by omega)))
      refine r_aload_n (q := 44) (z := 0) C 0 rfl (by decide +kernel) rfl rfl ?_
      refine r_getR (q := 47) C 7 39 487 rfl (by decide +kernel) rfl (by decide) rfl rfl wf_X7_124 win7 hm.1 ?_
      refine r_iload_n (q := 48) (z := 1) C 1 rfl (by decide +kernel) rfl rfl ?_
      refine r_bipush (q := 50) (z := 12) (v := 12) C rfl (by decide +kernel) (by decide) ?_
      refine r_isub (q := 51) C rfl (by decide +kernel) ?_
      rw [show (12 : Int32) = nI 12 from rfl, pk_sub (by omega)]
      refine r_zald (q := 52) C rfl (by decide +kernel) hm.k487 (vp_in_nI (by omega) (by decide)) ?_
      rw [nI_clamp (by omega), hF _ (by omega)]
      refine r_if_ne (q := 55) (off := 21) (tgt := 73) C rfl (by decide +kernel) (by decide) (fun c52 => ?_) (fun c52 => ?_)
      · exact J73 ⟨c - 12, by omega, by unfold adj; omega, (b2i_n0 _).mp c52⟩
      · exact J55 n1 n2 (fun _ => (b2i_0 _).mp c52)
  have J20 : (c % 12 ≠ 0 → rb (c - 1) = false) → wX G Γ (qM G Γ (PI (fun v h' => ∃ t : Bool, b2i t = v ∧ (t = true ↔ ∃ a, a < 120 ∧ adj c a ∧ rb a = true) ∧ h = h')) 0 0) 0 0 (h) 20 [some (rv m), some (.int (nI c)), some (.int (nI (c % 12)))] [] := by
    intro  n1
    refine r_iload_n (q := 21) (z := 2) C 2 rfl (by decide +kernel) rfl rfl ?_
    refine r_bipush (q := 23) (z := 11) (v := 11) C rfl (by decide +kernel) (by decide) ?_
    refine r_icmp_ge (q := 26) (off := 14) (tgt := 37) C rfl (by decide +kernel) (by decide) (fun c23 => ?_) (fun c23 => ?_)
    · have c23 : c % 12 = 11 := by have := (nI_leI (a := 11) (by omega) (by omega)).mp c23; omega
      exact J37 n1 (fun e => absurd e (by omega))
    · have c23 : c % 12 < 11 := Nat.lt_of_not_le (fun e => c23 (nI_le (a := 11) e (by omega)))
      refine r_aload_n (q := 27) (z := 0) C 0 rfl (by decide +kernel) rfl rfl ?_
      refine r_getR (q := 30) C 7 39 487 rfl (by decide +kernel) rfl (by decide) rfl rfl wf_X7_124 win7 hm.1 ?_
      refine r_iload_n (q := 31) (z := 1) C 1 rfl (by decide +kernel) rfl rfl ?_
      refine r_iconst (q := 32) (z := 1) (v := 1) C rfl (by decide +kernel) (by decide) ?_
      refine r_iadd (q := 33) C rfl (by decide +kernel) ?_
      rw [nI_1]
      refine r_zald (q := 34) C rfl (by decide +kernel) hm.k487 (vp_in_nI (by omega) (by decide)) ?_
      rw [nI_clamp (by omega), hF _ (by omega)]
      refine r_if_ne (q := 37) (off := 39) (tgt := 73) C rfl (by decide +kernel) (by decide) (fun c34 => ?_) (fun c34 => ?_)
      · exact J73 ⟨c + 1, by omega, by unfold adj; omega, (b2i_n0 _).mp c34⟩
      · exact J37 n1 (fun _ => (b2i_0 _).mp c34)
  refine r_iload_n (q := 6) (z := 2) C 2 rfl (by decide +kernel) rfl rfl ?_
  refine r_if_le (q := 9) (off := 14) (tgt := 20) C rfl (by decide +kernel) (by decide) (fun c6 => ?_) (fun c6 => ?_)
  · have c6 : c % 12 = 0 := by have := (nI_leI (b := 0) (by omega) (by decide)).mp c6; omega
    exact J20 (fun e => absurd e (by omega))
  · have c6 : c % 12 ≠ 0 := fun e => c6 (by rw [e]; decide)
    refine r_aload_n (q := 10) (z := 0) C 0 rfl (by decide +kernel) rfl rfl ?_
    refine r_getR (q := 13) C 7 39 487 rfl (by decide +kernel) rfl (by decide) rfl rfl wf_X7_124 win7 hm.1 ?_
    refine r_iload_n (q := 14) (z := 1) C 1 rfl (by decide +kernel) rfl rfl ?_
    refine r_iconst (q := 15) (z := 1) (v := 1) C rfl (by decide +kernel) (by decide) ?_
    refine r_isub (q := 16) C rfl (by decide +kernel) ?_
    rw [m1x _ (by omega)]
    refine r_zald (q := 17) C rfl (by decide +kernel) hm.k487 (vp_in_nI (by omega) (by decide)) ?_
    rw [nI_clamp (by omega), hF _ (by omega)]
    refine r_if_ne (q := 20) (off := 56) (tgt := 73) C rfl (by decide +kernel) (by decide) (fun c17 => ?_) (fun c17 => ?_)
    · exact J73 ⟨c - 1, by omega, by unfold adj; omega, (b2i_n0 _).mp c17⟩
    · exact J20 (fun _ => (b2i_0 _).mp c17)
theorem c_X7_reaches {G : GT} {h : HP} {m : Nat} {σ : SG} {bar : Nat → Bool} (hm : LM h.kd h.gl h.fr m) (M : MR σ h m) (W : WF σ) (hb : Fl (h.ai (h.fr 486 m)) bar 120) : Con G 2 0 0 yX7_reaches cX7_reaches 3 none [rv m] h (PV (fun h' => ∃ (f : Nat → Int32) (rb : Nat → Bool), h.row (h.fr 487 m) f = h' ∧ Fl f rb 120 ∧ ∀ c, c < 120 → (rb c = true ↔ RS bar (12 * σ.gr) c))) := by
  refine Con.of (lv := [some (rv m), none, none]) (by decide) (by simp only [lvE_r, lvE_i, lvE_l, lvE_s, lvE_0]; rfl) (by simp only [lgl_r, lgl_i, lgl_l, lgl_s, lgl_0]; decide) (fun Γ C R => ?_)
  have g10 := W.gr10
  have hne : h.fr 486 m ≠ h.fr 487 m := gl_ne hm.g486 hm.g487 (by decide)
  have M2 : ∀ f, MR σ (h.row (h.fr 487 m) f) m := fun f => M.row hm (by rw [hm.g487]; decide)
  have L49 : ∀ (fuel49 : Nat) (f : Nat → Int32) (rb : Nat → Bool) (more : Bool), 2 * (120 - cnt rb 120) + (if more then 1 else 0) < fuel49 → (Fl f rb 120) → (∀ c, c < 120 → rb c = true → RS bar (12 * σ.gr) c) → (bar (12 * σ.gr) = false → rb (12 * σ.gr) = true) → (more = false → ∀ a b, a < 120 → b < 120 → rb a = true → adj a b → bar b = false → rb b = true) → wX G Γ (qM G Γ (PV (fun h' => ∃ (f : Nat → Int32) (rb : Nat → Bool), h.row (h.fr 487 m) f = h' ∧ Fl f rb 120 ∧ ∀ c, c < 120 → (rb c = true ↔ RS bar (12 * σ.gr) c))) 0 0) 0 0 (h.row (h.fr 487 m) f) 49 [some (rv m), some (.int (b2i more)), none] [] := by
    intro fuel49
    induction fuel49 with
    | zero =>
      intro f rb more hm49
      exact absurd hm49 (Nat.not_lt_zero _)
    | succ fuel49 ih49 =>
      intro f rb more hm49 hF hS hG hC
      refine r_iload_n (q := 50) (z := 1) C 1 rfl (by decide +kernel) rfl rfl ?_
      refine r_if_eq (q := 53) (off := 57) (tgt := 107) C rfl (by decide +kernel) (by decide) (fun c50 => ?_) (fun c50 => ?_)
      · have em : more = false := (b2i_0 _).mp c50
        exact r_ret C (by decide +kernel) rfl (by decide) (by decide) ⟨rfl, ⟨f, rb, rfl, hF, fun c hc => ⟨hS c hc, fun e => (e (fun c => c < 120 ∧ rb c = true) (fun e => ⟨by omega, hG e⟩) (fun a b ha hb2 hs hab he => ⟨hb2, hC em a b ha hb2 hs.2 hab he⟩)).2⟩⟩⟩
      · have em : more = true := (b2i_n0 _).mp c50
        subst em
        refine r_iconst (q := 54) (z := 0) (v := b2i false) C rfl (by decide +kernel) (by decide) ?_
        refine r_istore_n (q := 55) (z := 1) C 1 rfl (by decide +kernel) rfl (by decide) (by first | rfl | exact okst_rv rfl) ?_
        dsimp only [List.set]
        refine r_iconst (q := 56) (z := 0) (v := 0) C rfl (by decide +kernel) (by decide) ?_
        refine r_istore_n (q := 57) (z := 2) C 2 rfl (by decide +kernel) rfl (by decide) (by first | rfl | exact okst_rv rfl) ?_
        dsimp only [List.set]
        have L57 : ∀ (fuel57 : Nat) (i : Nat) (f1 : Nat → Int32) (rb1 : Nat → Bool) (more1 : Bool), 120 - i < fuel57 → (i ≤ 120) → (Fl f1 rb1 120) → (∀ c, c < 120 → rb1 c = true → RS bar (12 * σ.gr) c) → (bar (12 * σ.gr) = false → rb1 (12 * σ.gr) = true) → (cnt rb 120 ≤ cnt rb1 120) → (more1 = true → cnt rb 120 < cnt rb1 120) → (more1 = false → (∀ c, c < 120 → rb1 c = rb c) ∧ ∀ c, c < i → rb1 c = true ∨ bar c = true ∨ ∀ a, a < 120 → adj c a → rb1 a = false) → wX G Γ (qM G Γ (PV (fun h' => ∃ (f : Nat → Int32) (rb : Nat → Bool), h.row (h.fr 487 m) f = h' ∧ Fl f rb 120 ∧ ∀ c, c < 120 → (rb c = true ↔ RS bar (12 * σ.gr) c))) 0 0) 0 0 (h.row (h.fr 487 m) f1) 57 [some (rv m), some (.int (b2i more1)), some (.int (nI i))] [] := by
          intro fuel57
          induction fuel57 with
          | zero =>
            intro i f1 rb1 more1 hm57
            exact absurd hm57 (Nat.not_lt_zero _)
          | succ fuel57 ih57 =>
            intro i f1 rb1 more1 hm57 hi hF1 hS1 hG1 hL1 hM1 hN1
            refine r_iload_n (q := 58) (z := 2) C 2 rfl (by decide +kernel) rfl rfl ?_
            refine r_bipush (q := 60) (z := 120) (v := 120) C rfl (by decide +kernel) (by decide) ?_
            refine r_icmp_ge (q := 63) (off := 44) (tgt := 104) C rfl (by decide +kernel) (by decide) (fun c60 => ?_) (fun c60 => ?_)
            · have ez : i = 120 := by have := (nI_leI (a := 120) (by omega) (by omega)).mp c60; omega
              subst ez
              have hC1 : more1 = false → ∀ a b, a < 120 → b < 120 → rb1 a = true → adj a b → bar b = false → rb1 b = true := fun e a b ha hb2 hra hab hbb => by
                rcases (hN1 e).2 b hb2 with e1 | e1 | e1
                · exact e1
                · rw [hbb] at e1; cases e1
                · rw [e1 a ha (adj_symm hab)] at hra; cases hra
              refine r_goto (off := -55) (tgt := 49) C (by decide +kernel) (by decide) ?_
              exact wX.sub (lsub_s (lsub_s (lsub_n (lsub_nil)))) (ih49 _ rb1 more1 (by have := cnt_le rb1 120; have := cnt_le rb 120; cases more1 with | true => (have := hM1 rfl; simp at hm49 ⊢; omega) | false => (rw [cnt_congr 120 (hN1 rfl).1]; simp at hm49 ⊢; omega)) hF1 hS1 hG1 hC1)
            · have hlt : i < 120 := Nat.lt_of_not_le (fun e => c60 (nI_le (a := 120) e (by omega)))
              refine r_aload_n (q := 64) (z := 0) C 0 rfl (by decide +kernel) rfl rfl ?_
              refine r_getR (q := 67) C 7 39 487 rfl (by decide +kernel) rfl (by decide) rfl rfl wf_X7_124 win7 hm.1 ?_
              refine r_iload_n (q := 68) (z := 2) C 2 rfl (by decide +kernel) rfl rfl ?_
              refine r_zald (q := 69) C rfl (by decide +kernel) hm.k487 (vp_in_nI hlt (by decide)) ?_
              try simp only [fr_row]
              rw [nI_clamp (by omega), ai_row_eq, hF1 _ hlt]
              refine r_if_ne (q := 72) (off := 29) (tgt := 98) C rfl (by decide +kernel) (by decide) (fun c69 => ?_) (fun c69 => ?_)
              · have hF2 := hF1
                have hS2 := hS1
                have hG2 := hG1
                have hL2 := hL1
                have hM2 := hM1
                have hN2 : more1 = false → (∀ c, c < 120 → rb1 c = rb c) ∧ ∀ c, c < i + 1 → rb1 c = true ∨ bar c = true ∨ ∀ a, a < 120 → adj c a → rb1 a = false := fun e => ⟨(hN1 e).1, fun c hc => by
                  by_cases ec : c = i
                  · subst ec; exact Or.inl ((b2i_n0 _).mp c69)
                  · exact (hN1 e).2 c (by omega)⟩
                refine r_iinc (q := 101) (z := 1) (v := 1) C 2 rfl (by decide +kernel) rfl (by decide) (by decide) (by first | rfl | exact okst_rv rfl) ?_
                dsimp only [List.set]
                rw [nI_1]
                refine r_goto (off := -44) (tgt := 57) C (by decide +kernel) (by decide) ?_
                exact ih57 (i + 1) _ _ _ (by omega) (by omega) hF2 hS2 hG2 hL2 hM2 hN2
              · refine r_aload_n (q := 73) (z := 0) C 0 rfl (by decide +kernel) rfl rfl ?_
                refine r_getR (q := 76) C 7 38 486 rfl (by decide +kernel) rfl (by decide) rfl rfl wf_X7_121 win7 hm.1 ?_
                refine r_iload_n (q := 77) (z := 2) C 2 rfl (by decide +kernel) rfl rfl ?_
                refine r_zald (q := 78) C rfl (by decide +kernel) hm.k486 (vp_in_nI hlt (by decide)) ?_
                try simp only [fr_row]
                rw [nI_clamp (by omega), ai_row_ne hne, hb _ hlt]
                refine r_if_ne (q := 81) (off := 20) (tgt := 98) C rfl (by decide +kernel) (by decide) (fun c78 => ?_) (fun c78 => ?_)
                · have hF2 := hF1
                  have hS2 := hS1
                  have hG2 := hG1
                  have hL2 := hL1
                  have hM2 := hM1
                  have hN2 : more1 = false → (∀ c, c < 120 → rb1 c = rb c) ∧ ∀ c, c < i + 1 → rb1 c = true ∨ bar c = true ∨ ∀ a, a < 120 → adj c a → rb1 a = false := fun e => ⟨(hN1 e).1, fun c hc => by
                    by_cases ec : c = i
                    · subst ec; exact Or.inr (Or.inl ((b2i_n0 _).mp c78))
                    · exact (hN1 e).2 c (by omega)⟩
                  refine r_iinc (q := 101) (z := 1) (v := 1) C 2 rfl (by decide +kernel) rfl (by decide) (by decide) (by first | rfl | exact okst_rv rfl) ?_
                  dsimp only [List.set]
                  rw [nI_1]
                  refine r_goto (off := -44) (tgt := 57) C (by decide +kernel) (by decide) ?_
                  exact ih57 (i + 1) _ _ _ (by omega) (by omega) hF2 hS2 hG2 hL2 hM2 hN2
                · refine r_aload_n (q := 82) (z := 0) C 0 rfl (by decide +kernel) rfl rfl ?_
                  refine r_iload_n (q := 83) (z := 2) C 2 rfl (by decide +kernel) rfl rfl ?_
                  refine cV1I (q := 86) C R rfl (by decide +kernel) lk_X7_283 (c_X7_isBeside (rb := rb1) hm (by show Fl ((h.row _ f1).ai (h.fr 487 m)) rb1 120; rw [ai_row_eq]; exact hF1) hlt) (by decide) (by decide) (by decide) rfl (by first | exact Nat.le_of_ble_eq_true rfl | (simp only [List.map_cons, List.map_nil, List.sum_cons, List.sum_nil, rv_cat]; exact Nat.le_of_ble_eq_true rfl)) rfl hm.1 ?_
                  rintro _ _ ⟨t83, rfl, ht83, rfl⟩
                  refine r_if_eq (q := 89) (off := 12) (tgt := 98) C rfl (by decide +kernel) (by decide) (fun c86 => ?_) (fun c86 => ?_)
                  · have hF2 := hF1
                    have hS2 := hS1
                    have hG2 := hG1
                    have hL2 := hL1
                    have hM2 := hM1
                    have hN2 : more1 = false → (∀ c, c < 120 → rb1 c = rb c) ∧ ∀ c, c < i + 1 → rb1 c = true ∨ bar c = true ∨ ∀ a, a < 120 → adj c a → rb1 a = false := fun e => ⟨(hN1 e).1, fun c hc => by
                      by_cases ec : c = i
                      · subst ec; exact Or.inr (Or.inr (fun a ha hab => by cases er : rb1 a with | false => rfl | true => (have := ht83.mpr ⟨a, ha, hab, er⟩; rw [(b2i_0 _).mp c86] at this; cases this)))
                      · exact (hN1 e).2 c (by omega)⟩
                    refine r_iinc (q := 101) (z := 1) (v := 1) C 2 rfl (by decide +kernel) rfl (by decide) (by decide) (by first | rfl | exact okst_rv rfl) ?_
                    dsimp only [List.set]
                    rw [nI_1]
                    refine r_goto (off := -44) (tgt := 57) C (by decide +kernel) (by decide) ?_
                    exact ih57 (i + 1) _ _ _ (by omega) (by omega) hF2 hS2 hG2 hL2 hM2 hN2
                  · obtain ⟨a0, ha0, hab0, hra0⟩ := ht83.mp ((b2i_n0 _).mp c86)
                    have hi0 : rb1 i = false := (b2i_0 _).mp c69
                    have hbi : bar i = false := (b2i_0 _).mp c78
                    have hF2 := hF1.upd (c := i)
                    have hS2 : ∀ c, c < 120 → (rb1 c || decide (c = i)) = true → RS bar (12 * σ.gr) c := fun c hc e => by
                      by_cases ec : c = i
                      · subst ec; exact (hS1 a0 ha0 hra0).step ha0 hc (adj_symm hab0) hbi
                      · simp [ec] at e; exact hS1 c hc e
                    have hG2 : bar (12 * σ.gr) = false → (rb1 (12 * σ.gr) || decide (12 * σ.gr = i)) = true := fun e => by rw [hG1 e]; rfl
                    have hcn := cnt_add hi0 120
                    rw [if_pos hlt] at hcn
                    have hL2 : cnt rb 120 ≤ cnt (fun k => rb1 k || decide (k = i)) 120 := by omega
                    have hM2 : true = true → cnt rb 120 < cnt (fun k => rb1 k || decide (k = i)) 120 := fun _ => by omega
                    have hN2 : true = false → (∀ c, c < 120 → (rb1 c || decide (c = i)) = rb c) ∧ ∀ c, c < i + 1 → (rb1 c || decide (c = i)) = true ∨ bar c = true ∨ ∀ a, a < 120 → adj c a → (rb1 a || decide (a = i)) = false := fun e => nomatch e
                    refine r_aload_n (q := 90) (z := 0) C 0 rfl (by decide +kernel) rfl rfl ?_
                    refine r_getR (q := 93) C 7 39 487 rfl (by decide +kernel) rfl (by decide) rfl rfl wf_X7_124 win7 hm.1 ?_
                    refine r_iload_n (q := 94) (z := 2) C 2 rfl (by decide +kernel) rfl rfl ?_
                    refine r_iconst (q := 95) (z := 1) (v := 1) C rfl (by decide +kernel) (by decide) ?_
                    refine r_zast (q := 96) C rfl (by decide +kernel) (show vp_nar .boolean 1 = 1 by decide) hm.k487 (vp_in_nI hlt (by decide)) ?_
                    try simp only [fr_row]
                    rw [row_stI, nI_clamp (by omega)]
                    refine r_iconst (q := 97) (z := 1) (v := b2i true) C rfl (by decide +kernel) (by decide) ?_
                    refine r_istore_n (q := 98) (z := 1) C 1 rfl (by decide +kernel) rfl (by decide) (by first | rfl | exact okst_rv rfl) ?_
                    dsimp only [List.set]
                    refine r_iinc (q := 101) (z := 1) (v := 1) C 2 rfl (by decide +kernel) rfl (by decide) (by decide) (by first | rfl | exact okst_rv rfl) ?_
                    dsimp only [List.set]
                    rw [nI_1]
                    refine r_goto (off := -44) (tgt := 57) C (by decide +kernel) (by decide) ?_
                    exact ih57 (i + 1) _ _ _ (by omega) (by omega) hF2 hS2 hG2 hL2 hM2 hN2
        exact L57 121 0 f rb false (by omega) (by omega) hF hS hG (Nat.le_refl _) (fun e => nomatch e) (fun _ => ⟨fun _ _ => rfl, fun c hc => absurd hc (Nat.not_lt_zero c)⟩)
  refine r_iconst (q := 1) (z := 0) (v := 0) C rfl (by decide +kernel) (by decide) ?_
  refine r_istore_n (q := 2) (z := 1) C 1 rfl (by decide +kernel) rfl (by decide) (by first | rfl | exact okst_rv rfl) ?_
  dsimp only [List.set]
  have L2 : ∀ (fuel2 : Nat) (i : Nat), 120 - i < fuel2 → (i ≤ 120) → wX G Γ (qM G Γ (PV (fun h' => ∃ (f : Nat → Int32) (rb : Nat → Bool), h.row (h.fr 487 m) f = h' ∧ Fl f rb 120 ∧ ∀ c, c < 120 → (rb c = true ↔ RS bar (12 * σ.gr) c))) 0 0) 0 0 (h.row (h.fr 487 m) (mix (fun _ => 0) (h.ai (h.fr 487 m)) i)) 2 [some (rv m), some (.int (nI i)), none] [] := by
    intro fuel2
    induction fuel2 with
    | zero =>
      intro i hm2
      exact absurd hm2 (Nat.not_lt_zero _)
    | succ fuel2 ih2 =>
      intro i hm2 hi
      refine r_iload_n (q := 3) (z := 1) C 1 rfl (by decide +kernel) rfl rfl ?_
      refine r_bipush (q := 5) (z := 120) (v := 120) C rfl (by decide +kernel) (by decide) ?_
      refine r_icmp_ge (q := 8) (off := 16) (tgt := 21) C rfl (by decide +kernel) (by decide) (fun c5 => ?_) (fun c5 => ?_)
      · have ez : i = 120 := by have := (nI_leI (a := 120) (by omega) (by omega)).mp c5; omega
        subst ez
        refine r_aload_n (q := 22) (z := 0) C 0 rfl (by decide +kernel) rfl rfl ?_
        refine r_getR (q := 25) C 7 39 487 rfl (by decide +kernel) rfl (by decide) rfl rfl wf_X7_124 win7 hm.1 ?_
        refine r_aload_n (q := 26) (z := 0) C 0 rfl (by decide +kernel) rfl rfl ?_
        refine cV0I (q := 29) C R rfl (by decide +kernel) lk_X7_280 (c_X7_gateCell hm (M2 _) W) (by decide) (by decide) (by decide) rfl (by first | exact Nat.le_of_ble_eq_true rfl | (simp only [List.map_cons, List.map_nil, List.sum_cons, List.sum_nil, rv_cat]; exact Nat.le_of_ble_eq_true rfl)) rfl hm.1 ?_
        rintro _ _ ⟨rfl, rfl⟩
        refine r_aload_n (q := 30) (z := 0) C 0 rfl (by decide +kernel) rfl rfl ?_
        refine r_getR (q := 33) C 7 38 486 rfl (by decide +kernel) rfl (by decide) rfl rfl wf_X7_121 win7 hm.1 ?_
        refine r_aload_n (q := 34) (z := 0) C 0 rfl (by decide +kernel) rfl rfl ?_
        refine cV0I (q := 37) C R rfl (by decide +kernel) lk_X7_280 (c_X7_gateCell hm (M2 _) W) (by decide) (by decide) (by decide) rfl (by first | exact Nat.le_of_ble_eq_true rfl | (simp only [List.map_cons, List.map_nil, List.sum_cons, List.sum_nil, rv_cat]; exact Nat.le_of_ble_eq_true rfl)) rfl hm.1 ?_
        rintro _ _ ⟨rfl, rfl⟩
        refine r_zald (q := 38) C rfl (by decide +kernel) hm.k486 (vp_in_nI (by omega) (by decide)) ?_
        try simp only [fr_row]
        rw [nI_clamp (by omega), ai_row_ne hne, hb _ (by omega)]
        refine r_if_ne (q := 41) (off := 7) (tgt := 45) C rfl (by decide +kernel) (by decide) (fun c38 => ?_) (fun c38 => ?_)
        · have cb : bar (12 * σ.gr) = true := (b2i_n0 _).mp c38
          refine r_iconst (q := 46) (z := 0) (v := b2i (!bar (12 * σ.gr))) C rfl (by decide +kernel) (by rw [cb]; decide) ?_
          refine r_zast (q := 47) C rfl (by decide +kernel) (by first | exact b2i_vn _ | rfl) hm.k487 (vp_in_nI (by omega) (by decide)) ?_
          try simp only [fr_row]
          rw [row_stI, nI_clamp (by omega)]
          obtain ⟨rbS, hFS, hSS, hGS⟩ : ∃ rbS : Nat → Bool, Fl (upd (mix (fun _ => 0) (h.ai (h.fr 487 m)) 120) (12 * σ.gr) (b2i (!bar (12 * σ.gr)))) rbS 120 ∧ (∀ c, c < 120 → rbS c = true → RS bar (12 * σ.gr) c) ∧ (bar (12 * σ.gr) = false → rbS (12 * σ.gr) = true) := by
            refine ⟨fun c => decide (c = 12 * σ.gr) && !bar (12 * σ.gr), fun c hc => ?_, fun c hc e => ?_, fun e => by simp [e]⟩
            · show (if c = 12 * σ.gr then _ else mix (fun _ => 0) (h.ai (h.fr 487 m)) 120 c) = _
              rw [mix_in hc]
              by_cases e : c = 12 * σ.gr
              · simp [e]
              · simp [e, b2i]
            · simp only [Bool.and_eq_true, decide_eq_true_eq, Bool.not_eq_true'] at e
              rw [e.1]; exact RS.gate e.2
          refine r_iconst (q := 48) (z := 1) (v := b2i true) C rfl (by decide +kernel) (by decide) ?_
          refine r_istore_n (q := 49) (z := 1) C 1 rfl (by decide +kernel) rfl (by decide) (by first | rfl | exact okst_rv rfl) ?_
          dsimp only [List.set]
          exact wX.sub (lsub_s (lsub_s (lsub_n (lsub_nil)))) (L49 (2 * (120 - cnt rbS 120) + 1 + 1) _ rbS true (by simp) hFS hSS hGS (fun e => nomatch e))
        · have cb : bar (12 * σ.gr) = false := (b2i_0 _).mp c38
          refine r_iconst (q := 42) (z := 1) (v := b2i (!bar (12 * σ.gr))) C rfl (by decide +kernel) (by rw [cb]; decide) ?_
          refine r_goto (off := 4) (tgt := 46) C (by decide +kernel) (by decide) ?_
          refine r_zast (q := 47) C rfl (by decide +kernel) (by first | exact b2i_vn _ | rfl) hm.k487 (vp_in_nI (by omega) (by decide)) ?_
          try simp only [fr_row]
          rw [row_stI, nI_clamp (by omega)]
          obtain ⟨rbS, hFS, hSS, hGS⟩ : ∃ rbS : Nat → Bool, Fl (upd (mix (fun _ => 0) (h.ai (h.fr 487 m)) 120) (12 * σ.gr) (b2i (!bar (12 * σ.gr)))) rbS 120 ∧ (∀ c, c < 120 → rbS c = true → RS bar (12 * σ.gr) c) ∧ (bar (12 * σ.gr) = false → rbS (12 * σ.gr) = true) := by
            refine ⟨fun c => decide (c = 12 * σ.gr) && !bar (12 * σ.gr), fun c hc => ?_, fun c hc e => ?_, fun e => by simp [e]⟩
            · show (if c = 12 * σ.gr then _ else mix (fun _ => 0) (h.ai (h.fr 487 m)) 120 c) = _
              rw [mix_in hc]
              by_cases e : c = 12 * σ.gr
              · simp [e]
              · simp [e, b2i]
            · simp only [Bool.and_eq_true, decide_eq_true_eq, Bool.not_eq_true'] at e
              rw [e.1]; exact RS.gate e.2
          refine r_iconst (q := 48) (z := 1) (v := b2i true) C rfl (by decide +kernel) (by decide) ?_
          refine r_istore_n (q := 49) (z := 1) C 1 rfl (by decide +kernel) rfl (by decide) (by first | rfl | exact okst_rv rfl) ?_
          dsimp only [List.set]
          exact wX.sub (lsub_s (lsub_s (lsub_n (lsub_nil)))) (L49 (2 * (120 - cnt rbS 120) + 1 + 1) _ rbS true (by simp) hFS hSS hGS (fun e => nomatch e))
      · have hlt : i < 120 := Nat.lt_of_not_le (fun e => c5 (nI_le (a := 120) e (by omega)))
        refine r_aload_n (q := 9) (z := 0) C 0 rfl (by decide +kernel) rfl rfl ?_
        refine r_getR (q := 12) C 7 39 487 rfl (by decide +kernel) rfl (by decide) rfl rfl wf_X7_124 win7 hm.1 ?_
        refine r_iload_n (q := 13) (z := 1) C 1 rfl (by decide +kernel) rfl rfl ?_
        refine r_iconst (q := 14) (z := 0) (v := 0) C rfl (by decide +kernel) (by decide) ?_
        refine r_zast (q := 15) C rfl (by decide +kernel) (show vp_nar .boolean 0 = 0 by decide) hm.k487 (vp_in_nI hlt (by decide)) ?_
        try simp only [fr_row]
        rw [row_stI, nI_clamp (by omega), mix_s (fun _ => 0)]
        refine r_iinc (q := 18) (z := 1) (v := 1) C 1 rfl (by decide +kernel) rfl (by decide) (by decide) (by first | rfl | exact okst_rv rfl) ?_
        dsimp only [List.set]
        rw [nI_1]
        refine r_goto (off := -16) (tgt := 2) C (by decide +kernel) (by decide) ?_
        exact wX.sub (lsub_s (lsub_s (lsub_n (lsub_nil)))) (ih2 (i + 1) (by omega) (by omega))
  have z0 := L2 121 0 (by omega) (by omega)
  rw [mix_0, row_self] at z0
  exact z0
theorem c_X7_barsAll {G : GT} {h : HP} {m : Nat} {σ : SG}  (hm : LM h.kd h.gl h.fr m) (M : MR σ h m) (W : WF σ) : Con G 6 0 0 yX7_barsAll cX7_barsAll 2 none [rv m] h (PV (fun h' => h.row (h.fr 486 m) (mix (fun c => b2i (!σ.fre c)) (h.ai (h.fr 486 m)) 120) = h')) := by
  refine Con.of (lv := [some (rv m), none]) (by decide) (by simp only [lvE_r, lvE_i, lvE_l, lvE_s, lvE_0]; rfl) (by simp only [lgl_r, lgl_i, lgl_l, lgl_s, lgl_0]; decide) (fun Γ C R => ?_)
  refine r_iconst (q := 1) (z := 0) (v := 0) C rfl (by decide +kernel) (by decide) ?_
  refine r_istore_n (q := 2) (z := 1) C 1 rfl (by decide +kernel) rfl (by decide) (by first | rfl | exact okst_rv rfl) ?_
  dsimp only [List.set]
  have L2 : ∀ (fuel2 : Nat) (i : Nat), 120 - i < fuel2 → (i ≤ 120) → wX G Γ (qM G Γ (PV (fun h' => h.row (h.fr 486 m) (mix (fun c => b2i (!σ.fre c)) (h.ai (h.fr 486 m)) 120) = h')) 0 0) 0 0 (h.row (h.fr 486 m) (mix (fun c => b2i (!σ.fre c)) (h.ai (h.fr 486 m)) i)) 2 [some (rv m), some (.int (nI i))] [] := by
    intro fuel2
    induction fuel2 with
    | zero =>
      intro i hm2
      exact absurd hm2 (Nat.not_lt_zero _)
    | succ fuel2 ih2 =>
      intro i hm2 hi
      refine r_iload_n (q := 3) (z := 1) C 1 rfl (by decide +kernel) rfl rfl ?_
      refine r_bipush (q := 5) (z := 120) (v := 120) C rfl (by decide +kernel) (by decide) ?_
      refine r_icmp_ge (q := 8) (off := 28) (tgt := 33) C rfl (by decide +kernel) (by decide) (fun c5 => ?_) (fun c5 => ?_)
      · have ez : i = 120 := by have := (nI_leI (a := 120) (by omega) (by omega)).mp c5; omega
        subst ez
        exact r_ret C (by decide +kernel) rfl (by decide) (by decide) ⟨rfl, rfl⟩
      · have hlt : i < 120 := Nat.lt_of_not_le (fun e => c5 (nI_le (a := 120) e (by omega)))
        refine r_aload_n (q := 9) (z := 0) C 0 rfl (by decide +kernel) rfl rfl ?_
        refine r_getR (q := 12) C 7 38 486 rfl (by decide +kernel) rfl (by decide) rfl rfl wf_X7_121 win7 hm.1 ?_
        refine r_iload_n (q := 13) (z := 1) C 1 rfl (by decide +kernel) rfl rfl ?_
        refine r_aload_n (q := 14) (z := 0) C 0 rfl (by decide +kernel) rfl rfl ?_
        refine r_iload_n (q := 15) (z := 1) C 1 rfl (by decide +kernel) rfl rfl ?_
        refine cV1I (q := 18) C R rfl (by decide +kernel) lk_X7_286 (c_X7_isFree hm (M.row hm (by rw [hm.g486]; decide)) W hlt) (by decide) (by decide) (by decide) rfl (by first | exact Nat.le_of_ble_eq_true rfl | (simp only [List.map_cons, List.map_nil, List.sum_cons, List.sum_nil, rv_cat]; exact Nat.le_of_ble_eq_true rfl)) rfl hm.1 ?_
        rintro _ _ ⟨rfl, rfl⟩
        refine r_if_ne (q := 21) (off := 7) (tgt := 25) C rfl (by decide +kernel) (by decide) (fun c18 => ?_) (fun c18 => ?_)
        · have e18 : (0 : Int32) = (fun c => b2i (!σ.fre c)) i := by simp [(b2i_n0 _).mp c18, b2i]
          refine r_iconst (q := 26) (z := 0) (v := 0) C rfl (by decide +kernel) (by decide) ?_
          refine r_zast (q := 27) C rfl (by decide +kernel) (by first | exact (show vp_nar .boolean 0 = 0 by decide) | exact (show vp_nar .boolean 1 = 1 by decide)) hm.k486 (vp_in_nI hlt (by decide)) ?_
          try simp only [fr_row]
          rw [row_stI, nI_clamp (by omega), e18, mix_s (fun c => b2i (!σ.fre c))]
          refine r_iinc (q := 30) (z := 1) (v := 1) C 1 rfl (by decide +kernel) rfl (by decide) (by decide) (by first | rfl | exact okst_rv rfl) ?_
          dsimp only [List.set]
          rw [nI_1]
          refine r_goto (off := -28) (tgt := 2) C (by decide +kernel) (by decide) ?_
          exact ih2 (i + 1) (by omega) (by omega)
        · have e18 : (1 : Int32) = (fun c => b2i (!σ.fre c)) i := by simp [(b2i_0 _).mp c18, b2i]
          refine r_iconst (q := 22) (z := 1) (v := 1) C rfl (by decide +kernel) (by decide) ?_
          refine r_goto (off := 4) (tgt := 26) C (by decide +kernel) (by decide) ?_
          refine r_zast (q := 27) C rfl (by decide +kernel) (by first | exact (show vp_nar .boolean 0 = 0 by decide) | exact (show vp_nar .boolean 1 = 1 by decide)) hm.k486 (vp_in_nI hlt (by decide)) ?_
          try simp only [fr_row]
          rw [row_stI, nI_clamp (by omega), e18, mix_s (fun c => b2i (!σ.fre c))]
          refine r_iinc (q := 30) (z := 1) (v := 1) C 1 rfl (by decide +kernel) rfl (by decide) (by decide) (by first | rfl | exact okst_rv rfl) ?_
          dsimp only [List.set]
          rw [nI_1]
          refine r_goto (off := -28) (tgt := 2) C (by decide +kernel) (by decide) ?_
          exact ih2 (i + 1) (by omega) (by omega)
  have z0 := L2 121 0 (by omega) (by omega)
  rw [mix_0, row_self] at z0
  exact z0
theorem c_X7_areDoorsJoined {G : GT} {h : HP} {m : Nat} {σ : SG} {bar : Nat → Bool} (hm : LM h.kd h.gl h.fr m) (M : MR σ h m) (W : WF σ) (hb : Fl (h.ai (h.fr 486 m)) bar 120) : Con G 4 0 0 yX7_areDoorsJoined cX7_areDoorsJoined 3 (some .boolean) [rv m] h (PI (fun v h' => ∃ (f : Nat → Int32) (rb : Nat → Bool) (t : Bool), b2i t = v ∧ h.row (h.fr 487 m) f = h' ∧ Fl f rb 120 ∧ (∀ c, c < 120 → (rb c = true ↔ RS bar (12 * σ.gr) c)) ∧ (t = true ↔ ∀ q, q < σ.n → σ.li q < 240 → rb (σ.dr q) = true))) := by
  refine Con.of (lv := [some (rv m), none, none]) (by decide) (by simp only [lvE_r, lvE_i, lvE_l, lvE_s, lvE_0]; rfl) (by simp only [lgl_r, lgl_i, lgl_l, lgl_s, lgl_0]; decide) (fun Γ C R => ?_)
  have r10 := W.n10
  have M2 : ∀ f, MR σ (h.row (h.fr 487 m) f) m := fun f => M.row hm (by rw [hm.g487]; decide)
  refine r_aload_n (q := 1) (z := 0) C 0 rfl (by decide +kernel) rfl rfl ?_
  refine cV0V (q := 4) C R rfl (by decide +kernel) lk_X7_289 (c_X7_reaches (bar := bar) hm M W hb) (by decide) (by decide) (by decide) rfl (by first | exact Nat.le_of_ble_eq_true rfl | (simp only [List.map_cons, List.map_nil, List.sum_cons, List.sum_nil, rv_cat]; exact Nat.le_of_ble_eq_true rfl)) rfl hm.1 ?_
  rintro _ ⟨f1, rb1, rfl, hF1, hR1⟩
  refine r_iconst (q := 5) (z := 1) (v := b2i true) C rfl (by decide +kernel) (by decide) ?_
  refine r_istore_n (q := 6) (z := 1) C 1 rfl (by decide +kernel) rfl (by decide) (by first | rfl | exact okst_rv rfl) ?_
  dsimp only [List.set]
  refine r_iconst (q := 7) (z := 0) (v := 0) C rfl (by decide +kernel) (by decide) ?_
  refine r_istore_n (q := 8) (z := 2) C 2 rfl (by decide +kernel) rfl (by decide) (by first | rfl | exact okst_rv rfl) ?_
  dsimp only [List.set]
  have L8 : ∀ (fuel8 : Nat) (k : Nat) (t : Bool), σ.n - k < fuel8 → (k ≤ σ.n) → (t = true ↔ ∀ q, q < k → σ.li q < 240 → rb1 (σ.dr q) = true) → wX G Γ (qM G Γ (PI (fun v h' => ∃ (f : Nat → Int32) (rb : Nat → Bool) (t : Bool), b2i t = v ∧ h.row (h.fr 487 m) f = h' ∧ Fl f rb 120 ∧ (∀ c, c < 120 → (rb c = true ↔ RS bar (12 * σ.gr) c)) ∧ (t = true ↔ ∀ q, q < σ.n → σ.li q < 240 → rb (σ.dr q) = true))) 0 0) 0 0 (h.row (h.fr 487 m) f1) 8 [some (rv m), some (.int (b2i t)), some (.int (nI k))] [] := by
    intro fuel8
    induction fuel8 with
    | zero =>
      intro k t hm8
      exact absurd hm8 (Nat.not_lt_zero _)
    | succ fuel8 ih8 =>
      intro k t hm8 hk ht
      refine r_iload_n (q := 9) (z := 2) C 2 rfl (by decide +kernel) rfl rfl ?_
      refine r_aload_n (q := 10) (z := 0) C 0 rfl (by decide +kernel) rfl rfl ?_
      refine r_getI (q := 13) C 7 24 472 rfl (by decide +kernel) rfl (by decide) rfl rfl wf_X7_243 win7 hm.1 ?_
      rw [(M2 _).fn]
      refine r_icmp_ge (q := 16) (off := 41) (tgt := 54) C rfl (by decide +kernel) (by decide) (fun c13 => ?_) (fun c13 => ?_)
      · have ek : k = σ.n := by have := (nI_leI (by omega) (by omega)).mp c13; omega
        subst ek
        refine r_iload_n (q := 55) (z := 1) C 1 rfl (by decide +kernel) rfl rfl ?_
        exact r_zret C (by decide +kernel) rfl (by first | decide | exact b2i_nar _) (by decide) (by decide) ⟨_, rfl, ⟨f1, rb1, t, rfl, rfl, hF1, hR1, ht⟩⟩
      · have hlt : k < σ.n := Nat.lt_of_not_le (fun e => c13 (nI_le e (by omega)))
        refine r_iload_n (q := 17) (z := 1) C 1 rfl (by decide +kernel) rfl rfl ?_
        refine r_if_eq (q := 20) (off := 29) (tgt := 46) C rfl (by decide +kernel) (by decide) (fun c17 => ?_) (fun c17 => ?_)
        · have ht2 : false = true ↔ ∀ q, q < k + 1 → σ.li q < 240 → rb1 (σ.dr q) = true := ⟨(fun e => nomatch e), fun e => by rw [(b2i_0 _).mp c17] at ht; exact absurd (ht.mpr fun q hq => e q (by omega)) (by decide)⟩
          refine r_iconst (q := 47) (z := 0) (v := b2i false) C rfl (by decide +kernel) (by decide) ?_
          refine r_istore_n (q := 48) (z := 1) C 1 rfl (by decide +kernel) rfl (by decide) (by first | rfl | exact okst_rv rfl) ?_
          dsimp only [List.set]
          refine r_iinc (q := 51) (z := 1) (v := 1) C 2 rfl (by decide +kernel) rfl (by decide) (by decide) (by first | rfl | exact okst_rv rfl) ?_
          dsimp only [List.set]
          rw [nI_1]
          refine r_goto (off := -43) (tgt := 8) C (by decide +kernel) (by decide) ?_
          exact ih8 (k + 1) _ (by omega) (by omega) ht2
        · refine r_aload_n (q := 21) (z := 0) C 0 rfl (by decide +kernel) rfl rfl ?_
          refine r_getR (q := 24) C 7 30 478 rfl (by decide +kernel) rfl (by decide) rfl rfl wf_X7_103 win7 hm.1 ?_
          refine r_iload_n (q := 25) (z := 2) C 2 rfl (by decide +kernel) rfl rfl ?_
          refine r_iald (q := 26) C rfl (by decide +kernel) hm.k478 (vp_in_nI (by omega) (by decide)) ?_
          rw [nI_clamp (by omega), (M2 _).ali (by omega)]
          refine r_if_lt (q := 29) (off := 16) (tgt := 42) C rfl (by decide +kernel) (by decide) (fun c26 => ?_) (fun c26 => ?_)
          · rw [(b2i_n0 _).mp c17] at ht
            have ht2 : true = true ↔ ∀ q, q < k + 1 → σ.li q < 240 → rb1 (σ.dr q) = true := ⟨fun _ q hq hl => by
              by_cases e : q = k
              · subst e; exact absurd hl (pl_neg.mp c26)
              · exact ht.mp rfl q (by omega) hl, fun _ => rfl⟩
            refine r_iconst (q := 43) (z := 1) (v := b2i true) C rfl (by decide +kernel) (by decide) ?_
            refine r_goto (off := 4) (tgt := 47) C (by decide +kernel) (by decide) ?_
            refine r_istore_n (q := 48) (z := 1) C 1 rfl (by decide +kernel) rfl (by decide) (by first | rfl | exact okst_rv rfl) ?_
            dsimp only [List.set]
            refine r_iinc (q := 51) (z := 1) (v := 1) C 2 rfl (by decide +kernel) rfl (by decide) (by decide) (by first | rfl | exact okst_rv rfl) ?_
            dsimp only [List.set]
            rw [nI_1]
            refine r_goto (off := -43) (tgt := 8) C (by decide +kernel) (by decide) ?_
            exact ih8 (k + 1) _ (by omega) (by omega) ht2
          · refine r_aload_n (q := 30) (z := 0) C 0 rfl (by decide +kernel) rfl rfl ?_
            refine r_getR (q := 33) C 7 39 487 rfl (by decide +kernel) rfl (by decide) rfl rfl wf_X7_124 win7 hm.1 ?_
            refine r_aload_n (q := 34) (z := 0) C 0 rfl (by decide +kernel) rfl rfl ?_
            refine r_iload_n (q := 35) (z := 2) C 2 rfl (by decide +kernel) rfl rfl ?_
            refine cV1I (q := 38) C R rfl (by decide +kernel) lk_X7_292 (c_X7_door hm (M2 _) W hlt) (by decide) (by decide) (by decide) rfl (by first | exact Nat.le_of_ble_eq_true rfl | (simp only [List.map_cons, List.map_nil, List.sum_cons, List.sum_nil, rv_cat]; exact Nat.le_of_ble_eq_true rfl)) rfl hm.1 ?_
            rintro _ _ ⟨rfl, rfl⟩
            rw [if_pos (pl_nn.mp c26)]
            refine r_zald (q := 39) C rfl (by decide +kernel) hm.k487 (vp_in_nI (W.dr hlt (pl_nn.mp c26)) (by decide)) ?_
            try simp only [fr_row]
            rw [nI_clamp (by have := W.dr hlt (pl_nn.mp c26); omega), ai_row_eq, hF1 _ (W.dr hlt (pl_nn.mp c26))]
            refine r_if_eq (q := 42) (off := 7) (tgt := 46) C rfl (by decide +kernel) (by decide) (fun c39 => ?_) (fun c39 => ?_)
            · have ht2 : false = true ↔ ∀ q, q < k + 1 → σ.li q < 240 → rb1 (σ.dr q) = true := ⟨(fun e => nomatch e), fun e => by have := e k (by omega) (pl_nn.mp c26); rw [(b2i_0 _).mp c39] at this; exact this⟩
              refine r_iconst (q := 47) (z := 0) (v := b2i false) C rfl (by decide +kernel) (by decide) ?_
              refine r_istore_n (q := 48) (z := 1) C 1 rfl (by decide +kernel) rfl (by decide) (by first | rfl | exact okst_rv rfl) ?_
              dsimp only [List.set]
              refine r_iinc (q := 51) (z := 1) (v := 1) C 2 rfl (by decide +kernel) rfl (by decide) (by decide) (by first | rfl | exact okst_rv rfl) ?_
              dsimp only [List.set]
              rw [nI_1]
              refine r_goto (off := -43) (tgt := 8) C (by decide +kernel) (by decide) ?_
              exact ih8 (k + 1) _ (by omega) (by omega) ht2
            · rw [(b2i_n0 _).mp c17] at ht
              have ht2 : true = true ↔ ∀ q, q < k + 1 → σ.li q < 240 → rb1 (σ.dr q) = true := ⟨fun _ q hq hl => by
                by_cases e : q = k
                · subst e; exact (b2i_n0 _).mp c39
                · exact ht.mp rfl q (by omega) hl, fun _ => rfl⟩
              refine r_iconst (q := 43) (z := 1) (v := b2i true) C rfl (by decide +kernel) (by decide) ?_
              refine r_goto (off := 4) (tgt := 47) C (by decide +kernel) (by decide) ?_
              refine r_istore_n (q := 48) (z := 1) C 1 rfl (by decide +kernel) rfl (by decide) (by first | rfl | exact okst_rv rfl) ?_
              dsimp only [List.set]
              refine r_iinc (q := 51) (z := 1) (v := 1) C 2 rfl (by decide +kernel) rfl (by decide) (by decide) (by first | rfl | exact okst_rv rfl) ?_
              dsimp only [List.set]
              rw [nI_1]
              refine r_goto (off := -43) (tgt := 8) C (by decide +kernel) (by decide) ?_
              exact ih8 (k + 1) _ (by omega) (by omega) ht2
  exact L8 (σ.n + 1) 0 true (by omega) (by omega) ⟨fun _ q hq => absurd hq (Nat.not_lt_zero q), fun _ => rfl⟩
