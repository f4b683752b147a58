/-! ===== power ===== -/
def SG.ln (σ : SG) (r : Nat) : Nat := σ.dr r % 12 / 4
def SG.on (σ : SG) (l r : Nat) : Bool := decide (σ.li r < 240) && decide (σ.ln r = l)
theorem ln_lt {σ : SG} {r : Nat} : σ.ln r < 3 := by unfold SG.ln; omega
def sumP (σ : SG) (p : Nat → Bool) : Nat → Nat
  | 0 => 0
  | k + 1 => sumP σ p k + (if p k then σ.pw k else 0)
def pwS (σ : SG) : List Nat → Nat
  | [] => 0
  | a :: t => σ.pw a + pwS σ t
theorem sumP_congr {σ : SG} {p q : Nat → Bool} : ∀ n, (∀ k, k < n → p k = q k) → sumP σ p n = sumP σ q n
  | 0, _ => rfl
  | n + 1, h => by simp only [sumP]; rw [sumP_congr n (fun k hk => h k (by omega)), h n (by omega)]
theorem sumP_rm {σ : SG} {p : Nat → Bool} {a : Nat} (ha : p a = true) : ∀ n, a < n → sumP σ p n = σ.pw a + sumP σ (fun j => p j && decide (j ≠ a)) n
  | 0, h => absurd h (Nat.not_lt_zero _)
  | n + 1, h => by
    simp only [sumP]
    by_cases e : a = n
    · subst e
      rw [sumP_congr (σ := σ) (p := fun j => p j && decide (j ≠ a)) (q := p) a (fun k hk => by simp [show k ≠ a by omega])]
      simp [ha]; omega
    · rw [sumP_rm ha n (by omega)]
      simp [show n ≠ a by omega]; omega
theorem sumP_0 {σ : SG} {p : Nat → Bool} : ∀ n, (∀ k, k < n → p k = false) → sumP σ p n = 0
  | 0, _ => rfl
  | n + 1, h => by simp [sumP, sumP_0 n (fun k hk => h k (by omega)), h n (by omega)]
theorem sumP_list {σ : SG} {n : Nat} : ∀ (l : List Nat) (p : Nat → Bool), l.Nodup → (∀ j ∈ l, j < n) → (∀ j, j < n → (p j = true ↔ j ∈ l)) → sumP σ p n = pwS σ l
  | [], p, _, _, h => sumP_0 n (fun k hk => by
      cases e : p k with
      | false => rfl
      | true => exact absurd ((h k hk).mp e) List.not_mem_nil)
  | a :: t, p, hn, hb, h => by
    rw [List.nodup_cons] at hn
    have ha := hb a List.mem_cons_self
    rw [sumP_rm ((h a ha).mpr List.mem_cons_self) n ha, pwS]
    congr 1
    refine sumP_list t _ hn.2 (fun j hj => hb j (List.mem_cons_of_mem _ hj)) (fun j hj => ?_)
    rw [Bool.and_eq_true, h j hj, List.mem_cons, decide_eq_true_eq]
    constructor
    · rintro ⟨e | e, e2⟩
      · exact absurd e e2
      · exact e
    · intro e
      exact ⟨Or.inr e, fun e2 => hn.1 (e2 ▸ e)⟩
theorem sumP_le {σ : SG} (hw : WF σ) {p : Nat → Bool} : ∀ n, n ≤ σ.n → sumP σ p n ≤ 100 * n
  | 0, _ => Nat.le_refl _
  | n + 1, h => by
    have h1 := sumP_le hw (p := p) n (by omega)
    have h2 := (hw.2.2.1 n (by omega)).2.2.2.2.1
    simp only [sumP]; split <;> omega
/-- who goes dark first stands first; what is left when the line bears it -/
def drk (σ : SG) (B : Nat) : List Nat → List Nat
  | [] => []
  | a :: t => if B < pwS σ (a :: t) then drk σ B t else a :: t
def leastN (σ : SG) (lt : Nat → Bool) : Nat → Nat
  | 0 => 10
  | k + 1 => if lt k && (decide (¬ leastN σ lt k < 10) || decide (σ.rk k ≤ σ.rk (leastN σ lt k))) then k else leastN σ lt k
theorem leastN_lt {σ : SG} {as : Nat → Bool} : ∀ {k : Nat}, k ≤ 10 → leastN σ as k < 10 → leastN σ as k < k
  | 0, _, h => absurd h (show ¬ (10 : Nat) < 10 by decide)
  | k + 1, hk, h => by
    simp only [leastN] at h ⊢
    by_cases e : (as k && (decide (¬ leastN σ as k < 10) || decide (σ.rk k ≤ σ.rk (leastN σ as k)))) = true
    · rw [if_pos e]; omega
    · rw [if_neg e] at h ⊢
      have := leastN_lt (by omega) h; omega
theorem leastN_n {σ : SG} {lt : Nat → Bool} {k : Nat} (h : lt k = false) : leastN σ lt (k + 1) = leastN σ lt k := by simp only [leastN]; rw [h]; rfl
theorem leastN_t {σ : SG} {lt : Nat → Bool} {k : Nat} (h : lt k = true) (h2 : ¬ leastN σ lt k < 10 ∨ σ.rk k ≤ σ.rk (leastN σ lt k)) : leastN σ lt (k + 1) = k := by
  simp only [leastN]; rw [h, if_pos]; rw [Bool.true_and, Bool.or_eq_true, decide_eq_true_eq, decide_eq_true_eq]; exact h2
theorem leastN_f {σ : SG} {lt : Nat → Bool} {k : Nat} (hb : leastN σ lt k < 10) (h2 : ¬ σ.rk k ≤ σ.rk (leastN σ lt k)) : leastN σ lt (k + 1) = leastN σ lt k := by
  simp only [leastN]; rw [if_neg]; intro e; rw [Bool.and_eq_true, Bool.or_eq_true, decide_eq_true_eq, decide_eq_true_eq] at e; exact e.2.elim (fun q => q hb) h2
theorem least_hd {σ : SG} {as : Nat → Bool} {l : List Nat} (hs : l.Pairwise (fun a b => bfr σ b a)) (hn : σ.n ≤ 10) (hl : ∀ j, j < σ.n → (as j = true ↔ j ∈ l)) (hb : ∀ j ∈ l, j < σ.n) : leastN σ as σ.n = hd10 l := by
  have key : ∀ k, k ≤ σ.n → (leastN σ as k = 10 ∧ ∀ j, j < k → j ∉ l) ∨ (leastN σ as k < k ∧ leastN σ as k ∈ l ∧ ∀ j, j < k → j ∈ l → j = leastN σ as k ∨ bfr σ j (leastN σ as k)) := by
    intro k
    induction k with
    | zero => intro _; exact Or.inl ⟨rfl, fun j hj => absurd hj (Nat.not_lt_zero j)⟩
    | succ k ih =>
      intro hk
      have hk' := hl k (by omega)
      simp only [leastN]
      rcases ih (by omega) with ⟨e1, e2⟩ | ⟨e1, e2, e3⟩
      · by_cases ha : as k = true
        · rw [if_pos (by simp [ha, e1])]
          refine Or.inr ⟨by omega, hk'.mp ha, fun j hj hm => ?_⟩
          by_cases ej : j = k
          · exact Or.inl ej
          · exact absurd hm (e2 j (by omega))
        · rw [if_neg (by simp [ha])]
          refine Or.inl ⟨e1, fun j hj hm => ?_⟩
          by_cases ej : j = k
          · exact ha (hk'.mpr (ej ▸ hm))
          · exact e2 j (by omega) hm
      · by_cases ha : as k = true
        · by_cases hr : σ.rk k ≤ σ.rk (leastN σ as k)
          · rw [if_pos (by simp [ha, hr])]
            refine Or.inr ⟨by omega, hk'.mp ha, fun j hj hm => ?_⟩
            by_cases ej : j = k
            · exact Or.inl ej
            · refine Or.inr ?_
              rcases e3 j (by omega) hm with e | e
              · subst e; unfold bfr; omega
              · unfold bfr at e ⊢; omega
          · rw [if_neg (by simp [hr]; omega)]
            refine Or.inr ⟨by omega, e2, fun j hj hm => ?_⟩
            by_cases ej : j = k
            · subst ej
              refine Or.inr ?_
              unfold bfr; omega
            · exact e3 j (by omega) hm
        · rw [if_neg (by simp [ha])]
          refine Or.inr ⟨by omega, e2, fun j hj hm => ?_⟩
          by_cases ej : j = k
          · exact absurd (hk'.mpr (ej ▸ hm)) ha
          · exact e3 j (by omega) hm
  cases l with
  | nil =>
    rcases key σ.n (Nat.le_refl _) with ⟨e1, -⟩ | ⟨-, e2, -⟩
    · exact e1
    · cases e2
  | cons a t =>
    rw [List.pairwise_cons] at hs
    have ha := hb a List.mem_cons_self
    rcases key σ.n (Nat.le_refl _) with ⟨-, e2⟩ | ⟨e1, e2, e3⟩
    · exact absurd List.mem_cons_self (e2 a ha)
    · rcases e3 a ha List.mem_cons_self with e | e
      · exact e.symm
      · rcases List.mem_cons.mp e2 with e4 | e4
        · exact e4
        · have := hs.1 _ e4
          unfold bfr at this e; omega
/-- of the line l, who goes dark first -/
def dkL (σ : SG) (L : List Nat) (l : Nat) : List Nat := L.reverse.filter (σ.on l)
theorem dkL_mem {σ : SG} {L : List Nat} (hL : Srt σ L) {l j : Nat} : j ∈ dkL σ L l ↔ j < σ.n ∧ σ.on l j = true := by
  unfold dkL; rw [List.mem_filter, List.mem_reverse, hL.2]
theorem dkL_srt {σ : SG} {L : List Nat} (hL : Srt σ L) {l : Nat} : (dkL σ L l).Pairwise (fun a b => bfr σ b a) := by
  unfold dkL; exact (List.pairwise_reverse.mpr hL.1).filter _
theorem nd_dk {σ : SG} : ∀ {l : List Nat}, l.Pairwise (fun a b => bfr σ b a) → l.Nodup
  | [], _ => List.nodup_nil
  | a :: l, h => by
    rw [List.pairwise_cons] at h
    rw [List.nodup_cons]
    refine ⟨fun e => ?_, nd_dk h.2⟩
    have := h.1 a e
    unfold bfr at this; omega
theorem pwS_le {σ : SG} (hw : WF σ) {l : List Nat} (hn : l.Nodup) (hb : ∀ j ∈ l, j < σ.n) : pwS σ l ≤ 1000 := by
  rw [← sumP_list l (fun j => decide (j ∈ l)) hn hb (fun j _ => by simp)]
  have := sumP_le hw (p := fun j => decide (j ∈ l)) σ.n (Nat.le_refl _)
  have := hw.1
  omega
def ltP (σ : SG) (x : Int32) : Prop := (0 ≤ x ∧ x < nI σ.n) ∧ σ.li x.toNatClampNeg < 240
def ltV (σ : SG) (be : Nat → Nat) (L : List Nat) (r : Nat) : Int32 := if r ∈ drk σ (be (σ.ln r)) (dkL σ L (σ.ln r)) then 1 else 0

theorem c_X7_lineOf {G : GT} {h : HP} {m : Nat} {σ : SG} {r : Nat} (hm : LM h.kd h.gl h.fr m) (M : MR σ h m) (W : WF σ) (hr : r < σ.n) : Con G 4 0 0 yX7_lineOf cX7_lineOf 2 (some .int) [rv m, .int (nI r)] h (PI (fun v h' => (if σ.li r < 240 then nI (σ.ln r) else -1) = v ∧ h = h')) := by
  refine Con.of (lv := [some (rv m), some (.int (nI r))]) (by decide) (by simp only [lvE_r, lvE_i, lvE_l, lvE_s, lvE_0]; rfl) (by simp only [lgl_r, lgl_i, lgl_l, lgl_s, lgl_0]; decide) (fun Γ C R => ?_)
  generalize hPP : (PI (fun v h' => (if σ.li r < 240 then nI (σ.ln r) else -1) = v ∧ h = h')) = PP
  have r10 := W.n10
  refine r_aload_n (q := 1) (z := 0) C 0 rfl (by decide +kernel) rfl rfl ?_
  refine r_getR (q := 4) C 7 30 478 rfl (by decide +kernel) rfl (by decide) rfl rfl wf_X7_103 win7 hm.1 ?_
  refine r_iload_n (q := 5) (z := 1) C 1 rfl (by decide +kernel) rfl rfl ?_
  refine r_iald (q := 6) C rfl (by decide +kernel) hm.k478 (vp_in_nI (by omega) (by decide)) ?_
  rw [nI_clamp (by omega), M.ali (by omega)]
  refine r_if_ge (q := 9) (off := 7) (tgt := 13) C rfl (by decide +kernel) (by decide) (fun c6 => ?_) (fun c6 => ?_)
  · have hl := pl_le.mp c6
    have hd := W.dr hr hl
    refine r_aload_n (q := 14) (z := 0) C 0 rfl (by decide +kernel) rfl rfl ?_
    refine r_iload_n (q := 15) (z := 1) C 1 rfl (by decide +kernel) rfl rfl ?_
    refine cV1I (q := 18) C R rfl (by decide +kernel) lk_X7_292 (c_X7_door hm M W hr) (by decide) (by decide) (by decide) rfl (by first | exact Nat.le_of_ble_eq_true rfl | (simp only [List.map_cons, List.map_nil, List.sum_cons, List.sum_nil, rv_cat]; exact Nat.le_of_ble_eq_true rfl)) rfl hm.1 ?_
    rintro _ _ ⟨rfl, rfl⟩
    rw [if_pos hl]
    refine r_bipush (q := 20) (z := 12) (v := 12) C rfl (by decide +kernel) (by decide) ?_
    refine r_irem (q := 21) C rfl (by decide +kernel) (by decide) ?_
    rw [rem12 hd]
    refine r_iconst (q := 22) (z := 4) (v := 4) C rfl (by decide +kernel) (by decide) ?_
    refine r_idiv (q := 23) C rfl (by decide +kernel) (by decide) ?_
    rw [show nI (σ.dr r % 12) / 4 = nI (σ.dr r % 12 / 4) from pk_div (d := 4) (by omega) (by decide) (by decide)]
    exact r_iret C (by decide +kernel) rfl (by decide) (by decide) (eqP hPP ⟨_, rfl, ⟨by first | (rw [if_neg hl]; done) | (rw [if_pos hl]; rfl), rfl⟩⟩)
  · have hl := mt pl_le.mpr c6
    refine r_iconst (q := 10) (z := (-1)) (v := (-1)) C rfl (by decide +kernel) (by decide) ?_
    refine r_goto (off := 13) (tgt := 23) C (by decide +kernel) (by decide) ?_
    exact r_iret C (by decide +kernel) rfl (by decide) (by decide) (eqP hPP ⟨_, rfl, ⟨by first | (rw [if_neg hl]; done) | (rw [if_pos hl]; rfl), rfl⟩⟩)
theorem c_X7_lights {G : GT} {h : HP} {m : Nat} {σ : SG} {be sh : Nat → Nat} {ra l : Nat} {L : List Nat} (hm : LM h.kd h.gl h.fr m) (M : MR σ h m) (W : WF σ) (Mb : MB be sh ra h m) (hL : Srt σ L) (hl3 : l < 3) : Con G 5 0 0 yX7_lights cX7_lights 5 none [rv m, .int (nI l)] h (PV (fun h' => ∃ f, h.row (h.fr 495 m) f = h' ∧ Fl f (fun j => decide (j ∈ drk σ (be l) (dkL σ L l))) σ.n)) := by
  refine Con.of (lv := [some (rv m), some (.int (nI l)), none, none, none]) (by decide) (by simp only [lvE_r, lvE_i, lvE_l, lvE_s, lvE_0]; rfl) (by simp only [lgl_r, lgl_i, lgl_l, lgl_s, lgl_0]; decide) (fun Γ C R => ?_)
  generalize hPP : (PV (fun h' => ∃ f, h.row (h.fr 495 m) f = h' ∧ Fl f (fun j => decide (j ∈ drk σ (be l) (dkL σ L l))) σ.n)) = PP
  have r10 := W.n10
  have M2 : ∀ f, MR σ (h.row (h.fr 495 m) f) m := fun f => M.row hm (by rw [hm.g495]; decide)
  have hne : h.fr 492 m ≠ h.fr 495 m := gl_ne hm.g492 hm.g495 (by decide)
  have hbe := Mb.1 l hl3
  have L60 : ∀ (fuel60 : Nat) (f : Nat → Int32) (D : List Nat), D.length < fuel60 → (Fl f (fun j => decide (j ∈ D)) σ.n) → (D.Pairwise (fun a b => bfr σ b a)) → (∀ j ∈ D, j < σ.n) → (drk σ (be l) D = drk σ (be l) (dkL σ L l)) → wX G Γ (qM G Γ PP 0 0) 0 0 (h.row (h.fr 495 m) f) 60 [some (rv m), some (.int (nI l)), some (.int (nI (pwS σ D))), none, none] [] := by
    intro fuel60
    induction fuel60 with
    | zero =>
      intro f D hm60
      exact absurd hm60 (Nat.not_lt_zero _)
    | succ fuel60 ih60 =>
      intro f D hm60 hF hs hb hT
      refine r_iload_n (q := 61) (z := 2) C 2 rfl (by decide +kernel) rfl rfl ?_
      refine r_aload_n (q := 62) (z := 0) C 0 rfl (by decide +kernel) rfl rfl ?_
      refine r_getR (q := 65) C 7 44 492 rfl (by decide +kernel) rfl (by decide) rfl rfl wf_X7_139 win7 hm.1 ?_
      refine r_iload_n (q := 66) (z := 1) C 1 rfl (by decide +kernel) rfl rfl ?_
      refine r_iald (q := 67) C rfl (by decide +kernel) hm.k492 (vp_in_nI hl3 (by decide)) ?_
      try simp only [fr_row]
      rw [nI_clamp (by omega), ai_row_ne hne, hbe.1]
      have hp9 := pwS_le W (nd_dk hs) hb
      have hbl := hbe.2
      refine r_icmp_le (q := 70) (off := 79) (tgt := 146) C rfl (by decide +kernel) (by decide) (fun c67 => ?_) (fun c67 => ?_)
      · have c67 := (nI_leI (by omega) (by omega)).mp c67
        exact r_ret C (by decide +kernel) rfl (by decide) (by decide) (eqP hPP ⟨rfl, ⟨f, rfl, by rw [← hT]; cases D with | nil => exact hF | cons a t => (rw [drk, if_neg (by omega)]; exact hF)⟩⟩)
      · have c67 : be l < pwS σ D := Nat.lt_of_not_le (fun e => c67 (nI_le e (by omega)))
        obtain ⟨a, t, rfl⟩ : ∃ a t, D = a :: t := by
          cases D with
          | nil => exact absurd c67 (Nat.not_lt_zero _)
          | cons a t => exact ⟨a, t, rfl⟩
        have hs0 := hs
        rw [List.pairwise_cons] at hs
        have ha := hb a List.mem_cons_self
        refine r_iconst (q := 71) (z := (-1)) (v := (-1)) C rfl (by decide +kernel) (by decide) ?_
        refine r_istore_n (q := 72) (z := 3) C 3 rfl (by decide +kernel) rfl (by decide) (by first | rfl | exact okst_rv rfl) ?_
        dsimp only [List.set]
        refine r_iconst (q := 73) (z := 0) (v := 0) C rfl (by decide +kernel) (by decide) ?_
        refine r_istore (q := 75) C 4 rfl (by decide +kernel) (by decide) (by first | rfl | exact okst_rv rfl) ?_
        dsimp only [List.set]
        have L75 : ∀ (fuel75 : Nat) (k : Nat), σ.n - k < fuel75 → (k ≤ σ.n) → wX G Γ (qM G Γ PP 0 0) 0 0 (h.row (h.fr 495 m) f) 75 [some (rv m), some (.int (nI l)), some (.int (nI (pwS σ (a :: t)))), some (.int (bx (leastN σ (fun j => decide (j ∈ a :: t)) k))), some (.int (nI k))] [] := by
          intro fuel75
          induction fuel75 with
          | zero =>
            intro k hm75
            exact absurd hm75 (Nat.not_lt_zero _)
          | succ fuel75 ih75 =>
            intro k hm75 hk
            refine r_iload (q := 77) C 4 rfl (by decide +kernel) rfl ?_
            refine r_aload_n (q := 78) (z := 0) C 0 rfl (by decide +kernel) rfl rfl ?_
            refine r_getI (q := 81) C 7 24 472 rfl (by decide +kernel) rfl (by decide) rfl rfl wf_X7_243 win7 hm.1 ?_
            rw [fi_row, M.fn]
            refine r_icmp_ge (q := 84) (off := 46) (tgt := 127) C rfl (by decide +kernel) (by decide) (fun c81 => ?_) (fun c81 => ?_)
            · have ek : k = σ.n := by have := (nI_leI (by omega) (by omega)).mp c81; omega
              subst ek
              rw [least_hd (l := a :: t) hs0 r10 (fun j _ => by simp) hb, show bx (hd10 (a :: t)) = nI a from bx_in (show a < 10 by omega)]
              refine r_aload_n (q := 128) (z := 0) C 0 rfl (by decide +kernel) rfl rfl ?_
              refine r_getR (q := 131) C 7 47 495 rfl (by decide +kernel) rfl (by decide) rfl rfl wf_X7_148 win7 hm.1 ?_
              refine r_iload_n (q := 132) (z := 3) C 3 rfl (by decide +kernel) rfl rfl ?_
              refine r_iconst (q := 133) (z := 0) (v := 0) C rfl (by decide +kernel) (by decide) ?_
              refine r_zast (q := 134) C rfl (by decide +kernel) (show vp_nar .boolean 0 = 0 by decide) hm.k495 (vp_in_nI (by omega) (by decide)) ?_
              try simp only [fr_row]
              rw [row_stI, nI_clamp (by omega)]
              refine r_iload_n (q := 135) (z := 2) C 2 rfl (by decide +kernel) rfl rfl ?_
              refine r_aload_n (q := 136) (z := 0) C 0 rfl (by decide +kernel) rfl rfl ?_
              refine r_getR (q := 139) C 7 27 475 rfl (by decide +kernel) rfl (by decide) rfl rfl wf_X7_94 win7 hm.1 ?_
              refine r_iload_n (q := 140) (z := 3) C 3 rfl (by decide +kernel) rfl rfl ?_
              refine r_iald (q := 141) C rfl (by decide +kernel) hm.k475 (vp_in_nI (by omega) (by decide)) ?_
              rw [nI_clamp (by omega), (M2 _).apw (by omega)]
              refine r_isub (q := 142) C rfl (by decide +kernel) ?_
              rw [pk_sub (by rw [pwS]; omega), show pwS σ (a :: t) - σ.pw a = pwS σ t by rw [pwS]; omega]
              have hnd := nd_dk hs0
              rw [List.nodup_cons] at hnd
              have hF2 : Fl (upd f a 0) (fun j => decide (j ∈ t)) σ.n := fun j hj => by
                show (if j = a then (0 : Int32) else f j) = _
                by_cases e : j = a
                · subst e; simp [hnd.1, b2i]
                · rw [if_neg e, hF j hj]; simp [e]
              have hT2 : drk σ (be l) t = drk σ (be l) (dkL σ L l) := by rw [← hT, drk, if_pos c67]
              refine r_istore_n (q := 143) (z := 2) C 2 rfl (by decide +kernel) rfl (by decide) (by first | rfl | exact okst_rv rfl) ?_
              dsimp only [List.set]
              refine r_goto (off := -83) (tgt := 60) C (by decide +kernel) (by decide) ?_
              exact wX.sub (lsub_s (lsub_s (lsub_s (lsub_n (lsub_n (lsub_nil)))))) (ih60 _ t (by simp at hm60 ⊢; omega) hF2 hs.2 (fun j hj => hb j (List.mem_cons_of_mem _ hj)) hT2)
            · have hlt : k < σ.n := Nat.lt_of_not_le (fun e => c81 (nI_le e (by omega)))
              have J120 : ∀ (v : Int32), (v = bx (leastN σ (fun j => decide (j ∈ a :: t)) (k + 1))) → wX G Γ (qM G Γ PP 0 0) 0 0 (h.row (h.fr 495 m) f) 120 [some (rv m), some (.int (nI l)), some (.int (nI (pwS σ (a :: t)))), some (.int (bx (leastN σ (fun j => decide (j ∈ a :: t)) k))), some (.int (nI k))] [.int v] := by
                intro v hv
                subst hv
                refine r_istore_n (q := 121) (z := 3) C 3 rfl (by decide +kernel) rfl (by decide) (by first | rfl | exact okst_rv rfl) ?_
                dsimp only [List.set]
                refine r_iinc (q := 124) (z := 1) (v := 1) C 4 rfl (by decide +kernel) rfl (by decide) (by decide) (by first | rfl | exact okst_rv rfl) ?_
                dsimp only [List.set]
                rw [nI_1]
                refine r_goto (off := -49) (tgt := 75) C (by decide +kernel) (by decide) ?_
                exact ih75 (k + 1) (by omega) (by omega)
              refine r_aload_n (q := 85) (z := 0) C 0 rfl (by decide +kernel) rfl rfl ?_
              refine r_getR (q := 88) C 7 47 495 rfl (by decide +kernel) rfl (by decide) rfl rfl wf_X7_148 win7 hm.1 ?_
              refine r_iload (q := 90) C 4 rfl (by decide +kernel) rfl ?_
              refine r_zald (q := 91) C rfl (by decide +kernel) hm.k495 (vp_in_nI (by omega) (by decide)) ?_
              try simp only [fr_row]
              rw [nI_clamp (by omega), ai_row_eq, hF _ hlt]
              refine r_if_eq (q := 94) (off := 28) (tgt := 119) C rfl (by decide +kernel) (by decide) (fun c91 => ?_) (fun c91 => ?_)
              · have ev : bx (leastN σ (fun j => decide (j ∈ a :: t)) k) = bx (leastN σ (fun j => decide (j ∈ a :: t)) (k + 1)) := congrArg bx (leastN_n (lt := fun j => decide (j ∈ a :: t)) ((b2i_0 _).mp c91)).symm
                refine r_iload_n (q := 120) (z := 3) C 3 rfl (by decide +kernel) rfl rfl ?_
                exact J120 _ ev
              · refine r_iload_n (q := 95) (z := 3) C 3 rfl (by decide +kernel) rfl rfl ?_
                refine r_if_lt (q := 98) (off := 19) (tgt := 114) C rfl (by decide +kernel) (by decide) (fun c95 => ?_) (fun c95 => ?_)
                · have ev : nI k = bx (leastN σ (fun j => decide (j ∈ a :: t)) (k + 1)) := by rw [leastN_t (lt := fun j => decide (j ∈ a :: t)) ((b2i_n0 _).mp c91) (Or.inl (bx_neg.mp c95)), bx_in (by omega)]
                  refine r_iload (q := 116) C 4 rfl (by decide +kernel) rfl ?_
                  refine r_goto (off := 4) (tgt := 120) C (by decide +kernel) (by decide) ?_
                  exact J120 _ ev
                · have hb1 : leastN σ (fun j => decide (j ∈ a :: t)) k < 10 := by
                    rcases Nat.lt_or_ge (leastN σ (fun j => decide (j ∈ a :: t)) k) 10 with e | e
                    · exact e
                    · exact absurd (bx_neg.mpr (by omega)) c95
                  have hbk := leastN_lt (by omega) hb1
                  have hw1 := (W.2.2.1 k hlt).2.2.2.2.2.2
                  have hw2 := (W.2.2.1 (leastN σ (fun j => decide (j ∈ a :: t)) k) (by omega)).2.2.2.2.2.2
                  refine r_aload_n (q := 99) (z := 0) C 0 rfl (by decide +kernel) rfl rfl ?_
                  refine r_getR (q := 102) C 7 29 477 rfl (by decide +kernel) rfl (by decide) rfl rfl wf_X7_100 win7 hm.1 ?_
                  refine r_iload (q := 104) C 4 rfl (by decide +kernel) rfl ?_
                  refine r_iald (q := 105) C rfl (by decide +kernel) hm.k477 (vp_in_nI (by omega) (by decide)) ?_
                  rw [nI_clamp (by omega), (M2 _).ark (by omega)]
                  refine r_aload_n (q := 106) (z := 0) C 0 rfl (by decide +kernel) rfl rfl ?_
                  refine r_getR (q := 109) C 7 29 477 rfl (by decide +kernel) rfl (by decide) rfl rfl wf_X7_100 win7 hm.1 ?_
                  refine r_iload_n (q := 110) (z := 3) C 3 rfl (by decide +kernel) rfl rfl ?_
                  refine r_iald (q := 111) C rfl (by decide +kernel) hm.k477 (by rw [bx_in hb1]; exact vp_in_nI hb1 (by decide)) ?_
                  rw [show (bx (leastN σ (fun j => decide (j ∈ a :: t)) k)).toNatClampNeg = leastN σ (fun j => decide (j ∈ a :: t)) k by rw [bx_in hb1]; exact nI_clamp (by omega)]
                  rw [(M2 _).ark (by omega)]
                  refine r_icmp_gt (q := 114) (off := 8) (tgt := 119) C rfl (by decide +kernel) (by decide) (fun c111 => ?_) (fun c111 => ?_)
                  · rw [nI_ltI (by omega) (by omega)] at c111
                    have ev : bx (leastN σ (fun j => decide (j ∈ a :: t)) k) = bx (leastN σ (fun j => decide (j ∈ a :: t)) (k + 1)) := congrArg bx (leastN_f (lt := fun j => decide (j ∈ a :: t)) hb1 (by omega)).symm
                    refine r_iload_n (q := 120) (z := 3) C 3 rfl (by decide +kernel) rfl rfl ?_
                    exact J120 _ ev
                  · rw [nI_ltI (by omega) (by omega)] at c111
                    have ev : nI k = bx (leastN σ (fun j => decide (j ∈ a :: t)) (k + 1)) := by rw [leastN_t (lt := fun j => decide (j ∈ a :: t)) ((b2i_n0 _).mp c91) (Or.inr (by omega)), bx_in (by omega)]
                    refine r_iload (q := 116) C 4 rfl (by decide +kernel) rfl ?_
                    refine r_goto (off := 4) (tgt := 120) C (by decide +kernel) (by decide) ?_
                    exact J120 _ ev
        exact L75 (σ.n + 1) 0 (by omega) (by omega)
  refine r_iconst (q := 1) (z := 0) (v := 0) C rfl (by decide +kernel) (by decide) ?_
  refine r_istore_n (q := 2) (z := 2) C 2 rfl (by decide +kernel) rfl (by decide) (by first | rfl | exact okst_rv rfl) ?_
  dsimp only [List.set]
  refine r_iconst (q := 3) (z := 0) (v := 0) C rfl (by decide +kernel) (by decide) ?_
  refine r_istore_n (q := 4) (z := 3) C 3 rfl (by decide +kernel) rfl (by decide) (by first | rfl | exact okst_rv rfl) ?_
  dsimp only [List.set]
  have L4 : ∀ (fuel4 : Nat) (k : Nat), σ.n - k < fuel4 → (k ≤ σ.n) → wX G Γ (qM G Γ PP 0 0) 0 0 (h.row (h.fr 495 m) (mix (fun r => b2i (σ.on l r)) (h.ai (h.fr 495 m)) k)) 4 [some (rv m), some (.int (nI l)), some (.int (nI (sumP σ (σ.on l) k))), some (.int (nI k)), none] [] := by
    intro fuel4
    induction fuel4 with
    | zero =>
      intro k hm4
      exact absurd hm4 (Nat.not_lt_zero _)
    | succ fuel4 ih4 =>
      intro k hm4 hk
      refine r_iload_n (q := 5) (z := 3) C 3 rfl (by decide +kernel) rfl rfl ?_
      refine r_aload_n (q := 6) (z := 0) C 0 rfl (by decide +kernel) rfl rfl ?_
      refine r_getI (q := 9) C 7 24 472 rfl (by decide +kernel) rfl (by decide) rfl rfl wf_X7_243 win7 hm.1 ?_
      rw [fi_row, M.fn]
      refine r_icmp_ge (q := 12) (off := 51) (tgt := 60) C rfl (by decide +kernel) (by decide) (fun c9 => ?_) (fun c9 => ?_)
      · have ek : k = σ.n := by have := (nI_leI (by omega) (by omega)).mp c9; omega
        subst ek
        rw [sumP_list (dkL σ L l) (σ.on l) (nd_dk (dkL_srt hL)) (fun j hj => ((dkL_mem hL).mp hj).1) (fun j hj => by rw [dkL_mem hL]; exact ⟨fun e => ⟨hj, e⟩, fun e => e.2⟩)]
        exact wX.sub (lsub_s (lsub_s (lsub_s (lsub_n (lsub_n lsub_nil))))) (L60 ((dkL σ L l).length + 1) _ (dkL σ L l) (by omega) (fun j hj => by rw [mix_in hj]; congr 1; rw [Bool.eq_iff_iff, decide_eq_true_eq, dkL_mem hL]; exact ⟨fun e => ⟨hj, e⟩, fun e => e.2⟩) (dkL_srt hL) (fun j hj => ((dkL_mem hL).mp hj).1) rfl)
      · have hlt : k < σ.n := Nat.lt_of_not_le (fun e => c9 (nI_le e (by omega)))
        refine r_aload_n (q := 13) (z := 0) C 0 rfl (by decide +kernel) rfl rfl ?_
        refine r_getR (q := 16) C 7 47 495 rfl (by decide +kernel) rfl (by decide) rfl rfl wf_X7_148 win7 hm.1 ?_
        refine r_iload_n (q := 17) (z := 3) C 3 rfl (by decide +kernel) rfl rfl ?_
        refine r_aload_n (q := 18) (z := 0) C 0 rfl (by decide +kernel) rfl rfl ?_
        refine r_iload_n (q := 19) (z := 3) C 3 rfl (by decide +kernel) rfl rfl ?_
        refine cV1I (q := 22) C R rfl (by decide +kernel) lk_X7_350 (c_X7_lineOf hm (M2 _) W hlt) (by decide) (by decide) (by decide) rfl (by first | exact Nat.le_of_ble_eq_true rfl | (simp only [List.map_cons, List.map_nil, List.sum_cons, List.sum_nil, rv_cat]; exact Nat.le_of_ble_eq_true rfl)) rfl hm.1 ?_
        rintro _ _ ⟨rfl, rfl⟩
        refine r_iload_n (q := 23) (z := 1) C 1 rfl (by decide +kernel) rfl rfl ?_
        refine r_icmp_ne (q := 26) (off := 7) (tgt := 30) C rfl (by decide +kernel) (by decide) (fun c23 => ?_) (fun c23 => ?_)
        · have ev : b2i (σ.on l k) = 0 := by
            have : σ.on l k = false := by
              unfold SG.on
              by_cases e : σ.li k < 240
              · rw [if_pos e] at c23; simp [e]; exact fun e2 => c23 (by rw [e2])
              · simp [e]
            rw [this]; rfl
          refine r_iconst (q := 31) (z := 0) (v := b2i (σ.on l k)) C rfl (by decide +kernel) (by rw [ev]; decide) ?_
          refine r_zast (q := 32) C rfl (by decide +kernel) (by first | exact b2i_vn _ | rfl) hm.k495 (vp_in_nI (by omega) (by decide)) ?_
          try simp only [fr_row]
          rw [row_stI, nI_clamp (by omega), mix_s (fun r => b2i (σ.on l r))]
          refine r_iload_n (q := 33) (z := 2) C 2 rfl (by decide +kernel) rfl rfl ?_
          refine r_aload_n (q := 34) (z := 0) C 0 rfl (by decide +kernel) rfl rfl ?_
          refine r_getR (q := 37) C 7 47 495 rfl (by decide +kernel) rfl (by decide) rfl rfl wf_X7_148 win7 hm.1 ?_
          refine r_iload_n (q := 38) (z := 3) C 3 rfl (by decide +kernel) rfl rfl ?_
          refine r_zald (q := 39) C rfl (by decide +kernel) hm.k495 (vp_in_nI (by omega) (by decide)) ?_
          try simp only [fr_row]
          rw [nI_clamp (by omega), ai_row_eq, mix_in (by omega)]
          refine r_if_eq (q := 42) (off := 12) (tgt := 51) C rfl (by decide +kernel) (by decide) (fun c39 => ?_) (fun c39 => ?_)
          · have e52 : nI (sumP σ (σ.on l) k) + 0 = nI (sumP σ (σ.on l) (k + 1)) := by rw [sumP, if_neg (by rw [(b2i_0 _).mp c39]; decide)]; exact nI_add _ 0
            refine r_iconst (q := 52) (z := 0) (v := 0) C rfl (by decide +kernel) (by decide) ?_
            refine r_iadd (q := 53) C rfl (by decide +kernel) ?_
            rw [e52]
            refine r_istore_n (q := 54) (z := 2) C 2 rfl (by decide +kernel) rfl (by decide) (by first | rfl | exact okst_rv rfl) ?_
            dsimp only [List.set]
            refine r_iinc (q := 57) (z := 1) (v := 1) C 3 rfl (by decide +kernel) rfl (by decide) (by decide) (by first | rfl | exact okst_rv rfl) ?_
            dsimp only [List.set]
            rw [nI_1]
            refine r_goto (off := -53) (tgt := 4) C (by decide +kernel) (by decide) ?_
            exact wX.sub (lsub_s (lsub_s (lsub_s (lsub_s (lsub_n (lsub_nil)))))) (ih4 (k + 1) (by omega) (by omega))
          · have e52 : nI (sumP σ (σ.on l) k) + nI (σ.pw k) = nI (sumP σ (σ.on l) (k + 1)) := by rw [sumP, if_pos ((b2i_n0 _).mp c39)]; exact nI_add _ _
            refine r_aload_n (q := 43) (z := 0) C 0 rfl (by decide +kernel) rfl rfl ?_
            refine r_getR (q := 46) C 7 27 475 rfl (by decide +kernel) rfl (by decide) rfl rfl wf_X7_94 win7 hm.1 ?_
            refine r_iload_n (q := 47) (z := 3) C 3 rfl (by decide +kernel) rfl rfl ?_
            refine r_iald (q := 48) C rfl (by decide +kernel) hm.k475 (vp_in_nI (by omega) (by decide)) ?_
            rw [nI_clamp (by omega), (M2 _).apw (by omega)]
            refine r_goto (off := 4) (tgt := 52) C (by decide +kernel) (by decide) ?_
            refine r_iadd (q := 53) C rfl (by decide +kernel) ?_
            rw [e52]
            refine r_istore_n (q := 54) (z := 2) C 2 rfl (by decide +kernel) rfl (by decide) (by first | rfl | exact okst_rv rfl) ?_
            dsimp only [List.set]
            refine r_iinc (q := 57) (z := 1) (v := 1) C 3 rfl (by decide +kernel) rfl (by decide) (by decide) (by first | rfl | exact okst_rv rfl) ?_
            dsimp only [List.set]
            rw [nI_1]
            refine r_goto (off := -53) (tgt := 4) C (by decide +kernel) (by decide) ?_
            exact wX.sub (lsub_s (lsub_s (lsub_s (lsub_s (lsub_n (lsub_nil)))))) (ih4 (k + 1) (by omega) (by omega))
        · have ev : b2i (σ.on l k) = 1 := by
            have : σ.on l k = true := by
              unfold SG.on
              by_cases e : σ.li k < 240
              · rw [if_pos e] at c23; simp [e]; exact (nI_eq (by have := ln_lt (σ := σ) (r := k); omega) (by omega)).mp c23
              · rw [if_neg e] at c23; exact absurd c23 (m1_ne (by omega))
            rw [this]; rfl
          refine r_iconst (q := 27) (z := 1) (v := b2i (σ.on l k)) C rfl (by decide +kernel) (by rw [ev]; decide) ?_
          refine r_goto (off := 4) (tgt := 31) C (by decide +kernel) (by decide) ?_
          refine r_zast (q := 32) C rfl (by decide +kernel) (by first | exact b2i_vn _ | rfl) hm.k495 (vp_in_nI (by omega) (by decide)) ?_
          try simp only [fr_row]
          rw [row_stI, nI_clamp (by omega), mix_s (fun r => b2i (σ.on l r))]
          refine r_iload_n (q := 33) (z := 2) C 2 rfl (by decide +kernel) rfl rfl ?_
          refine r_aload_n (q := 34) (z := 0) C 0 rfl (by decide +kernel) rfl rfl ?_
          refine r_getR (q := 37) C 7 47 495 rfl (by decide +kernel) rfl (by decide) rfl rfl wf_X7_148 win7 hm.1 ?_
          refine r_iload_n (q := 38) (z := 3) C 3 rfl (by decide +kernel) rfl rfl ?_
          refine r_zald (q := 39) C rfl (by decide +kernel) hm.k495 (vp_in_nI (by omega) (by decide)) ?_
          try simp only [fr_row]
          rw [nI_clamp (by omega), ai_row_eq, mix_in (by omega)]
          refine r_if_eq (q := 42) (off := 12) (tgt := 51) C rfl (by decide +kernel) (by decide) (fun c39 => ?_) (fun c39 => ?_)
          · have e52 : nI (sumP σ (σ.on l) k) + 0 = nI (sumP σ (σ.on l) (k + 1)) := by rw [sumP, if_neg (by rw [(b2i_0 _).mp c39]; decide)]; exact nI_add _ 0
            refine r_iconst (q := 52) (z := 0) (v := 0) C rfl (by decide +kernel) (by decide) ?_
            refine r_iadd (q := 53) C rfl (by decide +kernel) ?_
            rw [e52]
            refine r_istore_n (q := 54) (z := 2) C 2 rfl (by decide +kernel) rfl (by decide) (by first | rfl | exact okst_rv rfl) ?_
            dsimp only [List.set]
            refine r_iinc (q := 57) (z := 1) (v := 1) C 3 rfl (by decide +kernel) rfl (by decide) (by decide) (by first | rfl | exact okst_rv rfl) ?_
            dsimp only [List.set]
            rw [nI_1]
            refine r_goto (off := -53) (tgt := 4) C (by decide +kernel) (by decide) ?_
            exact wX.sub (lsub_s (lsub_s (lsub_s (lsub_s (lsub_n (lsub_nil)))))) (ih4 (k + 1) (by omega) (by omega))
          · have e52 : nI (sumP σ (σ.on l) k) + nI (σ.pw k) = nI (sumP σ (σ.on l) (k + 1)) := by rw [sumP, if_pos ((b2i_n0 _).mp c39)]; exact nI_add _ _
            refine r_aload_n (q := 43) (z := 0) C 0 rfl (by decide +kernel) rfl rfl ?_
            refine r_getR (q := 46) C 7 27 475 rfl (by decide +kernel) rfl (by decide) rfl rfl wf_X7_94 win7 hm.1 ?_
            refine r_iload_n (q := 47) (z := 3) C 3 rfl (by decide +kernel) rfl rfl ?_
            refine r_iald (q := 48) C rfl (by decide +kernel) hm.k475 (vp_in_nI (by omega) (by decide)) ?_
            rw [nI_clamp (by omega), (M2 _).apw (by omega)]
            refine r_goto (off := 4) (tgt := 52) C (by decide +kernel) (by decide) ?_
            refine r_iadd (q := 53) C rfl (by decide +kernel) ?_
            rw [e52]
            refine r_istore_n (q := 54) (z := 2) C 2 rfl (by decide +kernel) rfl (by decide) (by first | rfl | exact okst_rv rfl) ?_
            dsimp only [List.set]
            refine r_iinc (q := 57) (z := 1) (v := 1) C 3 rfl (by decide +kernel) rfl (by decide) (by decide) (by first | rfl | exact okst_rv rfl) ?_
            dsimp only [List.set]
            rw [nI_1]
            refine r_goto (off := -53) (tgt := 4) C (by decide +kernel) (by decide) ?_
            exact wX.sub (lsub_s (lsub_s (lsub_s (lsub_s (lsub_n (lsub_nil)))))) (ih4 (k + 1) (by omega) (by omega))
  have z0 := L4 (σ.n + 1) 0 (by omega) (by omega)
  rw [mix_0, row_self] at z0
  exact z0
theorem c_X7_lit {G : GT} {h : HP} {m : Nat} {σ : SG} {be sh : Nat → Nat} {ra : Nat} {L : List Nat} {x : Int32} (hm : LM h.kd h.gl h.fr m) (M : MR σ h m) (W : WF σ) (Mb : MB be sh ra h m) (hL : Srt σ L) : Con G 6 0 0 yX7_lit cX7_lit 2 (some .int) [rv m, .int x] h (PI (fun v h' => cif (ltP σ x) (ltV σ be L x.toNatClampNeg) (-1) = v ∧ MR σ h' m ∧ Fm [495] [448] h h')) := by
  refine Con.of (lv := [some (rv m), some (.int x)]) (by decide) (by simp only [lvE_r, lvE_i, lvE_l, lvE_s, lvE_0]; rfl) (by simp only [lgl_r, lgl_i, lgl_l, lgl_s, lgl_0]; decide) (fun Γ C R => ?_)
  generalize hPP : (PI (fun v h' => cif (ltP σ x) (ltV σ be L x.toNatClampNeg) (-1) = v ∧ MR σ h' m ∧ Fm [495] [448] h h')) = PP
  have r10 := W.n10
  have M1 : MR σ (h.setI 448 m 0) m := M.setI (by decide) (by decide) (by decide)
  have Mb1 : MB be sh ra (h.setI 448 m 0) m := Mb.setI (by decide)
  refine r_aload_n (q := 1) (z := 0) C 0 rfl (by decide +kernel) rfl rfl ?_
  refine r_iconst (q := 2) (z := 0) (v := 0) C rfl (by decide +kernel) (by decide) ?_
  refine r_putI (q := 5) C 7 0 448 rfl (by decide +kernel) rfl (by decide) rfl rfl wf_X7_1 win7 tyX7 tyX7_ok nmX7 rfl (tyX7_ok 0 (by decide)) rfl wnd7 rfl rfl hm.1 ?_
  refine r_aload_n (q := 6) (z := 0) C 0 rfl (by decide +kernel) rfl rfl ?_
  refine r_iload_n (q := 7) (z := 1) C 1 rfl (by decide +kernel) rfl rfl ?_
  refine cV1I (q := 10) C R rfl (by decide +kernel) lk_X7_316 (c_X7_isRide hm M1) (by decide) (by decide) (by decide) rfl (by first | exact Nat.le_of_ble_eq_true rfl | (simp only [List.map_cons, List.map_nil, List.sum_cons, List.sum_nil, rv_cat]; exact Nat.le_of_ble_eq_true rfl)) rfl hm.1 ?_
  rintro _ _ ⟨rfl, rfl⟩
  refine r_if_eq (q := 13) (off := 12) (tgt := 22) C rfl (by decide +kernel) (by decide) (fun c10 => ?_) (fun c10 => ?_)
  · have c10 := of_decide_eq_false ((b2i_0 _).mp c10)
    refine r_iconst (q := 23) (z := (-1)) (v := (-1)) C rfl (by decide +kernel) (by decide) ?_
    exact r_iret C (by decide +kernel) rfl (by decide) (by decide) (eqP hPP ⟨_, rfl, (by
          first | (have hn : ¬ ltP σ x := fun e => c10 e.1
                   rw [cif_f hn]) | (have hn : ¬ ltP σ (nI r) := fun e => c19 (by have := e.2; rw [nI_clamp (by omega)] at this; exact this)
                                     rw [cif_f hn])
          exact ⟨rfl, M1, Fm.rf.setI (by decide)⟩)⟩)
  · have c10 := of_decide_eq_true ((b2i_n0 _).mp c10)
    obtain ⟨r, hr, rfl⟩ := ride_of r10 c10
    refine r_aload_n (q := 14) (z := 0) C 0 rfl (by decide +kernel) rfl rfl ?_
    refine r_getR (q := 17) C 7 30 478 rfl (by decide +kernel) rfl (by decide) rfl rfl wf_X7_103 win7 hm.1 ?_
    refine r_iload_n (q := 18) (z := 1) C 1 rfl (by decide +kernel) rfl rfl ?_
    refine r_iald (q := 19) C rfl (by decide +kernel) hm.k478 (vp_in_nI (by omega) (by decide)) ?_
    rw [nI_clamp (by omega), M1.ali (by omega)]
    refine r_if_ge (q := 22) (off := 5) (tgt := 24) C rfl (by decide +kernel) (by decide) (fun c19 => ?_) (fun c19 => ?_)
    · have c19 := pl_le.mp c19
      refine r_aload_n (q := 25) (z := 0) C 0 rfl (by decide +kernel) rfl rfl ?_
      refine r_aload_n (q := 26) (z := 0) C 0 rfl (by decide +kernel) rfl rfl ?_
      refine r_iload_n (q := 27) (z := 1) C 1 rfl (by decide +kernel) rfl rfl ?_
      refine cV1I (q := 30) C R rfl (by decide +kernel) lk_X7_350 (c_X7_lineOf hm M1 W hr) (by decide) (by decide) (by decide) rfl (by first | exact Nat.le_of_ble_eq_true rfl | (simp only [List.map_cons, List.map_nil, List.sum_cons, List.sum_nil, rv_cat]; exact Nat.le_of_ble_eq_true rfl)) rfl hm.1 ?_
      rintro _ _ ⟨rfl, rfl⟩
      rw [if_pos c19]
      refine cV1V (q := 33) C R rfl (by decide +kernel) lk_X7_353 (c_X7_lights hm M1 W Mb1 hL ln_lt) (by decide) (by decide) (by decide) rfl (by first | exact Nat.le_of_ble_eq_true rfl | (simp only [List.map_cons, List.map_nil, List.sum_cons, List.sum_nil, rv_cat]; exact Nat.le_of_ble_eq_true rfl)) rfl hm.1 ?_
      rintro _ ⟨f30, rfl, hF30⟩
      refine r_aload_n (q := 34) (z := 0) C 0 rfl (by decide +kernel) rfl rfl ?_
      refine r_getR (q := 37) C 7 47 495 rfl (by decide +kernel) rfl (by decide) rfl rfl wf_X7_148 win7 hm.1 ?_
      refine r_iload_n (q := 38) (z := 1) C 1 rfl (by decide +kernel) rfl rfl ?_
      refine r_zald (q := 39) C rfl (by decide +kernel) hm.k495 (vp_in_nI (by omega) (by decide)) ?_
      try simp only [fr_row, fr_setI]
      rw [nI_clamp (by omega), ai_row_eq, hF30 _ hr]
      refine r_if_eq (q := 42) (off := 7) (tgt := 46) C rfl (by decide +kernel) (by decide) (fun c39 => ?_) (fun c39 => ?_)
      · refine r_iconst (q := 47) (z := 0) (v := 0) C rfl (by decide +kernel) (by decide) ?_
        exact r_iret C (by decide +kernel) rfl (by decide) (by decide) (eqP hPP ⟨_, rfl, (by
              have hy : ltP σ (nI r) := ⟨c10, by rw [nI_clamp (by omega)]; exact c19⟩
              rw [cif_t hy, nI_clamp (by omega)]
              refine ⟨?_, M1.row hm (by show h.gl (h.fr 495 m) ∉ _; rw [hm.g495]; decide), Fm.row (Fm.rf.setI (by decide)) (by show h.gl (h.fr 495 m) ∈ _; rw [hm.g495]; decide)⟩
              first | exact if_neg (of_decide_eq_false ((b2i_0 _).mp c39)) | exact if_pos (of_decide_eq_true ((b2i_n0 _).mp c39)))⟩)
      · refine r_iconst (q := 43) (z := 1) (v := 1) C rfl (by decide +kernel) (by decide) ?_
        refine r_goto (off := 4) (tgt := 47) C (by decide +kernel) (by decide) ?_
        exact r_iret C (by decide +kernel) rfl (by decide) (by decide) (eqP hPP ⟨_, rfl, (by
              have hy : ltP σ (nI r) := ⟨c10, by rw [nI_clamp (by omega)]; exact c19⟩
              rw [cif_t hy, nI_clamp (by omega)]
              refine ⟨?_, M1.row hm (by show h.gl (h.fr 495 m) ∉ _; rw [hm.g495]; decide), Fm.row (Fm.rf.setI (by decide)) (by show h.gl (h.fr 495 m) ∈ _; rw [hm.g495]; decide)⟩
              first | exact if_neg (of_decide_eq_false ((b2i_0 _).mp c39)) | exact if_pos (of_decide_eq_true ((b2i_n0 _).mp c39)))⟩)
    · have c19 := mt pl_le.mpr c19
      refine r_iconst (q := 23) (z := (-1)) (v := (-1)) C rfl (by decide +kernel) (by decide) ?_
      exact r_iret C (by decide +kernel) rfl (by decide) (by decide) (eqP hPP ⟨_, rfl, (by
            first | (have hn : ¬ ltP σ x := fun e => c10 e.1
                     rw [cif_f hn]) | (have hn : ¬ ltP σ (nI r) := fun e => c19 (by have := e.2; rw [nI_clamp (by omega)] at this; exact this)
                                       rw [cif_f hn])
            exact ⟨rfl, M1, Fm.rf.setI (by decide)⟩)⟩)
