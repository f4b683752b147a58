/-! ===== layAll ===== -/
def bfr (σ : SG) (a b : Nat) : Prop := σ.rk b < σ.rk a ∨ (σ.rk a = σ.rk b ∧ a < b)
/-- the rides, the greater rank first, of one rank by numbers -/
def Srt (σ : SG) (L : List Nat) : Prop := L.Pairwise (bfr σ) ∧ ∀ r, r ∈ L ↔ r < σ.n
noncomputable def fstP (σ : SG) (r : Nat) : Nat := @Classical.epsilon Nat ⟨0⟩ (frst σ r)
theorem frst_one {σ : SG} {r q q' : Nat} (h : frst σ r q) (h' : frst σ r q') : q = q' := by
  rcases Nat.lt_trichotomy q q' with e | e | e
  · exact absurd (h.2.1 (by have := h'.1; omega)) (h'.2.2 q e)
  · exact e
  · exact absurd (h'.2.1 (by have := h.1; omega)) (h.2.2 q' e)
theorem fstP_eq {σ : SG} {r q : Nat} (h : frst σ r q) : fstP σ r = q := frst_one (@Classical.epsilon_spec_aux Nat ⟨0⟩ (frst σ r) ⟨q, h⟩) h
noncomputable def lay1 (σ : SG) (r : Nat) : SG := cif (σ.fit r (σ.rt r)) (σ.li_ (upN σ.li r (σ.rt r))) σ
noncomputable def lay2 (σ : SG) (r : Nat) : SG := σ.li_ (upN σ.li r (fstP σ r))
def ask1 (σ : SG) (r : Nat) : Bool := decide (¬ σ.li r < 240) && decide (σ.rt r < 240)
def ask2 (σ : SG) (r : Nat) : Bool := decide (¬ σ.li r < 240)
noncomputable def p1 (σ : SG) (L : List Nat) : SG := L.foldl (fun σ r => if ask1 σ r then lay1 σ r else σ) σ
noncomputable def p2 (σ : SG) (L : List Nat) : SG := L.foldl (fun σ r => if ask2 σ r then lay2 σ r else σ) σ
theorem lay1_form (σ : SG) (r : Nat) : lay1 σ r = σ.li_ (lay1 σ r).li ∧ ∀ q, q ≠ r → (lay1 σ r).li q = σ.li q := by
  unfold lay1
  by_cases e : σ.fit r (σ.rt r)
  · rw [cif_t e]; exact ⟨rfl, fun q hq => upN_n hq⟩
  · rw [cif_f e]; exact ⟨rfl, fun q hq => rfl⟩
theorem lay2_form (σ : SG) (r : Nat) : lay2 σ r = σ.li_ (lay2 σ r).li ∧ ∀ q, q ≠ r → (lay2 σ r).li q = σ.li q := ⟨rfl, fun q hq => upN_n hq⟩
theorem li_li (σ : SG) (f g : Nat → Nat) : (σ.li_ f).li_ g = σ.li_ g := rfl
theorem Srt.nd {σ : SG} : ∀ {L : List Nat}, L.Pairwise (bfr σ) → L.Nodup
  | [], _ => List.nodup_nil
  | a :: l, h => by
    rw [List.pairwise_cons] at h
    rw [List.nodup_cons]
    refine ⟨fun e => ?_, Srt.nd h.2⟩
    have := h.1 a e
    unfold bfr at this; omega
/-- a pass over those that are asked at its begin -/
theorem pass_eq {st : SG → Nat → SG} {as : SG → Nat → Bool} (hst : ∀ σ r, st σ r = σ.li_ (st σ r).li ∧ ∀ q, q ≠ r → (st σ r).li q = σ.li q) (has : ∀ (σ : SG) (f : Nat → Nat) (r : Nat), f r = σ.li r → as (σ.li_ f) r = as σ r) (σ : SG) :
    ∀ (L : List Nat) (σ2 : SG), L.Nodup → σ2 = σ.li_ σ2.li → (∀ r ∈ L, σ2.li r = σ.li r) → L.foldl (fun σ r => if as σ r then st σ r else σ) σ2 = (L.filter (as σ)).foldl st σ2
  | [], _, _, _, _ => rfl
  | a :: l, σ2, hn, hf, hl => by
    rw [List.nodup_cons] at hn
    have ea : as σ2 a = as σ a := by rw [hf]; exact has σ σ2.li a (hl a List.mem_cons_self)
    rw [List.foldl_cons, List.filter_cons, ea]
    cases e : as σ a with
    | true =>
      rw [if_pos rfl, if_pos rfl, List.foldl_cons]
      refine pass_eq hst has σ l (st σ2 a) hn.2 ?_ (fun r hr => ?_)
      · have e9 : ∀ X, σ2.li_ X = σ.li_ X := fun X => by rw [hf]; rfl
        exact (hst σ2 a).1.trans (e9 _)
      · rw [(hst σ2 a).2 r (fun e => hn.1 (e ▸ hr)), hl r (List.mem_cons_of_mem _ hr)]
    | false =>
      rw [if_neg (by decide), if_neg (by decide)]
      exact pass_eq hst has σ l σ2 hn.2 hf (fun r hr => hl r (List.mem_cons_of_mem _ hr))
theorem p1_eq {σ : SG} {L : List Nat} (h : Srt σ L) : p1 σ L = (L.filter (ask1 σ)).foldl lay1 σ := pass_eq lay1_form (fun σ f r e => by show (decide (¬ f r < 240) && decide (σ.rt r < 240)) = (decide (¬ σ.li r < 240) && decide (σ.rt r < 240)); rw [e]) σ L σ (Srt.nd h.1) rfl (fun _ _ => rfl)
theorem p2_eq {σ : SG} {L : List Nat} (h : Srt σ L) : p2 σ L = (L.filter (ask2 σ)).foldl lay2 σ := pass_eq lay2_form (fun σ f r e => by show decide (¬ f r < 240) = decide (¬ σ.li r < 240); rw [e]) σ L σ (Srt.nd h.1) rfl (fun _ _ => rfl)
def hd10 : List Nat → Nat
  | [] => 10
  | a :: _ => a
/-- of a sorted row the first is the best -/
theorem best_hd {σ : SG} {as : Nat → Bool} {l : List Nat} (hs : l.Pairwise (bfr σ)) (hn : σ.n ≤ 10) (hl : ∀ j, j < σ.n → (as j = true ↔ j ∈ l)) (hb : ∀ j ∈ l, j < σ.n) : bestN σ as σ.n = hd10 l := by
  have key : ∀ k, k ≤ σ.n → (bestN σ as k = 10 ∧ ∀ j, j < k → j ∉ l) ∨ (bestN σ as k < k ∧ bestN σ as k ∈ l ∧ ∀ j, j < k → j ∈ l → j = bestN σ as k ∨ bfr σ (bestN σ as k) j) := by
    intro k
    induction k with
    | zero => intro _; exact Or.inl ⟨rfl, fun j hj => absurd hj (Nat.not_lt_zero j)⟩
    | succ k ih =>
      intro hk
      have hk' := hl k (by omega)
      simp only [bestN]
      rcases ih (by omega) with ⟨e1, e2⟩ | ⟨e1, e2, e3⟩
      · by_cases ha : as k = true
        · rw [if_pos (by simp [ha, e1])]
          refine Or.inr ⟨by omega, hk'.mp ha, fun j hj hm => ?_⟩
          by_cases ej : j = k
          · exact Or.inl ej
          · exact absurd hm (e2 j (by omega))
        · rw [if_neg (by simp [ha])]
          refine Or.inl ⟨e1, fun j hj hm => ?_⟩
          by_cases ej : j = k
          · exact ha (hk'.mpr (ej ▸ hm))
          · exact e2 j (by omega) hm
      · by_cases ha : as k = true
        · by_cases hr : σ.rk (bestN σ as k) < σ.rk k
          · rw [if_pos (by simp [ha, hr])]
            refine Or.inr ⟨by omega, hk'.mp ha, fun j hj hm => ?_⟩
            by_cases ej : j = k
            · exact Or.inl ej
            · rcases e3 j (by omega) hm with e | e
              · subst e; exact Or.inr (Or.inl hr)
              · refine Or.inr (Or.inl ?_)
                rcases e with e | e <;> omega
          · rw [if_neg (by simp [hr]; omega)]
            refine Or.inr ⟨by omega, e2, fun j hj hm => ?_⟩
            by_cases ej : j = k
            · subst ej
              refine Or.inr ?_
              unfold bfr; omega
            · exact e3 j (by omega) hm
        · rw [if_neg (by simp [ha])]
          refine Or.inr ⟨by omega, e2, fun j hj hm => ?_⟩
          by_cases ej : j = k
          · exact absurd (hk'.mpr (ej ▸ hm)) ha
          · exact e3 j (by omega) hm
  cases l with
  | nil =>
    rcases key σ.n (Nat.le_refl _) with ⟨e1, -⟩ | ⟨-, e2, -⟩
    · exact e1
    · cases e2
  | cons a t =>
    rw [List.pairwise_cons] at hs
    have ha := hb a List.mem_cons_self
    rcases key σ.n (Nat.le_refl _) with ⟨-, e2⟩ | ⟨e1, e2, e3⟩
    · exact absurd List.mem_cons_self (e2 a ha)
    · rcases e3 a ha List.mem_cons_self with e | e
      · exact e.symm
      · rcases List.mem_cons.mp e2 with e4 | e4
        · exact e4
        · have := hs.1 _ e4
          unfold bfr at this e; omega
theorem WF.li_up {σ : SG} (h : WF σ) {r p : Nat} (hr : r < σ.n) (hp : p ≤ 240) (ho : p < 240 → σ.onG r p) : WF (σ.li_ (upN σ.li r p)) := by
  obtain ⟨h1, h2, h3, h4, h5, h6⟩ := h
  refine ⟨h1, h2, h3, fun q hq => ?_, fun q hq hl => ?_, h6⟩
  · obtain ⟨a, b, c⟩ := h4 q hq
    show upN σ.li r p q ≤ 240 ∧ σ.rt q ≤ 240 ∧ (σ.n ≤ q → upN σ.li r p q = 240 ∧ σ.rt q = 240)
    by_cases e : q = r
    · subst e; rw [upN_s]; exact ⟨hp, b, fun e => absurd e (by omega)⟩
    · rw [upN_n e]; exact ⟨a, b, c⟩
  · have hl' : upN σ.li r p q < 240 := hl
    show σ.onG q (upN σ.li r p q)
    by_cases e : q = r
    · subst e; rw [upN_s] at hl' ⊢; exact ho hl'
    · rw [upN_n e] at hl' ⊢; exact h5 q hq hl'
theorem WF.lay1 {σ : SG} (h : WF σ) {r : Nat} (hr : r < σ.n) : WF (lay1 σ r) := by
  show WF (cif (σ.fit r (σ.rt r)) (σ.li_ (upN σ.li r (σ.rt r))) σ)
  by_cases e : σ.fit r (σ.rt r)
  · rw [cif_t e]; exact h.li_up hr (h.2.2.2.1 r (by have := h.1; omega)).2.1 (fun _ => e.1.1)
  · rw [cif_f e]; exact h
theorem nxt_facts {σ : SG} {h h' : HP} {m : Nat} {as : Nat → Bool} (hm : LM h.kd h.gl h.fr m) (M : MR σ h m) (W : WF σ) (ha : Fl (h.ai (h.fr 488 m)) as σ.n) (e : (if bestN σ as σ.n < 10 then h.row (h.fr 488 m) (upd (h.ai (h.fr 488 m)) (bestN σ as σ.n) 0) else h) = h') :
    MR σ h' m ∧ Fm [488] [] h h' ∧ Fl (h'.ai (h'.fr 488 m)) (fun j => as j && decide (j ≠ bestN σ as σ.n)) σ.n := by
  subst e
  by_cases hb : bestN σ as σ.n < 10
  · rw [if_pos hb]
    refine ⟨M.row hm (by rw [hm.g488]; decide), Fm.row Fm.rf (by rw [hm.g488]; decide), fun j hj => ?_⟩
    rw [fr_row, ai_row_eq]
    show (if j = bestN σ as σ.n then (0 : Int32) else h.ai (h.fr 488 m) j) = _
    by_cases ej : j = bestN σ as σ.n
    · simp [ej, b2i]
    · simp [ej, ha j hj]
  · rw [if_neg hb]
    refine ⟨M, Fm.rf, fun j hj => ?_⟩
    rw [ha j hj]
    have : j ≠ bestN σ as σ.n := by have := W.1; omega
    simp [this]
theorem tail_flag {l : List Nat} {j : Nat} {b : Bool} (hnd : l.Nodup) (hm : b = true ↔ j ∈ l) : (b && decide (j ≠ hd10 l)) = decide (j ∈ l.tail) := by
  cases l with
  | nil =>
    have e : b = false := by
      cases b with
      | false => rfl
      | true => exact absurd (hm.mp rfl) List.not_mem_nil
    rw [e]; simp
  | cons a t =>
    rw [List.nodup_cons] at hnd
    show (b && decide (j ≠ a)) = decide (j ∈ t)
    by_cases ej : j = a
    · subst ej; simp [hnd.1]
    · have e : b = decide (j ∈ t) := by rw [Bool.eq_iff_iff, hm, List.mem_cons, decide_eq_true_eq]; exact ⟨fun e => e.resolve_left ej, Or.inr⟩
      rw [e]; simp [ej]

theorem c_X7_layAll {G : GT} {h : HP} {m : Nat} {σ : SG} {L : List Nat} (hm : LM h.kd h.gl h.fr m) (M : MR σ h m) (W : WF σ) (hL : Srt σ L) : Con G 9 0 0 yX7_layAll cX7_layAll 2 (some .int) [rv m] h (PI (fun v h' => nI (σ.n - lyN (p2 (p1 σ L) L) σ.n) = v ∧ MR (p2 (p1 σ L) L) h' m ∧ WF (p2 (p1 σ L) L) ∧ Fm [478, 486, 487, 488] [448] h h')) := by
  refine Con.of (lv := [some (rv m), none]) (by decide) (by simp only [lvE_r, lvE_i, lvE_l, lvE_s, lvE_0]; rfl) (by simp only [lgl_r, lgl_i, lgl_l, lgl_s, lgl_0]; decide) (fun Γ C R => ?_)
  generalize hPP : (PI (fun v h' => nI (σ.n - lyN (p2 (p1 σ L) L) σ.n) = v ∧ MR (p2 (p1 σ L) L) h' m ∧ WF (p2 (p1 σ L) L) ∧ Fm [478, 486, 487, 488] [448] h h')) = PP
  have r10 := W.n10
  have M1 : MR σ (h.setI 448 m 0) m := M.setI (by decide) (by decide) (by decide)
  refine r_aload_n (q := 1) (z := 0) C 0 rfl (by decide +kernel) rfl rfl ?_
  refine r_iconst (q := 2) (z := 0) (v := 0) C rfl (by decide +kernel) (by decide) ?_
  refine r_putI (q := 5) C 7 0 448 rfl (by decide +kernel) rfl (by decide) rfl rfl wf_X7_1 win7 tyX7 tyX7_ok nmX7 rfl (tyX7_ok 0 (by decide)) rfl wnd7 rfl rfl hm.1 ?_
  have L138 : ∀ (fuel138 : Nat) (h2 : HP) (σ2 : SG) (l : List Nat) (v : Int32), l.length < fuel138 → (Fm [478, 486, 487, 488] [448] h h2) → (MR σ2 h2 m) → (WF σ2) → (σ2 = σ.li_ σ2.li) → (l.Pairwise (bfr σ)) → (∀ j ∈ l, j < σ.n) → (∀ j ∈ l, ¬ σ2.li j < 240) → (Fl (h2.ai (h2.fr 488 m)) (fun j => decide (j ∈ l.tail)) σ.n) → (v = bx (hd10 l)) → (l.foldl lay2 σ2 = p2 (p1 σ L) L) → wX G Γ (qM G Γ PP 0 0) 0 0 (h2) 138 [some (rv m), some (.int v)] [] := by
    intro fuel138
    induction fuel138 with
    | zero =>
      intro h2 σ2 l v hm138
      exact absurd hm138 (Nat.not_lt_zero _)
    | succ fuel138 ih138 =>
      intro h2 σ2 l v hm138 F2 M2 W2 e2 hs hb hask hA hv hT
      have hm0 := hm
      have hm : LM h2.kd h2.gl h2.fr m := LM.fm F2 hm0
      have en : σ2.n = σ.n := by rw [e2]; rfl
      have erk : σ2.rk = σ.rk := by rw [e2]; rfl
      refine r_iload_n (q := 139) (z := 1) C 1 rfl (by decide +kernel) rfl rfl ?_
      refine r_if_lt (q := 142) (off := 22) (tgt := 161) C rfl (by decide +kernel) (by decide) (fun c139 => ?_) (fun c139 => ?_)
      · have hl0 : l = [] := by
          cases l with
          | nil => rfl
          | cons a t => rw [hv] at c139; exact absurd (bx_neg.mp c139) (by show ¬ ¬ a < 10; have := hb a List.mem_cons_self; have := W.1; omega)
        subst hl0
        have hσ : σ2 = p2 (p1 σ L) L := hT
        rw [hσ] at M2 W2 e2 en
        refine r_aload_n (q := 162) (z := 0) C 0 rfl (by decide +kernel) rfl rfl ?_
        refine r_getI (q := 165) C 7 24 472 rfl (by decide +kernel) rfl (by decide) rfl rfl wf_X7_243 win7 hm.1 ?_
        rw [M2.fn, en]
        refine r_aload_n (q := 166) (z := 0) C 0 rfl (by decide +kernel) rfl rfl ?_
        refine cV0I (q := 169) C R rfl (by decide +kernel) lk_X7_304 (c_X7_lying hm M2 W2) (by decide) (by decide) (by decide) rfl (by first | exact Nat.le_of_ble_eq_true rfl | (simp only [List.map_cons, List.map_nil, List.sum_cons, List.sum_nil, rv_cat]; exact Nat.le_of_ble_eq_true rfl)) rfl hm.1 ?_
        rintro _ _ ⟨rfl, rfl⟩
        rw [en]
        refine r_isub (q := 170) C rfl (by decide +kernel) ?_
        rw [pk_sub (by have := lyN_le (p2 (p1 σ L) L) σ.n; omega)]
        exact r_iret C (by decide +kernel) rfl (by decide) (by decide) (eqP hPP ⟨_, rfl, ⟨rfl, M2, W2, F2⟩⟩)
      · obtain ⟨a, t, rfl⟩ : ∃ a t, l = a :: t := by
          cases l with
          | nil => rw [hv] at c139; exact absurd (by decide) c139
          | cons a t => exact ⟨a, t, rfl⟩
        rw [List.pairwise_cons] at hs
        have hr : a < σ.n := hb a List.mem_cons_self
        have r10 := W.1
        have hva : v = nI a := hv.trans (bx_in (show a < 10 by omega))
        subst hva
        refine r_aload_n (q := 143) (z := 0) C 0 rfl (by decide +kernel) rfl rfl ?_
        refine r_getR (q := 146) C 7 30 478 rfl (by decide +kernel) rfl (by decide) rfl rfl wf_X7_103 win7 hm.1 ?_
        refine r_iload_n (q := 147) (z := 1) C 1 rfl (by decide +kernel) rfl rfl ?_
        refine r_aload_n (q := 148) (z := 0) C 0 rfl (by decide +kernel) rfl rfl ?_
        refine r_iload_n (q := 149) (z := 1) C 1 rfl (by decide +kernel) rfl rfl ?_
        refine cV1I (q := 152) C R rfl (by decide +kernel) lk_X7_329 (c_X7_firstPlace hm M2 W2 (by rw [en]; exact hr)) (by decide) (by decide) (by decide) rfl (by first | exact Nat.le_of_ble_eq_true rfl | (simp only [List.map_cons, List.map_nil, List.sum_cons, List.sum_nil, rv_cat]; exact Nat.le_of_ble_eq_true rfl)) rfl hm.1 ?_
        rintro _ _ ⟨q149, f149, g149, rfl, hq149, rfl⟩
        refine r_iast (q := 153) C rfl (by decide +kernel) rfl hm.k478 (vp_in_nI (by omega) (by decide)) ?_
        try simp only [fr_row]
        rw [stI_row, nI_clamp (by omega)]
        obtain ⟨σ3, h3⟩ : ∃ z, z = lay2 σ2 a := ⟨_, rfl⟩
        have h3f : σ3 = σ2.li_ (upN σ2.li a q149) := by rw [h3, lay2, fstP_eq hq149]
        have M3 := MR.li_up (h := scr h2 m f149 g149) (r := a) (p := q149) hm (M2.scr hm) rfl
        rw [← h3f] at M3
        have W3 : WF σ3 := by rw [h3f]; exact W2.li_up (by rw [en]; exact hr) hq149.1 (fun e => (hq149.2.1 e).1.1)
        have n3 : σ3.n = σ.n := by rw [h3f]; exact en
        have rk3 : σ3.rk = σ.rk := by rw [h3f]; exact erk
        have e9 : ∀ X, σ2.li_ X = σ.li_ X := fun X => by rw [e2]; rfl
        have e3 : σ3 = σ.li_ σ3.li := by rw [h3f]; exact e9 _
        have hli3 : ∀ j ∈ t, σ3.li j = σ2.li j := fun j hj => by rw [h3f]; exact upN_n (fun e => by have := hs.1 j hj; rw [e] at this; unfold bfr at this; omega)
        have hask3 : ∀ j ∈ t, ¬ σ3.li j < 240 := fun j hj => by rw [hli3 j hj]; exact hask j (List.mem_cons_of_mem _ hj)
        have hT3 : t.foldl lay2 σ3 = p2 (p1 σ L) L := by rw [h3]; exact hT
        have as154 : Fl (((scr h2 m f149 g149).row (h2.fr 478 m) (upd ((scr h2 m f149 g149).ai (h2.fr 478 m)) a (pl q149))).ai (((scr h2 m f149 g149).row (h2.fr 478 m) (upd ((scr h2 m f149 g149).ai (h2.fr 478 m)) a (pl q149))).fr 488 m)) (fun j => decide (j ∈ t)) σ3.n := by
          show Fl (((scr h2 m f149 g149).row (h2.fr 478 m) (upd ((scr h2 m f149 g149).ai (h2.fr 478 m)) a (pl q149))).ai (h2.fr 488 m)) _ _
          rw [ai_row_ne (gl_ne hm.g488 hm.g478 (by decide))]
          show Fl (((h2.row (h2.fr 486 m) _).row (h2.fr 487 m) _).ai (h2.fr 488 m)) _ _
          rw [ai_row_ne (gl_ne hm.g488 hm.g487 (by decide)), ai_row_ne (gl_ne hm.g488 hm.g486 (by decide)), n3]
          exact hA
        refine r_aload_n (q := 154) (z := 0) C 0 rfl (by decide +kernel) rfl rfl ?_
        refine cV0I (q := 157) C R rfl (by decide +kernel) lk_X7_326 (c_X7_nextAsked (as := fun j => decide (j ∈ t)) hm M3 W3 as154) (by decide) (by decide) (by decide) rfl (by first | exact Nat.le_of_ble_eq_true rfl | (simp only [List.map_cons, List.map_nil, List.sum_cons, List.sum_nil, rv_cat]; exact Nat.le_of_ble_eq_true rfl)) rfl hm.1 ?_
        rintro _ h154 ⟨rfl, n154⟩
        obtain ⟨M154, F154, A154⟩ := nxt_facts (h := (scr h2 m f149 g149).row (h2.fr 478 m) (upd ((scr h2 m f149 g149).ai (h2.fr 478 m)) a (pl q149))) hm M3 W3 as154 n154
        have hbest : bestN σ3 (fun j => decide (j ∈ t)) σ3.n = hd10 t := best_hd (by rw [show bfr σ3 = bfr σ by unfold bfr; rw [rk3]]; exact hs.2) W3.1 (fun j _ => by simp) (fun j hj => by rw [n3]; exact hb j (List.mem_cons_of_mem _ hj))
        have F154t : Fm [478, 486, 487, 488] [448] h h154 := by
          refine Fm.tr ?_ (F154.mono (by decide) (by decide))
          refine Fm.row (Fm.sc (F2) hm0 (by decide) (by decide)) ?_
          rw [F2.2.1, hm0.g478]; decide
        have hA3 : Fl (h154.ai (h154.fr 488 m)) (fun j => decide (j ∈ t.tail)) σ.n := fun j hj => by
          rw [A154 j (by rw [n3]; exact hj), hbest]
          exact congrArg b2i (tail_flag (Srt.nd hs.2) (by simp))
        have hv3 : bx (bestN σ3 (fun j => decide (j ∈ t)) σ3.n) = bx (hd10 t) := by rw [hbest]
        refine r_istore_n (q := 158) (z := 1) C 1 rfl (by decide +kernel) rfl (by decide) (by first | rfl | exact okst_rv rfl) ?_
        dsimp only [List.set]
        refine r_goto (off := -20) (tgt := 138) C (by decide +kernel) (by decide) ?_
        exact ih138 h154 σ3 t _ (by simp at hm138 ⊢; omega) F154t M154 W3 e3 hs.2 (fun j hj => hb j (List.mem_cons_of_mem _ hj)) hask3 hA3 hv3 hT3
  have L99 : ∀ (fuel99 : Nat) (h2 : HP) (k : Nat), σ.n - k < fuel99 → (Fm [478, 486, 487, 488] [448] h h2) → (MR (p1 σ L) h2 m) → (WF (p1 σ L)) → (p1 σ L = σ.li_ (p1 σ L).li) → (k ≤ σ.n) → wX G Γ (qM G Γ PP 0 0) 0 0 (h2.row (h2.fr 488 m) (mix (fun r => b2i (ask2 (p1 σ L) r)) (h2.ai (h2.fr 488 m)) k)) 99 [some (rv m), some (.int (nI k))] [] := by
    intro fuel99
    induction fuel99 with
    | zero =>
      intro h2 k hm99
      exact absurd hm99 (Nat.not_lt_zero _)
    | succ fuel99 ih99 =>
      intro h2 k hm99 F2 M2 W2 e2 hk
      have hm0 := hm
      have hm : LM h2.kd h2.gl h2.fr m := LM.fm F2 hm0
      have en : (p1 σ L).n = σ.n := by rw [e2]; rfl
      have erk : (p1 σ L).rk = σ.rk := by rw [e2]; rfl
      have r10 := W.1
      have M9r : MR (p1 σ L) (h2.row (h2.fr 488 m) (mix (fun r => b2i (ask2 (p1 σ L) r)) (h2.ai (h2.fr 488 m)) k)) m := M2.row hm (by rw [hm.g488]; decide)
      refine r_iload_n (q := 100) (z := 1) C 1 rfl (by decide +kernel) rfl rfl ?_
      refine r_aload_n (q := 101) (z := 0) C 0 rfl (by decide +kernel) rfl rfl ?_
      refine r_getI (q := 104) C 7 24 472 rfl (by decide +kernel) rfl (by decide) rfl rfl wf_X7_243 win7 hm.1 ?_
      rw [fi_row, M2.fn, en]
      refine r_icmp_ge (q := 107) (off := 29) (tgt := 133) C rfl (by decide +kernel) (by decide) (fun c104 => ?_) (fun c104 => ?_)
      · have ek : k = σ.n := by have := (nI_leI (by omega) (by omega)).mp c104; omega
        subst ek
        refine r_aload_n (q := 134) (z := 0) C 0 rfl (by decide +kernel) rfl rfl ?_
        refine cV0I (q := 137) C R rfl (by decide +kernel) lk_X7_326 (c_X7_nextAsked hm M9r W2 (fun j hj => by rw [fr_row, ai_row_eq, mix_in (by rw [← en]; exact hj)])) (by decide) (by decide) (by decide) rfl (by first | exact Nat.le_of_ble_eq_true rfl | (simp only [List.map_cons, List.map_nil, List.sum_cons, List.sum_nil, rv_cat]; exact Nat.le_of_ble_eq_true rfl)) rfl hm.1 ?_
        rintro _ h134 ⟨rfl, n134⟩
        obtain ⟨M134, F134, A134⟩ := nxt_facts (h := h2.row (h2.fr 488 m) _) hm M9r W2 (fun j hj => by rw [fr_row, ai_row_eq, mix_in (by rw [← en]; exact hj)]) n134
        have ebf : bfr (p1 σ L) = bfr σ := by unfold bfr; rw [erk]
        have hbest : bestN (p1 σ L) (ask2 (p1 σ L)) (p1 σ L).n = hd10 (L.filter (ask2 (p1 σ L))) := best_hd (by rw [ebf]; exact hL.1.filter _) W2.1 (fun j hj => by rw [List.mem_filter, hL.2]; exact ⟨fun e => ⟨by rw [← en]; exact hj, e⟩, fun e => e.2⟩) (fun j hj => by rw [en]; exact (hL.2 j).mp (List.mem_filter.mp hj).1)
        have F134t : Fm [478, 486, 487, 488] [448] h h134 := Fm.tr (Fm.row F2 (by rw [F2.2.1, hm0.g488]; decide)) (F134.mono (by decide) (by decide))
        have hask0 : ∀ j ∈ L.filter (ask2 (p1 σ L)), ¬ (p1 σ L).li j < 240 := fun j hj => by have := (List.mem_filter.mp hj).2; simp only [ask2, decide_eq_true_eq] at this; exact this
        have hnd := Srt.nd (hL.1.filter (ask2 (p1 σ L)))
        have hA0 : Fl (h134.ai (h134.fr 488 m)) (fun j => decide (j ∈ (L.filter (ask2 (p1 σ L))).tail)) σ.n := fun j hj => by
          rw [A134 j (by rw [en]; exact hj), hbest]
          have hmem : ask2 (p1 σ L) j = true ↔ j ∈ L.filter (ask2 (p1 σ L)) := by rw [List.mem_filter, hL.2]; exact ⟨fun e => ⟨hj, e⟩, fun e => e.2⟩
          exact congrArg b2i (tail_flag hnd hmem)
        have hv0 : bx (bestN (p1 σ L) (ask2 (p1 σ L)) (p1 σ L).n) = bx (hd10 (L.filter (ask2 (p1 σ L)))) := by rw [hbest]
        have hT0 : (L.filter (ask2 (p1 σ L))).foldl lay2 (p1 σ L) = p2 (p1 σ L) L := (p2_eq ⟨by rw [ebf]; exact hL.1, fun r => by rw [en]; exact hL.2 r⟩).symm
        refine r_istore_n (q := 138) (z := 1) C 1 rfl (by decide +kernel) rfl (by decide) (by first | rfl | exact okst_rv rfl) ?_
        dsimp only [List.set]
        exact L138 ((L.filter (ask2 (p1 σ L))).length + 1) h134 (p1 σ L) (L.filter (ask2 (p1 σ L))) _ (by omega) F134t M134 W2 e2 (hL.1.filter _) (fun j hj => (hL.2 j).mp (List.mem_filter.mp hj).1) hask0 hA0 hv0 hT0
      · have hlt : k < σ.n := Nat.lt_of_not_le (fun e => c104 (nI_le e (by omega)))
        refine r_aload_n (q := 108) (z := 0) C 0 rfl (by decide +kernel) rfl rfl ?_
        refine r_getR (q := 111) C 7 40 488 rfl (by decide +kernel) rfl (by decide) rfl rfl wf_X7_127 win7 hm.1 ?_
        refine r_iload_n (q := 112) (z := 1) C 1 rfl (by decide +kernel) rfl rfl ?_
        refine r_aload_n (q := 113) (z := 0) C 0 rfl (by decide +kernel) rfl rfl ?_
        refine r_getR (q := 116) C 7 30 478 rfl (by decide +kernel) rfl (by decide) rfl rfl wf_X7_103 win7 hm.1 ?_
        refine r_iload_n (q := 117) (z := 1) C 1 rfl (by decide +kernel) rfl rfl ?_
        refine r_iald (q := 118) C rfl (by decide +kernel) hm.k478 (vp_in_nI (by omega) (by decide)) ?_
        rw [nI_clamp (by omega), M9r.ali (by omega)]
        refine r_if_ge (q := 121) (off := 7) (tgt := 125) C rfl (by decide +kernel) (by decide) (fun c118 => ?_) (fun c118 => ?_)
        · have ev : b2i (ask2 (p1 σ L) k) = 0 := by simp [ask2, pl_le.mp c118, b2i]
          refine r_iconst (q := 126) (z := 0) (v := b2i (ask2 (p1 σ L) k)) C rfl (by decide +kernel) (by rw [ev]; decide) ?_
          refine r_zast (q := 127) C rfl (by decide +kernel) (by first | exact b2i_vn _ | rfl) hm.k488 (vp_in_nI (by omega) (by decide)) ?_
          try simp only [fr_row]
          rw [row_stI, nI_clamp (by omega), mix_s (fun r => b2i (ask2 (p1 σ L) r))]
          refine r_iinc (q := 130) (z := 1) (v := 1) C 1 rfl (by decide +kernel) rfl (by decide) (by decide) (by first | rfl | exact okst_rv rfl) ?_
          dsimp only [List.set]
          rw [nI_1]
          refine r_goto (off := -31) (tgt := 99) C (by decide +kernel) (by decide) ?_
          exact ih99 h2 (k + 1) (by omega) F2 M2 W2 e2 (by omega)
        · have ev : b2i (ask2 (p1 σ L) k) = 1 := by simp [ask2, mt pl_le.mpr c118, b2i]
          refine r_iconst (q := 122) (z := 1) (v := b2i (ask2 (p1 σ L) k)) C rfl (by decide +kernel) (by rw [ev]; decide) ?_
          refine r_goto (off := 4) (tgt := 126) C (by decide +kernel) (by decide) ?_
          refine r_zast (q := 127) C rfl (by decide +kernel) (by first | exact b2i_vn _ | rfl) hm.k488 (vp_in_nI (by omega) (by decide)) ?_
          try simp only [fr_row]
          rw [row_stI, nI_clamp (by omega), mix_s (fun r => b2i (ask2 (p1 σ L) r))]
          refine r_iinc (q := 130) (z := 1) (v := 1) C 1 rfl (by decide +kernel) rfl (by decide) (by decide) (by first | rfl | exact okst_rv rfl) ?_
          dsimp only [List.set]
          rw [nI_1]
          refine r_goto (off := -31) (tgt := 99) C (by decide +kernel) (by decide) ?_
          exact ih99 h2 (k + 1) (by omega) F2 M2 W2 e2 (by omega)
  have L55 : ∀ (fuel55 : Nat) (h2 : HP) (σ2 : SG) (l : List Nat) (v : Int32), l.length < fuel55 → (Fm [478, 486, 487, 488] [448] h h2) → (MR σ2 h2 m) → (WF σ2) → (σ2 = σ.li_ σ2.li) → (l.Pairwise (bfr σ)) → (∀ j ∈ l, j < σ.n) → (∀ j ∈ l, ¬ σ2.li j < 240 ∧ σ.rt j < 240) → (Fl (h2.ai (h2.fr 488 m)) (fun j => decide (j ∈ l.tail)) σ.n) → (v = bx (hd10 l)) → (l.foldl lay1 σ2 = p1 σ L) → wX G Γ (qM G Γ PP 0 0) 0 0 (h2) 55 [some (rv m), some (.int v)] [] := by
    intro fuel55
    induction fuel55 with
    | zero =>
      intro h2 σ2 l v hm55
      exact absurd hm55 (Nat.not_lt_zero _)
    | succ fuel55 ih55 =>
      intro h2 σ2 l v hm55 F2 M2 W2 e2 hs hb hask hA hv hT
      have hm0 := hm
      have hm : LM h2.kd h2.gl h2.fr m := LM.fm F2 hm0
      have en : σ2.n = σ.n := by rw [e2]; rfl
      have erk : σ2.rk = σ.rk := by rw [e2]; rfl
      refine r_iload_n (q := 56) (z := 1) C 1 rfl (by decide +kernel) rfl rfl ?_
      refine r_if_lt (q := 59) (off := 41) (tgt := 97) C rfl (by decide +kernel) (by decide) (fun c56 => ?_) (fun c56 => ?_)
      · have hl0 : l = [] := by
          cases l with
          | nil => rfl
          | cons a t => rw [hv] at c56; exact absurd (bx_neg.mp c56) (by show ¬ ¬ a < 10; have := hb a List.mem_cons_self; have := W.1; omega)
        subst hl0
        have hσ : σ2 = p1 σ L := hT
        rw [hσ] at M2 W2 e2
        refine r_iconst (q := 98) (z := 0) (v := 0) C rfl (by decide +kernel) (by decide) ?_
        refine r_istore_n (q := 99) (z := 1) C 1 rfl (by decide +kernel) rfl (by decide) (by first | rfl | exact okst_rv rfl) ?_
        dsimp only [List.set]
        have z0 := L99 (σ.n + 1) h2 0 (by omega) F2 M2 W2 e2 (by omega)
        rw [mix_0, row_self] at z0
        exact z0
      · obtain ⟨a, t, rfl⟩ : ∃ a t, l = a :: t := by
          cases l with
          | nil => rw [hv] at c56; exact absurd (by decide) c56
          | cons a t => exact ⟨a, t, rfl⟩
        rw [List.pairwise_cons] at hs
        have hr : a < σ.n := hb a List.mem_cons_self
        have r10 := W.1
        have hva : v = nI a := hv.trans (bx_in (show a < 10 by omega))
        subst hva
        refine r_aload_n (q := 60) (z := 0) C 0 rfl (by decide +kernel) rfl rfl ?_
        refine r_getR (q := 63) C 7 30 478 rfl (by decide +kernel) rfl (by decide) rfl rfl wf_X7_103 win7 hm.1 ?_
        refine r_iload_n (q := 64) (z := 1) C 1 rfl (by decide +kernel) rfl rfl ?_
        refine r_aload_n (q := 65) (z := 0) C 0 rfl (by decide +kernel) rfl rfl ?_
        refine r_iload_n (q := 66) (z := 1) C 1 rfl (by decide +kernel) rfl rfl ?_
        refine r_aload_n (q := 67) (z := 0) C 0 rfl (by decide +kernel) rfl rfl ?_
        refine r_getR (q := 70) C 7 31 479 rfl (by decide +kernel) rfl (by decide) rfl rfl wf_X7_106 win7 hm.1 ?_
        refine r_iload_n (q := 71) (z := 1) C 1 rfl (by decide +kernel) rfl rfl ?_
        refine r_iald (q := 72) C rfl (by decide +kernel) hm.k479 (vp_in_nI (by omega) (by decide)) ?_
        rw [nI_clamp (by omega), M2.art (by omega)]
        have hrt : σ2.rt a = σ.rt a := by rw [e2]; rfl
        rw [hrt, pl_in (hask a List.mem_cons_self).2]
        refine cV2I (q := 75) C R rfl (by decide +kernel) lk_X7_323 (c_X7_fitsAt hm M2 W2 (by rw [en]; exact hr) (hask a List.mem_cons_self).2) (by decide) (by decide) (by decide) rfl (by first | exact Nat.le_of_ble_eq_true rfl | (simp only [List.map_cons, List.map_nil, List.sum_cons, List.sum_nil, rv_cat]; exact Nat.le_of_ble_eq_true rfl)) rfl hm.1 ?_
        rintro _ _ ⟨t72, f72, g72, rfl, ht72, rfl⟩
        refine r_if_eq (q := 78) (off := 12) (tgt := 87) C rfl (by decide +kernel) (by decide) (fun c75 => ?_) (fun c75 => ?_)
        · have hfit : ¬ σ2.fit a (σ2.rt a) := fun e => by rw [hrt] at e; have := ht72.mpr e; rw [(b2i_0 _).mp c75] at this; cases this
          obtain ⟨σ3, h3⟩ : ∃ z, z = lay1 σ2 a := ⟨_, rfl⟩
          have h3f : σ3 = σ2.li_ (upN σ2.li a 240) := by rw [h3, lay1, cif_f hfit, show (240 : Nat) = σ2.li a from by have h9 := (W2.2.2.2.1 a (by omega)).1; have h8 := (hask a List.mem_cons_self).1; omega, upN_self]; rfl
          obtain ⟨vv, hvv⟩ : ∃ z : Int32, z = -1 := ⟨_, rfl⟩
          have hpv : vv = pl 240 := hvv
          have W3 : WF σ3 := by rw [h3]; exact WF.lay1 W2 (by rw [en]; exact hr)
          refine r_iconst (q := 88) (z := (-1)) (v := vv) C rfl (by decide +kernel) (by rw [hvv]; decide) ?_
          refine r_iast (q := 89) C rfl (by decide +kernel) rfl hm.k478 (vp_in_nI (by omega) (by decide)) ?_
          try simp only [fr_row]
          rw [stI_row, nI_clamp (by omega)]
          have M3 := MR.li_up (h := scr h2 m f72 g72) (r := a) hm (M2.scr hm) hpv
          rw [← h3f] at M3
          have n3 : σ3.n = σ.n := by rw [h3f]; exact en
          have rk3 : σ3.rk = σ.rk := by rw [h3f]; exact erk
          have e9 : ∀ X, σ2.li_ X = σ.li_ X := fun X => by rw [e2]; rfl
          have e3 : σ3 = σ.li_ σ3.li := by rw [h3f]; exact e9 _
          have hli3 : ∀ j ∈ t, σ3.li j = σ2.li j := fun j hj => by rw [h3f]; exact upN_n (fun e => by have := hs.1 j hj; rw [e] at this; unfold bfr at this; omega)
          have hask3 : ∀ j ∈ t, ¬ σ3.li j < 240 ∧ σ.rt j < 240 := fun j hj => by rw [hli3 j hj]; exact hask j (List.mem_cons_of_mem _ hj)
          have hT3 : t.foldl lay1 σ3 = p1 σ L := by rw [h3]; exact hT
          have as90 : Fl (((scr h2 m f72 g72).row (h2.fr 478 m) (upd ((scr h2 m f72 g72).ai (h2.fr 478 m)) a vv)).ai (((scr h2 m f72 g72).row (h2.fr 478 m) (upd ((scr h2 m f72 g72).ai (h2.fr 478 m)) a vv)).fr 488 m)) (fun j => decide (j ∈ t)) σ3.n := by
            show Fl (((scr h2 m f72 g72).row (h2.fr 478 m) (upd ((scr h2 m f72 g72).ai (h2.fr 478 m)) a vv)).ai (h2.fr 488 m)) _ _
            rw [ai_row_ne (gl_ne hm.g488 hm.g478 (by decide))]
            show Fl (((h2.row (h2.fr 486 m) _).row (h2.fr 487 m) _).ai (h2.fr 488 m)) _ _
            rw [ai_row_ne (gl_ne hm.g488 hm.g487 (by decide)), ai_row_ne (gl_ne hm.g488 hm.g486 (by decide)), n3]
            exact hA
          refine r_aload_n (q := 90) (z := 0) C 0 rfl (by decide +kernel) rfl rfl ?_
          refine cV0I (q := 93) C R rfl (by decide +kernel) lk_X7_326 (c_X7_nextAsked (as := fun j => decide (j ∈ t)) hm M3 W3 as90) (by decide) (by decide) (by decide) rfl (by first | exact Nat.le_of_ble_eq_true rfl | (simp only [List.map_cons, List.map_nil, List.sum_cons, List.sum_nil, rv_cat]; exact Nat.le_of_ble_eq_true rfl)) rfl hm.1 ?_
          rintro _ h90 ⟨rfl, n90⟩
          obtain ⟨M90, F90, A90⟩ := nxt_facts (h := (scr h2 m f72 g72).row (h2.fr 478 m) (upd ((scr h2 m f72 g72).ai (h2.fr 478 m)) a vv)) hm M3 W3 as90 n90
          have hbest : bestN σ3 (fun j => decide (j ∈ t)) σ3.n = hd10 t := best_hd (by rw [show bfr σ3 = bfr σ by unfold bfr; rw [rk3]]; exact hs.2) W3.1 (fun j _ => by simp) (fun j hj => by rw [n3]; exact hb j (List.mem_cons_of_mem _ hj))
          have F90t : Fm [478, 486, 487, 488] [448] h h90 := by
            refine Fm.tr ?_ (F90.mono (by decide) (by decide))
            refine Fm.row (Fm.sc (F2) hm0 (by decide) (by decide)) ?_
            rw [F2.2.1, hm0.g478]; decide
          have hA3 : Fl (h90.ai (h90.fr 488 m)) (fun j => decide (j ∈ t.tail)) σ.n := fun j hj => by
            rw [A90 j (by rw [n3]; exact hj), hbest]
            exact congrArg b2i (tail_flag (Srt.nd hs.2) (by simp))
          have hv3 : bx (bestN σ3 (fun j => decide (j ∈ t)) σ3.n) = bx (hd10 t) := by rw [hbest]
          refine r_istore_n (q := 94) (z := 1) C 1 rfl (by decide +kernel) rfl (by decide) (by first | rfl | exact okst_rv rfl) ?_
          dsimp only [List.set]
          refine r_goto (off := -39) (tgt := 55) C (by decide +kernel) (by decide) ?_
          exact ih55 h90 σ3 t _ (by simp at hm55 ⊢; omega) F90t M90 W3 e3 hs.2 (fun j hj => hb j (List.mem_cons_of_mem _ hj)) hask3 hA3 hv3 hT3
        · have hfit : σ2.fit a (σ2.rt a) := by rw [hrt]; exact ht72.mp ((b2i_n0 _).mp c75)
          obtain ⟨σ3, h3⟩ : ∃ z, z = lay1 σ2 a := ⟨_, rfl⟩
          have h3f : σ3 = σ2.li_ (upN σ2.li a (σ.rt a)) := by rw [h3, lay1, cif_t hfit, hrt]
          obtain ⟨vv, hvv⟩ : ∃ z : Int32, z = nI (σ.rt a) := ⟨_, rfl⟩
          have hpv : vv = pl (σ.rt a) := hvv.trans (pl_in (hask a List.mem_cons_self).2).symm
          have W3 : WF σ3 := by rw [h3]; exact WF.lay1 W2 (by rw [en]; exact hr)
          refine r_aload_n (q := 79) (z := 0) C 0 rfl (by decide +kernel) rfl rfl ?_
          refine r_getR (q := 82) C 7 31 479 rfl (by decide +kernel) rfl (by decide) rfl rfl wf_X7_106 win7 hm.1 ?_
          refine r_iload_n (q := 83) (z := 1) C 1 rfl (by decide +kernel) rfl rfl ?_
          refine r_iald (q := 84) C rfl (by decide +kernel) hm.k479 (vp_in_nI (by omega) (by decide)) ?_
          rw [nI_clamp (by omega), (M2.scr hm).art (by omega), hrt, pl_in (hask a List.mem_cons_self).2, ← hvv]
          refine r_goto (off := 4) (tgt := 88) C (by decide +kernel) (by decide) ?_
          refine r_iast (q := 89) C rfl (by decide +kernel) rfl hm.k478 (vp_in_nI (by omega) (by decide)) ?_
          try simp only [fr_row]
          rw [stI_row, nI_clamp (by omega)]
          have M3 := MR.li_up (h := scr h2 m f72 g72) (r := a) hm (M2.scr hm) hpv
          rw [← h3f] at M3
          have n3 : σ3.n = σ.n := by rw [h3f]; exact en
          have rk3 : σ3.rk = σ.rk := by rw [h3f]; exact erk
          have e9 : ∀ X, σ2.li_ X = σ.li_ X := fun X => by rw [e2]; rfl
          have e3 : σ3 = σ.li_ σ3.li := by rw [h3f]; exact e9 _
          have hli3 : ∀ j ∈ t, σ3.li j = σ2.li j := fun j hj => by rw [h3f]; exact upN_n (fun e => by have := hs.1 j hj; rw [e] at this; unfold bfr at this; omega)
          have hask3 : ∀ j ∈ t, ¬ σ3.li j < 240 ∧ σ.rt j < 240 := fun j hj => by rw [hli3 j hj]; exact hask j (List.mem_cons_of_mem _ hj)
          have hT3 : t.foldl lay1 σ3 = p1 σ L := by rw [h3]; exact hT
          have as90 : Fl (((scr h2 m f72 g72).row (h2.fr 478 m) (upd ((scr h2 m f72 g72).ai (h2.fr 478 m)) a vv)).ai (((scr h2 m f72 g72).row (h2.fr 478 m) (upd ((scr h2 m f72 g72).ai (h2.fr 478 m)) a vv)).fr 488 m)) (fun j => decide (j ∈ t)) σ3.n := by
            show Fl (((scr h2 m f72 g72).row (h2.fr 478 m) (upd ((scr h2 m f72 g72).ai (h2.fr 478 m)) a vv)).ai (h2.fr 488 m)) _ _
            rw [ai_row_ne (gl_ne hm.g488 hm.g478 (by decide))]
            show Fl (((h2.row (h2.fr 486 m) _).row (h2.fr 487 m) _).ai (h2.fr 488 m)) _ _
            rw [ai_row_ne (gl_ne hm.g488 hm.g487 (by decide)), ai_row_ne (gl_ne hm.g488 hm.g486 (by decide)), n3]
            exact hA
          refine r_aload_n (q := 90) (z := 0) C 0 rfl (by decide +kernel) rfl rfl ?_
          refine cV0I (q := 93) C R rfl (by decide +kernel) lk_X7_326 (c_X7_nextAsked (as := fun j => decide (j ∈ t)) hm M3 W3 as90) (by decide) (by decide) (by decide) rfl (by first | exact Nat.le_of_ble_eq_true rfl | (simp only [List.map_cons, List.map_nil, List.sum_cons, List.sum_nil, rv_cat]; exact Nat.le_of_ble_eq_true rfl)) rfl hm.1 ?_
          rintro _ h90 ⟨rfl, n90⟩
          obtain ⟨M90, F90, A90⟩ := nxt_facts (h := (scr h2 m f72 g72).row (h2.fr 478 m) (upd ((scr h2 m f72 g72).ai (h2.fr 478 m)) a vv)) hm M3 W3 as90 n90
          have hbest : bestN σ3 (fun j => decide (j ∈ t)) σ3.n = hd10 t := best_hd (by rw [show bfr σ3 = bfr σ by unfold bfr; rw [rk3]]; exact hs.2) W3.1 (fun j _ => by simp) (fun j hj => by rw [n3]; exact hb j (List.mem_cons_of_mem _ hj))
          have F90t : Fm [478, 486, 487, 488] [448] h h90 := by
            refine Fm.tr ?_ (F90.mono (by decide) (by decide))
            refine Fm.row (Fm.sc (F2) hm0 (by decide) (by decide)) ?_
            rw [F2.2.1, hm0.g478]; decide
          have hA3 : Fl (h90.ai (h90.fr 488 m)) (fun j => decide (j ∈ t.tail)) σ.n := fun j hj => by
            rw [A90 j (by rw [n3]; exact hj), hbest]
            exact congrArg b2i (tail_flag (Srt.nd hs.2) (by simp))
          have hv3 : bx (bestN σ3 (fun j => decide (j ∈ t)) σ3.n) = bx (hd10 t) := by rw [hbest]
          refine r_istore_n (q := 94) (z := 1) C 1 rfl (by decide +kernel) rfl (by decide) (by first | rfl | exact okst_rv rfl) ?_
          dsimp only [List.set]
          refine r_goto (off := -39) (tgt := 55) C (by decide +kernel) (by decide) ?_
          exact ih55 h90 σ3 t _ (by simp at hm55 ⊢; omega) F90t M90 W3 e3 hs.2 (fun j hj => hb j (List.mem_cons_of_mem _ hj)) hask3 hA3 hv3 hT3
  refine r_iconst (q := 6) (z := 0) (v := 0) C rfl (by decide +kernel) (by decide) ?_
  refine r_istore_n (q := 7) (z := 1) C 1 rfl (by decide +kernel) rfl (by decide) (by first | rfl | exact okst_rv rfl) ?_
  dsimp only [List.set]
  have L7 : ∀ (fuel7 : Nat) (k : Nat), σ.n - k < fuel7 → (k ≤ σ.n) → wX G Γ (qM G Γ PP 0 0) 0 0 ((h.setI 448 m 0).row (h.fr 488 m) (mix (fun r => b2i (ask1 σ r)) (h.ai (h.fr 488 m)) k)) 7 [some (rv m), some (.int (nI k))] [] := by
    intro fuel7
    induction fuel7 with
    | zero =>
      intro k hm7
      exact absurd hm7 (Nat.not_lt_zero _)
    | succ fuel7 ih7 =>
      intro k hm7 hk
      have M7 : MR σ ((h.setI 448 m 0).row (h.fr 488 m) (mix (fun r => b2i (ask1 σ r)) (h.ai (h.fr 488 m)) k)) m := MR.row (h := h.setI 448 m 0) hm M1 (by show h.gl (h.fr 488 m) ∉ _; rw [hm.g488]; decide)
      refine r_iload_n (q := 8) (z := 1) C 1 rfl (by decide +kernel) rfl rfl ?_
      refine r_aload_n (q := 9) (z := 0) C 0 rfl (by decide +kernel) rfl rfl ?_
      refine r_getI (q := 12) C 7 24 472 rfl (by decide +kernel) rfl (by decide) rfl rfl wf_X7_243 win7 hm.1 ?_
      rw [fi_row, M1.fn]
      refine r_icmp_ge (q := 15) (off := 38) (tgt := 50) C rfl (by decide +kernel) (by decide) (fun c12 => ?_) (fun c12 => ?_)
      · have ek : k = σ.n := by have := (nI_leI (by omega) (by omega)).mp c12; omega
        subst ek
        refine r_aload_n (q := 51) (z := 0) C 0 rfl (by decide +kernel) rfl rfl ?_
        refine cV0I (q := 54) C R rfl (by decide +kernel) lk_X7_326 (c_X7_nextAsked hm M7 W (fun j hj => by rw [fr_row, fr_setI, ai_row_eq, mix_in hj])) (by decide) (by decide) (by decide) rfl (by first | exact Nat.le_of_ble_eq_true rfl | (simp only [List.map_cons, List.map_nil, List.sum_cons, List.sum_nil, rv_cat]; exact Nat.le_of_ble_eq_true rfl)) rfl hm.1 ?_
        rintro _ h51 ⟨rfl, n51⟩
        obtain ⟨M51, F51, A51⟩ := nxt_facts (h := (h.setI 448 m 0).row (h.fr 488 m) _) hm M7 W (fun j hj => by rw [fr_row, fr_setI, ai_row_eq, mix_in hj]) n51
        have hbest : bestN σ (ask1 σ) σ.n = hd10 (L.filter (ask1 σ)) := best_hd (hL.1.filter _) W.1 (fun j hj => by rw [List.mem_filter, hL.2]; exact ⟨fun e => ⟨hj, e⟩, fun e => e.2⟩) (fun j hj => (hL.2 j).mp (List.mem_filter.mp hj).1)
        have F51t : Fm [478, 486, 487, 488] [448] h h51 := Fm.tr (Fm.row (Fm.rf.setI (by decide)) (by rw [hm.g488]; decide)) (F51.mono (by decide) (by decide))
        have hask0 : ∀ j ∈ L.filter (ask1 σ), ¬ σ.li j < 240 ∧ σ.rt j < 240 := fun j hj => by have := (List.mem_filter.mp hj).2; simp only [ask1, Bool.and_eq_true, decide_eq_true_eq] at this; exact this
        have hnd := Srt.nd (hL.1.filter (ask1 σ))
        have hA0 : Fl (h51.ai (h51.fr 488 m)) (fun j => decide (j ∈ (L.filter (ask1 σ)).tail)) σ.n := fun j hj => by
          rw [A51 j hj, hbest]
          have hmem : ask1 σ j = true ↔ j ∈ L.filter (ask1 σ) := by rw [List.mem_filter, hL.2]; exact ⟨fun e => ⟨hj, e⟩, fun e => e.2⟩
          exact congrArg b2i (tail_flag hnd hmem)
        have hv0 : bx (bestN σ (ask1 σ) σ.n) = bx (hd10 (L.filter (ask1 σ))) := by rw [hbest]
        refine r_istore_n (q := 55) (z := 1) C 1 rfl (by decide +kernel) rfl (by decide) (by first | rfl | exact okst_rv rfl) ?_
        dsimp only [List.set]
        exact L55 ((L.filter (ask1 σ)).length + 1) h51 σ (L.filter (ask1 σ)) _ (by omega) F51t M51 W rfl (hL.1.filter _) (fun j hj => (hL.2 j).mp (List.mem_filter.mp hj).1) hask0 hA0 hv0 (p1_eq hL).symm
      · have hlt : k < σ.n := Nat.lt_of_not_le (fun e => c12 (nI_le e (by omega)))
        refine r_aload_n (q := 16) (z := 0) C 0 rfl (by decide +kernel) rfl rfl ?_
        refine r_getR (q := 19) C 7 40 488 rfl (by decide +kernel) rfl (by decide) rfl rfl wf_X7_127 win7 hm.1 ?_
        refine r_iload_n (q := 20) (z := 1) C 1 rfl (by decide +kernel) rfl rfl ?_
        refine r_aload_n (q := 21) (z := 0) C 0 rfl (by decide +kernel) rfl rfl ?_
        refine r_getR (q := 24) C 7 30 478 rfl (by decide +kernel) rfl (by decide) rfl rfl wf_X7_103 win7 hm.1 ?_
        refine r_iload_n (q := 25) (z := 1) C 1 rfl (by decide +kernel) rfl rfl ?_
        refine r_iald (q := 26) C rfl (by decide +kernel) hm.k478 (vp_in_nI (by omega) (by decide)) ?_
        rw [nI_clamp (by omega), M7.ali (by omega)]
        refine r_if_ge (q := 29) (off := 16) (tgt := 42) C rfl (by decide +kernel) (by decide) (fun c26 => ?_) (fun c26 => ?_)
        · have ev : b2i (ask1 σ k) = 0 := by simp [ask1, pl_le.mp c26, b2i]
          refine r_iconst (q := 43) (z := 0) (v := b2i (ask1 σ k)) C rfl (by decide +kernel) (by rw [ev]; decide) ?_
          refine r_zast (q := 44) C rfl (by decide +kernel) (by first | exact b2i_vn _ | rfl) hm.k488 (vp_in_nI (by omega) (by decide)) ?_
          try simp only [fr_row, fr_setI]
          rw [row_stI, nI_clamp (by omega), mix_s (fun r => b2i (ask1 σ r))]
          refine r_iinc (q := 47) (z := 1) (v := 1) C 1 rfl (by decide +kernel) rfl (by decide) (by decide) (by first | rfl | exact okst_rv rfl) ?_
          dsimp only [List.set]
          rw [nI_1]
          refine r_goto (off := -40) (tgt := 7) C (by decide +kernel) (by decide) ?_
          exact ih7 (k + 1) (by omega) (by omega)
        · have c26 := mt pl_le.mpr c26
          refine r_aload_n (q := 30) (z := 0) C 0 rfl (by decide +kernel) rfl rfl ?_
          refine r_getR (q := 33) C 7 31 479 rfl (by decide +kernel) rfl (by decide) rfl rfl wf_X7_106 win7 hm.1 ?_
          refine r_iload_n (q := 34) (z := 1) C 1 rfl (by decide +kernel) rfl rfl ?_
          refine r_iald (q := 35) C rfl (by decide +kernel) hm.k479 (vp_in_nI (by omega) (by decide)) ?_
          rw [nI_clamp (by omega), M7.art (by omega)]
          refine r_if_lt (q := 38) (off := 7) (tgt := 42) C rfl (by decide +kernel) (by decide) (fun c35 => ?_) (fun c35 => ?_)
          · have ev : b2i (ask1 σ k) = 0 := by simp [ask1, pl_neg.mp c35, b2i]
            refine r_iconst (q := 43) (z := 0) (v := b2i (ask1 σ k)) C rfl (by decide +kernel) (by rw [ev]; decide) ?_
            refine r_zast (q := 44) C rfl (by decide +kernel) (by first | exact b2i_vn _ | rfl) hm.k488 (vp_in_nI (by omega) (by decide)) ?_
            try simp only [fr_row, fr_setI]
            rw [row_stI, nI_clamp (by omega), mix_s (fun r => b2i (ask1 σ r))]
            refine r_iinc (q := 47) (z := 1) (v := 1) C 1 rfl (by decide +kernel) rfl (by decide) (by decide) (by first | rfl | exact okst_rv rfl) ?_
            dsimp only [List.set]
            rw [nI_1]
            refine r_goto (off := -40) (tgt := 7) C (by decide +kernel) (by decide) ?_
            exact ih7 (k + 1) (by omega) (by omega)
          · have ev : b2i (ask1 σ k) = 1 := by simp [ask1, pl_nn.mp c35, c26, b2i]
            refine r_iconst (q := 39) (z := 1) (v := b2i (ask1 σ k)) C rfl (by decide +kernel) (by rw [ev]; decide) ?_
            refine r_goto (off := 4) (tgt := 43) C (by decide +kernel) (by decide) ?_
            refine r_zast (q := 44) C rfl (by decide +kernel) (by first | exact b2i_vn _ | rfl) hm.k488 (vp_in_nI (by omega) (by decide)) ?_
            try simp only [fr_row, fr_setI]
            rw [row_stI, nI_clamp (by omega), mix_s (fun r => b2i (ask1 σ r))]
            refine r_iinc (q := 47) (z := 1) (v := 1) C 1 rfl (by decide +kernel) rfl (by decide) (by decide) (by first | rfl | exact okst_rv rfl) ?_
            dsimp only [List.set]
            rw [nI_1]
            refine r_goto (off := -40) (tgt := 7) C (by decide +kernel) (by decide) ?_
            exact ih7 (k + 1) (by omega) (by omega)
  have z0 := L7 (σ.n + 1) 0 (by omega) (by omega)
  rw [mix_0, show (h.setI 448 m 0).row (h.fr 488 m) (h.ai (h.fr 488 m)) = h.setI 448 m 0 from row_self] at z0
  exact z0
