/-! ===== what every call keeps ===== -/
theorem fre_t {σ : SG} {c : Nat} : σ.fre c = true ↔ σ.cl c = false ∧ ∀ r, r < σ.n → σ.cv r c = false := by
  unfold SG.fre
  rw [Bool.and_eq_true, Bool.not_eq_true', Bool.not_eq_true', anyb_f]
theorem JN.take {σ : SG} (J : JN σ) {r : Nat} : JN (σ.li_ (upN σ.li r 240)) := by
  obtain ⟨j1, j2, j3⟩ := J
  have hcv : ∀ q c, (σ.li_ (upN σ.li r 240)).cv q c = true → q ≠ r ∧ σ.cv q c = true := by
    intro q c h
    have h : (decide (upN σ.li r 240 q < 240) && σ.cA q (upN σ.li r 240 q) c) = true := h
    by_cases e : q = r
    · subst e; rw [upN_s] at h; simp at h
    · rw [upN_n e] at h; exact ⟨e, h⟩
  have hf : ∀ c, (!σ.fre c) = false → (!(σ.li_ (upN σ.li r 240)).fre c) = false := by
    intro c h
    rw [Bool.not_eq_false'] at h ⊢
    rw [fre_t] at h ⊢
    refine ⟨h.1, fun q hq => ?_⟩
    cases e : (σ.li_ (upN σ.li r 240)).cv q c with
    | false => rfl
    | true => have := (hcv q c e).2; rw [h.2 q hq] at this; cases this
  refine ⟨fun q hq hl => ?_, fun q c hq hc h => j2 q c hq hc (hcv q c h).2, fun q q' c hq hq' hc h h' => j3 q q' c hq hq' hc (hcv q c h).2 (hcv q' c h').2⟩
  have hl : upN σ.li r 240 q < 240 := hl
  by_cases e : q = r
  · subst e; rw [upN_s] at hl; omega
  · rw [upN_n e] at hl
    have ed : (σ.li_ (upN σ.li r 240)).dr q = σ.dr q := by show σ.dA q (upN σ.li r 240 q) = σ.dA q (σ.li q); rw [upN_n e]
    rw [ed]
    exact (j1 q hq hl).mono hf
theorem JN.lay {σ : SG} (J : JN σ) {r p : Nat} (hr : r < σ.n) (hl0 : ¬ σ.li r < 240) (hp : p < 240) (F : σ.fit r p) : JN (σ.li_ (upN σ.li r p)) := by
  obtain ⟨j1, j2, j3⟩ := J
  have hcv : ∀ q c, (σ.li_ (upN σ.li r p)).cv q c = if q = r then σ.cA r p c else σ.cv q c := by
    intro q c
    show (decide (upN σ.li r p q < 240) && σ.cA q (upN σ.li r p q) c) = _
    by_cases e : q = r
    · subst e; rw [upN_s, if_pos rfl, decide_eq_true hp, Bool.true_and]
    · rw [upN_n e, if_neg e]; rfl
  have hcr : ∀ c, σ.cv r c = false := fun c => by show (decide (σ.li r < 240) && _) = false; rw [decide_eq_false hl0, Bool.false_and]
  have hb : (fun c => !(σ.li_ (upN σ.li r p)).fre c) = σ.bar r p := by
    funext c
    show (!(σ.li_ (upN σ.li r p)).fre c) = (!σ.fre c || σ.cA r p c)
    have e1 : (σ.li_ (upN σ.li r p)).fre c = true ↔ (σ.fre c = true ∧ σ.cA r p c = false) := by
      rw [fre_t, fre_t]
      constructor
      · rintro ⟨a, b⟩
        refine ⟨⟨a, fun q hq => ?_⟩, ?_⟩
        · by_cases e : q = r
          · rw [e]; exact hcr c
          · have := b q hq; rw [hcv, if_neg e] at this; exact this
        · have := b r hr; rw [hcv, if_pos rfl] at this; exact this
      · rintro ⟨⟨a, b⟩, d⟩
        refine ⟨a, fun q hq => ?_⟩
        rw [hcv]
        by_cases e : q = r
        · rw [if_pos e]; exact d
        · rw [if_neg e]; exact b q hq
    cases h1 : (σ.li_ (upN σ.li r p)).fre c <;> cases h2 : σ.fre c <;> cases h3 : σ.cA r p c <;> rw [h1, h2, h3] at e1 <;> simp at e1 ⊢
  obtain ⟨f1, f2, f3⟩ := F
  refine ⟨fun q hq hl => ?_, fun q c hq hc h => ?_, fun q q' c hq hq' hc h h' => ?_⟩
  · rw [hb]
    show RS (σ.bar r p) (12 * σ.gr) (σ.dA q (upN σ.li r p q))
    have hl : upN σ.li r p q < 240 := hl
    by_cases e : q = r
    · subst e; rw [upN_s]; exact f3
    · rw [upN_n e] at hl ⊢; exact f2 q hq hl
  · show σ.cl c = false
    rw [hcv] at h
    by_cases e : q = r
    · rw [if_pos e] at h; exact (fre_t.mp (f1.2.2.2.1 c hc h)).1
    · rw [if_neg e] at h; exact j2 q c hq hc h
  · rw [hcv] at h h'
    by_cases e : q = r <;> by_cases e' : q' = r
    · rw [e, e']
    · rw [if_pos e] at h; rw [if_neg e'] at h'
      rw [(fre_t.mp (f1.2.2.2.1 c hc h)).2 q' hq'] at h'; cases h'
    · rw [if_neg e] at h; rw [if_pos e'] at h'
      rw [(fre_t.mp (f1.2.2.2.1 c hc h')).2 q hq] at h; cases h
    · rw [if_neg e] at h; rw [if_neg e'] at h'; exact j3 q q' c hq hq' hc h h'
theorem JN.close {σ : SG} (J : JN σ) {c : Nat} {t : Bool} (hb : ¬ σ.bad c) (hj : t = true → σ.jn c) : JN (σ.cl_ (upN σ.cl c t)) := by
  obtain ⟨j1, j2, j3⟩ := J
  have hn : ∀ q, q < σ.n → σ.cv q c = false := by
    intro q hq
    cases e : σ.cv q c with
    | false => rfl
    | true => exact absurd (Or.inl (anyb_iff.mpr ⟨q, hq, e⟩)) hb
  refine ⟨fun q hq hl => ?_, fun q k hq hk h => ?_, j3⟩
  · cases t with
    | true =>
      have e : (fun k => !(σ.cl_ (upN σ.cl c true)).fre k) = (fun k => !σ.fre k || decide (k = c)) := by
        funext k
        show (!(!upN σ.cl c true k && !anyb (fun r => σ.cv r k) σ.n)) = (!(!σ.cl k && !anyb (fun r => σ.cv r k) σ.n) || decide (k = c))
        by_cases e : k = c
        · subst e; rw [upN_s]; simp
        · rw [upN_n e, decide_eq_false e, Bool.or_false]
      rw [e]; exact hj rfl q hq hl
    | false =>
      refine (j1 q hq hl).mono (fun k h => ?_)
      show (!(!upN σ.cl c false k && !anyb (fun r => σ.cv r k) σ.n)) = false
      have h : (!(!σ.cl k && !anyb (fun r => σ.cv r k) σ.n)) = false := h
      by_cases e : k = c
      · subst e; rw [upN_s]
        rw [anyb_f.mpr hn]; rfl
      · rw [upN_n e]; exact h
  · show upN σ.cl c t k = false
    have hh : σ.cv q k = true := h
    by_cases e : k = c
    · rw [e, hn q hq] at hh; cases hh
    · rw [upN_n e]; exact j2 q k hq hk hh
theorem JN.none {σ : SG} (h : ∀ q, q < σ.n → ¬ σ.li q < 240) : JN σ := by
  have hc : ∀ q c, q < σ.n → σ.cv q c = true → False := fun q c hq e => by
    have e : (decide (σ.li q < 240) && σ.cA q (σ.li q) c) = true := e
    rw [decide_eq_false (h q hq), Bool.false_and] at e; cases e
  exact ⟨fun q hq hl => absurd hl (h q hq), fun q c hq _ e => (hc q c hq e).elim, fun q q' c hq _ _ e _ => (hc q c hq e).elim⟩
theorem JN.gate {σ : SG} {y : Int32} (h : gtP σ y) : JN (σ.gr_ y.toNatClampNeg) := JN.none (lyN_0.mp h.2.1)
theorem WF.gate {σ : SG} (W : WF σ) {y : Int32} (h : gtP σ y) : WF (σ.gr_ y.toNatClampNeg) := by
  obtain ⟨h1, h2, h3⟩ := W
  have : y.toNatClampNeg < 10 := by
    obtain ⟨j, hj, rfl⟩ := nI_of (Int32.not_lt.mpr h.1.1)
    rw [nI_clamp hj]
    exact (nI_ltI (b := 10) hj (by decide)).mp h.1.2
  exact ⟨h1, this, h3⟩
theorem upN_id {α : Type} {f : Nat → α} {k : Nat} {v : α} (h : f k = v) : upN f k v = f := by
  funext j
  by_cases e : j = k
  · subst e; rw [upN_s, h]
  · rw [upN_n e]
theorem WF.add {σ : SG} (W : WF σ) {w z p s k : Nat} (hw : 1 ≤ w ∧ w ≤ 4) (hz : 1 ≤ z ∧ z ≤ 4) (hp : p ≤ 100) (hs : s ≤ 9) (hk : k ≤ 99) (hn : σ.n < 10) : WF (σ.add w z p s k) := by
  obtain ⟨h1, h2, h3, h4, h5, h6⟩ := W
  have hz0 := h4 σ.n hn
  have ho : ∀ r q, r < σ.n → σ.onG r q → (σ.add w z p s k).onG r q := fun r q hr ho => by
    have e : r ≠ σ.n := by omega
    show px q + wAt (upN σ.wd σ.n w r) (upN σ.hg σ.n z r) q ≤ 12 ∧ py q + wAt (upN σ.hg σ.n z r) (upN σ.wd σ.n w r) q < 10
    rw [upN_n e, upN_n e]; exact ho
  refine ⟨hn, h2, fun r hr => ?_, fun r hr => ⟨(h4 r hr).1, (h4 r hr).2.1, fun e => (h4 r hr).2.2 (by have : σ.n + 1 ≤ r := e; omega)⟩, fun r hr hl => ?_, fun r hr hl => ?_⟩
  · show 1 ≤ upN σ.wd σ.n w r ∧ upN σ.wd σ.n w r ≤ 4 ∧ 1 ≤ upN σ.hg σ.n z r ∧ upN σ.hg σ.n z r ≤ 4 ∧ upN σ.pw σ.n p r ≤ 100 ∧ upN σ.ns σ.n s r ≤ 9 ∧ upN σ.rk σ.n k r ≤ 99
    have hr : r < σ.n + 1 := hr
    by_cases e : r = σ.n
    · rw [e, upN_s, upN_s, upN_s, upN_s, upN_s]; exact ⟨hw.1, hw.2, hz.1, hz.2, hp, hs, hk⟩
    · rw [upN_n e, upN_n e, upN_n e, upN_n e, upN_n e]; exact h3 r (by omega)
  · have hr : r < σ.n + 1 := hr
    have hl : σ.li r < 240 := hl
    have e : r ≠ σ.n := fun e => by rw [e, (hz0.2.2 (Nat.le_refl _)).1] at hl; omega
    exact ho r _ (by omega) (h5 r (by omega) hl)
  · have hr : r < σ.n + 1 := hr
    have hl : σ.rt r < 240 := hl
    have e : r ≠ σ.n := fun e => by rw [e, (hz0.2.2 (Nat.le_refl _)).2] at hl; omega
    exact ho r _ (by omega) (h6 r (by omega) hl)
theorem JN.add {σ : SG} (W : WF σ) (J : JN σ) {w z p s k : Nat} (hn : σ.n < 10) : JN (σ.add w z p s k) := by
  obtain ⟨j1, j2, j3⟩ := J
  have hli : σ.li σ.n = 240 := ((W.2.2.2.1 σ.n hn).2.2 (Nat.le_refl _)).1
  have hcA : ∀ r q c, r ≠ σ.n → (σ.add w z p s k).cA r q c = σ.cA r q c := fun r q c e => by
    show inn (px q) (py q) (wAt (upN σ.wd σ.n w r) (upN σ.hg σ.n z r) q) (wAt (upN σ.hg σ.n z r) (upN σ.wd σ.n w r) q) c = inn (px q) (py q) (wAt (σ.wd r) (σ.hg r) q) (wAt (σ.hg r) (σ.wd r) q) c
    rw [upN_n e, upN_n e]
  have hcv : ∀ r c, r < σ.n + 1 → (σ.add w z p s k).cv r c = true → r < σ.n ∧ σ.cv r c = true := fun r c hr h => by
    have h : (decide (σ.li r < 240) && (σ.add w z p s k).cA r (σ.li r) c) = true := h
    by_cases e : r = σ.n
    · rw [e, hli] at h; simp at h
    · rw [hcA _ _ _ e] at h; exact ⟨by omega, h⟩
  have hf : ∀ c, (!σ.fre c) = false → (!(σ.add w z p s k).fre c) = false := by
    intro c h
    rw [Bool.not_eq_false'] at h ⊢
    rw [fre_t] at h ⊢
    refine ⟨h.1, fun q hq => ?_⟩
    cases e : (σ.add w z p s k).cv q c with
    | false => rfl
    | true => have h9 := hcv q c hq e; rw [h.2 q h9.1] at h9; cases h9.2
  refine ⟨fun q hq hl => ?_, fun q c hq hc h => j2 q c (hcv q c hq h).1 hc (hcv q c hq h).2, fun q q' c hq hq' hc h h' => j3 q q' c (hcv q c hq h).1 (hcv q' c hq' h').1 hc (hcv q c hq h).2 (hcv q' c hq' h').2⟩
  have hl : σ.li q < 240 := hl
  have hq : q < σ.n + 1 := hq
  have e : q ≠ σ.n := fun e => by rw [e, hli] at hl; omega
  have ed : (σ.add w z p s k).dr q = σ.dr q := by
    show 12 * (py (σ.li q) + wAt (upN σ.hg σ.n z q) (upN σ.wd σ.n w q) (σ.li q)) + px (σ.li q) + (wAt (upN σ.wd σ.n w q) (upN σ.hg σ.n z q) (σ.li q) - 1) / 2 = 12 * (py (σ.li q) + wAt (σ.hg q) (σ.wd q) (σ.li q)) + px (σ.li q) + (wAt (σ.wd q) (σ.hg q) (σ.li q) - 1) / 2
    rw [upN_n e, upN_n e]
  rw [ed]
  exact (j1 q (by omega) hl).mono hf
theorem JN.lay1 {σ : SG} (J : JN σ) {r : Nat} (hr : r < σ.n) (ha : ask1 σ r = true) : JN (lay1 σ r) := by
  unfold ask1 at ha
  rw [Bool.and_eq_true, decide_eq_true_eq, decide_eq_true_eq] at ha
  show JN (cif (σ.fit r (σ.rt r)) (σ.li_ (upN σ.li r (σ.rt r))) σ)
  by_cases e : σ.fit r (σ.rt r)
  · rw [cif_t e]; exact J.lay hr ha.1 ha.2 e
  · rw [cif_f e]; exact J
theorem JN.lay2 {σ : SG} (J : JN σ) {r : Nat} (hr : r < σ.n) (ha : ask2 σ r = true) : JN (lay2 σ r) := by
  obtain ⟨q, hq⟩ := frst_ex σ r
  show JN (σ.li_ (upN σ.li r (fstP σ r)))
  rw [fstP_eq hq]
  by_cases e : q < 240
  · exact J.lay hr (of_decide_eq_true ha) e (hq.2.1 e)
  · have : q = 240 := by have := hq.1; omega
    rw [this]; exact J.take
theorem p1_s (σ : SG) (r : Nat) (L : List Nat) : p1 σ (r :: L) = p1 (if ask1 σ r then lay1 σ r else σ) L := rfl
theorem p2_s (σ : SG) (r : Nat) (L : List Nat) : p2 σ (r :: L) = p2 (if ask2 σ r then lay2 σ r else σ) L := rfl
theorem lay1_n (σ : SG) (r : Nat) : (lay1 σ r).n = σ.n := by rw [(lay1_form σ r).1]; rfl
theorem lay2_n (σ : SG) (r : Nat) : (lay2 σ r).n = σ.n := rfl
theorem JN.ph1 : ∀ {L : List Nat} {σ : SG}, JN σ → (∀ r ∈ L, r < σ.n) → JN (p1 σ L) ∧ (p1 σ L).n = σ.n
  | [], σ, J, _ => ⟨J, rfl⟩
  | r :: L, σ, J, h => by
    rw [p1_s]
    by_cases e : ask1 σ r = true
    · rw [if_pos e]
      have z := JN.ph1 (L := L) (J.lay1 (h r List.mem_cons_self) e) (fun q hq => by rw [lay1_n]; exact h q (List.mem_cons_of_mem _ hq))
      rw [lay1_n] at z; exact z
    · rw [if_neg e]
      exact JN.ph1 (L := L) J (fun q hq => h q (List.mem_cons_of_mem _ hq))
theorem JN.ph2 : ∀ {L : List Nat} {σ : SG}, JN σ → (∀ r ∈ L, r < σ.n) → JN (p2 σ L) ∧ (p2 σ L).n = σ.n
  | [], σ, J, _ => ⟨J, rfl⟩
  | r :: L, σ, J, h => by
    rw [p2_s]
    by_cases e : ask2 σ r = true
    · rw [if_pos e]
      have z := JN.ph2 (L := L) (J.lay2 (h r List.mem_cons_self) e) (fun q hq => by rw [lay2_n]; exact h q (List.mem_cons_of_mem _ hq))
      rw [lay2_n] at z; exact z
    · rw [if_neg e]
      exact JN.ph2 (L := L) J (fun q hq => h q (List.mem_cons_of_mem _ hq))
/-! the year's end -/
theorem WF_end1 {σ : SG} (W : WF σ) (lw : LW) {r : Nat} (hr : r < σ.n) : WF (end1 lw σ r) := by
  obtain ⟨h1, h2, h3, h4, h5, h6⟩ := W
  have key : ∀ v, v ≤ 240 → (v < 240 → σ.onG r v) → (∀ q, q < 10 → upN σ.rt r v q ≤ 240 ∧ (σ.n ≤ q → upN σ.rt r v q = 240)) ∧ ∀ q, q < σ.n → upN σ.rt r v q < 240 → σ.onG q (upN σ.rt r v q) := by
    intro v hv ho
    refine ⟨fun q hq => ?_, fun q hq hl => ?_⟩
    · by_cases e : q = r
      · subst e; rw [upN_s]; exact ⟨hv, fun e => absurd e (by omega)⟩
      · rw [upN_n e]; exact ⟨(h4 q hq).2.1, fun e => ((h4 q hq).2.2 e).2⟩
    · by_cases e : q = r
      · subst e; rw [upN_s] at hl ⊢; exact ho hl
      · rw [upN_n e] at hl ⊢; exact h6 q hq hl
  unfold end1
  split
  · rename_i hl
    obtain ⟨k1, k2⟩ := key (σ.li r) (by omega) (fun _ => h5 r hr hl)
    exact ⟨h1, h2, h3, fun q hq => ⟨(h4 q hq).1, (k1 q hq).1, fun e => ⟨((h4 q hq).2.2 e).1, (k1 q hq).2 e⟩⟩, h5, k2⟩
  · split
    · split
      · obtain ⟨k1, k2⟩ := key 240 (Nat.le_refl _) (fun e => absurd e (by omega))
        exact ⟨h1, h2, h3, fun q hq => ⟨(h4 q hq).1, (k1 q hq).1, fun e => ⟨((h4 q hq).2.2 e).1, (k1 q hq).2 e⟩⟩, h5, k2⟩
      · exact ⟨h1, h2, h3, h4, h5, h6⟩
    · exact ⟨h1, h2, h3, h4, h5, h6⟩
theorem JN_end1 {σ : SG} (J : JN σ) (lw : LW) (r : Nat) : JN (end1 lw σ r) := by
  unfold end1
  split
  · exact J
  · split
    · split <;> exact J
    · exact J
theorem clr_k {σ : SG} {k : Nat} : (clrN σ k).li k = σ.li k ∧ (clrN σ k).sk k = σ.sk k := by
  refine ⟨?_, ?_⟩
  · show (if k < k then 240 else σ.li k) = _; rw [if_neg (Nat.lt_irrefl k)]
  · show (if k < k then false else σ.sk k) = _; rw [if_neg (Nat.lt_irrefl k)]
theorem knw_congr {σ τ : SG} {r : Nat} (h1 : σ.ms r = τ.ms r) (h2 : σ.hd r = τ.hd r) (h3 : σ.sk r = τ.sk r) (h4 : σ.rk r = τ.rk r) (h5 : σ.wd r = τ.wd r) (h6 : σ.hg r = τ.hg r) (h7 : σ.yr = τ.yr) : knw σ r = knw τ r := by
  funext j
  unfold knw
  rw [h1, h2, h3, h4, h5, h6, h7]
theorem clr_ms (σ : SG) (k : Nat) : (clrN σ k).ms = σ.ms := rfl
theorem clr_hd (σ : SG) (k : Nat) : (clrN σ k).hd = σ.hd := rfl
theorem clr_rt (σ : SG) (k : Nat) : (clrN σ k).rt = σ.rt := rfl
theorem clr_rk (σ : SG) (k : Nat) : (clrN σ k).rk = σ.rk := rfl
theorem clr_wd (σ : SG) (k : Nat) : (clrN σ k).wd = σ.wd := rfl
theorem clr_hg (σ : SG) (k : Nat) : (clrN σ k).hg = σ.hg := rfl
theorem clr_ums (σ : SG) (k : Nat) (v : Nat → Nat) : (clrN σ k).ms_ v = clrN (σ.ms_ v) k := rfl
theorem clr_uhd (σ : SG) (k : Nat) (v : Nat → Nat) : (clrN σ k).hd_ v = clrN (σ.hd_ v) k := rfl
theorem clr_urt (σ : SG) (k : Nat) (v : Nat → Nat) : (clrN σ k).rt_ v = clrN (σ.rt_ v) k := rfl
theorem lps_clr {lw : LW} {σ : SG} {k : Nat} : lps lw (clrN σ k) k = lps lw σ k := by
  unfold lps
  rw [clr_ms, knw_congr (σ := (clrN σ k).ms_ (upN σ.ms k (σ.ms k + 1))) (τ := σ.ms_ (upN σ.ms k (σ.ms k + 1))) (by rw [gs_ms_ms, gs_ms_ms]) (by rw [gs_hd_ms, gs_hd_ms, clr_hd]) (by rw [gs_sk_ms, gs_sk_ms, clr_k.2]) (by rw [gs_rk_ms, gs_rk_ms, clr_rk]) (by rw [gs_wd_ms, gs_wd_ms, clr_wd]) (by rw [gs_hg_ms, gs_hg_ms, clr_hg]) (by rw [gs_yr_ms, gs_yr_ms, clr_yr])]
theorem end1_clr {lw : LW} {σ : SG} {k : Nat} : end1 lw (clrN σ k) k = clrN (end1 lw σ k) k := by
  by_cases h1 : σ.li k < 240
  · rw [end1_y h1, end1_y (σ := clrN σ k) (by rw [clr_k.1]; exact h1), clr_k.1, clr_hd, clr_ms, clr_rt, clr_uhd, clr_ums, clr_urt]
  · have h1' : ¬ (clrN σ k).li k < 240 := by rw [clr_k.1]; exact h1
    by_cases h2 : σ.rt k < 240
    · have h2' : (clrN σ k).rt k < 240 := by rw [clr_rt]; exact h2
      cases h3 : lps lw σ k with
      | true => rw [end1_l h1 h2 h3, end1_l (σ := clrN σ k) (lw := lw) h1' h2' (by rw [lps_clr]; exact h3), clr_hd, clr_ms, clr_rt, clr_ums, clr_urt, clr_uhd, clr_ums]
      | false => rw [end1_k h1 h2 h3, end1_k (σ := clrN σ k) (lw := lw) h1' h2' (by rw [lps_clr]; exact h3), clr_ms, clr_ums]
    · rw [end1_0 h1 h2, end1_0 (σ := clrN σ k) h1' (by rw [clr_rt]; exact h2)]
theorem end1_li (lw : LW) (σ : SG) (r : Nat) : (end1 lw σ r).li = σ.li ∧ (end1 lw σ r).sk = σ.sk ∧ (end1 lw σ r).n = σ.n ∧ (end1 lw σ r).yr = σ.yr := ⟨(end1_n lw σ r).2.1, (end1_n lw σ r).2.2.2.1, (end1_n lw σ r).1, (end1_n lw σ r).2.2.1⟩
theorem endS_eq (lw : LW) (σ : SG) : endS lw σ = (clrN (endN lw σ σ.n) σ.n).yr_ (σ.yr + 1) := by unfold endS; rfl
/-- one ride's end, as the class does it -/
theorem end_step {lw : LW} {σ τ : SG} {k : Nat} (h : τ = clrN (endN lw σ k) k) : ((end1 lw τ k).li_ (upN τ.li k 240)).sk_ (upN τ.sk k false) = clrN (endN lw σ (k + 1)) (k + 1) := by
  rw [← clr_s2, endN_s]
  have e : end1 lw τ k = clrN (end1 lw (endN lw σ k) k) k := by rw [h, end1_clr]
  have e1 : τ.li = (clrN (end1 lw (endN lw σ k) k) k).li := by rw [← e, (end1_li lw τ k).1]
  have e2 : τ.sk = (clrN (end1 lw (endN lw σ k) k) k).sk := by rw [← e, (end1_li lw τ k).2.1]
  rw [e, e1, e2]
theorem gon_clr {lw : LW} {σ : SG} {k : Nat} : gon lw (clrN σ k) k = gon lw σ k := by
  unfold gon
  rw [clr_k.1, lps_clr, clr_rt]
theorem WF_endN {σ : SG} (W : WF σ) (lw : LW) : ∀ k, k ≤ σ.n → WF (endN lw σ k)
  | 0, _ => W
  | k + 1, h => WF_end1 (WF_endN W lw k (by omega)) lw (by rw [(endN_n lw σ k).1]; omega)
theorem WF.clr {σ : SG} (W : WF σ) (k : Nat) (hk : k ≤ σ.n) : WF (clrN σ k) := by
  obtain ⟨h1, h2, h3, h4, h5, h6⟩ := W
  refine ⟨h1, h2, h3, fun q hq => ?_, fun q hq hl => ?_, h6⟩
  · show (if q < k then 240 else σ.li q) ≤ 240 ∧ σ.rt q ≤ 240 ∧ (σ.n ≤ q → (if q < k then 240 else σ.li q) = 240 ∧ σ.rt q = 240)
    obtain ⟨a, b, c⟩ := h4 q hq
    split
    · exact ⟨Nat.le_refl _, b, fun e => ⟨rfl, (c e).2⟩⟩
    · exact ⟨a, b, c⟩
  · have hl : (if q < k then 240 else σ.li q) < 240 := hl
    show σ.onG q (if q < k then 240 else σ.li q)
    split at hl
    · omega
    · rename_i e; rw [if_neg e]; exact h5 q hq hl
theorem WF.yr {σ : SG} {v : Nat} (W : WF σ) : WF (σ.yr_ v) := W
theorem WF_endS {σ : SG} (W : WF σ) (lw : LW) : WF (endS lw σ) := by
  unfold endS
  exact WF.yr (WF.clr (WF_endN W lw σ.n (Nat.le_refl _)) σ.n (by rw [(endN_n lw σ σ.n).1]; exact Nat.le_refl _))
theorem JN.clr {σ : SG} : JN (clrN σ σ.n) := JN.none (fun q hq hl => by
  have hq : q < σ.n := hq
  have hl : (if q < σ.n then 240 else σ.li q) < 240 := hl
  rw [if_pos hq] at hl; omega)
theorem JN.yr {σ : SG} {v : Nat} (J : JN σ) : JN (σ.yr_ v) := J
theorem JN_endS {σ : SG} (lw : LW) : JN (endS lw σ) := by
  unfold endS
  refine JN.yr ?_
  have z := JN.clr (σ := endN lw σ σ.n)
  rw [(endN_n lw σ σ.n).1] at z
  exact z
/-! a text asks for six facts alone -/
theorem evf_congr {kn kn' : Nat → Int32} (hk : ∀ q, q < 6 → kn q = kn' q) : ∀ (cd : Cd) (st : List Int32) (a n : Nat), cd.foldl hst (some a) = some n → cd.foldl (evs kn) st = cd.foldl (evs kn') st
  | [], _, _, _, _ => rfl
  | x :: cd, st, a, n, h => by
    rw [List.foldl_cons] at h ⊢
    rw [List.foldl_cons]
    cases e : hst (some a) x with
    | none => rw [e, hst_none] at h; cases h
    | some b =>
      rw [e] at h
      have e2 : evs kn st x = evs kn' st x := by
        rcases hst_inv e with ⟨h1 | h1, -⟩ | ⟨h1, -⟩
        · rw [evs_1 h1.1, evs_1 h1.1]
        · rw [evs_2 h1.1, evs_2 h1.1, hk _ h1.2]
        · unfold evs; rw [if_neg (by omega), if_neg (by omega), if_neg (by omega), if_neg (by omega)]
      rw [e2]
      exact evf_congr hk cd _ b n h
theorem lap_congr {kn kn' : Nat → Int32} (hk : ∀ q, q < 6 → kn q = kn' q) : ∀ {lw : LW}, (∀ ln ∈ lw, hgt ln.2 = some 1) → lapV kn lw = lapV kn' lw
  | [], _ => rfl
  | ln :: t, h => by
    have e : val kn ln.2 = val kn' ln.2 := by
      unfold val evl
      rw [evf_congr hk ln.2 [] 0 1 (h ln List.mem_cons_self)]
    show (if val kn ln.2 = 0 then lapV kn t else ln.1) = (if val kn' ln.2 = 0 then lapV kn' t else ln.1)
    rw [e, lap_congr hk (fun l hl => h l (List.mem_cons_of_mem _ hl))]

theorem CRr.uhd {h : HP} {g r : Nat} {σ : SG} {p : Nat → Nat} {L : List Nat} (v : Nat) (hL : LCl h.kd h.gl h.fr h.ar g σ.n p L) (R : CRr σ h.fi h.fr g p) (hr : r < σ.n) : CRr (σ.hd_ (upN σ.hd r v)) (h.setI 202 (p r) (nI v)).fi h.fr g p := by
  refine CRr.one hL R rfl rfl rfl hr (fun k hk => ⟨rfl, rfl, rfl, rfl, rfl, rfl, rfl, upN_n hk, rfl, rfl⟩) (fun g' a h6 h7 _ => fi_ne2 h6) ?_
  obtain ⟨f1, f2, f3, f4, f5, f6, f7, f8, f9, f10, f11, ⟨t, f12⟩, f13⟩ := R.2.2.2 r hr
  refine ⟨(fi_ne (by decide)).trans f1, (fi_ne (by decide)).trans f2, (fi_ne (by decide)).trans f3, (fi_ne (by decide)).trans f4, (fi_ne (by decide)).trans f5, (fi_ne (by decide)).trans f6, (fi_ne (by decide)).trans f7, (fi_ne (by decide)).trans f8, (fi_ne (by decide)).trans f9, ?_, (fi_ne (by decide)).trans f11, ⟨t, (fi_ne (by decide)).trans f12⟩, fun h9 => ?_⟩
  · rw [fi_eq, gs_hd_hd, upN_s]
  · obtain ⟨a1, a2, a3, a4, a5⟩ := f13 h9
    exact ⟨(fi_ne (by decide)).trans a1, (fi_ne (by decide)).trans a2, (fi_ne (by decide)).trans a3, (fi_ne (by decide)).trans a4, (fi_ne (by decide)).trans a5⟩
theorem CRr.ums {h : HP} {g r : Nat} {σ : SG} {p : Nat → Nat} {L : List Nat} (v : Nat) (hL : LCl h.kd h.gl h.fr h.ar g σ.n p L) (R : CRr σ h.fi h.fr g p) (hr : r < σ.n) : CRr (σ.ms_ (upN σ.ms r v)) (h.setI 203 (p r) (nI v)).fi h.fr g p := by
  refine CRr.one hL R rfl rfl rfl hr (fun k hk => ⟨rfl, rfl, rfl, rfl, rfl, rfl, rfl, rfl, upN_n hk, rfl⟩) (fun g' a h6 h7 _ => fi_ne2 h6) ?_
  obtain ⟨f1, f2, f3, f4, f5, f6, f7, f8, f9, f10, f11, ⟨t, f12⟩, f13⟩ := R.2.2.2 r hr
  refine ⟨(fi_ne (by decide)).trans f1, (fi_ne (by decide)).trans f2, (fi_ne (by decide)).trans f3, (fi_ne (by decide)).trans f4, (fi_ne (by decide)).trans f5, (fi_ne (by decide)).trans f6, (fi_ne (by decide)).trans f7, (fi_ne (by decide)).trans f8, (fi_ne (by decide)).trans f9, (fi_ne (by decide)).trans f10, ?_, ⟨t, (fi_ne (by decide)).trans f12⟩, fun h9 => ?_⟩
  · rw [fi_eq, gs_ms_ms, upN_s]
  · obtain ⟨a1, a2, a3, a4, a5⟩ := f13 h9
    exact ⟨(fi_ne (by decide)).trans a1, (fi_ne (by decide)).trans a2, (fi_ne (by decide)).trans a3, (fi_ne (by decide)).trans a4, (fi_ne (by decide)).trans a5⟩
theorem CRr.urt {h : HP} {g r : Nat} {σ : SG} {p : Nat → Nat} {L : List Nat} (v : Nat) (hL : LCl h.kd h.gl h.fr h.ar g σ.n p L) (R : CRr σ h.fi h.fr g p) (hr : r < σ.n) : CRr (σ.rt_ (upN σ.rt r v)) (h.setI 201 (p r) (pl v)).fi h.fr g p := by
  refine CRr.one hL R rfl rfl rfl hr (fun k hk => ⟨rfl, rfl, rfl, rfl, rfl, rfl, upN_n hk, rfl, rfl, rfl⟩) (fun g' a h6 h7 _ => fi_ne2 h6) ?_
  obtain ⟨f1, f2, f3, f4, f5, f6, f7, f8, f9, f10, f11, ⟨t, f12⟩, f13⟩ := R.2.2.2 r hr
  refine ⟨(fi_ne (by decide)).trans f1, (fi_ne (by decide)).trans f2, (fi_ne (by decide)).trans f3, (fi_ne (by decide)).trans f4, (fi_ne (by decide)).trans f5, (fi_ne (by decide)).trans f6, (fi_ne (by decide)).trans f7, (fi_ne (by decide)).trans f8, ?_, (fi_ne (by decide)).trans f10, (fi_ne (by decide)).trans f11, ⟨t, (fi_ne (by decide)).trans f12⟩, fun h9 => ?_⟩
  · rw [fi_eq, gs_rt_rt, upN_s]
  · obtain ⟨a1, a2, a3, a4, a5⟩ := f13 h9
    exact ⟨(fi_ne (by decide)).trans a1, (fi_ne (by decide)).trans a2, (fi_ne (by decide)).trans a3, (fi_ne (by decide)).trans a4, (fi_ne (by decide)).trans a5⟩
theorem CRr.usk {h : HP} {g r : Nat} {σ : SG} {p : Nat → Nat} {L : List Nat} (v : Bool) (hL : LCl h.kd h.gl h.fr h.ar g σ.n p L) (R : CRr σ h.fi h.fr g p) (hr : r < σ.n) : CRr (σ.sk_ (upN σ.sk r v)) (h.setI 200 (p r) (b2i v)).fi h.fr g p := by
  refine CRr.one hL R rfl rfl rfl hr (fun k hk => ⟨rfl, rfl, rfl, rfl, rfl, rfl, rfl, rfl, rfl, upN_n hk⟩) (fun g' a h6 h7 _ => fi_ne2 h6) ?_
  obtain ⟨f1, f2, f3, f4, f5, f6, f7, f8, f9, f10, f11, ⟨t, f12⟩, f13⟩ := R.2.2.2 r hr
  refine ⟨(fi_ne (by decide)).trans f1, (fi_ne (by decide)).trans f2, (fi_ne (by decide)).trans f3, (fi_ne (by decide)).trans f4, (fi_ne (by decide)).trans f5, (fi_ne (by decide)).trans f6, (fi_ne (by decide)).trans f7, ?_, (fi_ne (by decide)).trans f9, (fi_ne (by decide)).trans f10, (fi_ne (by decide)).trans f11, ⟨t, (fi_ne (by decide)).trans f12⟩, fun h9 => ?_⟩
  · rw [fi_eq, gs_sk_sk, upN_s]
  · obtain ⟨a1, a2, a3, a4, a5⟩ := f13 h9
    exact ⟨(fi_ne (by decide)).trans a1, (fi_ne (by decide)).trans a2, (fi_ne (by decide)).trans a3, (fi_ne (by decide)).trans a4, (fi_ne (by decide)).trans a5⟩
theorem cellV_cg {σ τ : SG} {c : Nat} (h1 : τ.cl c = σ.cl c) (h2 : τ.n = σ.n) (h3 : ∀ q, τ.cv q c = σ.cv q c) : cellV τ c = cellV σ c := by
  unfold cellV
  rw [h1, h2, covN_congr (fun q _ => h3 q)]
theorem CRc.cg {σ τ : SG} {h h' : HP} {g : Nat} (R : CRc σ h g) (e : h'.ai (h'.fr 0 (h'.fr 384 g)) = h.ai (h.fr 0 (h.fr 384 g))) (h1 : τ.cl = σ.cl) (h2 : τ.n = σ.n) (h3 : ∀ q c, τ.cv q c = σ.cv q c) : CRc τ h' g := fun c hc => by
  rw [e, cellV_cg (congrFun h1 c) h2 (fun q => h3 q c)]; exact R c hc
theorem CRr.uyr {h : HP} {g : Nat} {σ : SG} {p : Nat → Nat} {L : List Nat} {v : Nat} (hL : LCl h.kd h.gl h.fr h.ar g σ.n p L) (R : CRr σ h.fi h.fr g p) : CRr (σ.yr_ v) (h.setI 388 g (nI v)).fi h.fr g p := by
  obtain ⟨r1, r2, r3, r4⟩ := R
  refine ⟨(fi_ne (by decide)).trans r1, fi_eq, (fi_ne (by decide)).trans r3, fun q hq => ?_⟩
  exact RF.congr (σ := σ) (fi := h.fi) ⟨rfl, rfl, rfl, rfl, rfl, rfl, rfl, rfl, rfl, rfl⟩ (fun g' h1 h2 => fi_ne (by omega)) (fun g' h1 h2 => fi_ne (by omega)) (r4 q hq)
theorem hold_v {q : Nat} (hq : q < 240) : (2 : Int32) * (12 * nI (py q) + nI (px q)) + (if b2i (decide (q % 2 = 1)) = 0 then 0 else 1) = pl q := (by decide +kernel : ∀ q : Fin 240, (2 : Int32) * (12 * nI (py q.val) + nI (px q.val)) + (if b2i (decide (q.val % 2 = 1)) = 0 then 0 else 1) = pl q.val) ⟨q, hq⟩
/-- the text in force, as the class holds it -/
def CLw (lw : LW) (h : HP) (g : Nat) : Prop := CL lw h (h.fr 392 g) ∧ ∀ ln ∈ lw, hgt ln.2 = some 1
theorem CLw.fm {lw : LW} {A B : List Nat} {h h' : HP} {g n : Nat} {p : Nat → Nat} {L : List Nat} (F : Fm A B h h') (hL : LCl h.kd h.gl h.fr h.ar g n p L) (hA : ∀ x ∈ [164, 166, 167, 264, 266, 267], x ∉ A) (hB : 65 ∉ B ∧ 69 ∉ B) (Q : CLw lw h g) : CLw lw h' g := by
  obtain ⟨k, hk, l1, -⟩ := hL.lw
  refine ⟨?_, Q.2⟩
  rw [F.2.1]
  refine Q.1.congr (F.2.2.2.2.1 _ _ hB.2) (F.2.2.2.2.1 _ _ hB.1) ?_ ?_ ?_
  · rw [F.2.1]; exact (F.2.2.2.2.2 _ (by rw [l1.2.2.1.2]; exact hA _ (by rcases hk with e | e <;> subst e <;> decide))).1
  · rw [F.2.1]; exact (F.2.2.2.2.2 _ (by rw [l1.2.2.2.1.2]; exact hA _ (by rcases hk with e | e <;> subst e <;> decide))).1
  · rw [F.2.1]; exact (F.2.2.2.2.2 _ (by rw [l1.2.2.2.2.1.2]; exact hA _ (by rcases hk with e | e <;> subst e <;> decide))).1
theorem CLw.row {lw : LW} {h : HP} {g n b : Nat} {p : Nat → Nat} {L : List Nat} {f : Nat → Int32} (hL : LCl h.kd h.gl h.fr h.ar g n p L) (hb : h.gl b = 394) (Q : CLw lw h g) : CLw lw (h.row b f) g := CLw.fm (A := [394]) (B := []) (Fm.row Fm.rf (by rw [hb]; decide)) hL (by decide) (by decide) Q
theorem CLw.setI {lw : LW} {h : HP} {g b c : Nat} {v : Int32} (hb : b ≠ 65 ∧ b ≠ 69) (Q : CLw lw h g) : CLw lw (h.setI b c v) g := ⟨Q.1.congr (fi_ne (Ne.symm hb.2)) (fi_ne (Ne.symm hb.1)) rfl rfl rfl, Q.2⟩
theorem li_id (σ : SG) : σ.li_ σ.li = σ := rfl
theorem gonN_s {lw : LW} {σ τ : SG} {k : Nat} (h : τ = clrN (endN lw σ k) k) : gonN lw σ (k + 1) = gonN lw σ k + (if gon lw τ k then 1 else 0) := by
  rw [h, gon_clr]; rfl
theorem c_X6_keepsRight {G : GT} {h : HP} {g : Nat} {σ : SG} {p : Nat → Nat} {L : List Nat} {r : Nat} {lw : LW} (hL : LCl h.kd h.gl h.fr h.ar g σ.n p L) (R0 : CRr σ h.fi h.fr g p) (hr : r < σ.n) (Q : CLw lw h g) : Con G 4 0 0 yX6_keepsRight cX6_keepsRight 2 (some .boolean) [rv g, rv (p r)] h (PI (fun v h' => b2i (!lapV (knw σ r) lw) = v ∧ Fm [394, 168, 268] [] h h')) := by
  refine Con.of (lv := [some (rv g), some (rv (p r))]) (by decide) (by simp only [lvE_r, lvE_i, lvE_l, lvE_s, lvE_0]; rfl) (by simp only [lgl_r, lgl_i, lgl_l, lgl_s, lgl_0]; decide) (fun Γ C R => ?_)
  generalize hPP : (PI (fun v h' => b2i (!lapV (knw σ r) lw) = v ∧ Fm [394, 168, 268] [] h h')) = PP
  obtain ⟨kk, hkk, l1, l2⟩ := hL.lw
  have J37 : wX G Γ (qM G Γ PP 0 0) 0 0 (h.row (h.fr 394 g) (upd (upd (h.ai (h.fr 394 g)) 0 (nI (σ.ms r))) 1 (nI (σ.hd r)))) 37 [some (rv g), some (rv (p r))] [.int (b2i (σ.sk r)), .int (nI 2), rv (h.fr 394 g)] := by
    refine r_iast (q := 38) C rfl (by decide +kernel) rfl hL.k394 (vp_in_nI (by decide) (by decide)) ?_
    rw [row_stI, nI_clamp (by decide)]
    refine r_aload_n (q := 39) (z := 0) C 0 rfl (by decide +kernel) rfl rfl ?_
    refine r_getR (q := 42) C 6 10 394 rfl (by decide +kernel) rfl (by decide) rfl rfl wf_X6_63 win6 hL.kf ?_
    simp only [fr_row]
    refine r_iconst (q := 43) (z := 3) (v := nI 3) C rfl (by decide +kernel) (by decide) ?_
    refine r_aload_n (q := 44) (z := 1) C 1 rfl (by decide +kernel) rfl rfl ?_
    refine r_getI (q := 47) C 3 5 197 rfl (by decide +kernel) rfl (by decide) rfl rfl wf_X6_112 win3 (hL.kp hr) ?_
    rw [fi_row, R0.rk hr]
    refine r_iast (q := 48) C rfl (by decide +kernel) rfl hL.k394 (vp_in_nI (by decide) (by decide)) ?_
    rw [row_stI, nI_clamp (by decide)]
    refine r_aload_n (q := 49) (z := 0) C 0 rfl (by decide +kernel) rfl rfl ?_
    refine r_getR (q := 52) C 6 10 394 rfl (by decide +kernel) rfl (by decide) rfl rfl wf_X6_63 win6 hL.kf ?_
    simp only [fr_row]
    refine r_iconst (q := 53) (z := 4) (v := nI 4) C rfl (by decide +kernel) (by decide) ?_
    refine r_aload_n (q := 54) (z := 1) C 1 rfl (by decide +kernel) rfl rfl ?_
    refine cV0I (q := 57) C R rfl (by decide +kernel) lk_X6_287 (c_X3_area (hL.kp hr)) (by decide) (by decide) (by decide) rfl (by first | exact Nat.le_of_ble_eq_true rfl | (simp only [List.map_cons, List.map_nil, List.sum_cons, List.sum_nil, rv_cat]; exact Nat.le_of_ble_eq_true rfl)) rfl (hL.kp hr) ?_
    rintro _ _ ⟨rfl, rfl⟩
    try rw [fi_row]
    rw [R0.wd hr, R0.hg hr, pk_mul]
    refine r_iast (q := 58) C rfl (by decide +kernel) rfl hL.k394 (vp_in_nI (by decide) (by decide)) ?_
    rw [row_stI, nI_clamp (by decide)]
    refine r_aload_n (q := 59) (z := 0) C 0 rfl (by decide +kernel) rfl rfl ?_
    refine r_getR (q := 62) C 6 10 394 rfl (by decide +kernel) rfl (by decide) rfl rfl wf_X6_63 win6 hL.kf ?_
    simp only [fr_row]
    refine r_iconst (q := 63) (z := 5) (v := nI 5) C rfl (by decide +kernel) (by decide) ?_
    refine r_aload_n (q := 64) (z := 0) C 0 rfl (by decide +kernel) rfl rfl ?_
    refine r_getI (q := 67) C 6 4 388 rfl (by decide +kernel) rfl (by decide) rfl rfl wf_X6_29 win6 hL.kf ?_
    rw [fi_row, R0.2.1]
    refine r_iast (q := 68) C rfl (by decide +kernel) rfl hL.k394 (vp_in_nI (by decide) (by decide)) ?_
    rw [row_stI, nI_clamp (by decide)]
    refine r_aload_n (q := 69) (z := 0) C 0 rfl (by decide +kernel) rfl rfl ?_
    refine r_getR (q := 72) C 6 8 392 rfl (by decide +kernel) rfl (by decide) rfl rfl wf_X6_56 win6 hL.kf ?_
    simp only [fr_row]
    refine r_aload_n (q := 73) (z := 0) C 0 rfl (by decide +kernel) rfl rfl ?_
    refine r_getR (q := 76) C 6 10 394 rfl (by decide +kernel) rfl (by decide) rfl rfl wf_X6_63 win6 hL.kf ?_
    simp only [fr_row]
    refine cV1I (q := 79) C R rfl (by decide +kernel) lk_X6_290 (c_X1_isKept (k := kk) (lw := lw) l1 hkk hL.k394 hL.g394 (CLw.row hL hL.g394 Q).1 Q.2) (by decide) (by decide) (by decide) rfl (by first | exact Nat.le_of_ble_eq_true rfl | (simp only [List.map_cons, List.map_nil, List.sum_cons, List.sum_nil, rv_cat]; exact Nat.le_of_ble_eq_true rfl)) rfl l1.1 ?_
    rintro _ h76 ⟨rfl, F76⟩
    exact r_zret C (by decide +kernel) rfl (by first | decide | exact b2i_nar _) (by decide) (by decide) (eqP hPP ⟨_, rfl, ⟨congrArg (fun b => b2i (!b)) (lap_congr (fun q hq => by show knw σ r q = (h.row (h.fr 394 g) (kn6 (h.ai (h.fr 394 g)) σ r)).ai (h.fr 394 g) q; rw [ai_row_eq, kn6_ok hq]) Q.2), Fm.tr (Fm.row Fm.rf (by rw [hL.g394]; decide)) (F76.mono (by rcases hkk with e | e <;> subst e <;> decide) (by decide))⟩⟩)
  refine r_aload_n (q := 1) (z := 0) C 0 rfl (by decide +kernel) rfl rfl ?_
  refine r_getR (q := 4) C 6 10 394 rfl (by decide +kernel) rfl (by decide) rfl rfl wf_X6_63 win6 hL.kf ?_
  refine r_iconst (q := 5) (z := 0) (v := nI 0) C rfl (by decide +kernel) (by decide) ?_
  refine r_aload_n (q := 6) (z := 1) C 1 rfl (by decide +kernel) rfl rfl ?_
  refine r_getI (q := 9) C 3 11 203 rfl (by decide +kernel) rfl (by decide) rfl rfl wf_X6_162 win3 (hL.kp hr) ?_
  rw [R0.ms hr]
  refine r_iast (q := 10) C rfl (by decide +kernel) rfl hL.k394 (vp_in_nI (by decide) (by decide)) ?_
  rw [stI_row, nI_clamp (by decide)]
  refine r_aload_n (q := 11) (z := 0) C 0 rfl (by decide +kernel) rfl rfl ?_
  refine r_getR (q := 14) C 6 10 394 rfl (by decide +kernel) rfl (by decide) rfl rfl wf_X6_63 win6 hL.kf ?_
  simp only [fr_row]
  refine r_iconst (q := 15) (z := 1) (v := nI 1) C rfl (by decide +kernel) (by decide) ?_
  refine r_aload_n (q := 16) (z := 1) C 1 rfl (by decide +kernel) rfl rfl ?_
  refine r_getI (q := 19) C 3 10 202 rfl (by decide +kernel) rfl (by decide) rfl rfl wf_X6_233 win3 (hL.kp hr) ?_
  rw [fi_row, R0.hd hr]
  refine r_iast (q := 20) C rfl (by decide +kernel) rfl hL.k394 (vp_in_nI (by decide) (by decide)) ?_
  rw [row_stI, nI_clamp (by decide)]
  refine r_aload_n (q := 21) (z := 0) C 0 rfl (by decide +kernel) rfl rfl ?_
  refine r_getR (q := 24) C 6 10 394 rfl (by decide +kernel) rfl (by decide) rfl rfl wf_X6_63 win6 hL.kf ?_
  simp only [fr_row]
  refine r_iconst (q := 25) (z := 2) (v := nI 2) C rfl (by decide +kernel) (by decide) ?_
  refine r_aload_n (q := 26) (z := 1) C 1 rfl (by decide +kernel) rfl rfl ?_
  refine r_getI (q := 29) C 3 8 200 rfl (by decide +kernel) rfl (by decide) rfl rfl wf_X6_156 win3 (hL.kp hr) ?_
  rw [fi_row, R0.sk hr]
  refine r_if_eq (q := 32) (off := 7) (tgt := 36) C rfl (by decide +kernel) (by decide) (fun c29 => ?_) (fun c29 => ?_)
  · have ev : b2i (σ.sk r) = 0 := c29
    refine r_iconst (q := 37) (z := 0) (v := 0) C rfl (by decide +kernel) (by decide) ?_
    have z := J37
    first | (rw [ev] at z; exact z) | exact z
  · have ev : b2i (σ.sk r) = 1 := by rw [(b2i_n0 _).mp c29]; rfl
    refine r_iconst (q := 33) (z := 1) (v := 1) C rfl (by decide +kernel) (by decide) ?_
    refine r_goto (off := 4) (tgt := 37) C (by decide +kernel) (by decide) ?_
    have z := J37
    first | (rw [ev] at z; exact z) | exact z
theorem c_X6_feed {G : GT} {h : HP} {g n : Nat} {p : Nat → Nat} {L : List Nat} {tp : List Nat} {a b c : Int64} (hL : LCl h.kd h.gl h.fr h.ar g n p L) (T : TpC tp h (h.fr 390 g)) : Con G 3 0 0 yX6_feed cX6_feed 7 (some .int) [rv g, .long a, .long b, .long c] h (PI (fun v h' => nI (feedT tp a b c).length = v ∧ TpC (feedT tp a b c) h' (h'.fr 390 g) ∧ Fm [320] [321] h h')) := by
  refine Con.of (lv := [some (rv g), some (.long a), none, some (.long b), none, some (.long c), none]) (by decide) (by simp only [lvE_r, lvE_i, lvE_l, lvE_s, lvE_0]; rfl) (by simp only [lgl_r, lgl_i, lgl_l, lgl_s, lgl_0]; decide) (fun Γ C R => ?_)
  generalize hPP : (PI (fun v h' => nI (feedT tp a b c).length = v ∧ TpC (feedT tp a b c) h' (h'.fr 390 g) ∧ Fm [320] [321] h h')) = PP
  have hL0 := hL
  refine r_aload_n (q := 1) (z := 0) C 0 rfl (by decide +kernel) rfl rfl ?_
  refine r_getR (q := 4) C 6 6 390 rfl (by decide +kernel) rfl (by decide) rfl rfl wf_X6_42 win6 hL.kf ?_
  refine r_lload_n (q := 5) (z := 1) C 1 rfl (by decide +kernel) rfl rfl ?_
  refine cV1V (q := 8) C R rfl (by decide +kernel) lk_X6_171 (c_X5_addBytes hL.k390 hL.k320 hL.g320 T) (by decide) (by decide) (by decide) rfl (by first | exact Nat.le_of_ble_eq_true rfl | (simp only [List.map_cons, List.map_nil, List.sum_cons, List.sum_nil, rv_cat]; exact Nat.le_of_ble_eq_true rfl)) rfl hL.k390 ?_
  rintro h5 ⟨T5, F5⟩
  have hL : LCl h5.kd h5.gl h5.fr h5.ar g n p L := LCl.fm F5 hL0
  refine r_aload_n (q := 9) (z := 0) C 0 rfl (by decide +kernel) rfl rfl ?_
  refine r_getR (q := 12) C 6 6 390 rfl (by decide +kernel) rfl (by decide) rfl rfl wf_X6_42 win6 hL.kf ?_
  rw [F5.2.1]
  refine r_lload_n (q := 13) (z := 3) C 3 rfl (by decide +kernel) rfl rfl ?_
  refine cV1V (q := 16) C R rfl (by decide +kernel) lk_X6_171 (c_X5_addBytes (by rw [F5.1]; exact hL0.k390) (by rw [F5.1, F5.2.1]; exact hL0.k320) (by rw [F5.2.1, F5.2.2.1]; exact hL0.g320) T5) (by decide) (by decide) (by decide) rfl (by first | exact Nat.le_of_ble_eq_true rfl | (simp only [List.map_cons, List.map_nil, List.sum_cons, List.sum_nil, rv_cat]; exact Nat.le_of_ble_eq_true rfl)) rfl (by rw [F5.1]; exact hL0.k390) ?_
  rintro h13 ⟨T13, F13⟩
  have F13t := F5.tr F13
  have hL : LCl h13.kd h13.gl h13.fr h13.ar g n p L := LCl.fm F13t hL0
  refine r_aload_n (q := 17) (z := 0) C 0 rfl (by decide +kernel) rfl rfl ?_
  refine r_getR (q := 20) C 6 6 390 rfl (by decide +kernel) rfl (by decide) rfl rfl wf_X6_42 win6 hL.kf ?_
  rw [F13t.2.1]
  refine r_lload (q := 22) C 5 rfl (by decide +kernel) rfl ?_
  refine cV1V (q := 25) C R rfl (by decide +kernel) lk_X6_171 (c_X5_addBytes (by rw [F13t.1]; exact hL0.k390) (by rw [F13t.1, F13t.2.1]; exact hL0.k320) (by rw [F13t.2.1, F13t.2.2.1]; exact hL0.g320) T13) (by decide) (by decide) (by decide) rfl (by first | exact Nat.le_of_ble_eq_true rfl | (simp only [List.map_cons, List.map_nil, List.sum_cons, List.sum_nil, rv_cat]; exact Nat.le_of_ble_eq_true rfl)) rfl (by rw [F13t.1]; exact hL0.k390) ?_
  rintro h22 ⟨T22, F22⟩
  have F22t := F13t.tr F22
  have hL : LCl h22.kd h22.gl h22.fr h22.ar g n p L := LCl.fm F22t hL0
  refine r_aload_n (q := 26) (z := 0) C 0 rfl (by decide +kernel) rfl rfl ?_
  refine r_getR (q := 29) C 6 6 390 rfl (by decide +kernel) rfl (by decide) rfl rfl wf_X6_42 win6 hL.kf ?_
  rw [F22t.2.1]
  refine r_getI (q := 32) C 5 1 321 rfl (by decide +kernel) rfl (by decide) rfl rfl wf_X6_175 win5 (by rw [F22t.1]; exact hL0.k390) ?_
  rw [T22.2.1]
  exact r_iret C (by decide +kernel) rfl (by decide) (by decide) (eqP hPP ⟨_, rfl, ⟨rfl, by rw [F22t.2.1]; exact T22, F22t⟩⟩)
