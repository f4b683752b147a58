/-! ===== what a line is worth; the end of a year ===== -/
def jnV (o : Nat) (a b : Int32) : Int32 := if o = 3 then a + b else if o = 4 then a - b else if o = 5 then (if a < b then 1 else 0) else if o = 6 then (if a = b then 1 else 0) else (if ¬ a = 0 ∧ ¬ b = 0 then 1 else 0)
def evs (kn : Nat → Int32) (st : List Int32) (x : Nat × Nat) : List Int32 := if x.1 = 1 then nI x.2 :: st else if x.1 = 2 then kn x.2 :: st else match st with
  | b :: a :: t => jnV x.1 a b :: t
  | s => s
def evl (kn : Nat → Int32) (cd : Cd) : List Int32 := cd.foldl (evs kn) []
def val (kn : Nat → Int32) (cd : Cd) : Int32 := (evl kn cd).headD 0
theorem evl_s (kn : Nat → Int32) (cd : Cd) (x : Nat × Nat) : evl kn (cd ++ [x]) = evs kn (evl kn cd) x := by unfold evl; rw [List.foldl_append]; rfl
theorem hst_none (cd : Cd) : cd.foldl hst none = none := by
  induction cd with
  | nil => rfl
  | cons x t ih => exact ih
theorem hgt_mid {p q : Cd} {x : Nat × Nat} {n : Nat} (h : hgt (p ++ x :: q) = some n) : ∃ k k', hgt p = some k ∧ hst (some k) x = some k' ∧ hgt (p ++ [x]) = some k' := by
  unfold hgt at h
  rw [List.foldl_append, List.foldl_cons] at h
  rw [hgt_s]
  show ∃ k k', hgt p = some k ∧ hst (some k) x = some k' ∧ hst (hgt p) x = some k'
  change q.foldl hst (hst (hgt p) x) = some n at h
  cases e : hgt p with
  | none => rw [e] at h; exact absurd ((hst_none q).symm.trans h) (by simp)
  | some k =>
    cases e2 : hst (some k) x with
    | none => rw [e, e2, hst_none] at h; cases h
    | some k' => exact ⟨k, k', rfl, e2, rfl⟩
theorem hst_inv {k k' : Nat} {x : Nat × Nat} (h : hst (some k) x = some k') : ((x.1 = 1 ∧ x.2 < 10000 ∨ x.1 = 2 ∧ x.2 < 6) ∧ k < 16 ∧ k' = k + 1) ∨ (3 ≤ x.1 ∧ x.1 ≤ 7 ∧ x.2 = 0 ∧ 2 ≤ k ∧ k' = k - 1) := by
  unfold hst at h
  simp only at h
  split at h
  · rename_i h1
    split at h
    · cases h; exact Or.inl ⟨h1, by assumption, rfl⟩
    · cases h
  · split at h
    · rename_i h2
      cases h; exact Or.inr ⟨h2.1, h2.2.1, h2.2.2.1, h2.2.2.2, rfl⟩
    · cases h
theorem evl_len {kn : Nat → Int32} : ∀ (q p : Cd) (n : Nat), hgt (p ++ q) = some n → hgt p = some (evl kn p).length → (evl kn (p ++ q)).length = n
  | [], p, n, h, hp => by rw [List.append_nil] at h ⊢; rw [hp] at h; cases h; rfl
  | x :: q, p, n, h, hp => by
    obtain ⟨k, k', h1, h2, h3⟩ := hgt_mid h
    rw [h1] at hp
    cases hp
    have e : p ++ x :: q = (p ++ [x]) ++ q := by simp
    rw [e] at h ⊢
    refine evl_len q (p ++ [x]) n h ?_
    rw [h3, evl_s]
    congr 1
    unfold evs
    rcases hst_inv h2 with ⟨a | a, b, c⟩ | ⟨a, b, c, d, e⟩
    · rw [if_pos a.1]; simp; omega
    · rw [if_neg (by omega), if_pos a.1]; simp; omega
    · rw [if_neg (by omega), if_neg (by omega)]
      match h9 : evl kn p with
      | [] => rw [h9] at d; simp at d
      | [_] => rw [h9] at d; simp at d
      | b :: a :: t => rw [h9] at e; simp at e ⊢; omega
theorem evl_len' {kn : Nat → Int32} {p : Cd} {n : Nat} (h : hgt p = some n) : (evl kn p).length = n := evl_len p [] n h rfl
/-- the pile holds the row, its top the first -/
def PL (f : Nat → Int32) : List Int32 → Prop
  | [] => True
  | a :: t => f t.length = a ∧ PL f t
theorem PL.up {f : Nat → Int32} {k : Nat} {v : Int32} : ∀ {st : List Int32}, st.length ≤ k → PL f st → PL (upd f k v) st
  | [], _, _ => trivial
  | a :: t, h, hp => by
    simp only [List.length_cons] at h
    exact ⟨by rw [pk_un (by omega)]; exact hp.1, PL.up (by omega) hp.2⟩
def hd1 (q : Cd) : Nat := match q with
  | [] => 0
  | x :: _ => x.1
/-- the code from a on -/
def CA (f g : Nat → Int32) (a : Nat) (cd : Cd) : Prop := (∀ j x, cd[j]? = some x → f (a + j) = nI x.1 ∧ g (a + j) = nI x.2) ∧ f (a + cd.length) = 0
theorem CA.mid {f g : Nat → Int32} {a : Nat} {p q : Cd} (h : CA f g a (p ++ q)) : f (a + p.length) = nI (hd1 q) := by
  cases q with
  | nil => have := h.2; rw [List.append_nil] at this; exact this
  | cons x q => exact (h.1 p.length x (by simp)).1
theorem CA.one {f g : Nat → Int32} {a : Nat} {p q : Cd} {x : Nat × Nat} (h : CA f g a (p ++ x :: q)) : g (a + p.length) = nI x.2 := (h.1 p.length x (by simp)).2
def LA (h : HP) (m H k : Nat) (ln : Bool × Cd) : Prop := h.ai (h.fr 459 m) (16 * H + k) = b2i ln.1 ∧ ∃ s, h.ai (h.fr 460 m) (16 * H + k) = nI (660 * H + s) ∧ s + ln.2.length < 660 ∧ CA (h.ai (h.fr 461 m)) (h.ai (h.fr 462 m)) (660 * H + s) ln.2 ∧ hgt ln.2 = some 1
/-- the text in force, as the model holds it -/
def ML (lw : LW) (h : HP) (m : Nat) : Prop := ∃ H, H < 2 ∧ h.fi 463 m = nI H ∧ lw.length ≤ 16 ∧ h.ai (h.fr 458 m) H = nI lw.length ∧ ∀ k ln, lw[k]? = some ln → LA h m H k ln
theorem LA.congr {h h' : HP} {m H k : Nat} {ln : Bool × Cd} (e : ∀ g, g ∈ [459, 460, 461, 462] → h'.ai (h'.fr g m) = h.ai (h.fr g m)) (L : LA h m H k ln) : LA h' m H k ln := by
  unfold LA at *
  rw [e 459 (by decide), e 460 (by decide), e 461 (by decide), e 462 (by decide)]
  exact L
theorem ML.fm {lw : LW} {A B : List Nat} {h h' : HP} {m : Nat} (F : Fm A B h h') (hm : LM h.kd h.gl h.fr m) (hA : ∀ x ∈ [458, 459, 460, 461, 462], x ∉ A) (hB : 463 ∉ B) (M : ML lw h m) : ML lw h' m := by
  obtain ⟨H, h1, h2, h3, h4, h5⟩ := M
  obtain ⟨f1, f2, f3, f4, f5, f6⟩ := F
  refine ⟨H, h1, (f5 _ _ hB).trans h2, h3, ?_, fun k ln e => LA.congr (fun g hg => ?_) (h5 k ln e)⟩
  · rw [f2, (f6 _ (by rw [hm.g458]; exact hA 458 (by decide))).1]; exact h4
  · rw [f2]
    have hgl : h.gl (h.fr g m) = g := by
      simp only [List.mem_cons, List.not_mem_nil, or_false] at hg
      rcases hg with e | e | e | e <;> subst e
      · exact hm.g459
      · exact hm.g460
      · exact hm.g461
      · exact hm.g462
    exact (f6 _ (by rw [hgl]; exact hA g (List.mem_cons_of_mem _ hg))).1
theorem ML.setI {lw : LW} {h : HP} {m g b : Nat} {v : Int32} (hg : g ≠ 463) (M : ML lw h m) : ML lw (h.setI g b v) m := by
  obtain ⟨H, h1, h2, h3, h4, h5⟩ := M
  exact ⟨H, h1, (fi_ne (Ne.symm hg)).trans h2, h3, h4, h5⟩
def lapV (kn : Nat → Int32) : LW → Bool
  | [] => false
  | ln :: t => if val kn ln.2 = 0 then lapV kn t else ln.1
/-- what a text may ask of a ride -/
def knw (σ : SG) (r k : Nat) : Int32 := if k = 0 then nI (σ.ms r) else if k = 1 then nI (σ.hd r) else if k = 2 then b2i (σ.sk r) else if k = 3 then nI (σ.rk r) else if k = 4 then nI (σ.wd r * σ.hg r) else nI σ.yr
def lps (lw : LW) (σ : SG) (r : Nat) : Bool := lapV (knw (σ.ms_ (upN σ.ms r (σ.ms r + 1))) r) lw
def end1 (lw : LW) (σ : SG) (r : Nat) : SG := if σ.li r < 240 then ((σ.hd_ (upN σ.hd r (σ.hd r + 1))).ms_ (upN σ.ms r 0)).rt_ (upN σ.rt r (σ.li r)) else if σ.rt r < 240 then (if lps lw σ r then (((σ.ms_ (upN σ.ms r (σ.ms r + 1))).rt_ (upN σ.rt r 240)).hd_ (upN σ.hd r 0)).ms_ (upN (upN σ.ms r (σ.ms r + 1)) r 0) else σ.ms_ (upN σ.ms r (σ.ms r + 1))) else σ
def gon (lw : LW) (σ : SG) (r : Nat) : Bool := decide (¬ σ.li r < 240) && (decide (σ.rt r < 240) && lps lw σ r)
def endN (lw : LW) (σ : SG) : Nat → SG
  | 0 => σ
  | k + 1 => end1 lw (endN lw σ k) k
def gonN (lw : LW) (σ : SG) : Nat → Nat
  | 0 => 0
  | k + 1 => gonN lw σ k + (if gon lw (endN lw σ k) k then 1 else 0)
def clrN (σ : SG) (k : Nat) : SG := (σ.li_ (fun r => if r < k then 240 else σ.li r)).sk_ (fun r => if r < k then false else σ.sk r)
def endS (lw : LW) (σ : SG) : SG := (clrN (endN lw σ σ.n) σ.n).yr_ (σ.yr + 1)
theorem end1_n (lw : LW) (σ : SG) (r : Nat) : (end1 lw σ r).n = σ.n ∧ (end1 lw σ r).li = σ.li ∧ (end1 lw σ r).yr = σ.yr ∧ (end1 lw σ r).sk = σ.sk ∧ (end1 lw σ r).wd = σ.wd ∧ (end1 lw σ r).hg = σ.hg ∧ (end1 lw σ r).gr = σ.gr ∧ (end1 lw σ r).cl = σ.cl ∧ (end1 lw σ r).pw = σ.pw ∧ (end1 lw σ r).ns = σ.ns ∧ (end1 lw σ r).rk = σ.rk := by
  unfold end1
  split
  · exact ⟨rfl, rfl, rfl, rfl, rfl, rfl, rfl, rfl, rfl, rfl, rfl⟩
  · split
    · split <;> exact ⟨rfl, rfl, rfl, rfl, rfl, rfl, rfl, rfl, rfl, rfl, rfl⟩
    · exact ⟨rfl, rfl, rfl, rfl, rfl, rfl, rfl, rfl, rfl, rfl, rfl⟩
theorem endN_n (lw : LW) (σ : SG) : ∀ k, (endN lw σ k).n = σ.n ∧ (endN lw σ k).li = σ.li ∧ (endN lw σ k).yr = σ.yr ∧ (endN lw σ k).sk = σ.sk ∧ (endN lw σ k).wd = σ.wd ∧ (endN lw σ k).hg = σ.hg ∧ (endN lw σ k).gr = σ.gr ∧ (endN lw σ k).cl = σ.cl ∧ (endN lw σ k).pw = σ.pw ∧ (endN lw σ k).ns = σ.ns ∧ (endN lw σ k).rk = σ.rk
  | 0 => ⟨rfl, rfl, rfl, rfl, rfl, rfl, rfl, rfl, rfl, rfl, rfl⟩
  | k + 1 => by
    obtain ⟨a1, a2, a3, a4, a5, a6, a7, a8, a9, a10, a11⟩ := endN_n lw σ k
    obtain ⟨b1, b2, b3, b4, b5, b6, b7, b8, b9, b10, b11⟩ := end1_n lw (endN lw σ k) k
    exact ⟨b1.trans a1, b2.trans a2, b3.trans a3, b4.trans a4, b5.trans a5, b6.trans a6, b7.trans a7, b8.trans a8, b9.trans a9, b10.trans a10, b11.trans a11⟩
theorem clr_0 (σ : SG) : clrN σ 0 = σ := by unfold clrN; simp only [Nat.not_lt_zero, if_false]; rfl
theorem gonN_le (lw : LW) (σ : SG) : ∀ k, gonN lw σ k ≤ k
  | 0 => Nat.le_refl _
  | k + 1 => by have := gonN_le lw σ k; simp only [gonN]; split <;> omega
def hd0 (l : List Int32) : Int32 := match l with
  | [] => 0
  | a :: _ => a
theorem evs_1 {kn : Nat → Int32} {st : List Int32} {x : Nat × Nat} (h : x.1 = 1) : evs kn st x = nI x.2 :: st := if_pos h
theorem evs_2 {kn : Nat → Int32} {st : List Int32} {x : Nat × Nat} (h : x.1 = 2) : evs kn st x = kn x.2 :: st := by
  unfold evs; rw [if_neg (by omega), if_pos h]
theorem evs_o {kn : Nat → Int32} {t : List Int32} {a b : Int32} {x : Nat × Nat} (h1 : x.1 ≠ 1) (h2 : x.1 ≠ 2) : evs kn (b :: a :: t) x = jnV x.1 a b :: t := by
  unfold evs; rw [if_neg h1, if_neg h2]
theorem hgt_le2 : ∀ (cd : Cd) (a n : Nat), a ≤ 16 → cd.foldl hst (some a) = some n → n ≤ 16
  | [], a, n, ha, h => by cases h; exact ha
  | x :: cd, a, n, ha, h => by
    rw [List.foldl_cons] at h
    cases e : hst (some a) x with
    | none => rw [e, hst_none] at h; cases h
    | some b => rw [e] at h; exact hgt_le2 cd b n (by have := hst_inv e; omega) h
theorem hgt_le {cd : Cd} {n : Nat} (h : hgt cd = some n) : n ≤ 16 := hgt_le2 cd 0 n (by decide) h

theorem c_X7_worth {G : GT} {h : HP} {m a : Nat} {cd : Cd} {kn : Nat → Int32} (hm : LM h.kd h.gl h.fr m) (hc : CA (h.ai (h.fr 461 m)) (h.ai (h.fr 462 m)) a cd) (hg : hgt cd = some 1) (hl : a + cd.length < 1320) (hk : ∀ k, k < 6 → h.ai (h.fr 470 m) k = kn k) : Con G 1 0 0 yX7_worth cX7_worth 7 (some .int) [rv m, .int (nI a)] h (PI (fun v h' => ∃ f, val kn cd = v ∧ h.row (h.fr 471 m) f = h')) := by
  refine Con.of (lv := [some (rv m), some (.int (nI a)), none, none, none, none, none]) (by decide) (by simp only [lvE_r, lvE_i, lvE_l, lvE_s, lvE_0]; rfl) (by simp only [lgl_r, lgl_i, lgl_l, lgl_s, lgl_0]; decide) (fun Γ C R => ?_)
  generalize hPP : (PI (fun v h' => ∃ f, val kn cd = v ∧ h.row (h.fr 471 m) f = h')) = PP
  have n1 : h.fr 461 m ≠ h.fr 471 m := gl_ne hm.g461 hm.g471 (by decide)
  have n2 : h.fr 462 m ≠ h.fr 471 m := gl_ne hm.g462 hm.g471 (by decide)
  have n3 : h.fr 470 m ≠ h.fr 471 m := gl_ne hm.g470 hm.g471 (by decide)
  refine r_iload_n (q := 1) (z := 1) C 1 rfl (by decide +kernel) rfl rfl ?_
  refine r_istore_n (q := 2) (z := 2) C 2 rfl (by decide +kernel) rfl (by decide) (by first | rfl | exact okst_rv rfl) ?_
  dsimp only [List.set]
  refine r_iconst (q := 3) (z := 0) (v := 0) C rfl (by decide +kernel) (by decide) ?_
  refine r_istore_n (q := 4) (z := 3) C 3 rfl (by decide +kernel) rfl (by decide) (by first | rfl | exact okst_rv rfl) ?_
  dsimp only [List.set]
  have L4 : ∀ (fuel4 : Nat) (p q : Cd) (f : Nat → Int32), q.length < fuel4 → (cd = p ++ q) → (PL f (evl kn p)) → wX G Γ (qM G Γ PP 0 0) 0 0 (h.row (h.fr 471 m) f) 4 [some (rv m), some (.int (nI a)), some (.int (nI (a + p.length))), some (.int (nI (evl kn p).length)), none, none, none] [] := by
    intro fuel4
    induction fuel4 with
    | zero =>
      intro p q f hm4
      exact absurd hm4 (Nat.not_lt_zero _)
    | succ fuel4 ih4 =>
      intro p q f hm4 hpq hP
      rw [hpq, List.length_append] at hl
      have hmid : h.ai (h.fr 461 m) (a + p.length) = nI (hd1 q) := CA.mid (by rw [← hpq]; exact hc)
      refine r_aload_n (q := 5) (z := 0) C 0 rfl (by decide +kernel) rfl rfl ?_
      refine r_getR (q := 8) C 7 13 461 rfl (by decide +kernel) rfl (by decide) rfl rfl wf_X7_67 win7 hm.1 ?_
      refine r_iload_n (q := 9) (z := 2) C 2 rfl (by decide +kernel) rfl rfl ?_
      refine r_iald (q := 10) C rfl (by decide +kernel) hm.k461 (vp_in_nI (by omega) (by decide)) ?_
      try simp only [fr_row]
      rw [nI_clamp (n := a + p.length) (by omega), ai_row_ne n1, hmid]
      refine r_if_eq (q := 13) (off := 182) (tgt := 192) C rfl (by decide +kernel) (by decide) (fun c10 => ?_) (fun c10 => ?_)
      · have hq : q = [] := by
          cases q with
          | nil => rfl
          | cons x q =>
            obtain ⟨k, k', h1, h2, -⟩ := hgt_mid (by rw [← hpq]; exact hg)
            have h3 := hst_inv h2
            exact absurd c10 (nI_ne0 (show 0 < x.1 by omega) (show x.1 < _ by omega))
        subst hq
        rw [List.append_nil] at hpq
        subst hpq
        have hlen := evl_len' (kn := kn) hg
        obtain ⟨v, hv⟩ : ∃ v, evl kn cd = [v] := by
          match h9 : evl kn cd with
          | [] => rw [h9] at hlen; cases hlen
          | [v] => exact ⟨v, rfl⟩
          | _ :: _ :: _ => rw [h9] at hlen; simp at hlen
        refine r_aload_n (q := 193) (z := 0) C 0 rfl (by decide +kernel) rfl rfl ?_
        refine r_getR (q := 196) C 7 23 471 rfl (by decide +kernel) rfl (by decide) rfl rfl wf_X7_85 win7 hm.1 ?_
        refine r_iconst (q := 197) (z := 0) (v := 0) C rfl (by decide +kernel) (by decide) ?_
        refine r_iald (q := 198) C rfl (by decide +kernel) hm.k471 (vp_in_nI (n := 0) (by decide) (by decide)) ?_
        try simp only [fr_row]
        rw [show (0 : Int32).toNatClampNeg = 0 from rfl, ai_row_eq, show f 0 = v by rw [hv] at hP; exact hP.1]
        exact r_iret C (by decide +kernel) rfl (by decide) (by decide) (eqP hPP ⟨_, rfl, ⟨f, by rw [val, hv]; rfl, rfl⟩⟩)
      · obtain ⟨x, q, rfl⟩ : ∃ x q2, q = x :: q2 := by
          cases q with
          | nil => exact absurd rfl c10
          | cons x q => exact ⟨x, q, rfl⟩
        obtain ⟨k, k', hgp, hst2, hgx⟩ := hgt_mid (by rw [← hpq]; exact hg)
        have hin := hst_inv hst2
        have hlp := evl_len' (kn := kn) hgp
        have hk16 := hgt_le hgp
        have hone : h.ai (h.fr 462 m) (a + p.length) = nI x.2 := CA.one (by rw [← hpq]; exact hc)
        simp only [List.length_cons] at hl
        change h.ai (h.fr 461 m) (a + p.length) = nI x.1 at hmid
        change ¬ nI x.1 = 0 at c10
        have hx7 : x.1 ≤ 7 := by omega
        refine r_aload_n (q := 14) (z := 0) C 0 rfl (by decide +kernel) rfl rfl ?_
        refine r_getR (q := 17) C 7 13 461 rfl (by decide +kernel) rfl (by decide) rfl rfl wf_X7_67 win7 hm.1 ?_
        refine r_iload_n (q := 18) (z := 2) C 2 rfl (by decide +kernel) rfl rfl ?_
        refine r_iald (q := 19) C rfl (by decide +kernel) hm.k461 (vp_in_nI (by omega) (by decide)) ?_
        try simp only [fr_row]
        rw [nI_clamp (n := a + p.length) (by omega), ai_row_ne n1, hmid]
        refine r_istore (q := 21) C 4 rfl (by decide +kernel) (by decide) (by first | rfl | exact okst_rv rfl) ?_
        dsimp only [List.set]
        have J33 : (x.1 = 1 ∨ x.1 = 2) → wX G Γ (qM G Γ PP 0 0) 0 0 (h.row (h.fr 471 m) f) 33 [some (rv m), some (.int (nI a)), some (.int (nI (a + p.length))), some (.int (nI (evl kn p).length)), some (.int (nI x.1)), none, none] [] := by
          intro  hop
          refine r_aload_n (q := 34) (z := 0) C 0 rfl (by decide +kernel) rfl rfl ?_
          refine r_getR (q := 37) C 7 23 471 rfl (by decide +kernel) rfl (by decide) rfl rfl wf_X7_85 win7 hm.1 ?_
          refine r_iload_n (q := 38) (z := 3) C 3 rfl (by decide +kernel) rfl rfl ?_
          refine r_iload (q := 40) C 4 rfl (by decide +kernel) rfl ?_
          refine r_iconst (q := 41) (z := 1) (v := 1) C rfl (by decide +kernel) (by decide) ?_
          refine r_icmp_ne (q := 44) (off := 12) (tgt := 53) C rfl (by decide +kernel) (by decide) (fun c41 => ?_) (fun c41 => ?_)
          · have e2 : x.1 = 2 := hop.resolve_left (fun e => c41 (by rw [e]; rfl))
            refine r_aload_n (q := 54) (z := 0) C 0 rfl (by decide +kernel) rfl rfl ?_
            refine r_getR (q := 57) C 7 22 470 rfl (by decide +kernel) rfl (by decide) rfl rfl wf_X7_82 win7 hm.1 ?_
            refine r_aload_n (q := 58) (z := 0) C 0 rfl (by decide +kernel) rfl rfl ?_
            refine r_getR (q := 61) C 7 14 462 rfl (by decide +kernel) rfl (by decide) rfl rfl wf_X7_70 win7 hm.1 ?_
            refine r_iload_n (q := 62) (z := 2) C 2 rfl (by decide +kernel) rfl rfl ?_
            refine r_iald (q := 63) C rfl (by decide +kernel) hm.k462 (vp_in_nI (by omega) (by decide)) ?_
            try simp only [fr_row]
            rw [nI_clamp (n := a + p.length) (by omega), ai_row_ne n2, hone]
            refine r_iald (q := 64) C rfl (by decide +kernel) hm.k470 (vp_in_nI (show x.2 < 6 by omega) (by decide)) ?_
            try simp only [fr_row]
            rw [nI_clamp (n := x.2) (by omega), ai_row_ne n3, hk _ (by omega)]
            have el : evl kn (p ++ [x]) = kn x.2 :: evl kn p := by rw [evl_s, evs_2 e2]
            refine r_iast (q := 65) C rfl (by decide +kernel) rfl hm.k471 (vp_in_nI (by omega) (by decide)) ?_
            try simp only [fr_row]
            rw [row_stI, nI_clamp (by omega)]
            refine r_iinc (q := 68) (z := 1) (v := 1) C 3 rfl (by decide +kernel) rfl (by decide) (by decide) (by first | rfl | exact okst_rv rfl) ?_
            dsimp only [List.set]
            rw [nI_1]
            obtain ⟨f9, hf9, hP9⟩ : ∃ f9, f9 = upd f (evl kn p).length (hd0 (evl kn (p ++ [x]))) ∧ PL f9 (evl kn (p ++ [x])) := ⟨_, rfl, by rw [el]; exact ⟨pk_us, PL.up (Nat.le_refl _) hP⟩⟩
            rw [el] at hf9
            change f9 = upd f (evl kn p).length _ at hf9
            simp only [hd0] at hf9
            rw [← hf9]
            have el9 : (evl kn (p ++ [x])).length = (evl kn p).length + 1 := by rw [el]; rfl
            refine r_goto (off := 118) (tgt := 186) C (by decide +kernel) (by decide) ?_
            refine r_iinc (q := 189) (z := 1) (v := 1) C 2 rfl (by decide +kernel) rfl (by decide) (by decide) (by first | rfl | exact okst_rv rfl) ?_
            dsimp only [List.set]
            rw [nI_1]
            refine r_goto (off := -185) (tgt := 4) C (by decide +kernel) (by decide) ?_
            have z0 := ih4 (p ++ [x]) q f9 (by simp at hm4 ⊢; omega) (by rw [hpq]; simp) hP9
            rw [show a + (p ++ [x]).length = a + p.length + 1 by simp; omega] at z0
            rw [el9] at z0
            exact wX.sub (lsub_s (lsub_s (lsub_s (lsub_s (lsub_n (lsub_n (lsub_n lsub_nil))))))) z0
          · have e1 : x.1 = 1 := (nI_eq (b := 1) (by omega) (by decide)).mp c41
            refine r_aload_n (q := 45) (z := 0) C 0 rfl (by decide +kernel) rfl rfl ?_
            refine r_getR (q := 48) C 7 14 462 rfl (by decide +kernel) rfl (by decide) rfl rfl wf_X7_70 win7 hm.1 ?_
            refine r_iload_n (q := 49) (z := 2) C 2 rfl (by decide +kernel) rfl rfl ?_
            refine r_iald (q := 50) C rfl (by decide +kernel) hm.k462 (vp_in_nI (by omega) (by decide)) ?_
            try simp only [fr_row]
            rw [nI_clamp (n := a + p.length) (by omega), ai_row_ne n2, hone]
            have el : evl kn (p ++ [x]) = nI x.2 :: evl kn p := by rw [evl_s, evs_1 e1]
            refine r_goto (off := 14) (tgt := 64) C (by decide +kernel) (by decide) ?_
            refine r_iast (q := 65) C rfl (by decide +kernel) rfl hm.k471 (vp_in_nI (by omega) (by decide)) ?_
            try simp only [fr_row]
            rw [row_stI, nI_clamp (by omega)]
            refine r_iinc (q := 68) (z := 1) (v := 1) C 3 rfl (by decide +kernel) rfl (by decide) (by decide) (by first | rfl | exact okst_rv rfl) ?_
            dsimp only [List.set]
            rw [nI_1]
            obtain ⟨f9, hf9, hP9⟩ : ∃ f9, f9 = upd f (evl kn p).length (hd0 (evl kn (p ++ [x]))) ∧ PL f9 (evl kn (p ++ [x])) := ⟨_, rfl, by rw [el]; exact ⟨pk_us, PL.up (Nat.le_refl _) hP⟩⟩
            rw [el] at hf9
            change f9 = upd f (evl kn p).length _ at hf9
            simp only [hd0] at hf9
            rw [← hf9]
            have el9 : (evl kn (p ++ [x])).length = (evl kn p).length + 1 := by rw [el]; rfl
            refine r_goto (off := 118) (tgt := 186) C (by decide +kernel) (by decide) ?_
            refine r_iinc (q := 189) (z := 1) (v := 1) C 2 rfl (by decide +kernel) rfl (by decide) (by decide) (by first | rfl | exact okst_rv rfl) ?_
            dsimp only [List.set]
            rw [nI_1]
            refine r_goto (off := -185) (tgt := 4) C (by decide +kernel) (by decide) ?_
            have z0 := ih4 (p ++ [x]) q f9 (by simp at hm4 ⊢; omega) (by rw [hpq]; simp) hP9
            rw [show a + (p ++ [x]).length = a + p.length + 1 by simp; omega] at z0
            rw [el9] at z0
            exact wX.sub (lsub_s (lsub_s (lsub_s (lsub_s (lsub_n (lsub_n (lsub_n lsub_nil))))))) z0
        refine r_iload (q := 23) C 4 rfl (by decide +kernel) rfl ?_
        refine r_iconst (q := 24) (z := 1) (v := 1) C rfl (by decide +kernel) (by decide) ?_
        refine r_icmp_eq (q := 27) (off := 9) (tgt := 33) C rfl (by decide +kernel) (by decide) (fun c24 => ?_) (fun c24 => ?_)
        · have e1 : x.1 = 1 := (nI_eq (b := 1) (by omega) (by decide)).mp c24
          exact wX.sub (lsub_s (lsub_s (lsub_s (lsub_s (lsub_s (lsub_n (lsub_n (lsub_nil)))))))) (J33 (Or.inl e1))
        · have e1 : x.1 ≠ 1 := fun e => c24 (by rw [e]; rfl)
          refine r_iload (q := 29) C 4 rfl (by decide +kernel) rfl ?_
          refine r_iconst (q := 30) (z := 2) (v := 2) C rfl (by decide +kernel) (by decide) ?_
          refine r_icmp_ne (q := 33) (off := 41) (tgt := 71) C rfl (by decide +kernel) (by decide) (fun c30 => ?_) (fun c30 => ?_)
          · have e2 : x.1 ≠ 2 := fun e => c30 (by rw [e]; rfl)
            have hk2 : 3 ≤ x.1 ∧ x.1 ≤ 7 ∧ x.2 = 0 ∧ 2 ≤ k ∧ k' = k - 1 := by omega
            obtain ⟨b2, a2, t2, hst9⟩ : ∃ b2 a2 t2, evl kn p = b2 :: a2 :: t2 := by
              match h9 : evl kn p with
              | [] => rw [h9] at hlp; simp at hlp; omega
              | [_] => rw [h9] at hlp; simp at hlp; omega
              | b2 :: a2 :: t2 => exact ⟨b2, a2, t2, rfl⟩
            rw [hst9] at hP hlp ⊢
            simp only [List.length_cons] at hlp ⊢
            obtain ⟨hP1, hP2, hP3⟩ := hP
            simp only [List.length_cons] at hP1 hP2
            have el : (evl kn (p ++ [x])) = jnV x.1 a2 b2 :: t2 := by rw [evl_s, hst9, evs_o e1 e2]
            refine r_iinc (q := 74) (z := (-1)) (v := (-1)) C 3 rfl (by decide +kernel) rfl (by decide) (by decide) (by first | rfl | exact okst_rv rfl) ?_
            dsimp only [List.set]
            rw [pk_m1]
            refine r_aload_n (q := 75) (z := 0) C 0 rfl (by decide +kernel) rfl rfl ?_
            refine r_getR (q := 78) C 7 23 471 rfl (by decide +kernel) rfl (by decide) rfl rfl wf_X7_85 win7 hm.1 ?_
            refine r_iload_n (q := 79) (z := 3) C 3 rfl (by decide +kernel) rfl rfl ?_
            refine r_iald (q := 80) C rfl (by decide +kernel) hm.k471 (vp_in_nI (by omega) (by decide)) ?_
            try simp only [fr_row]
            rw [nI_clamp (by omega), ai_row_eq, hP1]
            refine r_istore (q := 82) C 5 rfl (by decide +kernel) (by decide) (by first | rfl | exact okst_rv rfl) ?_
            dsimp only [List.set]
            refine r_aload_n (q := 83) (z := 0) C 0 rfl (by decide +kernel) rfl rfl ?_
            refine r_getR (q := 86) C 7 23 471 rfl (by decide +kernel) rfl (by decide) rfl rfl wf_X7_85 win7 hm.1 ?_
            refine r_iload_n (q := 87) (z := 3) C 3 rfl (by decide +kernel) rfl rfl ?_
            refine r_iconst (q := 88) (z := 1) (v := 1) C rfl (by decide +kernel) (by decide) ?_
            refine r_isub (q := 89) C rfl (by decide +kernel) ?_
            rw [nI_pred]
            refine r_iald (q := 90) C rfl (by decide +kernel) hm.k471 (vp_in_nI (by omega) (by decide)) ?_
            try simp only [fr_row]
            rw [nI_clamp (by omega), ai_row_eq, hP2]
            refine r_istore (q := 92) C 6 rfl (by decide +kernel) (by decide) (by first | rfl | exact okst_rv rfl) ?_
            dsimp only [List.set]
            refine r_aload_n (q := 93) (z := 0) C 0 rfl (by decide +kernel) rfl rfl ?_
            refine r_getR (q := 96) C 7 23 471 rfl (by decide +kernel) rfl (by decide) rfl rfl wf_X7_85 win7 hm.1 ?_
            refine r_iload_n (q := 97) (z := 3) C 3 rfl (by decide +kernel) rfl rfl ?_
            refine r_iconst (q := 98) (z := 1) (v := 1) C rfl (by decide +kernel) (by decide) ?_
            refine r_isub (q := 99) C rfl (by decide +kernel) ?_
            rw [nI_pred]
            have J185 : ∀ (v : Int32), (v = jnV x.1 a2 b2) → wX G Γ (qM G Γ PP 0 0) 0 0 (h.row (h.fr 471 m) f) 185 [some (rv m), some (.int (nI a)), some (.int (nI (a + p.length))), some (.int (nI (t2.length + 1))), some (.int (nI x.1)), some (.int b2), some (.int a2)] [.int v, .int (nI t2.length), rv (h.fr 471 m)] := by
              intro v hv
              subst hv
              refine r_iast (q := 186) C rfl (by decide +kernel) rfl hm.k471 (vp_in_nI (by omega) (by decide)) ?_
              try simp only [fr_row]
              rw [row_stI, nI_clamp (by omega)]
              obtain ⟨f9, hf9⟩ : ∃ f9, f9 = upd f t2.length (jnV x.1 a2 b2) := ⟨_, rfl⟩
              rw [← hf9]
              have hP9 : PL f9 (evl kn (p ++ [x])) := by rw [el, hf9]; exact ⟨pk_us, PL.up (Nat.le_refl _) hP3⟩
              have el9 : (evl kn (p ++ [x])).length = t2.length + 1 := by rw [el]; rfl
              refine r_iinc (q := 189) (z := 1) (v := 1) C 2 rfl (by decide +kernel) rfl (by decide) (by decide) (by first | rfl | exact okst_rv rfl) ?_
              dsimp only [List.set]
              rw [nI_1]
              refine r_goto (off := -185) (tgt := 4) C (by decide +kernel) (by decide) ?_
              have z0 := ih4 (p ++ [x]) q f9 (by simp at hm4 ⊢; omega) (by rw [hpq]; simp) hP9
              rw [show a + (p ++ [x]).length = a + p.length + 1 by simp; omega] at z0
              rw [el9] at z0
              exact wX.sub (lsub_s (lsub_s (lsub_s (lsub_s (lsub_n (lsub_n (lsub_n lsub_nil))))))) z0
            refine r_iload (q := 101) C 4 rfl (by decide +kernel) rfl ?_
            refine r_iconst (q := 102) (z := 3) (v := 3) C rfl (by decide +kernel) (by decide) ?_
            refine r_icmp_ne (q := 105) (off := 11) (tgt := 113) C rfl (by decide +kernel) (by decide) (fun c102 => ?_) (fun c102 => ?_)
            · have no3 : x.1 ≠ 3 := fun e => c102 (by rw [e]; rfl)
              refine r_iload (q := 115) C 4 rfl (by decide +kernel) rfl ?_
              refine r_iconst (q := 116) (z := 4) (v := 4) C rfl (by decide +kernel) (by decide) ?_
              refine r_icmp_ne (q := 119) (off := 11) (tgt := 127) C rfl (by decide +kernel) (by decide) (fun c116 => ?_) (fun c116 => ?_)
              · have no4 : x.1 ≠ 4 := fun e => c116 (by rw [e]; rfl)
                refine r_iload (q := 129) C 4 rfl (by decide +kernel) rfl ?_
                refine r_iconst (q := 130) (z := 5) (v := 5) C rfl (by decide +kernel) (by decide) ?_
                refine r_icmp_ne (q := 133) (off := 18) (tgt := 148) C rfl (by decide +kernel) (by decide) (fun c130 => ?_) (fun c130 => ?_)
                · have no5 : x.1 ≠ 5 := fun e => c130 (by rw [e]; rfl)
                  refine r_iload (q := 150) C 4 rfl (by decide +kernel) rfl ?_
                  refine r_bipush (q := 152) (z := 6) (v := 6) C rfl (by decide +kernel) (by decide) ?_
                  refine r_icmp_ne (q := 155) (off := 18) (tgt := 170) C rfl (by decide +kernel) (by decide) (fun c152 => ?_) (fun c152 => ?_)
                  · have no6 : x.1 ≠ 6 := fun e => c152 (by rw [e]; rfl)
                    refine r_iload (q := 172) C 6 rfl (by decide +kernel) rfl ?_
                    refine r_if_eq (q := 175) (off := 12) (tgt := 184) C rfl (by decide +kernel) (by decide) (fun c172 => ?_) (fun c172 => ?_)
                    · have ev : (0 : Int32) = jnV x.1 a2 b2 := by unfold jnV; rw [if_neg no3, if_neg no4, if_neg no5, if_neg no6, if_neg (fun e => e.1 c172)]
                      refine r_iconst (q := 185) (z := 0) (v := 0) C rfl (by decide +kernel) (by decide) ?_
                      exact J185 _ ev
                    · refine r_iload (q := 177) C 5 rfl (by decide +kernel) rfl ?_
                      refine r_if_eq (q := 180) (off := 7) (tgt := 184) C rfl (by decide +kernel) (by decide) (fun c177 => ?_) (fun c177 => ?_)
                      · have ev : (0 : Int32) = jnV x.1 a2 b2 := by unfold jnV; rw [if_neg no3, if_neg no4, if_neg no5, if_neg no6, if_neg (fun e => e.2 c177)]
                        refine r_iconst (q := 185) (z := 0) (v := 0) C rfl (by decide +kernel) (by decide) ?_
                        exact J185 _ ev
                      · have ev : (1 : Int32) = jnV x.1 a2 b2 := by unfold jnV; rw [if_neg no3, if_neg no4, if_neg no5, if_neg no6, if_pos ⟨c172, c177⟩]
                        refine r_iconst (q := 181) (z := 1) (v := 1) C rfl (by decide +kernel) (by decide) ?_
                        refine r_goto (off := 4) (tgt := 185) C (by decide +kernel) (by decide) ?_
                        exact J185 _ ev
                  · have eo : x.1 = 6 := (nI_eq (b := 6) (by omega) (by decide)).mp c152
                    refine r_iload (q := 157) C 6 rfl (by decide +kernel) rfl ?_
                    refine r_iload (q := 159) C 5 rfl (by decide +kernel) rfl ?_
                    refine r_icmp_ne (q := 162) (off := 7) (tgt := 166) C rfl (by decide +kernel) (by decide) (fun c159 => ?_) (fun c159 => ?_)
                    · have ev : (0 : Int32) = jnV x.1 a2 b2 := by unfold jnV; rw [if_neg no3, if_neg no4, if_neg no5, if_pos eo, if_neg c159]
                      refine r_iconst (q := 167) (z := 0) (v := 0) C rfl (by decide +kernel) (by decide) ?_
                      refine r_goto (off := 18) (tgt := 185) C (by decide +kernel) (by decide) ?_
                      exact J185 _ ev
                    · have ev : (1 : Int32) = jnV x.1 a2 b2 := by unfold jnV; rw [if_neg no3, if_neg no4, if_neg no5, if_pos eo, if_pos c159]
                      refine r_iconst (q := 163) (z := 1) (v := 1) C rfl (by decide +kernel) (by decide) ?_
                      refine r_goto (off := 22) (tgt := 185) C (by decide +kernel) (by decide) ?_
                      exact J185 _ ev
                · have eo : x.1 = 5 := (nI_eq (b := 5) (by omega) (by decide)).mp c130
                  refine r_iload (q := 135) C 6 rfl (by decide +kernel) rfl ?_
                  refine r_iload (q := 137) C 5 rfl (by decide +kernel) rfl ?_
                  refine r_icmp_ge (q := 140) (off := 7) (tgt := 144) C rfl (by decide +kernel) (by decide) (fun c137 => ?_) (fun c137 => ?_)
                  · have ev : (0 : Int32) = jnV x.1 a2 b2 := by unfold jnV; rw [if_neg no3, if_neg no4, if_pos eo, if_neg (Int32.not_lt.mpr c137)]
                    refine r_iconst (q := 145) (z := 0) (v := 0) C rfl (by decide +kernel) (by decide) ?_
                    refine r_goto (off := 40) (tgt := 185) C (by decide +kernel) (by decide) ?_
                    exact J185 _ ev
                  · have ev : (1 : Int32) = jnV x.1 a2 b2 := by unfold jnV; rw [if_neg no3, if_neg no4, if_pos eo, if_pos (Int32.not_le.mp c137)]
                    refine r_iconst (q := 141) (z := 1) (v := 1) C rfl (by decide +kernel) (by decide) ?_
                    refine r_goto (off := 44) (tgt := 185) C (by decide +kernel) (by decide) ?_
                    exact J185 _ ev
              · have eo : x.1 = 4 := (nI_eq (b := 4) (by omega) (by decide)).mp c116
                refine r_iload (q := 121) C 6 rfl (by decide +kernel) rfl ?_
                refine r_iload (q := 123) C 5 rfl (by decide +kernel) rfl ?_
                refine r_isub (q := 124) C rfl (by decide +kernel) ?_
                have ev : a2 - b2 = jnV x.1 a2 b2 := by unfold jnV; rw [if_neg no3, if_pos eo]
                refine r_goto (off := 61) (tgt := 185) C (by decide +kernel) (by decide) ?_
                exact J185 _ ev
            · have eo : x.1 = 3 := (nI_eq (b := 3) (by omega) (by decide)).mp c102
              refine r_iload (q := 107) C 6 rfl (by decide +kernel) rfl ?_
              refine r_iload (q := 109) C 5 rfl (by decide +kernel) rfl ?_
              refine r_iadd (q := 110) C rfl (by decide +kernel) ?_
              have ev : a2 + b2 = jnV x.1 a2 b2 := by unfold jnV; rw [if_pos eo]
              refine r_goto (off := 75) (tgt := 185) C (by decide +kernel) (by decide) ?_
              exact J185 _ ev
          · have e2 : x.1 = 2 := (nI_eq (b := 2) (by omega) (by decide)).mp c30
            exact wX.sub (lsub_s (lsub_s (lsub_s (lsub_s (lsub_s (lsub_n (lsub_n (lsub_nil)))))))) (J33 (Or.inr e2))
  have z0 := L4 (cd.length + 1) [] cd (h.ai (h.fr 471 m)) (by omega) rfl trivial
  rw [row_self] at z0
  exact wX.sub (lsub_s (lsub_s (lsub_s (lsub_s (lsub_n (lsub_n (lsub_n lsub_nil))))))) z0
