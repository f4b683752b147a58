/-! ===== the model reads a text ===== -/
theorem MK.at_ {T : TT} {h : HP} {m i : Nat} (K : MK T h m) (hi : i ≤ T.N) : (∃ t, (Prod.snd T)[i]? = some t ∧ T.kd i = t.1 ∧ T.vl i = t.2.1 ∧ T.pp i = t.2.2 ∧ TKi h m i t) ∨ (i = T.N ∧ T.kd i = 13 ∧ T.vl i = 0 ∧ T.pp i = Prod.fst T ∧ h.ai (h.fr 452 m) i = 0 ∧ h.ai (h.fr 453 m) i = nI (Prod.fst T)) := by
  unfold TT.kd TT.vl TT.pp
  cases e : (Prod.snd T)[i]? with
  | some t => exact Or.inl ⟨t, rfl, rfl, rfl, rfl, K.1 i t e⟩
  | none =>
    have hN : i = T.N := by
      have := List.getElem?_eq_none_iff.mp e
      unfold TT.N at *; omega
    subst hN
    exact Or.inr ⟨rfl, rfl, rfl, rfl, K.2.1, K.2.2⟩
theorem MK.sign {T : TT} {h : HP} {m i c : Nat} (K : MK T h m) (hi : i ≤ T.N) (hc : c < 127) (hs : sgk c ≠ 14) : (h.ai (h.fr 452 m) i = 3 ∧ h.al (h.fr 454 m) i = lN c) ↔ T.kd i = sgk c := by
  rcases K.at_ hi with ⟨t, -, e1, -, -, e2⟩ | ⟨-, e1, -, -, e2, -⟩
  · rw [e1]; exact e2.1.2.1 c hc hs
  · rw [e1, e2]
    have := sgk_sd c
    exact ⟨fun e => absurd e.1 (by decide), fun e => absurd e (by omega)⟩
theorem MK.word {T : TT} {h : HP} {m i w : Nat} (K : MK T h m) (hi : i ≤ T.N) (hw : w < 10) : (h.ai (h.fr 452 m) i = 1 ∧ h.al (h.fr 454 m) i = lN (Hw w)) ↔ (T.kd i, T.vl i) = kw w := by
  rcases K.at_ hi with ⟨t, -, e1, e3, -, e2⟩ | ⟨-, e1, e3, -, e2, -⟩
  · rw [e1, e3]; exact e2.1.1 w hw
  · rw [e1, e2]
    have h9 := kw_sd (w := w) (by omega)
    exact ⟨fun e => absurd e.1 (by decide), fun e => absurd (congrArg Prod.fst e) (by show ¬ (13 : Nat) = (kw w).1; omega)⟩
theorem MK.num {T : TT} {h : HP} {m i : Nat} (K : MK T h m) (hW : TW T) (hi : i ≤ T.N) : (h.ai (h.fr 452 m) i = 2 ↔ T.kd i = 0) ∧ (T.kd i = 0 → h.al (h.fr 454 m) i = lN (T.vl i)) ∧ (h.ai (h.fr 452 m) i = 0 ↔ T.kd i = 13) ∧ h.ai (h.fr 453 m) i = nI (T.pp i) := by
  rcases K.at_ hi with ⟨t, ht, e1, e3, e4, e2⟩ | ⟨-, e1, e3, e4, e2, e5⟩
  · rw [e1, e3, e4]
    exact ⟨e2.1.2.2.1, e2.1.2.2.2.1, ⟨fun e => absurd e e2.1.2.2.2.2, fun e => absurd e (hW.2.2 t (List.mem_of_getElem? ht)).2.1⟩, e2.2⟩
  · rw [e1, e2, e4, e5]
    exact ⟨⟨fun e => absurd e (by decide), fun e => absurd e (by decide)⟩, fun e => absurd e (by decide), ⟨fun _ => rfl, fun _ => rfl⟩, rfl⟩
def MWd (h : HP) (m : Nat) : Prop := ∀ w, w < 10 → h.al (h.fr 457 m) w = lN (Hw w)
theorem MWd.fm {A B : List Nat} {h h' : HP} {m : Nat} (F : Fm A B h h') (hm : LM h.kd h.gl h.fr m) (hA : 457 ∉ A) (M : MWd h m) : MWd h' m := by
  obtain ⟨f1, f2, f3, f4, f5, f6⟩ := F
  intro w hw
  rw [f2, (f6 _ (by rw [hm.g457]; exact hA)).2]; exact M w hw
def MKW (T : TT) (h : HP) (m : Nat) : Prop := MK T h m ∧ MWd h m ∧ TW T
theorem MKW.fm {T : TT} {A B : List Nat} {h h' : HP} {m : Nat} (F : Fm A B h h') (hm : LM h.kd h.gl h.fr m) (hA : 452 ∉ A ∧ 453 ∉ A ∧ 454 ∉ A ∧ 457 ∉ A) (M : MKW T h m) : MKW T h' m := by
  obtain ⟨⟨k1, k2, k3⟩, m2, m3⟩ := M
  refine ⟨?_, m2.fm F hm hA.2.2.2, m3⟩
  obtain ⟨f1, f2, f3, f4, f5, f6⟩ := F
  have e1 : h'.ai (h'.fr 452 m) = h.ai (h.fr 452 m) := by rw [f2, (f6 _ (by rw [hm.g452]; exact hA.1)).1]
  have e2 : h'.ai (h'.fr 453 m) = h.ai (h.fr 453 m) := by rw [f2, (f6 _ (by rw [hm.g453]; exact hA.2.1)).1]
  have e3 : h'.al (h'.fr 454 m) = h.al (h.fr 454 m) := by rw [f2, (f6 _ (by rw [hm.g454]; exact hA.2.2.1)).2]
  refine ⟨fun i t ht => ?_, by rw [e1]; exact k2, by rw [e2]; exact k3⟩
  unfold TKi
  rw [e1, e2, e3]
  exact k1 i t ht
/-- where the reader stands, and its fault -/
def BF (T : TT) (i F : Nat) (h : HP) (m : Nat) : Prop := h.fi 455 m = nI i ∧ i ≤ T.N ∧ h.fi 456 m = nI F ∧ F < 100000
theorem BF.fm {T : TT} {i F : Nat} {A B : List Nat} {h h' : HP} {m : Nat} (Fr : Fm A B h h') (hB : 455 ∉ B ∧ 456 ∉ B) (M : BF T i F h m) : BF T i F h' m := ⟨(Fr.2.2.2.2.1 _ _ hB.1).trans M.1, M.2.1, (Fr.2.2.2.2.1 _ _ hB.2).trans M.2.2.1, M.2.2.2⟩
theorem BF.adv {T : TT} {i F : Nat} {h : HP} {m : Nat} (hW : TW T) (M : BF T i F h m) (hk : T.kd i ≠ 13) : BF T (i + 1) F (h.setI 455 m (nI (i + 1))) m := ⟨fi_eq, hW.lt M.2.1 hk, (fi_ne (by decide)).trans M.2.2.1, M.2.2.2⟩
theorem BF.flt {T : TT} {i F G : Nat} {h : HP} {m : Nat} (M : BF T i F h m) (hG : G < 100000) : BF T i G (h.setI 456 m (nI G)) m := ⟨(fi_ne (by decide)).trans M.1, M.2.1, fi_eq, hG⟩
theorem fq_lt {T : TT} (hW : TW T) {k i : Nat} (hk : k < 100) : fq T k i < 100000 := by have := hW.pl i; unfold fq; omega
theorem fq_pos {T : TT} {k i : Nat} (hk : 0 < k) : 0 < fq T k i := by unfold fq; omega
theorem sg13 {T : TT} {i c : Nat} (h : T.kd i = sgk c) (hc : sgk c ≠ 14) : T.kd i ≠ 13 := by have := sgk_sd c; omega
theorem kw13 {T : TT} {i w : Nat} (h : (T.kd i, T.vl i) = kw w) (hw : w < 10) : T.kd i ≠ 13 := by
  have h9 := kw_sd (w := w) (by omega)
  have : T.kd i = (kw w).1 := by rw [← h]
  omega
/-- the code so far, from s on in the half X -/
def KC (X s : Nat) (cd : Cd) (h : HP) (m : Nat) : Prop := h.fi 464 m = nI X ∧ X < 2 ∧ h.fi 465 m = nI (s + cd.length) ∧ ∀ j x, cd[j]? = some x → h.ai (h.fr 461 m) (660 * X + s + j) = nI x.1 ∧ h.ai (h.fr 462 m) (660 * X + s + j) = nI x.2
theorem KC.fm {X s : Nat} {cd : Cd} {A B : List Nat} {h h' : HP} {m : Nat} (F : Fm A B h h') (hm : LM h.kd h.gl h.fr m) (hA : 461 ∉ A ∧ 462 ∉ A) (hB : 464 ∉ B ∧ 465 ∉ B) (M : KC X s cd h m) : KC X s cd h' m := by
  obtain ⟨m1, m2, m3, m4⟩ := M
  obtain ⟨f1, f2, f3, f4, f5, f6⟩ := F
  refine ⟨(f5 _ _ hB.1).trans m1, m2, (f5 _ _ hB.2).trans m3, ?_⟩
  rw [f2, (f6 _ (by rw [hm.g461]; exact hA.1)).1, (f6 _ (by rw [hm.g462]; exact hA.2)).1]
  exact m4
/-- below s, and in the other half, the code stands as it was -/
def HC (X s m : Nat) (h h' : HP) : Prop := ∀ p, p < 660 * X + s ∨ 660 * X + 660 ≤ p → h'.ai (h'.fr 461 m) p = h.ai (h.fr 461 m) p ∧ h'.ai (h'.fr 462 m) p = h.ai (h.fr 462 m) p
theorem HC.rf {X s m : Nat} {h : HP} : HC X s m h h := fun _ _ => ⟨rfl, rfl⟩
theorem HC.tr {X s m : Nat} {h h1 h2 : HP} (a : HC X s m h h1) (b : HC X s m h1 h2) : HC X s m h h2 := fun p hp => ⟨(b p hp).1.trans (a p hp).1, (b p hp).2.trans (a p hp).2⟩
theorem HC.fm {X s m : Nat} {A B : List Nat} {h h' : HP} (F : Fm A B h h') (hm : LM h.kd h.gl h.fr m) (hA : 461 ∉ A ∧ 462 ∉ A) : HC X s m h h' := by
  obtain ⟨f1, f2, f3, f4, f5, f6⟩ := F
  intro p _
  rw [f2, (f6 _ (by rw [hm.g461]; exact hA.1)).1, (f6 _ (by rw [hm.g462]; exact hA.2)).1]
  exact ⟨rfl, rfl⟩
theorem KC.emit {X s : Nat} {cd : Cd} {h : HP} {m o a : Nat} (hm : LM h.kd h.gl h.fr m) (M : KC X s cd h m) (hl : s + cd.length < 660) :
    KC X s (cd ++ [(o, a)]) (((h.row (h.fr 461 m) (upd (h.ai (h.fr 461 m)) (660 * X + (s + cd.length)) (nI o))).row (h.fr 462 m) (upd ((h.row (h.fr 461 m) (upd (h.ai (h.fr 461 m)) (660 * X + (s + cd.length)) (nI o))).ai (h.fr 462 m)) (660 * X + (s + cd.length)) (nI a))).setI 465 m (nI (s + cd.length + 1))) m ∧
    HC X s m h (((h.row (h.fr 461 m) (upd (h.ai (h.fr 461 m)) (660 * X + (s + cd.length)) (nI o))).row (h.fr 462 m) (upd ((h.row (h.fr 461 m) (upd (h.ai (h.fr 461 m)) (660 * X + (s + cd.length)) (nI o))).ai (h.fr 462 m)) (660 * X + (s + cd.length)) (nI a))).setI 465 m (nI (s + cd.length + 1))) := by
  obtain ⟨m1, m2, m3, m4⟩ := M
  have n1 : h.fr 461 m ≠ h.fr 462 m := gl_ne hm.g461 hm.g462 (by decide)
  have a1 : ∀ f g v, (((h.row (h.fr 461 m) f).row (h.fr 462 m) g).setI 465 m v).ai (h.fr 461 m) = f := fun f g v => by
    show ((h.row (h.fr 461 m) f).row (h.fr 462 m) g).ai (h.fr 461 m) = f
    rw [ai_row_ne n1, ai_row_eq]
  have a2 : ∀ f g v, (((h.row (h.fr 461 m) f).row (h.fr 462 m) g).setI 465 m v).ai (h.fr 462 m) = g := fun f g v => by
    show ((h.row (h.fr 461 m) f).row (h.fr 462 m) g).ai (h.fr 462 m) = g
    rw [ai_row_eq]
  constructor
  · refine ⟨(fi_ne (by decide)).trans m1, m2, ?_, fun j x hx => ?_⟩
    · rw [fi_eq]; simp; rfl
    · show (((h.row (h.fr 461 m) _).row (h.fr 462 m) _).setI 465 m _).ai (h.fr 461 m) _ = _ ∧ (((h.row (h.fr 461 m) _).row (h.fr 462 m) _).setI 465 m _).ai (h.fr 462 m) _ = _
      rw [a1, a2, ai_row_ne (Ne.symm n1)]
      by_cases e : j = cd.length
      · subst e
        rw [List.getElem?_append_right (Nat.le_refl _)] at hx
        simp at hx
        subst hx
        rw [show 660 * X + s + cd.length = 660 * X + (s + cd.length) by omega, pk_us, pk_us]
        exact ⟨rfl, rfl⟩
      · have hj : j < cd.length := by
          have := (List.getElem?_eq_some_iff.mp hx).1
          simp at this; omega
        rw [List.getElem?_append_left hj] at hx
        rw [pk_un (by omega), pk_un (by omega)]
        exact m4 j x hx
  · intro p hp
    show (((h.row (h.fr 461 m) _).row (h.fr 462 m) _).setI 465 m _).ai (h.fr 461 m) _ = _ ∧ (((h.row (h.fr 461 m) _).row (h.fr 462 m) _).setI 465 m _).ai (h.fr 462 m) _ = _
    rw [a1, a2, ai_row_ne (Ne.symm n1), pk_un (by omega), pk_un (by omega)]
    exact ⟨rfl, rfl⟩
/-- what waits on the levels, the innermost first -/
def FR (h : HP) (m : Nat) : Fs → Prop
  | [] => True
  | f :: t => (h.ai (h.fr 467 m) t.length = nI f.1 ∧ h.ai (h.fr 468 m) t.length = nI f.2.1 ∧ h.ai (h.fr 469 m) t.length = nI f.2.2) ∧ FR h m t
theorem FR.same {h h' : HP} {m : Nat} : ∀ {fs : Fs} (k : Nat), fs.length ≤ k → (∀ p, p < k → h'.ai (h'.fr 467 m) p = h.ai (h.fr 467 m) p ∧ h'.ai (h'.fr 468 m) p = h.ai (h.fr 468 m) p ∧ h'.ai (h'.fr 469 m) p = h.ai (h.fr 469 m) p) → FR h m fs → FR h' m fs
  | [], _, _, _, _ => trivial
  | f :: t, k, hk, he, H => by
    simp only [List.length_cons] at hk
    obtain ⟨e1, e2, e3⟩ := he t.length (by omega)
    exact ⟨⟨e1.trans H.1.1, e2.trans H.1.2.1, e3.trans H.1.2.2⟩, FR.same k (by omega) he H.2⟩
theorem FR.fm {fs : Fs} {A B : List Nat} {h h' : HP} {m : Nat} (F : Fm A B h h') (hm : LM h.kd h.gl h.fr m) (hA : 467 ∉ A ∧ 468 ∉ A ∧ 469 ∉ A) (M : FR h m fs) : FR h' m fs := by
  obtain ⟨f1, f2, f3, f4, f5, f6⟩ := F
  refine FR.same fs.length (Nat.le_refl _) (fun p _ => ?_) M
  rw [f2, (f6 _ (by rw [hm.g467]; exact hA.1)).1, (f6 _ (by rw [hm.g468]; exact hA.2.1)).1, (f6 _ (by rw [hm.g469]; exact hA.2.2)).1]
  exact ⟨rfl, rfl, rfl⟩
/-- the top of one of the three changes -/
theorem FR.set1 {h : HP} {m v : Nat} {f : Nat × Nat × Nat} {t : Fs} (hm : LM h.kd h.gl h.fr m) (M : FR h m (f :: t)) : FR (h.row (h.fr 467 m) (upd (h.ai (h.fr 467 m)) t.length (nI v))) m ((v, f.2.1, f.2.2) :: t) := by
  have n1 : h.fr 468 m ≠ h.fr 467 m := gl_ne hm.g468 hm.g467 (by decide)
  have n2 : h.fr 469 m ≠ h.fr 467 m := gl_ne hm.g469 hm.g467 (by decide)
  refine ⟨⟨?_, ?_, ?_⟩, FR.same t.length (Nat.le_refl _) (fun p hp => ⟨?_, ?_, ?_⟩) M.2⟩
  · rw [fr_row, ai_row_eq, pk_us]
  · rw [fr_row, ai_row_ne n1]; exact M.1.2.1
  · rw [fr_row, ai_row_ne n2]; exact M.1.2.2
  · rw [fr_row, ai_row_eq, pk_un (by omega)]
  · rw [fr_row, ai_row_ne n1]
  · rw [fr_row, ai_row_ne n2]
theorem FR.set2 {h : HP} {m v : Nat} {f : Nat × Nat × Nat} {t : Fs} (hm : LM h.kd h.gl h.fr m) (M : FR h m (f :: t)) : FR (h.row (h.fr 468 m) (upd (h.ai (h.fr 468 m)) t.length (nI v))) m ((f.1, v, f.2.2) :: t) := by
  have n1 : h.fr 467 m ≠ h.fr 468 m := gl_ne hm.g467 hm.g468 (by decide)
  have n2 : h.fr 469 m ≠ h.fr 468 m := gl_ne hm.g469 hm.g468 (by decide)
  refine ⟨⟨?_, ?_, ?_⟩, FR.same t.length (Nat.le_refl _) (fun p hp => ⟨?_, ?_, ?_⟩) M.2⟩
  · rw [fr_row, ai_row_ne n1]; exact M.1.1
  · rw [fr_row, ai_row_eq, pk_us]
  · rw [fr_row, ai_row_ne n2]; exact M.1.2.2
  · rw [fr_row, ai_row_ne n1]
  · rw [fr_row, ai_row_eq, pk_un (by omega)]
  · rw [fr_row, ai_row_ne n2]
theorem FR.set3 {h : HP} {m v : Nat} {f : Nat × Nat × Nat} {t : Fs} (hm : LM h.kd h.gl h.fr m) (M : FR h m (f :: t)) : FR (h.row (h.fr 469 m) (upd (h.ai (h.fr 469 m)) t.length (nI v))) m ((f.1, f.2.1, v) :: t) := by
  have n1 : h.fr 467 m ≠ h.fr 469 m := gl_ne hm.g467 hm.g469 (by decide)
  have n2 : h.fr 468 m ≠ h.fr 469 m := gl_ne hm.g468 hm.g469 (by decide)
  refine ⟨⟨?_, ?_, ?_⟩, FR.same t.length (Nat.le_refl _) (fun p hp => ⟨?_, ?_, ?_⟩) M.2⟩
  · rw [fr_row, ai_row_ne n1]; exact M.1.1
  · rw [fr_row, ai_row_ne n2]; exact M.1.2.1
  · rw [fr_row, ai_row_eq, pk_us]
  · rw [fr_row, ai_row_ne n1]
  · rw [fr_row, ai_row_ne n2]
  · rw [fr_row, ai_row_eq, pk_un (by omega)]
theorem FR.open_ {h : HP} {m : Nat} {t : Fs} (hm : LM h.kd h.gl h.fr m) (M : FR h m t) : FR (((h.row (h.fr 467 m) (upd (h.ai (h.fr 467 m)) t.length 0)).row (h.fr 468 m) (upd ((h.row (h.fr 467 m) (upd (h.ai (h.fr 467 m)) t.length 0)).ai (h.fr 468 m)) t.length 0)).row (h.fr 469 m) (upd (((h.row (h.fr 467 m) (upd (h.ai (h.fr 467 m)) t.length 0)).row (h.fr 468 m) (upd ((h.row (h.fr 467 m) (upd (h.ai (h.fr 467 m)) t.length 0)).ai (h.fr 468 m)) t.length 0)).ai (h.fr 469 m)) t.length 0)) m ((0, 0, 0) :: t) := by
  have n78 : h.fr 467 m ≠ h.fr 468 m := gl_ne hm.g467 hm.g468 (by decide)
  have n79 : h.fr 467 m ≠ h.fr 469 m := gl_ne hm.g467 hm.g469 (by decide)
  have n89 : h.fr 468 m ≠ h.fr 469 m := gl_ne hm.g468 hm.g469 (by decide)
  refine ⟨⟨?_, ?_, ?_⟩, FR.same t.length (Nat.le_refl _) (fun p hp => ⟨?_, ?_, ?_⟩) M⟩
  · simp only [fr_row]; rw [ai_row_ne n79, ai_row_ne n78, ai_row_eq, pk_us]; rfl
  · simp only [fr_row]; rw [ai_row_ne n89, ai_row_eq, pk_us]; rfl
  · simp only [fr_row]; rw [ai_row_eq, pk_us]; rfl
  · simp only [fr_row]; rw [ai_row_ne n79, ai_row_ne n78, ai_row_eq, pk_un (by omega)]
  · simp only [fr_row]; rw [ai_row_ne n89, ai_row_eq, pk_un (by omega), ai_row_ne (Ne.symm n78)]
  · simp only [fr_row]; rw [ai_row_eq, pk_un (by omega), ai_row_ne (Ne.symm n89), ai_row_ne (Ne.symm n79)]
def PSt (T : TT) (X s i : Nat) (fs : Fs) (cd : Cd) (h : HP) (m : Nat) : Prop := BF T i 0 h m ∧ KC X s cd h m ∧ h.fi 466 m = nI (fs.length - 1) ∧ FR h m fs ∧ s + cd.length + pnd fs ≤ i
/-- the state stands for a machine that runs, is at fault, or has ended -/
def PZ (T : TT) (X s : Nat) (z : Sum CF RE) (h : HP) (m : Nat) : Prop := match z with
  | .inl c => PSt T X s c.2.1 c.2.2.1 c.2.2.2 h m ∧ cok c
  | .inr (.inl f) => (∃ i, BF T i f h m) ∧ 0 < f ∧ h.fi 464 m = nI X ∧ ∃ k, k ≤ 601 ∧ h.fi 465 m = nI k
  | .inr (.inr e) => BF T e.1 0 h m ∧ KC X s e.2 h m ∧ s + e.2.length ≤ e.1
def isP (z : Sum CF RE) : Bool := match z with
  | .inl c => c.1
  | .inr _ => false
def mz (T : TT) (z : Sum CF RE) : Nat := match z with
  | .inl c => T.N + 1 - c.2.1
  | .inr _ => 0
theorem nz_fl {w : Nat} {cd : Cd} : (fl w cd).length = cd.length + nz w := by
  unfold fl nz; split
  · rfl
  · simp
theorem stP_at {T : TT} {i : Nat} {fs : Fs} {cd : Cd} {c : CF} (h : stP T i fs cd = .inl c) : c.2.1 = i + 1 := by
  unfold stP at h
  split at h
  · split at h
    · cases h
    · split at h <;> (cases h; rfl)
  · cases h
theorem mst_at {T : TT} {c c' : CF} (h : mst T c = .inl c') : c'.2.1 = c.2.1 + 1 := by
  unfold mst at h
  split at h
  · exact stP_at h
  · unfold stB at h
    split at h
    · cases h
    · split at h
      · cases h; rfl
      · split at h
        · cases h; rfl
        · unfold stA at h
          split at h
          · cases h; rfl
          · split at h
            · cases h
            · split at h
              · cases h; rfl
              · cases h
/-! one line -/
def LN (T : TT) (i : Nat) (lw : LW) (x : Sum Nat (Nat × LW)) : Prop := (T.kd i ≠ 10 ∧ T.kd i ≠ 11 ∧ x = .inl (fq T 1 i)) ∨ ((T.kd i = 10 ∨ T.kd i = 11) ∧ ((16 ≤ lw.length ∧ x = .inl (fq T 5 i)) ∨ (lw.length < 16 ∧ ((T.kd (i + 1) ≠ 12 ∧ x = .inl (fq T 1 (i + 1))) ∨ (T.kd (i + 1) = 12 ∧ ∃ y, RR T (true, i + 2, [(0, 0, 0)], []) y ∧ ((∃ f, y = .inl f ∧ x = .inl f) ∨ ∃ j cd, y = .inr (j, cd) ∧ ((T.kd j ≠ 9 ∧ x = .inl (fq T 1 j)) ∨ (T.kd j = 9 ∧ x = .inr (j + 1, lw ++ [(decide (T.kd i = 11), cd)])))))))))
theorem TX.en {T : TT} {i : Nat} {lw : LW} (h : T.kd i = 13) : TX T i lw (.inr lw) := ⟨1, Or.inl ⟨h, rfl⟩⟩
theorem TX.flt {T : TT} {i f : Nat} {lw : LW} (h : T.kd i ≠ 13) (hl : LN T i lw (.inl f)) : TX T i lw (.inl f) := by
  refine ⟨1, ?_⟩
  simp only [TXn]
  refine Or.inr ?_
  rcases hl with ⟨a, b, c⟩ | ⟨a, hl⟩
  · cases c; exact Or.inl ⟨h, a, b, rfl⟩
  · refine Or.inr ⟨a, ?_⟩
    rcases hl with ⟨b, c⟩ | ⟨b, hl⟩
    · cases c; exact Or.inl ⟨b, rfl⟩
    · refine Or.inr ⟨b, ?_⟩
      rcases hl with ⟨c, d⟩ | ⟨c, y, hy, hl⟩
      · cases d; exact Or.inl ⟨c, rfl⟩
      · refine Or.inr ⟨c, y, hy, ?_⟩
        rcases hl with ⟨f', d, e⟩ | ⟨j, cd, d, hl⟩
        · cases e; exact Or.inl ⟨f, d, rfl⟩
        · refine Or.inr ⟨j, cd, d, ?_⟩
          rcases hl with ⟨e, g⟩ | ⟨e, g⟩
          · cases g; exact Or.inl ⟨e, rfl⟩
          · cases g
theorem TX.st {T : TT} {i j : Nat} {lw lw' : LW} {r : Sum Nat LW} (h : T.kd i ≠ 13) (hl : LN T i lw (.inr (j, lw'))) (hr : TX T j lw' r) : TX T i lw r := by
  obtain ⟨n, hn⟩ := hr
  refine ⟨n + 1, ?_⟩
  simp only [TXn]
  refine Or.inr (Or.inr ?_)
  rcases hl with ⟨a, b, c⟩ | ⟨a, hl⟩
  · cases c
  · refine ⟨a, ?_⟩
    rcases hl with ⟨b, c⟩ | ⟨b, hl⟩
    · cases c
    · refine Or.inr ⟨b, ?_⟩
      rcases hl with ⟨c, d⟩ | ⟨c, y, hy, hl⟩
      · cases d
      · refine Or.inr ⟨c, y, hy, ?_⟩
        rcases hl with ⟨f', d, e⟩ | ⟨j', cd, d, hl⟩
        · cases e
        · refine Or.inr ⟨j', cd, d, ?_⟩
          rcases hl with ⟨e, g⟩ | ⟨e, g⟩
          · cases g
          · cases g; exact Or.inr ⟨e, hn⟩
/-- a line that was read, its code ahead of c -/
def LAc (c : Nat) (h : HP) (m X k : Nat) (ln : Bool × Cd) : Prop := h.ai (h.fr 459 m) (16 * X + k) = b2i ln.1 ∧ ∃ s, h.ai (h.fr 460 m) (16 * X + k) = nI (660 * X + s) ∧ s + ln.2.length < c ∧ CA (h.ai (h.fr 461 m)) (h.ai (h.fr 462 m)) (660 * X + s) ln.2 ∧ hgt ln.2 = some 1
/-- the text that is being read -/
def TS (X : Nat) (lw : LW) (i : Nat) (h : HP) (m : Nat) : Prop := h.fi 464 m = nI X ∧ X < 2 ∧ lw.length ≤ 16 ∧ h.ai (h.fr 458 m) X = nI lw.length ∧ ∃ c, c ≤ i ∧ h.fi 465 m = nI c ∧ ∀ k ln, lw[k]? = some ln → LAc c h m X k ln
theorem kw4 {k : Nat} (h : k < 6) : kw (4 + k) = (1, k) := by
  rcases (show k = 0 ∨ k = 1 ∨ k = 2 ∨ k = 3 ∨ k = 4 ∨ k = 5 by omega) with e | e | e | e | e | e <;> subst e <;> rfl

theorem c_X7_wrong {G : GT} {h : HP} {m : Nat} {T : TT} {i F : Nat} {k : Nat} (hm : LM h.kd h.gl h.fr m) (K : MKW T h m) (Bf : BF T i F h m) (hk : k < 100) : Con G 1 0 0 yX7_wrong cX7_wrong 2 none [rv m, .int (nI k)] h (PV (fun h' => BF T i (if F = 0 then fq T k i else F) h' m ∧ Fm [] [456] h h')) := by
  refine Con.of (lv := [some (rv m), some (.int (nI k))]) (by decide) (by simp only [lvE_r, lvE_i, lvE_l, lvE_s, lvE_0]; rfl) (by simp only [lgl_r, lgl_i, lgl_l, lgl_s, lgl_0]; decide) (fun Γ C R => ?_)
  generalize hPP : (PV (fun h' => BF T i (if F = 0 then fq T k i else F) h' m ∧ Fm [] [456] h h')) = PP
  have hN6 := K.2.2.2.1
  have hiN := Bf.2.1
  have hF9 := Bf.2.2.2
  refine r_aload_n (q := 1) (z := 0) C 0 rfl (by decide +kernel) rfl rfl ?_
  refine r_getI (q := 4) C 7 8 456 rfl (by decide +kernel) rfl (by decide) rfl rfl wf_X7_182 win7 hm.1 ?_
  rw [Bf.2.2.1]
  refine r_if_ne (q := 7) (off := 21) (tgt := 25) C rfl (by decide +kernel) (by decide) (fun c4 => ?_) (fun c4 => ?_)
  · have hF0 : ¬ F = 0 := fun e => c4 (by rw [e]; rfl)
    exact r_ret C (by decide +kernel) rfl (by decide) (by decide) (eqP hPP ⟨rfl, (by first | exact ⟨by rw [if_neg hF0]; exact Bf, Fm.rf⟩ | exact ⟨by rw [if_pos hF0]; exact Bf.flt (fq_lt K.2.2 hk), Fm.rf.setI (by decide)⟩)⟩)
  · have hF0 : F = 0 := (nI_eq (b := 0) (by omega) (by decide)).mp c4
    refine r_aload_n (q := 8) (z := 0) C 0 rfl (by decide +kernel) rfl rfl ?_
    refine r_iload_n (q := 9) (z := 1) C 1 rfl (by decide +kernel) rfl rfl ?_
    refine r_bipush (q := 11) (z := 16) (v := 16) C rfl (by decide +kernel) (by decide) ?_
    refine r_aload_n (q := 12) (z := 0) C 0 rfl (by decide +kernel) rfl rfl ?_
    refine r_getR (q := 15) C 7 5 453 rfl (by decide +kernel) rfl (by decide) rfl rfl wf_X7_27 win7 hm.1 ?_
    refine r_aload_n (q := 16) (z := 0) C 0 rfl (by decide +kernel) rfl rfl ?_
    refine r_getI (q := 19) C 7 7 455 rfl (by decide +kernel) rfl (by decide) rfl rfl wf_X7_179 win7 hm.1 ?_
    rw [Bf.1]
    refine r_iald (q := 20) C rfl (by decide +kernel) hm.k453 (vp_in_nI (by omega) (by decide)) ?_
    rw [nI_clamp (by omega), (K.1.num K.2.2 hiN).2.2.2]
    refine r_imul (q := 21) C rfl (by decide +kernel) ?_
    rw [show (16 : Int32) = nI 16 from rfl, pk_mul]
    refine r_iadd (q := 22) C rfl (by decide +kernel) ?_
    rw [nI_add]
    refine r_putI (q := 25) C 7 8 456 rfl (by decide +kernel) rfl (by decide) rfl rfl wf_X7_182 win7 tyX7 tyX7_ok nmX7 rfl (tyX7_ok 8 (by decide)) rfl wnd7 rfl rfl hm.1 ?_
    exact r_ret C (by decide +kernel) rfl (by decide) (by decide) (eqP hPP ⟨rfl, (by first | exact ⟨by rw [if_neg hF0]; exact Bf, Fm.rf⟩ | exact ⟨by rw [if_pos hF0]; exact Bf.flt (fq_lt K.2.2 hk), Fm.rf.setI (by decide)⟩)⟩)
theorem c_X7_isSign {G : GT} {h : HP} {m : Nat} {T : TT} {i F : Nat} {c : Nat} (hm : LM h.kd h.gl h.fr m) (K : MKW T h m) (Bf : BF T i F h m) (hc : c < 127) (hs : sgk c ≠ 14) : Con G 1 0 0 yX7_isSign cX7_isSign 2 (some .boolean) [rv m, .int (nI c)] h (PI (fun v h' => b2i (decide (F = 0 ∧ T.kd i = sgk c)) = v ∧ h = h')) := by
  refine Con.of (lv := [some (rv m), some (.int (nI c))]) (by decide) (by simp only [lvE_r, lvE_i, lvE_l, lvE_s, lvE_0]; rfl) (by simp only [lgl_r, lgl_i, lgl_l, lgl_s, lgl_0]; decide) (fun Γ C R => ?_)
  generalize hPP : (PI (fun v h' => b2i (decide (F = 0 ∧ T.kd i = sgk c)) = v ∧ h = h')) = PP
  have hN6 := K.2.2.2.1
  have hiN := Bf.2.1
  have hF9 := Bf.2.2.2
  refine r_aload_n (q := 1) (z := 0) C 0 rfl (by decide +kernel) rfl rfl ?_
  refine r_getI (q := 4) C 7 8 456 rfl (by decide +kernel) rfl (by decide) rfl rfl wf_X7_182 win7 hm.1 ?_
  rw [Bf.2.2.1]
  refine r_if_ne (q := 7) (off := 35) (tgt := 39) C rfl (by decide +kernel) (by decide) (fun c4 => ?_) (fun c4 => ?_)
  · have hF0 : ¬ F = 0 := fun e => c4 (by rw [e]; rfl)
    refine r_iconst (q := 40) (z := 0) (v := 0) C rfl (by decide +kernel) (by decide) ?_
    exact r_zret C (by decide +kernel) rfl (by first | decide | exact b2i_nar _) (by decide) (by decide) (eqP hPP ⟨_, rfl, ⟨by first | exact bf (fun e => hF0 e.1) | exact bf (fun e => c17 ((K.1.sign hiN hc hs).mpr e.2).1) | exact bf (fun e => c32 ((K.1.sign hiN hc hs).mpr e.2).2) | exact bt ⟨hF0, (K.1.sign hiN hc hs).mp ⟨c17, c32⟩⟩, rfl⟩⟩)
  · have hF0 : F = 0 := (nI_eq (b := 0) (by omega) (by decide)).mp c4
    refine r_aload_n (q := 8) (z := 0) C 0 rfl (by decide +kernel) rfl rfl ?_
    refine r_getR (q := 11) C 7 4 452 rfl (by decide +kernel) rfl (by decide) rfl rfl wf_X7_24 win7 hm.1 ?_
    refine r_aload_n (q := 12) (z := 0) C 0 rfl (by decide +kernel) rfl rfl ?_
    refine r_getI (q := 15) C 7 7 455 rfl (by decide +kernel) rfl (by decide) rfl rfl wf_X7_179 win7 hm.1 ?_
    rw [Bf.1]
    refine r_iald (q := 16) C rfl (by decide +kernel) hm.k452 (vp_in_nI (by omega) (by decide)) ?_
    rw [nI_clamp (by omega)]
    refine r_iconst (q := 17) (z := 3) (v := 3) C rfl (by decide +kernel) (by decide) ?_
    refine r_icmp_ne (q := 20) (off := 22) (tgt := 39) C rfl (by decide +kernel) (by decide) (fun c17 => ?_) (fun c17 => ?_)
    · refine r_iconst (q := 40) (z := 0) (v := 0) C rfl (by decide +kernel) (by decide) ?_
      exact r_zret C (by decide +kernel) rfl (by first | decide | exact b2i_nar _) (by decide) (by decide) (eqP hPP ⟨_, rfl, ⟨by first | exact bf (fun e => hF0 e.1) | exact bf (fun e => c17 ((K.1.sign hiN hc hs).mpr e.2).1) | exact bf (fun e => c32 ((K.1.sign hiN hc hs).mpr e.2).2) | exact bt ⟨hF0, (K.1.sign hiN hc hs).mp ⟨c17, c32⟩⟩, rfl⟩⟩)
    · refine r_aload_n (q := 21) (z := 0) C 0 rfl (by decide +kernel) rfl rfl ?_
      refine r_getR (q := 24) C 7 6 454 rfl (by decide +kernel) rfl (by decide) rfl rfl wf_X7_30 win7 hm.1 ?_
      refine r_aload_n (q := 25) (z := 0) C 0 rfl (by decide +kernel) rfl rfl ?_
      refine r_getI (q := 28) C 7 7 455 rfl (by decide +kernel) rfl (by decide) rfl rfl wf_X7_179 win7 hm.1 ?_
      rw [Bf.1]
      refine r_lald (q := 29) C rfl (by decide +kernel) hm.k454 (vp_in_nI (by omega) (by decide)) ?_
      rw [nI_clamp (by omega)]
      refine r_iload_n (q := 30) (z := 1) C 1 rfl (by decide +kernel) rfl rfl ?_
      refine r_i2l (q := 31) C rfl (by decide +kernel) ?_
      rw [nI_l (by omega)]
      refine r_lcmp (q := 32) C rfl (by decide +kernel) ?_
      refine r_if_ne (q := 35) (off := 7) (tgt := 39) C rfl (by decide +kernel) (by decide) (fun c32 => ?_) (fun c32 => ?_)
      · have c32 : ¬ h.al (h.fr 454 m) i = lN c := fun e => c32 ((lg_cmp_eq _ _).mpr e)
        refine r_iconst (q := 40) (z := 0) (v := 0) C rfl (by decide +kernel) (by decide) ?_
        exact r_zret C (by decide +kernel) rfl (by first | decide | exact b2i_nar _) (by decide) (by decide) (eqP hPP ⟨_, rfl, ⟨by first | exact bf (fun e => hF0 e.1) | exact bf (fun e => c17 ((K.1.sign hiN hc hs).mpr e.2).1) | exact bf (fun e => c32 ((K.1.sign hiN hc hs).mpr e.2).2) | exact bt ⟨hF0, (K.1.sign hiN hc hs).mp ⟨c17, c32⟩⟩, rfl⟩⟩)
      · have c32 : h.al (h.fr 454 m) i = lN c := (lg_cmp_eq _ _).mp c32
        refine r_iconst (q := 36) (z := 1) (v := 1) C rfl (by decide +kernel) (by decide) ?_
        refine r_goto (off := 4) (tgt := 40) C (by decide +kernel) (by decide) ?_
        exact r_zret C (by decide +kernel) rfl (by first | decide | exact b2i_nar _) (by decide) (by decide) (eqP hPP ⟨_, rfl, ⟨by first | exact bf (fun e => hF0 e.1) | exact bf (fun e => c17 ((K.1.sign hiN hc hs).mpr e.2).1) | exact bf (fun e => c32 ((K.1.sign hiN hc hs).mpr e.2).2) | exact bt ⟨hF0, (K.1.sign hiN hc hs).mp ⟨c17, c32⟩⟩, rfl⟩⟩)
theorem c_X7_isWord {G : GT} {h : HP} {m : Nat} {T : TT} {i F : Nat} {w : Nat} (hm : LM h.kd h.gl h.fr m) (K : MKW T h m) (Bf : BF T i F h m) (hw : w < 10) : Con G 1 0 0 yX7_isWord cX7_isWord 2 (some .boolean) [rv m, .int (nI w)] h (PI (fun v h' => b2i (decide (F = 0 ∧ (T.kd i, T.vl i) = kw w)) = v ∧ h = h')) := by
  refine Con.of (lv := [some (rv m), some (.int (nI w))]) (by decide) (by simp only [lvE_r, lvE_i, lvE_l, lvE_s, lvE_0]; rfl) (by simp only [lgl_r, lgl_i, lgl_l, lgl_s, lgl_0]; decide) (fun Γ C R => ?_)
  generalize hPP : (PI (fun v h' => b2i (decide (F = 0 ∧ (T.kd i, T.vl i) = kw w)) = v ∧ h = h')) = PP
  have hN6 := K.2.2.2.1
  have hiN := Bf.2.1
  have hF9 := Bf.2.2.2
  refine r_aload_n (q := 1) (z := 0) C 0 rfl (by decide +kernel) rfl rfl ?_
  refine r_getI (q := 4) C 7 8 456 rfl (by decide +kernel) rfl (by decide) rfl rfl wf_X7_182 win7 hm.1 ?_
  rw [Bf.2.2.1]
  refine r_if_ne (q := 7) (off := 39) (tgt := 43) C rfl (by decide +kernel) (by decide) (fun c4 => ?_) (fun c4 => ?_)
  · have hF0 : ¬ F = 0 := fun e => c4 (by rw [e]; rfl)
    refine r_iconst (q := 44) (z := 0) (v := 0) C rfl (by decide +kernel) (by decide) ?_
    exact r_zret C (by decide +kernel) rfl (by first | decide | exact b2i_nar _) (by decide) (by decide) (eqP hPP ⟨_, rfl, ⟨by first | exact bf (fun e => hF0 e.1) | exact bf (fun e => c17 ((K.1.word hiN hw).mpr e.2).1) | exact bf (fun e => c36 ((K.1.word hiN hw).mpr e.2).2) | exact bt ⟨hF0, (K.1.word hiN hw).mp ⟨c17, c36⟩⟩, rfl⟩⟩)
  · have hF0 : F = 0 := (nI_eq (b := 0) (by omega) (by decide)).mp c4
    refine r_aload_n (q := 8) (z := 0) C 0 rfl (by decide +kernel) rfl rfl ?_
    refine r_getR (q := 11) C 7 4 452 rfl (by decide +kernel) rfl (by decide) rfl rfl wf_X7_24 win7 hm.1 ?_
    refine r_aload_n (q := 12) (z := 0) C 0 rfl (by decide +kernel) rfl rfl ?_
    refine r_getI (q := 15) C 7 7 455 rfl (by decide +kernel) rfl (by decide) rfl rfl wf_X7_179 win7 hm.1 ?_
    rw [Bf.1]
    refine r_iald (q := 16) C rfl (by decide +kernel) hm.k452 (vp_in_nI (by omega) (by decide)) ?_
    rw [nI_clamp (by omega)]
    refine r_iconst (q := 17) (z := 1) (v := 1) C rfl (by decide +kernel) (by decide) ?_
    refine r_icmp_ne (q := 20) (off := 26) (tgt := 43) C rfl (by decide +kernel) (by decide) (fun c17 => ?_) (fun c17 => ?_)
    · refine r_iconst (q := 44) (z := 0) (v := 0) C rfl (by decide +kernel) (by decide) ?_
      exact r_zret C (by decide +kernel) rfl (by first | decide | exact b2i_nar _) (by decide) (by decide) (eqP hPP ⟨_, rfl, ⟨by first | exact bf (fun e => hF0 e.1) | exact bf (fun e => c17 ((K.1.word hiN hw).mpr e.2).1) | exact bf (fun e => c36 ((K.1.word hiN hw).mpr e.2).2) | exact bt ⟨hF0, (K.1.word hiN hw).mp ⟨c17, c36⟩⟩, rfl⟩⟩)
    · refine r_aload_n (q := 21) (z := 0) C 0 rfl (by decide +kernel) rfl rfl ?_
      refine r_getR (q := 24) C 7 6 454 rfl (by decide +kernel) rfl (by decide) rfl rfl wf_X7_30 win7 hm.1 ?_
      refine r_aload_n (q := 25) (z := 0) C 0 rfl (by decide +kernel) rfl rfl ?_
      refine r_getI (q := 28) C 7 7 455 rfl (by decide +kernel) rfl (by decide) rfl rfl wf_X7_179 win7 hm.1 ?_
      rw [Bf.1]
      refine r_lald (q := 29) C rfl (by decide +kernel) hm.k454 (vp_in_nI (by omega) (by decide)) ?_
      rw [nI_clamp (by omega)]
      refine r_aload_n (q := 30) (z := 0) C 0 rfl (by decide +kernel) rfl rfl ?_
      refine r_getR (q := 33) C 7 9 457 rfl (by decide +kernel) rfl (by decide) rfl rfl wf_X7_54 win7 hm.1 ?_
      refine r_iload_n (q := 34) (z := 1) C 1 rfl (by decide +kernel) rfl rfl ?_
      refine r_lald (q := 35) C rfl (by decide +kernel) hm.k457 (vp_in_nI (by omega) (by decide)) ?_
      rw [nI_clamp (n := w) (by omega), K.2.1 w hw]
      refine r_lcmp (q := 36) C rfl (by decide +kernel) ?_
      refine r_if_ne (q := 39) (off := 7) (tgt := 43) C rfl (by decide +kernel) (by decide) (fun c36 => ?_) (fun c36 => ?_)
      · have c36 : ¬ h.al (h.fr 454 m) i = lN (Hw w) := fun e => c36 ((lg_cmp_eq _ _).mpr e)
        refine r_iconst (q := 44) (z := 0) (v := 0) C rfl (by decide +kernel) (by decide) ?_
        exact r_zret C (by decide +kernel) rfl (by first | decide | exact b2i_nar _) (by decide) (by decide) (eqP hPP ⟨_, rfl, ⟨by first | exact bf (fun e => hF0 e.1) | exact bf (fun e => c17 ((K.1.word hiN hw).mpr e.2).1) | exact bf (fun e => c36 ((K.1.word hiN hw).mpr e.2).2) | exact bt ⟨hF0, (K.1.word hiN hw).mp ⟨c17, c36⟩⟩, rfl⟩⟩)
      · have c36 : h.al (h.fr 454 m) i = lN (Hw w) := (lg_cmp_eq _ _).mp c36
        refine r_iconst (q := 40) (z := 1) (v := 1) C rfl (by decide +kernel) (by decide) ?_
        refine r_goto (off := 4) (tgt := 44) C (by decide +kernel) (by decide) ?_
        exact r_zret C (by decide +kernel) rfl (by first | decide | exact b2i_nar _) (by decide) (by decide) (eqP hPP ⟨_, rfl, ⟨by first | exact bf (fun e => hF0 e.1) | exact bf (fun e => c17 ((K.1.word hiN hw).mpr e.2).1) | exact bf (fun e => c36 ((K.1.word hiN hw).mpr e.2).2) | exact bt ⟨hF0, (K.1.word hiN hw).mp ⟨c17, c36⟩⟩, rfl⟩⟩)
theorem c_X7_takeSign {G : GT} {h : HP} {m : Nat} {T : TT} {i F : Nat} {c : Nat} (hm : LM h.kd h.gl h.fr m) (K : MKW T h m) (Bf : BF T i F h m) (hc : c < 127) (hs : sgk c ≠ 14) : Con G 2 0 0 yX7_takeSign cX7_takeSign 2 none [rv m, .int (nI c)] h (PV (fun h' => (F = 0 ∧ T.kd i = sgk c → BF T (i + 1) F h' m) ∧ (¬ (F = 0 ∧ T.kd i = sgk c) → BF T i (if F = 0 then fq T 1 i else F) h' m) ∧ Fm [] [455, 456] h h')) := by
  refine Con.of (lv := [some (rv m), some (.int (nI c))]) (by decide) (by simp only [lvE_r, lvE_i, lvE_l, lvE_s, lvE_0]; rfl) (by simp only [lgl_r, lgl_i, lgl_l, lgl_s, lgl_0]; decide) (fun Γ C R => ?_)
  generalize hPP : (PV (fun h' => (F = 0 ∧ T.kd i = sgk c → BF T (i + 1) F h' m) ∧ (¬ (F = 0 ∧ T.kd i = sgk c) → BF T i (if F = 0 then fq T 1 i else F) h' m) ∧ Fm [] [455, 456] h h')) = PP
  refine r_aload_n (q := 1) (z := 0) C 0 rfl (by decide +kernel) rfl rfl ?_
  refine r_iload_n (q := 2) (z := 1) C 1 rfl (by decide +kernel) rfl rfl ?_
  refine cV1I (q := 5) C R rfl (by decide +kernel) lk_X7_185 (c_X7_isSign hm K Bf hc hs) (by decide) (by decide) (by decide) rfl (by first | exact Nat.le_of_ble_eq_true rfl | (simp only [List.map_cons, List.map_nil, List.sum_cons, List.sum_nil, rv_cat]; exact Nat.le_of_ble_eq_true rfl)) rfl hm.1 ?_
  rintro _ _ ⟨rfl, rfl⟩
  refine r_if_eq (q := 8) (off := 16) (tgt := 21) C rfl (by decide +kernel) (by decide) (fun c5 => ?_) (fun c5 => ?_)
  · have hno := of_decide_eq_false ((b2i_0 _).mp c5)
    refine r_aload_n (q := 22) (z := 0) C 0 rfl (by decide +kernel) rfl rfl ?_
    refine r_iconst (q := 23) (z := 1) (v := nI 1) C rfl (by decide +kernel) (by decide) ?_
    refine cV1V (q := 26) C R rfl (by decide +kernel) lk_X7_188 (c_X7_wrong (k := 1) hm K Bf (by decide)) (by decide) (by decide) (by decide) rfl (by first | exact Nat.le_of_ble_eq_true rfl | (simp only [List.map_cons, List.map_nil, List.sum_cons, List.sum_nil, rv_cat]; exact Nat.le_of_ble_eq_true rfl)) rfl hm.1 ?_
    rintro h23 ⟨B23, F23⟩
    exact r_ret C (by decide +kernel) rfl (by decide) (by decide) (eqP hPP ⟨rfl, (by first | exact ⟨fun _ => Bf.adv K.2.2 (sg13 hyes.2 hs), fun e => absurd hyes e, Fm.rf.setI (by decide)⟩ | exact ⟨fun e => absurd e hno, fun _ => B23, F23.mono (by decide) (by decide)⟩)⟩)
  · have hyes := of_decide_eq_true ((b2i_n0 _).mp c5)
    refine r_aload_n (q := 9) (z := 0) C 0 rfl (by decide +kernel) rfl rfl ?_
    refine r_dup (q := 10) C rfl (by decide +kernel) (by first | rfl | exact rv_cat _) ?_
    refine r_getI (q := 13) C 7 7 455 rfl (by decide +kernel) rfl (by decide) rfl rfl wf_X7_179 win7 hm.1 ?_
    rw [Bf.1]
    refine r_iconst (q := 14) (z := 1) (v := 1) C rfl (by decide +kernel) (by decide) ?_
    refine r_iadd (q := 15) C rfl (by decide +kernel) ?_
    rw [nI_1]
    refine r_putI (q := 18) C 7 7 455 rfl (by decide +kernel) rfl (by decide) rfl rfl wf_X7_179 win7 tyX7 tyX7_ok nmX7 rfl (tyX7_ok 7 (by decide)) rfl wnd7 rfl rfl hm.1 ?_
    refine r_goto (off := 8) (tgt := 26) C (by decide +kernel) (by decide) ?_
    exact r_ret C (by decide +kernel) rfl (by decide) (by decide) (eqP hPP ⟨rfl, (by first | exact ⟨fun _ => Bf.adv K.2.2 (sg13 hyes.2 hs), fun e => absurd hyes e, Fm.rf.setI (by decide)⟩ | exact ⟨fun e => absurd e hno, fun _ => B23, F23.mono (by decide) (by decide)⟩)⟩)
theorem c_X7_hasSign {G : GT} {h : HP} {m : Nat} {T : TT} {i F : Nat} {c : Nat} (hm : LM h.kd h.gl h.fr m) (K : MKW T h m) (Bf : BF T i F h m) (hc : c < 127) (hs : sgk c ≠ 14) : Con G 2 0 0 yX7_hasSign cX7_hasSign 3 (some .boolean) [rv m, .int (nI c)] h (PI (fun v h' => b2i (decide (F = 0 ∧ T.kd i = sgk c)) = v ∧ BF T (if F = 0 ∧ T.kd i = sgk c then i + 1 else i) F h' m ∧ Fm [] [455] h h')) := by
  refine Con.of (lv := [some (rv m), some (.int (nI c)), none]) (by decide) (by simp only [lvE_r, lvE_i, lvE_l, lvE_s, lvE_0]; rfl) (by simp only [lgl_r, lgl_i, lgl_l, lgl_s, lgl_0]; decide) (fun Γ C R => ?_)
  generalize hPP : (PI (fun v h' => b2i (decide (F = 0 ∧ T.kd i = sgk c)) = v ∧ BF T (if F = 0 ∧ T.kd i = sgk c then i + 1 else i) F h' m ∧ Fm [] [455] h h')) = PP
  refine r_aload_n (q := 1) (z := 0) C 0 rfl (by decide +kernel) rfl rfl ?_
  refine r_iload_n (q := 2) (z := 1) C 1 rfl (by decide +kernel) rfl rfl ?_
  refine cV1I (q := 5) C R rfl (by decide +kernel) lk_X7_185 (c_X7_isSign hm K Bf hc hs) (by decide) (by decide) (by decide) rfl (by first | exact Nat.le_of_ble_eq_true rfl | (simp only [List.map_cons, List.map_nil, List.sum_cons, List.sum_nil, rv_cat]; exact Nat.le_of_ble_eq_true rfl)) rfl hm.1 ?_
  rintro _ _ ⟨rfl, rfl⟩
  refine r_istore_n (q := 6) (z := 2) C 2 rfl (by decide +kernel) rfl (by decide) (by first | rfl | exact okst_rv rfl) ?_
  dsimp only [List.set]
  refine r_aload_n (q := 7) (z := 0) C 0 rfl (by decide +kernel) rfl rfl ?_
  refine r_dup (q := 8) C rfl (by decide +kernel) (by first | rfl | exact rv_cat _) ?_
  refine r_getI (q := 11) C 7 7 455 rfl (by decide +kernel) rfl (by decide) rfl rfl wf_X7_179 win7 hm.1 ?_
  rw [Bf.1]
  refine r_iload_n (q := 12) (z := 2) C 2 rfl (by decide +kernel) rfl rfl ?_
  refine r_if_eq (q := 15) (off := 7) (tgt := 19) C rfl (by decide +kernel) (by decide) (fun c12 => ?_) (fun c12 => ?_)
  · have hno := of_decide_eq_false ((b2i_0 _).mp c12)
    have e20 : nI i + 0 = nI (if F = 0 ∧ T.kd i = sgk c then i + 1 else i) := by rw [if_neg hno]; exact nI_add i 0
    refine r_iconst (q := 20) (z := 0) (v := 0) C rfl (by decide +kernel) (by decide) ?_
    refine r_iadd (q := 21) C rfl (by decide +kernel) ?_
    rw [e20]
    refine r_putI (q := 24) C 7 7 455 rfl (by decide +kernel) rfl (by decide) rfl rfl wf_X7_179 win7 tyX7 tyX7_ok nmX7 rfl (tyX7_ok 7 (by decide)) rfl wnd7 rfl rfl hm.1 ?_
    refine r_iload_n (q := 25) (z := 2) C 2 rfl (by decide +kernel) rfl rfl ?_
    exact r_zret C (by decide +kernel) rfl (by first | decide | exact b2i_nar _) (by decide) (by decide) (eqP hPP ⟨_, rfl, (by first | exact ⟨rfl, by rw [if_pos hyes]; exact Bf.adv K.2.2 (sg13 hyes.2 hs), Fm.rf.setI (by decide)⟩ | exact ⟨rfl, by rw [if_neg hno, show nI i = h.fi 455 m from Bf.1.symm, setI_self]; exact Bf, Fm.rf.setI (by decide)⟩)⟩)
  · have hyes := of_decide_eq_true ((b2i_n0 _).mp c12)
    have e20 : nI i + 1 = nI (if F = 0 ∧ T.kd i = sgk c then i + 1 else i) := by rw [if_pos hyes]; exact nI_1 i
    refine r_iconst (q := 16) (z := 1) (v := 1) C rfl (by decide +kernel) (by decide) ?_
    refine r_goto (off := 4) (tgt := 20) C (by decide +kernel) (by decide) ?_
    refine r_iadd (q := 21) C rfl (by decide +kernel) ?_
    rw [e20]
    refine r_putI (q := 24) C 7 7 455 rfl (by decide +kernel) rfl (by decide) rfl rfl wf_X7_179 win7 tyX7 tyX7_ok nmX7 rfl (tyX7_ok 7 (by decide)) rfl wnd7 rfl rfl hm.1 ?_
    refine r_iload_n (q := 25) (z := 2) C 2 rfl (by decide +kernel) rfl rfl ?_
    exact r_zret C (by decide +kernel) rfl (by first | decide | exact b2i_nar _) (by decide) (by decide) (eqP hPP ⟨_, rfl, (by first | exact ⟨rfl, by rw [if_pos hyes]; exact Bf.adv K.2.2 (sg13 hyes.2 hs), Fm.rf.setI (by decide)⟩ | exact ⟨rfl, by rw [if_neg hno, show nI i = h.fi 455 m from Bf.1.symm, setI_self]; exact Bf, Fm.rf.setI (by decide)⟩)⟩)
theorem c_X7_hasWord {G : GT} {h : HP} {m : Nat} {T : TT} {i F : Nat} {w : Nat} (hm : LM h.kd h.gl h.fr m) (K : MKW T h m) (Bf : BF T i F h m) (hw : w < 10) : Con G 2 0 0 yX7_hasWord cX7_hasWord 3 (some .boolean) [rv m, .int (nI w)] h (PI (fun v h' => b2i (decide (F = 0 ∧ (T.kd i, T.vl i) = kw w)) = v ∧ BF T (if F = 0 ∧ (T.kd i, T.vl i) = kw w then i + 1 else i) F h' m ∧ Fm [] [455] h h')) := by
  refine Con.of (lv := [some (rv m), some (.int (nI w)), none]) (by decide) (by simp only [lvE_r, lvE_i, lvE_l, lvE_s, lvE_0]; rfl) (by simp only [lgl_r, lgl_i, lgl_l, lgl_s, lgl_0]; decide) (fun Γ C R => ?_)
  generalize hPP : (PI (fun v h' => b2i (decide (F = 0 ∧ (T.kd i, T.vl i) = kw w)) = v ∧ BF T (if F = 0 ∧ (T.kd i, T.vl i) = kw w then i + 1 else i) F h' m ∧ Fm [] [455] h h')) = PP
  refine r_aload_n (q := 1) (z := 0) C 0 rfl (by decide +kernel) rfl rfl ?_
  refine r_iload_n (q := 2) (z := 1) C 1 rfl (by decide +kernel) rfl rfl ?_
  refine cV1I (q := 5) C R rfl (by decide +kernel) lk_X7_192 (c_X7_isWord hm K Bf hw) (by decide) (by decide) (by decide) rfl (by first | exact Nat.le_of_ble_eq_true rfl | (simp only [List.map_cons, List.map_nil, List.sum_cons, List.sum_nil, rv_cat]; exact Nat.le_of_ble_eq_true rfl)) rfl hm.1 ?_
  rintro _ _ ⟨rfl, rfl⟩
  refine r_istore_n (q := 6) (z := 2) C 2 rfl (by decide +kernel) rfl (by decide) (by first | rfl | exact okst_rv rfl) ?_
  dsimp only [List.set]
  refine r_aload_n (q := 7) (z := 0) C 0 rfl (by decide +kernel) rfl rfl ?_
  refine r_dup (q := 8) C rfl (by decide +kernel) (by first | rfl | exact rv_cat _) ?_
  refine r_getI (q := 11) C 7 7 455 rfl (by decide +kernel) rfl (by decide) rfl rfl wf_X7_179 win7 hm.1 ?_
  rw [Bf.1]
  refine r_iload_n (q := 12) (z := 2) C 2 rfl (by decide +kernel) rfl rfl ?_
  refine r_if_eq (q := 15) (off := 7) (tgt := 19) C rfl (by decide +kernel) (by decide) (fun c12 => ?_) (fun c12 => ?_)
  · have hno := of_decide_eq_false ((b2i_0 _).mp c12)
    have e20 : nI i + 0 = nI (if F = 0 ∧ (T.kd i, T.vl i) = kw w then i + 1 else i) := by rw [if_neg hno]; exact nI_add i 0
    refine r_iconst (q := 20) (z := 0) (v := 0) C rfl (by decide +kernel) (by decide) ?_
    refine r_iadd (q := 21) C rfl (by decide +kernel) ?_
    rw [e20]
    refine r_putI (q := 24) C 7 7 455 rfl (by decide +kernel) rfl (by decide) rfl rfl wf_X7_179 win7 tyX7 tyX7_ok nmX7 rfl (tyX7_ok 7 (by decide)) rfl wnd7 rfl rfl hm.1 ?_
    refine r_iload_n (q := 25) (z := 2) C 2 rfl (by decide +kernel) rfl rfl ?_
    exact r_zret C (by decide +kernel) rfl (by first | decide | exact b2i_nar _) (by decide) (by decide) (eqP hPP ⟨_, rfl, (by first | exact ⟨rfl, by rw [if_pos hyes]; exact Bf.adv K.2.2 (kw13 hyes.2 hw), Fm.rf.setI (by decide)⟩ | exact ⟨rfl, by rw [if_neg hno, show nI i = h.fi 455 m from Bf.1.symm, setI_self]; exact Bf, Fm.rf.setI (by decide)⟩)⟩)
  · have hyes := of_decide_eq_true ((b2i_n0 _).mp c12)
    have e20 : nI i + 1 = nI (if F = 0 ∧ (T.kd i, T.vl i) = kw w then i + 1 else i) := by rw [if_pos hyes]; exact nI_1 i
    refine r_iconst (q := 16) (z := 1) (v := 1) C rfl (by decide +kernel) (by decide) ?_
    refine r_goto (off := 4) (tgt := 20) C (by decide +kernel) (by decide) ?_
    refine r_iadd (q := 21) C rfl (by decide +kernel) ?_
    rw [e20]
    refine r_putI (q := 24) C 7 7 455 rfl (by decide +kernel) rfl (by decide) rfl rfl wf_X7_179 win7 tyX7 tyX7_ok nmX7 rfl (tyX7_ok 7 (by decide)) rfl wnd7 rfl rfl hm.1 ?_
    refine r_iload_n (q := 25) (z := 2) C 2 rfl (by decide +kernel) rfl rfl ?_
    exact r_zret C (by decide +kernel) rfl (by first | decide | exact b2i_nar _) (by decide) (by decide) (eqP hPP ⟨_, rfl, (by first | exact ⟨rfl, by rw [if_pos hyes]; exact Bf.adv K.2.2 (kw13 hyes.2 hw), Fm.rf.setI (by decide)⟩ | exact ⟨rfl, by rw [if_neg hno, show nI i = h.fi 455 m from Bf.1.symm, setI_self]; exact Bf, Fm.rf.setI (by decide)⟩)⟩)
theorem c_X7_takeWord {G : GT} {h : HP} {m : Nat} {T : TT} {i F : Nat} {w : Nat} (hm : LM h.kd h.gl h.fr m) (K : MKW T h m) (Bf : BF T i F h m) (hw : w < 10) : Con G 3 0 0 yX7_takeWord cX7_takeWord 2 none [rv m, .int (nI w)] h (PV (fun h' => (F = 0 ∧ (T.kd i, T.vl i) = kw w → BF T (i + 1) F h' m) ∧ (¬ (F = 0 ∧ (T.kd i, T.vl i) = kw w) → BF T i (if F = 0 then fq T 1 i else F) h' m) ∧ Fm [] [455, 456] h h')) := by
  refine Con.of (lv := [some (rv m), some (.int (nI w))]) (by decide) (by simp only [lvE_r, lvE_i, lvE_l, lvE_s, lvE_0]; rfl) (by simp only [lgl_r, lgl_i, lgl_l, lgl_s, lgl_0]; decide) (fun Γ C R => ?_)
  generalize hPP : (PV (fun h' => (F = 0 ∧ (T.kd i, T.vl i) = kw w → BF T (i + 1) F h' m) ∧ (¬ (F = 0 ∧ (T.kd i, T.vl i) = kw w) → BF T i (if F = 0 then fq T 1 i else F) h' m) ∧ Fm [] [455, 456] h h')) = PP
  refine r_aload_n (q := 1) (z := 0) C 0 rfl (by decide +kernel) rfl rfl ?_
  refine r_iload_n (q := 2) (z := 1) C 1 rfl (by decide +kernel) rfl rfl ?_
  refine cV1I (q := 5) C R rfl (by decide +kernel) lk_X7_195 (c_X7_hasWord hm K Bf hw) (by decide) (by decide) (by decide) rfl (by first | exact Nat.le_of_ble_eq_true rfl | (simp only [List.map_cons, List.map_nil, List.sum_cons, List.sum_nil, rv_cat]; exact Nat.le_of_ble_eq_true rfl)) rfl hm.1 ?_
  rintro _ h2 ⟨rfl, B2, F2⟩
  have hm0 := hm
  have hm : LM h2.kd h2.gl h2.fr m := LM.fm F2 hm0
  have K2 := MKW.fm F2 hm0 (by decide) K
  refine r_if_ne (q := 8) (off := 8) (tgt := 13) C rfl (by decide +kernel) (by decide) (fun c5 => ?_) (fun c5 => ?_)
  · have hyes := of_decide_eq_true ((b2i_n0 _).mp c5)
    rw [if_pos hyes] at B2
    exact r_ret C (by decide +kernel) rfl (by decide) (by decide) (eqP hPP ⟨rfl, (by first | exact ⟨fun _ => B2, fun e => absurd hyes e, F2.mono (by decide) (by decide)⟩ | exact ⟨fun e => absurd e hno, fun _ => B10, (F2.mono (by decide) (by decide)).tr (F10.mono (by decide) (by decide))⟩)⟩)
  · have hno := of_decide_eq_false ((b2i_0 _).mp c5)
    rw [if_neg hno] at B2
    refine r_aload_n (q := 9) (z := 0) C 0 rfl (by decide +kernel) rfl rfl ?_
    refine r_iconst (q := 10) (z := 1) (v := nI 1) C rfl (by decide +kernel) (by decide) ?_
    refine cV1V (q := 13) C R rfl (by decide +kernel) lk_X7_188 (c_X7_wrong (k := 1) hm K2 B2 (by decide)) (by decide) (by decide) (by decide) rfl (by first | exact Nat.le_of_ble_eq_true rfl | (simp only [List.map_cons, List.map_nil, List.sum_cons, List.sum_nil, rv_cat]; exact Nat.le_of_ble_eq_true rfl)) rfl hm.1 ?_
    rintro h10 ⟨B10, F10⟩
    exact r_ret C (by decide +kernel) rfl (by decide) (by decide) (eqP hPP ⟨rfl, (by first | exact ⟨fun _ => B2, fun e => absurd hyes e, F2.mono (by decide) (by decide)⟩ | exact ⟨fun e => absurd e hno, fun _ => B10, (F2.mono (by decide) (by decide)).tr (F10.mono (by decide) (by decide))⟩)⟩)
theorem c_X7_emit {G : GT} {h : HP} {m X s o a : Nat} {cd : Cd} (hm : LM h.kd h.gl h.fr m) (Kc : KC X s cd h m) (hl : s + cd.length < 660) : Con G 1 0 0 yX7_emit cX7_emit 3 none [rv m, .int (nI o), .int (nI a)] h (PV (fun h' => KC X s (cd ++ [(o, a)]) h' m ∧ HC X s m h h' ∧ Fm [461, 462] [465] h h')) := by
  refine Con.of (lv := [some (rv m), some (.int (nI o)), some (.int (nI a))]) (by decide) (by simp only [lvE_r, lvE_i, lvE_l, lvE_s, lvE_0]; rfl) (by simp only [lgl_r, lgl_i, lgl_l, lgl_s, lgl_0]; decide) (fun Γ C R => ?_)
  generalize hPP : (PV (fun h' => KC X s (cd ++ [(o, a)]) h' m ∧ HC X s m h h' ∧ Fm [461, 462] [465] h h')) = PP
  have hX := Kc.2.1
  refine r_aload_n (q := 1) (z := 0) C 0 rfl (by decide +kernel) rfl rfl ?_
  refine r_getR (q := 4) C 7 13 461 rfl (by decide +kernel) rfl (by decide) rfl rfl wf_X7_67 win7 hm.1 ?_
  refine r_sipush (q := 7) (z := 660) (v := 660) C rfl (by decide +kernel) (by decide) ?_
  refine r_aload_n (q := 8) (z := 0) C 0 rfl (by decide +kernel) rfl rfl ?_
  refine r_getI (q := 11) C 7 16 464 rfl (by decide +kernel) rfl (by decide) rfl rfl wf_X7_198 win7 hm.1 ?_
  rw [Kc.1]
  refine r_imul (q := 12) C rfl (by decide +kernel) ?_
  rw [show (660 : Int32) = nI 660 from rfl, pk_mul]
  refine r_aload_n (q := 13) (z := 0) C 0 rfl (by decide +kernel) rfl rfl ?_
  refine r_getI (q := 16) C 7 17 465 rfl (by decide +kernel) rfl (by decide) rfl rfl wf_X7_201 win7 hm.1 ?_
  rw [Kc.2.2.1]
  refine r_iadd (q := 17) C rfl (by decide +kernel) ?_
  rw [nI_add]
  refine r_iload_n (q := 18) (z := 1) C 1 rfl (by decide +kernel) rfl rfl ?_
  refine r_iast (q := 19) C rfl (by decide +kernel) rfl hm.k461 (vp_in_nI (by omega) (by decide)) ?_
  rw [stI_row, nI_clamp (by omega)]
  refine r_aload_n (q := 20) (z := 0) C 0 rfl (by decide +kernel) rfl rfl ?_
  refine r_getR (q := 23) C 7 14 462 rfl (by decide +kernel) rfl (by decide) rfl rfl wf_X7_70 win7 hm.1 ?_
  refine r_sipush (q := 26) (z := 660) (v := 660) C rfl (by decide +kernel) (by decide) ?_
  refine r_aload_n (q := 27) (z := 0) C 0 rfl (by decide +kernel) rfl rfl ?_
  refine r_getI (q := 30) C 7 16 464 rfl (by decide +kernel) rfl (by decide) rfl rfl wf_X7_198 win7 hm.1 ?_
  rw [fi_row, Kc.1]
  refine r_imul (q := 31) C rfl (by decide +kernel) ?_
  rw [show (660 : Int32) = nI 660 from rfl, pk_mul]
  refine r_aload_n (q := 32) (z := 0) C 0 rfl (by decide +kernel) rfl rfl ?_
  refine r_getI (q := 35) C 7 17 465 rfl (by decide +kernel) rfl (by decide) rfl rfl wf_X7_201 win7 hm.1 ?_
  rw [fi_row, Kc.2.2.1]
  refine r_iadd (q := 36) C rfl (by decide +kernel) ?_
  rw [nI_add]
  refine r_iload_n (q := 37) (z := 2) C 2 rfl (by decide +kernel) rfl rfl ?_
  refine r_iast (q := 38) C rfl (by decide +kernel) rfl hm.k462 (vp_in_nI (by omega) (by decide)) ?_
  try simp only [fr_row]
  rw [stI_row, nI_clamp (by omega)]
  refine r_aload_n (q := 39) (z := 0) C 0 rfl (by decide +kernel) rfl rfl ?_
  refine r_dup (q := 40) C rfl (by decide +kernel) (by first | rfl | exact rv_cat _) ?_
  refine r_getI (q := 43) C 7 17 465 rfl (by decide +kernel) rfl (by decide) rfl rfl wf_X7_201 win7 hm.1 ?_
  simp only [fi_row]
  rw [Kc.2.2.1]
  refine r_iconst (q := 44) (z := 1) (v := 1) C rfl (by decide +kernel) (by decide) ?_
  refine r_iadd (q := 45) C rfl (by decide +kernel) ?_
  rw [nI_1]
  refine r_putI (q := 48) C 7 17 465 rfl (by decide +kernel) rfl (by decide) rfl rfl wf_X7_201 win7 tyX7 tyX7_ok nmX7 rfl (tyX7_ok 17 (by decide)) rfl wnd7 rfl rfl hm.1 ?_
  exact r_ret C (by decide +kernel) rfl (by decide) (by decide) (eqP hPP ⟨rfl, ⟨(KC.emit hm Kc hl).1, (KC.emit hm Kc hl).2, Fm.setI (Fm.row (Fm.row Fm.rf (by rw [hm.g461]; decide)) (by rw [hm.g462]; decide)) (by decide)⟩⟩)
theorem c_X7_opens {G : GT} {h : HP} {m : Nat} {t : Fs} (hm : LM h.kd h.gl h.fr m) (hd : h.fi 466 m = nI t.length) (ht : t.length < 7) (hf : FR h m t) : Con G 1 0 0 yX7_opens cX7_opens 1 none [rv m] h (PV (fun h' => FR h' m ((0, 0, 0) :: t) ∧ Fm [467, 468, 469] [] h h')) := by
  refine Con.of (lv := [some (rv m)]) (by decide) (by simp only [lvE_r, lvE_i, lvE_l, lvE_s, lvE_0]; rfl) (by simp only [lgl_r, lgl_i, lgl_l, lgl_s, lgl_0]; decide) (fun Γ C R => ?_)
  generalize hPP : (PV (fun h' => FR h' m ((0, 0, 0) :: t) ∧ Fm [467, 468, 469] [] h h')) = PP
  refine r_aload_n (q := 1) (z := 0) C 0 rfl (by decide +kernel) rfl rfl ?_
  refine r_getR (q := 4) C 7 19 467 rfl (by decide +kernel) rfl (by decide) rfl rfl wf_X7_73 win7 hm.1 ?_
  refine r_aload_n (q := 5) (z := 0) C 0 rfl (by decide +kernel) rfl rfl ?_
  refine r_getI (q := 8) C 7 18 466 rfl (by decide +kernel) rfl (by decide) rfl rfl wf_X7_216 win7 hm.1 ?_
  rw [hd]
  refine r_iconst (q := 9) (z := 0) (v := 0) C rfl (by decide +kernel) (by decide) ?_
  refine r_iast (q := 10) C rfl (by decide +kernel) rfl hm.k467 (vp_in_nI (by omega) (by decide)) ?_
  rw [stI_row, nI_clamp (by omega)]
  refine r_aload_n (q := 11) (z := 0) C 0 rfl (by decide +kernel) rfl rfl ?_
  refine r_getR (q := 14) C 7 20 468 rfl (by decide +kernel) rfl (by decide) rfl rfl wf_X7_76 win7 hm.1 ?_
  refine r_aload_n (q := 15) (z := 0) C 0 rfl (by decide +kernel) rfl rfl ?_
  refine r_getI (q := 18) C 7 18 466 rfl (by decide +kernel) rfl (by decide) rfl rfl wf_X7_216 win7 hm.1 ?_
  rw [fi_row, hd]
  refine r_iconst (q := 19) (z := 0) (v := 0) C rfl (by decide +kernel) (by decide) ?_
  refine r_iast (q := 20) C rfl (by decide +kernel) rfl hm.k468 (vp_in_nI (by omega) (by decide)) ?_
  try simp only [fr_row]
  rw [stI_row, nI_clamp (by omega)]
  refine r_aload_n (q := 21) (z := 0) C 0 rfl (by decide +kernel) rfl rfl ?_
  refine r_getR (q := 24) C 7 21 469 rfl (by decide +kernel) rfl (by decide) rfl rfl wf_X7_79 win7 hm.1 ?_
  refine r_aload_n (q := 25) (z := 0) C 0 rfl (by decide +kernel) rfl rfl ?_
  refine r_getI (q := 28) C 7 18 466 rfl (by decide +kernel) rfl (by decide) rfl rfl wf_X7_216 win7 hm.1 ?_
  simp only [fi_row]
  rw [hd]
  refine r_iconst (q := 29) (z := 0) (v := 0) C rfl (by decide +kernel) (by decide) ?_
  refine r_iast (q := 30) C rfl (by decide +kernel) rfl hm.k469 (vp_in_nI (by omega) (by decide)) ?_
  try simp only [fr_row]
  rw [stI_row, nI_clamp (by omega)]
  exact r_ret C (by decide +kernel) rfl (by decide) (by decide) (eqP hPP ⟨rfl, ⟨FR.open_ hm hf, Fm.row (Fm.row (Fm.row Fm.rf (by rw [hm.g467]; decide)) (by rw [hm.g468]; decide)) (by rw [hm.g469]; decide)⟩⟩)
theorem c_X7_partWord {G : GT} {h : HP} {m : Nat} {T : TT} {i F : Nat}  (hm : LM h.kd h.gl h.fr m) (K : MKW T h m) (Bf : BF T i F h m) : Con G 2 0 0 yX7_partWord cX7_partWord 2 (some .int) [rv m] h (PI (fun v h' => (if F = 0 ∧ T.kd i = 1 then nI (T.vl i) else -1) = v ∧ h = h')) := by
  refine Con.of (lv := [some (rv m), none]) (by decide) (by simp only [lvE_r, lvE_i, lvE_l, lvE_s, lvE_0]; rfl) (by simp only [lgl_r, lgl_i, lgl_l, lgl_s, lgl_0]; decide) (fun Γ C R => ?_)
  generalize hPP : (PI (fun v h' => (if F = 0 ∧ T.kd i = 1 then nI (T.vl i) else -1) = v ∧ h = h')) = PP
  refine r_iconst (q := 1) (z := 0) (v := 0) C rfl (by decide +kernel) (by decide) ?_
  refine r_istore_n (q := 2) (z := 1) C 1 rfl (by decide +kernel) rfl (by decide) (by first | rfl | exact okst_rv rfl) ?_
  dsimp only [List.set]
  have L2 : ∀ (fuel2 : Nat) (k : Nat), 6 - k < fuel2 → (k ≤ 6) → (∀ j, j < k → ¬ (F = 0 ∧ T.kd i = 1 ∧ T.vl i = j)) → wX G Γ (qM G Γ PP 0 0) 0 0 (h) 2 [some (rv m), some (.int (nI k))] [] := by
    intro fuel2
    induction fuel2 with
    | zero =>
      intro k hm2
      exact absurd hm2 (Nat.not_lt_zero _)
    | succ fuel2 ih2 =>
      intro k hm2 hk hno
      refine r_iload_n (q := 3) (z := 1) C 1 rfl (by decide +kernel) rfl rfl ?_
      refine r_bipush (q := 5) (z := 6) (v := 6) C rfl (by decide +kernel) (by decide) ?_
      refine r_icmp_ge (q := 8) (off := 21) (tgt := 26) C rfl (by decide +kernel) (by decide) (fun c5 => ?_) (fun c5 => ?_)
      · have ek : k = 6 := by have := (nI_leI (a := 6) (by omega) (by omega)).mp c5; omega
        refine r_iconst (q := 27) (z := (-1)) (v := (-1)) C rfl (by decide +kernel) (by decide) ?_
        exact r_iret C (by decide +kernel) rfl (by decide) (by decide) (eqP hPP ⟨_, rfl, ⟨by rw [if_neg (fun e => hno (T.vl i) (by rw [ek]; exact K.2.2.v1 e.2) ⟨e.1, e.2, rfl⟩)], rfl⟩⟩)
      · have hlt : k < 6 := Nat.lt_of_not_le (fun e => c5 (nI_le (a := 6) e (by omega)))
        refine r_aload_n (q := 9) (z := 0) C 0 rfl (by decide +kernel) rfl rfl ?_
        refine r_iconst (q := 10) (z := 4) (v := 4) C rfl (by decide +kernel) (by decide) ?_
        refine r_iload_n (q := 11) (z := 1) C 1 rfl (by decide +kernel) rfl rfl ?_
        refine r_iadd (q := 12) C rfl (by decide +kernel) ?_
        rw [show (4 : Int32) = nI 4 from rfl, nI_add]
        refine cV1I (q := 15) C R rfl (by decide +kernel) lk_X7_192 (c_X7_isWord (w := 4 + k) hm K Bf (by omega)) (by decide) (by decide) (by decide) rfl (by first | exact Nat.le_of_ble_eq_true rfl | (simp only [List.map_cons, List.map_nil, List.sum_cons, List.sum_nil, rv_cat]; exact Nat.le_of_ble_eq_true rfl)) rfl hm.1 ?_
        rintro _ _ ⟨rfl, rfl⟩
        refine r_if_eq (q := 18) (off := 5) (tgt := 20) C rfl (by decide +kernel) (by decide) (fun c15 => ?_) (fun c15 => ?_)
        · have c15 := of_decide_eq_false ((b2i_0 _).mp c15)
          have hno2 : ∀ j, j < k + 1 → ¬ (F = 0 ∧ T.kd i = 1 ∧ T.vl i = j) := fun j hj e => by
            by_cases ej : j = k
            · subst ej; exact c15 ⟨e.1, by rw [kw4 hlt, e.2.1, e.2.2]⟩
            · exact hno j (by omega) e
          refine r_iinc (q := 23) (z := 1) (v := 1) C 1 rfl (by decide +kernel) rfl (by decide) (by decide) (by first | rfl | exact okst_rv rfl) ?_
          dsimp only [List.set]
          rw [nI_1]
          refine r_goto (off := -21) (tgt := 2) C (by decide +kernel) (by decide) ?_
          exact ih2 (k + 1) (by omega) (by omega) hno2
        · have c15 := of_decide_eq_true ((b2i_n0 _).mp c15)
          rw [kw4 hlt] at c15
          have e1 : T.kd i = 1 := congrArg Prod.fst c15.2
          have e2 : T.vl i = k := congrArg Prod.snd c15.2
          refine r_iload_n (q := 19) (z := 1) C 1 rfl (by decide +kernel) rfl rfl ?_
          exact r_iret C (by decide +kernel) rfl (by decide) (by decide) (eqP hPP ⟨_, rfl, ⟨by rw [if_pos ⟨c15.1, e1⟩, e2], rfl⟩⟩)
  exact L2 7 0 (by omega) (by omega) (fun j hj => absurd hj (Nat.not_lt_zero j))
theorem c_X7_part {G : GT} {h : HP} {m X s : Nat} {T : TT} {i : Nat} {fs : Fs} {cd : Cd} (hm : LM h.kd h.gl h.fr m) (K : MKW T h m) (S : PSt T X s i fs cd h m) (ok : cok (true, i, fs, cd)) : Con G 3 0 0 yX7_part cX7_part 2 (some .boolean) [rv m] h (PI (fun v h' => b2i (isP (stP T i fs cd)) = v ∧ PZ T X s (stP T i fs cd) h' m ∧ HC X s m h h' ∧ Fm [461, 462, 467, 468, 469] [455, 456, 465, 466] h h')) := by
  refine Con.of (lv := [some (rv m), none]) (by decide) (by simp only [lvE_r, lvE_i, lvE_l, lvE_s, lvE_0]; rfl) (by simp only [lgl_r, lgl_i, lgl_l, lgl_s, lgl_0]; decide) (fun Γ C R => ?_)
  generalize hPP : (PI (fun v h' => b2i (isP (stP T i fs cd)) = v ∧ PZ T X s (stP T i fs cd) h' m ∧ HC X s m h h' ∧ Fm [461, 462, 467, 468, 469] [455, 456, 465, 466] h h')) = PP
  obtain ⟨Bf, Kc, hdp, hfr, hbd⟩ := id S
  obtain ⟨ok1, ok2, ok3, ok4⟩ := id ok
  have hok := cok_st K.2.2 ok
  have hN6 := K.2.2.2.1
  have hiN := Bf.2.1
  simp only at ok1 ok2
  have hf1 : 1 ≤ fs.length := by
    cases fs with
    | nil => exact absurd rfl ok1
    | cons f t => simp
  refine r_aload_n (q := 1) (z := 0) C 0 rfl (by decide +kernel) rfl rfl ?_
  refine cV0I (q := 4) C R rfl (by decide +kernel) lk_X7_236 (c_X7_partWord (F := 0) hm K Bf) (by decide) (by decide) (by decide) rfl (by first | exact Nat.le_of_ble_eq_true rfl | (simp only [List.map_cons, List.map_nil, List.sum_cons, List.sum_nil, rv_cat]; exact Nat.le_of_ble_eq_true rfl)) rfl hm.1 ?_
  rintro _ _ ⟨rfl, rfl⟩
  obtain ⟨w, hw⟩ : ∃ w, w = (if (0 : Nat) = 0 ∧ T.kd i = 1 then nI (T.vl i) else (-1 : Int32)) := ⟨_, rfl⟩
  rw [← hw]
  have hv6 : T.kd i = 1 → T.vl i < 6 := fun e => K.2.2.v1 e
  have hw1 : T.kd i = 1 → w = nI (T.vl i) := fun e => by rw [hw, if_pos ⟨rfl, e⟩]
  have hw0 : ¬ T.kd i = 1 → w = -1 := fun e => by rw [hw, if_neg (fun q => e q.2)]
  have hwn : w < 0 ↔ ¬ T.kd i = 1 := by
    by_cases e : T.kd i = 1
    · rw [hw1 e]; exact ⟨fun q => absurd q (nI_pos (by have := hv6 e; omega)), fun q => absurd e q⟩
    · rw [hw0 e]; exact ⟨fun _ => e, fun _ => by decide⟩
  refine r_istore_n (q := 5) (z := 1) C 1 rfl (by decide +kernel) rfl (by decide) (by first | rfl | exact okst_rv rfl) ?_
  dsimp only [List.set]
  have J59 : ∀ (h3 : HP) (F3 : Nat), (BF T i F3 h3 m) → (Fm [] [456] h h3) → ((F3 = 0 ∧ h = h3 ∧ (T.kd i = 0 ∨ T.kd i = 1 ∨ T.kd i = 7) ∧ fs.length < 6) ∨ (0 < F3 ∧ stP T i fs cd = .inr (.inl F3))) → wX G Γ (qM G Γ PP 0 0) 0 0 (h3) 59 [some (rv m), some (.int w)] [] := by
    intro h3 F3 Bf3 Fr3 hz3
    have hm0 := hm
    have hm : LM h3.kd h3.gl h3.fr m := LM.fm Fr3 hm0
    have hF9 := Bf3.2.2.2
    refine r_aload_n (q := 60) (z := 0) C 0 rfl (by decide +kernel) rfl rfl ?_
    refine r_getI (q := 63) C 7 8 456 rfl (by decide +kernel) rfl (by decide) rfl rfl wf_X7_182 win7 hm.1 ?_
    rw [Bf3.2.2.1]
    refine r_if_le (q := 66) (off := 5) (tgt := 68) C rfl (by decide +kernel) (by decide) (fun c63 => ?_) (fun c63 => ?_)
    · have e3 : F3 = 0 := by
        rcases Nat.eq_zero_or_pos F3 with e | e
        · exact e
        · exact absurd c63 (nI_nle e (by omega))
      obtain ⟨-, rfl, hop, hlt6⟩ : F3 = 0 ∧ h = h3 ∧ (T.kd i = 0 ∨ T.kd i = 1 ∨ T.kd i = 7) ∧ fs.length < 6 := hz3.resolve_right (fun e => by omega)
      clear Bf3 Fr3 hz3
      refine r_aload_n (q := 69) (z := 0) C 0 rfl (by decide +kernel) rfl rfl ?_
      refine r_bipush (q := 71) (z := 40) (v := nI 40) C rfl (by decide +kernel) (by decide) ?_
      refine cV1I (q := 74) C R rfl (by decide +kernel) lk_X7_240 (c_X7_hasSign (c := 40) (F := 0) hm K Bf (by decide) (by decide)) (by decide) (by decide) (by decide) rfl (by first | exact Nat.le_of_ble_eq_true rfl | (simp only [List.map_cons, List.map_nil, List.sum_cons, List.sum_nil, rv_cat]; exact Nat.le_of_ble_eq_true rfl)) rfl hm.1 ?_
      rintro _ h71 ⟨rfl, B71, F71⟩
      have hm0_71 := hm
      have hm : LM h71.kd h71.gl h71.fr m := LM.fm F71 hm0_71
      have K71 := MKW.fm F71 hm0_71 (by decide) K
      refine r_if_eq (q := 77) (off := 19) (tgt := 93) C rfl (by decide +kernel) (by decide) (fun c74 => ?_) (fun c74 => ?_)
      · have c74 := of_decide_eq_false ((b2i_0 _).mp c74)
        have k7 : ¬ T.kd i = 7 := fun e => c74 ⟨rfl, e⟩
        rw [if_neg c74] at B71
        have J121 : ∀ (a : Int32), (a = nI (T.vl i)) → wX G Γ (qM G Γ PP 0 0) 0 0 (h71) 121 [some (rv m), some (.int w)] [.int a, .int (nI (T.kd i + 1)), rv m] := by
          intro a ha
          subst ha
          refine cV2V (q := 124) C R rfl (by decide +kernel) lk_X7_229 (c_X7_emit hm (Kc.fm F71 hm0_71 (by decide) (by decide)) (by omega)) (by decide) (by decide) (by decide) rfl (by first | exact Nat.le_of_ble_eq_true rfl | (simp only [List.map_cons, List.map_nil, List.sum_cons, List.sum_nil, rv_cat]; exact Nat.le_of_ble_eq_true rfl)) rfl hm.1 ?_
          rintro h121 ⟨K121_, H121, F121⟩
          have hm0_121 := hm
          have hm : LM h121.kd h121.gl h121.fr m := LM.fm F121 hm0_121
          have K121 := MKW.fm F121 hm0_121 (by decide) K71
          refine r_aload_n (q := 125) (z := 0) C 0 rfl (by decide +kernel) rfl rfl ?_
          refine r_dup (q := 126) C rfl (by decide +kernel) (by first | rfl | exact rv_cat _) ?_
          refine r_getI (q := 129) C 7 7 455 rfl (by decide +kernel) rfl (by decide) rfl rfl wf_X7_179 win7 hm.1 ?_
          rw [F121.2.2.2.2.1 _ _ (by decide), B71.1]
          refine r_iconst (q := 130) (z := 1) (v := 1) C rfl (by decide +kernel) (by decide) ?_
          refine r_iadd (q := 131) C rfl (by decide +kernel) ?_
          rw [nI_1]
          refine r_putI (q := 134) C 7 7 455 rfl (by decide +kernel) rfl (by decide) rfl rfl wf_X7_179 win7 tyX7 tyX7_ok nmX7 rfl (tyX7_ok 7 (by decide)) rfl wnd7 rfl rfl hm.1 ?_
          refine r_iconst (q := 135) (z := 0) (v := 0) C rfl (by decide +kernel) (by decide) ?_
          exact r_zret C (by decide +kernel) rfl (by first | decide | exact b2i_nar _) (by decide) (by decide) (eqP hPP ⟨_, rfl, (by
                have hst : stP T i fs cd = .inl (false, i + 1, fs, cd ++ [(T.kd i + 1, T.vl i)]) := by unfold stP; rw [if_pos hop, if_neg (by omega), if_neg k7]
                have F9 : Fm [461, 462] [455, 465] h (h121.setI 455 m (nI (i + 1))) := Fm.setI ((F71.mono (by decide) (by decide)).tr (F121.mono (by decide) (by decide))) (by decide)
                have hcok := hok.1 _ hst
                rw [hst]
                exact ⟨rfl, ⟨⟨BF.adv K.2.2 (BF.fm F121 (by decide) B71) (by omega), KC.fm (A := []) (B := [455]) (Fm.setI Fm.rf (by decide)) hm (by decide) (by decide) K121_, (F9.2.2.2.2.1 _ _ (by decide)).trans hdp, hfr.fm F9 hm0_71 (by decide), by show s + (cd ++ [(T.kd i + 1, T.vl i)]).length + pnd fs ≤ i + 1; simp; omega⟩, hcok⟩, (HC.fm (s := s) F71 hm0_71 (by decide)).tr (H121.tr (HC.fm (A := []) (B := [455]) (Fm.setI Fm.rf (by decide)) hm (by decide))), F9.mono (by decide) (by decide)⟩)⟩)
        have J103 : ∀ (o : Int32), (o = nI (T.kd i + 1)) → wX G Γ (qM G Γ PP 0 0) 0 0 (h71) 103 [some (rv m), some (.int w)] [.int o, rv m] := by
          intro o ho
          subst ho
          refine r_iload_n (q := 104) (z := 1) C 1 rfl (by decide +kernel) rfl rfl ?_
          refine r_if_ge (q := 107) (off := 16) (tgt := 120) C rfl (by decide +kernel) (by decide) (fun c104 => ?_) (fun c104 => ?_)
          · have k1 : T.kd i = 1 := Classical.not_not.mp (mt hwn.mpr (Int32.not_lt.mpr c104))
            have ea := hw1 k1
            refine r_iload_n (q := 121) (z := 1) C 1 rfl (by decide +kernel) rfl rfl ?_
            exact J121 _ ea
          · have k0 : T.kd i = 0 := by have := hwn.mp (Int32.not_le.mp c104); omega
            refine r_aload_n (q := 108) (z := 0) C 0 rfl (by decide +kernel) rfl rfl ?_
            refine r_getR (q := 111) C 7 6 454 rfl (by decide +kernel) rfl (by decide) rfl rfl wf_X7_30 win7 hm.1 ?_
            refine r_aload_n (q := 112) (z := 0) C 0 rfl (by decide +kernel) rfl rfl ?_
            refine r_getI (q := 115) C 7 7 455 rfl (by decide +kernel) rfl (by decide) rfl rfl wf_X7_179 win7 hm.1 ?_
            rw [B71.1]
            refine r_lald (q := 116) C rfl (by decide +kernel) hm.k454 (vp_in_nI (by omega) (by decide)) ?_
            rw [nI_clamp (by omega), (K71.1.num K.2.2 hiN).2.1 k0]
            refine r_l2i (q := 117) C rfl (by decide +kernel) ?_
            rw [lN_i]
            have ea : nI (T.vl i) = nI (T.vl i) := rfl
            refine r_goto (off := 4) (tgt := 121) C (by decide +kernel) (by decide) ?_
            exact J121 _ ea
        refine r_aload_n (q := 94) (z := 0) C 0 rfl (by decide +kernel) rfl rfl ?_
        refine r_iload_n (q := 95) (z := 1) C 1 rfl (by decide +kernel) rfl rfl ?_
        refine r_if_ge (q := 98) (off := 7) (tgt := 102) C rfl (by decide +kernel) (by decide) (fun c95 => ?_) (fun c95 => ?_)
        · have k1 : T.kd i = 1 := Classical.not_not.mp (mt hwn.mpr (Int32.not_lt.mpr c95))
          have eo : (2 : Int32) = nI (T.kd i + 1) := by rw [k1]; rfl
          refine r_iconst (q := 103) (z := 2) (v := 2) C rfl (by decide +kernel) (by decide) ?_
          exact J103 _ eo
        · have k0 : T.kd i = 0 := by have := hwn.mp (Int32.not_le.mp c95); omega
          have eo : (1 : Int32) = nI (T.kd i + 1) := by rw [k0]; rfl
          refine r_iconst (q := 99) (z := 1) (v := 1) C rfl (by decide +kernel) (by decide) ?_
          refine r_goto (off := 4) (tgt := 103) C (by decide +kernel) (by decide) ?_
          exact J103 _ eo
      · have c74 := of_decide_eq_true ((b2i_n0 _).mp c74)
        have k7 : T.kd i = 7 := c74.2
        rw [if_pos c74] at B71
        refine r_aload_n (q := 78) (z := 0) C 0 rfl (by decide +kernel) rfl rfl ?_
        refine r_dup (q := 79) C rfl (by decide +kernel) (by first | rfl | exact rv_cat _) ?_
        refine r_getI (q := 82) C 7 18 466 rfl (by decide +kernel) rfl (by decide) rfl rfl wf_X7_216 win7 hm.1 ?_
        rw [F71.2.2.2.2.1 _ _ (by decide), hdp]
        refine r_iconst (q := 83) (z := 1) (v := 1) C rfl (by decide +kernel) (by decide) ?_
        refine r_iadd (q := 84) C rfl (by decide +kernel) ?_
        rw [nI_1, show fs.length - 1 + 1 = fs.length by omega]
        have F84 := Fm.setI (g := 466) (b := m) (v := nI fs.length) (Fm.mono F71 (A' := []) (B' := [455, 466]) (by decide) (by decide)) (by decide)
        have hf84 := hfr.fm F84 hm0_71 (by decide)
        refine r_putI (q := 87) C 7 18 466 rfl (by decide +kernel) rfl (by decide) rfl rfl wf_X7_216 win7 tyX7 tyX7_ok nmX7 rfl (tyX7_ok 18 (by decide)) rfl wnd7 rfl rfl hm.1 ?_
        refine r_aload_n (q := 88) (z := 0) C 0 rfl (by decide +kernel) rfl rfl ?_
        refine cV0V (q := 91) C R rfl (by decide +kernel) lk_X7_219 (c_X7_opens (t := fs) hm fi_eq (by omega) hf84) (by decide) (by decide) (by decide) rfl (by first | exact Nat.le_of_ble_eq_true rfl | (simp only [List.map_cons, List.map_nil, List.sum_cons, List.sum_nil, rv_cat]; exact Nat.le_of_ble_eq_true rfl)) rfl hm.1 ?_
        rintro h88 ⟨R88, F88⟩
        refine r_iconst (q := 92) (z := 1) (v := 1) C rfl (by decide +kernel) (by decide) ?_
        exact r_zret C (by decide +kernel) rfl (by first | decide | exact b2i_nar _) (by decide) (by decide) (eqP hPP ⟨_, rfl, (by
              have hst : stP T i fs cd = .inl (true, i + 1, (0, 0, 0) :: fs, cd) := by unfold stP; rw [if_pos hop, if_neg (by omega), if_pos k7]
              have F88t : Fm [467, 468, 469] [455, 466] h h88 := (F84.mono (by decide) (by decide)).tr (F88.mono (by decide) (by decide))
              have hcok := hok.1 _ hst
              rw [hst]
              exact ⟨rfl, ⟨⟨BF.fm (F88.mono (A' := [467, 468, 469]) (B' := [466]) (by decide) (by decide)) (by decide) (BF.fm (Fm.setI (A := []) (B := [466]) (h := h71) Fm.rf (by decide)) (by decide) B71), Kc.fm F88t hm0_71 (by decide) (by decide), (F88.2.2.2.2.1 _ _ (by decide)).trans fi_eq, R88, by show s + cd.length + pnd ((0, 0, 0) :: fs) ≤ i + 1; simp only [pnd, nz_0]; omega⟩, hcok⟩, HC.fm F88t hm0_71 (by decide), F88t.mono (by decide) (by decide)⟩)⟩)
    · obtain ⟨hF3, hst⟩ : 0 < F3 ∧ stP T i fs cd = .inr (.inl F3) := hz3.resolve_left (fun e => by rw [e.1] at c63; exact absurd (by decide) c63)
      refine r_iconst (q := 67) (z := 0) (v := 0) C rfl (by decide +kernel) (by decide) ?_
      exact r_zret C (by decide +kernel) rfl (by first | decide | exact b2i_nar _) (by decide) (by decide) (eqP hPP ⟨_, rfl, ⟨by rw [hst]; rfl, by rw [hst]; exact ⟨⟨i, Bf3⟩, hF3, (Fr3.2.2.2.2.1 _ _ (by decide)).trans Kc.1, _, (by omega), (Fr3.2.2.2.2.1 _ _ (by decide)).trans Kc.2.2.1⟩, HC.fm Fr3 hm0 (by decide), Fr3.mono (by decide) (by decide)⟩⟩)
  have J46 : (T.kd i = 0 ∨ T.kd i = 1 ∨ T.kd i = 7) → wX G Γ (qM G Γ PP 0 0) 0 0 (h) 46 [some (rv m), some (.int w)] [] := by
    intro  hop
    refine r_aload_n (q := 47) (z := 0) C 0 rfl (by decide +kernel) rfl rfl ?_
    refine r_getI (q := 50) C 7 18 466 rfl (by decide +kernel) rfl (by decide) rfl rfl wf_X7_216 win7 hm.1 ?_
    rw [hdp]
    refine r_iconst (q := 51) (z := 5) (v := 5) C rfl (by decide +kernel) (by decide) ?_
    refine r_icmp_ne (q := 54) (off := 8) (tgt := 59) C rfl (by decide +kernel) (by decide) (fun c51 => ?_) (fun c51 => ?_)
    · have c51 : ¬ fs.length - 1 = 5 := fun e => c51 (by rw [e]; rfl)
      exact J59 h 0 Bf Fm.rf (Or.inl ⟨rfl, rfl, hop, by omega⟩)
    · have c51 : fs.length - 1 = 5 := (nI_eq (b := 5) (by omega) (by decide)).mp c51
      refine r_aload_n (q := 55) (z := 0) C 0 rfl (by decide +kernel) rfl rfl ?_
      refine r_iconst (q := 56) (z := 5) (v := nI 5) C rfl (by decide +kernel) (by decide) ?_
      refine cV1V (q := 59) C R rfl (by decide +kernel) lk_X7_188 (c_X7_wrong (k := 5) (F := 0) hm K Bf (by decide)) (by decide) (by decide) (by decide) rfl (by first | exact Nat.le_of_ble_eq_true rfl | (simp only [List.map_cons, List.map_nil, List.sum_cons, List.sum_nil, rv_cat]; exact Nat.le_of_ble_eq_true rfl)) rfl hm.1 ?_
      rintro h56 ⟨B56, F56⟩
      rw [if_pos rfl] at B56
      exact J59 h56 _ B56 F56 (Or.inr ⟨fq_pos (by decide), by unfold stP; rw [if_pos hop, if_pos (by omega)]⟩)
  refine r_aload_n (q := 6) (z := 0) C 0 rfl (by decide +kernel) rfl rfl ?_
  refine r_getI (q := 9) C 7 8 456 rfl (by decide +kernel) rfl (by decide) rfl rfl wf_X7_182 win7 hm.1 ?_
  rw [Bf.2.2.1]
  refine r_if_ne (q := 12) (off := 37) (tgt := 46) C rfl (by decide +kernel) (by decide) (fun c9 => ?_) (fun c9 => ?_)
  · exact absurd (show nI 0 = 0 from rfl) c9
  · refine r_aload_n (q := 13) (z := 0) C 0 rfl (by decide +kernel) rfl rfl ?_
    refine r_getR (q := 16) C 7 4 452 rfl (by decide +kernel) rfl (by decide) rfl rfl wf_X7_24 win7 hm.1 ?_
    refine r_aload_n (q := 17) (z := 0) C 0 rfl (by decide +kernel) rfl rfl ?_
    refine r_getI (q := 20) C 7 7 455 rfl (by decide +kernel) rfl (by decide) rfl rfl wf_X7_179 win7 hm.1 ?_
    rw [Bf.1]
    refine r_iald (q := 21) C rfl (by decide +kernel) hm.k452 (vp_in_nI (by omega) (by decide)) ?_
    rw [nI_clamp (by omega)]
    refine r_iconst (q := 22) (z := 2) (v := 2) C rfl (by decide +kernel) (by decide) ?_
    refine r_icmp_eq (q := 25) (off := 24) (tgt := 46) C rfl (by decide +kernel) (by decide) (fun c22 => ?_) (fun c22 => ?_)
    · exact J46 (Or.inl ((K.1.num K.2.2 hiN).1.mp c22))
    · have c22 : ¬ T.kd i = 0 := fun e => c22 ((K.1.num K.2.2 hiN).1.mpr e)
      refine r_aload_n (q := 26) (z := 0) C 0 rfl (by decide +kernel) rfl rfl ?_
      refine r_bipush (q := 28) (z := 40) (v := nI 40) C rfl (by decide +kernel) (by decide) ?_
      refine cV1I (q := 31) C R rfl (by decide +kernel) lk_X7_185 (c_X7_isSign (c := 40) (F := 0) hm K Bf (by decide) (by decide)) (by decide) (by decide) (by decide) rfl (by first | exact Nat.le_of_ble_eq_true rfl | (simp only [List.map_cons, List.map_nil, List.sum_cons, List.sum_nil, rv_cat]; exact Nat.le_of_ble_eq_true rfl)) rfl hm.1 ?_
      rintro _ _ ⟨rfl, rfl⟩
      refine r_if_ne (q := 34) (off := 15) (tgt := 46) C rfl (by decide +kernel) (by decide) (fun c31 => ?_) (fun c31 => ?_)
      · have c31 := of_decide_eq_true ((b2i_n0 _).mp c31)
        exact J46 (Or.inr (Or.inr c31.2))
      · have c31 := of_decide_eq_false ((b2i_0 _).mp c31)
        refine r_iload_n (q := 35) (z := 1) C 1 rfl (by decide +kernel) rfl rfl ?_
        refine r_if_ge (q := 38) (off := 11) (tgt := 46) C rfl (by decide +kernel) (by decide) (fun c35 => ?_) (fun c35 => ?_)
        · have c35 : T.kd i = 1 := Classical.not_not.mp (mt hwn.mpr (Int32.not_lt.mpr c35))
          exact J46 (Or.inr (Or.inl c35))
        · have c35 : ¬ T.kd i = 1 := hwn.mp (Int32.not_le.mp c35)
          have c7 : ¬ T.kd i = 7 := fun e => c31 ⟨rfl, e⟩
          refine r_aload_n (q := 39) (z := 0) C 0 rfl (by decide +kernel) rfl rfl ?_
          refine r_iconst (q := 40) (z := 1) (v := nI 1) C rfl (by decide +kernel) (by decide) ?_
          refine cV1V (q := 43) C R rfl (by decide +kernel) lk_X7_188 (c_X7_wrong (k := 1) (F := 0) hm K Bf (by decide)) (by decide) (by decide) (by decide) rfl (by first | exact Nat.le_of_ble_eq_true rfl | (simp only [List.map_cons, List.map_nil, List.sum_cons, List.sum_nil, rv_cat]; exact Nat.le_of_ble_eq_true rfl)) rfl hm.1 ?_
          rintro h40 ⟨B40, F40⟩
          rw [if_pos rfl] at B40
          refine r_goto (off := 16) (tgt := 59) C (by decide +kernel) (by decide) ?_
          exact J59 h40 _ B40 F40 (Or.inr ⟨fq_pos (by decide), by unfold stP; rw [if_neg (by omega)]⟩)
