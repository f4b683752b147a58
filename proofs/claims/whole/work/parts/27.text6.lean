/-! ===== behind a part; a line; the text ===== -/
def TV (T : TT) : Prop := ∀ i, T.kd i = 6 ∨ T.kd i = 10 ∨ T.kd i = 11 ∨ T.kd i = 12 → T.vl i = 0
theorem kw_v0 {w : Nat} (h : w ≤ 10) (h1 : (kw w).1 ≠ 1) : (kw w).2 = 0 := by
  rcases (show w = 10 ∨ w < 10 by omega) with e | e
  · subst e; rfl
  · rcases lt10c e with e | e | e | e | e | e | e | e | e | e <;> subst e <;> first | rfl | exact absurd rfl h1
theorem lex_v0 {s : Nat → Nat} {n : Nat} : ∀ f k, ∀ t ∈ lex s n f k, t.1 = 6 ∨ t.1 = 10 ∨ t.1 = 11 ∨ t.1 = 12 → t.2.1 = 0
  | 0, k, t, h, _ => by simp [lex] at h
  | f + 1, k, t, h, h2 => by
    simp only [lex] at h
    split at h
    · simp at h
    · split at h
      · exact lex_v0 f (k + 1) t h h2
      · rcases List.mem_cons.mp h with e | e
        · subst e
          unfold tkn at h2 ⊢
          split
          · rename_i hL
            rw [if_pos hL] at h2
            exact kw_v0 (wix_le _).1 (by intro e; rw [e] at h2; omega)
          · rename_i hL
            rw [if_neg hL] at h2
            split
            · rename_i hD
              rw [if_pos hD] at h2
              split
              · rfl
              · rename_i h4
                rw [if_neg h4] at h2
                simp at h2
            · rfl
        · exact lex_v0 f (te s k) t e h2
theorem lex_TV (tp : List Nat) : TV (lexT tp) := by
  intro i h
  unfold TT.kd TT.vl at *
  cases e : (Prod.snd (lexT tp))[i]? with
  | none => rfl
  | some t => rw [e] at h; exact lex_v0 _ _ t (List.mem_of_getElem? e) h
theorem TV.and_ {T : TT} (h : TV T) {i : Nat} : (T.kd i, T.vl i) = kw 3 ↔ T.kd i = 6 := ⟨fun e => congrArg Prod.fst e, fun e => by rw [e, h i (Or.inl e)]; rfl⟩
theorem TV.keep {T : TT} (h : TV T) {i : Nat} : (T.kd i, T.vl i) = kw 0 ↔ T.kd i = 10 := ⟨fun e => congrArg Prod.fst e, fun e => by rw [e, h i (Or.inr (Or.inl e))]; rfl⟩
theorem TV.lapse {T : TT} (h : TV T) {i : Nat} : (T.kd i, T.vl i) = kw 1 ↔ T.kd i = 11 := ⟨fun e => congrArg Prod.fst e, fun e => by rw [e, h i (Or.inr (Or.inr (Or.inl e)))]; rfl⟩
theorem TV.when {T : TT} (h : TV T) {i : Nat} : (T.kd i, T.vl i) = kw 2 ↔ T.kd i = 12 := ⟨fun e => congrArg Prod.fst e, fun e => by rw [e, h i (Or.inr (Or.inr (Or.inr e)))]; rfl⟩
def isB (z : Sum CF RE) : Prop := match z with
  | .inl c => c.1 = false
  | .inr (.inl _) => True
  | .inr (.inr _) => False
def isQ (z : Sum CF RE) : Prop := match z with
  | .inl c => c.1 = true
  | .inr _ => True
theorem PZ.bf {T : TT} {X s : Nat} {z : Sum CF RE} {h : HP} {m : Nat} (hB : isB z) (Z : PZ T X s z h m) : ∃ i F, BF T i F h m ∧ ((F = 0 ∧ ∃ s0 g a t cd, z = .inl (false, i, (s0, g, a) :: t, cd) ∧ PSt T X s i ((s0, g, a) :: t) cd h m ∧ cok (false, i, (s0, g, a) :: t, cd)) ∨ (0 < F ∧ z = .inr (.inl F))) := by
  rcases z with ⟨ph, i, fs, cd⟩ | f | ⟨j, cd⟩
  · have e : ph = false := hB
    subst e
    obtain ⟨Z1, Z2⟩ := Z
    cases fs with
    | nil => exact absurd rfl Z2.1
    | cons f t =>
      obtain ⟨s0, g, a⟩ := f
      exact ⟨i, 0, Z1.1, Or.inl ⟨rfl, s0, g, a, t, cd, rfl, Z1, Z2⟩⟩
  · obtain ⟨⟨i, B⟩, h1, -⟩ := Z
    exact ⟨i, f, B, Or.inr ⟨h1, rfl⟩⟩
  · exact hB.elim
theorem stB1 {T : TT} {i s g a : Nat} {t : Fs} {cd : Cd} (h : T.kd i = 2 ∨ T.kd i = 3) : mst T (false, i, (s, g, a) :: t, cd) = .inl (true, i + 1, (T.kd i + 1, g, a) :: t, fl s cd) := by
  show (if T.kd i = 2 ∨ T.kd i = 3 then _ else _) = _
  rw [if_pos h]
theorem stB2 {T : TT} {i s g a : Nat} {t : Fs} {cd : Cd} (h : ¬ (T.kd i = 2 ∨ T.kd i = 3)) (h2 : g = 0 ∧ (T.kd i = 4 ∨ T.kd i = 5)) : mst T (false, i, (s, g, a) :: t, cd) = .inl (true, i + 1, (0, T.kd i + 1, a) :: t, fl s cd) := by
  show (if T.kd i = 2 ∨ T.kd i = 3 then _ else if g = 0 ∧ (T.kd i = 4 ∨ T.kd i = 5) then _ else _) = _
  rw [if_neg h, if_pos h2]
theorem stB3 {T : TT} {i s g a : Nat} {t : Fs} {cd : Cd} (h : ¬ (T.kd i = 2 ∨ T.kd i = 3)) (h2 : ¬ (g = 0 ∧ (T.kd i = 4 ∨ T.kd i = 5))) : mst T (false, i, (s, g, a) :: t, cd) = stA T i a t (fl g (fl s cd)) := by
  show (if T.kd i = 2 ∨ T.kd i = 3 then _ else if g = 0 ∧ (T.kd i = 4 ∨ T.kd i = 5) then _ else _) = _
  rw [if_neg h, if_neg h2]
theorem stA1 {T : TT} {i a : Nat} {t : Fs} {cd : Cd} (h : T.kd i = 6) : stA T i a t cd = .inl (true, i + 1, (0, 0, 7) :: t, fl a cd) := by unfold stA; rw [if_pos h]
theorem stA2 {T : TT} {i a : Nat} {cd : Cd} (h : ¬ T.kd i = 6) : stA T i a [] cd = .inr (.inr (i, fl a cd)) := by unfold stA; rw [if_neg h]
theorem stA3 {T : TT} {i a : Nat} {f : Nat × Nat × Nat} {t : Fs} {cd : Cd} (h : ¬ T.kd i = 6) (h8 : T.kd i = 8) : stA T i a (f :: t) cd = .inl (false, i + 1, f :: t, fl a cd) := by unfold stA; rw [if_neg h]; exact if_pos h8
theorem stA4 {T : TT} {i a : Nat} {f : Nat × Nat × Nat} {t : Fs} {cd : Cd} (h : ¬ T.kd i = 6) (h8 : ¬ T.kd i = 8) : stA T i a (f :: t) cd = .inr (.inl (fq T 1 i)) := by unfold stA; rw [if_neg h]; exact if_neg h8
theorem fl_p {w : Nat} {cd : Cd} (h : ¬ w = 0) : fl w cd = cd ++ [(w, 0)] := if_neg h
theorem RO.of {T : TT} {c : CF} {z : Sum CF RE} {r : RE} (e : mst T c = z) (h : RO T z r) : RO T (.inl c) r := RO.rr (by rw [e]; exact h)
theorem run_ge {T : TT} : ∀ {n : Nat} {c : CF} {j : Nat} {cd : Cd}, run T n c = some (.inr (j, cd)) → c.2.1 ≤ j
  | 0, _, _, _, h => by cases h
  | n + 1, c, j, cd, h => by
    simp only [run] at h
    cases e : mst T c with
    | inl c' => rw [e] at h; have := run_ge h; have := mst_at e; omega
    | inr r =>
      rw [e] at h
      cases h
      unfold mst at e
      split at e
      · unfold stP at e
        split at e
        · split at e
          · cases e
          · split at e <;> cases e
        · cases e
      · unfold stB at e
        split at e
        · cases e; omega
        · split at e
          · cases e
          · split at e
            · cases e
            · unfold stA at e
              split at e
              · cases e
              · split at e
                · cases e; omega
                · split at e <;> cases e
theorem RR.ge {T : TT} {c : CF} {j : Nat} {cd : Cd} (h : RR T c (.inr (j, cd))) : c.2.1 ≤ j := by
  obtain ⟨n, hn⟩ := h
  exact run_ge hn
def z0L (T : TT) (i : Nat) : Sum CF RE := if T.kd (i + 1) = 12 then .inl (true, i + 2, [(0, 0, 0)], []) else .inr (.inl (fq T 1 (i + 1)))
theorem LN.mk {T : TT} {i : Nat} {lw : LW} {y : RE} (hop : T.kd i = 10 ∨ T.kd i = 11) (hl : lw.length < 16) (h0 : RO T (z0L T i) y) : (∀ f, y = .inl f → LN T i lw (.inl f)) ∧ ∀ j cd, y = .inr (j, cd) → i + 2 ≤ j ∧ RR T (true, i + 2, [(0, 0, 0)], []) (.inr (j, cd)) ∧ (T.kd j ≠ 9 → LN T i lw (.inl (fq T 1 j))) ∧ (T.kd j = 9 → LN T i lw (.inr (j + 1, lw ++ [(decide (T.kd i = 11), cd)]))) := by
  unfold z0L at h0
  by_cases e : T.kd (i + 1) = 12
  · rw [if_pos e] at h0
    have h1 : RR T (true, i + 2, [(0, 0, 0)], []) y := h0
    refine ⟨fun f ef => Or.inr ⟨hop, Or.inr ⟨hl, Or.inr ⟨e, y, h1, Or.inl ⟨f, ef, rfl⟩⟩⟩⟩, fun j cd ej => ?_⟩
    subst ej
    exact ⟨h1.ge, h1, fun k9 => Or.inr ⟨hop, Or.inr ⟨hl, Or.inr ⟨e, _, h1, Or.inr ⟨j, cd, rfl, Or.inl ⟨k9, rfl⟩⟩⟩⟩⟩, fun k9 => Or.inr ⟨hop, Or.inr ⟨hl, Or.inr ⟨e, _, h1, Or.inr ⟨j, cd, rfl, Or.inr ⟨k9, rfl⟩⟩⟩⟩⟩⟩
  · rw [if_neg e] at h0
    have h1 : y = .inl (fq T 1 (i + 1)) := h0
    refine ⟨fun f ef => ?_, fun j cd ej => ?_⟩
    · rw [h1] at ef; cases ef
      exact Or.inr ⟨hop, Or.inr ⟨hl, Or.inl ⟨e, rfl⟩⟩⟩
    · rw [h1] at ej; cases ej
/-- what stands behind a line's parts -/
theorem PZ.kc {T : TT} {X s : Nat} {y : RE} {h : HP} {m : Nat} (hT : TW T) (hX : X < 2) (Z : PZ T X s (.inr y) h m) : ∃ s' cd' i F, KC X s' cd' h m ∧ s' + cd'.length ≤ 601 ∧ BF T i F h m ∧ ((0 < F ∧ y = .inl F) ∨ (F = 0 ∧ y = .inr (i, cd') ∧ s' = s ∧ s + cd'.length ≤ i)) := by
  rcases y with f | ⟨j, cd⟩
  · obtain ⟨⟨i, B⟩, h1, h2, k, h3, h4⟩ := Z
    exact ⟨k, [], i, f, ⟨h2, hX, h4, fun j x hx => by simp at hx⟩, h3, B, Or.inl ⟨h1, rfl⟩⟩
  · obtain ⟨B, Kc, hb⟩ := Z
    refine ⟨s, cd, j, 0, Kc, ?_, B, Or.inr ⟨rfl, rfl, rfl, hb⟩⟩
    have := B.2.1
    have := hT.2.1
    simp only at hb
    omega
/-- the other half stands as it was -/
def OX (X m : Nat) (h h' : HP) : Prop := HC X 0 m h h' ∧ (∀ p, p < 16 * X ∨ 16 * X + 16 ≤ p → h'.ai (h'.fr 459 m) p = h.ai (h.fr 459 m) p ∧ h'.ai (h'.fr 460 m) p = h.ai (h.fr 460 m) p) ∧ ∀ p, p ≠ X → h'.ai (h'.fr 458 m) p = h.ai (h.fr 458 m) p
theorem OX.rf {X m : Nat} {h : HP} : OX X m h h := ⟨HC.rf, fun _ _ => ⟨rfl, rfl⟩, fun _ _ => rfl⟩
theorem OX.tr {X m : Nat} {h h1 h2 : HP} (a : OX X m h h1) (b : OX X m h1 h2) : OX X m h h2 := ⟨a.1.tr b.1, fun p hp => ⟨(b.2.1 p hp).1.trans (a.2.1 p hp).1, (b.2.1 p hp).2.trans (a.2.1 p hp).2⟩, fun p hp => (b.2.2 p hp).trans (a.2.2 p hp)⟩
theorem OX.fm {X m : Nat} {A B : List Nat} {h h' : HP} (F : Fm A B h h') (hm : LM h.kd h.gl h.fr m) (hA : 458 ∉ A ∧ 459 ∉ A ∧ 460 ∉ A ∧ 461 ∉ A ∧ 462 ∉ A) : OX X m h h' := by
  refine ⟨HC.fm F hm hA.2.2.2, ?_⟩
  obtain ⟨f1, f2, f3, f4, f5, f6⟩ := F
  refine ⟨fun p _ => ?_, fun p _ => ?_⟩
  · rw [f2, (f6 _ (by rw [hm.g459]; exact hA.2.1)).1, (f6 _ (by rw [hm.g460]; exact hA.2.2.1)).1]; exact ⟨rfl, rfl⟩
  · rw [f2, (f6 _ (by rw [hm.g458]; exact hA.1)).1]
theorem HC.zero {X s m : Nat} {h h' : HP} (H : HC X s m h h') : HC X 0 m h h' := fun p hp => H p (by omega)
/-- the rows of a line that has begun -/
def LB (X m ix : Nat) (lp : Bool) (c : Nat) (h h' : HP) : Prop := h'.ai (h'.fr 459 m) = upd (h.ai (h.fr 459 m)) ix (b2i lp) ∧ h'.ai (h'.fr 460 m) = upd (h.ai (h.fr 460 m)) ix (nI (660 * X + c)) ∧ h'.ai (h'.fr 458 m) = h.ai (h.fr 458 m)
theorem LB.fm {X m ix c : Nat} {lp : Bool} {A B : List Nat} {h h1 h2 : HP} (F : Fm A B h1 h2) (hm : LM h1.kd h1.gl h1.fr m) (hA : 458 ∉ A ∧ 459 ∉ A ∧ 460 ∉ A) (H : LB X m ix lp c h h1) : LB X m ix lp c h h2 := by
  obtain ⟨f1, f2, f3, f4, f5, f6⟩ := F
  unfold LB at *
  rw [f2, (f6 _ (by rw [hm.g459]; exact hA.2.1)).1, (f6 _ (by rw [hm.g460]; exact hA.2.2)).1, (f6 _ (by rw [hm.g458]; exact hA.1)).1]
  exact H
theorem LAc.keep {c X m k ix : Nat} {lp : Bool} {ln : Bool × Cd} {h h' : HP} (H : LAc c h m X k ln) (hc : c ≤ 660) (hix : 16 * X + k ≠ ix) (B : LB X m ix lp c h h') (C : HC X c m h h') (d : Nat) (hd : c ≤ d) : LAc d h' m X k ln := by
  obtain ⟨h1, s, h2, h3, h4, h5⟩ := H
  refine ⟨?_, s, ?_, by omega, ?_, h5⟩
  · rw [B.1, pk_un hix]; exact h1
  · rw [B.2.1, pk_un hix]; exact h2
  · refine ⟨fun j x hx => ?_, ?_⟩
    · have hj := (List.getElem?_eq_some_iff.mp hx).1
      obtain ⟨e1, e2⟩ := C (660 * X + s + j) (Or.inl (by omega))
      rw [e1, e2]; exact h4.1 j x hx
    · obtain ⟨e1, -⟩ := C (660 * X + s + ln.2.length) (Or.inl (by omega))
      rw [e1]; exact h4.2
theorem TS.push {c X m : Nat} {lp : Bool} {lw : LW} {cd : Cd} {h h' : HP} (hc : c ≤ 660) (H : ∀ k ln, lw[k]? = some ln → LAc c h m X k ln) (B : LB X m (16 * X + lw.length) lp c h h') (C : HC X c m h h') (Kc : KC X c (cd ++ [(0, 0)]) h' m) (hg : hgt cd = some 1) : ∀ k ln, (lw ++ [(lp, cd)])[k]? = some ln → LAc (c + cd.length + 1) h' m X k ln := by
  intro k ln hk
  by_cases e : k = lw.length
  · subst e
    rw [List.getElem?_append_right (Nat.le_refl _)] at hk
    simp at hk
    subst hk
    refine ⟨by rw [B.1, pk_us], c, by rw [B.2.1, pk_us], by simp, ⟨fun j x hx => ?_, ?_⟩, hg⟩
    · have hj := (List.getElem?_eq_some_iff.mp hx).1
      exact Kc.2.2.2 j x (by rw [List.getElem?_append_left hj]; exact hx)
    · have := (Kc.2.2.2 cd.length (0, 0) (by rw [List.getElem?_append_right (Nat.le_refl _)]; simp)).1
      exact this
  · have hl : k < lw.length := by
      have := (List.getElem?_eq_some_iff.mp hk).1
      simp at this; omega
    rw [List.getElem?_append_left hl] at hk
    exact (H k ln hk).keep hc (by omega) B C _ (by omega)
theorem LAc.mono {c d X m k : Nat} {ln : Bool × Cd} {h : HP} (H : LAc c h m X k ln) (hd : c ≤ d) : LAc d h m X k ln := by
  obtain ⟨h1, s, h2, h3, h4, h5⟩ := H
  exact ⟨h1, s, h2, by omega, h4, h5⟩
/-- the text so far, or a fault -/
def PW (T : TT) (X : Nat) (w : Sum Nat (Nat × LW)) (h : HP) (m : Nat) : Prop := match w with
  | .inl f => 0 < f ∧ ∃ j, BF T j f h m
  | .inr e => BF T e.1 0 h m ∧ TS X e.2 e.1 h m
def RX (T : TT) (w : Sum Nat (Nat × LW)) (r : Sum Nat LW) : Prop := match w with
  | .inl f => r = .inl f
  | .inr e => TX T e.1 e.2 r
def mw (T : TT) (w : Sum Nat (Nat × LW)) : Nat := match w with
  | .inl _ => 0
  | .inr e => T.N + 1 - e.1
theorem PW.bf {T : TT} {X : Nat} {w : Sum Nat (Nat × LW)} {h : HP} {m : Nat} (Z : PW T X w h m) : ∃ i F, BF T i F h m ∧ ((F = 0 ∧ ∃ lw, w = .inr (i, lw) ∧ TS X lw i h m) ∨ (0 < F ∧ w = .inl F)) := by
  rcases w with f | ⟨i, lw⟩
  · obtain ⟨h1, j, B⟩ := Z
    exact ⟨j, f, B, Or.inr ⟨h1, rfl⟩⟩
  · exact ⟨i, 0, Z.1, Or.inl ⟨rfl, lw, rfl, Z.2⟩⟩
def txv (r : Sum Nat LW) : Int32 := match r with
  | .inl f => nI f
  | .inr _ => 0
def txl (lw : LW) (r : Sum Nat LW) : LW := match r with
  | .inl _ => lw
  | .inr l => l
theorem ML.other {lw : LW} {H X m : Nat} {h h' : HP} (hX : X = 1 - H) (hH : H < 2) (M : h.fi 463 m = nI H ∧ lw.length ≤ 16 ∧ h.ai (h.fr 458 m) H = nI lw.length ∧ ∀ k ln, lw[k]? = some ln → LA h m H k ln) (O : OX X m h h') (hf : h'.fi 463 m = h.fi 463 m) : ML lw h' m := by
  obtain ⟨m1, m2, m3, m4⟩ := M
  obtain ⟨o1, o2, o3⟩ := O
  refine ⟨H, hH, hf.trans m1, m2, (o3 H (by omega)).trans m3, fun k ln hk => ?_⟩
  have hkl := (List.getElem?_eq_some_iff.mp hk).1
  obtain ⟨a1, s, a2, a3, a4, a5⟩ := m4 k ln hk
  obtain ⟨e1, e2⟩ := o2 (16 * H + k) (by omega)
  refine ⟨e1.trans a1, s, e2.trans a2, a3, ⟨fun j x hx => ?_, ?_⟩, a5⟩
  · have hj := (List.getElem?_eq_some_iff.mp hx).1
    obtain ⟨g1, g2⟩ := o1 (660 * H + s + j) (by omega)
    rw [g1, g2]; exact a4.1 j x hx
  · obtain ⟨g1, -⟩ := o1 (660 * H + s + ln.2.length) (by omega)
    rw [g1]; exact a4.2
theorem ML.adopt {T : TT} {lw : LW} {X m i : Nat} {h : HP} (hT : TW T) (hi : i ≤ T.N) (M : TS X lw i h m) : ML lw (h.setI 463 m (nI X)) m := by
  obtain ⟨m1, m2, m3, m4, c, m5, m6, m7⟩ := M
  refine ⟨X, m2, fi_eq, m3, m4, fun k ln hk => ?_⟩
  obtain ⟨a1, s, a2, a3, a4, a5⟩ := m7 k ln hk
  have := hT.2.1
  exact ⟨a1, s, a2, by omega, a4, a5⟩
theorem PSt.go1 {T : TT} {X s i v : Nat} {f : Nat × Nat × Nat} {t : Fs} {cd : Cd} {h : HP} {m : Nat} (hm : LM h.kd h.gl h.fr m) (hT : TW T) (Y : PSt T X s i (f :: t) cd h m) (hk : T.kd i ≠ 13) (h0 : f.1 = 0) :
    PSt T X s (i + 1) ((v, f.2.1, f.2.2) :: t) cd ((h.row (h.fr 467 m) (upd (h.ai (h.fr 467 m)) t.length (nI v))).setI 455 m (nI (i + 1))) m ∧ Fm [467] [455] h ((h.row (h.fr 467 m) (upd (h.ai (h.fr 467 m)) t.length (nI v))).setI 455 m (nI (i + 1))) := by
  obtain ⟨B, Kc, hd, hf, hb⟩ := Y
  have F : Fm [467] [455] h ((h.row (h.fr 467 m) (upd (h.ai (h.fr 467 m)) t.length (nI v))).setI 455 m (nI (i + 1))) := Fm.setI (Fm.row Fm.rf (by rw [hm.g467]; decide)) (by decide)
  refine ⟨⟨BF.adv (h := h.row _ _) hT B hk, Kc.fm F hm (by decide) (by decide), (F.2.2.2.2.1 _ _ (by decide)).trans hd, FR.fm (A := []) (B := [455]) (h := h.row _ _) (Fm.setI Fm.rf (by decide)) hm (by decide) (FR.set1 hm hf), ?_⟩, F⟩
  simp only [pnd] at hb ⊢
  have := nz_le v
  have e0 : nz f.1 = 0 := by rw [h0]; rfl
  omega
theorem PSt.fl1 {T : TT} {X s i : Nat} {f : Nat × Nat × Nat} {t : Fs} {cd : Cd} {h h' : HP} {m : Nat} (hm : LM h.kd h.gl h.fr m) (Y : PSt T X s i (f :: t) cd h m) (h0 : ¬ f.1 = 0) (K' : KC X s (cd ++ [(f.1, 0)]) h' m) (F' : Fm [461, 462] [465] h h') :
    PSt T X s i ((0, f.2.1, f.2.2) :: t) (fl f.1 cd) (h'.row (h'.fr 467 m) (upd (h'.ai (h'.fr 467 m)) t.length (nI 0))) m ∧ Fm [461, 462, 467] [465] h (h'.row (h'.fr 467 m) (upd (h'.ai (h'.fr 467 m)) t.length (nI 0))) := by
  obtain ⟨B, Kc, hd, hf, hb⟩ := Y
  have hm' : LM h'.kd h'.gl h'.fr m := LM.fm F' hm
  have F1 : Fm [467] [] h' (h'.row (h'.fr 467 m) (upd (h'.ai (h'.fr 467 m)) t.length (nI 0))) := Fm.row Fm.rf (by rw [hm'.g467]; decide)
  have F : Fm [461, 462, 467] [465] h (h'.row (h'.fr 467 m) (upd (h'.ai (h'.fr 467 m)) t.length (nI 0))) := (F'.mono (by decide) (by decide)).tr (F1.mono (by decide) (by decide))
  refine ⟨⟨B.fm F (by decide), by rw [fl_p h0]; exact K'.fm F1 hm' (by decide) (by decide), (F.2.2.2.2.1 _ _ (by decide)).trans hd, FR.set1 hm' (hf.fm F' hm (by decide)), ?_⟩, F⟩
  rw [nz_fl]
  simp only [pnd, nz_0] at hb ⊢
  omega
theorem PSt.go2 {T : TT} {X s i v : Nat} {f : Nat × Nat × Nat} {t : Fs} {cd : Cd} {h : HP} {m : Nat} (hm : LM h.kd h.gl h.fr m) (hT : TW T) (Y : PSt T X s i (f :: t) cd h m) (hk : T.kd i ≠ 13) (h0 : f.2.1 = 0) :
    PSt T X s (i + 1) ((f.1, v, f.2.2) :: t) cd ((h.row (h.fr 468 m) (upd (h.ai (h.fr 468 m)) t.length (nI v))).setI 455 m (nI (i + 1))) m ∧ Fm [468] [455] h ((h.row (h.fr 468 m) (upd (h.ai (h.fr 468 m)) t.length (nI v))).setI 455 m (nI (i + 1))) := by
  obtain ⟨B, Kc, hd, hf, hb⟩ := Y
  have F : Fm [468] [455] h ((h.row (h.fr 468 m) (upd (h.ai (h.fr 468 m)) t.length (nI v))).setI 455 m (nI (i + 1))) := Fm.setI (Fm.row Fm.rf (by rw [hm.g468]; decide)) (by decide)
  refine ⟨⟨BF.adv (h := h.row _ _) hT B hk, Kc.fm F hm (by decide) (by decide), (F.2.2.2.2.1 _ _ (by decide)).trans hd, FR.fm (A := []) (B := [455]) (h := h.row _ _) (Fm.setI Fm.rf (by decide)) hm (by decide) (FR.set2 hm hf), ?_⟩, F⟩
  simp only [pnd] at hb ⊢
  have := nz_le v
  have e0 : nz f.2.1 = 0 := by rw [h0]; rfl
  omega
theorem PSt.fl2 {T : TT} {X s i : Nat} {f : Nat × Nat × Nat} {t : Fs} {cd : Cd} {h h' : HP} {m : Nat} (hm : LM h.kd h.gl h.fr m) (Y : PSt T X s i (f :: t) cd h m) (h0 : ¬ f.2.1 = 0) (K' : KC X s (cd ++ [(f.2.1, 0)]) h' m) (F' : Fm [461, 462] [465] h h') :
    PSt T X s i ((f.1, 0, f.2.2) :: t) (fl f.2.1 cd) (h'.row (h'.fr 468 m) (upd (h'.ai (h'.fr 468 m)) t.length (nI 0))) m ∧ Fm [461, 462, 468] [465] h (h'.row (h'.fr 468 m) (upd (h'.ai (h'.fr 468 m)) t.length (nI 0))) := by
  obtain ⟨B, Kc, hd, hf, hb⟩ := Y
  have hm' : LM h'.kd h'.gl h'.fr m := LM.fm F' hm
  have F1 : Fm [468] [] h' (h'.row (h'.fr 468 m) (upd (h'.ai (h'.fr 468 m)) t.length (nI 0))) := Fm.row Fm.rf (by rw [hm'.g468]; decide)
  have F : Fm [461, 462, 468] [465] h (h'.row (h'.fr 468 m) (upd (h'.ai (h'.fr 468 m)) t.length (nI 0))) := (F'.mono (by decide) (by decide)).tr (F1.mono (by decide) (by decide))
  refine ⟨⟨B.fm F (by decide), by rw [fl_p h0]; exact K'.fm F1 hm' (by decide) (by decide), (F.2.2.2.2.1 _ _ (by decide)).trans hd, FR.set2 hm' (hf.fm F' hm (by decide)), ?_⟩, F⟩
  rw [nz_fl]
  simp only [pnd, nz_0] at hb ⊢
  omega
theorem PSt.go3 {T : TT} {X s i v : Nat} {f : Nat × Nat × Nat} {t : Fs} {cd : Cd} {h : HP} {m : Nat} (hm : LM h.kd h.gl h.fr m) (hT : TW T) (Y : PSt T X s i (f :: t) cd h m) (hk : T.kd i ≠ 13) (h0 : f.2.2 = 0) :
    PSt T X s (i + 1) ((f.1, f.2.1, v) :: t) cd ((h.row (h.fr 469 m) (upd (h.ai (h.fr 469 m)) t.length (nI v))).setI 455 m (nI (i + 1))) m ∧ Fm [469] [455] h ((h.row (h.fr 469 m) (upd (h.ai (h.fr 469 m)) t.length (nI v))).setI 455 m (nI (i + 1))) := by
  obtain ⟨B, Kc, hd, hf, hb⟩ := Y
  have F : Fm [469] [455] h ((h.row (h.fr 469 m) (upd (h.ai (h.fr 469 m)) t.length (nI v))).setI 455 m (nI (i + 1))) := Fm.setI (Fm.row Fm.rf (by rw [hm.g469]; decide)) (by decide)
  refine ⟨⟨BF.adv (h := h.row _ _) hT B hk, Kc.fm F hm (by decide) (by decide), (F.2.2.2.2.1 _ _ (by decide)).trans hd, FR.fm (A := []) (B := [455]) (h := h.row _ _) (Fm.setI Fm.rf (by decide)) hm (by decide) (FR.set3 hm hf), ?_⟩, F⟩
  simp only [pnd] at hb ⊢
  have := nz_le v
  have e0 : nz f.2.2 = 0 := by rw [h0]; rfl
  omega
theorem PSt.fl3 {T : TT} {X s i : Nat} {f : Nat × Nat × Nat} {t : Fs} {cd : Cd} {h h' : HP} {m : Nat} (hm : LM h.kd h.gl h.fr m) (Y : PSt T X s i (f :: t) cd h m) (h0 : ¬ f.2.2 = 0) (K' : KC X s (cd ++ [(f.2.2, 0)]) h' m) (F' : Fm [461, 462] [465] h h') :
    PSt T X s i ((f.1, f.2.1, 0) :: t) (fl f.2.2 cd) (h'.row (h'.fr 469 m) (upd (h'.ai (h'.fr 469 m)) t.length (nI 0))) m ∧ Fm [461, 462, 469] [465] h (h'.row (h'.fr 469 m) (upd (h'.ai (h'.fr 469 m)) t.length (nI 0))) := by
  obtain ⟨B, Kc, hd, hf, hb⟩ := Y
  have hm' : LM h'.kd h'.gl h'.fr m := LM.fm F' hm
  have F1 : Fm [469] [] h' (h'.row (h'.fr 469 m) (upd (h'.ai (h'.fr 469 m)) t.length (nI 0))) := Fm.row Fm.rf (by rw [hm'.g469]; decide)
  have F : Fm [461, 462, 469] [465] h (h'.row (h'.fr 469 m) (upd (h'.ai (h'.fr 469 m)) t.length (nI 0))) := (F'.mono (by decide) (by decide)).tr (F1.mono (by decide) (by decide))
  refine ⟨⟨B.fm F (by decide), by rw [fl_p h0]; exact K'.fm F1 hm' (by decide) (by decide), (F.2.2.2.2.1 _ _ (by decide)).trans hd, FR.set3 hm' (hf.fm F' hm (by decide)), ?_⟩, F⟩
  rw [nz_fl]
  simp only [pnd, nz_0] at hb ⊢
  omega
theorem PZ.begin {T : TT} {X c i : Nat} {h : HP} {m : Nat} (hX : X < 2) (h4 : h.fi 464 m = nI X) (h5 : h.fi 465 m = nI c) (h6 : h.fi 466 m = nI 0) (hf : FR h m [(0, 0, 0)]) (hc : c ≤ i) (hT : TW T) (hi : i < T.N) (By : T.kd (i + 1) = 12 → BF T (i + 2) 0 h m) (Bn : ¬ T.kd (i + 1) = 12 → BF T (i + 1) (fq T 1 (i + 1)) h m) : PZ T X c (z0L T i) h m := by
  unfold z0L
  by_cases e : T.kd (i + 1) = 12
  · rw [if_pos e]
    refine ⟨⟨By e, ⟨h4, hX, h5, fun j x hx => by simp at hx⟩, h6, hf, ?_⟩, by simp, by simp, fun f hf => by rw [List.mem_singleton] at hf; subst hf; exact ⟨Or.inl rfl, Or.inl rfl, Or.inl rfl⟩, rfl⟩
    show c + 0 + pnd [(0, 0, 0)] ≤ i + 2
    simp only [pnd, nz_0]; omega
  · rw [if_neg e]
    exact ⟨⟨i + 1, Bn e⟩, fq_pos (by decide), h4, c, by have := hT.2.1; omega, h5⟩
theorem LB.begin {X m ix c : Nat} {lp : Bool} {v : Int32} {h h4 h9 : HP} (hm : LM h.kd h.gl h.fr m) (F4 : Fm [459] [455] h h4) (e4 : h4.ai (h4.fr 459 m) = upd (h.ai (h.fr 459 m)) ix (b2i lp)) (F9 : Fm [] [455, 456] h4 h9) : LB X m ix lp c h ((h9.row (h9.fr 460 m) (upd (h9.ai (h9.fr 460 m)) ix (nI (660 * X + c)))).setI 466 m v) := by
  have hm4 : LM h4.kd h4.gl h4.fr m := LM.fm F4 hm
  have hm9 : LM h9.kd h9.gl h9.fr m := LM.fm F9 hm4
  refine ⟨?_, ?_, ?_⟩
  · show (h9.row (h9.fr 460 m) _).ai (h9.fr 459 m) = _
    rw [ai_row_ne (gl_ne hm9.g459 hm9.g460 (by decide)), F9.2.1, (F9.2.2.2.2.2 _ (by simp)).1]; exact e4
  · show (h9.row (h9.fr 460 m) _).ai (h9.fr 460 m) = _
    rw [ai_row_eq, F9.2.1, (F9.2.2.2.2.2 _ (by simp)).1, F4.2.1, (F4.2.2.2.2.2 _ (by rw [hm.g460]; decide)).1]
  · show (h9.row (h9.fr 460 m) _).ai (h9.fr 458 m) = _
    rw [ai_row_ne (gl_ne hm9.g458 hm9.g460 (by decide)), F9.2.1, (F9.2.2.2.2.2 _ (by simp)).1, F4.2.1, (F4.2.2.2.2.2 _ (by rw [hm.g458]; decide)).1]
theorem OX.line {X m n c : Nat} {lp : Bool} {v : Int32} {h h6 : HP} (hm : LM h6.kd h6.gl h6.fr m) (hn : n < 16) (B : LB X m (16 * X + n) lp c h h6) (H : HC X 0 m h h6) : OX X m h (h6.row (h6.fr 458 m) (upd (h6.ai (h6.fr 458 m)) X v)) := by
  refine ⟨fun p hp => ?_, fun p hp => ?_, fun p hp => ?_⟩
  · obtain ⟨e1, e2⟩ := H p hp
    show (h6.row (h6.fr 458 m) _).ai (h6.fr 461 m) p = _ ∧ (h6.row (h6.fr 458 m) _).ai (h6.fr 462 m) p = _
    rw [ai_row_ne (gl_ne hm.g461 hm.g458 (by decide)), ai_row_ne (gl_ne hm.g462 hm.g458 (by decide))]
    exact ⟨e1, e2⟩
  · show (h6.row (h6.fr 458 m) _).ai (h6.fr 459 m) p = _ ∧ (h6.row (h6.fr 458 m) _).ai (h6.fr 460 m) p = _
    rw [ai_row_ne (gl_ne hm.g459 hm.g458 (by decide)), ai_row_ne (gl_ne hm.g460 hm.g458 (by decide)), B.1, B.2.1, pk_un (by omega), pk_un (by omega)]
    exact ⟨rfl, rfl⟩
  · show (h6.row (h6.fr 458 m) _).ai (h6.fr 458 m) p = _
    rw [ai_row_eq, pk_un hp, B.2.2]
theorem PZ.fv {T : TT} {X s : Nat} {z : Sum CF RE} {h : HP} {m : Nat} (Z : PZ T X s z h m) : ∃ i F, BF T i F h m ∧ ((F = 0 ∧ ∀ f, z ≠ .inr (.inl f)) ∨ (0 < F ∧ z = .inr (.inl F))) := by
  rcases z with c | f | e
  · exact ⟨_, 0, Z.1.1, Or.inl ⟨rfl, fun f e => by cases e⟩⟩
  · obtain ⟨⟨i, B⟩, h1, -⟩ := Z
    exact ⟨i, f, B, Or.inr ⟨h1, rfl⟩⟩
  · exact ⟨_, 0, Z.1, Or.inl ⟨rfl, fun f e => by cases e⟩⟩
theorem isP_t {z : Sum CF RE} (h : isP z = true) : ∃ i fs cd, z = .inl (true, i, fs, cd) := by
  rcases z with ⟨ph, i, fs, cd⟩ | r
  · have e : ph = true := h
    subst e
    exact ⟨i, fs, cd, rfl⟩
  · cases h
theorem isP_f {z : Sum CF RE} (hq : isQ z) (h : isP z = false) : ∃ y, z = .inr y := by
  rcases z with ⟨ph, i, fs, cd⟩ | r
  · have e1 : ph = true := hq
    have e2 : ph = false := h
    rw [e1] at e2; cases e2
  · exact ⟨r, rfl⟩
theorem stP_B {T : TT} {i : Nat} {fs : Fs} {cd : Cd} (h : isP (stP T i fs cd) = false) : isB (stP T i fs cd) := by
  unfold stP at *
  split at h <;> split
  · split at h <;> split
    · trivial
    · contradiction
    · contradiction
    · split at h <;> split
      · exact h
      · contradiction
      · contradiction
      · rfl
  · contradiction
  · contradiction
  · trivial
theorem stP_Q {T : TT} {i : Nat} {fs : Fs} {cd : Cd} (h : isP (stP T i fs cd) = true) : isQ (stP T i fs cd) := by
  obtain ⟨j, f, c, e⟩ := isP_t h
  rw [e]; rfl
theorem mz_stP {T : TT} {i : Nat} {fs : Fs} {cd : Cd} (hi : i ≤ T.N) : mz T (stP T i fs cd) < T.N + 1 - i := by
  cases e : stP T i fs cd with
  | inl c => show T.N + 1 - c.2.1 < _; rw [stP_at e]; omega
  | inr r => show 0 < _; omega

set_option maxHeartbeats 4000000 in
theorem c_X7_goesOnBehind {G : GT} {h : HP} {m X s : Nat} {T : TT} {z : Sum CF RE} (hm : LM h.kd h.gl h.fr m) (K : MKW T h m) (V : TV T) (Z : PZ T X s z h m) (hB : isB z) : Con G 3 0 0 yX7_goesOnBehind cX7_goesOnBehind 1 (some .boolean) [rv m] h (PI (fun v h' => ∃ z', b2i (isP z') = v ∧ PZ T X s z' h' m ∧ isQ z' ∧ (∀ r, RO T z' r → RO T z r) ∧ (isP z' = true → mz T z' < mz T z) ∧ HC X s m h h' ∧ Fm [461, 462, 467, 468, 469] [455, 456, 465, 466] h h')) := by
  refine Con.of (lv := [some (rv m)]) (by decide) (by simp only [lvE_r, lvE_i, lvE_l, lvE_s, lvE_0]; rfl) (by simp only [lgl_r, lgl_i, lgl_l, lgl_s, lgl_0]; decide) (fun Γ C R => ?_)
  generalize hPP : (PI (fun v h' => ∃ z', b2i (isP z') = v ∧ PZ T X s z' h' m ∧ isQ z' ∧ (∀ r, RO T z' r → RO T z r) ∧ (isP z' = true → mz T z' < mz T z) ∧ HC X s m h h' ∧ Fm [461, 462, 467, 468, 469] [455, 456, 465, 466] h h')) = PP
  have L0 : ∀ (fuel0 : Nat) (h2 : HP) (z2 : Sum CF RE), mz T z2 < fuel0 → (PZ T X s z2 h2 m) → (isB z2) → (∀ r, RO T z2 r → RO T z r) → (mz T z2 ≤ mz T z) → (HC X s m h h2) → (Fm [461, 462, 467, 468, 469] [455, 456, 465, 466] h h2) → wX G Γ (qM G Γ PP 0 0) 0 0 (h2) 0 [some (rv m)] [] := by
    intro fuel0
    induction fuel0 with
    | zero =>
      intro h2 z2 hm0
      exact absurd hm0 (Nat.not_lt_zero _)
    | succ fuel0 ih0 =>
      intro h2 z2 hm0 Z2 hB2 hR2 hM2 H2 F2
      have hmeas := hm0
      have hm0 := hm
      have K0 := K
      have hm : LM h2.kd h2.gl h2.fr m := LM.fm F2 hm0
      have K : MKW T h2 m := MKW.fm F2 hm0 (by decide) K0
      obtain ⟨i, F, Bf, hcase⟩ := Z2.bf hB2
      have hN6 := K.2.2.2.1
      have hiN := Bf.2.1
      have hF9 := Bf.2.2.2
      refine r_aload_n (q := 1) (z := 0) C 0 rfl (by decide +kernel) rfl rfl ?_
      refine r_getI (q := 4) C 7 8 456 rfl (by decide +kernel) rfl (by decide) rfl rfl wf_X7_182 win7 hm.1 ?_
      rw [Bf.2.2.1]
      refine r_if_ne (q := 7) (off := 273) (tgt := 277) C rfl (by decide +kernel) (by decide) (fun c4 => ?_) (fun c4 => ?_)
      · have hF : 0 < F := by
          rcases Nat.eq_zero_or_pos F with e | e
          · rw [e] at c4; exact absurd rfl c4
          · exact e
        obtain ⟨-, hzz⟩ : 0 < F ∧ z2 = .inr (.inl F) := hcase.resolve_left (fun e => by omega)
        refine r_iconst (q := 278) (z := 0) (v := 0) C rfl (by decide +kernel) (by decide) ?_
        exact r_zret C (by decide +kernel) rfl (by first | decide | exact b2i_nar _) (by decide) (by decide) (eqP hPP ⟨_, rfl, ⟨z2, by rw [hzz]; rfl, Z2, by rw [hzz]; trivial, hR2, (by rw [hzz]; intro e; cases e), H2, F2⟩⟩)
      · have hF : F = 0 := (nI_eq (b := 0) (by omega) (by decide)).mp c4
        obtain ⟨-, s0, g, a, t, cd, hzz, S2, ok⟩ := hcase.resolve_right (fun e => by omega)
        subst hF
        obtain ⟨-, Kc, hdp, hfr, hbd⟩ := id S2
        have hX := Kc.2.1
        have hok := cok_st K.2.2 ok
        obtain ⟨ok1, ok2, ok3, ok4⟩ := id ok
        simp only [List.length_cons, Nat.add_sub_cancel] at ok2 hdp
        obtain ⟨f1, f2, f3⟩ := ok3 (s0, g, a) List.mem_cons_self
        simp only at f1 f2 f3
        simp only [pnd] at hbd
        have hmz : mz T z2 = T.N + 1 - i := by rw [hzz]; rfl
        have J218 : ∀ (h3 : HP), (PSt T X s i ((0, 0, 0) :: t) (fl a (fl g (fl s0 cd))) h3 m) → (Fm [461, 462, 467, 468, 469] [455, 456, 465, 466] h h3) → (HC X s m h h3) → (¬ (T.kd i = 2 ∨ T.kd i = 3)) → (¬ (g = 0 ∧ (T.kd i = 4 ∨ T.kd i = 5))) → wX G Γ (qM G Γ PP 0 0) 0 0 (h3) 218 [some (rv m)] [] := by
          intro h3 Y3 F3 H3 hn hn2
          have hm : LM h3.kd h3.gl h3.fr m := LM.fm F3 hm0
          have K : MKW T h3 m := MKW.fm F3 hm0 (by decide) K0
          obtain ⟨Bf3, Kc3, hd3, hfr3, hb3⟩ := id Y3
          simp only [List.length_cons, Nat.add_sub_cancel, pnd, nz_0] at hd3 hb3
          refine r_aload_n (q := 219) (z := 0) C 0 rfl (by decide +kernel) rfl rfl ?_
          refine r_iconst (q := 220) (z := 3) (v := nI 3) C rfl (by decide +kernel) (by decide) ?_
          refine cV1I (q := 223) C R rfl (by decide +kernel) lk_X7_192 (c_X7_isWord (w := 3) (F := 0) hm K Bf3 (by decide)) (by decide) (by decide) (by decide) rfl (by first | exact Nat.le_of_ble_eq_true rfl | (simp only [List.map_cons, List.map_nil, List.sum_cons, List.sum_nil, rv_cat]; exact Nat.le_of_ble_eq_true rfl)) rfl hm.1 ?_
          rintro _ _ ⟨rfl, rfl⟩
          refine r_if_eq (q := 226) (off := 26) (tgt := 249) C rfl (by decide +kernel) (by decide) (fun c223 => ?_) (fun c223 => ?_)
          · have n6 : ¬ T.kd i = 6 := fun e => of_decide_eq_false ((b2i_0 _).mp c223) ⟨rfl, V.and_.mpr e⟩
            refine r_aload_n (q := 250) (z := 0) C 0 rfl (by decide +kernel) rfl rfl ?_
            refine r_getI (q := 253) C 7 18 466 rfl (by decide +kernel) rfl (by decide) rfl rfl wf_X7_216 win7 hm.1 ?_
            rw [hd3]
            refine r_if_ne (q := 256) (off := 5) (tgt := 258) C rfl (by decide +kernel) (by decide) (fun c253 => ?_) (fun c253 => ?_)
            · have ht0 : t.length ≠ 0 := fun e => c253 (by rw [e]; rfl)
              refine r_aload_n (q := 259) (z := 0) C 0 rfl (by decide +kernel) rfl rfl ?_
              refine r_bipush (q := 261) (z := 41) (v := nI 41) C rfl (by decide +kernel) (by decide) ?_
              refine cV1V (q := 264) C R rfl (by decide +kernel) lk_X7_233 (c_X7_takeSign (c := 41) (F := 0) hm K Bf3 (by decide) (by decide)) (by decide) (by decide) (by decide) rfl (by first | exact Nat.le_of_ble_eq_true rfl | (simp only [List.map_cons, List.map_nil, List.sum_cons, List.sum_nil, rv_cat]; exact Nat.le_of_ble_eq_true rfl)) rfl hm.1 ?_
              rintro h261 ⟨By261, Bn261, F261⟩
              have hmB := hm
              have hm : LM h261.kd h261.gl h261.fr m := LM.fm F261 hmB
              refine r_aload_n (q := 265) (z := 0) C 0 rfl (by decide +kernel) rfl rfl ?_
              refine r_dup (q := 266) C rfl (by decide +kernel) (by first | rfl | exact rv_cat _) ?_
              refine r_getI (q := 269) C 7 18 466 rfl (by decide +kernel) rfl (by decide) rfl rfl wf_X7_216 win7 hm.1 ?_
              rw [F261.2.2.2.2.1 _ _ (by decide), hd3]
              refine r_iconst (q := 270) (z := 1) (v := 1) C rfl (by decide +kernel) (by decide) ?_
              refine r_isub (q := 271) C rfl (by decide +kernel) ?_
              rw [m1x _ (by omega)]
              refine r_putI (q := 274) C 7 18 466 rfl (by decide +kernel) rfl (by decide) rfl rfl wf_X7_216 win7 tyX7 tyX7_ok nmX7 rfl (tyX7_ok 18 (by decide)) rfl wnd7 rfl rfl hm.1 ?_
              refine r_goto (off := -274) (tgt := 0) C (by decide +kernel) (by decide) ?_
              obtain ⟨f9, t9, ht9⟩ : ∃ f9 t9, t = f9 :: t9 := by
                cases t with
                | nil => exact absurd rfl ht0
                | cons f9 t9 => exact ⟨f9, t9, rfl⟩
              subst ht9
              have FB : Fm [] [455, 456, 466] h3 (h261.setI 466 m (nI ((f9 :: t9).length - 1))) := Fm.setI (F261.mono (by decide) (by decide)) (by decide)
              have F9 : Fm [461, 462, 467, 468, 469] [455, 456, 465, 466] h (h261.setI 466 m (nI ((f9 :: t9).length - 1))) := F3.tr (FB.mono (by decide) (by decide))
              have H9 : HC X s m h (h261.setI 466 m (nI ((f9 :: t9).length - 1))) := H3.tr (HC.fm FB hmB (by decide))
              have hst0 := stB3 (s := s0) (g := g) (a := a) (t := f9 :: t9) (cd := cd) hn hn2
              by_cases e8 : T.kd i = 8
              · have hst := hst0.trans (stA3 n6 e8)
                have B9 := (By261 ⟨rfl, e8⟩).fm (Fm.setI (A := []) (B := [466]) (g := 466) (b := m) (v := nI ((f9 :: t9).length - 1)) Fm.rf (by decide)) (by decide)
                refine ih0 _ (.inl (false, i + 1, f9 :: t9, fl a (fl g (fl s0 cd)))) ?_ ⟨⟨B9, Kc3.fm FB hmB (by decide) (by decide), fi_eq, hfr3.2.fm FB hmB (by decide), ?_⟩, hok.1 _ hst⟩ rfl (fun r hr => hR2 r (by rw [hzz]; exact RO.of hst hr)) ?_ H9 F9
                · show T.N + 1 - (i + 1) < _; omega
                · show s + (fl a (fl g (fl s0 cd))).length + pnd (f9 :: t9) ≤ i + 1; omega
                · show T.N + 1 - (i + 1) ≤ _; omega
              · have hst := hst0.trans (stA4 n6 e8)
                have B9 := (Bn261 (fun e => e8 e.2)).fm (Fm.setI (A := []) (B := [466]) (g := 466) (b := m) (v := nI ((f9 :: t9).length - 1)) Fm.rf (by decide)) (by decide)
                rw [if_pos rfl] at B9
                refine ih0 _ (.inr (.inl (fq T 1 i))) ?_ ⟨⟨i, B9⟩, fq_pos (by decide), (FB.2.2.2.2.1 _ _ (by decide)).trans Kc3.1, _, ?_, (FB.2.2.2.2.1 _ _ (by decide)).trans Kc3.2.2.1⟩ trivial (fun r hr => hR2 r (by rw [hzz]; exact RO.of hst hr)) (Nat.zero_le _) H9 F9
                · show 0 < _; omega
                · omega
            · have ht0 : t.length = 0 := (nI_eq (b := 0) (by omega) (by decide)).mp c253
              have ht : t = [] := List.length_eq_zero_iff.mp ht0
              refine r_iconst (q := 257) (z := 0) (v := 0) C rfl (by decide +kernel) (by decide) ?_
              exact r_zret C (by decide +kernel) rfl (by first | decide | exact b2i_nar _) (by decide) (by decide) (eqP hPP ⟨_, rfl, (by
                    subst ht
                    have hst : mst T (false, i, [(s0, g, a)], cd) = .inr (.inr (i, fl a (fl g (fl s0 cd)))) := (stB3 hn hn2).trans (stA2 n6)
                    exact ⟨.inr (.inr (i, fl a (fl g (fl s0 cd)))), rfl, ⟨Bf3, Kc3, (by show s + (fl a (fl g (fl s0 cd))).length ≤ i; omega)⟩, trivial, fun r hr => hR2 r (by rw [hzz]; exact RO.of hst hr), (fun e => by cases e), H3, F3⟩)⟩)
          · have k6 : T.kd i = 6 := V.and_.mp (of_decide_eq_true ((b2i_n0 _).mp c223)).2
            refine r_aload_n (q := 227) (z := 0) C 0 rfl (by decide +kernel) rfl rfl ?_
            refine r_getR (q := 230) C 7 21 469 rfl (by decide +kernel) rfl (by decide) rfl rfl wf_X7_79 win7 hm.1 ?_
            refine r_aload_n (q := 231) (z := 0) C 0 rfl (by decide +kernel) rfl rfl ?_
            refine r_getI (q := 234) C 7 18 466 rfl (by decide +kernel) rfl (by decide) rfl rfl wf_X7_216 win7 hm.1 ?_
            rw [hd3]
            refine r_bipush (q := 236) (z := 7) (v := nI 7) C rfl (by decide +kernel) (by decide) ?_
            refine r_iast (q := 237) C rfl (by decide +kernel) rfl hm.k469 (vp_in_nI (by omega) (by decide)) ?_
            rw [stI_row, nI_clamp (by omega)]
            refine r_aload_n (q := 238) (z := 0) C 0 rfl (by decide +kernel) rfl rfl ?_
            refine r_dup (q := 239) C rfl (by decide +kernel) (by first | rfl | exact rv_cat _) ?_
            refine r_getI (q := 242) C 7 7 455 rfl (by decide +kernel) rfl (by decide) rfl rfl wf_X7_179 win7 hm.1 ?_
            rw [fi_row, Bf3.1]
            refine r_iconst (q := 243) (z := 1) (v := 1) C rfl (by decide +kernel) (by decide) ?_
            refine r_iadd (q := 244) C rfl (by decide +kernel) ?_
            rw [nI_1]
            refine r_putI (q := 247) C 7 7 455 rfl (by decide +kernel) rfl (by decide) rfl rfl wf_X7_179 win7 tyX7 tyX7_ok nmX7 rfl (tyX7_ok 7 (by decide)) rfl wnd7 rfl rfl hm.1 ?_
            refine r_iconst (q := 248) (z := 1) (v := 1) C rfl (by decide +kernel) (by decide) ?_
            exact r_zret C (by decide +kernel) rfl (by first | decide | exact b2i_nar _) (by decide) (by decide) (eqP hPP ⟨_, rfl, (by
                  have hst : mst T (false, i, (s0, g, a) :: t, cd) = .inl (true, i + 1, (0, 0, 7) :: t, fl a (fl g (fl s0 cd))) := (stB3 hn hn2).trans (stA1 k6)
                  have hgo := PSt.go3 (v := 7) (f := (0, 0, 0)) hm K.2.2 Y3 (by omega) rfl
                  exact ⟨.inl (true, i + 1, (0, 0, 7) :: t, fl a (fl g (fl s0 cd))), rfl, ⟨hgo.1, hok.1 _ hst⟩, rfl, fun r hr => hR2 r (by rw [hzz]; exact RO.of hst hr), fun _ => (by show T.N + 1 - (i + 1) < _; omega), H3.tr (HC.fm hgo.2 hm (by decide)), F3.tr (hgo.2.mono (by decide) (by decide))⟩)⟩)
        have J189 : ∀ (h3 : HP), (PSt T X s i ((0, 0, a) :: t) (fl g (fl s0 cd)) h3 m) → (Fm [461, 462, 467, 468, 469] [455, 456, 465, 466] h h3) → (HC X s m h h3) → (¬ (T.kd i = 2 ∨ T.kd i = 3)) → (¬ (g = 0 ∧ (T.kd i = 4 ∨ T.kd i = 5))) → wX G Γ (qM G Γ PP 0 0) 0 0 (h3) 189 [some (rv m)] [] := by
          intro h3 Y3 F3 H3 hn hn2
          have hm : LM h3.kd h3.gl h3.fr m := LM.fm F3 hm0
          have K : MKW T h3 m := MKW.fm F3 hm0 (by decide) K0
          obtain ⟨Bf3, Kc3, hd3, hfr3, hb3⟩ := id Y3
          simp only [List.length_cons, Nat.add_sub_cancel, pnd, nz_0] at hd3 hb3
          refine r_aload_n (q := 190) (z := 0) C 0 rfl (by decide +kernel) rfl rfl ?_
          refine r_getR (q := 193) C 7 21 469 rfl (by decide +kernel) rfl (by decide) rfl rfl wf_X7_79 win7 hm.1 ?_
          refine r_aload_n (q := 194) (z := 0) C 0 rfl (by decide +kernel) rfl rfl ?_
          refine r_getI (q := 197) C 7 18 466 rfl (by decide +kernel) rfl (by decide) rfl rfl wf_X7_216 win7 hm.1 ?_
          rw [hd3]
          refine r_iald (q := 198) C rfl (by decide +kernel) hm.k469 (vp_in_nI (by omega) (by decide)) ?_
          rw [nI_clamp (by omega), hfr3.1.2.2]
          refine r_if_eq (q := 201) (off := 20) (tgt := 218) C rfl (by decide +kernel) (by decide) (fun c198 => ?_) (fun c198 => ?_)
          · have h0 : a = 0 := (nI_eq (b := 0) (by omega) (by decide)).mp c198
            exact J218 h3 (by rw [h0] at Y3 ⊢; exact Y3) F3 H3 hn hn2
          · have h0 : ¬ a = 0 := fun e => c198 (by rw [e]; rfl)
            have a7 : a = 7 := by omega
            refine r_aload_n (q := 202) (z := 0) C 0 rfl (by decide +kernel) rfl rfl ?_
            refine r_bipush (q := 204) (z := 7) (v := nI a) C rfl (by decide +kernel) (by rw [a7]; decide) ?_
            refine r_iconst (q := 205) (z := 0) (v := nI 0) C rfl (by decide +kernel) (by decide) ?_
            refine cV2V (q := 208) C R rfl (by decide +kernel) lk_X7_229 (c_X7_emit (o := a) (a := 0) hm Kc3 (by rw [nz_fl, nz_fl]; omega)) (by decide) (by decide) (by decide) rfl (by first | exact Nat.le_of_ble_eq_true rfl | (simp only [List.map_cons, List.map_nil, List.sum_cons, List.sum_nil, rv_cat]; exact Nat.le_of_ble_eq_true rfl)) rfl hm.1 ?_
            rintro h205 ⟨K205, H205, F205⟩
            have hmB := hm
            have hm : LM h205.kd h205.gl h205.fr m := LM.fm F205 hmB
            refine r_aload_n (q := 209) (z := 0) C 0 rfl (by decide +kernel) rfl rfl ?_
            refine r_getR (q := 212) C 7 21 469 rfl (by decide +kernel) rfl (by decide) rfl rfl wf_X7_79 win7 hm.1 ?_
            refine r_aload_n (q := 213) (z := 0) C 0 rfl (by decide +kernel) rfl rfl ?_
            refine r_getI (q := 216) C 7 18 466 rfl (by decide +kernel) rfl (by decide) rfl rfl wf_X7_216 win7 hm.1 ?_
            rw [F205.2.2.2.2.1 _ _ (by decide), hd3]
            refine r_iconst (q := 217) (z := 0) (v := nI 0) C rfl (by decide +kernel) (by decide) ?_
            refine r_iast (q := 218) C rfl (by decide +kernel) rfl hm.k469 (vp_in_nI (by omega) (by decide)) ?_
            rw [stI_row, nI_clamp (by omega)]
            have hfl := PSt.fl3 (f := (0, 0, a)) hmB Y3 h0 K205 F205
            exact J218 _ hfl.1 (F3.tr (hfl.2.mono (by decide) (by decide))) (H3.tr (H205.tr (HC.fm (A := [469]) (B := []) (Fm.row Fm.rf (by rw [hm.g469]; decide)) hm (by decide)))) hn hn2
        have J153 : ∀ (h3 : HP), (PSt T X s i ((0, g, a) :: t) (fl s0 cd) h3 m) → (Fm [461, 462, 467, 468, 469] [455, 456, 465, 466] h h3) → (HC X s m h h3) → (¬ (T.kd i = 2 ∨ T.kd i = 3)) → (g = 0 ∧ (T.kd i = 4 ∨ T.kd i = 5)) → wX G Γ (qM G Γ PP 0 0) 0 0 (h3) 153 [some (rv m)] [] := by
          intro h3 Y3 F3 H3 hn hk2
          have hm : LM h3.kd h3.gl h3.fr m := LM.fm F3 hm0
          have K : MKW T h3 m := MKW.fm F3 hm0 (by decide) K0
          obtain ⟨Bf3, Kc3, hd3, hfr3, hb3⟩ := id Y3
          simp only [List.length_cons, Nat.add_sub_cancel, pnd, nz_0] at hd3 hb3
          refine r_aload_n (q := 154) (z := 0) C 0 rfl (by decide +kernel) rfl rfl ?_
          refine r_getR (q := 157) C 7 20 468 rfl (by decide +kernel) rfl (by decide) rfl rfl wf_X7_76 win7 hm.1 ?_
          refine r_aload_n (q := 158) (z := 0) C 0 rfl (by decide +kernel) rfl rfl ?_
          refine r_getI (q := 161) C 7 18 466 rfl (by decide +kernel) rfl (by decide) rfl rfl wf_X7_216 win7 hm.1 ?_
          rw [hd3]
          refine r_aload_n (q := 162) (z := 0) C 0 rfl (by decide +kernel) rfl rfl ?_
          refine r_bipush (q := 164) (z := 60) (v := nI 60) C rfl (by decide +kernel) (by decide) ?_
          refine cV1I (q := 167) C R rfl (by decide +kernel) lk_X7_185 (c_X7_isSign (c := 60) (F := 0) hm K Bf3 (by decide) (by decide)) (by decide) (by decide) (by decide) rfl (by first | exact Nat.le_of_ble_eq_true rfl | (simp only [List.map_cons, List.map_nil, List.sum_cons, List.sum_nil, rv_cat]; exact Nat.le_of_ble_eq_true rfl)) rfl hm.1 ?_
          rintro _ _ ⟨rfl, rfl⟩
          refine r_if_eq (q := 170) (off := 7) (tgt := 174) C rfl (by decide +kernel) (by decide) (fun c167 => ?_) (fun c167 => ?_)
          · have n4 : ¬ T.kd i = 4 := fun e => of_decide_eq_false ((b2i_0 _).mp c167) ⟨rfl, e⟩
            refine r_bipush (q := 176) (z := 6) (v := nI (T.kd i + 1)) C rfl (by decide +kernel) (by rw [show T.kd i = 5 by omega]; decide) ?_
            refine r_iast (q := 177) C rfl (by decide +kernel) rfl hm.k468 (vp_in_nI (by omega) (by decide)) ?_
            rw [stI_row, nI_clamp (by omega)]
            refine r_aload_n (q := 178) (z := 0) C 0 rfl (by decide +kernel) rfl rfl ?_
            refine r_dup (q := 179) C rfl (by decide +kernel) (by first | rfl | exact rv_cat _) ?_
            refine r_getI (q := 182) C 7 7 455 rfl (by decide +kernel) rfl (by decide) rfl rfl wf_X7_179 win7 hm.1 ?_
            rw [fi_row, Bf3.1]
            refine r_iconst (q := 183) (z := 1) (v := 1) C rfl (by decide +kernel) (by decide) ?_
            refine r_iadd (q := 184) C rfl (by decide +kernel) ?_
            rw [nI_1]
            refine r_putI (q := 187) C 7 7 455 rfl (by decide +kernel) rfl (by decide) rfl rfl wf_X7_179 win7 tyX7 tyX7_ok nmX7 rfl (tyX7_ok 7 (by decide)) rfl wnd7 rfl rfl hm.1 ?_
            refine r_iconst (q := 188) (z := 1) (v := 1) C rfl (by decide +kernel) (by decide) ?_
            exact r_zret C (by decide +kernel) rfl (by first | decide | exact b2i_nar _) (by decide) (by decide) (eqP hPP ⟨_, rfl, (by
                  have hst : mst T (false, i, (s0, g, a) :: t, cd) = .inl (true, i + 1, (0, T.kd i + 1, a) :: t, fl s0 cd) := stB2 hn hk2
                  have hgo := PSt.go2 (v := T.kd i + 1) (f := (0, g, a)) hm K.2.2 Y3 (by omega) hk2.1
                  exact ⟨.inl (true, i + 1, (0, T.kd i + 1, a) :: t, fl s0 cd), rfl, ⟨hgo.1, hok.1 _ hst⟩, rfl, fun r hr => hR2 r (by rw [hzz]; exact RO.of hst hr), fun _ => (by show T.N + 1 - (i + 1) < _; omega), H3.tr (HC.fm hgo.2 hm (by decide)), F3.tr (hgo.2.mono (by decide) (by decide))⟩)⟩)
          · have k4 : T.kd i = 4 := (of_decide_eq_true ((b2i_n0 _).mp c167)).2
            refine r_iconst (q := 171) (z := 5) (v := nI (T.kd i + 1)) C rfl (by decide +kernel) (by rw [k4]; decide) ?_
            refine r_goto (off := 5) (tgt := 176) C (by decide +kernel) (by decide) ?_
            refine r_iast (q := 177) C rfl (by decide +kernel) rfl hm.k468 (vp_in_nI (by omega) (by decide)) ?_
            rw [stI_row, nI_clamp (by omega)]
            refine r_aload_n (q := 178) (z := 0) C 0 rfl (by decide +kernel) rfl rfl ?_
            refine r_dup (q := 179) C rfl (by decide +kernel) (by first | rfl | exact rv_cat _) ?_
            refine r_getI (q := 182) C 7 7 455 rfl (by decide +kernel) rfl (by decide) rfl rfl wf_X7_179 win7 hm.1 ?_
            rw [fi_row, Bf3.1]
            refine r_iconst (q := 183) (z := 1) (v := 1) C rfl (by decide +kernel) (by decide) ?_
            refine r_iadd (q := 184) C rfl (by decide +kernel) ?_
            rw [nI_1]
            refine r_putI (q := 187) C 7 7 455 rfl (by decide +kernel) rfl (by decide) rfl rfl wf_X7_179 win7 tyX7 tyX7_ok nmX7 rfl (tyX7_ok 7 (by decide)) rfl wnd7 rfl rfl hm.1 ?_
            refine r_iconst (q := 188) (z := 1) (v := 1) C rfl (by decide +kernel) (by decide) ?_
            exact r_zret C (by decide +kernel) rfl (by first | decide | exact b2i_nar _) (by decide) (by decide) (eqP hPP ⟨_, rfl, (by
                  have hst : mst T (false, i, (s0, g, a) :: t, cd) = .inl (true, i + 1, (0, T.kd i + 1, a) :: t, fl s0 cd) := stB2 hn hk2
                  have hgo := PSt.go2 (v := T.kd i + 1) (f := (0, g, a)) hm K.2.2 Y3 (by omega) hk2.1
                  exact ⟨.inl (true, i + 1, (0, T.kd i + 1, a) :: t, fl s0 cd), rfl, ⟨hgo.1, hok.1 _ hst⟩, rfl, fun r hr => hR2 r (by rw [hzz]; exact RO.of hst hr), fun _ => (by show T.N + 1 - (i + 1) < _; omega), H3.tr (HC.fm hgo.2 hm (by decide)), F3.tr (hgo.2.mono (by decide) (by decide))⟩)⟩)
        have J96 : ∀ (h3 : HP), (PSt T X s i ((0, g, a) :: t) (fl s0 cd) h3 m) → (Fm [461, 462, 467, 468, 469] [455, 456, 465, 466] h h3) → (HC X s m h h3) → (¬ (T.kd i = 2 ∨ T.kd i = 3)) → wX G Γ (qM G Γ PP 0 0) 0 0 (h3) 96 [some (rv m)] [] := by
          intro h3 Y3 F3 H3 hn
          have hm : LM h3.kd h3.gl h3.fr m := LM.fm F3 hm0
          have K : MKW T h3 m := MKW.fm F3 hm0 (by decide) K0
          obtain ⟨Bf3, Kc3, hd3, hfr3, hb3⟩ := id Y3
          simp only [List.length_cons, Nat.add_sub_cancel, pnd, nz_0] at hd3 hb3
          refine r_aload_n (q := 97) (z := 0) C 0 rfl (by decide +kernel) rfl rfl ?_
          refine r_getR (q := 100) C 7 20 468 rfl (by decide +kernel) rfl (by decide) rfl rfl wf_X7_76 win7 hm.1 ?_
          refine r_aload_n (q := 101) (z := 0) C 0 rfl (by decide +kernel) rfl rfl ?_
          refine r_getI (q := 104) C 7 18 466 rfl (by decide +kernel) rfl (by decide) rfl rfl wf_X7_216 win7 hm.1 ?_
          rw [hd3]
          refine r_iald (q := 105) C rfl (by decide +kernel) hm.k468 (vp_in_nI (by omega) (by decide)) ?_
          rw [nI_clamp (by omega), hfr3.1.2.1]
          refine r_if_eq (q := 108) (off := 30) (tgt := 135) C rfl (by decide +kernel) (by decide) (fun c105 => ?_) (fun c105 => ?_)
          · have h0 : g = 0 := (nI_eq (b := 0) (by omega) (by decide)).mp c105
            refine r_aload_n (q := 136) (z := 0) C 0 rfl (by decide +kernel) rfl rfl ?_
            refine r_bipush (q := 138) (z := 60) (v := nI 60) C rfl (by decide +kernel) (by decide) ?_
            refine cV1I (q := 141) C R rfl (by decide +kernel) lk_X7_185 (c_X7_isSign (c := 60) (F := 0) hm K Bf3 (by decide) (by decide)) (by decide) (by decide) (by decide) rfl (by first | exact Nat.le_of_ble_eq_true rfl | (simp only [List.map_cons, List.map_nil, List.sum_cons, List.sum_nil, rv_cat]; exact Nat.le_of_ble_eq_true rfl)) rfl hm.1 ?_
            rintro _ _ ⟨rfl, rfl⟩
            refine r_if_ne (q := 144) (off := 12) (tgt := 153) C rfl (by decide +kernel) (by decide) (fun c141 => ?_) (fun c141 => ?_)
            · have k4 : T.kd i = 4 := (of_decide_eq_true ((b2i_n0 _).mp c141)).2
              exact J153 h3 Y3 F3 H3 hn ⟨h0, Or.inl k4⟩
            · have n4 : ¬ T.kd i = 4 := fun e => of_decide_eq_false ((b2i_0 _).mp c141) ⟨rfl, e⟩
              refine r_aload_n (q := 145) (z := 0) C 0 rfl (by decide +kernel) rfl rfl ?_
              refine r_bipush (q := 147) (z := 61) (v := nI 61) C rfl (by decide +kernel) (by decide) ?_
              refine cV1I (q := 150) C R rfl (by decide +kernel) lk_X7_185 (c_X7_isSign (c := 61) (F := 0) hm K Bf3 (by decide) (by decide)) (by decide) (by decide) (by decide) rfl (by first | exact Nat.le_of_ble_eq_true rfl | (simp only [List.map_cons, List.map_nil, List.sum_cons, List.sum_nil, rv_cat]; exact Nat.le_of_ble_eq_true rfl)) rfl hm.1 ?_
              rintro _ _ ⟨rfl, rfl⟩
              refine r_if_eq (q := 153) (off := 39) (tgt := 189) C rfl (by decide +kernel) (by decide) (fun c150 => ?_) (fun c150 => ?_)
              · have n5 : ¬ T.kd i = 5 := fun e => of_decide_eq_false ((b2i_0 _).mp c150) ⟨rfl, e⟩
                exact J189 h3 (by rw [h0] at Y3 ⊢; exact Y3) F3 H3 hn (fun e => e.2.elim n4 n5)
              · have k5 : T.kd i = 5 := (of_decide_eq_true ((b2i_n0 _).mp c150)).2
                exact J153 h3 Y3 F3 H3 hn ⟨h0, Or.inr k5⟩
          · have h0 : ¬ g = 0 := fun e => c105 (by rw [e]; rfl)
            refine r_aload_n (q := 109) (z := 0) C 0 rfl (by decide +kernel) rfl rfl ?_
            refine r_aload_n (q := 110) (z := 0) C 0 rfl (by decide +kernel) rfl rfl ?_
            refine r_getR (q := 113) C 7 20 468 rfl (by decide +kernel) rfl (by decide) rfl rfl wf_X7_76 win7 hm.1 ?_
            refine r_aload_n (q := 114) (z := 0) C 0 rfl (by decide +kernel) rfl rfl ?_
            refine r_getI (q := 117) C 7 18 466 rfl (by decide +kernel) rfl (by decide) rfl rfl wf_X7_216 win7 hm.1 ?_
            rw [hd3]
            refine r_iald (q := 118) C rfl (by decide +kernel) hm.k468 (vp_in_nI (by omega) (by decide)) ?_
            rw [nI_clamp (by omega), hfr3.1.2.1]
            refine r_iconst (q := 119) (z := 0) (v := nI 0) C rfl (by decide +kernel) (by decide) ?_
            refine cV2V (q := 122) C R rfl (by decide +kernel) lk_X7_229 (c_X7_emit (o := g) (a := 0) hm Kc3 (by rw [nz_fl]; omega)) (by decide) (by decide) (by decide) rfl (by first | exact Nat.le_of_ble_eq_true rfl | (simp only [List.map_cons, List.map_nil, List.sum_cons, List.sum_nil, rv_cat]; exact Nat.le_of_ble_eq_true rfl)) rfl hm.1 ?_
            rintro h119 ⟨K119, H119, F119⟩
            have hmB := hm
            have hm : LM h119.kd h119.gl h119.fr m := LM.fm F119 hmB
            refine r_aload_n (q := 123) (z := 0) C 0 rfl (by decide +kernel) rfl rfl ?_
            refine r_getR (q := 126) C 7 20 468 rfl (by decide +kernel) rfl (by decide) rfl rfl wf_X7_76 win7 hm.1 ?_
            refine r_aload_n (q := 127) (z := 0) C 0 rfl (by decide +kernel) rfl rfl ?_
            refine r_getI (q := 130) C 7 18 466 rfl (by decide +kernel) rfl (by decide) rfl rfl wf_X7_216 win7 hm.1 ?_
            rw [F119.2.2.2.2.1 _ _ (by decide), hd3]
            refine r_iconst (q := 131) (z := 0) (v := nI 0) C rfl (by decide +kernel) (by decide) ?_
            refine r_iast (q := 132) C rfl (by decide +kernel) rfl hm.k468 (vp_in_nI (by omega) (by decide)) ?_
            rw [stI_row, nI_clamp (by omega)]
            have hfl := PSt.fl2 (f := (0, g, a)) hmB Y3 h0 K119 F119
            refine r_goto (off := 57) (tgt := 189) C (by decide +kernel) (by decide) ?_
            exact J189 _ hfl.1 (F3.tr (hfl.2.mono (by decide) (by decide))) (H3.tr (H119.tr (HC.fm (A := [468]) (B := []) (Fm.row Fm.rf (by rw [hm.g468]; decide)) hm (by decide)))) hn (fun e => h0 e.1)
        have J61 : ∀ (h3 : HP), (PSt T X s i ((0, g, a) :: t) (fl s0 cd) h3 m) → (Fm [461, 462, 467, 468, 469] [455, 456, 465, 466] h h3) → (HC X s m h h3) → (T.kd i = 2 ∨ T.kd i = 3) → wX G Γ (qM G Γ PP 0 0) 0 0 (h3) 61 [some (rv m)] [] := by
          intro h3 Y3 F3 H3 hk
          have hm : LM h3.kd h3.gl h3.fr m := LM.fm F3 hm0
          have K : MKW T h3 m := MKW.fm F3 hm0 (by decide) K0
          obtain ⟨Bf3, Kc3, hd3, hfr3, hb3⟩ := id Y3
          simp only [List.length_cons, Nat.add_sub_cancel, pnd, nz_0] at hd3 hb3
          refine r_aload_n (q := 62) (z := 0) C 0 rfl (by decide +kernel) rfl rfl ?_
          refine r_getR (q := 65) C 7 19 467 rfl (by decide +kernel) rfl (by decide) rfl rfl wf_X7_73 win7 hm.1 ?_
          refine r_aload_n (q := 66) (z := 0) C 0 rfl (by decide +kernel) rfl rfl ?_
          refine r_getI (q := 69) C 7 18 466 rfl (by decide +kernel) rfl (by decide) rfl rfl wf_X7_216 win7 hm.1 ?_
          rw [hd3]
          refine r_aload_n (q := 70) (z := 0) C 0 rfl (by decide +kernel) rfl rfl ?_
          refine r_bipush (q := 72) (z := 43) (v := nI 43) C rfl (by decide +kernel) (by decide) ?_
          refine cV1I (q := 75) C R rfl (by decide +kernel) lk_X7_185 (c_X7_isSign (c := 43) (F := 0) hm K Bf3 (by decide) (by decide)) (by decide) (by decide) (by decide) rfl (by first | exact Nat.le_of_ble_eq_true rfl | (simp only [List.map_cons, List.map_nil, List.sum_cons, List.sum_nil, rv_cat]; exact Nat.le_of_ble_eq_true rfl)) rfl hm.1 ?_
          rintro _ _ ⟨rfl, rfl⟩
          refine r_if_eq (q := 78) (off := 7) (tgt := 82) C rfl (by decide +kernel) (by decide) (fun c75 => ?_) (fun c75 => ?_)
          · have n2 : ¬ T.kd i = 2 := fun e => of_decide_eq_false ((b2i_0 _).mp c75) ⟨rfl, e⟩
            refine r_iconst (q := 83) (z := 4) (v := nI (T.kd i + 1)) C rfl (by decide +kernel) (by rw [show T.kd i = 3 by omega]; decide) ?_
            refine r_iast (q := 84) C rfl (by decide +kernel) rfl hm.k467 (vp_in_nI (by omega) (by decide)) ?_
            rw [stI_row, nI_clamp (by omega)]
            refine r_aload_n (q := 85) (z := 0) C 0 rfl (by decide +kernel) rfl rfl ?_
            refine r_dup (q := 86) C rfl (by decide +kernel) (by first | rfl | exact rv_cat _) ?_
            refine r_getI (q := 89) C 7 7 455 rfl (by decide +kernel) rfl (by decide) rfl rfl wf_X7_179 win7 hm.1 ?_
            rw [fi_row, Bf3.1]
            refine r_iconst (q := 90) (z := 1) (v := 1) C rfl (by decide +kernel) (by decide) ?_
            refine r_iadd (q := 91) C rfl (by decide +kernel) ?_
            rw [nI_1]
            refine r_putI (q := 94) C 7 7 455 rfl (by decide +kernel) rfl (by decide) rfl rfl wf_X7_179 win7 tyX7 tyX7_ok nmX7 rfl (tyX7_ok 7 (by decide)) rfl wnd7 rfl rfl hm.1 ?_
            refine r_iconst (q := 95) (z := 1) (v := 1) C rfl (by decide +kernel) (by decide) ?_
            exact r_zret C (by decide +kernel) rfl (by first | decide | exact b2i_nar _) (by decide) (by decide) (eqP hPP ⟨_, rfl, (by
                  have hst : mst T (false, i, (s0, g, a) :: t, cd) = .inl (true, i + 1, (T.kd i + 1, g, a) :: t, fl s0 cd) := stB1 hk
                  have hgo := PSt.go1 (v := T.kd i + 1) (f := (0, g, a)) hm K.2.2 Y3 (by omega) rfl
                  exact ⟨.inl (true, i + 1, (T.kd i + 1, g, a) :: t, fl s0 cd), rfl, ⟨hgo.1, hok.1 _ hst⟩, rfl, fun r hr => hR2 r (by rw [hzz]; exact RO.of hst hr), fun _ => (by show T.N + 1 - (i + 1) < _; omega), H3.tr (HC.fm hgo.2 hm (by decide)), F3.tr (hgo.2.mono (by decide) (by decide))⟩)⟩)
          · have k2 : T.kd i = 2 := (of_decide_eq_true ((b2i_n0 _).mp c75)).2
            refine r_iconst (q := 79) (z := 3) (v := nI (T.kd i + 1)) C rfl (by decide +kernel) (by rw [k2]; decide) ?_
            refine r_goto (off := 4) (tgt := 83) C (by decide +kernel) (by decide) ?_
            refine r_iast (q := 84) C rfl (by decide +kernel) rfl hm.k467 (vp_in_nI (by omega) (by decide)) ?_
            rw [stI_row, nI_clamp (by omega)]
            refine r_aload_n (q := 85) (z := 0) C 0 rfl (by decide +kernel) rfl rfl ?_
            refine r_dup (q := 86) C rfl (by decide +kernel) (by first | rfl | exact rv_cat _) ?_
            refine r_getI (q := 89) C 7 7 455 rfl (by decide +kernel) rfl (by decide) rfl rfl wf_X7_179 win7 hm.1 ?_
            rw [fi_row, Bf3.1]
            refine r_iconst (q := 90) (z := 1) (v := 1) C rfl (by decide +kernel) (by decide) ?_
            refine r_iadd (q := 91) C rfl (by decide +kernel) ?_
            rw [nI_1]
            refine r_putI (q := 94) C 7 7 455 rfl (by decide +kernel) rfl (by decide) rfl rfl wf_X7_179 win7 tyX7 tyX7_ok nmX7 rfl (tyX7_ok 7 (by decide)) rfl wnd7 rfl rfl hm.1 ?_
            refine r_iconst (q := 95) (z := 1) (v := 1) C rfl (by decide +kernel) (by decide) ?_
            exact r_zret C (by decide +kernel) rfl (by first | decide | exact b2i_nar _) (by decide) (by decide) (eqP hPP ⟨_, rfl, (by
                  have hst : mst T (false, i, (s0, g, a) :: t, cd) = .inl (true, i + 1, (T.kd i + 1, g, a) :: t, fl s0 cd) := stB1 hk
                  have hgo := PSt.go1 (v := T.kd i + 1) (f := (0, g, a)) hm K.2.2 Y3 (by omega) rfl
                  exact ⟨.inl (true, i + 1, (T.kd i + 1, g, a) :: t, fl s0 cd), rfl, ⟨hgo.1, hok.1 _ hst⟩, rfl, fun r hr => hR2 r (by rw [hzz]; exact RO.of hst hr), fun _ => (by show T.N + 1 - (i + 1) < _; omega), H3.tr (HC.fm hgo.2 hm (by decide)), F3.tr (hgo.2.mono (by decide) (by decide))⟩)⟩)
        have J43 : ∀ (h3 : HP), (PSt T X s i ((0, g, a) :: t) (fl s0 cd) h3 m) → (Fm [461, 462, 467, 468, 469] [455, 456, 465, 466] h h3) → (HC X s m h h3) → wX G Γ (qM G Γ PP 0 0) 0 0 (h3) 43 [some (rv m)] [] := by
          intro h3 Y3 F3 H3
          have hm : LM h3.kd h3.gl h3.fr m := LM.fm F3 hm0
          have K : MKW T h3 m := MKW.fm F3 hm0 (by decide) K0
          obtain ⟨Bf3, Kc3, hd3, hfr3, hb3⟩ := id Y3
          simp only [List.length_cons, Nat.add_sub_cancel, pnd, nz_0] at hd3 hb3
          refine r_aload_n (q := 44) (z := 0) C 0 rfl (by decide +kernel) rfl rfl ?_
          refine r_bipush (q := 46) (z := 43) (v := nI 43) C rfl (by decide +kernel) (by decide) ?_
          refine cV1I (q := 49) C R rfl (by decide +kernel) lk_X7_185 (c_X7_isSign (c := 43) (F := 0) hm K Bf3 (by decide) (by decide)) (by decide) (by decide) (by decide) rfl (by first | exact Nat.le_of_ble_eq_true rfl | (simp only [List.map_cons, List.map_nil, List.sum_cons, List.sum_nil, rv_cat]; exact Nat.le_of_ble_eq_true rfl)) rfl hm.1 ?_
          rintro _ _ ⟨rfl, rfl⟩
          refine r_if_ne (q := 52) (off := 12) (tgt := 61) C rfl (by decide +kernel) (by decide) (fun c49 => ?_) (fun c49 => ?_)
          · have k2 : T.kd i = 2 := (of_decide_eq_true ((b2i_n0 _).mp c49)).2
            exact J61 h3 Y3 F3 H3 (Or.inl k2)
          · have n2 : ¬ T.kd i = 2 := fun e => of_decide_eq_false ((b2i_0 _).mp c49) ⟨rfl, e⟩
            refine r_aload_n (q := 53) (z := 0) C 0 rfl (by decide +kernel) rfl rfl ?_
            refine r_bipush (q := 55) (z := 45) (v := nI 45) C rfl (by decide +kernel) (by decide) ?_
            refine cV1I (q := 58) C R rfl (by decide +kernel) lk_X7_185 (c_X7_isSign (c := 45) (F := 0) hm K Bf3 (by decide) (by decide)) (by decide) (by decide) (by decide) rfl (by first | exact Nat.le_of_ble_eq_true rfl | (simp only [List.map_cons, List.map_nil, List.sum_cons, List.sum_nil, rv_cat]; exact Nat.le_of_ble_eq_true rfl)) rfl hm.1 ?_
            rintro _ _ ⟨rfl, rfl⟩
            refine r_if_eq (q := 61) (off := 38) (tgt := 96) C rfl (by decide +kernel) (by decide) (fun c58 => ?_) (fun c58 => ?_)
            · have n3 : ¬ T.kd i = 3 := fun e => of_decide_eq_false ((b2i_0 _).mp c58) ⟨rfl, e⟩
              exact J96 h3 Y3 F3 H3 (fun e => e.elim n2 n3)
            · have k3 : T.kd i = 3 := (of_decide_eq_true ((b2i_n0 _).mp c58)).2
              exact J61 h3 Y3 F3 H3 (Or.inr k3)
        refine r_aload_n (q := 8) (z := 0) C 0 rfl (by decide +kernel) rfl rfl ?_
        refine r_getR (q := 11) C 7 19 467 rfl (by decide +kernel) rfl (by decide) rfl rfl wf_X7_73 win7 hm.1 ?_
        refine r_aload_n (q := 12) (z := 0) C 0 rfl (by decide +kernel) rfl rfl ?_
        refine r_getI (q := 15) C 7 18 466 rfl (by decide +kernel) rfl (by decide) rfl rfl wf_X7_216 win7 hm.1 ?_
        rw [hdp]
        refine r_iald (q := 16) C rfl (by decide +kernel) hm.k467 (vp_in_nI (by omega) (by decide)) ?_
        rw [nI_clamp (by omega), hfr.1.1]
        refine r_if_eq (q := 19) (off := 27) (tgt := 43) C rfl (by decide +kernel) (by decide) (fun c16 => ?_) (fun c16 => ?_)
        · have h0 : s0 = 0 := (nI_eq (b := 0) (by omega) (by decide)).mp c16
          exact J43 h2 (by rw [h0] at S2 ⊢; exact S2) F2 H2
        · have h0 : ¬ s0 = 0 := fun e => c16 (by rw [e]; rfl)
          refine r_aload_n (q := 20) (z := 0) C 0 rfl (by decide +kernel) rfl rfl ?_
          refine r_aload_n (q := 21) (z := 0) C 0 rfl (by decide +kernel) rfl rfl ?_
          refine r_getR (q := 24) C 7 19 467 rfl (by decide +kernel) rfl (by decide) rfl rfl wf_X7_73 win7 hm.1 ?_
          refine r_aload_n (q := 25) (z := 0) C 0 rfl (by decide +kernel) rfl rfl ?_
          refine r_getI (q := 28) C 7 18 466 rfl (by decide +kernel) rfl (by decide) rfl rfl wf_X7_216 win7 hm.1 ?_
          rw [hdp]
          refine r_iald (q := 29) C rfl (by decide +kernel) hm.k467 (vp_in_nI (by omega) (by decide)) ?_
          rw [nI_clamp (by omega), hfr.1.1]
          refine r_iconst (q := 30) (z := 0) (v := nI 0) C rfl (by decide +kernel) (by decide) ?_
          refine cV2V (q := 33) C R rfl (by decide +kernel) lk_X7_229 (c_X7_emit (o := s0) (a := 0) hm Kc (by omega)) (by decide) (by decide) (by decide) rfl (by first | exact Nat.le_of_ble_eq_true rfl | (simp only [List.map_cons, List.map_nil, List.sum_cons, List.sum_nil, rv_cat]; exact Nat.le_of_ble_eq_true rfl)) rfl hm.1 ?_
          rintro h30 ⟨K30, H30, F30⟩
          have hmB := hm
          have hm : LM h30.kd h30.gl h30.fr m := LM.fm F30 hmB
          refine r_aload_n (q := 34) (z := 0) C 0 rfl (by decide +kernel) rfl rfl ?_
          refine r_getR (q := 37) C 7 19 467 rfl (by decide +kernel) rfl (by decide) rfl rfl wf_X7_73 win7 hm.1 ?_
          refine r_aload_n (q := 38) (z := 0) C 0 rfl (by decide +kernel) rfl rfl ?_
          refine r_getI (q := 41) C 7 18 466 rfl (by decide +kernel) rfl (by decide) rfl rfl wf_X7_216 win7 hm.1 ?_
          rw [F30.2.2.2.2.1 _ _ (by decide), hdp]
          refine r_iconst (q := 42) (z := 0) (v := nI 0) C rfl (by decide +kernel) (by decide) ?_
          refine r_iast (q := 43) C rfl (by decide +kernel) rfl hm.k467 (vp_in_nI (by omega) (by decide)) ?_
          rw [stI_row, nI_clamp (by omega)]
          have hfl := PSt.fl1 (f := (s0, g, a)) hmB S2 h0 K30 F30
          exact J43 _ hfl.1 (F2.tr (hfl.2.mono (by decide) (by decide))) (H2.tr (H30.tr (HC.fm (A := [467]) (B := []) (Fm.row Fm.rf (by rw [hm.g467]; decide)) hm (by decide))))
  exact L0 (mz T z + 1) h z (Nat.lt_succ_self _) Z hB (fun r h => h) (Nat.le_refl _) HC.rf Fm.rf
