/-! ===== the class's law: what it holds of a text ===== -/
def cst : LW → Nat → Nat
  | [], _ => 0
  | _ :: _, 0 => 0
  | x :: t, k + 1 => x.2.length + cst t k
theorem cst_app : ∀ (l : LW) (x : Bool × Cd) (k : Nat), k ≤ l.length → cst (l ++ [x]) k = cst l k
  | [], x, k, h => by
    have e : k = 0 := by simpa using h
    subst e; rfl
  | y :: t, x, 0, _ => rfl
  | y :: t, x, k + 1, h => by
    show y.2.length + cst (t ++ [x]) k = y.2.length + cst t k
    rw [cst_app t x k (by simp at h; omega)]
theorem cst_end : ∀ (l : LW) (x : Bool × Cd), cst (l ++ [x]) (l.length + 1) = cst l l.length + x.2.length
  | [], x => by simp [cst]
  | y :: t, x => by
    show y.2.length + cst (t ++ [x]) (t.length + 1) = y.2.length + cst t t.length + x.2.length
    rw [cst_end t x]; omega
theorem cst_s : ∀ (l : LW) (k : Nat) (x : Bool × Cd), l[k]? = some x → cst l (k + 1) = cst l k + x.2.length
  | [], k, x, h => by simp at h
  | y :: t, 0, x, h => by
    simp at h; subst h
    cases t <;> simp [cst]
  | y :: t, k + 1, x, h => by
    show y.2.length + cst t (k + 1) = y.2.length + cst t k + x.2.length
    rw [cst_s t k x (by simpa using h)]; omega
theorem cst_mono : ∀ (l : LW) (k : Nat), k ≤ l.length → cst l k ≤ cst l l.length
  | [], k, h => by simp [cst]
  | y :: t, 0, h => by show 0 ≤ _; omega
  | y :: t, k + 1, h => by
    show y.2.length + cst t k ≤ y.2.length + cst t t.length
    have := cst_mono t k (by simp at h; omega); omega
def tot (lw : LW) : Nat := cst lw lw.length
theorem tot_app (l : LW) (b : Bool) (cd : Cd) : tot (l ++ [(b, cd)]) = tot l + cd.length := by unfold tot; rw [List.length_append]; exact cst_end l (b, cd)
/-- the code of one line -/
def cdW (x : Nat × Nat) : Int32 := nI (10000 * (x.1 - 1) + x.2)
def CLk (lw : LW) (h : HP) (a k : Nat) (ln : Bool × Cd) : Prop := h.ai (h.fr 67 a) k = b2i (!ln.1) ∧ h.ai (h.fr 66 a) k = nI (cst lw k) ∧ ∀ j x, ln.2[j]? = some x → h.ai (h.fr 64 a) (cst lw k + j) = cdW x
def CL (lw : LW) (h : HP) (a : Nat) : Prop := lw.length ≤ 16 ∧ tot lw ≤ 600 ∧ h.fi 69 a = nI lw.length ∧ h.fi 65 a = nI (tot lw) ∧ ∀ k ln, lw[k]? = some ln → CLk lw h a k ln
theorem CL.congr {lw : LW} {h h' : HP} {a : Nat} (H : CL lw h a) (e1 : h'.fi 69 a = h.fi 69 a) (e2 : h'.fi 65 a = h.fi 65 a) (e3 : h'.ai (h'.fr 64 a) = h.ai (h.fr 64 a)) (e4 : h'.ai (h'.fr 66 a) = h.ai (h.fr 66 a)) (e5 : h'.ai (h'.fr 67 a) = h.ai (h.fr 67 a)) : CL lw h' a := by
  unfold CL CLk at *
  rw [e1, e2, e3, e4, e5]; exact H
theorem CL.begin {lw : LW} {h : HP} {a k : Nat} {b : Bool} (L : LwL h.kd h.gl h.fr a k) (H : CL lw h a) (hn : lw.length < 16) : CL (lw ++ [(b, [])]) (((h.row (h.fr 66 a) (upd (h.ai (h.fr 66 a)) lw.length (nI (tot lw)))).row (h.fr 67 a) (upd ((h.row (h.fr 66 a) (upd (h.ai (h.fr 66 a)) lw.length (nI (tot lw)))).ai (h.fr 67 a)) lw.length (b2i (!b)))).setI 69 a (nI (lw.length + 1))) a := by
  obtain ⟨h1, h2, h3, h4, h5⟩ := H
  obtain ⟨-, -, ⟨-, g64⟩, ⟨-, g66⟩, ⟨-, g67⟩, -⟩ := L
  have n76 : h.fr 67 a ≠ h.fr 66 a := gl_ne g67 g66 (by omega)
  have n67 : h.fr 66 a ≠ h.fr 67 a := Ne.symm n76
  have n46 : h.fr 64 a ≠ h.fr 66 a := gl_ne g64 g66 (by omega)
  have n47 : h.fr 64 a ≠ h.fr 67 a := gl_ne g64 g67 (by omega)
  refine ⟨by simp; omega, by rw [tot_app]; simpa using h2, by rw [fi_eq]; simp, ?_, fun k ln hk => ?_⟩
  · rw [fi_ne (by decide), tot_app]; exact h4
  · show ((h.row (h.fr 66 a) _).row (h.fr 67 a) _).ai (h.fr 67 a) k = _ ∧ ((h.row (h.fr 66 a) _).row (h.fr 67 a) _).ai (h.fr 66 a) k = _ ∧ ∀ j x, _ → ((h.row (h.fr 66 a) _).row (h.fr 67 a) _).ai (h.fr 64 a) _ = _
    rw [ai_row_eq, ai_row_ne n67, ai_row_eq, ai_row_ne n76, ai_row_ne n47, ai_row_ne n46]
    by_cases q : k = lw.length
    · subst q
      have e : ln = (b, []) := by simpa using hk.symm
      subst e
      rw [pk_us, pk_us, cst_app _ _ _ (Nat.le_refl _)]
      exact ⟨rfl, rfl, fun j x hx => by simp at hx⟩
    · have hl : k < lw.length := by have := (List.getElem?_eq_some_iff.mp hk).1; simp at this; omega
      rw [List.getElem?_append_left hl] at hk
      rw [pk_un q, pk_un q, cst_app _ _ _ (Nat.le_of_lt hl)]
      exact h5 k ln hk
theorem CL.add {lw : LW} {h : HP} {a k : Nat} {b : Bool} {cd : Cd} {o v : Nat} (L : LwL h.kd h.gl h.fr a k) (H : CL (lw ++ [(b, cd)]) h a) (hn : tot lw + cd.length < 600) : CL (lw ++ [(b, cd ++ [(o + 1, v)])]) ((h.row (h.fr 64 a) (upd (h.ai (h.fr 64 a)) (tot lw + cd.length) (nI (10000 * o + v)))).setI 65 a (nI (tot lw + cd.length + 1))) a := by
  obtain ⟨h1, h2, h3, h4, h5⟩ := H
  obtain ⟨-, -, ⟨-, g64⟩, ⟨-, g66⟩, ⟨-, g67⟩, -⟩ := L
  have n64 : h.fr 66 a ≠ h.fr 64 a := gl_ne g66 g64 (by omega)
  have n74 : h.fr 67 a ≠ h.fr 64 a := gl_ne g67 g64 (by omega)
  refine ⟨by simpa using h1, by rw [tot_app]; simp; omega, ?_, by rw [fi_eq, tot_app]; simp; rfl, fun k ln hk => ?_⟩
  · rw [fi_ne (by decide)]
    show h.fi 69 a = _
    rw [h3]; simp
  · show (h.row (h.fr 64 a) _).ai (h.fr 67 a) k = _ ∧ (h.row (h.fr 64 a) _).ai (h.fr 66 a) k = _ ∧ ∀ j x, _ → (h.row (h.fr 64 a) _).ai (h.fr 64 a) _ = _
    rw [ai_row_ne n74, ai_row_ne n64, ai_row_eq]
    by_cases q : k = lw.length
    · subst q
      have e : ln = (b, cd ++ [(o + 1, v)]) := by simpa using hk.symm
      subst e
      obtain ⟨z1, z2, z3⟩ := h5 lw.length (b, cd) (by simp)
      rw [cst_app _ _ _ (Nat.le_refl _)] at z2 z3 ⊢
      refine ⟨z1, z2, fun j x hx => ?_⟩
      by_cases qj : j = cd.length
      · subst qj
        have e : x = (o + 1, v) := by simpa using hx.symm
        subst e
        show upd _ (tot lw + cd.length) _ (tot lw + cd.length) = _
        rw [pk_us]; rfl
      · have hl : j < cd.length := by have := (List.getElem?_eq_some_iff.mp hx).1; simp at this; omega
        have hx : (cd ++ [(o + 1, v)])[j]? = some x := hx
        rw [List.getElem?_append_left hl] at hx
        rw [pk_un (show cst lw lw.length + j ≠ tot lw + cd.length by unfold tot; omega)]
        exact z3 j x hx
    · have hl : k < lw.length := by have := (List.getElem?_eq_some_iff.mp hk).1; simp at this; omega
      rw [List.getElem?_append_left hl] at hk
      obtain ⟨z1, z2, z3⟩ := h5 k ln (by rw [List.getElem?_append_left hl]; exact hk)
      rw [cst_app _ _ _ (Nat.le_of_lt hl)] at z2 z3 ⊢
      refine ⟨z1, z2, fun j x hx => ?_⟩
      have hj : j < ln.2.length := (List.getElem?_eq_some_iff.mp hx).1
      have e1 := cst_s lw k ln hk
      have e2 := cst_mono lw (k + 1) (by omega)
      rw [pk_un (show cst lw k + j ≠ tot lw + cd.length by unfold tot; omega)]
      exact z3 j x hx
/-! the frame of the reading: of law objects only a itself is written -/
def FdL (k a : Nat) (h h' : HP) : Prop := Fm [k + 64, k + 66, k + 67] [65, 69, 132, 133] h h' ∧ ∀ b, b ≠ a → h'.fi 65 b = h.fi 65 b ∧ h'.fi 69 b = h.fi 69 b
theorem FdL.rf {k a : Nat} {h : HP} : FdL k a h h := ⟨Fm.rf, fun _ _ => ⟨rfl, rfl⟩⟩
theorem FdL.tr {k a : Nat} {h h1 h2 : HP} (x : FdL k a h h1) (y : FdL k a h1 h2) : FdL k a h h2 := ⟨x.1.tr y.1, fun b hb => ⟨(y.2 b hb).1.trans (x.2 b hb).1, (y.2 b hb).2.trans (x.2 b hb).2⟩⟩
theorem fi_ob {h : HP} {g a b : Nat} {v : Int32} (e : b ≠ a) : (h.setI g a v).fi g b = h.fi g b := by
  show (if g = g ∧ b = a then v else h.fi g b) = h.fi g b
  rw [if_neg (fun q => e q.2)]
theorem FdL.rd {k a r g : Nat} {h h' : HP} {v : Int32} (x : FdL k a h h') (hg : g = 132 ∨ g = 133) : FdL k a h (h'.setI g r v) := by
  refine ⟨x.1.setI (by rcases hg with e | e <;> subst e <;> decide), fun b hb => ?_⟩
  rw [fi_ne (by rcases hg with e | e <;> subst e <;> decide), fi_ne (by rcases hg with e | e <;> subst e <;> decide)]
  exact x.2 b hb
theorem FdL.ad {k a : Nat} {h h' : HP} {f : Nat → Int32} {v : Int32} (L : LwL h'.kd h'.gl h'.fr a k) (x : FdL k a h h') : FdL k a h ((h'.row (h'.fr 64 a) f).setI 65 a v) := by
  refine ⟨Fm.setI (Fm.row x.1 (by rw [← x.1.2.2.1, L.2.2.1.2]; simp)) (by decide), fun b hb => ?_⟩
  rw [fi_ob hb, fi_ne (by decide)]
  exact x.2 b hb
theorem FdL.bg {k a : Nat} {h h' : HP} {f q : Nat → Int32} {v : Int32} (L : LwL h'.kd h'.gl h'.fr a k) (x : FdL k a h h') : FdL k a h (((h'.row (h'.fr 66 a) f).row (h'.fr 67 a) q).setI 69 a v) := by
  refine ⟨Fm.setI (Fm.row (Fm.row x.1 (by rw [← x.1.2.2.1, L.2.2.2.1.2]; simp)) (by rw [← x.1.2.2.1, L.2.2.2.2.1.2]; simp)) (by decide), fun b hb => ?_⟩
  rw [fi_ob hb, fi_ne (by decide)]
  exact x.2 b hb
theorem LwL.fd {k a : Nat} {h h' : HP} (x : Fm [k + 64, k + 66, k + 67] [65, 69, 132, 133] h h') {b j : Nat} (L : LwL h.kd h.gl h.fr b j) : LwL h'.kd h'.gl h'.fr b j := by rw [x.1, x.2.1, x.2.2.1]; exact L
theorem CKT.fd {T : TT} {k a r : Nat} {h h' : HP} (hk : k = 100 ∨ k = 200) (R : RDl h r) (x : FdL k a h h') (K : CKT T h r) : CKT T h' r := by
  obtain ⟨F, -⟩ := x
  obtain ⟨-, -, g1, -, g2, -, g3⟩ := R
  have e1 : h'.ai (h'.fr 128 r) = h.ai (h.fr 128 r) := by rw [F.2.1]; exact (F.2.2.2.2.2 _ (by rw [g1]; rcases hk with e | e <;> subst e <;> decide)).1
  have e2 : h'.ai (h'.fr 129 r) = h.ai (h.fr 129 r) := by rw [F.2.1]; exact (F.2.2.2.2.2 _ (by rw [g2]; rcases hk with e | e <;> subst e <;> decide)).1
  have e3 : h'.ai (h'.fr 130 r) = h.ai (h.fr 130 r) := by rw [F.2.1]; exact (F.2.2.2.2.2 _ (by rw [g3]; rcases hk with e | e <;> subst e <;> decide)).1
  unfold CKT CK CKt at *
  rw [e1, e2, e3, F.2.2.2.2.1 _ _ (by decide)]; exact K
/-- where the reading stands -/
def RSt (T : TT) (k r a : Nat) (lw : LW) (b : Bool) (i : Nat) (cd : Cd) (h : HP) : Prop := RDl h r ∧ (k = 100 ∨ k = 200) ∧ LwL h.kd h.gl h.fr a k ∧ CKT T h r ∧ h.fi 132 r = nI i ∧ i ≤ T.N ∧ CL (lw ++ [(b, cd)]) h a
theorem RSt.adv {T : TT} {k r a : Nat} {lw : LW} {b : Bool} {i : Nat} {cd : Cd} {h : HP} (S : RSt T k r a lw b i cd h) (hi : i + 1 ≤ T.N) : RSt T k r a lw b (i + 1) cd (h.setI 132 r (nI (i + 1))) := by
  obtain ⟨s1, s2, s3, s4, s5, s6, s7⟩ := S
  exact ⟨s1, s2, s3, CKT.fd (a := a) s2 s1 (FdL.rd FdL.rf (Or.inl rfl)) s4, fi_eq, hi, s7.congr (fi_ne (by decide)) (fi_ne (by decide)) rfl rfl rfl⟩
theorem RSt.add {T : TT} {k r a : Nat} {lw : LW} {b : Bool} {i : Nat} {cd : Cd} {h : HP} {o v : Nat} (S : RSt T k r a lw b i cd h) (hn : tot lw + cd.length < 600) : RSt T k r a lw b i (cd ++ [(o + 1, v)]) ((h.row (h.fr 64 a) (upd (h.ai (h.fr 64 a)) (tot lw + cd.length) (nI (10000 * o + v)))).setI 65 a (nI (tot lw + cd.length + 1))) := by
  obtain ⟨s1, s2, s3, s4, s5, s6, s7⟩ := S
  exact ⟨s1, s2, s3, CKT.fd s2 s1 (FdL.ad s3 FdL.rf) s4, (fi_ne (by decide)).trans s5, s6, s7.add s3 hn⟩
theorem RSt.c65 {T : TT} {k r a : Nat} {lw : LW} {b : Bool} {i : Nat} {cd : Cd} {h : HP} (S : RSt T k r a lw b i cd h) : h.fi 65 a = nI (tot lw + cd.length) := by rw [S.2.2.2.2.2.2.2.2.2.1, tot_app]
theorem RSt.k5 {T : TT} {k r a : Nat} {lw : LW} {b : Bool} {i : Nat} {cd : Cd} {h : HP} (S : RSt T k r a lw b i cd h) : T.N ≤ 600 := S.2.2.2.1.1.2.1
/-- leads on: whatever the reading from c' on answers, the one from c answers -/
def To (T : TT) (c c' : CF) : Prop := ∀ x, RR T c' x → RR T c x
theorem To.tr {T : TT} {c c1 c2 : CF} (h1 : To T c c1) (h2 : To T c1 c2) : To T c c2 := fun x hx => h1 x (h2 x hx)
theorem To.st {T : TT} {c c1 c2 : CF} (h1 : To T c c1) (h2 : mst T c1 = .inl c2) : To T c c2 := fun x hx => h1 x (RR.st h2 hx)
/-- an answer of the reading's parts: good, or a fault -/
def RAn (T : TT) (k r a : Nat) (lw : LW) (b : Bool) (c : CF) (i : Nat) (h : HP) (good : Nat → Cd → Prop) (v : Int32) (h' : HP) : Prop := FdL k a h h' ∧ ((v = 1 ∧ ∃ j cd, i < j ∧ RSt T k r a lw b j cd h' ∧ good j cd) ∨ (v = 0 ∧ ∃ f, RR T c (.inl f) ∧ h'.fi 133 r = nI f))
abbrev rP1 (T : TT) (k r a : Nat) (lw : LW) (b : Bool) (i : Nat) (fs : Fs) (cd : Cd) (h : HP) (v : Int32) (h' : HP) : Prop := RAn T k r a lw b (true, i, fs, cd) i h (fun j cd' => tot lw + cd'.length + pnd fs ≤ j ∧ To T (true, i, fs, cd) (false, j, fs, cd')) v h'
abbrev rP2 (T : TT) (k r a : Nat) (lw : LW) (b : Bool) (i : Nat) (fs : Fs) (cd : Cd) (h : HP) (v : Int32) (h' : HP) : Prop := RAn T k r a lw b (true, i, fs, cd) i h (fun j cd' => tot lw + cd'.length + pnd fs ≤ j ∧ To T (true, i, fs, cd) (false, j, fs, cd') ∧ T.kd j ≠ 2 ∧ T.kd j ≠ 3) v h'
abbrev rP3 (T : TT) (k r a : Nat) (lw : LW) (b : Bool) (i : Nat) (t : Fs) (cd : Cd) (h : HP) (v : Int32) (h' : HP) : Prop := RAn T k r a lw b (true, i, (0, 0, 0) :: t, cd) i h (fun j cd' => tot lw + cd'.length + pnd t ≤ j ∧ T.kd j ≠ 6 ∧ ∀ x, RO T (stA T j 0 t cd') x → RR T (true, i, (0, 0, 0) :: t, cd) x) v h'
theorem stA_8 {T : TT} {j : Nat} {fs : Fs} {cd : Cd} (h : fs ≠ []) (hk : T.kd j = 8) : stA T j 0 fs cd = .inl (false, j + 1, fs, cd) := by
  cases fs with
  | nil => exact absurd rfl h
  | cons f t => unfold stA; rw [if_neg (by omega), if_pos hk]; rfl
theorem stA_n {T : TT} {j : Nat} {fs : Fs} {cd : Cd} (h : fs ≠ []) (h6 : T.kd j ≠ 6) (h8 : ¬ T.kd j = 8) : stA T j 0 fs cd = .inr (.inl (fq T 1 j)) := by
  cases fs with
  | nil => exact absurd rfl h
  | cons f t => unfold stA; rw [if_neg h6, if_neg h8]
theorem stA_0 {T : TT} {i w : Nat} {t : Fs} {cd : Cd} (h : T.kd i ≠ 6) : stA T i w t cd = stA T i 0 t (fl w cd) := by
  unfold stA; rw [if_neg h, if_neg h, fl_0]
theorem stA_6 {T : TT} {i w : Nat} {t : Fs} {cd : Cd} (h : T.kd i = 6) : stA T i w t cd = .inl (true, i + 1, (0, 0, 7) :: t, fl w cd) := by unfold stA; rw [if_pos h]
theorem fl_s (w : Nat) (cd : Cd) : fl (w + 1) cd = cd ++ [(w + 1, 0)] := if_neg (Nat.succ_ne_zero w)
theorem pnd_op (w g q : Nat) (t : Fs) : pnd ((w + 1, g, q) :: t) = pnd ((0, g, q) :: t) + 1 := by
  simp only [pnd]; rw [nz_p (Nat.succ_pos w), nz_0]; omega
theorem pnd_cm (w q : Nat) (t : Fs) : pnd ((0, w + 1, q) :: t) = pnd ((0, 0, q) :: t) + 1 := by
  simp only [pnd]; rw [nz_p (Nat.succ_pos w), nz_0]; omega
theorem m_op {T : TT} {j g q : Nat} {t : Fs} {cd : Cd} (h : T.kd j = 2 ∨ T.kd j = 3) : mst T (false, j, (0, g, q) :: t, cd) = .inl (true, j + 1, (T.kd j + 1, g, q) :: t, cd) := by
  show stB T j ((0, g, q) :: t) cd = _
  unfold stB; simp only; rw [if_pos h, fl_0]
theorem m_cm {T : TT} {j q : Nat} {t : Fs} {cd : Cd} (h : T.kd j = 4 ∨ T.kd j = 5) : mst T (false, j, (0, 0, q) :: t, cd) = .inl (true, j + 1, (0, T.kd j + 1, q) :: t, cd) := by
  show stB T j ((0, 0, q) :: t) cd = _
  unfold stB; simp only; rw [if_neg (by omega), if_pos ⟨trivial, h⟩, fl_0]
theorem m_n {T : TT} {j q : Nat} {t : Fs} {cd : Cd} (h2 : T.kd j ≠ 2) (h3 : T.kd j ≠ 3) (h4 : ¬ T.kd j = 4) (h5 : ¬ T.kd j = 5) : mst T (false, j, (0, 0, q) :: t, cd) = stA T j q t cd := by
  show stB T j ((0, 0, q) :: t) cd = _
  unfold stB; simp only; rw [if_neg (by omega), if_neg (by omega), fl_0, fl_0]
theorem m_g {T : TT} {j q w : Nat} {t : Fs} {cd : Cd} (h2 : T.kd j ≠ 2) (h3 : T.kd j ≠ 3) : mst T (false, j, (0, w + 1, q) :: t, cd) = stA T j q t (cd ++ [(w + 1, 0)]) := by
  show stB T j ((0, w + 1, q) :: t) cd = _
  unfold stB; simp only; rw [if_neg (by omega), if_neg (fun e => absurd e.1 (Nat.succ_ne_zero w)), fl_0, fl_s]
def aw (n : Nat) : Nat := if n = 0 then 0 else 7
theorem aw_s (n : Nat) : aw (n + 1) = 7 := if_neg (Nat.succ_ne_zero n)
theorem aw_p {n : Nat} (h : 0 < n) : aw n = 7 := if_neg (by omega)
theorem pnd_aw (w : Nat) (t : Fs) : pnd ((0, 0, w) :: t) = nz w + pnd t := by simp only [pnd]; rw [nz_0]; omega

theorem c_X2_readPart {G : GT} {le k r a d i : Nat} {T : TT} {lw : LW} {b : Bool} {cd : Cd} {h : HP} {fs : Fs} (hS : RSt T k r a lw b i cd h) (hd : fs.length = d + 1) (hd5 : d ≤ 5) (hb : tot lw + cd.length + pnd fs ≤ i) (hle : 2 ≤ le) (HTs : d < 5 → ∀ (h : HP) (i : Nat) (cd : Cd), RSt T k r a lw b i cd h → 1 ≤ i → tot lw + cd.length + pnd fs ≤ i → Con G le 0 0 yX2_readTests cX2_readTests 5 (some .boolean) [rv r, rv a, .int (nI (d + 1))] h (PI (rP3 T k r a lw b i fs cd h))) : Con G (le + 1) 0 0 yX2_readPart cX2_readPart 4 (some .boolean) [rv r, rv a, .int (nI d)] h (PI (rP1 T k r a lw b i fs cd h)) := by
  refine Con.of (lv := [some (rv r), some (rv a), some (.int (nI d)), none]) (by decide) (by simp only [lvE_r, lvE_i, lvE_l, lvE_s, lvE_0]; rfl) (by simp only [lgl_r, lgl_i, lgl_l, lgl_s, lgl_0]; decide) (fun Γ C R => ?_)
  generalize hPP : (PI (rP1 T k r a lw b i fs cd h)) = PP
  have k6 := hS.k5
  have hTW := hS.2.2.2.1.1
  have hi := hS.2.2.2.2.2.1
  have kl : T.kd i < 2 ^ 31 := kdlt hTW i
  have hfs : fs ≠ [] := fun q => by rw [q] at hd; simp at hd
  refine r_aload_n (q := 1) (z := 0) C 0 rfl (by decide +kernel) rfl rfl ?_
  refine cV0I (q := 4) C R rfl (by decide +kernel) lk_X2_106 (c_X2_kind hS.1 hS.2.2.2.1 hS.2.2.2.2.1 hS.2.2.2.2.2.1) (by omega) (by decide) (by decide) rfl (by first | exact Nat.le_of_ble_eq_true rfl | (simp only [List.map_cons, List.map_nil, List.sum_cons, List.sum_nil, rv_cat]; exact Nat.le_of_ble_eq_true rfl)) rfl hS.1.1 ?_
  rintro _ _ ⟨rfl, rfl⟩
  refine r_istore_n (q := 5) (z := 3) C 3 rfl (by decide +kernel) rfl (by decide) (by first | rfl | exact okst_rv rfl) ?_
  dsimp only [List.set]
  have J26 : (T.kd i = 0 ∨ T.kd i = 1 ∨ T.kd i = 7) → wX G Γ (qM G Γ PP 0 0) 0 0 (h) 26 [some (rv r), some (rv a), some (.int (nI d)), some (.int (nI (T.kd i)))] [] := by
    intro  hk3
    have hi1 : i + 1 ≤ T.N := hTW.lt hi (by omega)
    refine r_iload_n (q := 27) (z := 2) C 2 rfl (by decide +kernel) rfl rfl ?_
    refine r_iconst (q := 28) (z := 5) (v := 5) C rfl (by decide +kernel) (by decide) ?_
    refine r_icmp_lt (q := 31) (off := 9) (tgt := 37) C rfl (by decide +kernel) (by decide) (fun c28 => ?_) (fun c28 => ?_)
    · have d5 : d < 5 := (nI_ltI (b := 5) (by omega) (by decide)).mp c28
      refine r_iload_n (q := 38) (z := 3) C 3 rfl (by decide +kernel) rfl rfl ?_
      refine r_bipush (q := 40) (z := 7) (v := 7) C rfl (by decide +kernel) (by decide) ?_
      refine r_icmp_ne (q := 43) (off := 39) (tgt := 79) C rfl (by decide +kernel) (by decide) (fun c40 => ?_) (fun c40 => ?_)
      · have e7 : ¬ T.kd i = 7 := fun q => c40 (by rw [q]; rfl)
        have m8 : mst T (true, i, fs, cd) = .inl (false, i + 1, fs, cd ++ [(T.kd i + 1, T.vl i)]) := by show stP T i fs cd = _; unfold stP; rw [if_pos hk3, if_neg (by omega), if_neg e7]
        refine r_aload_n (q := 80) (z := 1) C 1 rfl (by decide +kernel) rfl rfl ?_
        refine r_iload_n (q := 81) (z := 3) C 3 rfl (by decide +kernel) rfl rfl ?_
        refine r_aload_n (q := 82) (z := 0) C 0 rfl (by decide +kernel) rfl rfl ?_
        refine r_getR (q := 85) C 2 1 129 rfl (by decide +kernel) rfl (by decide) rfl rfl wf_X2_15 win2 hS.1.1 ?_
        refine r_aload_n (q := 86) (z := 0) C 0 rfl (by decide +kernel) rfl rfl ?_
        refine r_getI (q := 89) C 2 4 132 rfl (by decide +kernel) rfl (by decide) rfl rfl wf_X2_25 win2 hS.1.1 ?_
        rw [hS.2.2.2.2.1]
        refine r_iald (q := 90) C rfl (by decide +kernel) hS.1.2.2.2.1 (vp_in_nI (by omega) (by decide)) ?_
        rw [nI_clamp (by omega), (hS.2.2.2.1.at hi).2.1 (by omega)]
        refine cV2V (q := 93) C R rfl (by decide +kernel) lk_X2_130 (c_X1_add hS.2.2.1.1 hS.2.2.1.2.2.1.1 (by omega) hS.c65) (by omega) (by decide) (by decide) rfl (by first | exact Nat.le_of_ble_eq_true rfl | (simp only [List.map_cons, List.map_nil, List.sum_cons, List.sum_nil, rv_cat]; exact Nat.le_of_ble_eq_true rfl)) rfl hS.2.2.1.1 ?_
        rintro _ rfl
        have S9 := hS.add (o := T.kd i) (v := T.vl i) (by omega)
        refine r_aload_n (q := 94) (z := 0) C 0 rfl (by decide +kernel) rfl rfl ?_
        refine r_dup (q := 95) C rfl (by decide +kernel) (by first | rfl | exact rv_cat _) ?_
        refine r_getI (q := 98) C 2 4 132 rfl (by decide +kernel) rfl (by decide) rfl rfl wf_X2_25 win2 S9.1.1 ?_
        rw [S9.2.2.2.2.1]
        refine r_iconst (q := 99) (z := 1) (v := 1) C rfl (by decide +kernel) (by decide) ?_
        refine r_iadd (q := 100) C rfl (by decide +kernel) ?_
        rw [nI_1]
        refine r_putI (q := 103) C 2 4 132 rfl (by decide +kernel) rfl (by decide) rfl rfl wf_X2_25 win2 tyX2 tyX2_ok nmX2 rfl (tyX2_ok 4 (by decide)) rfl wnd2 rfl rfl S9.1.1 ?_
        refine r_iconst (q := 104) (z := 1) (v := 1) C rfl (by decide +kernel) (by decide) ?_
        exact r_zret C (by decide +kernel) rfl (by first | decide | exact b2i_nar _) (by decide) (by decide) (eqP hPP ⟨_, rfl, ⟨FdL.rd (FdL.ad hS.2.2.1 FdL.rf) (Or.inl rfl), Or.inl ⟨rfl, i + 1, _, by omega, S9.adv hi1, by simp; omega, fun x hx => RR.st m8 hx⟩⟩⟩)
      · have e7 : T.kd i = 7 := (nI_eq (b := 7) kl (by decide)).mp c40
        have m7 : mst T (true, i, fs, cd) = .inl (true, i + 1, (0, 0, 0) :: fs, cd) := by show stP T i fs cd = _; unfold stP; rw [if_pos hk3, if_neg (by omega), if_pos e7]
        refine r_aload_n (q := 44) (z := 0) C 0 rfl (by decide +kernel) rfl rfl ?_
        refine r_dup (q := 45) C rfl (by decide +kernel) (by first | rfl | exact rv_cat _) ?_
        refine r_getI (q := 48) C 2 4 132 rfl (by decide +kernel) rfl (by decide) rfl rfl wf_X2_25 win2 hS.1.1 ?_
        rw [hS.2.2.2.2.1]
        refine r_iconst (q := 49) (z := 1) (v := 1) C rfl (by decide +kernel) (by decide) ?_
        refine r_iadd (q := 50) C rfl (by decide +kernel) ?_
        rw [nI_1]
        refine r_putI (q := 53) C 2 4 132 rfl (by decide +kernel) rfl (by decide) rfl rfl wf_X2_25 win2 tyX2 tyX2_ok nmX2 rfl (tyX2_ok 4 (by decide)) rfl wnd2 rfl rfl hS.1.1 ?_
        refine r_aload_n (q := 54) (z := 0) C 0 rfl (by decide +kernel) rfl rfl ?_
        refine r_aload_n (q := 55) (z := 1) C 1 rfl (by decide +kernel) rfl rfl ?_
        refine r_iload_n (q := 56) (z := 2) C 2 rfl (by decide +kernel) rfl rfl ?_
        refine r_iconst (q := 57) (z := 1) (v := 1) C rfl (by decide +kernel) (by decide) ?_
        refine r_iadd (q := 58) C rfl (by decide +kernel) ?_
        rw [nI_1]
        refine cV2I (q := 61) C R rfl (by decide +kernel) lk_X2_124 (HTs d5 _ (i + 1) cd (hS.adv hi1) (by omega) (by omega)) (by omega) (by decide) (by decide) rfl (by first | exact Nat.le_of_ble_eq_true rfl | (simp only [List.map_cons, List.map_nil, List.sum_cons, List.sum_nil, rv_cat]; exact Nat.le_of_ble_eq_true rfl)) rfl hS.1.1 ?_
        rintro v58 h58 ⟨F58, X58⟩
        refine r_if_eq (q := 64) (off := 16) (tgt := 77) C rfl (by decide +kernel) (by decide) (fun c61 => ?_) (fun c61 => ?_)
        · obtain ⟨-, f8, hf8, hg8⟩ := X58.resolve_left (fun e => by rw [e.1] at c61; exact absurd c61 (by decide))
          refine r_iconst (q := 78) (z := 0) (v := 0) C rfl (by decide +kernel) (by decide) ?_
          exact r_zret C (by decide +kernel) rfl (by first | decide | exact b2i_nar _) (by decide) (by decide) (eqP hPP ⟨_, rfl, (by first | exact ⟨FdL.tr (FdL.rd FdL.rf (Or.inl rfl)) F58, Or.inr ⟨rfl, f8, RR.st m7 hf8, hg8⟩⟩ | exact ⟨FdL.rd (FdL.tr (FdL.rd FdL.rf (Or.inl rfl)) F58) (Or.inr rfl), Or.inr ⟨rfl, _, RR.st m7 hro, fi_eq⟩⟩ | exact ⟨FdL.rd (FdL.tr (FdL.rd FdL.rf (Or.inl rfl)) F58) (Or.inl rfl), Or.inl ⟨rfl, j + 1, cd1, by omega, S1.adv hj1, by omega, fun x hx => RR.st m7 (to1 x (by rw [stA_8 hfs k8]; exact hx))⟩⟩)⟩)
        · obtain ⟨-, j, cd1, ij, S1, b1, k61, to1⟩ := X58.resolve_right (fun e => c61 e.1)
          have hj := S1.2.2.2.2.2.1
          refine r_aload_n (q := 65) (z := 0) C 0 rfl (by decide +kernel) rfl rfl ?_
          refine r_bipush (q := 67) (z := 8) (v := nI 8) C rfl (by decide +kernel) (by decide) ?_
          refine cV1I (q := 70) C R rfl (by decide +kernel) lk_X2_121 (c_X2_skip (k := 8) S1.1 S1.2.2.2.1 S1.2.2.2.2.1 S1.2.2.2.2.2.1 (by decide)) (by omega) (by decide) (by decide) rfl (by first | exact Nat.le_of_ble_eq_true rfl | (simp only [List.map_cons, List.map_nil, List.sum_cons, List.sum_nil, rv_cat]; exact Nat.le_of_ble_eq_true rfl)) rfl S1.1.1 ?_
          rintro _ _ ⟨rfl, rfl⟩
          refine r_if_eq (q := 73) (off := 7) (tgt := 77) C rfl (by decide +kernel) (by decide) (fun c70 => ?_) (fun c70 => ?_)
          · have k8 : ¬ T.kd j = 8 := of_decide_eq_false ((b2i_0 _).mp c70)
            rw [if_neg k8]
            have hro := to1 (.inl (fq T 1 j)) (by rw [stA_n hfs k61 k8]; rfl)
            refine r_iconst (q := 78) (z := 0) (v := 0) C rfl (by decide +kernel) (by decide) ?_
            exact r_zret C (by decide +kernel) rfl (by first | decide | exact b2i_nar _) (by decide) (by decide) (eqP hPP ⟨_, rfl, (by first | exact ⟨FdL.tr (FdL.rd FdL.rf (Or.inl rfl)) F58, Or.inr ⟨rfl, f8, RR.st m7 hf8, hg8⟩⟩ | exact ⟨FdL.rd (FdL.tr (FdL.rd FdL.rf (Or.inl rfl)) F58) (Or.inr rfl), Or.inr ⟨rfl, _, RR.st m7 hro, fi_eq⟩⟩ | exact ⟨FdL.rd (FdL.tr (FdL.rd FdL.rf (Or.inl rfl)) F58) (Or.inl rfl), Or.inl ⟨rfl, j + 1, cd1, by omega, S1.adv hj1, by omega, fun x hx => RR.st m7 (to1 x (by rw [stA_8 hfs k8]; exact hx))⟩⟩)⟩)
          · have k8 : T.kd j = 8 := of_decide_eq_true ((b2i_n0 _).mp c70)
            rw [if_pos k8]
            have hj1 : j + 1 ≤ T.N := hTW.lt hj (by omega)
            refine r_iconst (q := 74) (z := 1) (v := 1) C rfl (by decide +kernel) (by decide) ?_
            refine r_goto (off := 4) (tgt := 78) C (by decide +kernel) (by decide) ?_
            exact r_zret C (by decide +kernel) rfl (by first | decide | exact b2i_nar _) (by decide) (by decide) (eqP hPP ⟨_, rfl, (by first | exact ⟨FdL.tr (FdL.rd FdL.rf (Or.inl rfl)) F58, Or.inr ⟨rfl, f8, RR.st m7 hf8, hg8⟩⟩ | exact ⟨FdL.rd (FdL.tr (FdL.rd FdL.rf (Or.inl rfl)) F58) (Or.inr rfl), Or.inr ⟨rfl, _, RR.st m7 hro, fi_eq⟩⟩ | exact ⟨FdL.rd (FdL.tr (FdL.rd FdL.rf (Or.inl rfl)) F58) (Or.inl rfl), Or.inl ⟨rfl, j + 1, cd1, by omega, S1.adv hj1, by omega, fun x hx => RR.st m7 (to1 x (by rw [stA_8 hfs k8]; exact hx))⟩⟩)⟩)
    · have d5 : ¬ d < 5 := fun q => c28 (nI_lt (b := 5) q (by decide))
      have m9 : mst T (true, i, fs, cd) = .inr (.inl (fq T 5 i)) := by show stP T i fs cd = _; unfold stP; rw [if_pos hk3, if_pos (by omega)]
      refine r_aload_n (q := 32) (z := 0) C 0 rfl (by decide +kernel) rfl rfl ?_
      refine r_iconst (q := 33) (z := 5) (v := nI 5) C rfl (by decide +kernel) (by decide) ?_
      refine cV1I (q := 36) C R rfl (by decide +kernel) lk_X2_114 (c_X2_refuse (k := 5) hS.1 hS.2.2.2.1 hS.2.2.2.2.1 hS.2.2.2.2.2.1) (by omega) (by decide) (by decide) rfl (by first | exact Nat.le_of_ble_eq_true rfl | (simp only [List.map_cons, List.map_nil, List.sum_cons, List.sum_nil, rv_cat]; exact Nat.le_of_ble_eq_true rfl)) rfl hS.1.1 ?_
      rintro _ _ ⟨rfl, rfl⟩
      exact r_zret C (by decide +kernel) rfl (by first | decide | exact b2i_nar _) (by decide) (by decide) (eqP hPP ⟨_, rfl, ⟨FdL.rd FdL.rf (Or.inr rfl), Or.inr ⟨rfl, _, RR.en m9, fi_eq⟩⟩⟩)
  refine r_iload_n (q := 6) (z := 3) C 3 rfl (by decide +kernel) rfl rfl ?_
  refine r_if_eq (q := 9) (off := 20) (tgt := 26) C rfl (by decide +kernel) (by decide) (fun c6 => ?_) (fun c6 => ?_)
  · exact J26 (Or.inl ((nI_eq (b := 0) kl (by decide)).mp c6))
  · refine r_iload_n (q := 10) (z := 3) C 3 rfl (by decide +kernel) rfl rfl ?_
    refine r_iconst (q := 11) (z := 1) (v := 1) C rfl (by decide +kernel) (by decide) ?_
    refine r_icmp_eq (q := 14) (off := 15) (tgt := 26) C rfl (by decide +kernel) (by decide) (fun c11 => ?_) (fun c11 => ?_)
    · exact J26 (Or.inr (Or.inl ((nI_eq (b := 1) kl (by decide)).mp c11)))
    · refine r_iload_n (q := 15) (z := 3) C 3 rfl (by decide +kernel) rfl rfl ?_
      refine r_bipush (q := 17) (z := 7) (v := 7) C rfl (by decide +kernel) (by decide) ?_
      refine r_icmp_eq (q := 20) (off := 9) (tgt := 26) C rfl (by decide +kernel) (by decide) (fun c17 => ?_) (fun c17 => ?_)
      · exact J26 (Or.inr (Or.inr ((nI_eq (b := 7) kl (by decide)).mp c17)))
      · have hn3 : ¬ (T.kd i = 0 ∨ T.kd i = 1 ∨ T.kd i = 7) := fun q => by
          rcases q with q | q | q
          · exact c6 (by rw [q]; rfl)
          · exact c11 (by rw [q]; rfl)
          · exact c17 (by rw [q]; rfl)
        have m9 : mst T (true, i, fs, cd) = .inr (.inl (fq T 1 i)) := by show stP T i fs cd = _; unfold stP; rw [if_neg hn3]
        refine r_aload_n (q := 21) (z := 0) C 0 rfl (by decide +kernel) rfl rfl ?_
        refine r_iconst (q := 22) (z := 1) (v := nI 1) C rfl (by decide +kernel) (by decide) ?_
        refine cV1I (q := 25) C R rfl (by decide +kernel) lk_X2_114 (c_X2_refuse (k := 1) hS.1 hS.2.2.2.1 hS.2.2.2.2.1 hS.2.2.2.2.2.1) (by omega) (by decide) (by decide) rfl (by first | exact Nat.le_of_ble_eq_true rfl | (simp only [List.map_cons, List.map_nil, List.sum_cons, List.sum_nil, rv_cat]; exact Nat.le_of_ble_eq_true rfl)) rfl hS.1.1 ?_
        rintro _ _ ⟨rfl, rfl⟩
        exact r_zret C (by decide +kernel) rfl (by first | decide | exact b2i_nar _) (by decide) (by decide) (eqP hPP ⟨_, rfl, ⟨FdL.rd FdL.rf (Or.inr rfl), Or.inr ⟨rfl, _, RR.en m9, fi_eq⟩⟩⟩)
theorem c_X2_readSum {G : GT} {le k r a d i : Nat} {T : TT} {lw : LW} {b : Bool} {cd : Cd} {h : HP} {g q : Nat} {t : Fs} (hS : RSt T k r a lw b i cd h) (hd : t.length = d) (hb : tot lw + cd.length + pnd ((0, g, q) :: t) ≤ i) (hle : 3 ≤ le) (HPt : ∀ (h : HP) (i : Nat) (fs : Fs) (cd : Cd), RSt T k r a lw b i cd h → fs.length = d + 1 → tot lw + cd.length + pnd fs ≤ i → Con G le 0 0 yX2_readPart cX2_readPart 4 (some .boolean) [rv r, rv a, .int (nI d)] h (PI (rP1 T k r a lw b i fs cd h))) : Con G (le + 1) 0 0 yX2_readSum cX2_readSum 5 (some .boolean) [rv r, rv a, .int (nI d)] h (PI (rP2 T k r a lw b i ((0, g, q) :: t) cd h)) := by
  refine Con.of (lv := [some (rv r), some (rv a), some (.int (nI d)), none, none]) (by decide) (by simp only [lvE_r, lvE_i, lvE_l, lvE_s, lvE_0]; rfl) (by simp only [lgl_r, lgl_i, lgl_l, lgl_s, lgl_0]; decide) (fun Γ C R => ?_)
  generalize hPP : (PI (rP2 T k r a lw b i ((0, g, q) :: t) cd h)) = PP
  have k6 := hS.k5
  have hTW := hS.2.2.2.1.1
  refine r_aload_n (q := 1) (z := 0) C 0 rfl (by decide +kernel) rfl rfl ?_
  refine r_aload_n (q := 2) (z := 1) C 1 rfl (by decide +kernel) rfl rfl ?_
  refine r_iload_n (q := 3) (z := 2) C 2 rfl (by decide +kernel) rfl rfl ?_
  refine cV2I (q := 6) C R rfl (by decide +kernel) lk_X2_134 (HPt h i ((0, g, q) :: t) cd hS (by simp; omega) hb) (by omega) (by decide) (by decide) rfl (by first | exact Nat.le_of_ble_eq_true rfl | (simp only [List.map_cons, List.map_nil, List.sum_cons, List.sum_nil, rv_cat]; exact Nat.le_of_ble_eq_true rfl)) rfl hS.1.1 ?_
  rintro v3 h3 ⟨F3, X3⟩
  refine r_if_ne (q := 9) (off := 5) (tgt := 11) C rfl (by decide +kernel) (by decide) (fun c6 => ?_) (fun c6 => ?_)
  · obtain ⟨-, j0, cd0, ij0, S0, b0, to0⟩ := X3.resolve_right (fun e => c6 e.1)
    refine r_iconst (q := 12) (z := 0) (v := 0) C rfl (by decide +kernel) (by decide) ?_
    refine r_istore_n (q := 13) (z := 3) C 3 rfl (by decide +kernel) rfl (by decide) (by first | rfl | exact okst_rv rfl) ?_
    dsimp only [List.set]
    have L13 : ∀ (fuel13 : Nat) (h2 : HP) (j n : Nat) (cd2 : Cd), T.N - j < fuel13 → (FdL k a h h2) → (RSt T k r a lw b j cd2 h2) → (i < j) → (n + 1 ≤ j) → (tot lw + cd2.length + pnd ((0, g, q) :: t) ≤ j) → (To T (true, i, (0, g, q) :: t, cd) (false, j, (0, g, q) :: t, cd2)) → wX G Γ (qM G Γ PP 0 0) 0 0 (h2) 13 [some (rv r), some (rv a), some (.int (nI d)), some (.int (nI n)), none] [] := by
      intro fuel13
      induction fuel13 with
      | zero =>
        intro h2 j n cd2 hm13
        exact absurd hm13 (Nat.not_lt_zero _)
      | succ fuel13 ih13 =>
        intro h2 j n cd2 hm13 F2 S2 ij nj b2 to2
        have hS0 := hS
        have hS := S2
        have hj := S2.2.2.2.2.2.1
        have kl : T.kd j < 2 ^ 31 := kdlt hTW j
        refine r_iload_n (q := 14) (z := 3) C 3 rfl (by decide +kernel) rfl rfl ?_
        refine r_sipush (q := 17) (z := 600) (v := 600) C rfl (by decide +kernel) (by decide) ?_
        refine r_icmp_ge (q := 20) (off := 59) (tgt := 76) C rfl (by decide +kernel) (by decide) (fun c17 => ?_) (fun c17 => ?_)
        · exact absurd ((nI_leI (a := 600) (by omega) (by omega)).mp c17) (by omega)
        · have J36 : (T.kd j = 2 ∨ T.kd j = 3) → wX G Γ (qM G Γ PP 0 0) 0 0 (h2) 36 [some (rv r), some (rv a), some (.int (nI d)), some (.int (nI n)), none] [] := by
            intro  h23
            have hj1 : j + 1 ≤ T.N := hTW.lt hj (by omega)
            have m1 := m_op (g := g) (q := q) (t := t) (cd := cd2) h23
            refine r_aload_n (q := 37) (z := 0) C 0 rfl (by decide +kernel) rfl rfl ?_
            refine cV0I (q := 40) C R rfl (by decide +kernel) lk_X2_106 (c_X2_kind S2.1 S2.2.2.2.1 S2.2.2.2.2.1 S2.2.2.2.2.2.1) (by omega) (by decide) (by decide) rfl (by first | exact Nat.le_of_ble_eq_true rfl | (simp only [List.map_cons, List.map_nil, List.sum_cons, List.sum_nil, rv_cat]; exact Nat.le_of_ble_eq_true rfl)) rfl hS.1.1 ?_
            rintro _ _ ⟨rfl, rfl⟩
            refine r_istore (q := 42) C 4 rfl (by decide +kernel) (by decide) (by first | rfl | exact okst_rv rfl) ?_
            dsimp only [List.set]
            refine r_aload_n (q := 43) (z := 0) C 0 rfl (by decide +kernel) rfl rfl ?_
            refine r_dup (q := 44) C rfl (by decide +kernel) (by first | rfl | exact rv_cat _) ?_
            refine r_getI (q := 47) C 2 4 132 rfl (by decide +kernel) rfl (by decide) rfl rfl wf_X2_25 win2 S2.1.1 ?_
            rw [S2.2.2.2.2.1]
            refine r_iconst (q := 48) (z := 1) (v := 1) C rfl (by decide +kernel) (by decide) ?_
            refine r_iadd (q := 49) C rfl (by decide +kernel) ?_
            rw [nI_1]
            refine r_putI (q := 52) C 2 4 132 rfl (by decide +kernel) rfl (by decide) rfl rfl wf_X2_25 win2 tyX2 tyX2_ok nmX2 rfl (tyX2_ok 4 (by decide)) rfl wnd2 rfl rfl S2.1.1 ?_
            refine r_aload_n (q := 53) (z := 0) C 0 rfl (by decide +kernel) rfl rfl ?_
            refine r_aload_n (q := 54) (z := 1) C 1 rfl (by decide +kernel) rfl rfl ?_
            refine r_iload_n (q := 55) (z := 2) C 2 rfl (by decide +kernel) rfl rfl ?_
            refine cV2I (q := 58) C R rfl (by decide +kernel) lk_X2_134 (HPt _ (j + 1) ((T.kd j + 1, g, q) :: t) cd2 (S2.adv hj1) (by simp; omega) (by rw [pnd_op]; omega)) (by omega) (by decide) (by decide) rfl (by first | exact Nat.le_of_ble_eq_true rfl | (simp only [List.map_cons, List.map_nil, List.sum_cons, List.sum_nil, rv_cat]; exact Nat.le_of_ble_eq_true rfl)) rfl hS.1.1 ?_
            rintro v55 h55 ⟨F55, X55⟩
            refine r_if_ne (q := 61) (off := 5) (tgt := 63) C rfl (by decide +kernel) (by decide) (fun c58 => ?_) (fun c58 => ?_)
            · obtain ⟨-, j3, cd3, ij3, S3, b3, to3⟩ := X55.resolve_right (fun e => c58 e.1)
              have hj3 := S3.2.2.2.2.2.1
              rw [pnd_op] at b3
              refine r_aload_n (q := 64) (z := 1) C 1 rfl (by decide +kernel) rfl rfl ?_
              refine r_iload (q := 66) C 4 rfl (by decide +kernel) rfl ?_
              refine r_iconst (q := 67) (z := 0) (v := nI 0) C rfl (by decide +kernel) (by decide) ?_
              refine cV2V (q := 70) C R rfl (by decide +kernel) lk_X2_130 (c_X1_add S3.2.2.1.1 S3.2.2.1.2.2.1.1 (by omega) S3.c65) (by omega) (by decide) (by decide) rfl (by first | exact Nat.le_of_ble_eq_true rfl | (simp only [List.map_cons, List.map_nil, List.sum_cons, List.sum_nil, rv_cat]; exact Nat.le_of_ble_eq_true rfl)) rfl S3.2.2.1.1 ?_
              rintro _ rfl
              refine r_iinc (q := 73) (z := 1) (v := 1) C 3 rfl (by decide +kernel) rfl (by decide) (by decide) (by first | rfl | exact okst_rv rfl) ?_
              dsimp only [List.set]
              rw [nI_1]
              refine r_goto (off := -60) (tgt := 13) C (by decide +kernel) (by decide) ?_
              exact wX.sub (lsub_s (lsub_s (lsub_s (lsub_s (lsub_n (lsub_nil)))))) (ih13 _ j3 (n + 1) (cd3 ++ [(T.kd j + 1, 0)]) (by omega) (FdL.ad S3.2.2.1 (FdL.tr (FdL.rd F2 (Or.inl rfl)) F55)) (S3.add (o := T.kd j) (v := 0) (by omega)) (by omega) (by omega) (by simp; omega) (fun x hx => to2 x (RR.st m1 (to3 x (RR.congr (by rw [stB_s, fl_s]) hx)))))
            · obtain ⟨-, f8, hf8, hg8⟩ := X55.resolve_left (fun e => by rw [e.1] at c58; exact absurd c58 (by decide))
              refine r_iconst (q := 62) (z := 0) (v := 0) C rfl (by decide +kernel) (by decide) ?_
              exact r_zret C (by decide +kernel) rfl (by first | decide | exact b2i_nar _) (by decide) (by decide) (eqP hPP ⟨_, rfl, ⟨FdL.tr (FdL.rd F2 (Or.inl rfl)) F55, Or.inr ⟨rfl, f8, to2 _ (RR.st m1 hf8), hg8⟩⟩⟩)
          refine r_aload_n (q := 21) (z := 0) C 0 rfl (by decide +kernel) rfl rfl ?_
          refine cV0I (q := 24) C R rfl (by decide +kernel) lk_X2_106 (c_X2_kind S2.1 S2.2.2.2.1 S2.2.2.2.2.1 S2.2.2.2.2.2.1) (by omega) (by decide) (by decide) rfl (by first | exact Nat.le_of_ble_eq_true rfl | (simp only [List.map_cons, List.map_nil, List.sum_cons, List.sum_nil, rv_cat]; exact Nat.le_of_ble_eq_true rfl)) rfl hS.1.1 ?_
          rintro _ _ ⟨rfl, rfl⟩
          refine r_iconst (q := 25) (z := 2) (v := 2) C rfl (by decide +kernel) (by decide) ?_
          refine r_icmp_eq (q := 28) (off := 11) (tgt := 36) C rfl (by decide +kernel) (by decide) (fun c25 => ?_) (fun c25 => ?_)
          · exact wX.sub (lsub_s (lsub_s (lsub_s (lsub_s (lsub_n (lsub_nil)))))) (J36 (Or.inl ((nI_eq (b := 2) kl (by decide)).mp c25)))
          · have k2 : T.kd j ≠ 2 := fun q => c25 (by rw [q]; rfl)
            refine r_aload_n (q := 29) (z := 0) C 0 rfl (by decide +kernel) rfl rfl ?_
            refine cV0I (q := 32) C R rfl (by decide +kernel) lk_X2_106 (c_X2_kind S2.1 S2.2.2.2.1 S2.2.2.2.2.1 S2.2.2.2.2.2.1) (by omega) (by decide) (by decide) rfl (by first | exact Nat.le_of_ble_eq_true rfl | (simp only [List.map_cons, List.map_nil, List.sum_cons, List.sum_nil, rv_cat]; exact Nat.le_of_ble_eq_true rfl)) rfl hS.1.1 ?_
            rintro _ _ ⟨rfl, rfl⟩
            refine r_iconst (q := 33) (z := 3) (v := 3) C rfl (by decide +kernel) (by decide) ?_
            refine r_icmp_ne (q := 36) (off := 43) (tgt := 76) C rfl (by decide +kernel) (by decide) (fun c33 => ?_) (fun c33 => ?_)
            · have k3 : T.kd j ≠ 3 := fun q => c33 (by rw [q]; rfl)
              refine r_iconst (q := 77) (z := 1) (v := 1) C rfl (by decide +kernel) (by decide) ?_
              exact r_zret C (by decide +kernel) rfl (by first | decide | exact b2i_nar _) (by decide) (by decide) (eqP hPP ⟨_, rfl, ⟨F2, Or.inl ⟨rfl, j, cd2, ij, S2, b2, to2, k2, k3⟩⟩⟩)
            · exact wX.sub (lsub_s (lsub_s (lsub_s (lsub_s (lsub_n (lsub_nil)))))) (J36 (Or.inr ((nI_eq (b := 3) kl (by decide)).mp c33)))
    exact wX.sub (lsub_s (lsub_s (lsub_s (lsub_s (lsub_n (lsub_nil)))))) (L13 (T.N - j0 + 1) h3 j0 0 cd0 (Nat.lt_succ_self _) F3 S0 ij0 (by omega) b0 to0)
  · obtain ⟨-, f8, hf8, hg8⟩ := X3.resolve_left (fun e => by rw [e.1] at c6; exact absurd c6 (by decide))
    refine r_iconst (q := 10) (z := 0) (v := 0) C rfl (by decide +kernel) (by decide) ?_
    exact r_zret C (by decide +kernel) rfl (by first | decide | exact b2i_nar _) (by decide) (by decide) (eqP hPP ⟨_, rfl, ⟨F3, Or.inr ⟨rfl, f8, hf8, hg8⟩⟩⟩)
theorem c_X2_readTests {G : GT} {le k r a d i : Nat} {T : TT} {lw : LW} {b : Bool} {cd : Cd} {h : HP} {t : Fs} (hS : RSt T k r a lw b i cd h) (hd : t.length = d) (hi1 : 1 ≤ i) (hb : tot lw + cd.length + pnd t ≤ i) (hle : 3 ≤ le) (HSm : ∀ (h : HP) (i g q : Nat) (cd : Cd), RSt T k r a lw b i cd h → tot lw + cd.length + pnd ((0, g, q) :: t) ≤ i → Con G le 0 0 yX2_readSum cX2_readSum 5 (some .boolean) [rv r, rv a, .int (nI d)] h (PI (rP2 T k r a lw b i ((0, g, q) :: t) cd h))) : Con G (le + 1) 0 0 yX2_readTests cX2_readTests 5 (some .boolean) [rv r, rv a, .int (nI d)] h (PI (rP3 T k r a lw b i t cd h)) := by
  refine Con.of (lv := [some (rv r), some (rv a), some (.int (nI d)), none, none]) (by decide) (by simp only [lvE_r, lvE_i, lvE_l, lvE_s, lvE_0]; rfl) (by simp only [lgl_r, lgl_i, lgl_l, lgl_s, lgl_0]; decide) (fun Γ C R => ?_)
  generalize hPP : (PI (rP3 T k r a lw b i t cd h)) = PP
  have k6 := hS.k5
  have hTW := hS.2.2.2.1.1
  refine r_iconst (q := 1) (z := 0) (v := 0) C rfl (by decide +kernel) (by decide) ?_
  refine r_istore_n (q := 2) (z := 3) C 3 rfl (by decide +kernel) rfl (by decide) (by first | rfl | exact okst_rv rfl) ?_
  dsimp only [List.set]
  have L2 : ∀ (fuel2 : Nat) (h2 : HP) (j n : Nat) (cd2 : Cd), T.N - j < fuel2 → (FdL k a h h2) → (RSt T k r a lw b j cd2 h2) → (i ≤ j) → (n + 1 ≤ j) → (tot lw + cd2.length + pnd ((0, 0, aw n) :: t) ≤ j) → (To T (true, i, (0, 0, 0) :: t, cd) (true, j, (0, 0, aw n) :: t, cd2)) → wX G Γ (qM G Γ PP 0 0) 0 0 (h2) 2 [some (rv r), some (rv a), some (.int (nI d)), some (.int (nI n)), none] [] := by
    intro fuel2
    induction fuel2 with
    | zero =>
      intro h2 j n cd2 hm2
      exact absurd hm2 (Nat.not_lt_zero _)
    | succ fuel2 ih2 =>
      intro h2 j n cd2 hm2 F2 S2 ij nj b2 to2
      have hS0 := hS
      have hS := S2
      have hj := S2.2.2.2.2.2.1
      refine r_iload_n (q := 3) (z := 3) C 3 rfl (by decide +kernel) rfl rfl ?_
      refine r_sipush (q := 6) (z := 600) (v := 600) C rfl (by decide +kernel) (by decide) ?_
      refine r_icmp_ge (q := 9) (off := 98) (tgt := 104) C rfl (by decide +kernel) (by decide) (fun c6 => ?_) (fun c6 => ?_)
      · exact absurd ((nI_leI (a := 600) (by omega) (by omega)).mp c6) (by omega)
      · have J66 : ∀ (h4 : HP) (j4 : Nat) (cd4 : Cd), (FdL k a h h4) → (RSt T k r a lw b j4 cd4 h4) → (j < j4) → (tot lw + cd4.length + pnd ((0, 0, aw n) :: t) ≤ j4) → (∀ x, RO T (stA T j4 (aw n) t cd4) x → RR T (true, i, (0, 0, 0) :: t, cd) x) → wX G Γ (qM G Γ PP 0 0) 0 0 (h4) 66 [some (rv r), some (rv a), some (.int (nI d)), some (.int (nI n)), none] [] := by
          intro h4 j4 cd4 F4 S4 ij4 b4 to4
          have hS := S4
          have hj4 := S4.2.2.2.2.2.1
          rw [pnd_aw] at b4
          have J77 : ∀ (h5 : HP) (cd5 : Cd), (FdL k a h h5) → (RSt T k r a lw b j4 cd5 h5) → (tot lw + cd5.length + pnd t ≤ j4) → (cd5 = fl (aw n) cd4) → wX G Γ (qM G Γ PP 0 0) 0 0 (h5) 77 [some (rv r), some (rv a), some (.int (nI d)), some (.int (nI n)), none] [] := by
            intro h5 cd5 F5 Q5 b5 e5
            have hS := Q5
            have kl : T.kd j4 < 2 ^ 31 := kdlt hTW j4
            refine r_aload_n (q := 78) (z := 0) C 0 rfl (by decide +kernel) rfl rfl ?_
            refine cV0I (q := 81) C R rfl (by decide +kernel) lk_X2_106 (c_X2_kind Q5.1 Q5.2.2.2.1 Q5.2.2.2.2.1 Q5.2.2.2.2.2.1) (by omega) (by decide) (by decide) rfl (by first | exact Nat.le_of_ble_eq_true rfl | (simp only [List.map_cons, List.map_nil, List.sum_cons, List.sum_nil, rv_cat]; exact Nat.le_of_ble_eq_true rfl)) rfl hS.1.1 ?_
            rintro _ _ ⟨rfl, rfl⟩
            refine r_bipush (q := 83) (z := 6) (v := 6) C rfl (by decide +kernel) (by decide) ?_
            refine r_icmp_eq (q := 86) (off := 5) (tgt := 88) C rfl (by decide +kernel) (by decide) (fun c83 => ?_) (fun c83 => ?_)
            · have k46 : T.kd j4 = 6 := (nI_eq (b := 6) kl (by decide)).mp c83
              have hj41 : j4 + 1 ≤ T.N := hTW.lt hj4 (by omega)
              refine r_aload_n (q := 89) (z := 0) C 0 rfl (by decide +kernel) rfl rfl ?_
              refine r_dup (q := 90) C rfl (by decide +kernel) (by first | rfl | exact rv_cat _) ?_
              refine r_getI (q := 93) C 2 4 132 rfl (by decide +kernel) rfl (by decide) rfl rfl wf_X2_25 win2 Q5.1.1 ?_
              rw [Q5.2.2.2.2.1]
              refine r_iconst (q := 94) (z := 1) (v := 1) C rfl (by decide +kernel) (by decide) ?_
              refine r_iadd (q := 95) C rfl (by decide +kernel) ?_
              rw [nI_1]
              refine r_putI (q := 98) C 2 4 132 rfl (by decide +kernel) rfl (by decide) rfl rfl wf_X2_25 win2 tyX2 tyX2_ok nmX2 rfl (tyX2_ok 4 (by decide)) rfl wnd2 rfl rfl Q5.1.1 ?_
              refine r_iinc (q := 101) (z := 1) (v := 1) C 3 rfl (by decide +kernel) rfl (by decide) (by decide) (by first | rfl | exact okst_rv rfl) ?_
              dsimp only [List.set]
              rw [nI_1]
              refine r_goto (off := -99) (tgt := 2) C (by decide +kernel) (by decide) ?_
              exact wX.sub (lsub_s (lsub_s (lsub_s (lsub_s (lsub_n (lsub_nil)))))) (ih2 _ (j4 + 1) (n + 1) cd5 (by omega) (FdL.rd F5 (Or.inl rfl)) (Q5.adv hj41) (by omega) (by omega) (by rw [aw_s, pnd_aw]; show _ + (1 + _) ≤ _; omega) (by rw [aw_s]; exact fun x hx => to4 x (by rw [stA_6 k46, ← e5]; exact hx)))
            · have k46 : T.kd j4 ≠ 6 := fun q => c83 (by rw [q]; rfl)
              refine r_iconst (q := 87) (z := 1) (v := 1) C rfl (by decide +kernel) (by decide) ?_
              exact r_zret C (by decide +kernel) rfl (by first | decide | exact b2i_nar _) (by decide) (by decide) (eqP hPP ⟨_, rfl, ⟨F5, Or.inl ⟨rfl, j4, cd5, by omega, Q5, b5, k46, fun x hx => to4 x (by rw [stA_0 k46, ← e5]; exact hx)⟩⟩⟩)
          refine r_iload_n (q := 67) (z := 3) C 3 rfl (by decide +kernel) rfl rfl ?_
          refine r_if_le (q := 70) (off := 10) (tgt := 77) C rfl (by decide +kernel) (by decide) (fun c67 => ?_) (fun c67 => ?_)
          · have n0 : n = 0 := by
              rcases Nat.eq_zero_or_pos n with q | q
              · exact q
              · exact absurd c67 (nI_nle q (by omega))
            exact wX.sub (lsub_s (lsub_s (lsub_s (lsub_s (lsub_n (lsub_nil)))))) (J77 h4 cd4 F4 S4 (by omega) (by rw [n0]; rfl))
          · have n0 : 0 < n := by
              rcases Nat.eq_zero_or_pos n with q | q
              · rw [q] at c67; exact absurd (by decide) c67
              · exact q
            have b4 := b4
            rw [aw_p n0, show nz 7 = 1 from rfl] at b4
            refine r_aload_n (q := 71) (z := 1) C 1 rfl (by decide +kernel) rfl rfl ?_
            refine r_bipush (q := 73) (z := 6) (v := nI 6) C rfl (by decide +kernel) (by decide) ?_
            refine r_iconst (q := 74) (z := 0) (v := nI 0) C rfl (by decide +kernel) (by decide) ?_
            refine cV2V (q := 77) C R rfl (by decide +kernel) lk_X2_130 (c_X1_add S4.2.2.1.1 S4.2.2.1.2.2.1.1 (by omega) S4.c65) (by omega) (by decide) (by decide) rfl (by first | exact Nat.le_of_ble_eq_true rfl | (simp only [List.map_cons, List.map_nil, List.sum_cons, List.sum_nil, rv_cat]; exact Nat.le_of_ble_eq_true rfl)) rfl S4.2.2.1.1 ?_
            rintro _ rfl
            exact wX.sub (lsub_s (lsub_s (lsub_s (lsub_s (lsub_n (lsub_nil)))))) (J77 _ (cd4 ++ [(6 + 1, 0)]) (FdL.ad S4.2.2.1 F4) (S4.add (o := 6) (v := 0) (by omega)) (by simp; omega) (by rw [aw_p n0]; rfl))
        refine r_aload_n (q := 10) (z := 0) C 0 rfl (by decide +kernel) rfl rfl ?_
        refine r_aload_n (q := 11) (z := 1) C 1 rfl (by decide +kernel) rfl rfl ?_
        refine r_iload_n (q := 12) (z := 2) C 2 rfl (by decide +kernel) rfl rfl ?_
        refine cV2I (q := 15) C R rfl (by decide +kernel) lk_X2_127 (HSm h2 j 0 (aw n) cd2 S2 b2) (by omega) (by decide) (by decide) rfl (by first | exact Nat.le_of_ble_eq_true rfl | (simp only [List.map_cons, List.map_nil, List.sum_cons, List.sum_nil, rv_cat]; exact Nat.le_of_ble_eq_true rfl)) rfl hS.1.1 ?_
        rintro v12 h12 ⟨F12, X12⟩
        refine r_if_ne (q := 18) (off := 5) (tgt := 20) C rfl (by decide +kernel) (by decide) (fun c15 => ?_) (fun c15 => ?_)
        · obtain ⟨-, j3, cd3, ij3, S3, b3, to3, k2, k3⟩ := X12.resolve_right (fun e => c15 e.1)
          have hj3 := S3.2.2.2.2.2.1
          have kl : T.kd j3 < 2 ^ 31 := kdlt hTW j3
          refine r_aload_n (q := 21) (z := 0) C 0 rfl (by decide +kernel) rfl rfl ?_
          refine cV0I (q := 24) C R rfl (by decide +kernel) lk_X2_106 (c_X2_kind S3.1 S3.2.2.2.1 S3.2.2.2.2.1 S3.2.2.2.2.2.1) (by omega) (by decide) (by decide) rfl (by first | exact Nat.le_of_ble_eq_true rfl | (simp only [List.map_cons, List.map_nil, List.sum_cons, List.sum_nil, rv_cat]; exact Nat.le_of_ble_eq_true rfl)) rfl S3.1.1 ?_
          rintro _ _ ⟨rfl, rfl⟩
          refine r_istore (q := 26) C 4 rfl (by decide +kernel) (by decide) (by first | rfl | exact okst_rv rfl) ?_
          dsimp only [List.set]
          have J38 : (T.kd j3 = 4 ∨ T.kd j3 = 5) → wX G Γ (qM G Γ PP 0 0) 0 0 (h12) 38 [some (rv r), some (rv a), some (.int (nI d)), some (.int (nI n)), some (.int (nI (T.kd j3)))] [] := by
            intro  h45
            have hj1 : j3 + 1 ≤ T.N := hTW.lt hj3 (by omega)
            have m1 := m_cm (q := aw n) (t := t) (cd := cd3) h45
            refine r_aload_n (q := 39) (z := 0) C 0 rfl (by decide +kernel) rfl rfl ?_
            refine r_dup (q := 40) C rfl (by decide +kernel) (by first | rfl | exact rv_cat _) ?_
            refine r_getI (q := 43) C 2 4 132 rfl (by decide +kernel) rfl (by decide) rfl rfl wf_X2_25 win2 S3.1.1 ?_
            rw [S3.2.2.2.2.1]
            refine r_iconst (q := 44) (z := 1) (v := 1) C rfl (by decide +kernel) (by decide) ?_
            refine r_iadd (q := 45) C rfl (by decide +kernel) ?_
            rw [nI_1]
            refine r_putI (q := 48) C 2 4 132 rfl (by decide +kernel) rfl (by decide) rfl rfl wf_X2_25 win2 tyX2 tyX2_ok nmX2 rfl (tyX2_ok 4 (by decide)) rfl wnd2 rfl rfl S3.1.1 ?_
            refine r_aload_n (q := 49) (z := 0) C 0 rfl (by decide +kernel) rfl rfl ?_
            refine r_aload_n (q := 50) (z := 1) C 1 rfl (by decide +kernel) rfl rfl ?_
            refine r_iload_n (q := 51) (z := 2) C 2 rfl (by decide +kernel) rfl rfl ?_
            refine cV2I (q := 54) C R rfl (by decide +kernel) lk_X2_127 (HSm _ (j3 + 1) (T.kd j3 + 1) (aw n) cd3 (S3.adv hj1) (by rw [pnd_cm]; omega)) (by omega) (by decide) (by decide) rfl (by first | exact Nat.le_of_ble_eq_true rfl | (simp only [List.map_cons, List.map_nil, List.sum_cons, List.sum_nil, rv_cat]; exact Nat.le_of_ble_eq_true rfl)) rfl S3.1.1 ?_
            rintro v51 h51 ⟨F51, X51⟩
            refine r_if_ne (q := 57) (off := 5) (tgt := 59) C rfl (by decide +kernel) (by decide) (fun c54 => ?_) (fun c54 => ?_)
            · obtain ⟨-, j6, cd6, ij6, S6, b6, to6, k62, k63⟩ := X51.resolve_right (fun e => c54 e.1)
              have hj6 := S6.2.2.2.2.2.1
              rw [pnd_cm] at b6
              refine r_aload_n (q := 60) (z := 1) C 1 rfl (by decide +kernel) rfl rfl ?_
              refine r_iload (q := 62) C 4 rfl (by decide +kernel) rfl ?_
              refine r_iconst (q := 63) (z := 0) (v := nI 0) C rfl (by decide +kernel) (by decide) ?_
              refine cV2V (q := 66) C R rfl (by decide +kernel) lk_X2_130 (c_X1_add S6.2.2.1.1 S6.2.2.1.2.2.1.1 (by omega) S6.c65) (by omega) (by decide) (by decide) rfl (by first | exact Nat.le_of_ble_eq_true rfl | (simp only [List.map_cons, List.map_nil, List.sum_cons, List.sum_nil, rv_cat]; exact Nat.le_of_ble_eq_true rfl)) rfl S6.2.2.1.1 ?_
              rintro _ rfl
              exact wX.sub (lsub_s (lsub_s (lsub_s (lsub_s (lsub_n (lsub_nil)))))) (J66 _ j6 (cd6 ++ [(T.kd j3 + 1, 0)]) (FdL.ad S6.2.2.1 (FdL.tr (FdL.rd (F2.tr F12) (Or.inl rfl)) F51)) (S6.add (o := T.kd j3) (v := 0) (by omega)) (by omega) (by simp; omega) (fun x hx => to2 x (to3 x (RR.st m1 (to6 x (RO.rr (by rw [m_g k62 k63]; exact hx)))))))
            · obtain ⟨-, f8, hf8, hg8⟩ := X51.resolve_left (fun e => by rw [e.1] at c54; exact absurd c54 (by decide))
              refine r_iconst (q := 58) (z := 0) (v := 0) C rfl (by decide +kernel) (by decide) ?_
              exact r_zret C (by decide +kernel) rfl (by first | decide | exact b2i_nar _) (by decide) (by decide) (eqP hPP ⟨_, rfl, ⟨FdL.tr (FdL.rd (F2.tr F12) (Or.inl rfl)) F51, Or.inr ⟨rfl, f8, to2 _ (to3 _ (RR.st m1 hf8)), hg8⟩⟩⟩)
          refine r_iload (q := 28) C 4 rfl (by decide +kernel) rfl ?_
          refine r_iconst (q := 29) (z := 4) (v := 4) C rfl (by decide +kernel) (by decide) ?_
          refine r_icmp_eq (q := 32) (off := 9) (tgt := 38) C rfl (by decide +kernel) (by decide) (fun c29 => ?_) (fun c29 => ?_)
          · exact J38 (Or.inl ((nI_eq (b := 4) kl (by decide)).mp c29))
          · have k4 : ¬ T.kd j3 = 4 := fun q => c29 (by rw [q]; rfl)
            refine r_iload (q := 34) C 4 rfl (by decide +kernel) rfl ?_
            refine r_iconst (q := 35) (z := 5) (v := 5) C rfl (by decide +kernel) (by decide) ?_
            refine r_icmp_ne (q := 38) (off := 31) (tgt := 66) C rfl (by decide +kernel) (by decide) (fun c35 => ?_) (fun c35 => ?_)
            · have k5 : ¬ T.kd j3 = 5 := fun q => c35 (by rw [q]; rfl)
              exact wX.sub (lsub_s (lsub_s (lsub_s (lsub_s (lsub_n (lsub_nil)))))) (J66 h12 j3 cd3 (F2.tr F12) S3 ij3 b3 (fun x hx => to2 x (to3 x (RO.rr (by rw [m_n k2 k3 k4 k5]; exact hx)))))
            · exact J38 (Or.inr ((nI_eq (b := 5) kl (by decide)).mp c35))
        · obtain ⟨-, f8, hf8, hg8⟩ := X12.resolve_left (fun e => by rw [e.1] at c15; exact absurd c15 (by decide))
          refine r_iconst (q := 19) (z := 0) (v := 0) C rfl (by decide +kernel) (by decide) ?_
          exact r_zret C (by decide +kernel) rfl (by first | decide | exact b2i_nar _) (by decide) (by decide) (eqP hPP ⟨_, rfl, ⟨F2.tr F12, Or.inr ⟨rfl, f8, to2 _ hf8, hg8⟩⟩⟩)
  exact wX.sub (lsub_s (lsub_s (lsub_s (lsub_s (lsub_n (lsub_nil)))))) (L2 (T.N - i + 1) h i 0 cd (Nat.lt_succ_self _) FdL.rf hS (Nat.le_refl _) hi1 (by rw [pnd_aw]; show _ + (0 + _) ≤ _; omega) (fun x hx => hx))
theorem rd_all {G : GT} {k r a : Nat} {T : TT} {lw : LW} {b : Bool} : ∀ e d, d + e = 5 →
    (∀ (h : HP) (i : Nat) (fs : Fs) (cd : Cd), RSt T k r a lw b i cd h → fs.length = d + 1 → tot lw + cd.length + pnd fs ≤ i → Con G (3 * e + 3) 0 0 yX2_readPart cX2_readPart 4 (some .boolean) [rv r, rv a, .int (nI d)] h (PI (rP1 T k r a lw b i fs cd h))) ∧
    (∀ (t : Fs), t.length = d → ∀ (h : HP) (i g q : Nat) (cd : Cd), RSt T k r a lw b i cd h → tot lw + cd.length + pnd ((0, g, q) :: t) ≤ i → Con G (3 * e + 4) 0 0 yX2_readSum cX2_readSum 5 (some .boolean) [rv r, rv a, .int (nI d)] h (PI (rP2 T k r a lw b i ((0, g, q) :: t) cd h))) ∧
    (∀ (t : Fs), t.length = d → ∀ (h : HP) (i : Nat) (cd : Cd), RSt T k r a lw b i cd h → 1 ≤ i → tot lw + cd.length + pnd t ≤ i → Con G (3 * e + 5) 0 0 yX2_readTests cX2_readTests 5 (some .boolean) [rv r, rv a, .int (nI d)] h (PI (rP3 T k r a lw b i t cd h)))
  | e, d, hde => by
    have P : ∀ (h : HP) (i : Nat) (fs : Fs) (cd : Cd), RSt T k r a lw b i cd h → fs.length = d + 1 → tot lw + cd.length + pnd fs ≤ i → Con G (3 * e + 3) 0 0 yX2_readPart cX2_readPart 4 (some .boolean) [rv r, rv a, .int (nI d)] h (PI (rP1 T k r a lw b i fs cd h)) := by
      intro h i fs cd hS hd hb
      cases e with
      | zero => exact c_X2_readPart (le := 2) hS hd (by omega) hb (by omega) (fun q => absurd q (by omega))
      | succ e =>
        rw [show 3 * (e + 1) + 3 = 3 * e + 5 + 1 by omega]
        exact c_X2_readPart (le := 3 * e + 5) hS hd (by omega) hb (by omega) (fun q h i cd hS h1 hb => (rd_all e (d + 1) (by omega)).2.2 fs hd h i cd hS h1 hb)
    have S : ∀ (t : Fs), t.length = d → ∀ (h : HP) (i g q : Nat) (cd : Cd), RSt T k r a lw b i cd h → tot lw + cd.length + pnd ((0, g, q) :: t) ≤ i → Con G (3 * e + 4) 0 0 yX2_readSum cX2_readSum 5 (some .boolean) [rv r, rv a, .int (nI d)] h (PI (rP2 T k r a lw b i ((0, g, q) :: t) cd h)) := fun t ht h i g q cd hS hb => c_X2_readSum (le := 3 * e + 3) hS ht hb (by omega) P
    exact ⟨P, S, fun t ht h i cd hS h1 hb => c_X2_readTests (le := 3 * e + 4) hS ht h1 hb (by omega) (S t ht)⟩
theorem c_rdT {G : GT} {k r a i : Nat} {T : TT} {lw : LW} {b : Bool} {cd : Cd} {h : HP} (hS : RSt T k r a lw b i cd h) (h1 : 1 ≤ i) (hb : tot lw + cd.length ≤ i) : Con G 20 0 0 yX2_readTests cX2_readTests 5 (some .boolean) [rv r, rv a, .int (nI 0)] h (PI (rP3 T k r a lw b i [] cd h)) := (rd_all 5 0 rfl).2.2 [] rfl h i cd hS h1 hb
