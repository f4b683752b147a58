/-! ===== the text: tokens, and the reading of a line as a machine ===== -/
def TT : Type := Nat × List (Nat × Nat × Nat)
def TT.kd (T : TT) (i : Nat) : Nat := match (Prod.snd T)[i]? with
  | some t => t.1
  | none => 13
def TT.vl (T : TT) (i : Nat) : Nat := match (Prod.snd T)[i]? with
  | some t => t.2.1
  | none => 0
def TT.pp (T : TT) (i : Nat) : Nat := match (Prod.snd T)[i]? with
  | some t => t.2.2
  | none => Prod.fst T
def TT.N (T : TT) : Nat := (Prod.snd T).length
/-- kinds, values and places are sound -/
def TW (T : TT) : Prop := Prod.fst T ≤ 600 ∧ T.N ≤ 600 ∧ ∀ t ∈ (Prod.snd T), t.1 < 15 ∧ t.1 ≠ 13 ∧ (t.1 = 0 → t.2.1 < 10000) ∧ (t.1 = 1 → t.2.1 < 6) ∧ t.2.2 ≤ 600
theorem TW.end {T : TT} (h : TW T) {i : Nat} (hi : i ≤ T.N) : T.kd i = 13 ↔ i = T.N := by
  unfold TT.kd TT.N at *
  constructor
  · intro e
    rcases Nat.lt_or_ge i (Prod.snd T).length with h1 | h1
    · rw [List.getElem?_eq_getElem h1] at e
      exact absurd e (h.2.2 _ (List.getElem_mem h1)).2.1
    · omega
  · intro e
    rw [List.getElem?_eq_none (by omega)]
theorem TW.lt {T : TT} (h : TW T) {i : Nat} (hi : i ≤ T.N) (hk : T.kd i ≠ 13) : i < T.N := by
  rcases Nat.lt_or_ge i T.N with e | e
  · exact e
  · exact absurd ((h.end hi).mpr (by omega)) hk
theorem TW.pl {T : TT} (h : TW T) (i : Nat) : T.pp i ≤ 600 := by
  unfold TT.pp
  cases e : (Prod.snd T)[i]? with
  | none => exact h.1
  | some t => exact (h.2.2 t (List.mem_of_getElem? e)).2.2.2.2
theorem TW.v0 {T : TT} (h : TW T) {i : Nat} (hk : T.kd i = 0) : T.vl i < 10000 := by
  unfold TT.kd at hk; unfold TT.vl
  cases e : (Prod.snd T)[i]? with
  | none => decide
  | some t => rw [e] at hk; exact (h.2.2 t (List.mem_of_getElem? e)).2.2.1 hk
theorem TW.v1 {T : TT} (h : TW T) {i : Nat} (hk : T.kd i = 1) : T.vl i < 6 := by
  unfold TT.kd at hk; unfold TT.vl
  cases e : (Prod.snd T)[i]? with
  | none => decide
  | some t => rw [e] at hk; exact (h.2.2 t (List.mem_of_getElem? e)).2.2.2.1 hk
theorem TW.k15 {T : TT} (h : TW T) (i : Nat) : T.kd i < 15 := by
  unfold TT.kd
  cases e : (Prod.snd T)[i]? with
  | none => decide
  | some t => exact (h.2.2 t (List.mem_of_getElem? e)).1
abbrev Cd : Type := List (Nat × Nat)
abbrev Fs : Type := List (Nat × Nat × Nat)
/-- reading a part or behind one; where; what waits on each level, the innermost first; the code so far -/
abbrev CF : Type := Bool × Nat × Fs × Cd
/-- a fault, or the end: where, and the code -/
abbrev RE : Type := Sum Nat (Nat × Cd)
def fq (T : TT) (k at_ : Nat) : Nat := k + 16 * T.pp at_
def fl (w : Nat) (cd : Cd) : Cd := if w = 0 then cd else cd ++ [(w, 0)]
def stP (T : TT) (i : Nat) (fs : Fs) (cd : Cd) : Sum CF RE :=
  if T.kd i = 0 ∨ T.kd i = 1 ∨ T.kd i = 7 then
    (if 6 ≤ fs.length then .inr (.inl (fq T 5 i))
     else if T.kd i = 7 then .inl (true, i + 1, (0, 0, 0) :: fs, cd)
     else .inl (false, i + 1, fs, cd ++ [(T.kd i + 1, T.vl i)]))
  else .inr (.inl (fq T 1 i))
/-- behind the tests -/
def stA (T : TT) (i a : Nat) (t : Fs) (cd : Cd) : Sum CF RE :=
  if T.kd i = 6 then .inl (true, i + 1, (0, 0, 7) :: t, fl a cd)
  else match t with
    | [] => .inr (.inr (i, fl a cd))
    | _ :: _ => if T.kd i = 8 then .inl (false, i + 1, t, fl a cd) else .inr (.inl (fq T 1 i))
def stB (T : TT) (i : Nat) (fs : Fs) (cd : Cd) : Sum CF RE := match fs with
  | [] => .inr (.inr (i, cd))
  | (s, g, a) :: t =>
    if T.kd i = 2 ∨ T.kd i = 3 then .inl (true, i + 1, (T.kd i + 1, g, a) :: t, fl s cd)
    else if g = 0 ∧ (T.kd i = 4 ∨ T.kd i = 5) then .inl (true, i + 1, (0, T.kd i + 1, a) :: t, fl s cd)
    else stA T i a t (fl g (fl s cd))
def mst (T : TT) (c : CF) : Sum CF RE := if c.1 then stP T c.2.1 c.2.2.1 c.2.2.2 else stB T c.2.1 c.2.2.1 c.2.2.2
def run (T : TT) : Nat → CF → Option RE
  | 0, _ => none
  | n + 1, c => match mst T c with
    | .inl c' => run T n c'
    | .inr r => some r
def RR (T : TT) (c : CF) (r : RE) : Prop := ∃ n, run T n c = some r
theorem RR.st {T : TT} {c c' : CF} {r : RE} (h : mst T c = .inl c') (hr : RR T c' r) : RR T c r := by
  obtain ⟨n, hn⟩ := hr
  exact ⟨n + 1, by simp only [run, h]; exact hn⟩
theorem RR.en {T : TT} {c : CF} {r : RE} (h : mst T c = .inr r) : RR T c r := ⟨1, by simp only [run, h]⟩
theorem run_one {T : TT} : ∀ {n k : Nat} {c : CF} {r r' : RE}, run T n c = some r → run T k c = some r' → r = r'
  | 0, _, _, _, _, h, _ => by cases h
  | _ + 1, 0, _, _, _, _, h => by cases h
  | n + 1, k + 1, c, r, r', h, h' => by
    simp only [run] at h h'
    cases e : mst T c with
    | inl c' => rw [e] at h h'; exact run_one h h'
    | inr r0 => rw [e] at h h'; cases h; cases h'; rfl
theorem RR.one {T : TT} {c : CF} {r r' : RE} (h : RR T c r) (h' : RR T c r') : r = r' := by
  obtain ⟨n, hn⟩ := h
  obtain ⟨k, hk⟩ := h'
  exact run_one hn hk
theorem RR.congr {T : TT} {c c' : CF} {r : RE} (e : mst T c = mst T c') (h : RR T c' r) : RR T c r := by
  cases e2 : mst T c' with
  | inl c2 =>
    refine RR.st (e.trans e2) ?_
    obtain ⟨n, hn⟩ := h
    cases n with
    | zero => cases hn
    | succ n => simp only [run, e2] at hn; exact ⟨n, hn⟩
  | inr r2 => rw [RR.one h (RR.en e2)]; exact RR.en (e.trans e2)
/-- what a step leads to -/
def RO (T : TT) (x : Sum CF RE) (r : RE) : Prop := match x with
  | .inl c => RR T c r
  | .inr r' => r = r'
theorem RO.rr {T : TT} {c : CF} {r : RE} (h : RO T (mst T c) r) : RR T c r := by
  cases e : mst T c with
  | inl c' => rw [e] at h; exact RR.st e h
  | inr r' => rw [e] at h; rw [show r = r' from h]; exact RR.en e
theorem fl_0 (cd : Cd) : fl 0 cd = cd := rfl
theorem stB_s {T : TT} {i s g a : Nat} {t : Fs} {cd : Cd} : mst T (false, i, (s, g, a) :: t, cd) = mst T (false, i, (0, g, a) :: t, fl s cd) := rfl
/-! how high the pile is -/
def hst (h : Option Nat) (x : Nat × Nat) : Option Nat := match h with
  | none => none
  | some n => if x.1 = 1 ∧ x.2 < 10000 ∨ x.1 = 2 ∧ x.2 < 6 then (if n < 16 then some (n + 1) else none) else if 3 ≤ x.1 ∧ x.1 ≤ 7 ∧ x.2 = 0 ∧ 2 ≤ n then some (n - 1) else none
def hgt (cd : Cd) : Option Nat := cd.foldl hst (some 0)
theorem hgt_s (cd : Cd) (x : Nat × Nat) : hgt (cd ++ [x]) = hst (hgt cd) x := by unfold hgt; rw [List.foldl_append]; rfl
def nz (w : Nat) : Nat := if w = 0 then 0 else 1
def pnd : Fs → Nat
  | [] => 0
  | f :: t => nz f.1 + nz f.2.1 + nz f.2.2 + pnd t
def fok (f : Nat × Nat × Nat) : Prop := (f.1 = 0 ∨ f.1 = 3 ∨ f.1 = 4) ∧ (f.2.1 = 0 ∨ f.2.1 = 5 ∨ f.2.1 = 6) ∧ (f.2.2 = 0 ∨ f.2.2 = 7)
theorem nz_le (w : Nat) : nz w ≤ 1 := by unfold nz; split <;> omega
theorem pnd_le : ∀ fs : Fs, pnd fs ≤ 3 * fs.length
  | [] => Nat.le_refl _
  | f :: t => by
    have := pnd_le t
    have := nz_le f.1
    have := nz_le f.2.1
    have := nz_le f.2.2
    simp only [pnd, List.length_cons]; omega
theorem hgt_fl {w n : Nat} {cd : Cd} (hw : w = 0 ∨ 3 ≤ w ∧ w ≤ 7) (h : hgt cd = some (n + nz w)) (hn : 1 ≤ n) : hgt (fl w cd) = some n := by
  unfold fl nz at *
  by_cases e : w = 0
  · rw [if_pos e] at h ⊢; exact h
  · rw [if_neg e] at h ⊢
    rw [hgt_s, h]
    unfold hst
    simp only
    rw [if_neg (by omega), if_pos (by refine ⟨by omega, by omega, ?_, by omega⟩; trivial)]
    rfl
def cok (c : CF) : Prop := c.2.2.1 ≠ [] ∧ c.2.2.1.length ≤ 6 ∧ (∀ f ∈ c.2.2.1, fok f) ∧ hgt c.2.2.2 = some (pnd c.2.2.1 + (if c.1 then 0 else 1))
theorem nz_0 : nz 0 = 0 := rfl
theorem nz_p {w : Nat} (h : 0 < w) : nz w = 1 := if_neg (by omega)
theorem cok_A {T : TT} {i a : Nat} {t : Fs} {cd : Cd} (ht : t.length ≤ 5) (hf : ∀ f ∈ t, fok f) (ha : a = 0 ∨ a = 7) (hh : hgt cd = some (nz a + pnd t + 1)) :
    (∀ c, stA T i a t cd = .inl c → cok c) ∧ ∀ j cd', stA T i a t cd = .inr (.inr (j, cd')) → hgt cd' = some 1 := by
  have h3 : hgt (fl a cd) = some (pnd t + 1) := hgt_fl (by omega) (by rw [hh]; congr 1; omega) (by omega)
  unfold stA
  by_cases e : T.kd i = 6
  · rw [if_pos e]
    refine ⟨fun c hc => ?_, fun j cd' hc => (by cases hc)⟩
    cases hc
    refine ⟨by simp, by simp; omega, fun f hf' => ?_, ?_⟩
    · rcases List.mem_cons.mp hf' with e | e
      · subst e; exact ⟨Or.inl rfl, Or.inl rfl, Or.inr rfl⟩
      · exact hf f e
    · show hgt (fl a cd) = _
      rw [h3]
      simp only [pnd, nz]; congr 1; simp; omega
  · rw [if_neg e]
    cases t with
    | nil =>
      refine ⟨fun c hc => (by cases hc), fun j cd' hc => ?_⟩
      cases hc
      rw [h3]; rfl
    | cons f t =>
      by_cases e8 : T.kd i = 8
      · simp only [e8, if_true]
        refine ⟨fun c hc => ?_, fun j cd' hc => (by cases hc)⟩
        cases hc
        exact ⟨by simp, by simp at ht ⊢; omega, hf, by rw [h3]; rfl⟩
      · simp only [e8, if_false]
        exact ⟨fun c hc => (by cases hc), fun j cd' hc => (by cases hc)⟩
theorem cok_st {T : TT} (hT : TW T) {c : CF} (h : cok c) : (∀ c', mst T c = .inl c' → cok c') ∧ ∀ j cd', mst T c = .inr (.inr (j, cd')) → hgt cd' = some 1 := by
  obtain ⟨ph, i, fs, cd⟩ := c
  obtain ⟨h1, h2, h3, h4⟩ := h
  simp only at h1 h2 h3 h4
  cases ph with
  | true =>
    show (∀ c', stP T i fs cd = .inl c' → cok c') ∧ ∀ j cd', stP T i fs cd = .inr (.inr (j, cd')) → hgt cd' = some 1
    unfold stP
    have hp := pnd_le fs
    split
    · rename_i ho
      split
      · exact ⟨fun c hc => (by cases hc), fun j cd' hc => (by cases hc)⟩
      · rename_i h6
        split
        · rename_i e7
          refine ⟨fun c hc => ?_, fun j cd' hc => (by cases hc)⟩
          cases hc
          refine ⟨by simp, by simp; omega, fun f hf' => ?_, by rw [h4]; simp only [pnd, nz]; simp⟩
          rcases List.mem_cons.mp hf' with e | e
          · subst e; exact ⟨Or.inl rfl, Or.inl rfl, Or.inl rfl⟩
          · exact h3 f e
        · rename_i e7
          refine ⟨fun c hc => ?_, fun j cd' hc => (by cases hc)⟩
          cases hc
          refine ⟨h1, h2, h3, ?_⟩
          show hgt (cd ++ [(T.kd i + 1, T.vl i)]) = _
          rw [hgt_s, h4]
          unfold hst
          simp only
          rw [if_pos (by
            rcases ho with e | e | e
            · exact Or.inl ⟨by omega, hT.v0 e⟩
            · exact Or.inr ⟨by omega, hT.v1 e⟩
            · exact absurd e e7)]
          simp
          omega
    · exact ⟨fun c hc => (by cases hc), fun j cd' hc => (by cases hc)⟩
  | false =>
    show (∀ c', stB T i fs cd = .inl c' → cok c') ∧ ∀ j cd', stB T i fs cd = .inr (.inr (j, cd')) → hgt cd' = some 1
    cases fs with
    | nil => exact absurd rfl h1
    | cons f t =>
      obtain ⟨s, g, a⟩ := f
      have hf := h3 (s, g, a) List.mem_cons_self
      obtain ⟨f1, f2, f3⟩ := hf
      simp only at f1 f2 f3
      simp only [List.length_cons] at h2
      have h4' : hgt cd = some (nz s + nz g + nz a + pnd t + 1) := h4
      have k1 : hgt (fl s cd) = some (nz g + nz a + pnd t + 1) := hgt_fl (by omega) (by rw [h4']; congr 1; omega) (by omega)
      have k2 : hgt (fl g (fl s cd)) = some (nz a + pnd t + 1) := hgt_fl (by omega) (by rw [k1]; congr 1; omega) (by omega)
      have ht : ∀ f ∈ t, fok f := fun f hf => h3 f (List.mem_cons_of_mem _ hf)
      unfold stB
      simp only
      split
      · rename_i hk
        refine ⟨fun c hc => ?_, fun j cd' hc => (by cases hc)⟩
        cases hc
        refine ⟨by simp, by simp; omega, fun f hf' => ?_, ?_⟩
        · rcases List.mem_cons.mp hf' with e | e
          · subst e; exact ⟨by simp only; omega, f2, f3⟩
          · exact ht f e
        · show hgt (fl s cd) = _
          rw [k1]
          simp only [pnd]
          rw [nz_p (w := T.kd i + 1) (by omega)]; congr 1; simp; omega
      · split
        · rename_i hk
          refine ⟨fun c hc => ?_, fun j cd' hc => (by cases hc)⟩
          cases hc
          refine ⟨by simp, by simp; omega, fun f hf' => ?_, ?_⟩
          · rcases List.mem_cons.mp hf' with e | e
            · subst e; exact ⟨Or.inl rfl, by simp only; omega, f3⟩
            · exact ht f e
          · show hgt (fl s cd) = _
            rw [k1, hk.1]
            simp only [pnd]
            rw [nz_p (w := T.kd i + 1) (by omega)]; congr 1; simp [nz]; omega
        · exact cok_A (by omega) ht f3 k2
theorem run_ok {T : TT} (hT : TW T) : ∀ {n : Nat} {c : CF} {j : Nat} {cd : Cd}, cok c → run T n c = some (.inr (j, cd)) → hgt cd = some 1
  | 0, _, _, _, _, h => by cases h
  | n + 1, c, j, cd, hc, h => by
    simp only [run] at h
    cases e : mst T c with
    | inl c' => rw [e] at h; exact run_ok hT ((cok_st hT hc).1 c' e) h
    | inr r => rw [e] at h; cases h; exact (cok_st hT hc).2 j cd e
/-- a line's code is sound -/
theorem RR.ok {T : TT} (hT : TW T) {i j : Nat} {cd : Cd} (h : RR T (true, i, [(0, 0, 0)], []) (.inr (j, cd))) : hgt cd = some 1 := by
  obtain ⟨n, hn⟩ := h
  exact run_ok hT ⟨by simp, by simp, fun f hf => by rw [List.mem_singleton] at hf; subst hf; exact ⟨Or.inl rfl, Or.inl rfl, Or.inl rfl⟩, rfl⟩ hn
abbrev LW : Type := List (Bool × Cd)
/-- the reading of a whole text: the lines so far, from where on -/
def TXn (T : TT) : Nat → Nat → LW → Sum Nat LW → Prop
  | 0, _, _, _ => False
  | n + 1, i, lw, r => (T.kd i = 13 ∧ r = .inr lw) ∨ (T.kd i ≠ 13 ∧ T.kd i ≠ 10 ∧ T.kd i ≠ 11 ∧ r = .inl (fq T 1 i)) ∨ ((T.kd i = 10 ∨ T.kd i = 11) ∧ ((16 ≤ lw.length ∧ r = .inl (fq T 5 i)) ∨ (lw.length < 16 ∧ ((T.kd (i + 1) ≠ 12 ∧ r = .inl (fq T 1 (i + 1))) ∨ (T.kd (i + 1) = 12 ∧ ∃ x, RR T (true, i + 2, [(0, 0, 0)], []) x ∧ ((∃ f, x = .inl f ∧ r = .inl f) ∨ ∃ j cd, x = .inr (j, cd) ∧ ((T.kd j ≠ 9 ∧ r = .inl (fq T 1 j)) ∨ (T.kd j = 9 ∧ TXn T n (j + 1) (lw ++ [(decide (T.kd i = 11), cd)]) r))))))))
theorem TXn_one {T : TT} : ∀ {n k i : Nat} {lw : LW} {r r' : Sum Nat LW}, TXn T n i lw r → TXn T k i lw r' → r = r'
  | 0, _, _, _, _, _, h, _ => h.elim
  | _ + 1, 0, _, _, _, _, _, h => h.elim
  | n + 1, k + 1, i, lw, r, r', h, h' => by
    simp only [TXn] at h h'
    rcases h with ⟨a, rfl⟩ | ⟨a1, a2, a3, rfl⟩ | ⟨a, h⟩ <;> rcases h' with ⟨b, rfl⟩ | ⟨b1, b2, b3, rfl⟩ | ⟨b, h'⟩ <;> try first | rfl | omega
    rcases h with ⟨c, rfl⟩ | ⟨c, h⟩ <;> rcases h' with ⟨d, rfl⟩ | ⟨d, h'⟩ <;> try first | rfl | omega
    rcases h with ⟨c2, rfl⟩ | ⟨c2, x, hx, h⟩ <;> rcases h' with ⟨d2, rfl⟩ | ⟨d2, x', hx', h'⟩ <;> try first | rfl | exact absurd c2 d2 | exact absurd d2 c2
    have := RR.one hx hx'
    subst this
    rcases h with ⟨f, e1, rfl⟩ | ⟨j, cd, e1, h⟩ <;> rcases h' with ⟨f', e2, rfl⟩ | ⟨j', cd', e2, h'⟩
    · rw [e1] at e2; cases e2; rfl
    · rw [e1] at e2; cases e2
    · rw [e1] at e2; cases e2
    · rw [e1] at e2; cases e2
      rcases h with ⟨c3, rfl⟩ | ⟨c3, h⟩ <;> rcases h' with ⟨d3, rfl⟩ | ⟨d3, h'⟩ <;> try first | rfl | exact absurd c3 d3 | exact absurd d3 c3
      exact TXn_one h h'
def TX (T : TT) (i : Nat) (lw : LW) (r : Sum Nat LW) : Prop := ∃ n, TXn T n i lw r
theorem TX.one {T : TT} {i : Nat} {lw : LW} {r r' : Sum Nat LW} (h : TX T i lw r) (h' : TX T i lw r') : r = r' := by
  obtain ⟨n, hn⟩ := h
  obtain ⟨k, hk⟩ := h'
  exact TXn_one hn hk
