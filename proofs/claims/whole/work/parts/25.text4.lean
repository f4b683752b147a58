/-! ===== the tape, and its tokens ===== -/
def byt (v : Int64) (k : Nat) : Nat := v.toBitVec.toNat / 2 ^ k % 256
theorem bt_lt (v : Int64) (k : Nat) : byt v k < 256 := Nat.mod_lt _ (by decide)
theorem bt_sh {v s : Int64} {k : Nat} (hs : (s.toBitVec.smod 64).toNat = k) (hk : k ≤ 56) : ((v >>> s).toInt32 &&& 255) = nI (byt v k) := by
  rw [pk_and _ 8 (by decide)]
  have e1 : (v >>> s).toInt32.toBitVec = (v.toBitVec.sshiftRight k).signExtend 32 := by rw [← hs]; rfl
  rw [e1, BitVec.signExtend_eq_setWidth_of_le _ (by decide), BitVec.toNat_setWidth]
  unfold byt
  refine congrArg nI (Nat.eq_of_testBit_eq (fun i => ?_))
  rw [Nat.testBit_mod_two_pow, Nat.testBit_mod_two_pow, show (256 : Nat) = 2 ^ 8 from rfl, Nat.testBit_mod_two_pow, ← Nat.shiftRight_eq_div_pow, Nat.testBit_shiftRight]
  by_cases h : i < 8
  · rw [BitVec.testBit_toNat, BitVec.testBit_toNat, BitVec.getLsbD_sshiftRight, if_pos (by omega)]
    simp [h, show i < 32 by omega, show ¬ 64 ≤ i by omega]
  · simp [h]
theorem and255 {x : Int64} : x &&& 255 = lN (x.toBitVec.toNat % 256) := by
  apply Int64.toBitVec_inj.mp
  apply BitVec.eq_of_toNat_eq
  rw [Int64.toBitVec_and, BitVec.toNat_and, show ((255 : Int64).toBitVec.toNat) = 2 ^ 8 - 1 from rfl, Nat.and_two_pow_sub_one_eq_mod]
  show _ = (BitVec.ofNat 64 _).toNat
  rw [BitVec.toNat_ofNat]
  exact (Nat.mod_eq_of_lt (Nat.lt_of_le_of_lt (Nat.mod_le _ _) x.toBitVec.isLt)).symm
theorem bt_ush {v : Int64} {s : UInt64} {k : Nat} (hs : (s.toBitVec % 64).toNat = k) : ((v.toUInt64 >>> s).toInt64 &&& 255).toInt32 = nI (byt v k) := by
  rw [and255, lN_i]
  have e : (v.toUInt64 >>> s).toInt64.toBitVec = v.toBitVec >>> k := by
    rw [← hs]
    exact UInt64.toBitVec_shiftRight _ _
  rw [e, BitVec.toNat_ushiftRight, Nat.shiftRight_eq_div_pow]
  rfl
def sh8 (j : Nat) : Int32 := if j < 8 then nI (56 - 8 * j) else -8
theorem sh8_s (j : Nat) (h : j < 8) : sh8 j + -8 = sh8 (j + 1) := by
  rcases (show j = 0 ∨ j = 1 ∨ j = 2 ∨ j = 3 ∨ j = 4 ∨ j = 5 ∨ j = 6 ∨ j = 7 by omega) with e | e | e | e | e | e | e | e <;> subst e <;> decide
theorem sh8_k (j : Nat) (h : j < 8) : (((sh8 j).toInt64 &&& 63).toBitVec.smod 64).toNat = 56 - 8 * j := by
  rcases (show j = 0 ∨ j = 1 ∨ j = 2 ∨ j = 3 ∨ j = 4 ∨ j = 5 ∨ j = 6 ∨ j = 7 by omega) with e | e | e | e | e | e | e | e <;> subst e <;> decide
theorem sh8_u (j : Nat) (h : j < 8) : (((sh8 j).toInt64.toUInt64 &&& Int64.toUInt64 63).toBitVec % 64).toNat = 56 - 8 * j := by
  rcases (show j = 0 ∨ j = 1 ∨ j = 2 ∨ j = 3 ∨ j = 4 ∨ j = 5 ∨ j = 6 ∨ j = 7 by omega) with e | e | e | e | e | e | e | e <;> subst e <;> decide
theorem sh8_neg {j : Nat} : sh8 j < 0 ↔ ¬ j < 8 := by
  unfold sh8; split
  · rename_i h; exact ⟨fun e => absurd e (nI_pos (by omega)), fun e => absurd h e⟩
  · rename_i h; exact ⟨fun _ => h, fun _ => by decide⟩
def okS (c : Nat) : Prop := c = 10 ∨ 32 ≤ c ∧ c ≤ 126
theorem okS_dec (c : Nat) : okS c ∨ ¬ okS c := Classical.em _
noncomputable def addB (tp : List Nat) (c : Nat) : List Nat := cif (okS c ∧ tp.length < 600) (tp ++ [c]) tp
noncomputable def addK (tp : List Nat) (v : Int64) : Nat → List Nat
  | 0 => tp
  | j + 1 => addB (addK tp v j) (byt v (56 - 8 * j))
noncomputable def feedT (tp : List Nat) (a b c : Int64) : List Nat := addK (addK (addK tp a 8) b 8) c 8
def sg (tp : List Nat) (j : Nat) : Nat := tp.getD j 0
theorem sg_app {tp : List Nat} {c j : Nat} : sg (tp ++ [c]) j = if j = tp.length then c else sg tp j := by
  unfold sg
  rw [List.getD_eq_getElem?_getD, List.getD_eq_getElem?_getD]
  by_cases e : j = tp.length
  · rw [if_pos e, e, List.getElem?_append_right (Nat.le_refl _)]; simp
  · rw [if_neg e]
    rcases Nat.lt_or_ge j tp.length with h | h
    · rw [List.getElem?_append_left h]
    · rw [List.getElem?_append_right h, List.getElem?_eq_none (l := tp) h, List.getElem?_eq_none (by simp; omega)]
theorem sg_out {tp : List Nat} {j : Nat} (h : tp.length ≤ j) : sg tp j = 0 := by
  unfold sg; rw [List.getD_eq_getElem?_getD, List.getElem?_eq_none h]; rfl
def TpW (tp : List Nat) : Prop := tp.length ≤ 600 ∧ ∀ j, j < tp.length → okS (sg tp j)
theorem TpW.add {tp : List Nat} {c : Nat} (h : TpW tp) (hc : okS c) (hl : tp.length < 600) : TpW (tp ++ [c]) := by
  refine ⟨by simp; omega, fun j hj => ?_⟩
  rw [sg_app]
  simp at hj
  split
  · exact hc
  · exact h.2 j (by omega)
theorem TpW.addB {tp : List Nat} {c : Nat} (h : TpW tp) : TpW (addB tp c) := by
  show TpW (cif (okS c ∧ tp.length < 600) (tp ++ [c]) tp)
  by_cases e : okS c ∧ tp.length < 600
  · rw [cif_t e]; exact h.add e.1 e.2
  · rw [cif_f e]; exact h
theorem TpW.addK {tp : List Nat} {v : Int64} (h : TpW tp) : ∀ j, TpW (addK tp v j)
  | 0 => h
  | j + 1 => (TpW.addK h j).addB
theorem TpW.feed {tp : List Nat} {a b c : Int64} (h : TpW tp) : TpW (feedT tp a b c) := ((h.addK 8).addK 8).addK 8
theorem TpW.lt {tp : List Nat} (h : TpW tp) (j : Nat) : sg tp j < 127 := by
  rcases Nat.lt_or_ge j tp.length with e | e
  · have := h.2 j e; unfold okS at this; omega
  · rw [sg_out e]; decide
/-- the tape as the model holds it -/
def MT (tp : List Nat) (h : HP) (m : Nat) : Prop := TpW tp ∧ h.fi 450 m = nI tp.length ∧ ∀ j, j < tp.length → h.ai (h.fr 449 m) j = nI (sg tp j)
theorem MT.fm {tp : List Nat} {A B : List Nat} {h h' : HP} {m : Nat} (F : Fm A B h h') (hm : LM h.kd h.gl h.fr m) (hA : 449 ∉ A) (hB : 450 ∉ B) (M : MT tp h m) : MT tp h' m := by
  obtain ⟨f1, f2, f3, f4, f5, f6⟩ := F
  obtain ⟨m1, m2, m3⟩ := M
  exact ⟨m1, (f5 _ _ hB).trans m2, by rw [f2, (f6 _ (by rw [hm.g449]; exact hA)).1]; exact m3⟩
theorem MT.setI {tp : List Nat} {h : HP} {m g b : Nat} {v : Int32} (M : MT tp h m) (hg : g ≠ 450) : MT tp (h.setI g b v) m := ⟨M.1, (fi_ne (Ne.symm hg)).trans M.2.1, M.2.2⟩
theorem MT.add {tp : List Nat} {h : HP} {m c : Nat} (M : MT tp h m) (hc : okS c) (hl : tp.length < 600) : MT (tp ++ [c]) ((h.row (h.fr 449 m) (upd (h.ai (h.fr 449 m)) tp.length (nI c))).setI 450 m (nI (tp.length + 1))) m := by
  refine ⟨M.1.add hc hl, by rw [fi_eq]; simp, fun j hj => ?_⟩
  simp at hj
  show (h.row (h.fr 449 m) (upd (h.ai (h.fr 449 m)) tp.length (nI c))).ai (h.fr 449 m) j = _
  rw [ai_row_eq, sg_app]
  by_cases e : j = tp.length
  · rw [if_pos e, e, pk_us]
  · rw [if_neg e, pk_un e]; exact M.2.2 j (by omega)
/-! tokens -/
def isL (c : Nat) : Bool := decide (97 ≤ c ∧ c ≤ 122)
def isD (c : Nat) : Bool := decide (48 ≤ c ∧ c ≤ 57)
def rE (p : Nat → Bool) (s : Nat → Nat) : Nat → Nat → Nat
  | 0, k => k
  | f + 1, k => if p (s k) then rE p s f (k + 1) else k
theorem rE_eq {p : Nat → Bool} {s : Nat → Nat} {e : Nat} : ∀ (f k : Nat), k ≤ e → (∀ j, k ≤ j → j < e → p (s j) = true) → p (s e) = false → e - k < f → rE p s f k = e
  | 0, _, _, _, _, h => absurd h (Nat.not_lt_zero _)
  | f + 1, k, h1, h2, h3, h4 => by
    simp only [rE]
    by_cases ek : k = e
    · subst ek; rw [h3]; rfl
    · rw [h2 k (Nat.le_refl _) (by omega), if_pos rfl]
      exact rE_eq f (k + 1) (by omega) (fun j hj hj2 => h2 j (by omega) hj2) h3 (by omega)
/-- the words: keep lapse when and missed held sick rank area year -/
def wdL : List (List Nat) := [[107, 101, 101, 112], [108, 97, 112, 115, 101], [119, 104, 101, 110], [97, 110, 100], [109, 105, 115, 115, 101, 100], [104, 101, 108, 100], [115, 105, 99, 107], [114, 97, 110, 107], [97, 114, 101, 97], [121, 101, 97, 114]]
def wd (w : Nat) : List Nat := wdL.getD w []
def wix (l : List Nat) : Nat := if l = wd 0 then 0 else if l = wd 1 then 1 else if l = wd 2 then 2 else if l = wd 3 then 3 else if l = wd 4 then 4 else if l = wd 5 then 5 else if l = wd 6 then 6 else if l = wd 7 then 7 else if l = wd 8 then 8 else if l = wd 9 then 9 else 10
def kw (w : Nat) : Nat × Nat := if w = 0 then (10, 0) else if w = 1 then (11, 0) else if w = 2 then (12, 0) else if w = 3 then (6, 0) else if w < 10 then (1, w - 4) else (14, 0)
theorem lt10c {w : Nat} (h : w < 10) : w = 0 ∨ w = 1 ∨ w = 2 ∨ w = 3 ∨ w = 4 ∨ w = 5 ∨ w = 6 ∨ w = 7 ∨ w = 8 ∨ w = 9 := by omega
theorem wix_wd {w : Nat} (h : w < 10) : wix (wd w) = w := by
  rcases lt10c h with e | e | e | e | e | e | e | e | e | e <;> subst e <;> decide
theorem wix_le (l : List Nat) : wix l ≤ 10 ∧ (wix l < 10 → l = wd (wix l)) := by
  unfold wix
  by_cases e0 : l = wd 0
  · rw [if_pos e0]; exact ⟨by decide, fun _ => e0⟩
  rw [if_neg e0]
  by_cases e1 : l = wd 1
  · rw [if_pos e1]; exact ⟨by decide, fun _ => e1⟩
  rw [if_neg e1]
  by_cases e2 : l = wd 2
  · rw [if_pos e2]; exact ⟨by decide, fun _ => e2⟩
  rw [if_neg e2]
  by_cases e3 : l = wd 3
  · rw [if_pos e3]; exact ⟨by decide, fun _ => e3⟩
  rw [if_neg e3]
  by_cases e4 : l = wd 4
  · rw [if_pos e4]; exact ⟨by decide, fun _ => e4⟩
  rw [if_neg e4]
  by_cases e5 : l = wd 5
  · rw [if_pos e5]; exact ⟨by decide, fun _ => e5⟩
  rw [if_neg e5]
  by_cases e6 : l = wd 6
  · rw [if_pos e6]; exact ⟨by decide, fun _ => e6⟩
  rw [if_neg e6]
  by_cases e7 : l = wd 7
  · rw [if_pos e7]; exact ⟨by decide, fun _ => e7⟩
  rw [if_neg e7]
  by_cases e8 : l = wd 8
  · rw [if_pos e8]; exact ⟨by decide, fun _ => e8⟩
  rw [if_neg e8]
  by_cases e9 : l = wd 9
  · rw [if_pos e9]; exact ⟨by decide, fun _ => e9⟩
  rw [if_neg e9]; exact ⟨by decide, fun e => absurd e (by decide)⟩
theorem wix_iff {l : List Nat} {w : Nat} (h : w < 10) : wix l = w ↔ l = wd w := by
  constructor
  · intro e
    have := (wix_le l).2 (by omega)
    rw [e] at this; exact this
  · intro e; rw [e]; exact wix_wd h
theorem kw_inj {a b : Nat} (ha : a ≤ 10) (hb : b < 10) : kw a = kw b ↔ a = b := by
  constructor
  · intro h
    rcases (show a = 10 ∨ a < 10 by omega) with e | e
    · subst e; rcases lt10c hb with e | e | e | e | e | e | e | e | e | e <;> subst e <;> exact absurd h (by decide)
    · rcases lt10c e with e | e | e | e | e | e | e | e | e | e <;> subst e <;> rcases lt10c hb with e | e | e | e | e | e | e | e | e | e <;> subst e <;> first | rfl | exact absurd h (by decide)
  · intro h; rw [h]
theorem kw_sd {w : Nat} (h : w ≤ 10) : (kw w).1 < 15 ∧ (kw w).1 ≠ 13 ∧ (kw w).1 ≠ 0 ∧ ((kw w).1 = 1 → (kw w).2 < 6) ∧ ¬ (2 ≤ (kw w).1 ∧ (kw w).1 ≤ 5) ∧ ¬ (7 ≤ (kw w).1 ∧ (kw w).1 ≤ 9) := by
  rcases (show w = 10 ∨ w < 10 by omega) with e | e
  · subst e; decide
  · rcases lt10c e with e | e | e | e | e | e | e | e | e | e <;> subst e <;> decide
def wl (s : Nat → Nat) (k e : Nat) : List Nat := (List.range (e - k)).map (fun j => s (k + j))
def sgk (c : Nat) : Nat := if c = 40 then 7 else if c = 41 then 8 else if c = 60 then 4 else if c = 61 then 5 else if c = 43 then 2 else if c = 45 then 3 else if c = 59 then 9 else 14
def num (s : Nat → Nat) (k : Nat) : Nat → Nat
  | 0 => 0
  | j + 1 => 10 * num s k j + (s (k + j) - 48)
def te (s : Nat → Nat) (k : Nat) : Nat := if isL (s k) then rE isL s 601 k else if isD (s k) then rE isD s 601 k else k + 1
def tkn (s : Nat → Nat) (k e : Nat) : Nat × Nat × Nat := if isL (s k) then ((kw (wix (wl s k e))).1, (kw (wix (wl s k e))).2, k) else if isD (s k) then (if 4 < e - k then (14, 0, k) else (0, num s k (e - k), k)) else (sgk (s k), 0, k)
def lex (s : Nat → Nat) (n : Nat) : Nat → Nat → List (Nat × Nat × Nat)
  | 0, _ => []
  | f + 1, k => if n ≤ k then [] else if s k = 10 ∨ s k = 32 then lex s n f (k + 1) else tkn s k (te s k) :: lex s n f (te s k)
def lexT (tp : List Nat) : TT := (tp.length, lex (sg tp) tp.length (tp.length + 1) 0)
/-! the model's tokens -/
def hs (l : List Nat) : Nat := l.foldl (fun v c => 37 * v + (c - 96)) 0
def hsh (s : Nat → Nat) (k : Nat) : Nat → Nat
  | 0 => 0
  | j + 1 => 37 * hsh s k j + (s (k + j) - 96)
theorem wl_s {s : Nat → Nat} {k j : Nat} : wl s k (k + (j + 1)) = wl s k (k + j) ++ [s (k + j)] := by
  unfold wl
  rw [show k + (j + 1) - k = j + 1 by omega, show k + j - k = j by omega, List.range_succ, List.map_append]; rfl
theorem hsh_hs {s : Nat → Nat} {k : Nat} : ∀ j, hsh s k j = hs (wl s k (k + j))
  | 0 => by simp [hsh, hs, wl]
  | j + 1 => by
    rw [wl_s, hsh, hsh_hs j]
    unfold hs
    rw [List.foldl_append]; rfl
theorem hs_s (l : List Nat) (c : Nat) : hs (l ++ [c]) = 37 * hs l + (c - 96) := by unfold hs; rw [List.foldl_append]; rfl
theorem hs_inj : ∀ (n : Nat) (l l' : List Nat), l.length = n → (∀ c ∈ l, isL c = true) → (∀ c ∈ l', isL c = true) → hs l = hs l' → l = l'
  | 0, l, l', hn, h1, h2, h => by
    have e : l = [] := List.length_eq_zero_iff.mp hn
    subst e
    rcases List.eq_nil_or_concat l' with e | ⟨q, c, e⟩
    · exact e.symm
    · rw [List.concat_eq_append] at e
      subst e
      rw [hs_s] at h
      have := h2 c (by simp)
      simp only [isL, decide_eq_true_eq] at this
      have h0 : hs [] = 0 := rfl
      omega
  | n + 1, l, l', hn, h1, h2, h => by
    rcases List.eq_nil_or_concat l with e | ⟨p, b, e⟩
    · subst e; simp at hn
    · rw [List.concat_eq_append] at e
      subst e
      have hb := h1 b (by simp)
      simp only [isL, decide_eq_true_eq] at hb
      rcases List.eq_nil_or_concat l' with e | ⟨q, c, e⟩
      · subst e
        rw [hs_s] at h
        have h0 : hs [] = 0 := rfl
        omega
      · rw [List.concat_eq_append] at e
        subst e
        have hc := h2 c (by simp)
        simp only [isL, decide_eq_true_eq] at hc
        rw [hs_s, hs_s] at h
        have e1 : b = c := by omega
        have e2 : hs p = hs q := by omega
        have := hs_inj n p q (by simp at hn; exact hn) (fun c hc => h1 c (by simp [hc])) (fun c hc => h2 c (by simp [hc])) e2
        rw [this, e1]
theorem hs_lt : ∀ (l : List Nat), (∀ c ∈ l, isL c = true) → hs l < 37 ^ l.length := by
  intro l
  generalize hn : l.length = n
  induction n generalizing l with
  | zero => intro _; rw [List.length_eq_zero_iff.mp hn]; decide
  | succ n ih =>
    intro h1
    rcases List.eq_nil_or_concat l with e | ⟨p, b, e⟩
    · subst e; simp at hn
    · rw [List.concat_eq_append] at e
      subst e
      have hb := h1 b (by simp)
      simp only [isL, decide_eq_true_eq] at hb
      have := ih p (by simp at hn; exact hn) (fun c hc => h1 c (by simp [hc]))
      rw [hs_s, Nat.pow_succ]
      omega
def Hw (w : Nat) : Nat := hs (wd w)
theorem wd_ok {w : Nat} (h : w < 10) : (∀ c ∈ wd w, isL c = true) ∧ (wd w).length ≤ 8 ∧ Hw w < 2 ^ 62 := by
  rcases lt10c h with e | e | e | e | e | e | e | e | e | e <;> subst e <;> decide
/-- a token, as the model holds it: sort and value -/
def tkR (t : Nat × Nat × Nat) (so : Int32) (v : Int64) : Prop := (∀ w, w < 10 → ((so = 1 ∧ v = lN (Hw w)) ↔ (t.1, t.2.1) = kw w)) ∧ (∀ c, c < 127 → sgk c ≠ 14 → ((so = 3 ∧ v = lN c) ↔ t.1 = sgk c)) ∧ (so = 2 ↔ t.1 = 0) ∧ (t.1 = 0 → v = lN t.2.1) ∧ ¬ so = 0
theorem sgk_sd (c : Nat) : sgk c = 14 ∨ (2 ≤ sgk c ∧ sgk c ≤ 5) ∨ (7 ≤ sgk c ∧ sgk c ≤ 9) := by
  unfold sgk
  repeat' split
  all_goals decide
def sgi (k : Nat) : Nat := if k = 7 then 40 else if k = 8 then 41 else if k = 4 then 60 else if k = 5 then 61 else if k = 2 then 43 else if k = 3 then 45 else 59
theorem sgi_sgk {c : Nat} (h : sgk c ≠ 14) : sgi (sgk c) = c := by
  by_cases e1 : c = 40
  · subst e1; decide
  by_cases e2 : c = 41
  · subst e2; decide
  by_cases e3 : c = 60
  · subst e3; decide
  by_cases e4 : c = 61
  · subst e4; decide
  by_cases e5 : c = 43
  · subst e5; decide
  by_cases e6 : c = 45
  · subst e6; decide
  by_cases e7 : c = 59
  · subst e7; decide
  exact absurd (by unfold sgk; simp [e1, e2, e3, e4, e5, e6, e7]) h
theorem sgk_inj {a b : Nat} (hb : sgk b ≠ 14) : sgk a = sgk b ↔ a = b := by
  constructor
  · intro h
    rw [← sgi_sgk hb, ← h, sgi_sgk (by rw [h]; exact hb)]
  · intro h; rw [h]
abbrev TkL : Type := List (Nat × Nat × Nat)
theorem kw_sg {w c : Nat} (h : w ≤ 10) (hc : sgk c ≠ 14) : ¬ (kw w).1 = sgk c := by
  have h1 := kw_sd h
  have h2 := sgk_sd c
  omega
theorem tkR_word {s : Nat → Nat} {k e : Nat} {so : Int32} {v : Int64} (hL : isL (s k) = true) (hk : k < e) (ha : ∀ j, k ≤ j → j < e → isL (s j) = true) (hs1 : so = if 8 < e - k then 4 else 1) (hv : v = lN (hsh s k (if 8 < e - k then 8 else e - k))) : tkR (tkn s k e) so v := by
  have ht : tkn s k e = ((kw (wix (wl s k e))).1, (kw (wix (wl s k e))).2, k) := if_pos hL
  have hw := wix_le (wl s k e)
  have hall : ∀ c ∈ wl s k e, isL c = true := fun c hc => by
    unfold wl at hc
    rw [List.mem_map] at hc
    obtain ⟨j, hj, rfl⟩ := hc
    rw [List.mem_range] at hj
    exact ha _ (by omega) (by omega)
  have hlen : (wl s k e).length = e - k := by unfold wl; simp
  rw [ht]
  have so2 : so = 1 ∨ so = 4 := by rw [hs1]; split <;> simp
  refine ⟨fun w hw9 => ?_, fun c hc hc2 => ?_, ?_, fun h => absurd h (kw_sd hw.1).2.2.1, ?_⟩
  · show _ ↔ kw (wix (wl s k e)) = kw w
    rw [kw_inj hw.1 hw9, wix_iff hw9]
    have hd := wd_ok hw9
    by_cases h8 : 8 < e - k
    · rw [if_pos h8] at hs1
      constructor
      · rintro ⟨h1, -⟩; rw [hs1] at h1; exact absurd h1 (by decide)
      · intro h9; rw [h9] at hlen; omega
    · rw [if_neg h8] at hs1 hv
      have e9 : hsh s k (e - k) = hs (wl s k e) := by rw [hsh_hs, show k + (e - k) = e by omega]
      rw [e9] at hv
      have hlt := hs_lt _ hall
      have hp : 37 ^ (wl s k e).length ≤ 37 ^ 8 := Nat.pow_le_pow_right (by decide) (by omega)
      have h37 : (37 : Nat) ^ 8 < 2 ^ 62 := by decide
      constructor
      · rintro ⟨-, h2⟩
        rw [hv] at h2
        have := (pk_lEQ (by omega) (by have := hd.2.2; omega)).mp h2
        exact hs_inj _ _ _ rfl hall hd.1 this
      · intro h9
        refine ⟨hs1, ?_⟩
        rw [hv, h9]; rfl
  · constructor
    · rintro ⟨h1, -⟩; rcases so2 with e | e <;> rw [e] at h1 <;> exact absurd h1 (by decide)
    · intro h9; exact absurd h9 (kw_sg hw.1 hc2)
  · constructor
    · intro h1; rcases so2 with e | e <;> rw [e] at h1 <;> exact absurd h1 (by decide)
    · intro h9; exact absurd h9 (kw_sd hw.1).2.2.1
  · intro h1; rcases so2 with e | e <;> rw [e] at h1 <;> exact absurd h1 (by decide)
theorem kw_n0 {w : Nat} (h : w < 10) (a b : Nat) (ha : a = 0 ∨ a = 14 ∨ (2 ≤ a ∧ a ≤ 5) ∨ (7 ≤ a ∧ a ≤ 9)) : ¬ (a, b) = kw w := by
  intro e
  have h1 : a = (kw w).1 := by rw [← e]
  rcases lt10c h with e | e | e | e | e | e | e | e | e | e <;> subst e <;> simp [kw] at h1 <;> omega
theorem tkR_num {s : Nat → Nat} {k e : Nat} {so : Int32} {v : Int64} (hL : isL (s k) = false) (hD : isD (s k) = true) (hs1 : so = if 4 < e - k then 4 else 2) (hv : v = lN (num s k (if 4 < e - k then 4 else e - k))) : tkR (tkn s k e) so v := by
  have ht : tkn s k e = if 4 < e - k then (14, 0, k) else (0, num s k (e - k), k) := by unfold tkn; rw [hL, hD]; rfl
  rw [ht]
  by_cases h4 : 4 < e - k
  · rw [if_pos h4] at hs1 ⊢
    subst hs1
    exact ⟨fun w hw => ⟨fun h => absurd h.1 (by decide), fun h => absurd h (kw_n0 hw _ _ (by simp))⟩, fun c _ hc => ⟨fun h => absurd h.1 (by decide), fun h => absurd h.symm hc⟩, ⟨fun h => absurd h (by decide), fun h => absurd h (show ¬ (14 : Nat) = 0 by decide)⟩, fun h => absurd h (show ¬ (14 : Nat) = 0 by decide), by decide⟩
  · rw [if_neg h4] at hs1 hv ⊢
    subst hs1
    exact ⟨fun w hw => ⟨fun h => absurd h.1 (by decide), fun h => absurd h (kw_n0 hw _ _ (by simp))⟩, fun c _ hc => ⟨fun h => absurd h.1 (by decide), fun h => absurd h (by have := sgk_sd c; show ¬ (0 : Nat) = _; omega)⟩, ⟨fun _ => rfl, fun _ => rfl⟩, fun _ => hv, by decide⟩
theorem tkR_sign {s : Nat → Nat} {k e : Nat} {so : Int32} {v : Int64} (hL : isL (s k) = false) (hD : isD (s k) = false) (h127 : s k < 127) (hs1 : so = if sgk (s k) = 14 then 4 else 3) (hv : v = lN (s k)) : tkR (tkn s k e) so v := by
  have ht : tkn s k e = (sgk (s k), 0, k) := by unfold tkn; rw [hL, hD]; rfl
  rw [ht]
  have h2 := sgk_sd (s k)
  have so2 : so = 3 ∨ so = 4 := by rw [hs1]; split <;> simp
  refine ⟨fun w hw => ⟨fun h => ?_, fun h => absurd h (kw_n0 hw _ _ (by omega))⟩, fun c hc hc2 => ?_, ⟨fun h => ?_, fun h => ?_⟩, fun h => ?_, fun h => ?_⟩
  · rcases so2 with e | e <;> rw [e] at h <;> exact absurd h.1 (by decide)
  · show _ ↔ sgk (s k) = sgk c
    rw [sgk_inj hc2]
    constructor
    · rintro ⟨-, h9⟩
      rw [hv] at h9
      exact (pk_lEQ (by omega) (by omega)).mp h9
    · intro h9
      rw [h9, if_neg hc2] at hs1
      exact ⟨hs1, by rw [hv, h9]⟩
  · rcases so2 with e | e <;> rw [e] at h <;> exact absurd h (by decide)
  · exact absurd h (by show ¬ sgk (s k) = 0; omega)
  · exact absurd h (by show ¬ sgk (s k) = 0; omega)
  · rcases so2 with e | e <;> rw [e] at h <;> exact absurd h (by decide)
def TKi (h : HP) (m i : Nat) (t : Nat × Nat × Nat) : Prop := tkR t (h.ai (h.fr 452 m) i) (h.al (h.fr 454 m) i) ∧ h.ai (h.fr 453 m) i = nI t.2.2
/-- the tokens as the model holds them -/
def MK (T : TT) (h : HP) (m : Nat) : Prop := (∀ i t, (Prod.snd T)[i]? = some t → TKi h m i t) ∧ h.ai (h.fr 452 m) T.N = 0 ∧ h.ai (h.fr 453 m) T.N = nI (Prod.fst T)
theorem te_gt {s : Nat → Nat} {k : Nat} : k < te s k := by
  have key : ∀ (p : Nat → Bool) (f k : Nat), k ≤ rE p s f k := by
    intro p f
    induction f with
    | zero => intro k; exact Nat.le_refl _
    | succ f ih => intro k; simp only [rE]; split
                   · have := ih (k + 1); omega
                   · exact Nat.le_refl _
  unfold te
  split
  · rename_i h; show k < (if isL (s k) then rE isL s 600 (k + 1) else k); rw [if_pos h]; have := key isL 600 (k + 1); omega
  · split
    · rename_i h; show k < (if isD (s k) then rE isD s 600 (k + 1) else k); rw [if_pos h]; have := key isD 600 (k + 1); omega
    · omega
theorem lex_len {s : Nat → Nat} {n : Nat} : ∀ f k, (lex s n f k).length ≤ n - k
  | 0, k => by simp [lex]
  | f + 1, k => by
    simp only [lex]
    split
    · simp
    · split
      · have := lex_len (s := s) (n := n) f (k + 1); omega
      · have := lex_len (s := s) (n := n) f (te s k); have := te_gt (s := s) (k := k); simp; omega
theorem num_lt {s : Nat → Nat} {k : Nat} : ∀ j, (∀ i, i < j → isD (s (k + i)) = true) → num s k j < 10 ^ j
  | 0, _ => by simp [num]
  | j + 1, h => by
    have := num_lt j (fun i hi => h i (by omega))
    have := h j (by omega)
    simp only [isD, decide_eq_true_eq] at this
    rw [num, Nat.pow_succ]; omega
theorem rE_all {p : Nat → Bool} {s : Nat → Nat} : ∀ f k j, k ≤ j → j < rE p s f k → p (s j) = true
  | 0, k, j, h1, h2 => by simp only [rE] at h2; omega
  | f + 1, k, j, h1, h2 => by
    simp only [rE] at h2
    by_cases e : p (s k) = true
    · rw [if_pos e] at h2
      by_cases ej : j = k
      · rw [ej]; exact e
      · exact rE_all f (k + 1) j (by omega) h2
    · rw [if_neg e] at h2; omega
theorem tkn_ok {s : Nat → Nat} {n k : Nat} (hn : n ≤ 600) (hk : k < n) : (tkn s k (te s k)).1 < 15 ∧ (tkn s k (te s k)).1 ≠ 13 ∧ ((tkn s k (te s k)).1 = 0 → (tkn s k (te s k)).2.1 < 10000) ∧ ((tkn s k (te s k)).1 = 1 → (tkn s k (te s k)).2.1 < 6) ∧ (tkn s k (te s k)).2.2 ≤ 600 := by
  unfold tkn
  split
  · have := kw_sd (wix_le (wl s k (te s k))).1
    exact ⟨this.1, this.2.1, fun e => absurd e this.2.2.1, this.2.2.2.1, by show k ≤ 600; omega⟩
  · rename_i hL
    split
    · rename_i hD
      split
      · exact ⟨show (14 : Nat) < 15 by decide, show (14 : Nat) ≠ 13 by decide, fun e => absurd e (show ¬ (14 : Nat) = 0 by decide), fun e => absurd e (show ¬ (14 : Nat) = 1 by decide), by show k ≤ 600; omega⟩
      · rename_i h4
        refine ⟨show (0 : Nat) < 15 by decide, show (0 : Nat) ≠ 13 by decide, fun _ => ?_, fun e => absurd e (show ¬ (0 : Nat) = 1 by decide), by show k ≤ 600; omega⟩
        have he : te s k = rE isD s 601 k := by unfold te; rw [if_neg hL, if_pos hD]
        have h1 := num_lt (s := s) (k := k) (te s k - k) (fun i hi => rE_all 601 k (k + i) (by omega) (by rw [← he]; omega))
        have h2 : (10 : Nat) ^ (te s k - k) ≤ 10 ^ 4 := Nat.pow_le_pow_right (by decide) (by omega)
        show num s k (te s k - k) < 10000
        omega
    · have := sgk_sd (s k)
      exact ⟨by show sgk (s k) < 15; omega, by show sgk (s k) ≠ 13; omega, fun e => absurd e (by show ¬ sgk (s k) = 0; omega), fun e => absurd e (by show ¬ sgk (s k) = 1; omega), by show k ≤ 600; omega⟩
theorem lex_ok {s : Nat → Nat} {n : Nat} (hn : n ≤ 600) : ∀ f k, ∀ t ∈ lex s n f k, t.1 < 15 ∧ t.1 ≠ 13 ∧ (t.1 = 0 → t.2.1 < 10000) ∧ (t.1 = 1 → t.2.1 < 6) ∧ t.2.2 ≤ 600
  | 0, k, t, h => by simp [lex] at h
  | f + 1, k, t, h => by
    simp only [lex] at h
    split at h
    · simp at h
    · rename_i hk
      split at h
      · exact lex_ok hn f (k + 1) t h
      · rcases List.mem_cons.mp h with e | e
        · subst e; exact tkn_ok hn (by omega)
        · exact lex_ok hn f (te s k) t e
theorem lex_TW {tp : List Nat} (h : TpW tp) : TW (lexT tp) := by
  refine ⟨h.1, ?_, lex_ok h.1 _ _⟩
  have := lex_len (s := sg tp) (n := tp.length) (tp.length + 1) 0
  have := h.1
  show (lex (sg tp) tp.length (tp.length + 1) 0).length ≤ 600
  omega

theorem lex_end {s : Nat → Nat} {n f k : Nat} (h : n ≤ k) : lex s n f k = [] := by
  cases f with
  | zero => rfl
  | succ f => simp only [lex]; rw [if_pos h]
theorem lex_bl {s : Nat → Nat} {n f k F : Nat} {ts : List (Nat × Nat × Nat)} (h : k < n) (hb : s k = 10 ∨ s k = 32) (hx : lex s n F 0 = ts ++ lex s n (f + 1) k) : lex s n F 0 = ts ++ lex s n f (k + 1) := by
  rw [hx]; simp only [lex]; rw [if_neg (by omega), if_pos hb]
theorem lex_tk {s : Nat → Nat} {n f k F : Nat} {ts : List (Nat × Nat × Nat)} (h : k < n) (hb : ¬ (s k = 10 ∨ s k = 32)) (hx : lex s n F 0 = ts ++ lex s n (f + 1) k) : lex s n F 0 = (ts ++ [tkn s k (te s k)]) ++ lex s n f (te s k) := by
  rw [hx]; simp only [lex]; rw [if_neg (by omega), if_neg hb]; simp
theorem TKi.old {h : HP} {m i a : Nat} {t : Nat × Nat × Nat} {x z : Int32} (hm : LM h.kd h.gl h.fr m) (H : TKi h m i t) (hi : i ≠ a) : TKi ((h.row (h.fr 453 m) (upd (h.ai (h.fr 453 m)) a x)).row (h.fr 452 m) (upd ((h.row (h.fr 453 m) (upd (h.ai (h.fr 453 m)) a x)).ai (h.fr 452 m)) a z)) m i t := by
  unfold TKi at *
  refine ⟨?_, ?_⟩
  · show tkR t (((h.row (h.fr 453 m) _).row (h.fr 452 m) _).ai (h.fr 452 m) i) (h.al (h.fr 454 m) i)
    rw [ai_row_eq, pk_un hi, ai_row_ne (gl_ne hm.g452 hm.g453 (by decide))]; exact H.1
  · show (((h.row (h.fr 453 m) _).row (h.fr 452 m) _).ai (h.fr 453 m) i) = _
    rw [ai_row_ne (gl_ne hm.g453 hm.g452 (by decide)), ai_row_eq, pk_un hi]; exact H.2
theorem TKi.push {h : HP} {m k e : Nat} {s : Nat → Nat} {v : Int64} {ts : List (Nat × Nat × Nat)} (hm : LM h.kd h.gl h.fr m) (H : ∀ i t, ts[i]? = some t → TKi h m i t) (hp : h.ai (h.fr 453 m) ts.length = nI k) (hR : tkR (tkn s k e) (h.ai (h.fr 452 m) ts.length) v) : ∀ i t, (ts ++ [tkn s k e])[i]? = some t → TKi (h.rowL (h.fr 454 m) (vp_updL (h.al (h.fr 454 m)) ts.length v)) m i t := by
  intro i t ht
  have hpl : (tkn s k e).2.2 = k := by
    unfold tkn; split
    · rfl
    · split
      · split <;> rfl
      · rfl
  by_cases ei : i = ts.length
  · subst ei
    rw [List.getElem?_append_right (Nat.le_refl _)] at ht
    simp at ht
    subst ht
    refine ⟨?_, ?_⟩
    · show tkR _ (h.ai (h.fr 452 m) ts.length) ((h.rowL (h.fr 454 m) _).al (h.fr 454 m) ts.length)
      rw [al_rowL_eq, pk_uLs]; exact hR
    · show h.ai (h.fr 453 m) ts.length = _
      rw [hpl]; exact hp
  · have hl : i < ts.length := by
      have := (List.getElem?_eq_some_iff.mp ht).1
      simp at this; omega
    rw [List.getElem?_append_left hl] at ht
    have := H i t ht
    refine ⟨?_, this.2⟩
    show tkR _ (h.ai (h.fr 452 m) i) ((h.rowL (h.fr 454 m) _).al (h.fr 454 m) i)
    rw [al_rowL_eq, pk_uLn ei]; exact this.1
theorem MK.fin {h : HP} {m : Nat} {tp : List Nat} {ts : List (Nat × Nat × Nat)} (hm : LM h.kd h.gl h.fr m) (H : ∀ i t, ts[i]? = some t → TKi h m i t) (hx : lex (sg tp) tp.length (tp.length + 1) 0 = ts) : MK (lexT tp) ((((h.row (h.fr 452 m) (upd (h.ai (h.fr 452 m)) ts.length 0)).row (h.fr 453 m) (upd ((h.row (h.fr 452 m) (upd (h.ai (h.fr 452 m)) ts.length 0)).ai (h.fr 453 m)) ts.length (nI tp.length))).setI 455 m 0).setI 456 m 0) m := by
  have e1 : Prod.snd (lexT tp) = ts := hx
  have e2 : (lexT tp).N = ts.length := by unfold TT.N; rw [e1]
  have n1 : h.fr 452 m ≠ h.fr 453 m := gl_ne hm.g452 hm.g453 (by decide)
  refine ⟨fun i t ht => ?_, ?_, ?_⟩
  · rw [e1] at ht
    have hl := (List.getElem?_eq_some_iff.mp ht).1
    have := H i t ht
    refine ⟨?_, ?_⟩
    · show tkR t (((h.row (h.fr 452 m) _).row (h.fr 453 m) _).ai (h.fr 452 m) i) (h.al (h.fr 454 m) i)
      rw [ai_row_ne n1, ai_row_eq, pk_un (by omega)]; exact this.1
    · show (((h.row (h.fr 452 m) _).row (h.fr 453 m) _).ai (h.fr 453 m) i) = _
      rw [ai_row_eq, pk_un (by omega), ai_row_ne (Ne.symm n1)]; exact this.2
  · rw [e2]
    show (((h.row (h.fr 452 m) _).row (h.fr 453 m) _).ai (h.fr 452 m) ts.length) = _
    rw [ai_row_ne n1, ai_row_eq, pk_us]
  · rw [e2]
    show (((h.row (h.fr 452 m) _).row (h.fr 453 m) _).ai (h.fr 453 m) ts.length) = _
    rw [ai_row_eq, pk_us]; rfl

theorem c_X7_isLetter {G : GT} {h : HP} {c : Nat} (hc : c < 1000) : Con G 1 0 0 yX7_isLetter cX7_isLetter 1 (some .boolean) [.int (nI c)] h (PI (fun v h' => b2i (isL c) = v ∧ h = h')) := by
  refine Con.of (lv := [some (.int (nI c))]) (by decide) (by simp only [lvE_r, lvE_i, lvE_l, lvE_s, lvE_0]; rfl) (by simp only [lgl_r, lgl_i, lgl_l, lgl_s, lgl_0]; decide) (fun Γ C R => ?_)
  generalize hPP : (PI (fun v h' => b2i (isL c) = v ∧ h = h')) = PP
  refine r_iload_n (q := 1) (z := 0) C 0 rfl (by decide +kernel) rfl rfl ?_
  refine r_bipush (q := 3) (z := 97) (v := 97) C rfl (by decide +kernel) (by decide) ?_
  refine r_icmp_lt (q := 6) (off := 13) (tgt := 16) C rfl (by decide +kernel) (by decide) (fun c3 => ?_) (fun c3 => ?_)
  · rw [show (97 : Int32) = nI 97 from rfl, nI_ltI (by omega) (by omega)] at c3
    refine r_iconst (q := 17) (z := 0) (v := 0) C rfl (by decide +kernel) (by decide) ?_
    exact r_zret C (by decide +kernel) rfl (by first | decide | exact b2i_nar _) (by decide) (by decide) (eqP hPP ⟨_, rfl, ⟨by clear C R; first | exact bf (by omega) | exact bt (by omega), rfl⟩⟩)
  · rw [show (97 : Int32) = nI 97 from rfl, nI_ltI (by omega) (by omega)] at c3
    refine r_iload_n (q := 7) (z := 0) C 0 rfl (by decide +kernel) rfl rfl ?_
    refine r_bipush (q := 9) (z := 122) (v := 122) C rfl (by decide +kernel) (by decide) ?_
    refine r_icmp_gt (q := 12) (off := 7) (tgt := 16) C rfl (by decide +kernel) (by decide) (fun c9 => ?_) (fun c9 => ?_)
    · rw [show (122 : Int32) = nI 122 from rfl, nI_ltI (by omega) (by omega)] at c9
      refine r_iconst (q := 17) (z := 0) (v := 0) C rfl (by decide +kernel) (by decide) ?_
      exact r_zret C (by decide +kernel) rfl (by first | decide | exact b2i_nar _) (by decide) (by decide) (eqP hPP ⟨_, rfl, ⟨by clear C R; first | exact bf (by omega) | exact bt (by omega), rfl⟩⟩)
    · rw [show (122 : Int32) = nI 122 from rfl, nI_ltI (by omega) (by omega)] at c9
      refine r_iconst (q := 13) (z := 1) (v := 1) C rfl (by decide +kernel) (by decide) ?_
      refine r_goto (off := 4) (tgt := 17) C (by decide +kernel) (by decide) ?_
      exact r_zret C (by decide +kernel) rfl (by first | decide | exact b2i_nar _) (by decide) (by decide) (eqP hPP ⟨_, rfl, ⟨by clear C R; first | exact bf (by omega) | exact bt (by omega), rfl⟩⟩)
theorem c_X7_isDigit {G : GT} {h : HP} {c : Nat} (hc : c < 1000) : Con G 1 0 0 yX7_isDigit cX7_isDigit 1 (some .boolean) [.int (nI c)] h (PI (fun v h' => b2i (isD c) = v ∧ h = h')) := by
  refine Con.of (lv := [some (.int (nI c))]) (by decide) (by simp only [lvE_r, lvE_i, lvE_l, lvE_s, lvE_0]; rfl) (by simp only [lgl_r, lgl_i, lgl_l, lgl_s, lgl_0]; decide) (fun Γ C R => ?_)
  generalize hPP : (PI (fun v h' => b2i (isD c) = v ∧ h = h')) = PP
  refine r_iload_n (q := 1) (z := 0) C 0 rfl (by decide +kernel) rfl rfl ?_
  refine r_bipush (q := 3) (z := 48) (v := 48) C rfl (by decide +kernel) (by decide) ?_
  refine r_icmp_lt (q := 6) (off := 13) (tgt := 16) C rfl (by decide +kernel) (by decide) (fun c3 => ?_) (fun c3 => ?_)
  · rw [show (48 : Int32) = nI 48 from rfl, nI_ltI (by omega) (by omega)] at c3
    refine r_iconst (q := 17) (z := 0) (v := 0) C rfl (by decide +kernel) (by decide) ?_
    exact r_zret C (by decide +kernel) rfl (by first | decide | exact b2i_nar _) (by decide) (by decide) (eqP hPP ⟨_, rfl, ⟨by clear C R; first | exact bf (by omega) | exact bt (by omega), rfl⟩⟩)
  · rw [show (48 : Int32) = nI 48 from rfl, nI_ltI (by omega) (by omega)] at c3
    refine r_iload_n (q := 7) (z := 0) C 0 rfl (by decide +kernel) rfl rfl ?_
    refine r_bipush (q := 9) (z := 57) (v := 57) C rfl (by decide +kernel) (by decide) ?_
    refine r_icmp_gt (q := 12) (off := 7) (tgt := 16) C rfl (by decide +kernel) (by decide) (fun c9 => ?_) (fun c9 => ?_)
    · rw [show (57 : Int32) = nI 57 from rfl, nI_ltI (by omega) (by omega)] at c9
      refine r_iconst (q := 17) (z := 0) (v := 0) C rfl (by decide +kernel) (by decide) ?_
      exact r_zret C (by decide +kernel) rfl (by first | decide | exact b2i_nar _) (by decide) (by decide) (eqP hPP ⟨_, rfl, ⟨by clear C R; first | exact bf (by omega) | exact bt (by omega), rfl⟩⟩)
    · rw [show (57 : Int32) = nI 57 from rfl, nI_ltI (by omega) (by omega)] at c9
      refine r_iconst (q := 13) (z := 1) (v := 1) C rfl (by decide +kernel) (by decide) ?_
      refine r_goto (off := 4) (tgt := 17) C (by decide +kernel) (by decide) ?_
      exact r_zret C (by decide +kernel) rfl (by first | decide | exact b2i_nar _) (by decide) (by decide) (eqP hPP ⟨_, rfl, ⟨by clear C R; first | exact bf (by omega) | exact bt (by omega), rfl⟩⟩)
theorem c_X7_rank {G : GT} {h : HP} {c : Nat} (hc : isL c = true) : Con G 2 0 0 yX7_rank cX7_rank 1 (some .int) [.int (nI c)] h (PI (fun v h' => nI (c - 96) = v ∧ h = h')) := by
  refine Con.of (lv := [some (.int (nI c))]) (by decide) (by simp only [lvE_r, lvE_i, lvE_l, lvE_s, lvE_0]; rfl) (by simp only [lgl_r, lgl_i, lgl_l, lgl_s, lgl_0]; decide) (fun Γ C R => ?_)
  generalize hPP : (PI (fun v h' => nI (c - 96) = v ∧ h = h')) = PP
  have hc2 := hc
  simp only [isL, decide_eq_true_eq] at hc2
  refine r_iload_n (q := 1) (z := 0) C 0 rfl (by decide +kernel) rfl rfl ?_
  refine cS1I (q := 4) C R rfl (by decide +kernel) lk_X7_157 (c_X7_isLetter (by omega)) (by decide) (by decide) (by decide) rfl (by first | exact Nat.le_of_ble_eq_true rfl | (simp only [List.map_cons, List.map_nil, List.sum_cons, List.sum_nil, rv_cat]; exact Nat.le_of_ble_eq_true rfl))  ?_
  rintro _ _ ⟨rfl, rfl⟩
  refine r_if_eq (q := 7) (off := 10) (tgt := 14) C rfl (by decide +kernel) (by decide) (fun c4 => ?_) (fun c4 => ?_)
  · exact absurd ((b2i_0 _).mp c4) (by rw [hc]; decide)
  · refine r_iload_n (q := 8) (z := 0) C 0 rfl (by decide +kernel) rfl rfl ?_
    refine r_bipush (q := 10) (z := 96) (v := 96) C rfl (by decide +kernel) (by decide) ?_
    refine r_isub (q := 11) C rfl (by decide +kernel) ?_
    rw [show (96 : Int32) = nI 96 from rfl, pk_sub (by omega)]
    refine r_goto (off := 7) (tgt := 18) C (by decide +kernel) (by decide) ?_
    exact r_iret C (by decide +kernel) rfl (by decide) (by decide) (eqP hPP ⟨_, rfl, ⟨rfl, rfl⟩⟩)
theorem c_X7_isSignOf {G : GT} {h : HP} {c : Nat} (hc : c < 1000) : Con G 1 0 0 yX7_isSignOf cX7_isSignOf 1 (some .boolean) [.int (nI c)] h (PI (fun v h' => b2i (!decide (sgk c = 14)) = v ∧ h = h')) := by
  refine Con.of (lv := [some (.int (nI c))]) (by decide) (by simp only [lvE_r, lvE_i, lvE_l, lvE_s, lvE_0]; rfl) (by simp only [lgl_r, lgl_i, lgl_l, lgl_s, lgl_0]; decide) (fun Γ C R => ?_)
  generalize hPP : (PI (fun v h' => b2i (!decide (sgk c = 14)) = v ∧ h = h')) = PP
  have J42 : (sgk c ≠ 14) → wX G Γ (qM G Γ PP 0 0) 0 0 (h) 42 [some (.int (nI c))] [] := by
    intro  hn
    refine r_iconst (q := 43) (z := 1) (v := b2i true) C rfl (by decide +kernel) (by decide) ?_
    refine r_goto (off := 4) (tgt := 47) C (by decide +kernel) (by decide) ?_
    exact r_zret C (by decide +kernel) rfl (by first | decide | exact b2i_nar _) (by decide) (by decide) (eqP hPP ⟨_, rfl, (by first | exact ⟨by rw [decide_eq_false hn]; rfl, rfl⟩ | exact ⟨by rw [sgk, if_neg (fun e => c3 (by rw [e]; rfl)), if_neg (fun e => c9 (by rw [e]; rfl)), if_neg (fun e => c27 (by rw [e]; rfl)), if_neg (fun e => c21 (by rw [e]; rfl)), if_neg (fun e => c33 (by rw [e]; rfl)), if_neg (fun e => c39 (by rw [e]; rfl)), if_neg (fun e => c15 (by rw [e]; rfl))]; rfl, rfl⟩)⟩)
  refine r_iload_n (q := 1) (z := 0) C 0 rfl (by decide +kernel) rfl rfl ?_
  refine r_bipush (q := 3) (z := 40) (v := 40) C rfl (by decide +kernel) (by decide) ?_
  refine r_icmp_eq (q := 6) (off := 39) (tgt := 42) C rfl (by decide +kernel) (by decide) (fun c3 => ?_) (fun c3 => ?_)
  · exact J42 (by rw [(nI_eq (b := 40) (by omega) (by decide)).mp c3]; decide)
  · refine r_iload_n (q := 7) (z := 0) C 0 rfl (by decide +kernel) rfl rfl ?_
    refine r_bipush (q := 9) (z := 41) (v := 41) C rfl (by decide +kernel) (by decide) ?_
    refine r_icmp_eq (q := 12) (off := 33) (tgt := 42) C rfl (by decide +kernel) (by decide) (fun c9 => ?_) (fun c9 => ?_)
    · exact J42 (by rw [(nI_eq (b := 41) (by omega) (by decide)).mp c9]; decide)
    · refine r_iload_n (q := 13) (z := 0) C 0 rfl (by decide +kernel) rfl rfl ?_
      refine r_bipush (q := 15) (z := 59) (v := 59) C rfl (by decide +kernel) (by decide) ?_
      refine r_icmp_eq (q := 18) (off := 27) (tgt := 42) C rfl (by decide +kernel) (by decide) (fun c15 => ?_) (fun c15 => ?_)
      · exact J42 (by rw [(nI_eq (b := 59) (by omega) (by decide)).mp c15]; decide)
      · refine r_iload_n (q := 19) (z := 0) C 0 rfl (by decide +kernel) rfl rfl ?_
        refine r_bipush (q := 21) (z := 61) (v := 61) C rfl (by decide +kernel) (by decide) ?_
        refine r_icmp_eq (q := 24) (off := 21) (tgt := 42) C rfl (by decide +kernel) (by decide) (fun c21 => ?_) (fun c21 => ?_)
        · exact J42 (by rw [(nI_eq (b := 61) (by omega) (by decide)).mp c21]; decide)
        · refine r_iload_n (q := 25) (z := 0) C 0 rfl (by decide +kernel) rfl rfl ?_
          refine r_bipush (q := 27) (z := 60) (v := 60) C rfl (by decide +kernel) (by decide) ?_
          refine r_icmp_eq (q := 30) (off := 15) (tgt := 42) C rfl (by decide +kernel) (by decide) (fun c27 => ?_) (fun c27 => ?_)
          · exact J42 (by rw [(nI_eq (b := 60) (by omega) (by decide)).mp c27]; decide)
          · refine r_iload_n (q := 31) (z := 0) C 0 rfl (by decide +kernel) rfl rfl ?_
            refine r_bipush (q := 33) (z := 43) (v := 43) C rfl (by decide +kernel) (by decide) ?_
            refine r_icmp_eq (q := 36) (off := 9) (tgt := 42) C rfl (by decide +kernel) (by decide) (fun c33 => ?_) (fun c33 => ?_)
            · exact J42 (by rw [(nI_eq (b := 43) (by omega) (by decide)).mp c33]; decide)
            · refine r_iload_n (q := 37) (z := 0) C 0 rfl (by decide +kernel) rfl rfl ?_
              refine r_bipush (q := 39) (z := 45) (v := 45) C rfl (by decide +kernel) (by decide) ?_
              refine r_icmp_ne (q := 42) (off := 7) (tgt := 46) C rfl (by decide +kernel) (by decide) (fun c39 => ?_) (fun c39 => ?_)
              · refine r_iconst (q := 47) (z := 0) (v := b2i false) C rfl (by decide +kernel) (by decide) ?_
                exact r_zret C (by decide +kernel) rfl (by first | decide | exact b2i_nar _) (by decide) (by decide) (eqP hPP ⟨_, rfl, (by first | exact ⟨by rw [decide_eq_false hn]; rfl, rfl⟩ | exact ⟨by rw [sgk, if_neg (fun e => c3 (by rw [e]; rfl)), if_neg (fun e => c9 (by rw [e]; rfl)), if_neg (fun e => c27 (by rw [e]; rfl)), if_neg (fun e => c21 (by rw [e]; rfl)), if_neg (fun e => c33 (by rw [e]; rfl)), if_neg (fun e => c39 (by rw [e]; rfl)), if_neg (fun e => c15 (by rw [e]; rfl))]; rfl, rfl⟩)⟩)
              · exact J42 (by rw [(nI_eq (b := 45) (by omega) (by decide)).mp c39]; decide)
theorem c_X7_lay {G : GT} {h : HP} {m : Nat} {tp : List Nat} {v : Int64} (hm : LM h.kd h.gl h.fr m) (T : MT tp h m) : Con G 1 0 0 yX7_lay cX7_lay 5 none [rv m, .long v] h (PV (fun h' => MT (addK tp v 8) h' m ∧ Fm [449] [450] h h')) := by
  refine Con.of (lv := [some (rv m), some (.long v), none, none, none]) (by decide) (by simp only [lvE_r, lvE_i, lvE_l, lvE_s, lvE_0]; rfl) (by simp only [lgl_r, lgl_i, lgl_l, lgl_s, lgl_0]; decide) (fun Γ C R => ?_)
  generalize hPP : (PV (fun h' => MT (addK tp v 8) h' m ∧ Fm [449] [450] h h')) = PP
  refine r_bipush (q := 2) (z := 56) (v := 56) C rfl (by decide +kernel) (by decide) ?_
  refine r_istore_n (q := 3) (z := 3) C 3 rfl (by decide +kernel) rfl (by decide) (by first | rfl | exact okst_rv rfl) ?_
  dsimp only [List.set]
  have L3 : ∀ (fuel3 : Nat) (h2 : HP) (j : Nat), 8 - j < fuel3 → (Fm [449] [450] h h2) → (MT (addK tp v j) h2 m) → (j ≤ 8) → wX G Γ (qM G Γ PP 0 0) 0 0 (h2) 3 [some (rv m), some (.long v), none, some (.int (sh8 j)), none] [] := by
    intro fuel3
    induction fuel3 with
    | zero =>
      intro h2 j hm3
      exact absurd hm3 (Nat.not_lt_zero _)
    | succ fuel3 ih3 =>
      intro h2 j hm3 F2 T2 hj
      have hm0 := hm
      have hm : LM h2.kd h2.gl h2.fr m := LM.fm F2 hm0
      refine r_iload_n (q := 4) (z := 3) C 3 rfl (by decide +kernel) rfl rfl ?_
      refine r_if_lt (q := 7) (off := 71) (tgt := 75) C rfl (by decide +kernel) (by decide) (fun c4 => ?_) (fun c4 => ?_)
      · have ej : j = 8 := by have := sh8_neg.mp c4; omega
        exact r_ret C (by decide +kernel) rfl (by decide) (by decide) (eqP hPP ⟨rfl, ⟨by rw [ej] at T2; exact T2, F2⟩⟩)
      · have hlt : j < 8 := Classical.not_not.mp (mt sh8_neg.mpr c4)
        refine r_lload_n (q := 8) (z := 1) C 1 rfl (by decide +kernel) rfl rfl ?_
        refine r_iload_n (q := 9) (z := 3) C 3 rfl (by decide +kernel) rfl rfl ?_
        refine r_lshr (q := 10) C rfl (by decide +kernel) ?_
        refine r_l2i (q := 11) C rfl (by decide +kernel) ?_
        refine r_sipush (q := 14) (z := 255) (v := 255) C rfl (by decide +kernel) (by decide) ?_
        refine r_iand (q := 15) C rfl (by decide +kernel) ?_
        rw [bt_sh (sh8_k j hlt) (by omega)]
        obtain ⟨c, hc9⟩ : ∃ c, c = byt v (56 - 8 * j) := ⟨_, rfl⟩
        have hc := bt_lt v (56 - 8 * j)
        rw [← hc9] at hc ⊢
        refine r_istore (q := 17) C 4 rfl (by decide +kernel) (by decide) (by first | rfl | exact okst_rv rfl) ?_
        dsimp only [List.set]
        have J69 : ∀ (h3 : HP), (Fm [449] [450] h h3) → (MT (addB (addK tp v j) c) h3 m) → wX G Γ (qM G Γ PP 0 0) 0 0 (h3) 69 [some (rv m), some (.long v), none, some (.int (sh8 j)), none] [] := by
          intro h3 F3 T3
          rw [hc9] at T3
          refine r_iinc (q := 72) (z := (-8)) (v := (-8)) C 3 rfl (by decide +kernel) rfl (by decide) (by decide) (by first | rfl | exact okst_rv rfl) ?_
          dsimp only [List.set]
          rw [sh8_s j hlt]
          refine r_goto (off := -69) (tgt := 3) C (by decide +kernel) (by decide) ?_
          exact wX.sub (lsub_s (lsub_s (lsub_n (lsub_s (lsub_n (lsub_nil)))))) (ih3 h3 (j + 1) (by omega) F3 T3 (by omega))
        have J38 : (okS c) → wX G Γ (qM G Γ PP 0 0) 0 0 (h2) 38 [some (rv m), some (.long v), none, some (.int (sh8 j)), some (.int (nI c))] [] := by
          intro  ok
          refine r_aload_n (q := 39) (z := 0) C 0 rfl (by decide +kernel) rfl rfl ?_
          refine r_getI (q := 42) C 7 2 450 rfl (by decide +kernel) rfl (by decide) rfl rfl wf_X7_11 win7 hm.1 ?_
          rw [T2.2.1]
          have hl9 := T2.1.1
          refine r_sipush (q := 45) (z := 600) (v := 600) C rfl (by decide +kernel) (by decide) ?_
          refine r_icmp_ge (q := 48) (off := 24) (tgt := 69) C rfl (by decide +kernel) (by decide) (fun c45 => ?_) (fun c45 => ?_)
          · have c45 : ¬ (addK tp v j).length < 600 := by have := (nI_leI (a := 600) (by omega) (by omega)).mp c45; omega
            exact wX.sub (lsub_s (lsub_s (lsub_n (lsub_s (lsub_n (lsub_nil)))))) (J69 h2 F2 (by rw [addB, cif_f (fun e => absurd e.2 (by omega))]; exact T2))
          · have c45 : (addK tp v j).length < 600 := Nat.lt_of_not_le (fun e => c45 (nI_le (a := 600) e (by omega)))
            refine r_aload_n (q := 49) (z := 0) C 0 rfl (by decide +kernel) rfl rfl ?_
            refine r_getR (q := 52) C 7 1 449 rfl (by decide +kernel) rfl (by decide) rfl rfl wf_X7_14 win7 hm.1 ?_
            refine r_aload_n (q := 53) (z := 0) C 0 rfl (by decide +kernel) rfl rfl ?_
            refine r_getI (q := 56) C 7 2 450 rfl (by decide +kernel) rfl (by decide) rfl rfl wf_X7_11 win7 hm.1 ?_
            rw [T2.2.1]
            refine r_iload (q := 58) C 4 rfl (by decide +kernel) rfl ?_
            refine r_iast (q := 59) C rfl (by decide +kernel) rfl hm.k449 (vp_in_nI c45 (by decide)) ?_
            rw [stI_row, nI_clamp (by omega)]
            refine r_aload_n (q := 60) (z := 0) C 0 rfl (by decide +kernel) rfl rfl ?_
            refine r_dup (q := 61) C rfl (by decide +kernel) (by first | rfl | exact rv_cat _) ?_
            refine r_getI (q := 64) C 7 2 450 rfl (by decide +kernel) rfl (by decide) rfl rfl wf_X7_11 win7 hm.1 ?_
            rw [fi_row, T2.2.1]
            refine r_iconst (q := 65) (z := 1) (v := 1) C rfl (by decide +kernel) (by decide) ?_
            refine r_iadd (q := 66) C rfl (by decide +kernel) ?_
            rw [nI_1]
            refine r_putI (q := 69) C 7 2 450 rfl (by decide +kernel) rfl (by decide) rfl rfl wf_X7_11 win7 tyX7 tyX7_ok nmX7 rfl (tyX7_ok 2 (by decide)) rfl wnd7 rfl rfl hm.1 ?_
            exact wX.sub (lsub_s (lsub_s (lsub_n (lsub_s (lsub_n (lsub_nil)))))) (J69 _ (Fm.setI (Fm.row F2 (by rw [← F2.2.2.1, hm.g449]; decide)) (by decide)) (by rw [addB, cif_t ⟨ok, c45⟩]; exact T2.add ok c45))
        refine r_iload (q := 19) C 4 rfl (by decide +kernel) rfl ?_
        refine r_bipush (q := 21) (z := 10) (v := 10) C rfl (by decide +kernel) (by decide) ?_
        refine r_icmp_eq (q := 24) (off := 17) (tgt := 38) C rfl (by decide +kernel) (by decide) (fun c21 => ?_) (fun c21 => ?_)
        · exact wX.sub (lsub_s (lsub_s (lsub_n (lsub_s (lsub_s (lsub_nil)))))) (J38 (Or.inl ((nI_eq (b := 10) (by omega) (by decide)).mp c21)))
        · have c21 : c ≠ 10 := fun e => c21 (by rw [e]; rfl)
          refine r_iload (q := 26) C 4 rfl (by decide +kernel) rfl ?_
          refine r_bipush (q := 28) (z := 32) (v := 32) C rfl (by decide +kernel) (by decide) ?_
          refine r_icmp_lt (q := 31) (off := 41) (tgt := 69) C rfl (by decide +kernel) (by decide) (fun c28 => ?_) (fun c28 => ?_)
          · rw [show (32 : Int32) = nI 32 from rfl, nI_ltI (by omega) (by omega)] at c28
            exact wX.sub (lsub_s (lsub_s (lsub_n (lsub_s (lsub_n (lsub_nil)))))) (J69 h2 F2 (by rw [addB, cif_f (fun e => by have := e.1; unfold okS at this; omega)]; exact T2))
          · rw [show (32 : Int32) = nI 32 from rfl, nI_ltI (by omega) (by omega)] at c28
            refine r_iload (q := 33) C 4 rfl (by decide +kernel) rfl ?_
            refine r_bipush (q := 35) (z := 126) (v := 126) C rfl (by decide +kernel) (by decide) ?_
            refine r_icmp_gt (q := 38) (off := 34) (tgt := 69) C rfl (by decide +kernel) (by decide) (fun c35 => ?_) (fun c35 => ?_)
            · rw [show (126 : Int32) = nI 126 from rfl, nI_ltI (by omega) (by omega)] at c35
              exact wX.sub (lsub_s (lsub_s (lsub_n (lsub_s (lsub_n (lsub_nil)))))) (J69 h2 F2 (by rw [addB, cif_f (fun e => by have := e.1; unfold okS at this; omega)]; exact T2))
            · rw [show (126 : Int32) = nI 126 from rfl, nI_ltI (by omega) (by omega)] at c35
              exact wX.sub (lsub_s (lsub_s (lsub_n (lsub_s (lsub_s (lsub_nil)))))) (J38 (Or.inr ⟨by omega, by omega⟩))
  exact wX.sub (lsub_s (lsub_s (lsub_n (lsub_s (lsub_n (lsub_nil)))))) (L3 9 h 0 (by omega) Fm.rf T (by omega))
theorem c_X7_feed {G : GT} {h : HP} {m : Nat} {tp : List Nat} {a b c : Int64} (hm : LM h.kd h.gl h.fr m) (T : MT tp h m) : Con G 2 0 0 yX7_feed cX7_feed 7 (some .int) [rv m, .long a, .long b, .long c] h (PI (fun v h' => nI (feedT tp a b c).length = v ∧ MT (feedT tp a b c) h' m ∧ Fm [449] [448, 450] h h')) := by
  refine Con.of (lv := [some (rv m), some (.long a), none, some (.long b), none, some (.long c), none]) (by decide) (by simp only [lvE_r, lvE_i, lvE_l, lvE_s, lvE_0]; rfl) (by simp only [lgl_r, lgl_i, lgl_l, lgl_s, lgl_0]; decide) (fun Γ C R => ?_)
  generalize hPP : (PI (fun v h' => nI (feedT tp a b c).length = v ∧ MT (feedT tp a b c) h' m ∧ Fm [449] [448, 450] h h')) = PP
  refine r_aload_n (q := 1) (z := 0) C 0 rfl (by decide +kernel) rfl rfl ?_
  refine r_iconst (q := 2) (z := 0) (v := 0) C rfl (by decide +kernel) (by decide) ?_
  refine r_putI (q := 5) C 7 0 448 rfl (by decide +kernel) rfl (by decide) rfl rfl wf_X7_1 win7 tyX7 tyX7_ok nmX7 rfl (tyX7_ok 0 (by decide)) rfl wnd7 rfl rfl hm.1 ?_
  refine r_aload_n (q := 6) (z := 0) C 0 rfl (by decide +kernel) rfl rfl ?_
  refine r_lload_n (q := 7) (z := 1) C 1 rfl (by decide +kernel) rfl rfl ?_
  refine cV1V (q := 10) C R rfl (by decide +kernel) lk_X7_7 (c_X7_lay hm (T.setI (by decide))) (by decide) (by decide) (by decide) rfl (by first | exact Nat.le_of_ble_eq_true rfl | (simp only [List.map_cons, List.map_nil, List.sum_cons, List.sum_nil, rv_cat]; exact Nat.le_of_ble_eq_true rfl)) rfl hm.1 ?_
  rintro h7 ⟨T7, F7⟩
  refine r_aload_n (q := 11) (z := 0) C 0 rfl (by decide +kernel) rfl rfl ?_
  refine r_lload_n (q := 12) (z := 3) C 3 rfl (by decide +kernel) rfl rfl ?_
  refine cV1V (q := 15) C R rfl (by decide +kernel) lk_X7_7 (c_X7_lay (LM.fm F7 (h := h.setI 448 m 0) hm) T7) (by decide) (by decide) (by decide) rfl (by first | exact Nat.le_of_ble_eq_true rfl | (simp only [List.map_cons, List.map_nil, List.sum_cons, List.sum_nil, rv_cat]; exact Nat.le_of_ble_eq_true rfl)) rfl (LM.fm F7 (h := h.setI 448 m 0) hm).1 ?_
  rintro h12 ⟨T12, F12⟩
  have F12t := F7.tr F12
  refine r_aload_n (q := 16) (z := 0) C 0 rfl (by decide +kernel) rfl rfl ?_
  refine r_lload (q := 18) C 5 rfl (by decide +kernel) rfl ?_
  refine cV1V (q := 21) C R rfl (by decide +kernel) lk_X7_7 (c_X7_lay (LM.fm F12t (h := h.setI 448 m 0) hm) T12) (by decide) (by decide) (by decide) rfl (by first | exact Nat.le_of_ble_eq_true rfl | (simp only [List.map_cons, List.map_nil, List.sum_cons, List.sum_nil, rv_cat]; exact Nat.le_of_ble_eq_true rfl)) rfl (LM.fm F12t (h := h.setI 448 m 0) hm).1 ?_
  rintro h18 ⟨T18, F18⟩
  have F18t := F12t.tr F18
  refine r_aload_n (q := 22) (z := 0) C 0 rfl (by decide +kernel) rfl rfl ?_
  refine r_getI (q := 25) C 7 2 450 rfl (by decide +kernel) rfl (by decide) rfl rfl wf_X7_11 win7 (LM.fm F18t (h := h.setI 448 m 0) hm).1 ?_
  rw [T18.2.1]
  exact r_iret C (by decide +kernel) rfl (by decide) (by decide) (eqP hPP ⟨_, rfl, ⟨rfl, T18, Fm.tr (Fm.rf.setI (by decide)) (F18t.mono (by decide) (by decide))⟩⟩)
theorem c_X7_cutAll {G : GT} {h : HP} {m : Nat} {tp : List Nat} (hm : LM h.kd h.gl h.fr m) (T : MT tp h m) : Con G 3 0 0 yX7_cutAll cX7_cutAll 7 none [rv m] h (PV (fun h' => MK (lexT tp) h' m ∧ h'.fi 450 m = 0 ∧ h'.fi 455 m = 0 ∧ h'.fi 456 m = 0 ∧ Fm [452, 453, 454] [450, 451, 455, 456] h h')) := by
  refine Con.of (lv := [some (rv m), none, none, none, none, none, none]) (by decide) (by simp only [lvE_r, lvE_i, lvE_l, lvE_s, lvE_0]; rfl) (by simp only [lgl_r, lgl_i, lgl_l, lgl_s, lgl_0]; decide) (fun Γ C R => ?_)
  generalize hPP : (PV (fun h' => MK (lexT tp) h' m ∧ h'.fi 450 m = 0 ∧ h'.fi 455 m = 0 ∧ h'.fi 456 m = 0 ∧ Fm [452, 453, 454] [450, 451, 455, 456] h h')) = PP
  have hn6 := T.1.1
  have hlt127 := T.1.lt
  refine r_aload_n (q := 1) (z := 0) C 0 rfl (by decide +kernel) rfl rfl ?_
  refine r_aload_n (q := 2) (z := 0) C 0 rfl (by decide +kernel) rfl rfl ?_
  refine r_getI (q := 5) C 7 2 450 rfl (by decide +kernel) rfl (by decide) rfl rfl wf_X7_11 win7 hm.1 ?_
  rw [T.2.1]
  refine r_putI (q := 8) C 7 3 451 rfl (by decide +kernel) rfl (by decide) rfl rfl wf_X7_161 win7 tyX7 tyX7_ok nmX7 rfl (tyX7_ok 3 (by decide)) rfl wnd7 rfl rfl hm.1 ?_
  refine r_aload_n (q := 9) (z := 0) C 0 rfl (by decide +kernel) rfl rfl ?_
  refine r_iconst (q := 10) (z := 0) (v := 0) C rfl (by decide +kernel) (by decide) ?_
  refine r_putI (q := 13) C 7 2 450 rfl (by decide +kernel) rfl (by decide) rfl rfl wf_X7_11 win7 tyX7 tyX7_ok nmX7 rfl (tyX7_ok 2 (by decide)) rfl wnd7 rfl rfl hm.1 ?_
  refine r_iconst (q := 14) (z := 0) (v := 0) C rfl (by decide +kernel) (by decide) ?_
  refine r_istore_n (q := 15) (z := 1) C 1 rfl (by decide +kernel) rfl (by decide) (by first | rfl | exact okst_rv rfl) ?_
  dsimp only [List.set]
  refine r_iconst (q := 16) (z := 0) (v := 0) C rfl (by decide +kernel) (by decide) ?_
  refine r_istore_n (q := 17) (z := 2) C 2 rfl (by decide +kernel) rfl (by decide) (by first | rfl | exact okst_rv rfl) ?_
  dsimp only [List.set]
  have L17 : ∀ (fuel17 : Nat) (h2 : HP) (ts : TkL) (k f : Nat), tp.length - k < fuel17 → (Fm [452, 453, 454] [450, 451, 455, 456] h h2) → (h2.fi 451 m = nI tp.length) → (h2.fi 450 m = 0) → (∀ i t, ts[i]? = some t → TKi h2 m i t) → (k ≤ tp.length) → (lex (sg tp) tp.length (tp.length + 1) 0 = ts ++ lex (sg tp) tp.length f k) → (tp.length - k ≤ f) → (ts.length ≤ k) → wX G Γ (qM G Γ PP 0 0) 0 0 (h2) 17 [some (rv m), some (.int (nI ts.length)), some (.int (nI k)), none, none, none, none] [] := by
    intro fuel17
    induction fuel17 with
    | zero =>
      intro h2 ts k f hm17
      exact absurd hm17 (Nat.not_lt_zero _)
    | succ fuel17 ih17 =>
      intro h2 ts k f hm17 F2 hz h50 hts hk hx hf htl
      have hm0 := hm
      have hm : LM h2.kd h2.gl h2.fr m := LM.fm F2 hm0
      have htp : ∀ j, j < tp.length → h2.ai (h2.fr 449 m) j = nI (sg tp j) := by rw [F2.2.1, (F2.2.2.2.2.2 _ (by rw [hm0.g449]; decide)).1]; exact T.2.2
      have n449 : h2.fr 449 m ≠ h2.fr 453 m := gl_ne hm.g449 hm.g453 (by decide)
      have n452 : h2.fr 452 m ≠ h2.fr 453 m := gl_ne hm.g452 hm.g453 (by decide)
      refine r_iload_n (q := 18) (z := 2) C 2 rfl (by decide +kernel) rfl rfl ?_
      refine r_aload_n (q := 19) (z := 0) C 0 rfl (by decide +kernel) rfl rfl ?_
      refine r_getI (q := 22) C 7 3 451 rfl (by decide +kernel) rfl (by decide) rfl rfl wf_X7_161 win7 hm.1 ?_
      rw [hz]
      refine r_icmp_ge (q := 25) (off := 257) (tgt := 279) C rfl (by decide +kernel) (by decide) (fun c22 => ?_) (fun c22 => ?_)
      · have ek : k = tp.length := by have := (nI_leI (by omega) (by omega)).mp c22; omega
        have hx0 : lex (sg tp) tp.length (tp.length + 1) 0 = ts := by rw [hx, lex_end (by omega), List.append_nil]
        refine r_aload_n (q := 280) (z := 0) C 0 rfl (by decide +kernel) rfl rfl ?_
        refine r_getR (q := 283) C 7 4 452 rfl (by decide +kernel) rfl (by decide) rfl rfl wf_X7_24 win7 hm.1 ?_
        refine r_iload_n (q := 284) (z := 1) C 1 rfl (by decide +kernel) rfl rfl ?_
        refine r_iconst (q := 285) (z := 0) (v := 0) C rfl (by decide +kernel) (by decide) ?_
        refine r_iast (q := 286) C rfl (by decide +kernel) rfl hm.k452 (vp_in_nI (by omega) (by decide)) ?_
        rw [stI_row, nI_clamp (by omega)]
        refine r_aload_n (q := 287) (z := 0) C 0 rfl (by decide +kernel) rfl rfl ?_
        refine r_getR (q := 290) C 7 5 453 rfl (by decide +kernel) rfl (by decide) rfl rfl wf_X7_27 win7 hm.1 ?_
        refine r_iload_n (q := 291) (z := 1) C 1 rfl (by decide +kernel) rfl rfl ?_
        refine r_aload_n (q := 292) (z := 0) C 0 rfl (by decide +kernel) rfl rfl ?_
        refine r_getI (q := 295) C 7 3 451 rfl (by decide +kernel) rfl (by decide) rfl rfl wf_X7_161 win7 hm.1 ?_
        rw [fi_row, hz]
        refine r_iast (q := 296) C rfl (by decide +kernel) rfl hm.k453 (vp_in_nI (by omega) (by decide)) ?_
        try simp only [fr_row]
        rw [stI_row, nI_clamp (by omega)]
        refine r_aload_n (q := 297) (z := 0) C 0 rfl (by decide +kernel) rfl rfl ?_
        refine r_iconst (q := 298) (z := 0) (v := 0) C rfl (by decide +kernel) (by decide) ?_
        refine r_putI (q := 301) C 7 7 455 rfl (by decide +kernel) rfl (by decide) rfl rfl wf_X7_179 win7 tyX7 tyX7_ok nmX7 rfl (tyX7_ok 7 (by decide)) rfl wnd7 rfl rfl hm.1 ?_
        refine r_aload_n (q := 302) (z := 0) C 0 rfl (by decide +kernel) rfl rfl ?_
        refine r_iconst (q := 303) (z := 0) (v := 0) C rfl (by decide +kernel) (by decide) ?_
        refine r_putI (q := 306) C 7 8 456 rfl (by decide +kernel) rfl (by decide) rfl rfl wf_X7_182 win7 tyX7 tyX7_ok nmX7 rfl (tyX7_ok 8 (by decide)) rfl wnd7 rfl rfl hm.1 ?_
        exact r_ret C (by decide +kernel) rfl (by decide) (by decide) (eqP hPP ⟨rfl, ⟨MK.fin hm hts hx0, by rw [fi_ne (by decide), fi_ne (by decide)]; exact h50, by rw [fi_ne (by decide), fi_eq], fi_eq, Fm.setI (Fm.setI (Fm.row (Fm.row F2 (by rw [← F2.2.2.1, hm.g452]; decide)) (by rw [← F2.2.2.1, hm.g453]; decide)) (by decide)) (by decide)⟩⟩)
      · have hlt : k < tp.length := Nat.lt_of_not_le (fun e => c22 (nI_le e (by omega)))
        obtain ⟨f, rfl⟩ : ∃ f2, f = f2 + 1 := ⟨f - 1, by omega⟩
        refine r_aload_n (q := 26) (z := 0) C 0 rfl (by decide +kernel) rfl rfl ?_
        refine r_getR (q := 29) C 7 1 449 rfl (by decide +kernel) rfl (by decide) rfl rfl wf_X7_14 win7 hm.1 ?_
        refine r_iload_n (q := 30) (z := 2) C 2 rfl (by decide +kernel) rfl rfl ?_
        refine r_iald (q := 31) C rfl (by decide +kernel) hm.k449 (vp_in_nI (by omega) (by decide)) ?_
        rw [nI_clamp (by omega), htp k hlt]
        refine r_istore_n (q := 32) (z := 3) C 3 rfl (by decide +kernel) rfl (by decide) (by first | rfl | exact okst_rv rfl) ?_
        dsimp only [List.set]
        refine r_iload_n (q := 33) (z := 3) C 3 rfl (by decide +kernel) rfl rfl ?_
        refine r_bipush (q := 35) (z := 10) (v := 10) C rfl (by decide +kernel) (by decide) ?_
        refine r_icmp_eq (q := 38) (off := 9) (tgt := 44) C rfl (by decide +kernel) (by decide) (fun c35 => ?_) (fun c35 => ?_)
        · have hbl : sg tp k = 10 ∨ sg tp k = 32 := Or.inl ((nI_eq (b := 10) (by have := hlt127 k; omega) (by decide)).mp c35)
          have hx2 := lex_bl hlt hbl hx
          refine r_iinc (q := 47) (z := 1) (v := 1) C 2 rfl (by decide +kernel) rfl (by decide) (by decide) (by first | rfl | exact okst_rv rfl) ?_
          dsimp only [List.set]
          rw [nI_1]
          refine r_goto (off := -30) (tgt := 17) C (by decide +kernel) (by decide) ?_
          exact wX.sub (lsub_s (lsub_s (lsub_s (lsub_n (lsub_n (lsub_n (lsub_n (lsub_nil)))))))) (ih17 h2 ts (k + 1) f (by omega) F2 hz h50 hts (by omega) hx2 (by omega) (by omega))
        · refine r_iload_n (q := 39) (z := 3) C 3 rfl (by decide +kernel) rfl rfl ?_
          refine r_bipush (q := 41) (z := 32) (v := 32) C rfl (by decide +kernel) (by decide) ?_
          refine r_icmp_ne (q := 44) (off := 9) (tgt := 50) C rfl (by decide +kernel) (by decide) (fun c41 => ?_) (fun c41 => ?_)
          · have hbl : ¬ (sg tp k = 10 ∨ sg tp k = 32) := fun e => e.elim (fun e => c35 (by rw [e]; rfl)) (fun e => c41 (by rw [e]; rfl))
            have hx3 := lex_tk hlt hbl hx
            have J265 : ∀ (h3 : HP) (e : Nat) (v : Int64), (Fm [452, 453, 454] [450, 451, 455, 456] h h3) → (h3.fi 451 m = nI tp.length) → (h3.fi 450 m = 0) → (∀ i t, ts[i]? = some t → TKi h3 m i t) → (h3.ai (h3.fr 453 m) ts.length = nI k) → (tkR (tkn (sg tp) k e) (h3.ai (h3.fr 452 m) ts.length) v) → (te (sg tp) k = e) → (k < e ∧ e ≤ tp.length) → wX G Γ (qM G Γ PP 0 0) 0 0 (h3) 265 [some (rv m), some (.int (nI ts.length)), some (.int (nI e)), none, none, some (.long v), none] [] := by
              intro h3 e v F3 hz3 h503 hts3 hpl hR he hke
              have hm2 := hm
              have hm : LM h3.kd h3.gl h3.fr m := LM.fm F3 hm0
              refine r_aload_n (q := 266) (z := 0) C 0 rfl (by decide +kernel) rfl rfl ?_
              refine r_getR (q := 269) C 7 6 454 rfl (by decide +kernel) rfl (by decide) rfl rfl wf_X7_30 win7 hm.1 ?_
              refine r_iload_n (q := 270) (z := 1) C 1 rfl (by decide +kernel) rfl rfl ?_
              refine r_lload (q := 272) C 5 rfl (by decide +kernel) rfl ?_
              refine r_last (q := 273) C rfl (by decide +kernel) hm.k454 (vp_in_nI (by omega) (by decide)) ?_
              rw [stL_row, nI_clamp (by omega)]
              have F4 := Fm.rowL (f := vp_updL (h3.al (h3.fr 454 m)) ts.length v) F3 (by rw [← F3.2.2.1, hm.g454]; decide)
              have hz4 : (h3.rowL (h3.fr 454 m) (vp_updL (h3.al (h3.fr 454 m)) ts.length v)).fi 451 m = nI tp.length := hz3
              have h504 : (h3.rowL (h3.fr 454 m) (vp_updL (h3.al (h3.fr 454 m)) ts.length v)).fi 450 m = 0 := h503
              have hts4 := TKi.push hm hts3 hpl hR
              have hx4 := hx3
              rw [he] at hx4
              refine r_iinc (q := 276) (z := 1) (v := 1) C 1 rfl (by decide +kernel) rfl (by decide) (by decide) (by first | rfl | exact okst_rv rfl) ?_
              dsimp only [List.set]
              rw [nI_1]
              refine r_goto (off := -259) (tgt := 17) C (by decide +kernel) (by decide) ?_
              have z0 := ih17 _ (ts ++ [tkn (sg tp) k e]) e f (by omega) F4 hz4 h504 hts4 (by omega) hx4 (by omega) (by simp; omega)
              rw [show (ts ++ [tkn (sg tp) k e]).length = ts.length + 1 by simp] at z0
              exact wX.sub (lsub_s (lsub_s (lsub_s (lsub_n (lsub_n (lsub_n (lsub_n (lsub_nil)))))))) z0
            refine r_iload_n (q := 51) (z := 2) C 2 rfl (by decide +kernel) rfl rfl ?_
            refine r_istore (q := 53) C 4 rfl (by decide +kernel) (by decide) (by first | rfl | exact okst_rv rfl) ?_
            dsimp only [List.set]
            refine r_lconst (q := 54) (z := 0) (v := 0) C rfl (by decide +kernel) (by decide) ?_
            rw [show (0 : Int64) = lN 0 from rfl]
            refine r_lstore (q := 56) C 5 rfl (by decide +kernel) (by decide) (by first | rfl | exact okst_rv rfl) ?_
            dsimp only [List.set]
            refine r_aload_n (q := 57) (z := 0) C 0 rfl (by decide +kernel) rfl rfl ?_
            refine r_getR (q := 60) C 7 5 453 rfl (by decide +kernel) rfl (by decide) rfl rfl wf_X7_27 win7 hm.1 ?_
            refine r_iload_n (q := 61) (z := 1) C 1 rfl (by decide +kernel) rfl rfl ?_
            refine r_iload_n (q := 62) (z := 2) C 2 rfl (by decide +kernel) rfl rfl ?_
            refine r_iast (q := 63) C rfl (by decide +kernel) rfl hm.k453 (vp_in_nI (by omega) (by decide)) ?_
            rw [stI_row, nI_clamp (by omega)]
            refine r_iload_n (q := 64) (z := 3) C 3 rfl (by decide +kernel) rfl rfl ?_
            refine cS1I (q := 67) C R rfl (by decide +kernel) lk_X7_157 (c_X7_isLetter (by have := hlt127 k; omega)) (by decide) (by decide) (by decide) rfl (by first | exact Nat.le_of_ble_eq_true rfl | (simp only [List.map_cons, List.map_nil, List.sum_cons, List.sum_nil, rv_cat]; exact Nat.le_of_ble_eq_true rfl))  ?_
            rintro _ _ ⟨rfl, rfl⟩
            refine r_if_eq (q := 70) (off := 85) (tgt := 152) C rfl (by decide +kernel) (by decide) (fun c67 => ?_) (fun c67 => ?_)
            · have cl0 : isL (sg tp k) = false := (b2i_0 _).mp c67
              refine r_iload_n (q := 153) (z := 3) C 3 rfl (by decide +kernel) rfl rfl ?_
              refine cS1I (q := 156) C R rfl (by decide +kernel) lk_X7_169 (c_X7_isDigit (by have := hlt127 k; omega)) (by decide) (by decide) (by decide) rfl (by first | exact Nat.le_of_ble_eq_true rfl | (simp only [List.map_cons, List.map_nil, List.sum_cons, List.sum_nil, rv_cat]; exact Nat.le_of_ble_eq_true rfl))  ?_
              rintro _ _ ⟨rfl, rfl⟩
              refine r_if_eq (q := 159) (off := 84) (tgt := 240) C rfl (by decide +kernel) (by decide) (fun c156 => ?_) (fun c156 => ?_)
              · have cd0 : isD (sg tp k) = false := (b2i_0 _).mp c156
                refine r_iload_n (q := 241) (z := 3) C 3 rfl (by decide +kernel) rfl rfl ?_
                refine r_i2l (q := 242) C rfl (by decide +kernel) ?_
                rw [nI_l (by have := hlt127 k; omega)]
                refine r_lstore (q := 244) C 5 rfl (by decide +kernel) (by decide) (by first | rfl | exact okst_rv rfl) ?_
                dsimp only [List.set]
                refine r_aload_n (q := 245) (z := 0) C 0 rfl (by decide +kernel) rfl rfl ?_
                refine r_getR (q := 248) C 7 4 452 rfl (by decide +kernel) rfl (by decide) rfl rfl wf_X7_24 win7 hm.1 ?_
                refine r_iload_n (q := 249) (z := 1) C 1 rfl (by decide +kernel) rfl rfl ?_
                refine r_iload_n (q := 250) (z := 3) C 3 rfl (by decide +kernel) rfl rfl ?_
                refine cS1I (q := 253) C R rfl (by decide +kernel) lk_X7_176 (c_X7_isSignOf (by have := hlt127 k; omega)) (by decide) (by decide) (by decide) rfl (by first | exact Nat.le_of_ble_eq_true rfl | (simp only [List.map_cons, List.map_nil, List.sum_cons, List.sum_nil, rv_cat]; exact Nat.le_of_ble_eq_true rfl))  ?_
                rintro _ _ ⟨rfl, rfl⟩
                refine r_if_eq (q := 256) (off := 7) (tgt := 260) C rfl (by decide +kernel) (by decide) (fun c253 => ?_) (fun c253 => ?_)
                · have hso : (4 : Int32) = if sgk (sg tp k) = 14 then 4 else 3 := by have h9 := (b2i_0 _).mp c253; rw [if_pos (by simpa using h9)]
                  refine r_iconst (q := 261) (z := 4) (v := 4) C rfl (by decide +kernel) (by decide) ?_
                  refine r_iast (q := 262) C rfl (by decide +kernel) rfl hm.k452 (vp_in_nI (by omega) (by decide)) ?_
                  try simp only [fr_row]
                  rw [stI_row, nI_clamp (by omega)]
                  refine r_iinc (q := 265) (z := 1) (v := 1) C 2 rfl (by decide +kernel) rfl (by decide) (by decide) (by first | rfl | exact okst_rv rfl) ?_
                  dsimp only [List.set]
                  rw [nI_1]
                  exact wX.sub (lsub_s (lsub_s (lsub_s (lsub_n (lsub_n (lsub_s (lsub_n (lsub_nil)))))))) (J265 _ (k + 1) _ (Fm.row (Fm.row F2 (by rw [← F2.2.2.1, hm.g453]; decide)) (by rw [← F2.2.2.1, hm.g452]; decide)) hz h50 (fun i t ht => TKi.old hm (hts i t ht) (by have := (List.getElem?_eq_some_iff.mp ht).1; omega)) (by show (((h2.row (h2.fr 453 m) _).row (h2.fr 452 m) _).ai (h2.fr 453 m)) ts.length = _; rw [ai_row_ne (gl_ne hm.g453 hm.g452 (by decide)), ai_row_eq, pk_us]) (by show tkR _ (((h2.row (h2.fr 453 m) _).row (h2.fr 452 m) _).ai (h2.fr 452 m) ts.length) _; rw [ai_row_eq, pk_us]; exact (tkR_sign cl0 cd0 (hlt127 k) hso rfl)) (by unfold te; rw [if_neg (by rw [cl0]; decide), if_neg (by rw [cd0]; decide)]) ⟨by omega, by omega⟩)
                · have hso : (3 : Int32) = if sgk (sg tp k) = 14 then 4 else 3 := by have h9 := (b2i_n0 _).mp c253; rw [if_neg (by simpa using h9)]
                  refine r_iconst (q := 257) (z := 3) (v := 3) C rfl (by decide +kernel) (by decide) ?_
                  refine r_goto (off := 4) (tgt := 261) C (by decide +kernel) (by decide) ?_
                  refine r_iast (q := 262) C rfl (by decide +kernel) rfl hm.k452 (vp_in_nI (by omega) (by decide)) ?_
                  try simp only [fr_row]
                  rw [stI_row, nI_clamp (by omega)]
                  refine r_iinc (q := 265) (z := 1) (v := 1) C 2 rfl (by decide +kernel) rfl (by decide) (by decide) (by first | rfl | exact okst_rv rfl) ?_
                  dsimp only [List.set]
                  rw [nI_1]
                  exact wX.sub (lsub_s (lsub_s (lsub_s (lsub_n (lsub_n (lsub_s (lsub_n (lsub_nil)))))))) (J265 _ (k + 1) _ (Fm.row (Fm.row F2 (by rw [← F2.2.2.1, hm.g453]; decide)) (by rw [← F2.2.2.1, hm.g452]; decide)) hz h50 (fun i t ht => TKi.old hm (hts i t ht) (by have := (List.getElem?_eq_some_iff.mp ht).1; omega)) (by show (((h2.row (h2.fr 453 m) _).row (h2.fr 452 m) _).ai (h2.fr 453 m)) ts.length = _; rw [ai_row_ne (gl_ne hm.g453 hm.g452 (by decide)), ai_row_eq, pk_us]) (by show tkR _ (((h2.row (h2.fr 453 m) _).row (h2.fr 452 m) _).ai (h2.fr 452 m) ts.length) _; rw [ai_row_eq, pk_us]; exact (tkR_sign cl0 cd0 (hlt127 k) hso rfl)) (by unfold te; rw [if_neg (by rw [cl0]; decide), if_neg (by rw [cd0]; decide)]) ⟨by omega, by omega⟩)
              · have cl : isD (sg tp k) = true := (b2i_n0 _).mp c156
                have L159 : ∀ (fuel159 : Nat) (k2 : Nat), tp.length - k2 < fuel159 → (k ≤ k2) → (k2 ≤ tp.length) → (∀ j, k ≤ j → j < k2 → isD (sg tp j) = true) → wX G Γ (qM G Γ PP 0 0) 0 0 (h2.row (h2.fr 453 m) (upd (h2.ai (h2.fr 453 m)) ts.length (nI k))) 159 [some (rv m), some (.int (nI ts.length)), some (.int (nI k2)), some (.int (nI (sg tp k))), some (.int (nI k)), some (.long (lN (num (sg tp) k (if 4 < k2 - k then 4 else k2 - k)))), none] [] := by
                  intro fuel159
                  induction fuel159 with
                  | zero =>
                    intro k2 hm159
                    exact absurd hm159 (Nat.not_lt_zero _)
                  | succ fuel159 ih159 =>
                    intro k2 hm159 hk1 hk2 hall
                    refine r_iload_n (q := 160) (z := 2) C 2 rfl (by decide +kernel) rfl rfl ?_
                    refine r_aload_n (q := 161) (z := 0) C 0 rfl (by decide +kernel) rfl rfl ?_
                    refine r_getI (q := 164) C 7 3 451 rfl (by decide +kernel) rfl (by decide) rfl rfl wf_X7_161 win7 hm.1 ?_
                    rw [fi_row, hz]
                    refine r_icmp_ge (q := 167) (off := 54) (tgt := 218) C rfl (by decide +kernel) (by decide) (fun c164 => ?_) (fun c164 => ?_)
                    · have ek2 : k2 = tp.length := by have := (nI_leI (by omega) (by omega)).mp c164; omega
                      have hend : isD (sg tp k2) = false := by rw [ek2, sg_out (Nat.le_refl _)]; rfl
                      have hkk : k < k2 := by
                        rcases Nat.lt_or_ge k k2 with e | e
                        · exact e
                        · rw [show k2 = k by omega, cl] at hend; cases hend
                      refine r_aload_n (q := 219) (z := 0) C 0 rfl (by decide +kernel) rfl rfl ?_
                      refine r_getR (q := 222) C 7 4 452 rfl (by decide +kernel) rfl (by decide) rfl rfl wf_X7_24 win7 hm.1 ?_
                      refine r_iload_n (q := 223) (z := 1) C 1 rfl (by decide +kernel) rfl rfl ?_
                      refine r_iload_n (q := 224) (z := 2) C 2 rfl (by decide +kernel) rfl rfl ?_
                      refine r_iload (q := 226) C 4 rfl (by decide +kernel) rfl ?_
                      refine r_isub (q := 227) C rfl (by decide +kernel) ?_
                      rw [pk_sub hk1]
                      refine r_iconst (q := 228) (z := 4) (v := 4) C rfl (by decide +kernel) (by decide) ?_
                      refine r_icmp_le (q := 231) (off := 7) (tgt := 235) C rfl (by decide +kernel) (by decide) (fun c228 => ?_) (fun c228 => ?_)
                      · have hso : (2 : Int32) = if 4 < k2 - k then 4 else 2 := by rw [if_neg (by have := (nI_leI (b := 4) (by omega) (by omega)).mp c228; omega)]
                        refine r_iconst (q := 236) (z := 2) (v := 2) C rfl (by decide +kernel) (by decide) ?_
                        refine r_iast (q := 237) C rfl (by decide +kernel) rfl hm.k452 (vp_in_nI (by omega) (by decide)) ?_
                        try simp only [fr_row]
                        rw [stI_row, nI_clamp (by omega)]
                        refine r_goto (off := 28) (tgt := 265) C (by decide +kernel) (by decide) ?_
                        exact wX.sub (lsub_s (lsub_s (lsub_s (lsub_n (lsub_n (lsub_s (lsub_n (lsub_nil)))))))) (J265 _ k2 _ (Fm.row (Fm.row F2 (by rw [← F2.2.2.1, hm.g453]; decide)) (by rw [← F2.2.2.1, hm.g452]; decide)) hz h50 (fun i t ht => TKi.old hm (hts i t ht) (by have := (List.getElem?_eq_some_iff.mp ht).1; omega)) (by show (((h2.row (h2.fr 453 m) _).row (h2.fr 452 m) _).ai (h2.fr 453 m)) ts.length = _; rw [ai_row_ne (gl_ne hm.g453 hm.g452 (by decide)), ai_row_eq, pk_us]) (by show tkR _ (((h2.row (h2.fr 453 m) _).row (h2.fr 452 m) _).ai (h2.fr 452 m) ts.length) _; rw [ai_row_eq, pk_us]; exact (tkR_num cl0 cl hso rfl)) (by unfold te; rw [if_neg (by rw [cl0]; decide), if_pos cl]; exact rE_eq 601 k (by omega) hall hend (by omega)) ⟨by omega, by omega⟩)
                      · have hso : (4 : Int32) = if 4 < k2 - k then 4 else 2 := by rw [if_pos (Nat.lt_of_not_le (fun e => c228 (nI_le (b := 4) e (by omega))))]
                        refine r_iconst (q := 232) (z := 4) (v := 4) C rfl (by decide +kernel) (by decide) ?_
                        refine r_goto (off := 4) (tgt := 236) C (by decide +kernel) (by decide) ?_
                        refine r_iast (q := 237) C rfl (by decide +kernel) rfl hm.k452 (vp_in_nI (by omega) (by decide)) ?_
                        try simp only [fr_row]
                        rw [stI_row, nI_clamp (by omega)]
                        refine r_goto (off := 28) (tgt := 265) C (by decide +kernel) (by decide) ?_
                        exact wX.sub (lsub_s (lsub_s (lsub_s (lsub_n (lsub_n (lsub_s (lsub_n (lsub_nil)))))))) (J265 _ k2 _ (Fm.row (Fm.row F2 (by rw [← F2.2.2.1, hm.g453]; decide)) (by rw [← F2.2.2.1, hm.g452]; decide)) hz h50 (fun i t ht => TKi.old hm (hts i t ht) (by have := (List.getElem?_eq_some_iff.mp ht).1; omega)) (by show (((h2.row (h2.fr 453 m) _).row (h2.fr 452 m) _).ai (h2.fr 453 m)) ts.length = _; rw [ai_row_ne (gl_ne hm.g453 hm.g452 (by decide)), ai_row_eq, pk_us]) (by show tkR _ (((h2.row (h2.fr 453 m) _).row (h2.fr 452 m) _).ai (h2.fr 452 m) ts.length) _; rw [ai_row_eq, pk_us]; exact (tkR_num cl0 cl hso rfl)) (by unfold te; rw [if_neg (by rw [cl0]; decide), if_pos cl]; exact rE_eq 601 k (by omega) hall hend (by omega)) ⟨by omega, by omega⟩)
                    · have hlt2 : k2 < tp.length := Nat.lt_of_not_le (fun e => c164 (nI_le e (by omega)))
                      refine r_aload_n (q := 168) (z := 0) C 0 rfl (by decide +kernel) rfl rfl ?_
                      refine r_getR (q := 171) C 7 1 449 rfl (by decide +kernel) rfl (by decide) rfl rfl wf_X7_14 win7 hm.1 ?_
                      refine r_iload_n (q := 172) (z := 2) C 2 rfl (by decide +kernel) rfl rfl ?_
                      refine r_iald (q := 173) C rfl (by decide +kernel) hm.k449 (vp_in_nI (by omega) (by decide)) ?_
                      try simp only [fr_row]
                      rw [nI_clamp (by omega), ai_row_ne n449, htp _ hlt2]
                      refine cS1I (q := 176) C R rfl (by decide +kernel) lk_X7_169 (c_X7_isDigit (by have := hlt127 k2; omega)) (by decide) (by decide) (by decide) rfl (by first | exact Nat.le_of_ble_eq_true rfl | (simp only [List.map_cons, List.map_nil, List.sum_cons, List.sum_nil, rv_cat]; exact Nat.le_of_ble_eq_true rfl))  ?_
                      rintro _ _ ⟨rfl, rfl⟩
                      refine r_if_eq (q := 179) (off := 42) (tgt := 218) C rfl (by decide +kernel) (by decide) (fun c176 => ?_) (fun c176 => ?_)
                      · have hend : isD (sg tp k2) = false := (b2i_0 _).mp c176
                        have hkk : k < k2 := by
                          rcases Nat.lt_or_ge k k2 with e | e
                          · exact e
                          · rw [show k2 = k by omega, cl] at hend; cases hend
                        refine r_aload_n (q := 219) (z := 0) C 0 rfl (by decide +kernel) rfl rfl ?_
                        refine r_getR (q := 222) C 7 4 452 rfl (by decide +kernel) rfl (by decide) rfl rfl wf_X7_24 win7 hm.1 ?_
                        refine r_iload_n (q := 223) (z := 1) C 1 rfl (by decide +kernel) rfl rfl ?_
                        refine r_iload_n (q := 224) (z := 2) C 2 rfl (by decide +kernel) rfl rfl ?_
                        refine r_iload (q := 226) C 4 rfl (by decide +kernel) rfl ?_
                        refine r_isub (q := 227) C rfl (by decide +kernel) ?_
                        rw [pk_sub hk1]
                        refine r_iconst (q := 228) (z := 4) (v := 4) C rfl (by decide +kernel) (by decide) ?_
                        refine r_icmp_le (q := 231) (off := 7) (tgt := 235) C rfl (by decide +kernel) (by decide) (fun c228 => ?_) (fun c228 => ?_)
                        · have hso : (2 : Int32) = if 4 < k2 - k then 4 else 2 := by rw [if_neg (by have := (nI_leI (b := 4) (by omega) (by omega)).mp c228; omega)]
                          refine r_iconst (q := 236) (z := 2) (v := 2) C rfl (by decide +kernel) (by decide) ?_
                          refine r_iast (q := 237) C rfl (by decide +kernel) rfl hm.k452 (vp_in_nI (by omega) (by decide)) ?_
                          try simp only [fr_row]
                          rw [stI_row, nI_clamp (by omega)]
                          refine r_goto (off := 28) (tgt := 265) C (by decide +kernel) (by decide) ?_
                          exact wX.sub (lsub_s (lsub_s (lsub_s (lsub_n (lsub_n (lsub_s (lsub_n (lsub_nil)))))))) (J265 _ k2 _ (Fm.row (Fm.row F2 (by rw [← F2.2.2.1, hm.g453]; decide)) (by rw [← F2.2.2.1, hm.g452]; decide)) hz h50 (fun i t ht => TKi.old hm (hts i t ht) (by have := (List.getElem?_eq_some_iff.mp ht).1; omega)) (by show (((h2.row (h2.fr 453 m) _).row (h2.fr 452 m) _).ai (h2.fr 453 m)) ts.length = _; rw [ai_row_ne (gl_ne hm.g453 hm.g452 (by decide)), ai_row_eq, pk_us]) (by show tkR _ (((h2.row (h2.fr 453 m) _).row (h2.fr 452 m) _).ai (h2.fr 452 m) ts.length) _; rw [ai_row_eq, pk_us]; exact (tkR_num cl0 cl hso rfl)) (by unfold te; rw [if_neg (by rw [cl0]; decide), if_pos cl]; exact rE_eq 601 k (by omega) hall hend (by omega)) ⟨by omega, by omega⟩)
                        · have hso : (4 : Int32) = if 4 < k2 - k then 4 else 2 := by rw [if_pos (Nat.lt_of_not_le (fun e => c228 (nI_le (b := 4) e (by omega))))]
                          refine r_iconst (q := 232) (z := 4) (v := 4) C rfl (by decide +kernel) (by decide) ?_
                          refine r_goto (off := 4) (tgt := 236) C (by decide +kernel) (by decide) ?_
                          refine r_iast (q := 237) C rfl (by decide +kernel) rfl hm.k452 (vp_in_nI (by omega) (by decide)) ?_
                          try simp only [fr_row]
                          rw [stI_row, nI_clamp (by omega)]
                          refine r_goto (off := 28) (tgt := 265) C (by decide +kernel) (by decide) ?_
                          exact wX.sub (lsub_s (lsub_s (lsub_s (lsub_n (lsub_n (lsub_s (lsub_n (lsub_nil)))))))) (J265 _ k2 _ (Fm.row (Fm.row F2 (by rw [← F2.2.2.1, hm.g453]; decide)) (by rw [← F2.2.2.1, hm.g452]; decide)) hz h50 (fun i t ht => TKi.old hm (hts i t ht) (by have := (List.getElem?_eq_some_iff.mp ht).1; omega)) (by show (((h2.row (h2.fr 453 m) _).row (h2.fr 452 m) _).ai (h2.fr 453 m)) ts.length = _; rw [ai_row_ne (gl_ne hm.g453 hm.g452 (by decide)), ai_row_eq, pk_us]) (by show tkR _ (((h2.row (h2.fr 453 m) _).row (h2.fr 452 m) _).ai (h2.fr 452 m) ts.length) _; rw [ai_row_eq, pk_us]; exact (tkR_num cl0 cl hso rfl)) (by unfold te; rw [if_neg (by rw [cl0]; decide), if_pos cl]; exact rE_eq 601 k (by omega) hall hend (by omega)) ⟨by omega, by omega⟩)
                      · have hall2 : ∀ j, k ≤ j → j < k2 + 1 → isD (sg tp j) = true := fun j h1 h2 => by
                          by_cases e : j = k2
                          · rw [e]; exact (b2i_n0 _).mp c176
                          · exact hall j h1 (by omega)
                        refine r_iload_n (q := 180) (z := 2) C 2 rfl (by decide +kernel) rfl rfl ?_
                        refine r_iload (q := 182) C 4 rfl (by decide +kernel) rfl ?_
                        refine r_isub (q := 183) C rfl (by decide +kernel) ?_
                        rw [pk_sub hk1]
                        refine r_iconst (q := 184) (z := 4) (v := 4) C rfl (by decide +kernel) (by decide) ?_
                        refine r_icmp_ge (q := 187) (off := 24) (tgt := 208) C rfl (by decide +kernel) (by decide) (fun c184 => ?_) (fun c184 => ?_)
                        · have c184 : 4 ≤ k2 - k := (nI_leI (a := 4) (by omega) (by omega)).mp c184
                          have ev : lN (num (sg tp) k (if 4 < k2 - k then 4 else k2 - k)) = lN (num (sg tp) k (if 4 < k2 + 1 - k then 4 else k2 + 1 - k)) := by
                            rw [if_pos (show 4 < k2 + 1 - k by omega)]
                            by_cases e : 4 < k2 - k
                            · rw [if_pos e]
                            · rw [if_neg e, show k2 - k = 4 by omega]
                          refine r_lload (q := 210) C 5 rfl (by decide +kernel) rfl ?_
                          refine r_lstore (q := 212) C 5 rfl (by decide +kernel) (by decide) (by first | rfl | exact okst_rv rfl) ?_
                          dsimp only [List.set]
                          refine r_iinc (q := 215) (z := 1) (v := 1) C 2 rfl (by decide +kernel) rfl (by decide) (by decide) (by first | rfl | exact okst_rv rfl) ?_
                          dsimp only [List.set]
                          rw [nI_1]
                          refine r_goto (off := -56) (tgt := 159) C (by decide +kernel) (by decide) ?_
                          have z0 := ih159 (k2 + 1) (by omega) (by omega) (by omega) hall2
                          rw [← ev] at z0
                          exact z0
                        · have c184 : k2 - k < 4 := Nat.lt_of_not_le (fun e => c184 (nI_le (a := 4) e (by omega)))
                          refine r_ldc2 (q := 190) C rfl (by decide +kernel) wl_X7_172 ?_
                          rw [show (10 : Int64) = lN 10 from rfl]
                          refine r_lload (q := 192) C 5 rfl (by decide +kernel) rfl ?_
                          refine r_lmul (q := 193) C rfl (by decide +kernel) ?_
                          rw [lN_mul]
                          refine r_aload_n (q := 194) (z := 0) C 0 rfl (by decide +kernel) rfl rfl ?_
                          refine r_getR (q := 197) C 7 1 449 rfl (by decide +kernel) rfl (by decide) rfl rfl wf_X7_14 win7 hm.1 ?_
                          refine r_iload_n (q := 198) (z := 2) C 2 rfl (by decide +kernel) rfl rfl ?_
                          refine r_iald (q := 199) C rfl (by decide +kernel) hm.k449 (vp_in_nI (by omega) (by decide)) ?_
                          try simp only [fr_row]
                          rw [nI_clamp (by omega), ai_row_ne n449, htp _ hlt2]
                          refine r_i2l (q := 200) C rfl (by decide +kernel) ?_
                          rw [nI_l (by have := hlt127 k2; omega)]
                          refine r_ladd (q := 201) C rfl (by decide +kernel) ?_
                          rw [lN_add]
                          refine r_ldc2 (q := 204) C rfl (by decide +kernel) wl_X7_174 ?_
                          rw [show (48 : Int64) = lN 48 from rfl]
                          refine r_lsub (q := 205) C rfl (by decide +kernel) ?_
                          have h48 : 48 ≤ sg tp k2 := by have := (b2i_n0 _).mp c176; simp only [isD, decide_eq_true_eq] at this; omega
                          rw [lN_sub (by omega)]
                          have ev : lN (10 * num (sg tp) k (if 4 < k2 - k then 4 else k2 - k) + sg tp k2 - 48) = lN (num (sg tp) k (if 4 < k2 + 1 - k then 4 else k2 + 1 - k)) := by
                            rw [if_neg (show ¬ 4 < k2 - k by omega), if_neg (show ¬ 4 < k2 + 1 - k by omega), show k2 + 1 - k = (k2 - k) + 1 by omega, num, show k + (k2 - k) = k2 by omega, Nat.add_sub_assoc h48]
                          refine r_goto (off := 5) (tgt := 210) C (by decide +kernel) (by decide) ?_
                          refine r_lstore (q := 212) C 5 rfl (by decide +kernel) (by decide) (by first | rfl | exact okst_rv rfl) ?_
                          dsimp only [List.set]
                          refine r_iinc (q := 215) (z := 1) (v := 1) C 2 rfl (by decide +kernel) rfl (by decide) (by decide) (by first | rfl | exact okst_rv rfl) ?_
                          dsimp only [List.set]
                          rw [nI_1]
                          refine r_goto (off := -56) (tgt := 159) C (by decide +kernel) (by decide) ?_
                          have z0 := ih159 (k2 + 1) (by omega) (by omega) (by omega) hall2
                          rw [← ev] at z0
                          exact z0
                have z0 := L159 (tp.length + 1) k (by omega) (Nat.le_refl _) (by omega) (fun j h1 h2 => absurd h1 (by omega))
                rw [show k - k = 0 by omega, if_neg (by decide)] at z0
                exact z0
            · have cl : isL (sg tp k) = true := (b2i_n0 _).mp c67
              have L70 : ∀ (fuel70 : Nat) (k2 : Nat), tp.length - k2 < fuel70 → (k ≤ k2) → (k2 ≤ tp.length) → (∀ j, k ≤ j → j < k2 → isL (sg tp j) = true) → wX G Γ (qM G Γ PP 0 0) 0 0 (h2.row (h2.fr 453 m) (upd (h2.ai (h2.fr 453 m)) ts.length (nI k))) 70 [some (rv m), some (.int (nI ts.length)), some (.int (nI k2)), some (.int (nI (sg tp k))), some (.int (nI k)), some (.long (lN (hsh (sg tp) k (if 8 < k2 - k then 8 else k2 - k)))), none] [] := by
                intro fuel70
                induction fuel70 with
                | zero =>
                  intro k2 hm70
                  exact absurd hm70 (Nat.not_lt_zero _)
                | succ fuel70 ih70 =>
                  intro k2 hm70 hk1 hk2 hall
                  refine r_iload_n (q := 71) (z := 2) C 2 rfl (by decide +kernel) rfl rfl ?_
                  refine r_aload_n (q := 72) (z := 0) C 0 rfl (by decide +kernel) rfl rfl ?_
                  refine r_getI (q := 75) C 7 3 451 rfl (by decide +kernel) rfl (by decide) rfl rfl wf_X7_161 win7 hm.1 ?_
                  rw [fi_row, hz]
                  refine r_icmp_ge (q := 78) (off := 54) (tgt := 129) C rfl (by decide +kernel) (by decide) (fun c75 => ?_) (fun c75 => ?_)
                  · have ek2 : k2 = tp.length := by have := (nI_leI (by omega) (by omega)).mp c75; omega
                    have hend : isL (sg tp k2) = false := by rw [ek2, sg_out (Nat.le_refl _)]; rfl
                    have hkk : k < k2 := by
                      rcases Nat.lt_or_ge k k2 with e | e
                      · exact e
                      · rw [show k2 = k by omega, cl] at hend; cases hend
                    refine r_aload_n (q := 130) (z := 0) C 0 rfl (by decide +kernel) rfl rfl ?_
                    refine r_getR (q := 133) C 7 4 452 rfl (by decide +kernel) rfl (by decide) rfl rfl wf_X7_24 win7 hm.1 ?_
                    refine r_iload_n (q := 134) (z := 1) C 1 rfl (by decide +kernel) rfl rfl ?_
                    refine r_iload_n (q := 135) (z := 2) C 2 rfl (by decide +kernel) rfl rfl ?_
                    refine r_iload (q := 137) C 4 rfl (by decide +kernel) rfl ?_
                    refine r_isub (q := 138) C rfl (by decide +kernel) ?_
                    rw [pk_sub hk1]
                    refine r_bipush (q := 140) (z := 8) (v := 8) C rfl (by decide +kernel) (by decide) ?_
                    refine r_icmp_le (q := 143) (off := 7) (tgt := 147) C rfl (by decide +kernel) (by decide) (fun c140 => ?_) (fun c140 => ?_)
                    · have hso : (1 : Int32) = if 8 < k2 - k then 4 else 1 := by rw [if_neg (by have := (nI_leI (b := 8) (by omega) (by omega)).mp c140; omega)]
                      refine r_iconst (q := 148) (z := 1) (v := 1) C rfl (by decide +kernel) (by decide) ?_
                      refine r_iast (q := 149) C rfl (by decide +kernel) rfl hm.k452 (vp_in_nI (by omega) (by decide)) ?_
                      try simp only [fr_row]
                      rw [stI_row, nI_clamp (by omega)]
                      refine r_goto (off := 116) (tgt := 265) C (by decide +kernel) (by decide) ?_
                      exact wX.sub (lsub_s (lsub_s (lsub_s (lsub_n (lsub_n (lsub_s (lsub_n (lsub_nil)))))))) (J265 _ k2 _ (Fm.row (Fm.row F2 (by rw [← F2.2.2.1, hm.g453]; decide)) (by rw [← F2.2.2.1, hm.g452]; decide)) hz h50 (fun i t ht => TKi.old hm (hts i t ht) (by have := (List.getElem?_eq_some_iff.mp ht).1; omega)) (by show (((h2.row (h2.fr 453 m) _).row (h2.fr 452 m) _).ai (h2.fr 453 m)) ts.length = _; rw [ai_row_ne (gl_ne hm.g453 hm.g452 (by decide)), ai_row_eq, pk_us]) (by show tkR _ (((h2.row (h2.fr 453 m) _).row (h2.fr 452 m) _).ai (h2.fr 452 m) ts.length) _; rw [ai_row_eq, pk_us]; exact (tkR_word cl (by omega) hall hso rfl)) (by unfold te; rw [if_pos cl]; exact rE_eq 601 k (by omega) hall hend (by omega)) ⟨by omega, by omega⟩)
                    · have hso : (4 : Int32) = if 8 < k2 - k then 4 else 1 := by rw [if_pos (Nat.lt_of_not_le (fun e => c140 (nI_le (b := 8) e (by omega))))]
                      refine r_iconst (q := 144) (z := 4) (v := 4) C rfl (by decide +kernel) (by decide) ?_
                      refine r_goto (off := 4) (tgt := 148) C (by decide +kernel) (by decide) ?_
                      refine r_iast (q := 149) C rfl (by decide +kernel) rfl hm.k452 (vp_in_nI (by omega) (by decide)) ?_
                      try simp only [fr_row]
                      rw [stI_row, nI_clamp (by omega)]
                      refine r_goto (off := 116) (tgt := 265) C (by decide +kernel) (by decide) ?_
                      exact wX.sub (lsub_s (lsub_s (lsub_s (lsub_n (lsub_n (lsub_s (lsub_n (lsub_nil)))))))) (J265 _ k2 _ (Fm.row (Fm.row F2 (by rw [← F2.2.2.1, hm.g453]; decide)) (by rw [← F2.2.2.1, hm.g452]; decide)) hz h50 (fun i t ht => TKi.old hm (hts i t ht) (by have := (List.getElem?_eq_some_iff.mp ht).1; omega)) (by show (((h2.row (h2.fr 453 m) _).row (h2.fr 452 m) _).ai (h2.fr 453 m)) ts.length = _; rw [ai_row_ne (gl_ne hm.g453 hm.g452 (by decide)), ai_row_eq, pk_us]) (by show tkR _ (((h2.row (h2.fr 453 m) _).row (h2.fr 452 m) _).ai (h2.fr 452 m) ts.length) _; rw [ai_row_eq, pk_us]; exact (tkR_word cl (by omega) hall hso rfl)) (by unfold te; rw [if_pos cl]; exact rE_eq 601 k (by omega) hall hend (by omega)) ⟨by omega, by omega⟩)
                  · have hlt2 : k2 < tp.length := Nat.lt_of_not_le (fun e => c75 (nI_le e (by omega)))
                    refine r_aload_n (q := 79) (z := 0) C 0 rfl (by decide +kernel) rfl rfl ?_
                    refine r_getR (q := 82) C 7 1 449 rfl (by decide +kernel) rfl (by decide) rfl rfl wf_X7_14 win7 hm.1 ?_
                    refine r_iload_n (q := 83) (z := 2) C 2 rfl (by decide +kernel) rfl rfl ?_
                    refine r_iald (q := 84) C rfl (by decide +kernel) hm.k449 (vp_in_nI (by omega) (by decide)) ?_
                    try simp only [fr_row]
                    rw [nI_clamp (by omega), ai_row_ne n449, htp _ hlt2]
                    refine cS1I (q := 87) C R rfl (by decide +kernel) lk_X7_157 (c_X7_isLetter (by have := hlt127 k2; omega)) (by decide) (by decide) (by decide) rfl (by first | exact Nat.le_of_ble_eq_true rfl | (simp only [List.map_cons, List.map_nil, List.sum_cons, List.sum_nil, rv_cat]; exact Nat.le_of_ble_eq_true rfl))  ?_
                    rintro _ _ ⟨rfl, rfl⟩
                    refine r_if_eq (q := 90) (off := 42) (tgt := 129) C rfl (by decide +kernel) (by decide) (fun c87 => ?_) (fun c87 => ?_)
                    · have hend : isL (sg tp k2) = false := (b2i_0 _).mp c87
                      have hkk : k < k2 := by
                        rcases Nat.lt_or_ge k k2 with e | e
                        · exact e
                        · rw [show k2 = k by omega, cl] at hend; cases hend
                      refine r_aload_n (q := 130) (z := 0) C 0 rfl (by decide +kernel) rfl rfl ?_
                      refine r_getR (q := 133) C 7 4 452 rfl (by decide +kernel) rfl (by decide) rfl rfl wf_X7_24 win7 hm.1 ?_
                      refine r_iload_n (q := 134) (z := 1) C 1 rfl (by decide +kernel) rfl rfl ?_
                      refine r_iload_n (q := 135) (z := 2) C 2 rfl (by decide +kernel) rfl rfl ?_
                      refine r_iload (q := 137) C 4 rfl (by decide +kernel) rfl ?_
                      refine r_isub (q := 138) C rfl (by decide +kernel) ?_
                      rw [pk_sub hk1]
                      refine r_bipush (q := 140) (z := 8) (v := 8) C rfl (by decide +kernel) (by decide) ?_
                      refine r_icmp_le (q := 143) (off := 7) (tgt := 147) C rfl (by decide +kernel) (by decide) (fun c140 => ?_) (fun c140 => ?_)
                      · have hso : (1 : Int32) = if 8 < k2 - k then 4 else 1 := by rw [if_neg (by have := (nI_leI (b := 8) (by omega) (by omega)).mp c140; omega)]
                        refine r_iconst (q := 148) (z := 1) (v := 1) C rfl (by decide +kernel) (by decide) ?_
                        refine r_iast (q := 149) C rfl (by decide +kernel) rfl hm.k452 (vp_in_nI (by omega) (by decide)) ?_
                        try simp only [fr_row]
                        rw [stI_row, nI_clamp (by omega)]
                        refine r_goto (off := 116) (tgt := 265) C (by decide +kernel) (by decide) ?_
                        exact wX.sub (lsub_s (lsub_s (lsub_s (lsub_n (lsub_n (lsub_s (lsub_n (lsub_nil)))))))) (J265 _ k2 _ (Fm.row (Fm.row F2 (by rw [← F2.2.2.1, hm.g453]; decide)) (by rw [← F2.2.2.1, hm.g452]; decide)) hz h50 (fun i t ht => TKi.old hm (hts i t ht) (by have := (List.getElem?_eq_some_iff.mp ht).1; omega)) (by show (((h2.row (h2.fr 453 m) _).row (h2.fr 452 m) _).ai (h2.fr 453 m)) ts.length = _; rw [ai_row_ne (gl_ne hm.g453 hm.g452 (by decide)), ai_row_eq, pk_us]) (by show tkR _ (((h2.row (h2.fr 453 m) _).row (h2.fr 452 m) _).ai (h2.fr 452 m) ts.length) _; rw [ai_row_eq, pk_us]; exact (tkR_word cl (by omega) hall hso rfl)) (by unfold te; rw [if_pos cl]; exact rE_eq 601 k (by omega) hall hend (by omega)) ⟨by omega, by omega⟩)
                      · have hso : (4 : Int32) = if 8 < k2 - k then 4 else 1 := by rw [if_pos (Nat.lt_of_not_le (fun e => c140 (nI_le (b := 8) e (by omega))))]
                        refine r_iconst (q := 144) (z := 4) (v := 4) C rfl (by decide +kernel) (by decide) ?_
                        refine r_goto (off := 4) (tgt := 148) C (by decide +kernel) (by decide) ?_
                        refine r_iast (q := 149) C rfl (by decide +kernel) rfl hm.k452 (vp_in_nI (by omega) (by decide)) ?_
                        try simp only [fr_row]
                        rw [stI_row, nI_clamp (by omega)]
                        refine r_goto (off := 116) (tgt := 265) C (by decide +kernel) (by decide) ?_
                        exact wX.sub (lsub_s (lsub_s (lsub_s (lsub_n (lsub_n (lsub_s (lsub_n (lsub_nil)))))))) (J265 _ k2 _ (Fm.row (Fm.row F2 (by rw [← F2.2.2.1, hm.g453]; decide)) (by rw [← F2.2.2.1, hm.g452]; decide)) hz h50 (fun i t ht => TKi.old hm (hts i t ht) (by have := (List.getElem?_eq_some_iff.mp ht).1; omega)) (by show (((h2.row (h2.fr 453 m) _).row (h2.fr 452 m) _).ai (h2.fr 453 m)) ts.length = _; rw [ai_row_ne (gl_ne hm.g453 hm.g452 (by decide)), ai_row_eq, pk_us]) (by show tkR _ (((h2.row (h2.fr 453 m) _).row (h2.fr 452 m) _).ai (h2.fr 452 m) ts.length) _; rw [ai_row_eq, pk_us]; exact (tkR_word cl (by omega) hall hso rfl)) (by unfold te; rw [if_pos cl]; exact rE_eq 601 k (by omega) hall hend (by omega)) ⟨by omega, by omega⟩)
                    · have hall2 : ∀ j, k ≤ j → j < k2 + 1 → isL (sg tp j) = true := fun j h1 h2 => by
                        by_cases e : j = k2
                        · rw [e]; exact (b2i_n0 _).mp c87
                        · exact hall j h1 (by omega)
                      refine r_iload_n (q := 91) (z := 2) C 2 rfl (by decide +kernel) rfl rfl ?_
                      refine r_iload (q := 93) C 4 rfl (by decide +kernel) rfl ?_
                      refine r_isub (q := 94) C rfl (by decide +kernel) ?_
                      rw [pk_sub hk1]
                      refine r_bipush (q := 96) (z := 8) (v := 8) C rfl (by decide +kernel) (by decide) ?_
                      refine r_icmp_ge (q := 99) (off := 23) (tgt := 119) C rfl (by decide +kernel) (by decide) (fun c96 => ?_) (fun c96 => ?_)
                      · have c96 : 8 ≤ k2 - k := (nI_leI (a := 8) (by omega) (by omega)).mp c96
                        have ev : lN (hsh (sg tp) k (if 8 < k2 - k then 8 else k2 - k)) = lN (hsh (sg tp) k (if 8 < k2 + 1 - k then 8 else k2 + 1 - k)) := by
                          rw [if_pos (show 8 < k2 + 1 - k by omega)]
                          by_cases e : 8 < k2 - k
                          · rw [if_pos e]
                          · rw [if_neg e, show k2 - k = 8 by omega]
                        refine r_lload (q := 121) C 5 rfl (by decide +kernel) rfl ?_
                        refine r_lstore (q := 123) C 5 rfl (by decide +kernel) (by decide) (by first | rfl | exact okst_rv rfl) ?_
                        dsimp only [List.set]
                        refine r_iinc (q := 126) (z := 1) (v := 1) C 2 rfl (by decide +kernel) rfl (by decide) (by decide) (by first | rfl | exact okst_rv rfl) ?_
                        dsimp only [List.set]
                        rw [nI_1]
                        refine r_goto (off := -56) (tgt := 70) C (by decide +kernel) (by decide) ?_
                        have z0 := ih70 (k2 + 1) (by omega) (by omega) (by omega) hall2
                        rw [← ev] at z0
                        exact z0
                      · have c96 : k2 - k < 8 := Nat.lt_of_not_le (fun e => c96 (nI_le (a := 8) e (by omega)))
                        refine r_ldc2 (q := 102) C rfl (by decide +kernel) wl_X7_164 ?_
                        rw [show (37 : Int64) = lN 37 from rfl]
                        refine r_lload (q := 104) C 5 rfl (by decide +kernel) rfl ?_
                        refine r_lmul (q := 105) C rfl (by decide +kernel) ?_
                        rw [lN_mul]
                        refine r_aload_n (q := 106) (z := 0) C 0 rfl (by decide +kernel) rfl rfl ?_
                        refine r_getR (q := 109) C 7 1 449 rfl (by decide +kernel) rfl (by decide) rfl rfl wf_X7_14 win7 hm.1 ?_
                        refine r_iload_n (q := 110) (z := 2) C 2 rfl (by decide +kernel) rfl rfl ?_
                        refine r_iald (q := 111) C rfl (by decide +kernel) hm.k449 (vp_in_nI (by omega) (by decide)) ?_
                        try simp only [fr_row]
                        rw [nI_clamp (by omega), ai_row_ne n449, htp _ hlt2]
                        refine cS1I (q := 114) C R rfl (by decide +kernel) lk_X7_166 (c_X7_rank ((b2i_n0 _).mp c87)) (by decide) (by decide) (by decide) rfl (by first | exact Nat.le_of_ble_eq_true rfl | (simp only [List.map_cons, List.map_nil, List.sum_cons, List.sum_nil, rv_cat]; exact Nat.le_of_ble_eq_true rfl))  ?_
                        rintro _ _ ⟨rfl, rfl⟩
                        refine r_i2l (q := 115) C rfl (by decide +kernel) ?_
                        rw [nI_l (by have := hlt127 k2; omega)]
                        refine r_ladd (q := 116) C rfl (by decide +kernel) ?_
                        rw [lN_add]
                        have ev : lN (37 * hsh (sg tp) k (if 8 < k2 - k then 8 else k2 - k) + (sg tp k2 - 96)) = lN (hsh (sg tp) k (if 8 < k2 + 1 - k then 8 else k2 + 1 - k)) := by
                          rw [if_neg (show ¬ 8 < k2 - k by omega), if_neg (show ¬ 8 < k2 + 1 - k by omega), show k2 + 1 - k = (k2 - k) + 1 by omega, hsh, show k + (k2 - k) = k2 by omega]
                        refine r_goto (off := 5) (tgt := 121) C (by decide +kernel) (by decide) ?_
                        refine r_lstore (q := 123) C 5 rfl (by decide +kernel) (by decide) (by first | rfl | exact okst_rv rfl) ?_
                        dsimp only [List.set]
                        refine r_iinc (q := 126) (z := 1) (v := 1) C 2 rfl (by decide +kernel) rfl (by decide) (by decide) (by first | rfl | exact okst_rv rfl) ?_
                        dsimp only [List.set]
                        rw [nI_1]
                        refine r_goto (off := -56) (tgt := 70) C (by decide +kernel) (by decide) ?_
                        have z0 := ih70 (k2 + 1) (by omega) (by omega) (by omega) hall2
                        rw [← ev] at z0
                        exact z0
              have z0 := L70 (tp.length + 1) k (by omega) (Nat.le_refl _) (by omega) (fun j h1 h2 => absurd h1 (by omega))
              rw [show k - k = 0 by omega, if_neg (by decide)] at z0
              exact z0
          · have hbl : sg tp k = 10 ∨ sg tp k = 32 := Or.inr ((nI_eq (b := 32) (by have := hlt127 k; omega) (by decide)).mp c41)
            have hx2 := lex_bl hlt hbl hx
            refine r_iinc (q := 47) (z := 1) (v := 1) C 2 rfl (by decide +kernel) rfl (by decide) (by decide) (by first | rfl | exact okst_rv rfl) ?_
            dsimp only [List.set]
            rw [nI_1]
            refine r_goto (off := -30) (tgt := 17) C (by decide +kernel) (by decide) ?_
            exact wX.sub (lsub_s (lsub_s (lsub_s (lsub_n (lsub_n (lsub_n (lsub_n (lsub_nil)))))))) (ih17 h2 ts (k + 1) f (by omega) F2 hz h50 hts (by omega) hx2 (by omega) (by omega))
  exact wX.sub (lsub_s (lsub_s (lsub_s (lsub_n (lsub_n (lsub_n (lsub_n (lsub_nil)))))))) (L17 (tp.length + 1) ((h.setI 451 m (nI tp.length)).setI 450 m 0) [] 0 (tp.length + 1) (by omega) ((Fm.rf.setI (by decide)).setI (by decide)) (by rw [fi_ne (by decide), fi_eq]) fi_eq (fun i t ht => by simp at ht) (by omega) rfl (by omega) (by decide))
