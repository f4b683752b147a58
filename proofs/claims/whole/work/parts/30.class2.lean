/-! ===== can a ride lie; laying it; taking it away ===== -/
theorem gp_ge {a w b v : Nat} (ha : a < 100) (hw : w < 100) (hb : b < 100) (hv : v < 100) : 2 ≤ gp (nI a) (nI w) (nI b) (nI v) ↔ a + w + 2 ≤ b ∨ b + v + 2 ≤ a := by
  unfold gp
  rw [nI_add, nI_add]
  have e1 : (nI b - nI (a + w)).toInt = (b : Int) - ((a + w : Nat) : Int) := pk_sub_toInt (by omega) (by omega)
  have e2 : (nI a - nI (b + v)).toInt = (a : Int) - ((b + v : Nat) : Int) := pk_sub_toInt (by omega) (by omega)
  have e3 : (2 : Int32).toInt = 2 := by decide
  split
  · rename_i h
    rw [Int32.lt_iff_toInt_lt, e1, e2] at h
    rw [Int32.le_iff_toInt_le, e2, e3]; omega
  · rename_i h
    rw [Int32.lt_iff_toInt_lt, e1, e2] at h
    rw [Int32.le_iff_toInt_le, e1, e3]; omega
theorem gp_neg {a w b v : Nat} (ha : a < 100) (hw : w < 100) (hb : b < 100) (hv : v < 100) : gp (nI a) (nI w) (nI b) (nI v) < 0 ↔ b < a + w ∧ a < b + v := by
  unfold gp
  rw [nI_add, nI_add]
  have e1 : (nI b - nI (a + w)).toInt = (b : Int) - ((a + w : Nat) : Int) := pk_sub_toInt (by omega) (by omega)
  have e2 : (nI a - nI (b + v)).toInt = (a : Int) - ((b + v : Nat) : Int) := pk_sub_toInt (by omega) (by omega)
  have e3 : (0 : Int32).toInt = 0 := by decide
  split
  · rename_i h
    rw [Int32.lt_iff_toInt_lt, e1, e2] at h
    rw [Int32.lt_iff_toInt_lt, e2, e3]; omega
  · rename_i h
    rw [Int32.lt_iff_toInt_lt, e1, e2] at h
    rw [Int32.lt_iff_toInt_lt, e1, e3]; omega
def gCl (σ : SG) (a b w z : Nat) : Prop := (a + w ≤ 12 ∧ b + z < 10) ∧ σ.fre (12 * (b + z) + a + (w - 1) / 2) = true ∧ inn a b w z (12 * σ.gr) = false ∧ ∀ c, c < 120 → inn a b w z c = true → σ.fre c = true
def gOt (σ : SG) (r a b w z : Nat) : Prop := ∀ q, q < σ.n → σ.li q < 240 → inn a b w z (σ.dr q) = false ∧ (σ.ns r + σ.ns q < 10 ∨ a + w + 2 ≤ px (σ.li q) ∨ px (σ.li q) + σ.wA q (σ.li q) + 2 ≤ a ∨ b + z + 2 ≤ py (σ.li q) ∨ py (σ.li q) + σ.hA q (σ.li q) + 2 ≤ b)
theorem gRm_iff {σ : SG} {r a b w z : Nat} : gRm σ r a b w z ↔ gCl σ a b w z ∧ gOt σ r a b w z := ⟨fun h => ⟨⟨h.1, h.2.1, h.2.2.1, h.2.2.2.1⟩, h.2.2.2.2⟩, fun h => ⟨h.1.1, h.1.2.1, h.1.2.2.1, h.1.2.2.2, h.2⟩⟩
theorem okc_t {v : Int32} : okc true v ↔ v = -1 := ⟨fun h => h.2 rfl, fun h => ⟨by rw [h]; decide, fun _ => h⟩⟩
theorem inn_lt {a b w z c : Nat} (h : inn a b w z c = true) (hz : b + z ≤ 10) : c < 120 := by rw [inn_iff] at h; omega
/-- the heap with another search in it -/
def bsx (h : HP) (a : Nat) (f q : Nat → Int32) (v : Int32) : HP := ((h.row (h.fr 1 a) f).row (h.fr 2 a) q).setI 3 a v
theorem bsx_self {h : HP} {a : Nat} : bsx h a (h.ai (h.fr 1 a)) (h.ai (h.fr 2 a)) (h.fi 3 a) = h := by unfold bsx; rw [row_self, row_self, setI_self]
theorem bsx_bst {h : HP} {a : Nat} {f q : Nat → Int32} {k : Nat} : bst h a f q k = bsx h a f q (nI k) := rfl
theorem bsx_back {h : HP} {a : Nat} {f q F : Nat → Int32} {k : Nat} (hg : LGn h.kd h.gl h.fr a) (G : Nat → Int32) (hG : G = h.ai (h.fr 0 a)) : (bst (h.row (h.fr 0 a) F) a f q k).row (h.fr 0 a) G = bsx h a f q (nI k) := by
  obtain ⟨g1, g2, g3, g4, g5, g6, g7⟩ := hg
  have n01 : h.fr 0 a ≠ h.fr 1 a := gl_ne g5 g6 (by decide)
  have n02 : h.fr 0 a ≠ h.fr 2 a := gl_ne g5 g7 (by decide)
  show ((((h.row (h.fr 0 a) F).row (h.fr 1 a) f).row (h.fr 2 a) q).setI 3 a (nI k)).row (h.fr 0 a) G = ((h.row (h.fr 1 a) f).row (h.fr 2 a) q).setI 3 a (nI k)
  rw [← setI_row, row_comm (Ne.symm n02), row_comm (Ne.symm n01), row_row, hG, row_self]
theorem Fm.bs {A B : List Nat} {h h' : HP} {a : Nat} {f q : Nat → Int32} {v : Int32} (F : Fm A B h h') (hg : LGn h.kd h.gl h.fr a) (h2 : 2 ∈ A) (h3 : 3 ∈ A) (hb : 3 ∈ B) : Fm A B h (bsx h' a f q v) := by
  obtain ⟨g1, g2, g3, g4, g5, g6, g7⟩ := hg
  unfold bsx
  refine Fm.setI (Fm.row (Fm.row F ?_) ?_) hb
  · rw [F.2.1, g6]; exact h2
  · show h.gl (h'.fr 2 a) ∈ A; rw [F.2.1, g7]; exact h3
/-! one ride changes -/
theorem RF.congr {σ σ' : SG} {fi fi' : Nat → Nat → Int32} {a s r : Nat} (hσ : σ'.wd r = σ.wd r ∧ σ'.hg r = σ.hg r ∧ σ'.pw r = σ.pw r ∧ σ'.ns r = σ.ns r ∧ σ'.rk r = σ.rk r ∧ σ'.li r = σ.li r ∧ σ'.rt r = σ.rt r ∧ σ'.hd r = σ.hd r ∧ σ'.ms r = σ.ms r ∧ σ'.sk r = σ.sk r) (ha : ∀ g, 192 ≤ g → g ≤ 203 → fi' g a = fi g a) (hs : ∀ g, 256 ≤ g → g ≤ 260 → fi' g s = fi g s) (H : RF σ fi a s r) : RF σ' fi' a s r := by
  obtain ⟨e1, e2, e3, e4, e5, e6, e7, e8, e9, e10⟩ := hσ
  have w1 : σ'.wA r (σ.li r) = σ.wA r (σ.li r) := by unfold SG.wA; rw [e1, e2]
  have w2 : σ'.hA r (σ.li r) = σ.hA r (σ.li r) := by unfold SG.hA; rw [e1, e2]
  unfold RF at *
  rw [ha 192 (by decide) (by decide), ha 193 (by decide) (by decide), ha 194 (by decide) (by decide), ha 195 (by decide) (by decide), ha 196 (by decide) (by decide), ha 197 (by decide) (by decide), ha 199 (by decide) (by decide), ha 200 (by decide) (by decide), ha 201 (by decide) (by decide), ha 202 (by decide) (by decide), ha 203 (by decide) (by decide), hs 256 (by decide) (by decide), hs 257 (by decide) (by decide), hs 258 (by decide) (by decide), hs 259 (by decide) (by decide), hs 260 (by decide) (by decide), e1, e2, e3, e4, e5, e6, e7, e8, e9, e10, w1, w2]
  exact H
theorem kd_ne {kd : Nat → Nat × Nat} {a b : Nat} {x z : Nat × Nat} (ha : kd a = x) (hb : kd b = z) (hn : x ≠ z) : a ≠ b := fun e => hn (by rw [← ha, ← hb, e])
def uses (g : Nat) : Prop := g = 387 ∨ g = 388 ∨ g = 4 ∨ (192 ≤ g ∧ g ≤ 203) ∨ (256 ≤ g ∧ g ≤ 260)
theorem CRr.one {kd : Nat → Nat × Nat} {gl : Nat → Nat} {fr ar : Nat → Nat → Nat} {g : Nat} {p : Nat → Nat} {L : List Nat} {σ σ' : SG} {fi fi' : Nat → Nat → Int32} {r : Nat} (hL : LCl kd gl fr ar g σ.n p L) (R : CRr σ fi fr g p) (hn : σ'.n = σ.n) (hy : σ'.yr = σ.yr) (hg : σ'.gr = σ.gr) (hr : r < σ.n)
    (hO : ∀ q, q ≠ r → σ'.wd q = σ.wd q ∧ σ'.hg q = σ.hg q ∧ σ'.pw q = σ.pw q ∧ σ'.ns q = σ.ns q ∧ σ'.rk q = σ.rk q ∧ σ'.li q = σ.li q ∧ σ'.rt q = σ.rt q ∧ σ'.hd q = σ.hd q ∧ σ'.ms q = σ.ms q ∧ σ'.sk q = σ.sk q)
    (hf : ∀ g' a, a ≠ p r → a ≠ fr 198 (p r) → uses g' → fi' g' a = fi g' a) (hRF : RF σ' fi' (p r) (fr 198 (p r)) r) : CRr σ' fi' fr g p := by
  have n1 : g ≠ p r := kd_ne hL.kf (hL.kp hr) (by decide)
  have n2 : g ≠ fr 198 (p r) := kd_ne hL.kf (hL.ks hr) (by decide)
  have n3 : fr 384 g ≠ p r := kd_ne hL.kg (hL.kp hr) (by decide)
  have n4 : fr 384 g ≠ fr 198 (p r) := kd_ne hL.kg (hL.ks hr) (by decide)
  obtain ⟨r1, r2, r3, r4⟩ := R
  refine ⟨by rw [hf 387 g n1 n2 (Or.inl rfl), hn]; exact r1, by rw [hf 388 g n1 n2 (Or.inr (Or.inl rfl)), hy]; exact r2, by rw [hf 4 _ n3 n4 (Or.inr (Or.inr (Or.inl rfl))), hg]; exact r3, fun q hq => ?_⟩
  rw [hn] at hq
  by_cases e : q = r
  · subst e; exact hRF
  · refine RF.congr (hO q e) (fun g' h1 h2 => hf g' _ (fun x => e ?_) (kd_ne (hL.kp hq) (hL.ks hr) (by decide)) (Or.inr (Or.inr (Or.inr (Or.inl ⟨h1, h2⟩))))) (fun g' h1 h2 => hf g' _ (kd_ne (hL.ks hq) (hL.kp hr) (by decide)) (fun x => e ?_) (Or.inr (Or.inr (Or.inr (Or.inr ⟨h1, h2⟩))))) (r4 q hq)
    · have h1 := hL.gp hq; have h2 := hL.gp hr; rw [x] at h1; omega
    · have h1 := hL.gs hq; have h2 := hL.gs hr; rw [x] at h1; omega
/-- nothing of the rides changes -/
theorem CRr.same {kd : Nat → Nat × Nat} {gl : Nat → Nat} {fr ar : Nat → Nat → Nat} {g : Nat} {p : Nat → Nat} {L : List Nat} {σ : SG} {fi fi' : Nat → Nat → Int32} (hL : LCl kd gl fr ar g σ.n p L) (R : CRr σ fi fr g p) (hf : ∀ g' a, a ≠ fr 389 g → uses g' → fi' g' a = fi g' a) : CRr σ fi' fr g p := by
  obtain ⟨r1, r2, r3, r4⟩ := R
  refine ⟨by rw [hf 387 g (kd_ne hL.kf hL.k389 (by decide)) (Or.inl rfl)]; exact r1, by rw [hf 388 g (kd_ne hL.kf hL.k389 (by decide)) (Or.inr (Or.inl rfl))]; exact r2, by rw [hf 4 _ (kd_ne hL.kg hL.k389 (by decide)) (Or.inr (Or.inr (Or.inl rfl)))]; exact r3, fun q hq => ?_⟩
  refine RF.congr ⟨rfl, rfl, rfl, rfl, rfl, rfl, rfl, rfl, rfl, rfl⟩ (fun g' h1 h2 => hf g' _ (kd_ne (hL.kp hq) hL.k389 (by decide)) (Or.inr (Or.inr (Or.inr (Or.inl ⟨h1, h2⟩))))) (fun g' h1 h2 => hf g' _ (fun e => by have h1 := hL.gs hq; rw [e, hL.g389] at h1; omega) (Or.inr (Or.inr (Or.inr (Or.inr ⟨h1, h2⟩))))) (r4 q hq)
theorem covN_congr {σ σ' : SG} {c : Nat} : ∀ {k : Nat}, (∀ q, q < k → σ'.cv q c = σ.cv q c) → covN σ' c k = covN σ c k
  | 0, _ => rfl
  | k + 1, h => by
    simp only [covN]
    rw [h k (by omega), covN_congr (fun q hq => h q (by omega))]
theorem cv_li {σ : SG} {r q c x : Nat} (hq : q ≠ r) : (σ.li_ (upN σ.li r x)).cv q c = σ.cv q c := by
  show (decide (upN σ.li r x q < 240) && σ.cA q (upN σ.li r x q) c) = _
  rw [upN_n hq]; rfl
theorem cv_liS {σ : SG} {r c x : Nat} : (σ.li_ (upN σ.li r x)).cv r c = (decide (x < 240) && σ.cA r x c) := by
  show (decide (upN σ.li r x r < 240) && σ.cA r (upN σ.li r x r) c) = _
  rw [upN_s]
theorem cell_lay {σ : SG} {r x : Nat} (hn : σ.n ≤ 10) (hr : r < σ.n) (hl : ¬ σ.li r < 240) (hx : x < 240) (hF : ∀ c, c < 120 → σ.cA r x c = true → σ.fre c = true) {c : Nat} (hc : c < 120) : cellV (σ.li_ (upN σ.li r x)) c = if σ.cA r x c then nI r else cellV σ c := by
  unfold cellV
  show (if σ.cl c then -2 else covN (σ.li_ (upN σ.li r x)) c σ.n) = _
  by_cases e : σ.cA r x c = true
  · rw [if_pos e]
    obtain ⟨f1, f2⟩ := fre_iff.mp (hF c hc e)
    rw [f1, if_neg (by decide), covN_bx hn, cvN_yes hr hn (by rw [cv_liS, e]; simp [hx]) (fun q hq hv => ?_), bx_in (by omega)]
    refine Classical.byContradiction (fun hne => ?_)
    rw [cv_li hne, f2 q hq] at hv; cases hv
  · rw [if_neg e]
    rw [covN_congr (fun q hq => ?_)]
    by_cases eq : q = r
    · subst eq
      rw [cv_liS]
      have : σ.cA q x c = false := by simpa using e
      rw [this, Bool.and_false]
      show false = (decide (σ.li q < 240) && _)
      simp [hl]
    · exact cv_li eq
theorem cell_take {σ : SG} {r : Nat} (J : JN σ) (hn : σ.n ≤ 10) (hr : r < σ.n) {c : Nat} (hc : c < 120) : cellV (σ.li_ (upN σ.li r 240)) c = if σ.cv r c then -1 else cellV σ c := by
  unfold cellV
  show (if σ.cl c then -2 else covN (σ.li_ (upN σ.li r 240)) c σ.n) = _
  have hv0 : (σ.li_ (upN σ.li r 240)).cv r c = false := by rw [cv_liS]; rfl
  by_cases e : σ.cv r c = true
  · rw [if_pos e, J.2.1 r c hr hc e, if_neg (by decide), covN_bx hn, cvN_no (fun q hq => ?_)]
    · rfl
    · by_cases eq : q = r
      · subst eq; exact hv0
      · rw [cv_li eq]
        cases h9 : σ.cv q c with
        | false => rfl
        | true => exact absurd (J.2.2 q r c hq hr hc h9 e) eq
  · rw [if_neg e, covN_congr (fun q hq => ?_)]
    by_cases eq : q = r
    · subst eq; rw [hv0]; exact (by simpa using e : σ.cv q c = false).symm
    · exact cv_li eq
theorem wA_pl {σ : SG} {r q : Nat} : σ.wA r q = (if q % 2 = 1 then σ.hg r else σ.wd r) ∧ σ.hA r q = (if q % 2 = 1 then σ.wd r else σ.hg r) := ⟨rfl, rfl⟩
theorem plc_xy {a b : Nat} (ha : a < 12) (hb : b < 10) (t : Bool) : px (2 * (12 * b + a) + (if t then 1 else 0)) = a ∧ py (2 * (12 * b + a) + (if t then 1 else 0)) = b ∧ 2 * (12 * b + a) + (if t then 1 else 0) < 240 ∧ ((2 * (12 * b + a) + (if t then 1 else 0)) % 2 = 1 ↔ t = true) := by
  unfold px py
  cases t
  · simp; omega
  · simp; omega
/-- what laying asks and gives -/
def gLay (σ : SG) (r : Nat) (x y : Int32) (w z : Nat) : Prop := ∃ a b, a < 12 ∧ b < 10 ∧ x = nI a ∧ y = nI b ∧ gFit σ r a b w z
theorem gLay_iff {σ : SG} {r : Nat} {x y : Int32} {t : Bool} : gLay σ r x y (if t then σ.hg r else σ.wd r) (if t then σ.wd r else σ.hg r) ↔ hasC x y = true ∧ σ.fit r (plc x y t) := by
  constructor
  · rintro ⟨a, b, ha, hb, rfl, rfl, hF⟩
    have hC := hasC_nI ha hb
    obtain ⟨a', b', -, -, ea, eb, hp, -, e⟩ := plc_of (t := t) hC
    have ea : a = a' := (nI_eq (by omega) (by omega)).mp ea
    have eb : b = b' := (nI_eq (by omega) (by omega)).mp eb
    subst ea eb
    obtain ⟨h1, h2, h3, h4⟩ := plc_xy ha hb t
    refine ⟨hC, ?_⟩
    rw [fit_g, e, h1, h2, wA_pl.1, wA_pl.2]
    cases t with
    | true => rw [if_pos (h4.mpr rfl), if_pos (h4.mpr rfl)]; exact hF
    | false => rw [if_neg (fun q => by cases h4.mp q), if_neg (fun q => by cases h4.mp q)]; exact hF
  · rintro ⟨hC, hF⟩
    obtain ⟨a, b, ha, hb, rfl, rfl, hp, -, e⟩ := plc_of (t := t) hC
    obtain ⟨h1, h2, h3, h4⟩ := plc_xy ha hb t
    rw [fit_g, e, h1, h2, wA_pl.1, wA_pl.2] at hF
    refine ⟨a, b, ha, hb, rfl, rfl, ?_⟩
    cases t with
    | true => rw [if_pos (h4.mpr rfl), if_pos (h4.mpr rfl)] at hF; exact hF
    | false => rw [if_neg (fun q => by cases h4.mp q), if_neg (fun q => by cases h4.mp q)] at hF; exact hF

theorem c_X6_isClear {G : GT} {h : HP} {g : Nat} {σ : SG} {p : Nat → Nat} {L : List Nat} {s w z : Nat} {x y : Int32} (hL : LCl h.kd h.gl h.fr h.ar g σ.n p L) (R0 : CRr σ h.fi h.fr g p) (Rc : CRc σ h g) (W : WF σ) (hs : SpT h.kd h.fi s x y w z) : Con G 4 0 0 yX6_isClear cX6_isClear 2 (some .boolean) [rv g, rv s] h (PI (fun v h' => ∃ t : Bool, b2i t = v ∧ (t = true ↔ ∃ a b, a < 12 ∧ b < 10 ∧ x = nI a ∧ y = nI b ∧ gCl σ a b w z) ∧ h = h')) := by
  refine Con.of (lv := [some (rv g), some (rv s)]) (by decide) (by simp only [lvE_r, lvE_i, lvE_l, lvE_s, lvE_0]; rfl) (by simp only [lgl_r, lgl_i, lgl_l, lgl_s, lgl_0]; decide) (fun Γ C R => ?_)
  generalize hPP : (PI (fun v h' => ∃ t : Bool, b2i t = v ∧ (t = true ↔ ∃ a b, a < 12 ∧ b < 10 ∧ x = nI a ∧ y = nI b ∧ gCl σ a b w z) ∧ h = h')) = PP
  obtain ⟨s1, s2, s3, s4, s5, s6, s7⟩ := id hs
  have r10 := W.n10
  have g10 := W.gr10
  obtain ⟨g1, g2, g3, g4, g5, g6, g7⟩ := id hL.gn
  refine r_aload_n (q := 1) (z := 1) C 1 rfl (by decide +kernel) rfl rfl ?_
  refine cV0I (q := 4) C R rfl (by decide +kernel) lk_X6_264 (c_X4_isOnGreen s1) (by decide) (by decide) (by decide) rfl (by first | exact Nat.le_of_ble_eq_true rfl | (simp only [List.map_cons, List.map_nil, List.sum_cons, List.sum_nil, rv_cat]; exact Nat.le_of_ble_eq_true rfl)) rfl s1 ?_
  rintro _ _ ⟨rfl, rfl⟩
  rw [s2, s3, s4, s5]
  refine r_if_eq (q := 7) (off := 53) (tgt := 57) C rfl (by decide +kernel) (by decide) (fun c4 => ?_) (fun c4 => ?_)
  · have hno := of_decide_eq_false ((b2i_0 _).mp c4)
    have hN : ¬ (∃ a b, a < 12 ∧ b < 10 ∧ x = nI a ∧ y = nI b ∧ gCl σ a b w z) := fun ⟨a, b, ha, hb, ea, eb, hG⟩ => hno ((onG_iff (by omega) (by omega)).mpr ⟨a, b, ha, hb, ea, eb, hG.1⟩)
    refine r_iconst (q := 58) (z := 0) (v := 0) C rfl (by decide +kernel) (by decide) ?_
    exact r_zret C (by decide +kernel) rfl (by first | decide | exact b2i_nar _) (by decide) (by decide) (eqP hPP ⟨_, rfl, (by first | exact ⟨true, rfl, ⟨fun _ => ⟨a, b, ha, hb, rfl, rfl, hY⟩, fun _ => rfl⟩, rfl⟩ | exact ⟨false, rfl, ⟨(fun e => nomatch e), fun e => absurd e hN⟩, rfl⟩)⟩)
  · obtain ⟨a, b, ha, hb, rfl, rfl, hw12, hz10⟩ := (onG_iff (by omega) (by omega)).mp (of_decide_eq_true ((b2i_n0 _).mp c4))
    have hone : ∀ a' b', (a' < 12 ∧ b' < 10 ∧ nI a = nI a' ∧ nI b = nI b' ∧ gCl σ a' b' w z) → gCl σ a b w z := fun a' b' h9 => by
      have e1 : a = a' := (nI_eq (by omega) (by omega)).mp h9.2.2.1
      have e2 : b = b' := (nI_eq (by omega) (by omega)).mp h9.2.2.2.1
      rw [e1, e2]; exact h9.2.2.2.2
    refine r_aload_n (q := 8) (z := 1) C 1 rfl (by decide +kernel) rfl rfl ?_
    refine r_iconst (q := 9) (z := 0) (v := nI 0) C rfl (by decide +kernel) (by decide) ?_
    refine r_aload_n (q := 10) (z := 0) C 0 rfl (by decide +kernel) rfl rfl ?_
    refine r_getR (q := 13) C 6 0 384 rfl (by decide +kernel) rfl (by decide) rfl rfl wf_X6_10 win6 hL.kf ?_
    refine r_getI (q := 16) C 0 4 4 rfl (by decide +kernel) rfl (by decide) rfl rfl wf_X6_99 win0 hL.kg ?_
    rw [R0.2.2.1]
    refine cV2I (q := 19) C R rfl (by decide +kernel) lk_X6_267 (c_X4_covers s1) (by decide) (by decide) (by decide) rfl (by first | exact Nat.le_of_ble_eq_true rfl | (simp only [List.map_cons, List.map_nil, List.sum_cons, List.sum_nil, rv_cat]; exact Nat.le_of_ble_eq_true rfl)) rfl s1 ?_
    rintro _ _ ⟨rfl, rfl⟩
    rw [s2, s3, s4, s5]
    refine r_if_ne (q := 22) (off := 38) (tgt := 57) C rfl (by decide +kernel) (by decide) (fun c19 => ?_) (fun c19 => ?_)
    · have hin : inn a b w z (12 * σ.gr) = true := (cov_iff (x := 0) (by omega) (by omega) (by omega) (by omega) (by decide) (by omega)).mp (of_decide_eq_true ((b2i_n0 _).mp c19))
      have hN : ¬ (∃ a' b', a' < 12 ∧ b' < 10 ∧ nI a = nI a' ∧ nI b = nI b' ∧ gCl σ a' b' w z) := fun ⟨a', b', h9⟩ => by have := (hone a' b' h9).2.2.1; rw [hin] at this; cases this
      refine r_iconst (q := 58) (z := 0) (v := 0) C rfl (by decide +kernel) (by decide) ?_
      exact r_zret C (by decide +kernel) rfl (by first | decide | exact b2i_nar _) (by decide) (by decide) (eqP hPP ⟨_, rfl, (by first | exact ⟨true, rfl, ⟨fun _ => ⟨a, b, ha, hb, rfl, rfl, hY⟩, fun _ => rfl⟩, rfl⟩ | exact ⟨false, rfl, ⟨(fun e => nomatch e), fun e => absurd e hN⟩, rfl⟩)⟩)
    · have hin : inn a b w z (12 * σ.gr) = false := by
        cases e : inn a b w z (12 * σ.gr) with
        | false => rfl
        | true => exact absurd ((cov_iff (x := 0) (by omega) (by omega) (by omega) (by omega) (by decide) (by omega)).mpr e) (of_decide_eq_false ((b2i_0 _).mp c19))
      refine r_aload_n (q := 23) (z := 0) C 0 rfl (by decide +kernel) rfl rfl ?_
      refine r_getR (q := 26) C 6 0 384 rfl (by decide +kernel) rfl (by decide) rfl rfl wf_X6_10 win6 hL.kf ?_
      refine r_aload_n (q := 27) (z := 1) C 1 rfl (by decide +kernel) rfl rfl ?_
      refine r_iconst (q := 28) (z := 1) (v := b2i true) C rfl (by decide +kernel) (by decide) ?_
      refine cV2I (q := 31) C R rfl (by decide +kernel) lk_X6_270 (c_X0_isOpen (x := a) (y := b) (w := w) (z := z) hL.gn ⟨s1, s2, s3, s4, s5, hw12, by omega⟩) (by decide) (by decide) (by decide) rfl (by first | exact Nat.le_of_ble_eq_true rfl | (simp only [List.map_cons, List.map_nil, List.sum_cons, List.sum_nil, rv_cat]; exact Nat.le_of_ble_eq_true rfl)) rfl hL.kg ?_
      rintro _ _ ⟨t28, rfl, ht28, rfl⟩
      have ht28b : t28 = true ↔ ∀ c, c < 120 → inn a b w z c = true → σ.fre c = true := ht28.trans ⟨fun h9 c hc hi => (cell_free r10).mp ((Rc c hc).symm.trans (okc_t.mp (h9 c hc hi))), fun h9 c hc hi => okc_t.mpr ((Rc c hc).trans ((cell_free r10).mpr (h9 c hc hi)))⟩
      refine r_if_eq (q := 34) (off := 26) (tgt := 57) C rfl (by decide +kernel) (by decide) (fun c31 => ?_) (fun c31 => ?_)
      · have hN : ¬ (∃ a' b', a' < 12 ∧ b' < 10 ∧ nI a = nI a' ∧ nI b = nI b' ∧ gCl σ a' b' w z) := fun ⟨a', b', h9⟩ => by have := ht28b.mpr (hone a' b' h9).2.2.2; rw [(b2i_0 _).mp c31] at this; cases this
        refine r_iconst (q := 58) (z := 0) (v := 0) C rfl (by decide +kernel) (by decide) ?_
        exact r_zret C (by decide +kernel) rfl (by first | decide | exact b2i_nar _) (by decide) (by decide) (eqP hPP ⟨_, rfl, (by first | exact ⟨true, rfl, ⟨fun _ => ⟨a, b, ha, hb, rfl, rfl, hY⟩, fun _ => rfl⟩, rfl⟩ | exact ⟨false, rfl, ⟨(fun e => nomatch e), fun e => absurd e hN⟩, rfl⟩)⟩)
      · have hfr := ht28b.mp ((b2i_n0 _).mp c31)
        refine r_aload_n (q := 35) (z := 0) C 0 rfl (by decide +kernel) rfl rfl ?_
        refine r_getR (q := 38) C 6 0 384 rfl (by decide +kernel) rfl (by decide) rfl rfl wf_X6_10 win6 hL.kf ?_
        refine r_aload_n (q := 39) (z := 1) C 1 rfl (by decide +kernel) rfl rfl ?_
        refine cV0I (q := 42) C R rfl (by decide +kernel) lk_X6_230 (c_X4_doorX s1) (by decide) (by decide) (by decide) rfl (by first | exact Nat.le_of_ble_eq_true rfl | (simp only [List.map_cons, List.map_nil, List.sum_cons, List.sum_nil, rv_cat]; exact Nat.le_of_ble_eq_true rfl)) rfl s1 ?_
        rintro _ _ ⟨rfl, rfl⟩
        rw [s2, s4, half_nI (by omega) (by omega)]
        refine r_aload_n (q := 43) (z := 1) C 1 rfl (by decide +kernel) rfl rfl ?_
        refine cV0I (q := 46) C R rfl (by decide +kernel) lk_X6_227 (c_X4_doorY s1) (by decide) (by decide) (by decide) rfl (by first | exact Nat.le_of_ble_eq_true rfl | (simp only [List.map_cons, List.map_nil, List.sum_cons, List.sum_nil, rv_cat]; exact Nat.le_of_ble_eq_true rfl)) rfl s1 ?_
        rintro _ _ ⟨rfl, rfl⟩
        rw [s3, s5, nI_add]
        refine cV2I (q := 49) C R rfl (by decide +kernel) lk_X6_76 (c_X0_at hL.kg g2) (by decide) (by decide) (by decide) rfl (by first | exact Nat.le_of_ble_eq_true rfl | (simp only [List.map_cons, List.map_nil, List.sum_cons, List.sum_nil, rv_cat]; exact Nat.le_of_ble_eq_true rfl)) rfl hL.kg ?_
        rintro _ _ ⟨rfl, rfl⟩
        rw [if_pos (hasC_nI (by omega) (by omega)), cIx, nI_clamp (by omega), Rc _ (by omega), show 12 * (b + z) + (a + (w - 1) / 2) = 12 * (b + z) + a + (w - 1) / 2 by omega]
        refine r_iconst (q := 50) (z := (-1)) (v := (-1)) C rfl (by decide +kernel) (by decide) ?_
        refine r_icmp_ne (q := 53) (off := 7) (tgt := 57) C rfl (by decide +kernel) (by decide) (fun c50 => ?_) (fun c50 => ?_)
        · have hN : ¬ (∃ a' b', a' < 12 ∧ b' < 10 ∧ nI a = nI a' ∧ nI b = nI b' ∧ gCl σ a' b' w z) := fun ⟨a', b', h9⟩ => c50 ((cell_free r10).mpr (hone a' b' h9).2.1)
          refine r_iconst (q := 58) (z := 0) (v := 0) C rfl (by decide +kernel) (by decide) ?_
          exact r_zret C (by decide +kernel) rfl (by first | decide | exact b2i_nar _) (by decide) (by decide) (eqP hPP ⟨_, rfl, (by first | exact ⟨true, rfl, ⟨fun _ => ⟨a, b, ha, hb, rfl, rfl, hY⟩, fun _ => rfl⟩, rfl⟩ | exact ⟨false, rfl, ⟨(fun e => nomatch e), fun e => absurd e hN⟩, rfl⟩)⟩)
        · have hY : gCl σ a b w z := ⟨⟨hw12, hz10⟩, (cell_free r10).mp c50, hin, hfr⟩
          refine r_iconst (q := 54) (z := 1) (v := 1) C rfl (by decide +kernel) (by decide) ?_
          refine r_goto (off := 4) (tgt := 58) C (by decide +kernel) (by decide) ?_
          exact r_zret C (by decide +kernel) rfl (by first | decide | exact b2i_nar _) (by decide) (by decide) (eqP hPP ⟨_, rfl, (by first | exact ⟨true, rfl, ⟨fun _ => ⟨a, b, ha, hb, rfl, rfl, hY⟩, fun _ => rfl⟩, rfl⟩ | exact ⟨false, rfl, ⟨(fun e => nomatch e), fun e => absurd e hN⟩, rfl⟩)⟩)
theorem c_X6_isClearOfOthers {G : GT} {h : HP} {g : Nat} {σ : SG} {p : Nat → Nat} {L : List Nat} {s r a b w z : Nat} (hL : LCl h.kd h.gl h.fr h.ar g σ.n p L) (R0 : CRr σ h.fi h.fr g p) (W : WF σ) (hr : r < σ.n) (hs : SpN h.kd h.fi s a b w z) : Con G 4 0 0 yX6_isClearOfOthers cX6_isClearOfOthers 6 (some .boolean) [rv g, rv (p r), rv s] h (PI (fun v h' => ∃ t : Bool, b2i t = v ∧ (t = true ↔ gOt σ r a b w z) ∧ h = h')) := by
  refine Con.of (lv := [some (rv g), some (rv (p r)), some (rv s), none, none, none]) (by decide) (by simp only [lvE_r, lvE_i, lvE_l, lvE_s, lvE_0]; rfl) (by simp only [lgl_r, lgl_i, lgl_l, lgl_s, lgl_0]; decide) (fun Γ C R => ?_)
  generalize hPP : (PI (fun v h' => ∃ t : Bool, b2i t = v ∧ (t = true ↔ gOt σ r a b w z) ∧ h = h')) = PP
  obtain ⟨s1, s2, s3, s4, s5, s6, s7⟩ := id hs
  have r10 := W.n10
  have n1 := (W.2.2.1 r hr).2.2.2.2.2.1
  refine r_iconst (q := 1) (z := 0) (v := 0) C rfl (by decide +kernel) (by decide) ?_
  refine r_istore_n (q := 2) (z := 3) C 3 rfl (by decide +kernel) rfl (by decide) (by first | rfl | exact okst_rv rfl) ?_
  dsimp only [List.set]
  have L2 : ∀ (fuel2 : Nat) (k : Nat), σ.n - k < fuel2 → (k ≤ σ.n) → (∀ q, q < k → σ.li q < 240 → inn a b w z (σ.dr q) = false ∧ (σ.ns r + σ.ns q < 10 ∨ a + w + 2 ≤ px (σ.li q) ∨ px (σ.li q) + σ.wA q (σ.li q) + 2 ≤ a ∨ b + z + 2 ≤ py (σ.li q) ∨ py (σ.li q) + σ.hA q (σ.li q) + 2 ≤ b)) → wX G Γ (qM G Γ PP 0 0) 0 0 (h) 2 [some (rv g), some (rv (p r)), some (rv s), some (.int (nI k)), none, none] [] := by
    intro fuel2
    induction fuel2 with
    | zero =>
      intro k hm2
      exact absurd hm2 (Nat.not_lt_zero _)
    | succ fuel2 ih2 =>
      intro k hm2 hk hy
      refine r_iload_n (q := 3) (z := 3) C 3 rfl (by decide +kernel) rfl rfl ?_
      refine r_aload_n (q := 4) (z := 0) C 0 rfl (by decide +kernel) rfl rfl ?_
      refine r_getI (q := 7) C 6 3 387 rfl (by decide +kernel) rfl (by decide) rfl rfl wf_X6_25 win6 hL.kf ?_
      rw [R0.1]
      refine r_icmp_ge (q := 10) (off := 78) (tgt := 85) C rfl (by decide +kernel) (by decide) (fun c7 => ?_) (fun c7 => ?_)
      · have ek : k = σ.n := by have := (nI_leI (by omega) (by omega)).mp c7; omega
        subst ek
        refine r_iconst (q := 86) (z := 1) (v := 1) C rfl (by decide +kernel) (by decide) ?_
        exact r_zret C (by decide +kernel) rfl (by first | decide | exact b2i_nar _) (by decide) (by decide) (eqP hPP ⟨_, rfl, ⟨true, rfl, ⟨fun _ => hy, fun _ => rfl⟩, rfl⟩⟩)
      · have hlt : k < σ.n := Nat.lt_of_not_le (fun e => c7 (nI_le e (by omega)))
        refine r_aload_n (q := 11) (z := 0) C 0 rfl (by decide +kernel) rfl rfl ?_
        refine r_getR (q := 14) C 6 1 385 rfl (by decide +kernel) rfl (by decide) rfl rfl wf_X6_18 win6 hL.kf ?_
        refine r_iload_n (q := 15) (z := 3) C 3 rfl (by decide +kernel) rfl rfl ?_
        refine r_aald (q := 16) C rfl (by decide +kernel) hL.k385 (vp_in_nI (by omega) (by decide)) ?_
        rw [nI_clamp (by omega), hL.ap hlt]
        refine r_astore (q := 18) C 4 rfl (by decide +kernel) (by decide) (by first | rfl | exact okst_rv rfl) ?_
        dsimp only [List.set]
        refine r_aload (q := 20) C 4 rfl (by decide +kernel) rfl ?_
        refine r_getI (q := 23) C 3 7 199 rfl (by decide +kernel) rfl (by decide) rfl rfl wf_X6_122 win3 (hL.kp hlt) ?_
        rw [R0.lie hlt]
        refine r_if_eq (q := 26) (off := 56) (tgt := 79) C rfl (by decide +kernel) (by decide) (fun c23 => ?_) (fun c23 => ?_)
        · have hy2 : ∀ q, q < k + 1 → σ.li q < 240 → inn a b w z (σ.dr q) = false ∧ (σ.ns r + σ.ns q < 10 ∨ a + w + 2 ≤ px (σ.li q) ∨ px (σ.li q) + σ.wA q (σ.li q) + 2 ≤ a ∨ b + z + 2 ≤ py (σ.li q) ∨ py (σ.li q) + σ.hA q (σ.li q) + 2 ≤ b) := fun q hq hl => by
            by_cases er : q = k
            · subst er; exact absurd hl (of_decide_eq_false ((b2i_0 _).mp c23))
            · exact hy q (by omega) hl
          refine r_iinc (q := 82) (z := 1) (v := 1) C 3 rfl (by decide +kernel) rfl (by decide) (by decide) (by first | rfl | exact okst_rv rfl) ?_
          dsimp only [List.set]
          rw [nI_1]
          refine r_goto (off := -80) (tgt := 2) C (by decide +kernel) (by decide) ?_
          exact wX.sub (lsub_s (lsub_s (lsub_s (lsub_s (lsub_n (lsub_n (lsub_nil))))))) (ih2 (k + 1) (by omega) (by omega) hy2)
        · have hl := of_decide_eq_true ((b2i_n0 _).mp c23)
          have hxy := W.dxy hlt hl
          have n2 := (W.2.2.1 k hlt).2.2.2.2.2.1
          obtain ⟨p1, p2, p3, p4, -⟩ := R0.sp hlt hl
          have q5 := W.wA hlt (σ.li k)
          have q6 := W.hA hlt (σ.li k)
          have q7 := px_lt (p := σ.li k)
          have q8 := py_lt hl
          have J48 : ∀ (ld : Bool), (ld = true ↔ ¬ σ.ns r + σ.ns k < 10) → wX G Γ (qM G Γ PP 0 0) 0 0 (h) 48 [some (rv g), some (rv (p r)), some (rv s), some (.int (nI k)), some (rv (p k)), some (.int (b2i ld))] [] := by
            intro ld hld
            refine r_aload_n (q := 49) (z := 2) C 2 rfl (by decide +kernel) rfl rfl ?_
            refine r_aload (q := 51) C 4 rfl (by decide +kernel) rfl ?_
            refine r_getR (q := 54) C 3 6 198 rfl (by decide +kernel) rfl (by decide) rfl rfl wf_X6_221 win3 (hL.kp hlt) ?_
            refine cV1I (q := 57) C R rfl (by decide +kernel) lk_X6_277 (c_X4_coversDoorOf s1 (hL.ks hlt)) (by decide) (by decide) (by decide) rfl (by first | exact Nat.le_of_ble_eq_true rfl | (simp only [List.map_cons, List.map_nil, List.sum_cons, List.sum_nil, rv_cat]; exact Nat.le_of_ble_eq_true rfl)) rfl s1 ?_
            rintro _ _ ⟨rfl, rfl⟩
            rw [R0.dx W hlt hl, R0.dy hlt hl, s2, s3, s4, s5]
            refine r_if_ne (q := 60) (off := 20) (tgt := 77) C rfl (by decide +kernel) (by decide) (fun c57 => ?_) (fun c57 => ?_)
            · have hbad : inn a b w z (σ.dr k) = true := by rw [dr_xy]; exact (cov_iff (by omega) (by omega) (by omega) (by omega) hxy.1 (by omega)).mp (of_decide_eq_true ((b2i_n0 _).mp c57))
              have hN : ¬ gOt σ r a b w z := fun e => by have := (e k hlt hl).1; rw [hbad] at this; cases this
              refine r_iconst (q := 78) (z := 0) (v := 0) C rfl (by decide +kernel) (by decide) ?_
              exact r_zret C (by decide +kernel) rfl (by first | decide | exact b2i_nar _) (by decide) (by decide) (eqP hPP ⟨_, rfl, ⟨false, rfl, ⟨(fun e => nomatch e), fun e => absurd e hN⟩, rfl⟩⟩)
            · have hok : inn a b w z (σ.dr k) = false := by
                cases e : inn a b w z (σ.dr k) with
                | false => rfl
                | true => rw [dr_xy] at e; exact absurd ((cov_iff (by omega) (by omega) (by omega) (by omega) hxy.1 (by omega)).mpr e) (of_decide_eq_false ((b2i_0 _).mp c57))
              refine r_iload (q := 62) C 5 rfl (by decide +kernel) rfl ?_
              refine r_if_eq (q := 65) (off := 17) (tgt := 79) C rfl (by decide +kernel) (by decide) (fun c62 => ?_) (fun c62 => ?_)
              · have hq1 : σ.ns r + σ.ns k < 10 := Classical.not_not.mp (fun e => by have := hld.mpr e; rw [(b2i_0 _).mp c62] at this; cases this)
                have hy2 : ∀ q, q < k + 1 → σ.li q < 240 → inn a b w z (σ.dr q) = false ∧ (σ.ns r + σ.ns q < 10 ∨ a + w + 2 ≤ px (σ.li q) ∨ px (σ.li q) + σ.wA q (σ.li q) + 2 ≤ a ∨ b + z + 2 ≤ py (σ.li q) ∨ py (σ.li q) + σ.hA q (σ.li q) + 2 ≤ b) := fun q hq hl2 => by
                  by_cases er : q = k
                  · subst er; exact ⟨hok, Or.inl hq1⟩
                  · exact hy q (by omega) hl2
                refine r_iinc (q := 82) (z := 1) (v := 1) C 3 rfl (by decide +kernel) rfl (by decide) (by decide) (by first | rfl | exact okst_rv rfl) ?_
                dsimp only [List.set]
                rw [nI_1]
                refine r_goto (off := -80) (tgt := 2) C (by decide +kernel) (by decide) ?_
                exact wX.sub (lsub_s (lsub_s (lsub_s (lsub_s (lsub_n (lsub_n (lsub_nil))))))) (ih2 (k + 1) (by omega) (by omega) hy2)
              · have hq1 := hld.mp ((b2i_n0 _).mp c62)
                refine r_aload_n (q := 66) (z := 2) C 2 rfl (by decide +kernel) rfl rfl ?_
                refine r_aload (q := 68) C 4 rfl (by decide +kernel) rfl ?_
                refine r_getR (q := 71) C 3 6 198 rfl (by decide +kernel) rfl (by decide) rfl rfl wf_X6_221 win3 (hL.kp hlt) ?_
                refine cV1I (q := 74) C R rfl (by decide +kernel) lk_X6_280 (c_X4_isApartFrom s1 (hL.ks hlt)) (by decide) (by decide) (by decide) rfl (by first | exact Nat.le_of_ble_eq_true rfl | (simp only [List.map_cons, List.map_nil, List.sum_cons, List.sum_nil, rv_cat]; exact Nat.le_of_ble_eq_true rfl)) rfl s1 ?_
                rintro _ _ ⟨rfl, rfl⟩
                rw [s2, s3, s4, s5, p1, p2, p3, p4]
                refine r_if_ne (q := 77) (off := 5) (tgt := 79) C rfl (by decide +kernel) (by decide) (fun c74 => ?_) (fun c74 => ?_)
                · have hap := of_decide_eq_true ((b2i_n0 _).mp c74)
                  rw [gp_ge (by omega) (by omega) (by omega) (by omega), gp_ge (by omega) (by omega) (by omega) (by omega)] at hap
                  have hy2 : ∀ q, q < k + 1 → σ.li q < 240 → inn a b w z (σ.dr q) = false ∧ (σ.ns r + σ.ns q < 10 ∨ a + w + 2 ≤ px (σ.li q) ∨ px (σ.li q) + σ.wA q (σ.li q) + 2 ≤ a ∨ b + z + 2 ≤ py (σ.li q) ∨ py (σ.li q) + σ.hA q (σ.li q) + 2 ≤ b) := fun q hq hl2 => by
                    by_cases er : q = k
                    · subst er; exact ⟨hok, by omega⟩
                    · exact hy q (by omega) hl2
                  refine r_iinc (q := 82) (z := 1) (v := 1) C 3 rfl (by decide +kernel) rfl (by decide) (by decide) (by first | rfl | exact okst_rv rfl) ?_
                  dsimp only [List.set]
                  rw [nI_1]
                  refine r_goto (off := -80) (tgt := 2) C (by decide +kernel) (by decide) ?_
                  exact wX.sub (lsub_s (lsub_s (lsub_s (lsub_s (lsub_n (lsub_n (lsub_nil))))))) (ih2 (k + 1) (by omega) (by omega) hy2)
                · have hap := of_decide_eq_false ((b2i_0 _).mp c74)
                  rw [gp_ge (by omega) (by omega) (by omega) (by omega), gp_ge (by omega) (by omega) (by omega) (by omega)] at hap
                  have hN : ¬ gOt σ r a b w z := fun e => by have := (e k hlt hl).2; omega
                  refine r_iconst (q := 78) (z := 0) (v := 0) C rfl (by decide +kernel) (by decide) ?_
                  exact r_zret C (by decide +kernel) rfl (by first | decide | exact b2i_nar _) (by decide) (by decide) (eqP hPP ⟨_, rfl, ⟨false, rfl, ⟨(fun e => nomatch e), fun e => absurd e hN⟩, rfl⟩⟩)
          refine r_aload_n (q := 27) (z := 1) C 1 rfl (by decide +kernel) rfl rfl ?_
          refine r_getI (q := 30) C 3 4 196 rfl (by decide +kernel) rfl (by decide) rfl rfl wf_X6_274 win3 (hL.kp hr) ?_
          rw [R0.ns hr]
          refine r_aload (q := 32) C 4 rfl (by decide +kernel) rfl ?_
          refine r_getI (q := 35) C 3 4 196 rfl (by decide +kernel) rfl (by decide) rfl rfl wf_X6_274 win3 (hL.kp hlt) ?_
          rw [R0.ns hlt]
          refine r_iadd (q := 36) C rfl (by decide +kernel) ?_
          rw [nI_add]
          refine r_bipush (q := 38) (z := 10) (v := 10) C rfl (by decide +kernel) (by decide) ?_
          refine r_icmp_lt (q := 41) (off := 7) (tgt := 45) C rfl (by decide +kernel) (by decide) (fun c38 => ?_) (fun c38 => ?_)
          · rw [show (10 : Int32) = nI 10 from rfl, nI_ltI (by omega) (by omega)] at c38
            have hld : false = true ↔ ¬ σ.ns r + σ.ns k < 10 := ⟨(fun e => nomatch e), fun e => absurd c38 e⟩
            refine r_iconst (q := 46) (z := 0) (v := b2i false) C rfl (by decide +kernel) (by decide) ?_
            refine r_istore (q := 48) C 5 rfl (by decide +kernel) (by decide) (by first | rfl | exact okst_rv rfl) ?_
            dsimp only [List.set]
            exact J48 _ hld
          · rw [show (10 : Int32) = nI 10 from rfl, nI_ltI (by omega) (by omega)] at c38
            have hld : true = true ↔ ¬ σ.ns r + σ.ns k < 10 := ⟨fun _ => c38, fun _ => rfl⟩
            refine r_iconst (q := 42) (z := 1) (v := b2i true) C rfl (by decide +kernel) (by decide) ?_
            refine r_goto (off := 4) (tgt := 46) C (by decide +kernel) (by decide) ?_
            refine r_istore (q := 48) C 5 rfl (by decide +kernel) (by decide) (by first | rfl | exact okst_rv rfl) ?_
            dsimp only [List.set]
            exact J48 _ hld
  exact wX.sub (lsub_s (lsub_s (lsub_s (lsub_s (lsub_n (lsub_n (lsub_nil))))))) (L2 (σ.n + 1) 0 (by omega) (by omega) (fun q hq => absurd hq (Nat.not_lt_zero q)))
theorem c_X6_canLie {G : GT} {h : HP} {g : Nat} {σ : SG} {p : Nat → Nat} {L : List Nat} {s r w z : Nat} {x y : Int32} (hL : LCl h.kd h.gl h.fr h.ar g σ.n p L) (R0 : CRr σ h.fi h.fr g p) (Rc : CRc σ h g) (W : WF σ) (hr : r < σ.n) (hs : SpT h.kd h.fi s x y w z) : Con G 6 0 0 yX6_canLie cX6_canLie 4 (some .boolean) [rv g, rv (p r), rv s] h (PI (fun v h' => ∃ (t : Bool) (f q : Nat → Int32) (k : Int32), b2i t = v ∧ bsx h (h.fr 384 g) f q k = h' ∧ (t = true ↔ gLay σ r x y w z))) := by
  refine Con.of (lv := [some (rv g), some (rv (p r)), some (rv s), none]) (by decide) (by simp only [lvE_r, lvE_i, lvE_l, lvE_s, lvE_0]; rfl) (by simp only [lgl_r, lgl_i, lgl_l, lgl_s, lgl_0]; decide) (fun Γ C R => ?_)
  generalize hPP : (PI (fun v h' => ∃ (t : Bool) (f q : Nat → Int32) (k : Int32), b2i t = v ∧ bsx h (h.fr 384 g) f q k = h' ∧ (t = true ↔ gLay σ r x y w z))) = PP
  obtain ⟨s1, s2, s3, s4, s5, s6, s7⟩ := id hs
  have r10 := W.n10
  have g10 := W.gr10
  obtain ⟨g1, g2, g3, g4, g5, g6, g7⟩ := id hL.gn
  have hn12 : h.fr 1 (h.fr 384 g) ≠ h.fr 2 (h.fr 384 g) := gl_ne g6 g7 (by decide)
  refine r_aload_n (q := 1) (z := 0) C 0 rfl (by decide +kernel) rfl rfl ?_
  refine r_aload_n (q := 2) (z := 2) C 2 rfl (by decide +kernel) rfl rfl ?_
  refine cV1I (q := 5) C R rfl (by decide +kernel) lk_X6_253 (c_X6_isClear hL R0 Rc W hs) (by decide) (by decide) (by decide) rfl (by first | exact Nat.le_of_ble_eq_true rfl | (simp only [List.map_cons, List.map_nil, List.sum_cons, List.sum_nil, rv_cat]; exact Nat.le_of_ble_eq_true rfl)) rfl hL.kf ?_
  rintro _ _ ⟨t2, rfl, ht2, rfl⟩
  refine r_if_eq (q := 8) (off := 12) (tgt := 17) C rfl (by decide +kernel) (by decide) (fun c5 => ?_) (fun c5 => ?_)
  · have hN : ¬ gLay σ r x y w z := fun ⟨a, b, ha, hb, ea, eb, hG⟩ => by have := ht2.mpr ⟨a, b, ha, hb, ea, eb, (gRm_iff.mp hG.1).1⟩; rw [(b2i_0 _).mp c5] at this; cases this
    refine r_iconst (q := 18) (z := 0) (v := 0) C rfl (by decide +kernel) (by decide) ?_
    exact r_zret C (by decide +kernel) rfl (by first | decide | exact b2i_nar _) (by decide) (by decide) (eqP hPP ⟨_, rfl, ⟨false, _, _, _, rfl, bsx_self, ⟨(fun e => nomatch e), fun e => absurd e hN⟩⟩⟩)
  · obtain ⟨a, b, ha, hb, rfl, rfl, hGc⟩ := ht2.mp ((b2i_n0 _).mp c5)
    have hone : ∀ a' b', (a' < 12 ∧ b' < 10 ∧ nI a = nI a' ∧ nI b = nI b' ∧ gFit σ r a' b' w z) → gFit σ r a b w z := fun a' b' h9 => by
      have e1 : a = a' := (nI_eq (by omega) (by omega)).mp h9.2.2.1
      have e2 : b = b' := (nI_eq (by omega) (by omega)).mp h9.2.2.2.1
      rw [e1, e2]; exact h9.2.2.2.2
    obtain ⟨hon, hdf, hng, hfr⟩ := id hGc
    have hsN : SpN h.kd h.fi s a b w z := ⟨s1, s2, s3, s4, s5, hon.1, by omega⟩
    refine r_aload_n (q := 9) (z := 0) C 0 rfl (by decide +kernel) rfl rfl ?_
    refine r_aload_n (q := 10) (z := 1) C 1 rfl (by decide +kernel) rfl rfl ?_
    refine r_aload_n (q := 11) (z := 2) C 2 rfl (by decide +kernel) rfl rfl ?_
    refine cV2I (q := 14) C R rfl (by decide +kernel) lk_X6_257 (c_X6_isClearOfOthers hL R0 W hr hsN) (by decide) (by decide) (by decide) rfl (by first | exact Nat.le_of_ble_eq_true rfl | (simp only [List.map_cons, List.map_nil, List.sum_cons, List.sum_nil, rv_cat]; exact Nat.le_of_ble_eq_true rfl)) rfl hL.kf ?_
    rintro _ _ ⟨t11, rfl, ht11, rfl⟩
    refine r_if_ne (q := 17) (off := 5) (tgt := 19) C rfl (by decide +kernel) (by decide) (fun c14 => ?_) (fun c14 => ?_)
    · have hGo := ht11.mp ((b2i_n0 _).mp c14)
      have hbar : ∀ c, c < 120 → ((h.row (h.fr 0 (h.fr 384 g)) (fun c => if inn a b w z c then nI r else h.ai (h.fr 0 (h.fr 384 g)) c)).ai (h.fr 0 (h.fr 384 g)) c = -1 ↔ gBar σ a b w z c = false) := fun c hc => by
        rw [ai_row_eq]
        unfold gBar
        cases e : inn a b w z c with
        | true => simp only [if_true, Bool.or_true]; exact ⟨fun q => absurd q.symm (m1_ne (by omega)), fun q => by cases q⟩
        | false =>
          simp only [Bool.false_eq_true, if_false, Bool.or_false, Bool.not_eq_false']
          rw [Rc c hc]; exact cell_free r10
      refine r_aload_n (q := 20) (z := 0) C 0 rfl (by decide +kernel) rfl rfl ?_
      refine r_getR (q := 23) C 6 0 384 rfl (by decide +kernel) rfl (by decide) rfl rfl wf_X6_10 win6 hL.kf ?_
      refine r_aload_n (q := 24) (z := 2) C 2 rfl (by decide +kernel) rfl rfl ?_
      refine r_aload_n (q := 25) (z := 1) C 1 rfl (by decide +kernel) rfl rfl ?_
      refine r_getI (q := 28) C 3 0 192 rfl (by decide +kernel) rfl (by decide) rfl rfl wf_X6_115 win3 (hL.kp hr) ?_
      rw [R0.num hr]
      refine cV2V (q := 31) C R rfl (by decide +kernel) lk_X6_260 (c_X0_cover (x := a) (y := b) (w := w) (z := z) hL.gn hsN) (by decide) (by decide) (by decide) rfl (by first | exact Nat.le_of_ble_eq_true rfl | (simp only [List.map_cons, List.map_nil, List.sum_cons, List.sum_nil, rv_cat]; exact Nat.le_of_ble_eq_true rfl)) rfl hL.kg ?_
      rintro _ rfl
      refine r_aload_n (q := 32) (z := 0) C 0 rfl (by decide +kernel) rfl rfl ?_
      refine cV0I (q := 35) C R rfl (by decide +kernel) lk_X6_91 (c_X6_areDoorsJoined (σ := σ) (p := p) (L := L) (bar := gBar σ a b w z) hL R0 W hbar) (by decide) (by decide) (by decide) rfl (by first | exact Nat.le_of_ble_eq_true rfl | (simp only [List.map_cons, List.map_nil, List.sum_cons, List.sum_nil, rv_cat]; exact Nat.le_of_ble_eq_true rfl)) rfl hL.kf ?_
      rintro _ _ ⟨t32, f32, q32, k32, rfl, rfl, hr32, ht32⟩
      have J61 : ∀ (t : Bool), (t = true ↔ gFit σ r a b w z) → wX G Γ (qM G Γ PP 0 0) 0 0 (bst (h.row (h.fr 0 (h.fr 384 g)) (fun c => if inn a b w z c then nI r else h.ai (h.fr 0 (h.fr 384 g)) c)) (h.fr 384 g) f32 q32 k32) 61 [some (rv g), some (rv (p r)), some (rv s), none] [.int (b2i t)] := by
        intro t hv
        refine r_istore_n (q := 62) (z := 3) C 3 rfl (by decide +kernel) rfl (by decide) (by first | rfl | exact okst_rv rfl) ?_
        dsimp only [List.set]
        refine r_aload_n (q := 63) (z := 0) C 0 rfl (by decide +kernel) rfl rfl ?_
        refine r_getR (q := 66) C 6 0 384 rfl (by decide +kernel) rfl (by decide) rfl rfl wf_X6_10 win6 hL.kf ?_
        refine r_aload_n (q := 67) (z := 2) C 2 rfl (by decide +kernel) rfl rfl ?_
        refine r_iconst (q := 68) (z := (-1)) (v := (-1)) C rfl (by decide +kernel) (by decide) ?_
        refine cV2V (q := 71) C R rfl (by decide +kernel) lk_X6_260 (c_X0_cover (x := a) (y := b) (w := w) (z := z) hL.gn hsN) (by decide) (by decide) (by decide) rfl (by first | exact Nat.le_of_ble_eq_true rfl | (simp only [List.map_cons, List.map_nil, List.sum_cons, List.sum_nil, rv_cat]; exact Nat.le_of_ble_eq_true rfl)) rfl hL.kg ?_
        rintro _ rfl
        refine r_iload_n (q := 72) (z := 3) C 3 rfl (by decide +kernel) rfl rfl ?_
        exact r_zret C (by decide +kernel) rfl (by first | decide | exact b2i_nar _) (by decide) (by decide) (eqP hPP ⟨_, rfl, (by
              refine ⟨t, f32, q32, nI k32, rfl, (bsx_back hL.gn _ ?_).symm, ⟨fun e => ⟨a, b, ha, hb, rfl, rfl, hv.mp e⟩, fun ⟨a', b', h9⟩ => hv.mpr (hone a' b' h9)⟩⟩
              funext c
              have n01 : h.fr 0 (h.fr 384 g) ≠ h.fr 1 (h.fr 384 g) := gl_ne g5 g6 (by decide)
              have n02 : h.fr 0 (h.fr 384 g) ≠ h.fr 2 (h.fr 384 g) := gl_ne g5 g7 (by decide)
              cases e : inn a b w z c with
              | true =>
                have hc := inn_lt e (by omega)
                rw [if_pos rfl, Rc c hc]; exact ((cell_free r10).mpr (hfr c hc e)).symm
              | false =>
                simp only [Bool.false_eq_true, if_false]
                show (bst (h.row (h.fr 0 (h.fr 384 g)) _) (h.fr 384 g) f32 q32 k32).ai (h.fr 0 (h.fr 384 g)) c = _
                rw [bst_ai (h := h.row _ _) n01 n02, ai_row_eq, e]; rfl)⟩)
      refine r_if_eq (q := 38) (off := 25) (tgt := 60) C rfl (by decide +kernel) (by decide) (fun c35 => ?_) (fun c35 => ?_)
      · have hF : ¬ gFit σ r a b w z := fun e => by have := ht32.mpr e.2.1; rw [(b2i_0 _).mp c35] at this; cases this
        have hv : (false = true ↔ gFit σ r a b w z) := ⟨(fun e => nomatch e), fun e => absurd e hF⟩
        refine r_iconst (q := 61) (z := 0) (v := b2i false) C rfl (by decide +kernel) (by decide) ?_
        exact wX.sub (lsub_s (lsub_s (lsub_s (lsub_n (lsub_nil))))) (J61 _ hv)
      · refine r_aload_n (q := 39) (z := 0) C 0 rfl (by decide +kernel) rfl rfl ?_
        refine r_getR (q := 42) C 6 0 384 rfl (by decide +kernel) rfl (by decide) rfl rfl wf_X6_10 win6 hL.kf ?_
        refine r_aload_n (q := 43) (z := 2) C 2 rfl (by decide +kernel) rfl rfl ?_
        refine cV0I (q := 46) C R rfl (by decide +kernel) lk_X6_230 (c_X4_doorX s1) (by decide) (by decide) (by decide) rfl (by first | exact Nat.le_of_ble_eq_true rfl | (simp only [List.map_cons, List.map_nil, List.sum_cons, List.sum_nil, rv_cat]; exact Nat.le_of_ble_eq_true rfl)) rfl s1 ?_
        rintro _ _ ⟨rfl, rfl⟩
        rw [bst_fi (by decide), bst_fi (by decide)]
        simp only [fi_row]
        rw [s2, s4, half_nI (by omega) (by omega)]
        refine r_aload_n (q := 47) (z := 2) C 2 rfl (by decide +kernel) rfl rfl ?_
        refine cV0I (q := 50) C R rfl (by decide +kernel) lk_X6_227 (c_X4_doorY s1) (by decide) (by decide) (by decide) rfl (by first | exact Nat.le_of_ble_eq_true rfl | (simp only [List.map_cons, List.map_nil, List.sum_cons, List.sum_nil, rv_cat]; exact Nat.le_of_ble_eq_true rfl)) rfl s1 ?_
        rintro _ _ ⟨rfl, rfl⟩
        rw [bst_fi (by decide), bst_fi (by decide)]
        simp only [fi_row]
        rw [s3, s5, nI_add]
        refine cV2I (q := 53) C R rfl (by decide +kernel) lk_X6_250 (c_X0_isReached g1 g3) (by decide) (by decide) (by decide) rfl (by first | exact Nat.le_of_ble_eq_true rfl | (simp only [List.map_cons, List.map_nil, List.sum_cons, List.sum_nil, rv_cat]; exact Nat.le_of_ble_eq_true rfl)) rfl hL.kg ?_
        rintro _ _ ⟨rfl, rfl⟩
        rw [hasC_nI (by omega) (by omega), Bool.true_and, cIx, nI_clamp (by omega), bst_fr, fr_row]
        rw [show (bst (h.row (h.fr 0 (h.fr 384 g)) (fun c => if inn a b w z c then nI r else h.ai (h.fr 0 (h.fr 384 g)) c)) (h.fr 384 g) f32 q32 k32).ai (h.fr 1 (h.fr 384 g)) = f32 from bst_ai1 (h := (h.row (h.fr 0 (h.fr 384 g)) (fun c => if inn a b w z c then nI r else h.ai (h.fr 0 (h.fr 384 g)) c))) hn12, show 12 * (b + z) + (a + (w - 1) / 2) = 12 * (b + z) + a + (w - 1) / 2 by omega]
        refine r_if_eq (q := 56) (off := 7) (tgt := 60) C rfl (by decide +kernel) (by decide) (fun c53 => ?_) (fun c53 => ?_)
        · have hF : ¬ gFit σ r a b w z := fun e => of_decide_eq_false ((b2i_0 _).mp c53) ((hr32 _ (by omega)).mpr e.2.2)
          have hv : (false = true ↔ gFit σ r a b w z) := ⟨(fun e => nomatch e), fun e => absurd e hF⟩
          refine r_iconst (q := 61) (z := 0) (v := b2i false) C rfl (by decide +kernel) (by decide) ?_
          exact wX.sub (lsub_s (lsub_s (lsub_s (lsub_n (lsub_nil))))) (J61 _ hv)
        · have hF : gFit σ r a b w z := ⟨gRm_iff.mpr ⟨hGc, hGo⟩, ht32.mp ((b2i_n0 _).mp c35), (hr32 _ (by omega)).mp (of_decide_eq_true ((b2i_n0 _).mp c53))⟩
          have hv : (true = true ↔ gFit σ r a b w z) := ⟨fun _ => hF, fun _ => rfl⟩
          refine r_iconst (q := 57) (z := 1) (v := b2i true) C rfl (by decide +kernel) (by decide) ?_
          refine r_goto (off := 4) (tgt := 61) C (by decide +kernel) (by decide) ?_
          exact wX.sub (lsub_s (lsub_s (lsub_s (lsub_n (lsub_nil))))) (J61 _ hv)
    · have hN : ¬ gLay σ r (nI a) (nI b) w z := fun ⟨a', b', h9⟩ => by have := ht11.mpr (gRm_iff.mp (hone a' b' h9).1).2; rw [(b2i_0 _).mp c14] at this; cases this
      refine r_iconst (q := 18) (z := 0) (v := 0) C rfl (by decide +kernel) (by decide) ?_
      exact r_zret C (by decide +kernel) rfl (by first | decide | exact b2i_nar _) (by decide) (by decide) (eqP hPP ⟨_, rfl, ⟨false, _, _, _, rfl, bsx_self, ⟨(fun e => nomatch e), fun e => absurd e hN⟩⟩⟩)
theorem c_X3_area {G : GT} {h : HP} {a : Nat} (k1 : h.kd a = (0, 3)) : Con G 1 0 0 yX3_area cX3_area 1 (some .int) [rv a] h (PI (fun v h' => h.fi 193 a * h.fi 194 a = v ∧ h = h')) := by
  refine Con.of (lv := [some (rv a)]) (by decide) (by simp only [lvE_r, lvE_i, lvE_l, lvE_s, lvE_0]; rfl) (by simp only [lgl_r, lgl_i, lgl_l, lgl_s, lgl_0]; decide) (fun Γ C R => ?_)
  generalize hPP : (PI (fun v h' => h.fi 193 a * h.fi 194 a = v ∧ h = h')) = PP
  refine r_aload_n (q := 1) (z := 0) C 0 rfl (by decide +kernel) rfl rfl ?_
  refine r_getI (q := 4) C 3 1 193 rfl (by decide +kernel) rfl (by decide) rfl rfl wf_X3_38 win3 k1 ?_
  refine r_aload_n (q := 5) (z := 0) C 0 rfl (by decide +kernel) rfl rfl ?_
  refine r_getI (q := 8) C 3 2 194 rfl (by decide +kernel) rfl (by decide) rfl rfl wf_X3_41 win3 k1 ?_
  refine r_imul (q := 9) C rfl (by decide +kernel) ?_
  exact r_iret C (by decide +kernel) rfl (by decide) (by decide) (eqP hPP ⟨_, rfl, ⟨rfl, rfl⟩⟩)
theorem c_X3_powerLine {G : GT} {h : HP} {a : Nat} (k1 : h.kd a = (0, 3)) (k2 : h.kd (h.fr 198 a) = (0, 4)) : Con G 2 0 0 yX3_powerLine cX3_powerLine 1 (some .int) [rv a] h (PI (fun v h' => (h.fi 256 (h.fr 198 a) + (h.fi 258 (h.fr 198 a) - 1) / 2) / 4 = v ∧ h = h')) := by
  refine Con.of (lv := [some (rv a)]) (by decide) (by simp only [lvE_r, lvE_i, lvE_l, lvE_s, lvE_0]; rfl) (by simp only [lgl_r, lgl_i, lgl_l, lgl_s, lgl_0]; decide) (fun Γ C R => ?_)
  generalize hPP : (PI (fun v h' => (h.fi 256 (h.fr 198 a) + (h.fi 258 (h.fr 198 a) - 1) / 2) / 4 = v ∧ h = h')) = PP
  refine r_aload_n (q := 1) (z := 0) C 0 rfl (by decide +kernel) rfl rfl ?_
  refine r_getR (q := 4) C 3 6 198 rfl (by decide +kernel) rfl (by decide) rfl rfl wf_X3_12 win3 k1 ?_
  refine cV0I (q := 7) C R rfl (by decide +kernel) lk_X3_53 (c_X4_doorX k2) (by decide) (by decide) (by decide) rfl (by first | exact Nat.le_of_ble_eq_true rfl | (simp only [List.map_cons, List.map_nil, List.sum_cons, List.sum_nil, rv_cat]; exact Nat.le_of_ble_eq_true rfl)) rfl k2 ?_
  rintro _ _ ⟨rfl, rfl⟩
  refine r_iconst (q := 8) (z := 4) (v := 4) C rfl (by decide +kernel) (by decide) ?_
  refine r_idiv (q := 9) C rfl (by decide +kernel) (by decide) ?_
  exact r_iret C (by decide +kernel) rfl (by decide) (by decide) (eqP hPP ⟨_, rfl, ⟨rfl, rfl⟩⟩)
theorem c_X3_holdOneYearMore {G : GT} {h : HP} {a : Nat} (k1 : h.kd a = (0, 3)) (k2 : h.kd (h.fr 198 a) = (0, 4)) : Con G 2 0 0 yX3_holdOneYearMore cX3_holdOneYearMore 1 none [rv a] h (PV (fun h' => ((h.setI 202 a (h.fi 202 a + 1)).setI 203 a 0).setI 201 a (2 * (12 * h.fi 257 (h.fr 198 a) + h.fi 256 (h.fr 198 a)) + (if h.fi 260 (h.fr 198 a) = 0 then 0 else 1)) = h')) := by
  refine Con.of (lv := [some (rv a)]) (by decide) (by simp only [lvE_r, lvE_i, lvE_l, lvE_s, lvE_0]; rfl) (by simp only [lgl_r, lgl_i, lgl_l, lgl_s, lgl_0]; decide) (fun Γ C R => ?_)
  generalize hPP : (PV (fun h' => ((h.setI 202 a (h.fi 202 a + 1)).setI 203 a 0).setI 201 a (2 * (12 * h.fi 257 (h.fr 198 a) + h.fi 256 (h.fr 198 a)) + (if h.fi 260 (h.fr 198 a) = 0 then 0 else 1)) = h')) = PP
  refine r_aload_n (q := 1) (z := 0) C 0 rfl (by decide +kernel) rfl rfl ?_
  refine r_dup (q := 2) C rfl (by decide +kernel) (by first | rfl | exact rv_cat _) ?_
  refine r_getI (q := 5) C 3 10 202 rfl (by decide +kernel) rfl (by decide) rfl rfl wf_X3_29 win3 k1 ?_
  refine r_iconst (q := 6) (z := 1) (v := 1) C rfl (by decide +kernel) (by decide) ?_
  refine r_iadd (q := 7) C rfl (by decide +kernel) ?_
  refine r_putI (q := 10) C 3 10 202 rfl (by decide +kernel) rfl (by decide) rfl rfl wf_X3_29 win3 tyX3 tyX3_ok nmX3 rfl (tyX3_ok 10 (by decide)) rfl wnd3 rfl rfl k1 ?_
  refine r_aload_n (q := 11) (z := 0) C 0 rfl (by decide +kernel) rfl rfl ?_
  refine r_iconst (q := 12) (z := 0) (v := 0) C rfl (by decide +kernel) (by decide) ?_
  refine r_putI (q := 15) C 3 11 203 rfl (by decide +kernel) rfl (by decide) rfl rfl wf_X3_32 win3 tyX3 tyX3_ok nmX3 rfl (tyX3_ok 11 (by decide)) rfl wnd3 rfl rfl k1 ?_
  refine r_aload_n (q := 16) (z := 0) C 0 rfl (by decide +kernel) rfl rfl ?_
  refine r_aload_n (q := 17) (z := 0) C 0 rfl (by decide +kernel) rfl rfl ?_
  refine r_getR (q := 20) C 3 6 198 rfl (by decide +kernel) rfl (by decide) rfl rfl wf_X3_12 win3 k1 ?_
  refine cV0I (q := 23) C R rfl (by decide +kernel) lk_X3_57 (c_X4_place k2) (by decide) (by decide) (by decide) rfl (by first | exact Nat.le_of_ble_eq_true rfl | (simp only [List.map_cons, List.map_nil, List.sum_cons, List.sum_nil, rv_cat]; exact Nat.le_of_ble_eq_true rfl)) rfl k2 ?_
  rintro _ _ ⟨rfl, rfl⟩
  rw [show ((h.setI 202 a (h.fi 202 a + 1)).setI 203 a 0).fr 198 a = h.fr 198 a from rfl, fi_ne (by decide), fi_ne (by decide), fi_ne (by decide), fi_ne (by decide), fi_ne (by decide), fi_ne (by decide)]
  refine r_putI (q := 26) C 3 9 201 rfl (by decide +kernel) rfl (by decide) rfl rfl wf_X3_25 win3 tyX3 tyX3_ok nmX3 rfl (tyX3_ok 9 (by decide)) rfl wnd3 rfl rfl k1 ?_
  exact r_ret C (by decide +kernel) rfl (by decide) (by decide) (eqP hPP ⟨rfl, (by rfl)⟩)
theorem c_X3_loseRight {G : GT} {h : HP} {a : Nat} (k1 : h.kd a = (0, 3)) : Con G 1 0 0 yX3_loseRight cX3_loseRight 1 none [rv a] h (PV (fun h' => ((h.setI 201 a (-1)).setI 202 a 0).setI 203 a 0 = h')) := by
  refine Con.of (lv := [some (rv a)]) (by decide) (by simp only [lvE_r, lvE_i, lvE_l, lvE_s, lvE_0]; rfl) (by simp only [lgl_r, lgl_i, lgl_l, lgl_s, lgl_0]; decide) (fun Γ C R => ?_)
  generalize hPP : (PV (fun h' => ((h.setI 201 a (-1)).setI 202 a 0).setI 203 a 0 = h')) = PP
  refine r_aload_n (q := 1) (z := 0) C 0 rfl (by decide +kernel) rfl rfl ?_
  refine r_iconst (q := 2) (z := (-1)) (v := (-1)) C rfl (by decide +kernel) (by decide) ?_
  refine r_putI (q := 5) C 3 9 201 rfl (by decide +kernel) rfl (by decide) rfl rfl wf_X3_25 win3 tyX3 tyX3_ok nmX3 rfl (tyX3_ok 9 (by decide)) rfl wnd3 rfl rfl k1 ?_
  refine r_aload_n (q := 6) (z := 0) C 0 rfl (by decide +kernel) rfl rfl ?_
  refine r_iconst (q := 7) (z := 0) (v := 0) C rfl (by decide +kernel) (by decide) ?_
  refine r_putI (q := 10) C 3 10 202 rfl (by decide +kernel) rfl (by decide) rfl rfl wf_X3_29 win3 tyX3 tyX3_ok nmX3 rfl (tyX3_ok 10 (by decide)) rfl wnd3 rfl rfl k1 ?_
  refine r_aload_n (q := 11) (z := 0) C 0 rfl (by decide +kernel) rfl rfl ?_
  refine r_iconst (q := 12) (z := 0) (v := 0) C rfl (by decide +kernel) (by decide) ?_
  refine r_putI (q := 15) C 3 11 203 rfl (by decide +kernel) rfl (by decide) rfl rfl wf_X3_32 win3 tyX3 tyX3_ok nmX3 rfl (tyX3_ok 11 (by decide)) rfl wnd3 rfl rfl k1 ?_
  exact r_ret C (by decide +kernel) rfl (by decide) (by decide) (eqP hPP ⟨rfl, (by rfl)⟩)
