/-! ===== orders ===== -/
/-- the way to each door that stands; the cells of the lying are theirs alone -/
def JN (σ : SG) : Prop := (∀ q, q < σ.n → σ.li q < 240 → RS (fun c => !σ.fre c) (12 * σ.gr) (σ.dr q)) ∧ (∀ q c, q < σ.n → c < 120 → σ.cv q c = true → σ.cl c = false) ∧ ∀ q q' c, q < σ.n → q' < σ.n → c < 120 → σ.cv q c = true → σ.cv q' c = true → q = q'
def cvN (σ : SG) (c : Nat) : Nat → Nat
  | 0 => 10
  | k + 1 => if σ.cv k c then k else cvN σ c k
theorem covN_bx {σ : SG} {c : Nat} : ∀ {k : Nat}, k ≤ 10 → covN σ c k = bx (cvN σ c k)
  | 0, _ => rfl
  | k + 1, h => by
    simp only [covN, cvN]
    by_cases e : σ.cv k c = true
    · rw [if_pos e, if_pos e, bx_in (by omega)]
    · rw [if_neg e, if_neg e]; exact covN_bx (by omega)
theorem cvN_cv {σ : SG} {c : Nat} : ∀ {k : Nat}, cvN σ c k < 10 → cvN σ c k < k ∧ σ.cv (cvN σ c k) c = true
  | 0, h => absurd h (show ¬ (10 : Nat) < 10 by decide)
  | k + 1, h => by
    simp only [cvN] at h ⊢
    by_cases e : σ.cv k c = true
    · rw [if_pos e]; exact ⟨by omega, e⟩
    · rw [if_neg e] at h ⊢
      have := cvN_cv h
      exact ⟨by omega, this.2⟩
theorem cvN_no {σ : SG} {c : Nat} : ∀ {k : Nat}, (∀ r, r < k → σ.cv r c = false) → cvN σ c k = 10
  | 0, _ => rfl
  | k + 1, h => by
    simp only [cvN]; rw [h k (by omega), if_neg (by decide)]; exact cvN_no (fun r hr => h r (by omega))
theorem cvN_yes {σ : SG} {c r : Nat} : ∀ {k : Nat}, r < k → k ≤ 10 → σ.cv r c = true → (∀ q, q < k → σ.cv q c = true → q = r) → cvN σ c k = r
  | 0, h, _, _, _ => absurd h (Nat.not_lt_zero _)
  | k + 1, h, hk, hr, hq => by
    simp only [cvN]
    by_cases e : σ.cv k c = true
    · rw [if_pos e]; exact hq k (by omega) e
    · rw [if_neg e]
      have : r ≠ k := fun e2 => e (e2 ▸ hr)
      exact cvN_yes (by omega) (by omega) hr (fun q h1 h2 => hq q (by omega) h2)
def barS (σ : SG) (S c : Nat) : Bool := σ.cl c || (decide (cvN σ c σ.n < 10) && S.testBit (cvN σ c σ.n))
theorem mset_bit (p : Nat → Bool) (r : Nat) : ∀ n, (mset p n).testBit r = (decide (r < n) && p r)
  | 0 => by simp [mset]
  | n + 1 => by
    simp only [mset]
    have ih := mset_bit p r n
    by_cases e : p n = true
    · rw [if_pos e, Nat.testBit_or, ih, Nat.testBit_two_pow]
      by_cases e2 : n = r
      · subst e2; simp [e]
      · have : decide (r < n + 1) = decide (r < n) := by congr 1; apply propext; omega
        rw [this]; simp [e2]
    · rw [if_neg e, ih]
      by_cases e2 : r = n
      · subst e2; simp [e]
      · have : decide (r < n + 1) = decide (r < n) := by congr 1; apply propext; omega
        rw [this]
def lyb (σ : SG) (r : Nat) : Bool := decide (σ.li r < 240)
def alS (σ : SG) : Nat := mset (lyb σ) σ.n
def nin (σ : SG) (S r : Nat) : Bool := lyb σ r && !S.testBit r
def cpS (σ : SG) (S : Nat) : Nat := mset (nin σ S) σ.n
def whoN (σ : SG) (rb : Nat → Bool) : Nat → Nat
  | 0 => 0
  | k + 1 => whoN σ rb k ||| (if decide (cvN σ k σ.n < 10) && rb k then 2 ^ cvN σ k σ.n else 0)
theorem whoN_lt {σ : SG} {rb : Nat → Bool} : ∀ k, whoN σ rb k < 2 ^ 10
  | 0 => by show (0 : Nat) < 2 ^ 10; decide
  | k + 1 => by
    simp only [whoN]
    refine Nat.or_lt_two_pow (whoN_lt k) ?_
    split
    · rename_i h
      rw [Bool.and_eq_true, decide_eq_true_eq] at h
      exact Nat.pow_lt_pow_right (by decide) h.1
    · decide
theorem whoN_bit {σ : SG} {rb : Nat → Bool} {r : Nat} : ∀ k, (whoN σ rb k).testBit r = true ↔ ∃ c, c < k ∧ cvN σ c σ.n = r ∧ r < 10 ∧ rb c = true
  | 0 => by simp [whoN]
  | k + 1 => by
    simp only [whoN]
    rw [Nat.testBit_or, Bool.or_eq_true, whoN_bit k]
    constructor
    · rintro (⟨c, h1, h2⟩ | h)
      · exact ⟨c, by omega, h2⟩
      · split at h
        · rename_i h9
          rw [Bool.and_eq_true, decide_eq_true_eq] at h9
          rw [Nat.testBit_two_pow, decide_eq_true_eq] at h
          exact ⟨k, by omega, h, h ▸ h9.1, h9.2⟩
        · simp at h
    · rintro ⟨c, h1, h2, h3, h4⟩
      by_cases e : c = k
      · subst e
        refine Or.inr ?_
        rw [if_pos (by rw [Bool.and_eq_true, decide_eq_true_eq]; exact ⟨h2 ▸ h3, h4⟩), Nat.testBit_two_pow, decide_eq_true_eq]; exact h2
      · exact Or.inl ⟨c, by omega, h2, h3, h4⟩
/-- the cell above the door is the ride's own -/
theorem above {σ : SG} (W : WF σ) {r : Nat} (hr : r < σ.n) (hl : σ.li r < 240) : 12 ≤ σ.dr r ∧ σ.cv r (σ.dr r - 12) = true := by
  have h1 := W.wA hr (σ.li r)
  have h2 := W.hA hr (σ.li r)
  have h3 := W.2.2.2.2.1 r hr hl
  unfold SG.onG at h3
  unfold SG.dr SG.dA SG.cv SG.cA
  rw [Bool.and_eq_true, decide_eq_true_eq, inn_iff]
  refine ⟨by omega, hl, ?_⟩
  have e : 12 * (py (σ.li r) + σ.hA r (σ.li r)) + px (σ.li r) + (σ.wA r (σ.li r) - 1) / 2 - 12 = 12 * (py (σ.li r) + σ.hA r (σ.li r) - 1) + (px (σ.li r) + (σ.wA r (σ.li r) - 1) / 2) := by omega
  rw [e, show (12 * (py (σ.li r) + σ.hA r (σ.li r) - 1) + (px (σ.li r) + (σ.wA r (σ.li r) - 1) / 2)) % 12 = px (σ.li r) + (σ.wA r (σ.li r) - 1) / 2 by omega, show (12 * (py (σ.li r) + σ.hA r (σ.li r) - 1) + (px (σ.li r) + (σ.wA r (σ.li r) - 1) / 2)) / 12 = py (σ.li r) + σ.hA r (σ.li r) - 1 by omega]
  omega
theorem fre_iff {σ : SG} {c : Nat} : σ.fre c = true ↔ σ.cl c = false ∧ ∀ r, r < σ.n → σ.cv r c = false := by
  unfold SG.fre
  rw [Bool.and_eq_true, Bool.not_eq_true', Bool.not_eq_true', anyb_f]
theorem pull_eq {σ : SG} (W : WF σ) (J : JN σ) {S : Nat} {rb : Nat → Bool} (hR : ∀ c, c < 120 → (rb c = true ↔ RS (barS σ S) (12 * σ.gr) c)) : whoN σ rb 120 = cpS σ S := by
  have n10 := W.n10
  apply Nat.eq_of_testBit_eq
  intro r
  unfold cpS
  rw [Bool.eq_iff_iff, whoN_bit, mset_bit, Bool.and_eq_true, decide_eq_true_eq]
  unfold nin lyb
  rw [Bool.and_eq_true, decide_eq_true_eq, Bool.not_eq_true']
  constructor
  · rintro ⟨c, hc, h1, h2, h3⟩
    have k1 := cvN_cv (σ := σ) (c := c) (k := σ.n) (by omega)
    rw [h1] at k1
    have k2 := ((hR c hc).mp h3).free
    unfold barS at k2
    rw [h1, Bool.or_eq_false_iff, Bool.and_eq_false_iff] at k2
    refine ⟨k1.1, ?_, ?_⟩
    · have := k1.2
      unfold SG.cv at this
      rw [Bool.and_eq_true, decide_eq_true_eq] at this
      exact this.1
    · rcases k2.2 with e | e
      · exact absurd e (by simp [h2])
      · exact e
  · rintro ⟨h1, h2, h3⟩
    obtain ⟨a1, a2⟩ := above W h1 h2
    have d1 := W.dr h1 h2
    have hcv : cvN σ (σ.dr r - 12) σ.n = r := cvN_yes h1 n10 a2 (fun q hq e => J.2.2 q r _ hq h1 (by omega) e a2)
    have hb : barS σ S (σ.dr r - 12) = false := by
      unfold barS
      rw [hcv, J.2.1 r _ h1 (by omega) a2, h3, Bool.and_false]; rfl
    have hd : RS (barS σ S) (12 * σ.gr) (σ.dr r) := (J.1 r h1 h2).mono (fun c hc => by
      have hc' : σ.fre c = true := by simpa using hc
      rw [fre_iff] at hc'
      unfold barS
      rw [hc'.1, cvN_no hc'.2]; rfl)
    refine ⟨σ.dr r - 12, by omega, hcv, by omega, (hR _ (by omega)).mpr (hd.step d1 (by omega) ?_ hb)⟩
    unfold adj; omega
/-! sets, and how many ways -/
def fac : Nat → Nat
  | 0 => 1
  | n + 1 => (n + 1) * fac n
theorem fac_pos : ∀ n, 0 < fac n
  | 0 => by decide
  | n + 1 => Nat.mul_pos (by omega) (fac_pos n)
theorem fac_mono {a b : Nat} (h : a ≤ b) : fac a ≤ fac b := by
  induction b with
  | zero => rw [show a = 0 by omega]; exact Nat.le_refl _
  | succ b ih =>
    by_cases e : a = b + 1
    · rw [e]; exact Nat.le_refl _
    · refine Nat.le_trans (ih (by omega)) ?_
      show fac b ≤ (b + 1) * fac b
      exact Nat.le_mul_of_pos_left _ (by omega)
theorem fac_10 {n : Nat} (h : n ≤ 10) : fac n ≤ 3628800 := Nat.le_trans (fac_mono h) (by decide)
def cdS (σ : SG) (S : Nat) : Nat := cnt (nin σ S) σ.n
def sbs (σ : SG) (S : Nat) : Bool := decide (S &&& alS σ = S)
def wyN (σ : SG) (S : Nat) : Nat := if sbs σ S then fac (cdS σ S) else 0
def caN (σ : SG) (S : Nat) : Nat := if sbs σ S then cpS σ S else 0
theorem alS_bit {σ : SG} {r : Nat} : (alS σ).testBit r = (decide (r < σ.n) && lyb σ r) := mset_bit _ _ _
theorem sbs_iff {σ : SG} {S : Nat} : sbs σ S = true ↔ ∀ r, S.testBit r = true → r < σ.n ∧ lyb σ r = true := by
  unfold sbs
  rw [decide_eq_true_eq]
  constructor
  · intro h r hr
    rw [← h, Nat.testBit_and, Bool.and_eq_true, alS_bit, Bool.and_eq_true, decide_eq_true_eq] at hr
    exact hr.2
  · intro h
    apply Nat.eq_of_testBit_eq
    intro r
    rw [Nat.testBit_and, alS_bit, Bool.eq_iff_iff, Bool.and_eq_true, Bool.and_eq_true, decide_eq_true_eq]
    exact ⟨fun e => e.1, fun e => ⟨e, h r e⟩⟩
theorem sub_le {S T : Nat} (h : ∀ r, S.testBit r = true → T.testBit r = true) : S ≤ T := by
  have e : S &&& T = S := by
    apply Nat.eq_of_testBit_eq
    intro r
    rw [Nat.testBit_and, Bool.eq_iff_iff, Bool.and_eq_true]
    exact ⟨fun e => e.1, fun e => ⟨e, h r e⟩⟩
  rw [← e]; exact Nat.and_le_right
theorem or_gt {S r : Nat} (h : S.testBit r = false) : S < S ||| 2 ^ r := by
  refine Nat.lt_of_le_of_ne (sub_le (fun q hq => by rw [Nat.testBit_or, hq]; rfl)) (fun e => ?_)
  have := congrArg (fun x => x.testBit r) e
  simp only [Nat.testBit_or, Nat.testBit_two_pow, h] at this
  simp at this
theorem or_sbs {σ : SG} {S r : Nat} (h : sbs σ S = true) (hr : r < σ.n) (hl : lyb σ r = true) : sbs σ (S ||| 2 ^ r) = true ∧ S ||| 2 ^ r ≤ alS σ := by
  have k : ∀ q, (S ||| 2 ^ r).testBit q = true → q < σ.n ∧ lyb σ q = true := fun q hq => by
    rw [Nat.testBit_or, Bool.or_eq_true, Nat.testBit_two_pow, decide_eq_true_eq] at hq
    rcases hq with e | e
    · exact sbs_iff.mp h q e
    · subst e; exact ⟨hr, hl⟩
  refine ⟨sbs_iff.mpr k, sub_le (fun q hq => ?_)⟩
  rw [alS_bit, Bool.and_eq_true, decide_eq_true_eq]; exact k q hq
theorem cnt_rm {p : Nat → Bool} {a : Nat} (ha : p a = true) : ∀ n, a < n → cnt p n = cnt (fun j => p j && !decide (j = a)) n + 1
  | 0, h => absurd h (Nat.not_lt_zero _)
  | n + 1, h => by
    simp only [cnt]
    by_cases e : a = n
    · subst e
      rw [cnt_congr (p := fun j => p j && !decide (j = a)) (q := p) a (fun k hk => by simp [show k ≠ a by omega])]
      simp [ha]
    · rw [cnt_rm ha n (by omega)]
      simp [show n ≠ a by omega]; omega
theorem cd_or {σ : SG} {S r : Nat} (hr : r < σ.n) (hn : nin σ S r = true) : cdS σ S = cdS σ (S ||| 2 ^ r) + 1 := by
  unfold cdS
  rw [cnt_rm hn σ.n hr]
  congr 1
  apply cnt_congr
  intro j _
  unfold nin
  rw [Nat.testBit_or, Nat.testBit_two_pow]
  by_cases e : j = r
  · subst e; simp
  · simp [e, Ne.symm e]
theorem cnt_f' : ∀ n, cnt (fun _ => false) n = 0
  | 0 => rfl
  | n + 1 => by simp [cnt, cnt_f' n]
theorem cd_al {σ : SG} {S : Nat} (h : sbs σ S = true) : cdS σ S = 0 ↔ S = alS σ := by
  unfold cdS
  constructor
  · intro e
    apply Nat.eq_of_testBit_eq
    intro r
    rw [alS_bit, Bool.eq_iff_iff, Bool.and_eq_true, decide_eq_true_eq]
    refine ⟨sbs_iff.mp h r, fun ⟨h1, h2⟩ => ?_⟩
    cases e2 : S.testBit r with
    | true => rfl
    | false =>
      have := cnt_rm (p := nin σ S) (a := r) (by unfold nin; rw [h2, e2]; rfl) σ.n h1
      omega
  · intro e
    subst e
    rw [cnt_congr (q := fun _ => false) σ.n (fun k hk => by unfold nin; rw [alS_bit]; cases h9 : lyb σ k <;> simp [hk])]
    exact cnt_f' σ.n
theorem cp_al (σ : SG) : cpS σ (alS σ) = 0 := by
  apply Nat.eq_of_testBit_eq
  intro r
  unfold cpS
  rw [mset_bit, Nat.zero_testBit]
  unfold nin
  rw [alS_bit]
  cases h9 : lyb σ r <;> cases h8 : decide (r < σ.n) <;> simp
theorem ca_bit {σ : SG} {S r : Nat} : (caN σ S).testBit r = (sbs σ S && (decide (r < σ.n) && nin σ S r)) := by
  unfold caN
  cases e : sbs σ S with
  | true => rw [if_pos rfl]; unfold cpS; rw [mset_bit]; rfl
  | false => rw [if_neg (by decide)]; simp
theorem ca_lt {σ : SG} (h : σ.n ≤ 10) (S : Nat) : caN σ S < 1024 := by
  unfold caN; split
  · exact mset_10 _ h
  · decide
theorem al_lt {σ : SG} (h : σ.n ≤ 10) : alS σ < 1024 := mset_10 _ h
/-- the sum over those that may come next -/
def wsN (σ : SG) (S : Nat) : Nat → Nat
  | 0 => if S = alS σ then 1 else 0
  | k + 1 => wsN σ S k + (if (caN σ S).testBit k then wyN σ (S ||| 2 ^ k) else 0)
theorem ws_eq {σ : SG} {S : Nat} : wsN σ S σ.n = wyN σ S := by
  by_cases hs : sbs σ S = true
  · by_cases ha : S = alS σ
    · have key : ∀ k, wsN σ S k = 1 := by
        intro k
        induction k with
        | zero => simp only [wsN]; rw [if_pos ha]
        | succ k ih =>
          simp only [wsN]; rw [ih, ca_bit, if_neg]
          intro e
          rw [Bool.and_eq_true, Bool.and_eq_true, decide_eq_true_eq] at e
          have := e.2.2
          unfold nin at this
          rw [ha, alS_bit] at this
          cases h9 : lyb σ k <;> simp [h9, e.2.1] at this
      rw [key]
      unfold wyN
      rw [if_pos hs, (cd_al hs).mpr ha]; rfl
    · obtain ⟨d, hd⟩ : ∃ d, cdS σ S = d + 1 := ⟨cdS σ S - 1, by have := mt (cd_al hs).mp ha; omega⟩
      have key : ∀ k, k ≤ σ.n → wsN σ S k = cnt (nin σ S) k * fac d := by
        intro k
        induction k with
        | zero => intro _; simp only [wsN, cnt]; rw [if_neg ha, Nat.zero_mul]
        | succ k ih =>
          intro hk
          simp only [wsN, cnt]
          rw [ih (by omega), ca_bit, hs]
          by_cases e : nin σ S k = true
          · rw [if_pos (by simp [e]; omega), if_pos e, Nat.add_mul, Nat.one_mul]
            congr 1
            have hl : lyb σ k = true := by unfold nin at e; rw [Bool.and_eq_true] at e; exact e.1
            unfold wyN
            rw [if_pos (or_sbs hs (by omega) hl).1]
            have := cd_or (S := S) (show k < σ.n by omega) e
            rw [show cdS σ (S ||| 2 ^ k) = d by omega]
          · rw [if_neg (by simp [e]), if_neg e]; simp
      rw [key σ.n (Nat.le_refl _)]
      unfold wyN
      rw [if_pos hs, hd, show cnt (nin σ S) σ.n = d + 1 from hd]; rfl
  · have key : ∀ k, wsN σ S k = 0 := by
      intro k
      induction k with
      | zero =>
        simp only [wsN]; rw [if_neg]
        intro e
        apply hs
        subst e
        exact sbs_iff.mpr (fun r hr => by rw [alS_bit, Bool.and_eq_true, decide_eq_true_eq] at hr; exact hr)
      | succ k ih =>
        simp only [wsN]; rw [ih, ca_bit, if_neg]
        simp [hs]
    rw [key]; unfold wyN; rw [if_neg hs]
theorem wy_le {σ : SG} (h : σ.n ≤ 10) (S : Nat) : wyN σ S ≤ 3628800 := by
  unfold wyN; split
  · exact fac_10 (Nat.le_trans (cnt_le _ _) h)
  · omega
theorem ws_le {σ : SG} (h : σ.n ≤ 10) (S : Nat) : ∀ k, k ≤ σ.n → wsN σ S k ≤ 3628800 := by
  intro k hk
  have mono : ∀ j, wsN σ S k ≤ wsN σ S (k + j) := by
    intro j
    induction j with
    | zero => exact Nat.le_refl _
    | succ j ih => show _ ≤ wsN σ S (k + j) + _; omega
  have := mono (σ.n - k)
  rw [show k + (σ.n - k) = σ.n by omega, ws_eq] at this
  exact Nat.le_trans this (wy_le h S)
theorem wy_0 (σ : SG) : wyN σ 0 = fac (lyN σ σ.n) := by
  unfold wyN
  rw [if_pos (sbs_iff.mpr (fun r hr => by simp at hr))]
  congr 1
  unfold cdS lyN
  apply cnt_congr
  intro k _
  simp [nin, lyb]
/-- the first so many of those that lie, by numbers -/
theorem mset_or {σ : SG} {b r : Nat} (hb : b ≤ r) (hl : lyb σ r = true) (hn : ∀ q, b ≤ q → q < r → lyb σ q = false) : mset (lyb σ) b ||| 2 ^ r = mset (lyb σ) (r + 1) := by
  apply Nat.eq_of_testBit_eq
  intro q
  rw [Nat.testBit_or, Nat.testBit_two_pow, mset_bit, mset_bit]
  by_cases e : r = q
  · subst e; simp [hl]
  · by_cases e1 : q < b
    · simp [e, e1, show q < r + 1 by omega]
    · by_cases e2 : q < r
      · rw [hn q (by omega) e2]; simp [e]
      · simp [e, e1, show ¬ q < r + 1 by omega]
theorem lyN_mono {σ : SG} {b r : Nat} (hb : b ≤ r) (hn : ∀ q, b ≤ q → q < r → lyb σ q = false) : lyN σ r = lyN σ b := by
  obtain ⟨j, rfl⟩ : ∃ j, r = b + j := ⟨r - b, by omega⟩
  induction j with
  | zero => rfl
  | succ j ih =>
    show lyN σ (b + j + 1) = _
    rw [lyN_n (by have := hn (b + j) (by omega) (by omega); unfold lyb at this; exact of_decide_eq_false this)]
    exact ih (by omega) (fun q h1 h2 => hn q h1 (by omega))
theorem ms_sbs {σ : SG} {b : Nat} (hb : b ≤ σ.n) : sbs σ (mset (lyb σ) b) = true := sbs_iff.mpr (fun r hr => by
  rw [mset_bit, Bool.and_eq_true, decide_eq_true_eq] at hr
  exact ⟨by omega, hr.2⟩)
/-- the first that lies, from b on -/
theorem nxt_ly {σ : SG} {b : Nat} (hb : b ≤ σ.n) (hn : mset (lyb σ) b ≠ alS σ) : ∃ r, b ≤ r ∧ r < σ.n ∧ lyb σ r = true ∧ ∀ q, b ≤ q → q < r → lyb σ q = false := by
  have h : ∃ r, b ≤ r ∧ r < σ.n ∧ lyb σ r = true := by
    refine Classical.byContradiction (fun hc => hn ?_)
    apply Nat.eq_of_testBit_eq
    intro q
    rw [mset_bit, alS_bit]
    by_cases e : q < b
    · simp [e, show q < σ.n by omega]
    · by_cases e2 : q < σ.n
      · cases e3 : lyb σ q with
        | false => simp
        | true => exact absurd ⟨q, by omega, e2, e3⟩ hc
      · simp [e, e2]
  obtain ⟨r, h1, h2⟩ := pk_least _ h
  refine ⟨r, h1.1, h1.2.1, h1.2.2, fun q h3 h4 => ?_⟩
  cases e3 : lyb σ q with
  | false => rfl
  | true => exact absurd ⟨h3, by omega, e3⟩ (h2 q h4)
/-- who is the i-th of those that lie -/
def ordP (σ : SG) (i : Int32) (r : Nat) : Prop := r < σ.n ∧ σ.li r < 240 ∧ i = nI (lyN σ r)
theorem ord_lt {σ : SG} {a b : Nat} (h : a < b) (hl : σ.li a < 240) : lyN σ a < lyN σ b := by
  have key : ∀ j, lyN σ a < lyN σ (a + 1 + j) := by
    intro j
    induction j with
    | zero => rw [Nat.add_zero, lyN_y hl]; omega
    | succ j ih =>
      show _ < cnt _ (a + 1 + j) + _
      have : lyN σ (a + 1 + j) = cnt (fun r => decide (σ.li r < 240)) (a + 1 + j) := rfl
      omega
  have := key (b - (a + 1))
  rwa [show a + 1 + (b - (a + 1)) = b by omega] at this
theorem ord_one {σ : SG} (hn : σ.n ≤ 10) {i : Int32} {a b : Nat} (ha : ordP σ i a) (hb : ordP σ i b) : a = b := by
  have e : lyN σ a = lyN σ b := (nI_eq (by have := lyN_le σ a; have := ha.1; omega) (by have := lyN_le σ b; have := hb.1; omega)).mp (ha.2.2.symm.trans hb.2.2)
  rcases Nat.lt_trichotomy a b with h | h | h
  · have := ord_lt h ha.2.1; omega
  · exact h
  · have := ord_lt h hb.2.1; omega
noncomputable def ordV (σ : SG) (i : Int32) : Int32 := cif (∃ r, ordP σ i r) (nI (@Classical.epsilon Nat ⟨0⟩ (ordP σ i))) (-1)
theorem ordV_y {σ : SG} (hn : σ.n ≤ 10) {i : Int32} {r : Nat} (h : ordP σ i r) : ordV σ i = nI r := by
  unfold ordV
  rw [cif_t ⟨r, h⟩, ord_one hn (@Classical.epsilon_spec_aux Nat ⟨0⟩ (ordP σ i) ⟨r, h⟩) h]
theorem ordV_n {σ : SG} {i : Int32} (h : ∀ r, ¬ ordP σ i r) : ordV σ i = -1 := by
  unfold ordV
  exact cif_f (fun ⟨r, e⟩ => h r e)
theorem and_nI (a b : Nat) : nI a &&& nI b = nI (a &&& b) := by
  apply Int32.toBitVec_inj.1
  show BitVec.ofNat 32 a &&& BitVec.ofNat 32 b = BitVec.ofNat 32 (a &&& b)
  apply BitVec.eq_of_getLsbD_eq
  intro i hi
  simp [hi]
theorem upd_upd {f : Nat → Int32} {k : Nat} {x z : Int32} : upd (upd f k x) k z = upd f k z := funext fun j => by unfold upd; split <;> rfl

theorem c_X7_setLying {G : GT} {h : HP} {m : Nat} {σ : SG}  (hm : LM h.kd h.gl h.fr m) (M : MR σ h m) (W : WF σ) : Con G 1 0 0 yX7_setLying cX7_setLying 3 (some .int) [rv m] h (PI (fun v h' => nI (alS σ) = v ∧ h = h')) := by
  refine Con.of (lv := [some (rv m), none, none]) (by decide) (by simp only [lvE_r, lvE_i, lvE_l, lvE_s, lvE_0]; rfl) (by simp only [lgl_r, lgl_i, lgl_l, lgl_s, lgl_0]; decide) (fun Γ C R => ?_)
  generalize hPP : (PI (fun v h' => nI (alS σ) = v ∧ h = h')) = PP
  have r10 := W.n10
  refine r_iconst (q := 1) (z := 0) (v := 0) C rfl (by decide +kernel) (by decide) ?_
  refine r_istore_n (q := 2) (z := 1) C 1 rfl (by decide +kernel) rfl (by decide) (by first | rfl | exact okst_rv rfl) ?_
  dsimp only [List.set]
  refine r_iconst (q := 3) (z := 0) (v := 0) C rfl (by decide +kernel) (by decide) ?_
  refine r_istore_n (q := 4) (z := 2) C 2 rfl (by decide +kernel) rfl (by decide) (by first | rfl | exact okst_rv rfl) ?_
  dsimp only [List.set]
  have L4 : ∀ (fuel4 : Nat) (k : Nat), σ.n - k < fuel4 → (k ≤ σ.n) → wX G Γ (qM G Γ PP 0 0) 0 0 (h) 4 [some (rv m), some (.int (nI (mset (lyb σ) k))), some (.int (nI k))] [] := by
    intro fuel4
    induction fuel4 with
    | zero =>
      intro k hm4
      exact absurd hm4 (Nat.not_lt_zero _)
    | succ fuel4 ih4 =>
      intro k hm4 hk
      refine r_iload_n (q := 5) (z := 2) C 2 rfl (by decide +kernel) rfl rfl ?_
      refine r_aload_n (q := 6) (z := 0) C 0 rfl (by decide +kernel) rfl rfl ?_
      refine r_getI (q := 9) C 7 24 472 rfl (by decide +kernel) rfl (by decide) rfl rfl wf_X7_243 win7 hm.1 ?_
      rw [M.fn]
      refine r_icmp_ge (q := 12) (off := 28) (tgt := 37) C rfl (by decide +kernel) (by decide) (fun c9 => ?_) (fun c9 => ?_)
      · have ek : k = σ.n := by have := (nI_leI (by omega) (by omega)).mp c9; omega
        subst ek
        refine r_iload_n (q := 38) (z := 1) C 1 rfl (by decide +kernel) rfl rfl ?_
        exact r_iret C (by decide +kernel) rfl (by decide) (by decide) (eqP hPP ⟨_, rfl, ⟨rfl, rfl⟩⟩)
      · have hlt : k < σ.n := Nat.lt_of_not_le (fun e => c9 (nI_le e (by omega)))
        refine r_iload_n (q := 13) (z := 1) C 1 rfl (by decide +kernel) rfl rfl ?_
        refine r_aload_n (q := 14) (z := 0) C 0 rfl (by decide +kernel) rfl rfl ?_
        refine r_getR (q := 17) C 7 30 478 rfl (by decide +kernel) rfl (by decide) rfl rfl wf_X7_103 win7 hm.1 ?_
        refine r_iload_n (q := 18) (z := 2) C 2 rfl (by decide +kernel) rfl rfl ?_
        refine r_iald (q := 19) C rfl (by decide +kernel) hm.k478 (vp_in_nI (by omega) (by decide)) ?_
        rw [nI_clamp (by omega), M.ali (by omega)]
        refine r_if_lt (q := 22) (off := 9) (tgt := 28) C rfl (by decide +kernel) (by decide) (fun c19 => ?_) (fun c19 => ?_)
        · have e29 : nI (mset (lyb σ) k) ||| 0 = nI (mset (lyb σ) (k + 1)) := by
            rw [mset, if_neg (by unfold lyb; simp [pl_neg.mp c19])]
            exact (fa_or _ 0).trans (by rw [Nat.or_zero])
          refine r_iconst (q := 29) (z := 0) (v := 0) C rfl (by decide +kernel) (by decide) ?_
          refine r_ior (q := 30) C rfl (by decide +kernel) ?_
          rw [e29]
          refine r_istore_n (q := 31) (z := 1) C 1 rfl (by decide +kernel) rfl (by decide) (by first | rfl | exact okst_rv rfl) ?_
          dsimp only [List.set]
          refine r_iinc (q := 34) (z := 1) (v := 1) C 2 rfl (by decide +kernel) rfl (by decide) (by decide) (by first | rfl | exact okst_rv rfl) ?_
          dsimp only [List.set]
          rw [nI_1]
          refine r_goto (off := -30) (tgt := 4) C (by decide +kernel) (by decide) ?_
          exact ih4 (k + 1) (by omega) (by omega)
        · have e29 : nI (mset (lyb σ) k) ||| nI (2 ^ k) = nI (mset (lyb σ) (k + 1)) := by
            rw [mset, if_pos (by unfold lyb; simp [pl_nn.mp c19])]
            exact fa_or _ _
          refine r_iconst (q := 23) (z := 1) (v := 1) C rfl (by decide +kernel) (by decide) ?_
          refine r_iload_n (q := 24) (z := 2) C 2 rfl (by decide +kernel) rfl rfl ?_
          refine r_ishl (q := 25) C rfl (by decide +kernel) ?_
          rw [shl1 k (by omega)]
          refine r_goto (off := 4) (tgt := 29) C (by decide +kernel) (by decide) ?_
          refine r_ior (q := 30) C rfl (by decide +kernel) ?_
          rw [e29]
          refine r_istore_n (q := 31) (z := 1) C 1 rfl (by decide +kernel) rfl (by decide) (by first | rfl | exact okst_rv rfl) ?_
          dsimp only [List.set]
          refine r_iinc (q := 34) (z := 1) (v := 1) C 2 rfl (by decide +kernel) rfl (by decide) (by decide) (by first | rfl | exact okst_rv rfl) ?_
          dsimp only [List.set]
          rw [nI_1]
          refine r_goto (off := -30) (tgt := 4) C (by decide +kernel) (by decide) ?_
          exact ih4 (k + 1) (by omega) (by omega)
  exact L4 (σ.n + 1) 0 (by omega) (by omega)
theorem c_X7_pullsOn {G : GT} {h : HP} {m : Nat} {σ : SG} {S : Nat} (hm : LM h.kd h.gl h.fr m) (M : MR σ h m) (W : WF σ) (J : JN σ) (hS : S < 1024) (hC : ∀ c, c < 120 → h.ai (h.fr 491 m) c = covN σ c σ.n) : Con G 4 0 0 yX7_pullsOn cX7_pullsOn 4 (some .int) [rv m, .int (nI S)] h (PI (fun v h' => ∃ f g, nI (cpS σ S) = v ∧ scr h m f g = h')) := by
  refine Con.of (lv := [some (rv m), some (.int (nI S)), none, none]) (by decide) (by simp only [lvE_r, lvE_i, lvE_l, lvE_s, lvE_0]; rfl) (by simp only [lgl_r, lgl_i, lgl_l, lgl_s, lgl_0]; decide) (fun Γ C R => ?_)
  generalize hPP : (PI (fun v h' => ∃ f g, nI (cpS σ S) = v ∧ scr h m f g = h')) = PP
  have r10 := W.n10
  have n1 : h.fr 491 m ≠ h.fr 486 m := gl_ne hm.g491 hm.g486 (by decide)
  have n2 : h.fr 491 m ≠ h.fr 487 m := gl_ne hm.g491 hm.g487 (by decide)
  have M2 : ∀ f, MR σ (h.row (h.fr 486 m) f) m := fun f => M.row hm (by rw [hm.g486]; decide)
  refine r_iconst (q := 1) (z := 0) (v := 0) C rfl (by decide +kernel) (by decide) ?_
  refine r_istore_n (q := 2) (z := 2) C 2 rfl (by decide +kernel) rfl (by decide) (by first | rfl | exact okst_rv rfl) ?_
  dsimp only [List.set]
  have L2 : ∀ (fuel2 : Nat) (k : Nat), 120 - k < fuel2 → (k ≤ 120) → wX G Γ (qM G Γ PP 0 0) 0 0 (h.row (h.fr 486 m) (mix (fun c => b2i (barS σ S c)) (h.ai (h.fr 486 m)) k)) 2 [some (rv m), some (.int (nI S)), some (.int (nI k)), none] [] := by
    intro fuel2
    induction fuel2 with
    | zero =>
      intro k hm2
      exact absurd hm2 (Nat.not_lt_zero _)
    | succ fuel2 ih2 =>
      intro k hm2 hk
      refine r_iload_n (q := 3) (z := 2) C 2 rfl (by decide +kernel) rfl rfl ?_
      refine r_bipush (q := 5) (z := 120) (v := 120) C rfl (by decide +kernel) (by decide) ?_
      refine r_icmp_ge (q := 8) (off := 52) (tgt := 57) C rfl (by decide +kernel) (by decide) (fun c5 => ?_) (fun c5 => ?_)
      · have ek : k = 120 := by have := (nI_leI (a := 120) (by omega) (by omega)).mp c5; omega
        subst ek
        refine r_aload_n (q := 58) (z := 0) C 0 rfl (by decide +kernel) rfl rfl ?_
        refine cV0V (q := 61) C R rfl (by decide +kernel) lk_X7_289 (c_X7_reaches (bar := barS σ S) hm (M2 _) W (fun c hc => by rw [fr_row, ai_row_eq, mix_in hc])) (by decide) (by decide) (by decide) rfl (by first | exact Nat.le_of_ble_eq_true rfl | (simp only [List.map_cons, List.map_nil, List.sum_cons, List.sum_nil, rv_cat]; exact Nat.le_of_ble_eq_true rfl)) rfl hm.1 ?_
        rintro _ ⟨f58, rb58, rfl, hF58, hR58⟩
        simp only [fr_row]
        refine r_iconst (q := 62) (z := 0) (v := 0) C rfl (by decide +kernel) (by decide) ?_
        refine r_istore_n (q := 63) (z := 2) C 2 rfl (by decide +kernel) rfl (by decide) (by first | rfl | exact okst_rv rfl) ?_
        dsimp only [List.set]
        refine r_iconst (q := 64) (z := 0) (v := 0) C rfl (by decide +kernel) (by decide) ?_
        refine r_istore_n (q := 65) (z := 3) C 3 rfl (by decide +kernel) rfl (by decide) (by first | rfl | exact okst_rv rfl) ?_
        dsimp only [List.set]
        have L65 : ∀ (fuel65 : Nat) (k : Nat), 120 - k < fuel65 → (k ≤ 120) → wX G Γ (qM G Γ PP 0 0) 0 0 ((h.row (h.fr 486 m) (mix (fun c => b2i (barS σ S c)) (h.ai (h.fr 486 m)) 120)).row (h.fr 487 m) f58) 65 [some (rv m), some (.int (nI S)), some (.int (nI (whoN σ rb58 k))), some (.int (nI k))] [] := by
          intro fuel65
          induction fuel65 with
          | zero =>
            intro k hm65
            exact absurd hm65 (Nat.not_lt_zero _)
          | succ fuel65 ih65 =>
            intro k hm65 hk
            refine r_iload_n (q := 66) (z := 3) C 3 rfl (by decide +kernel) rfl rfl ?_
            refine r_bipush (q := 68) (z := 120) (v := 120) C rfl (by decide +kernel) (by decide) ?_
            refine r_icmp_ge (q := 71) (off := 42) (tgt := 110) C rfl (by decide +kernel) (by decide) (fun c68 => ?_) (fun c68 => ?_)
            · have ek : k = 120 := by have := (nI_leI (a := 120) (by omega) (by omega)).mp c68; omega
              subst ek
              refine r_iload_n (q := 111) (z := 2) C 2 rfl (by decide +kernel) rfl rfl ?_
              exact r_iret C (by decide +kernel) rfl (by decide) (by decide) (eqP hPP ⟨_, rfl, ⟨_, _, by rw [pull_eq W J hR58], rfl⟩⟩)
            · have hlt : k < 120 := Nat.lt_of_not_le (fun e => c68 (nI_le (a := 120) e (by omega)))
              have hwl := whoN_lt (σ := σ) (rb := rb58) k
              refine r_iload_n (q := 72) (z := 2) C 2 rfl (by decide +kernel) rfl rfl ?_
              refine r_aload_n (q := 73) (z := 0) C 0 rfl (by decide +kernel) rfl rfl ?_
              refine r_getR (q := 76) C 7 43 491 rfl (by decide +kernel) rfl (by decide) rfl rfl wf_X7_136 win7 hm.1 ?_
              refine r_iload_n (q := 77) (z := 3) C 3 rfl (by decide +kernel) rfl rfl ?_
              refine r_iald (q := 78) C rfl (by decide +kernel) hm.k491 (vp_in_nI (by omega) (by decide)) ?_
              try simp only [fr_row]
              rw [nI_clamp (by omega), ai_row_ne n2, ai_row_ne n1, hC _ hlt, covN_bx r10]
              refine r_if_lt (q := 81) (off := 23) (tgt := 101) C rfl (by decide +kernel) (by decide) (fun c78 => ?_) (fun c78 => ?_)
              · have c78 := bx_neg.mp c78
                have e102 : nI (whoN σ rb58 k) ||| 0 = nI (whoN σ rb58 (k + 1)) := by
                  rw [whoN, if_neg (by simp [c78])]
                  exact fa_or _ 0
                refine r_iconst (q := 102) (z := 0) (v := 0) C rfl (by decide +kernel) (by decide) ?_
                refine r_ior (q := 103) C rfl (by decide +kernel) ?_
                rw [e102]
                refine r_istore_n (q := 104) (z := 2) C 2 rfl (by decide +kernel) rfl (by decide) (by first | rfl | exact okst_rv rfl) ?_
                dsimp only [List.set]
                refine r_iinc (q := 107) (z := 1) (v := 1) C 3 rfl (by decide +kernel) rfl (by decide) (by decide) (by first | rfl | exact okst_rv rfl) ?_
                dsimp only [List.set]
                rw [nI_1]
                refine r_goto (off := -42) (tgt := 65) C (by decide +kernel) (by decide) ?_
                exact ih65 (k + 1) (by omega) (by omega)
              · have c78 : cvN σ k σ.n < 10 := Classical.not_not.mp (mt bx_neg.mpr c78)
                refine r_aload_n (q := 82) (z := 0) C 0 rfl (by decide +kernel) rfl rfl ?_
                refine r_getR (q := 85) C 7 39 487 rfl (by decide +kernel) rfl (by decide) rfl rfl wf_X7_124 win7 hm.1 ?_
                refine r_iload_n (q := 86) (z := 3) C 3 rfl (by decide +kernel) rfl rfl ?_
                refine r_zald (q := 87) C rfl (by decide +kernel) hm.k487 (vp_in_nI (by omega) (by decide)) ?_
                try simp only [fr_row]
                rw [nI_clamp (by omega), ai_row_eq, hF58 _ hlt]
                refine r_if_eq (q := 90) (off := 14) (tgt := 101) C rfl (by decide +kernel) (by decide) (fun c87 => ?_) (fun c87 => ?_)
                · have e102 : nI (whoN σ rb58 k) ||| 0 = nI (whoN σ rb58 (k + 1)) := by
                    rw [whoN, if_neg (by rw [(b2i_0 _).mp c87]; simp)]
                    exact fa_or _ 0
                  refine r_iconst (q := 102) (z := 0) (v := 0) C rfl (by decide +kernel) (by decide) ?_
                  refine r_ior (q := 103) C rfl (by decide +kernel) ?_
                  rw [e102]
                  refine r_istore_n (q := 104) (z := 2) C 2 rfl (by decide +kernel) rfl (by decide) (by first | rfl | exact okst_rv rfl) ?_
                  dsimp only [List.set]
                  refine r_iinc (q := 107) (z := 1) (v := 1) C 3 rfl (by decide +kernel) rfl (by decide) (by decide) (by first | rfl | exact okst_rv rfl) ?_
                  dsimp only [List.set]
                  rw [nI_1]
                  refine r_goto (off := -42) (tgt := 65) C (by decide +kernel) (by decide) ?_
                  exact ih65 (k + 1) (by omega) (by omega)
                · have e102 : nI (whoN σ rb58 k) ||| nI (2 ^ cvN σ k σ.n) = nI (whoN σ rb58 (k + 1)) := by
                    rw [whoN, if_pos (by rw [(b2i_n0 _).mp c87]; simp [c78])]
                    exact fa_or _ _
                  refine r_iconst (q := 91) (z := 1) (v := 1) C rfl (by decide +kernel) (by decide) ?_
                  refine r_aload_n (q := 92) (z := 0) C 0 rfl (by decide +kernel) rfl rfl ?_
                  refine r_getR (q := 95) C 7 43 491 rfl (by decide +kernel) rfl (by decide) rfl rfl wf_X7_136 win7 hm.1 ?_
                  refine r_iload_n (q := 96) (z := 3) C 3 rfl (by decide +kernel) rfl rfl ?_
                  refine r_iald (q := 97) C rfl (by decide +kernel) hm.k491 (vp_in_nI (by omega) (by decide)) ?_
                  try simp only [fr_row]
                  rw [nI_clamp (by omega), ai_row_ne n2, ai_row_ne n1, hC _ hlt, covN_bx r10, bx_in c78]
                  refine r_ishl (q := 98) C rfl (by decide +kernel) ?_
                  rw [shl1 _ c78]
                  refine r_goto (off := 4) (tgt := 102) C (by decide +kernel) (by decide) ?_
                  refine r_ior (q := 103) C rfl (by decide +kernel) ?_
                  rw [e102]
                  refine r_istore_n (q := 104) (z := 2) C 2 rfl (by decide +kernel) rfl (by decide) (by first | rfl | exact okst_rv rfl) ?_
                  dsimp only [List.set]
                  refine r_iinc (q := 107) (z := 1) (v := 1) C 3 rfl (by decide +kernel) rfl (by decide) (by decide) (by first | rfl | exact okst_rv rfl) ?_
                  dsimp only [List.set]
                  rw [nI_1]
                  refine r_goto (off := -42) (tgt := 65) C (by decide +kernel) (by decide) ?_
                  exact ih65 (k + 1) (by omega) (by omega)
        exact L65 121 0 (by omega) (by omega)
      · have hlt : k < 120 := Nat.lt_of_not_le (fun e => c5 (nI_le (a := 120) e (by omega)))
        refine r_aload_n (q := 9) (z := 0) C 0 rfl (by decide +kernel) rfl rfl ?_
        refine r_getR (q := 12) C 7 38 486 rfl (by decide +kernel) rfl (by decide) rfl rfl wf_X7_121 win7 hm.1 ?_
        refine r_iload_n (q := 13) (z := 2) C 2 rfl (by decide +kernel) rfl rfl ?_
        refine r_aload_n (q := 14) (z := 0) C 0 rfl (by decide +kernel) rfl rfl ?_
        refine r_getR (q := 17) C 7 36 484 rfl (by decide +kernel) rfl (by decide) rfl rfl wf_X7_118 win7 hm.1 ?_
        refine r_iload_n (q := 18) (z := 2) C 2 rfl (by decide +kernel) rfl rfl ?_
        refine r_zald (q := 19) C rfl (by decide +kernel) hm.k484 (vp_in_nI (by omega) (by decide)) ?_
        rw [nI_clamp (by omega), (M2 _).acl hlt]
        refine r_if_ne (q := 22) (off := 26) (tgt := 45) C rfl (by decide +kernel) (by decide) (fun c19 => ?_) (fun c19 => ?_)
        · have ev : b2i (barS σ S k) = 1 := by unfold barS; rw [(b2i_n0 _).mp c19]; rfl
          refine r_iconst (q := 46) (z := 1) (v := b2i (barS σ S k)) C rfl (by decide +kernel) (by rw [ev]; decide) ?_
          refine r_goto (off := 4) (tgt := 50) C (by decide +kernel) (by decide) ?_
          refine r_zast (q := 51) C rfl (by decide +kernel) (by first | exact b2i_vn _ | rfl) hm.k486 (vp_in_nI (by omega) (by decide)) ?_
          try simp only [fr_row]
          rw [row_stI, nI_clamp (by omega), mix_s (fun c => b2i (barS σ S c))]
          refine r_iinc (q := 54) (z := 1) (v := 1) C 2 rfl (by decide +kernel) rfl (by decide) (by decide) (by first | rfl | exact okst_rv rfl) ?_
          dsimp only [List.set]
          rw [nI_1]
          refine r_goto (off := -52) (tgt := 2) C (by decide +kernel) (by decide) ?_
          exact wX.sub (lsub_s (lsub_s (lsub_s (lsub_n (lsub_nil))))) (ih2 (k + 1) (by omega) (by omega))
        · refine r_aload_n (q := 23) (z := 0) C 0 rfl (by decide +kernel) rfl rfl ?_
          refine r_getR (q := 26) C 7 43 491 rfl (by decide +kernel) rfl (by decide) rfl rfl wf_X7_136 win7 hm.1 ?_
          refine r_iload_n (q := 27) (z := 2) C 2 rfl (by decide +kernel) rfl rfl ?_
          refine r_iald (q := 28) C rfl (by decide +kernel) hm.k491 (vp_in_nI (by omega) (by decide)) ?_
          try simp only [fr_row]
          rw [nI_clamp (by omega), ai_row_ne n1, hC _ hlt, covN_bx r10]
          refine r_if_lt (q := 31) (off := 21) (tgt := 49) C rfl (by decide +kernel) (by decide) (fun c28 => ?_) (fun c28 => ?_)
          · have c28 := bx_neg.mp c28
            have ev : b2i (barS σ S k) = 0 := by unfold barS; rw [(b2i_0 _).mp c19]; simp [c28, b2i]
            refine r_iconst (q := 50) (z := 0) (v := b2i (barS σ S k)) C rfl (by decide +kernel) (by rw [ev]; decide) ?_
            refine r_zast (q := 51) C rfl (by decide +kernel) (by first | exact b2i_vn _ | rfl) hm.k486 (vp_in_nI (by omega) (by decide)) ?_
            try simp only [fr_row]
            rw [row_stI, nI_clamp (by omega), mix_s (fun c => b2i (barS σ S c))]
            refine r_iinc (q := 54) (z := 1) (v := 1) C 2 rfl (by decide +kernel) rfl (by decide) (by decide) (by first | rfl | exact okst_rv rfl) ?_
            dsimp only [List.set]
            rw [nI_1]
            refine r_goto (off := -52) (tgt := 2) C (by decide +kernel) (by decide) ?_
            exact wX.sub (lsub_s (lsub_s (lsub_s (lsub_n (lsub_nil))))) (ih2 (k + 1) (by omega) (by omega))
          · have c28 : cvN σ k σ.n < 10 := Classical.not_not.mp (mt bx_neg.mpr c28)
            refine r_iload_n (q := 32) (z := 1) C 1 rfl (by decide +kernel) rfl rfl ?_
            refine r_aload_n (q := 33) (z := 0) C 0 rfl (by decide +kernel) rfl rfl ?_
            refine r_getR (q := 36) C 7 43 491 rfl (by decide +kernel) rfl (by decide) rfl rfl wf_X7_136 win7 hm.1 ?_
            refine r_iload_n (q := 37) (z := 2) C 2 rfl (by decide +kernel) rfl rfl ?_
            refine r_iald (q := 38) C rfl (by decide +kernel) hm.k491 (vp_in_nI (by omega) (by decide)) ?_
            try simp only [fr_row]
            rw [nI_clamp (by omega), ai_row_ne n1, hC _ hlt, covN_bx r10, bx_in c28]
            refine r_ishr (q := 39) C rfl (by decide +kernel) ?_
            rw [shrb (by omega) c28]
            refine r_iconst (q := 40) (z := 1) (v := 1) C rfl (by decide +kernel) (by decide) ?_
            refine r_iand (q := 41) C rfl (by decide +kernel) ?_
            rw [and1 (by have : S / 2 ^ cvN σ k σ.n ≤ S := Nat.div_le_self _ _; omega)]
            refine r_iconst (q := 42) (z := 1) (v := 1) C rfl (by decide +kernel) (by decide) ?_
            refine r_icmp_ne (q := 45) (off := 7) (tgt := 49) C rfl (by decide +kernel) (by decide) (fun c42 => ?_) (fun c42 => ?_)
            · have ev : b2i (barS σ S k) = 0 := by
                unfold barS
                rw [(b2i_0 _).mp c19, Nat.testBit_eq_decide_div_mod_eq]
                have : ¬ S / 2 ^ cvN σ k σ.n % 2 = 1 := fun e => c42 (by rw [e]; rfl)
                simp [this, b2i]
              refine r_iconst (q := 50) (z := 0) (v := b2i (barS σ S k)) C rfl (by decide +kernel) (by rw [ev]; decide) ?_
              refine r_zast (q := 51) C rfl (by decide +kernel) (by first | exact b2i_vn _ | rfl) hm.k486 (vp_in_nI (by omega) (by decide)) ?_
              try simp only [fr_row]
              rw [row_stI, nI_clamp (by omega), mix_s (fun c => b2i (barS σ S c))]
              refine r_iinc (q := 54) (z := 1) (v := 1) C 2 rfl (by decide +kernel) rfl (by decide) (by decide) (by first | rfl | exact okst_rv rfl) ?_
              dsimp only [List.set]
              rw [nI_1]
              refine r_goto (off := -52) (tgt := 2) C (by decide +kernel) (by decide) ?_
              exact wX.sub (lsub_s (lsub_s (lsub_s (lsub_n (lsub_nil))))) (ih2 (k + 1) (by omega) (by omega))
            · have ev : b2i (barS σ S k) = 1 := by
                unfold barS
                have : S / 2 ^ cvN σ k σ.n % 2 = 1 := (nI_eq (b := 1) (by omega) (by decide)).mp c42
                rw [Nat.testBit_eq_decide_div_mod_eq, this]
                simp [c28, b2i]
              refine r_iconst (q := 46) (z := 1) (v := b2i (barS σ S k)) C rfl (by decide +kernel) (by rw [ev]; decide) ?_
              refine r_goto (off := 4) (tgt := 50) C (by decide +kernel) (by decide) ?_
              refine r_zast (q := 51) C rfl (by decide +kernel) (by first | exact b2i_vn _ | rfl) hm.k486 (vp_in_nI (by omega) (by decide)) ?_
              try simp only [fr_row]
              rw [row_stI, nI_clamp (by omega), mix_s (fun c => b2i (barS σ S c))]
              refine r_iinc (q := 54) (z := 1) (v := 1) C 2 rfl (by decide +kernel) rfl (by decide) (by decide) (by first | rfl | exact okst_rv rfl) ?_
              dsimp only [List.set]
              rw [nI_1]
              refine r_goto (off := -52) (tgt := 2) C (by decide +kernel) (by decide) ?_
              exact wX.sub (lsub_s (lsub_s (lsub_s (lsub_n (lsub_nil))))) (ih2 (k + 1) (by omega) (by omega))
  have z0 := L2 121 0 (by omega) (by omega)
  rw [mix_0, row_self] at z0
  exact z0
theorem c_X7_findWays {G : GT} {h : HP} {m : Nat} {σ : SG}  (hm : LM h.kd h.gl h.fr m) (M : MR σ h m) (W : WF σ) (J : JN σ) : Con G 5 0 0 yX7_findWays cX7_findWays 4 none [rv m] h (PV (fun h' => Fm [486, 487, 489, 490, 491] [448] h h' ∧ (∀ S, S ≤ alS σ → h'.ai (h'.fr 489 m) S = nI (wyN σ S)) ∧ (∀ S, S ≤ alS σ → h'.ai (h'.fr 490 m) S = nI (caN σ S)))) := by
  refine Con.of (lv := [some (rv m), none, none, none]) (by decide) (by simp only [lvE_r, lvE_i, lvE_l, lvE_s, lvE_0]; rfl) (by simp only [lgl_r, lgl_i, lgl_l, lgl_s, lgl_0]; decide) (fun Γ C R => ?_)
  generalize hPP : (PV (fun h' => Fm [486, 487, 489, 490, 491] [448] h h' ∧ (∀ S, S ≤ alS σ → h'.ai (h'.fr 489 m) S = nI (wyN σ S)) ∧ (∀ S, S ≤ alS σ → h'.ai (h'.fr 490 m) S = nI (caN σ S)))) = PP
  have r10 := W.n10
  refine r_iconst (q := 1) (z := 0) (v := 0) C rfl (by decide +kernel) (by decide) ?_
  refine r_istore_n (q := 2) (z := 1) C 1 rfl (by decide +kernel) rfl (by decide) (by first | rfl | exact okst_rv rfl) ?_
  dsimp only [List.set]
  have L2 : ∀ (fuel2 : Nat) (k : Nat), 120 - k < fuel2 → (k ≤ 120) → wX G Γ (qM G Γ PP 0 0) 0 0 (h.row (h.fr 491 m) (mix (fun c => covN σ c σ.n) (h.ai (h.fr 491 m)) k)) 2 [some (rv m), some (.int (nI k)), none, none] [] := by
    intro fuel2
    induction fuel2 with
    | zero =>
      intro k hm2
      exact absurd hm2 (Nat.not_lt_zero _)
    | succ fuel2 ih2 =>
      intro k hm2 hk
      have M7 : MR σ (h.row (h.fr 491 m) (mix (fun c => covN σ c σ.n) (h.ai (h.fr 491 m)) k)) m := M.row hm (by rw [hm.g491]; decide)
      refine r_iload_n (q := 3) (z := 1) C 1 rfl (by decide +kernel) rfl rfl ?_
      refine r_bipush (q := 5) (z := 120) (v := 120) C rfl (by decide +kernel) (by decide) ?_
      refine r_icmp_ge (q := 8) (off := 20) (tgt := 25) C rfl (by decide +kernel) (by decide) (fun c5 => ?_) (fun c5 => ?_)
      · have ek : k = 120 := by have := (nI_leI (a := 120) (by omega) (by omega)).mp c5; omega
        subst ek
        refine r_aload_n (q := 26) (z := 0) C 0 rfl (by decide +kernel) rfl rfl ?_
        refine cV0I (q := 29) C R rfl (by decide +kernel) lk_X7_332 (c_X7_setLying hm M7 W) (by decide) (by decide) (by decide) rfl (by first | exact Nat.le_of_ble_eq_true rfl | (simp only [List.map_cons, List.map_nil, List.sum_cons, List.sum_nil, rv_cat]; exact Nat.le_of_ble_eq_true rfl)) rfl hm.1 ?_
        rintro _ _ ⟨rfl, rfl⟩
        refine r_istore_n (q := 30) (z := 1) C 1 rfl (by decide +kernel) rfl (by decide) (by first | rfl | exact okst_rv rfl) ?_
        dsimp only [List.set]
        refine r_iload_n (q := 31) (z := 1) C 1 rfl (by decide +kernel) rfl rfl ?_
        refine r_istore_n (q := 32) (z := 2) C 2 rfl (by decide +kernel) rfl (by decide) (by first | rfl | exact okst_rv rfl) ?_
        dsimp only [List.set]
        have L32 : ∀ (fuel32 : Nat) (h2 : HP) (s : Nat), s < fuel32 → (Fm [486, 487, 489, 490, 491] [448] h h2) → (∀ c, c < 120 → h2.ai (h2.fr 491 m) c = covN σ c σ.n) → (s ≤ alS σ + 1) → (∀ S, s ≤ S → S ≤ alS σ → h2.ai (h2.fr 489 m) S = nI (wyN σ S)) → (∀ S, s ≤ S → S ≤ alS σ → h2.ai (h2.fr 490 m) S = nI (caN σ S)) → wX G Γ (qM G Γ PP 0 0) 0 0 (h2) 32 [some (rv m), some (.int (nI (alS σ))), some (.int (nI s - 1)), none] [] := by
          intro fuel32
          induction fuel32 with
          | zero =>
            intro h2 s hm32
            exact absurd hm32 (Nat.not_lt_zero _)
          | succ fuel32 ih32 =>
            intro h2 s hm32 F2 hC2 hs hW2 hK2
            have hm0 := hm
            have hm : LM h2.kd h2.gl h2.fr m := LM.fm F2 hm0
            have M9 : MR σ h2 m := MR.fm F2 hm0 (by decide) (by decide) M
            have a10 := al_lt r10
            refine r_iload_n (q := 33) (z := 2) C 2 rfl (by decide +kernel) rfl rfl ?_
            refine r_if_lt (q := 36) (off := 105) (tgt := 138) C rfl (by decide +kernel) (by decide) (fun c33 => ?_) (fun c33 => ?_)
            · have es : s = 0 := by
                rcases Nat.eq_zero_or_pos s with e | e
                · exact e
                · rw [m1x s e] at c33; exact absurd c33 (nI_pos (by omega))
              subst es
              exact r_ret C (by decide +kernel) rfl (by decide) (by decide) (eqP hPP ⟨rfl, ⟨F2, fun S h1 => hW2 S (Nat.zero_le _) h1, fun S h1 => hK2 S (Nat.zero_le _) h1⟩⟩)
            · have hs0 : 0 < s := by
                rcases Nat.eq_zero_or_pos s with e | e
                · rw [e] at c33; exact absurd (by decide) c33
                · exact e
              obtain ⟨s, rfl⟩ : ∃ t, s = t + 1 := ⟨s - 1, by omega⟩
              rw [nI_pred]
              have J78 : ∀ (h3 : HP) (v : Int32), (Fm [486, 487, 489, 490, 491] [448] h h3) → (∀ c, c < 120 → h3.ai (h3.fr 491 m) c = covN σ c σ.n) → (h3.ai (h3.fr 489 m) = upd (h2.ai (h2.fr 489 m)) s (nI (wsN σ s 0))) → (h3.ai (h3.fr 490 m) = h2.ai (h2.fr 490 m)) → (v = nI (caN σ s)) → wX G Γ (qM G Γ PP 0 0) 0 0 (h3) 78 [some (rv m), some (.int (nI (alS σ))), some (.int (nI s)), none] [.int v, .int (nI s), rv (h3.fr 490 m)] := by
                intro h3 v F3 hC3 hW3 hK3 hv
                subst hv
                have hm2 := hm
                have hm : LM h3.kd h3.gl h3.fr m := LM.fm F3 hm0
                refine r_iast (q := 79) C rfl (by decide +kernel) rfl hm.k490 (vp_in_nI (by omega) (by decide)) ?_
                rw [stI_row, nI_clamp (by omega)]
                have nA : h3.fr 489 m ≠ h3.fr 490 m := gl_ne hm.g489 hm.g490 (by decide)
                have M3 : MR σ h3 m := MR.fm F3 hm0 (by decide) (by decide) M
                have hcal := ca_lt r10 s
                refine r_iconst (q := 80) (z := 0) (v := 0) C rfl (by decide +kernel) (by decide) ?_
                refine r_istore_n (q := 81) (z := 3) C 3 rfl (by decide +kernel) rfl (by decide) (by first | rfl | exact okst_rv rfl) ?_
                dsimp only [List.set]
                have L81 : ∀ (fuel81 : Nat) (k : Nat), σ.n - k < fuel81 → (k ≤ σ.n) → wX G Γ (qM G Γ PP 0 0) 0 0 ((h3.row (h3.fr 490 m) (upd (h3.ai (h3.fr 490 m)) s (nI (caN σ s)))).row (h3.fr 489 m) (upd (h2.ai (h2.fr 489 m)) s (nI (wsN σ s k)))) 81 [some (rv m), some (.int (nI (alS σ))), some (.int (nI s)), some (.int (nI k))] [] := by
                  intro fuel81
                  induction fuel81 with
                  | zero =>
                    intro k hm81
                    exact absurd hm81 (Nat.not_lt_zero _)
                  | succ fuel81 ih81 =>
                    intro k hm81 hk
                    refine r_iload_n (q := 82) (z := 3) C 3 rfl (by decide +kernel) rfl rfl ?_
                    refine r_aload_n (q := 83) (z := 0) C 0 rfl (by decide +kernel) rfl rfl ?_
                    refine r_getI (q := 86) C 7 24 472 rfl (by decide +kernel) rfl (by decide) rfl rfl wf_X7_243 win7 hm.1 ?_
                    try simp only [fi_row]
                    rw [M3.fn]
                    refine r_icmp_ge (q := 89) (off := 46) (tgt := 132) C rfl (by decide +kernel) (by decide) (fun c86 => ?_) (fun c86 => ?_)
                    · have ek : k = σ.n := by have := (nI_leI (by omega) (by omega)).mp c86; omega
                      subst ek
                      rw [ws_eq]
                      have F9 : Fm [486, 487, 489, 490, 491] [448] h ((h3.row (h3.fr 490 m) (upd (h3.ai (h3.fr 490 m)) s (nI (caN σ s)))).row (h3.fr 489 m) (upd (h2.ai (h2.fr 489 m)) s (nI (wyN σ s)))) := Fm.row (Fm.row F3 (by rw [← F3.2.2.1, hm.g490]; decide)) (by rw [← F3.2.2.1, hm.g489]; decide)
                      have hC9 : ∀ c, c < 120 → ((h3.row (h3.fr 490 m) (upd (h3.ai (h3.fr 490 m)) s (nI (caN σ s)))).row (h3.fr 489 m) (upd (h2.ai (h2.fr 489 m)) s (nI (wyN σ s)))).ai (h3.fr 491 m) c = covN σ c σ.n := fun c hc => by rw [ai_row_ne (gl_ne hm.g491 hm.g489 (by decide)), ai_row_ne (gl_ne hm.g491 hm.g490 (by decide))]; exact hC3 c hc
                      have hW9 : ∀ S, s ≤ S → S ≤ alS σ → ((h3.row (h3.fr 490 m) (upd (h3.ai (h3.fr 490 m)) s (nI (caN σ s)))).row (h3.fr 489 m) (upd (h2.ai (h2.fr 489 m)) s (nI (wyN σ s)))).ai (h3.fr 489 m) S = nI (wyN σ S) := fun S h1 h2 => by
                        rw [ai_row_eq]
                        by_cases e : S = s
                        · subst e; rw [pk_us]
                        · rw [pk_un e]; exact hW2 S (by omega) h2
                      have hK9 : ∀ S, s ≤ S → S ≤ alS σ → ((h3.row (h3.fr 490 m) (upd (h3.ai (h3.fr 490 m)) s (nI (caN σ s)))).row (h3.fr 489 m) (upd (h2.ai (h2.fr 489 m)) s (nI (wyN σ s)))).ai (h3.fr 490 m) S = nI (caN σ S) := fun S h1 h2 => by
                        rw [ai_row_ne (Ne.symm nA), ai_row_eq, hK3]
                        by_cases e : S = s
                        · subst e; rw [pk_us]
                        · rw [pk_un e]; exact hK2 S (by omega) h2
                      refine r_iinc (q := 135) (z := (-1)) (v := (-1)) C 2 rfl (by decide +kernel) rfl (by decide) (by decide) (by first | rfl | exact okst_rv rfl) ?_
                      dsimp only [List.set]
                      rw [show nI s + -1 = nI s - 1 from (Int32.sub_eq_add_neg _ _).symm]
                      refine r_goto (off := -103) (tgt := 32) C (by decide +kernel) (by decide) ?_
                      have z0 := ih32 _ s (by omega) F9 hC9 (by omega) hW9 hK9
                      exact wX.sub (lsub_s (lsub_s (lsub_s (lsub_n lsub_nil)))) z0
                    · have hlt : k < σ.n := Nat.lt_of_not_le (fun e => c86 (nI_le e (by omega)))
                      have hwl := ws_le r10 s k (by omega)
                      refine r_aload_n (q := 90) (z := 0) C 0 rfl (by decide +kernel) rfl rfl ?_
                      refine r_getR (q := 93) C 7 41 489 rfl (by decide +kernel) rfl (by decide) rfl rfl wf_X7_130 win7 hm.1 ?_
                      refine r_iload_n (q := 94) (z := 2) C 2 rfl (by decide +kernel) rfl rfl ?_
                      refine r_dup2 (q := 95) C rfl (by decide +kernel) (by first | rfl | exact rv_cat _) (by first | rfl | exact rv_cat _) ?_
                      refine r_iald (q := 96) C rfl (by decide +kernel) hm.k489 (vp_in_nI (by omega) (by decide)) ?_
                      try simp only [fr_row]
                      rw [nI_clamp (by omega), ai_row_eq, pk_us]
                      refine r_aload_n (q := 97) (z := 0) C 0 rfl (by decide +kernel) rfl rfl ?_
                      refine r_getR (q := 100) C 7 42 490 rfl (by decide +kernel) rfl (by decide) rfl rfl wf_X7_133 win7 hm.1 ?_
                      refine r_iload_n (q := 101) (z := 2) C 2 rfl (by decide +kernel) rfl rfl ?_
                      refine r_iald (q := 102) C rfl (by decide +kernel) hm.k490 (vp_in_nI (by omega) (by decide)) ?_
                      try simp only [fr_row]
                      rw [nI_clamp (n := s) (by omega), ai_row_ne (Ne.symm nA), ai_row_eq, pk_us]
                      refine r_iload_n (q := 103) (z := 3) C 3 rfl (by decide +kernel) rfl rfl ?_
                      refine r_ishr (q := 104) C rfl (by decide +kernel) ?_
                      rw [shrb (by omega) (by omega)]
                      refine r_iconst (q := 105) (z := 1) (v := 1) C rfl (by decide +kernel) (by decide) ?_
                      refine r_iand (q := 106) C rfl (by decide +kernel) ?_
                      rw [and1 (by have : caN σ s / 2 ^ k ≤ caN σ s := Nat.div_le_self _ _; omega)]
                      refine r_iconst (q := 107) (z := 1) (v := 1) C rfl (by decide +kernel) (by decide) ?_
                      refine r_icmp_ne (q := 110) (off := 16) (tgt := 123) C rfl (by decide +kernel) (by decide) (fun c107 => ?_) (fun c107 => ?_)
                      · have hbt : (caN σ s).testBit k = false := by rw [Nat.testBit_eq_decide_div_mod_eq]; exact decide_eq_false (fun e => c107 (by rw [e]; rfl))
                        have e124 : nI (wsN σ s k) + 0 = nI (wsN σ s (k + 1)) := by simp only [wsN]; rw [hbt, if_neg (by decide)]; exact nI_add _ 0
                        refine r_iconst (q := 124) (z := 0) (v := 0) C rfl (by decide +kernel) (by decide) ?_
                        refine r_iadd (q := 125) C rfl (by decide +kernel) ?_
                        rw [e124]
                        refine r_iast (q := 126) C rfl (by decide +kernel) rfl hm.k489 (vp_in_nI (by omega) (by decide)) ?_
                        try simp only [fr_row]
                        rw [row_stI, nI_clamp (by omega), upd_upd]
                        refine r_iinc (q := 129) (z := 1) (v := 1) C 3 rfl (by decide +kernel) rfl (by decide) (by decide) (by first | rfl | exact okst_rv rfl) ?_
                        dsimp only [List.set]
                        rw [nI_1]
                        refine r_goto (off := -48) (tgt := 81) C (by decide +kernel) (by decide) ?_
                        exact ih81 (k + 1) (by omega) (by omega)
                      · have hbt : (caN σ s).testBit k = true := by rw [Nat.testBit_eq_decide_div_mod_eq]; exact decide_eq_true ((nI_eq (b := 1) (by omega) (by decide)).mp c107)
                        have e124 : nI (wsN σ s k) + nI (wyN σ (s ||| 2 ^ k)) = nI (wsN σ s (k + 1)) := by simp only [wsN]; rw [hbt, if_pos rfl]; exact nI_add _ _
                        have hbt2 := hbt
                        rw [ca_bit, Bool.and_eq_true, Bool.and_eq_true] at hbt2
                        have hnin := hbt2.2.2
                        unfold nin at hnin
                        rw [Bool.and_eq_true, Bool.not_eq_true'] at hnin
                        have hgt := or_gt hnin.2
                        have hle := (or_sbs hbt2.1 hlt hnin.1).2
                        refine r_aload_n (q := 111) (z := 0) C 0 rfl (by decide +kernel) rfl rfl ?_
                        refine r_getR (q := 114) C 7 41 489 rfl (by decide +kernel) rfl (by decide) rfl rfl wf_X7_130 win7 hm.1 ?_
                        refine r_iload_n (q := 115) (z := 2) C 2 rfl (by decide +kernel) rfl rfl ?_
                        refine r_iconst (q := 116) (z := 1) (v := 1) C rfl (by decide +kernel) (by decide) ?_
                        refine r_iload_n (q := 117) (z := 3) C 3 rfl (by decide +kernel) rfl rfl ?_
                        refine r_ishl (q := 118) C rfl (by decide +kernel) ?_
                        rw [shl1 k (by omega)]
                        refine r_ior (q := 119) C rfl (by decide +kernel) ?_
                        rw [fa_or]
                        refine r_iald (q := 120) C rfl (by decide +kernel) hm.k489 (vp_in_nI (by omega) (by decide)) ?_
                        try simp only [fr_row]
                        rw [nI_clamp (n := s ||| 2 ^ k) (by omega), ai_row_eq, pk_un (by omega), hW2 _ (by omega) hle]
                        refine r_goto (off := 4) (tgt := 124) C (by decide +kernel) (by decide) ?_
                        refine r_iadd (q := 125) C rfl (by decide +kernel) ?_
                        rw [e124]
                        refine r_iast (q := 126) C rfl (by decide +kernel) rfl hm.k489 (vp_in_nI (by omega) (by decide)) ?_
                        try simp only [fr_row]
                        rw [row_stI, nI_clamp (by omega), upd_upd]
                        refine r_iinc (q := 129) (z := 1) (v := 1) C 3 rfl (by decide +kernel) rfl (by decide) (by decide) (by first | rfl | exact okst_rv rfl) ?_
                        dsimp only [List.set]
                        rw [nI_1]
                        refine r_goto (off := -48) (tgt := 81) C (by decide +kernel) (by decide) ?_
                        exact ih81 (k + 1) (by omega) (by omega)
                have z0 := L81 (σ.n + 1) 0 (by omega) (by omega)
                rw [← hW3, show (h3.row (h3.fr 490 m) (upd (h3.ai (h3.fr 490 m)) s (nI (caN σ s)))).row (h3.fr 489 m) (h3.ai (h3.fr 489 m)) = h3.row (h3.fr 490 m) (upd (h3.ai (h3.fr 490 m)) s (nI (caN σ s))) by rw [← ai_row_ne (h := h3) (a := h3.fr 490 m) (f := upd (h3.ai (h3.fr 490 m)) s (nI (caN σ s))) nA]; exact row_self] at z0
                exact z0
              refine r_aload_n (q := 37) (z := 0) C 0 rfl (by decide +kernel) rfl rfl ?_
              refine r_getR (q := 40) C 7 41 489 rfl (by decide +kernel) rfl (by decide) rfl rfl wf_X7_130 win7 hm.1 ?_
              refine r_iload_n (q := 41) (z := 2) C 2 rfl (by decide +kernel) rfl rfl ?_
              refine r_iload_n (q := 42) (z := 2) C 2 rfl (by decide +kernel) rfl rfl ?_
              refine r_iload_n (q := 43) (z := 1) C 1 rfl (by decide +kernel) rfl rfl ?_
              refine r_icmp_ne (q := 46) (off := 7) (tgt := 50) C rfl (by decide +kernel) (by decide) (fun c43 => ?_) (fun c43 => ?_)
              · have ea : s ≠ alS σ := fun e => c43 (by rw [e])
                have ew : nI (wsN σ s 0) = 0 := by simp only [wsN]; rw [if_neg ea]; rfl
                refine r_iconst (q := 51) (z := 0) (v := nI (wsN σ s 0)) C rfl (by decide +kernel) (by rw [ew]; decide) ?_
                refine r_iast (q := 52) C rfl (by decide +kernel) rfl hm.k489 (vp_in_nI (by omega) (by decide)) ?_
                rw [stI_row, nI_clamp (by omega)]
                have F5 : Fm [486, 487, 489, 490, 491] [448] h (h2.row (h2.fr 489 m) (upd (h2.ai (h2.fr 489 m)) s (nI (wsN σ s 0)))) := Fm.row F2 (by rw [← F2.2.2.1, hm.g489]; decide)
                have hC5 : ∀ c, c < 120 → (h2.row (h2.fr 489 m) (upd (h2.ai (h2.fr 489 m)) s (nI (wsN σ s 0)))).ai (h2.fr 491 m) c = covN σ c σ.n := fun c hc => by rw [ai_row_ne (gl_ne hm.g491 hm.g489 (by decide))]; exact hC2 c hc
                have hK5 : (h2.row (h2.fr 489 m) (upd (h2.ai (h2.fr 489 m)) s (nI (wsN σ s 0)))).ai (h2.fr 490 m) = h2.ai (h2.fr 490 m) := ai_row_ne (gl_ne hm.g490 hm.g489 (by decide))
                refine r_aload_n (q := 53) (z := 0) C 0 rfl (by decide +kernel) rfl rfl ?_
                refine r_getR (q := 56) C 7 42 490 rfl (by decide +kernel) rfl (by decide) rfl rfl wf_X7_133 win7 hm.1 ?_
                refine r_iload_n (q := 57) (z := 2) C 2 rfl (by decide +kernel) rfl rfl ?_
                refine r_iload_n (q := 58) (z := 2) C 2 rfl (by decide +kernel) rfl rfl ?_
                refine r_iload_n (q := 59) (z := 1) C 1 rfl (by decide +kernel) rfl rfl ?_
                refine r_iand (q := 60) C rfl (by decide +kernel) ?_
                rw [and_nI]
                refine r_iload_n (q := 61) (z := 2) C 2 rfl (by decide +kernel) rfl rfl ?_
                refine r_icmp_ne (q := 64) (off := 16) (tgt := 77) C rfl (by decide +kernel) (by decide) (fun c61 => ?_) (fun c61 => ?_)
                · have hnb : sbs σ s = false := by unfold sbs; exact decide_eq_false (fun e => c61 (by rw [e]))
                  have ecz : (0 : Int32) = nI (caN σ s) := by unfold caN; rw [hnb]; rfl
                  refine r_iconst (q := 78) (z := 0) (v := 0) C rfl (by decide +kernel) (by decide) ?_
                  have z0 := J78 _ _ F5 hC5 ai_row_eq hK5 ecz
                  exact wX.sub (lsub_s (lsub_s (lsub_s (lsub_n lsub_nil)))) z0
                · have hsb : sbs σ s = true := by unfold sbs; exact decide_eq_true ((nI_eq (Nat.lt_of_le_of_lt Nat.and_le_left (by omega)) (by omega)).mp c61)
                  refine r_iload_n (q := 65) (z := 2) C 2 rfl (by decide +kernel) rfl rfl ?_
                  refine r_iload_n (q := 66) (z := 1) C 1 rfl (by decide +kernel) rfl rfl ?_
                  refine r_icmp_eq (q := 69) (off := 11) (tgt := 77) C rfl (by decide +kernel) (by decide) (fun c66 => ?_) (fun c66 => ?_)
                  · have e66 : s = alS σ := (nI_eq (by omega) (by omega)).mp c66
                    have ecz : (0 : Int32) = nI (caN σ s) := by unfold caN; rw [e66, cp_al]; split <;> rfl
                    refine r_iconst (q := 78) (z := 0) (v := 0) C rfl (by decide +kernel) (by decide) ?_
                    have z0 := J78 _ _ F5 hC5 ai_row_eq hK5 ecz
                    exact wX.sub (lsub_s (lsub_s (lsub_s (lsub_n lsub_nil)))) z0
                  · refine r_aload_n (q := 70) (z := 0) C 0 rfl (by decide +kernel) rfl rfl ?_
                    refine r_iload_n (q := 71) (z := 2) C 2 rfl (by decide +kernel) rfl rfl ?_
                    refine cV1I (q := 74) C R rfl (by decide +kernel) lk_X7_335 (c_X7_pullsOn hm (M9.row hm (by rw [hm.g489]; decide)) W J (by omega) hC5) (by decide) (by decide) (by decide) rfl (by first | exact Nat.le_of_ble_eq_true rfl | (simp only [List.map_cons, List.map_nil, List.sum_cons, List.sum_nil, rv_cat]; exact Nat.le_of_ble_eq_true rfl)) rfl hm.1 ?_
                    rintro _ _ ⟨f71, g71, rfl, rfl⟩
                    refine r_goto (off := 4) (tgt := 78) C (by decide +kernel) (by decide) ?_
                    exact wX.sub (lsub_s (lsub_s (lsub_s (lsub_n (lsub_nil))))) (wX.sub (lsub_s (lsub_s (lsub_s (lsub_n lsub_nil)))) (J78 (scr (h2.row (h2.fr 489 m) (upd (h2.ai (h2.fr 489 m)) s (nI (wsN σ s 0)))) m f71 g71) _ (F5.sc hm0 (by decide) (by decide)) (fun c hc => by show ((((h2.row (h2.fr 489 m) (upd (h2.ai (h2.fr 489 m)) s (nI (wsN σ s 0)))).row (h2.fr 486 m) f71).row (h2.fr 487 m) g71).ai (h2.fr 491 m)) c = _; rw [ai_row_ne (gl_ne hm.g491 hm.g487 (by decide)), ai_row_ne (gl_ne hm.g491 hm.g486 (by decide))]; exact hC5 c hc) (by show (((h2.row (h2.fr 489 m) (upd (h2.ai (h2.fr 489 m)) s (nI (wsN σ s 0)))).row (h2.fr 486 m) f71).row (h2.fr 487 m) g71).ai (h2.fr 489 m) = _; rw [ai_row_ne (gl_ne hm.g489 hm.g487 (by decide)), ai_row_ne (gl_ne hm.g489 hm.g486 (by decide)), ai_row_eq]) (by show (((h2.row (h2.fr 489 m) (upd (h2.ai (h2.fr 489 m)) s (nI (wsN σ s 0)))).row (h2.fr 486 m) f71).row (h2.fr 487 m) g71).ai (h2.fr 490 m) = _; rw [ai_row_ne (gl_ne hm.g490 hm.g487 (by decide)), ai_row_ne (gl_ne hm.g490 hm.g486 (by decide))]; exact hK5) (by unfold caN; rw [if_pos hsb])))
              · have ea : s = alS σ := (nI_eq (by omega) (by omega)).mp c43
                have ew : nI (wsN σ s 0) = 1 := by simp only [wsN]; rw [if_pos ea]; rfl
                refine r_iconst (q := 47) (z := 1) (v := nI (wsN σ s 0)) C rfl (by decide +kernel) (by rw [ew]; decide) ?_
                refine r_goto (off := 4) (tgt := 51) C (by decide +kernel) (by decide) ?_
                refine r_iast (q := 52) C rfl (by decide +kernel) rfl hm.k489 (vp_in_nI (by omega) (by decide)) ?_
                rw [stI_row, nI_clamp (by omega)]
                have F5 : Fm [486, 487, 489, 490, 491] [448] h (h2.row (h2.fr 489 m) (upd (h2.ai (h2.fr 489 m)) s (nI (wsN σ s 0)))) := Fm.row F2 (by rw [← F2.2.2.1, hm.g489]; decide)
                have hC5 : ∀ c, c < 120 → (h2.row (h2.fr 489 m) (upd (h2.ai (h2.fr 489 m)) s (nI (wsN σ s 0)))).ai (h2.fr 491 m) c = covN σ c σ.n := fun c hc => by rw [ai_row_ne (gl_ne hm.g491 hm.g489 (by decide))]; exact hC2 c hc
                have hK5 : (h2.row (h2.fr 489 m) (upd (h2.ai (h2.fr 489 m)) s (nI (wsN σ s 0)))).ai (h2.fr 490 m) = h2.ai (h2.fr 490 m) := ai_row_ne (gl_ne hm.g490 hm.g489 (by decide))
                refine r_aload_n (q := 53) (z := 0) C 0 rfl (by decide +kernel) rfl rfl ?_
                refine r_getR (q := 56) C 7 42 490 rfl (by decide +kernel) rfl (by decide) rfl rfl wf_X7_133 win7 hm.1 ?_
                refine r_iload_n (q := 57) (z := 2) C 2 rfl (by decide +kernel) rfl rfl ?_
                refine r_iload_n (q := 58) (z := 2) C 2 rfl (by decide +kernel) rfl rfl ?_
                refine r_iload_n (q := 59) (z := 1) C 1 rfl (by decide +kernel) rfl rfl ?_
                refine r_iand (q := 60) C rfl (by decide +kernel) ?_
                rw [and_nI]
                refine r_iload_n (q := 61) (z := 2) C 2 rfl (by decide +kernel) rfl rfl ?_
                refine r_icmp_ne (q := 64) (off := 16) (tgt := 77) C rfl (by decide +kernel) (by decide) (fun c61 => ?_) (fun c61 => ?_)
                · have hnb : sbs σ s = false := by unfold sbs; exact decide_eq_false (fun e => c61 (by rw [e]))
                  have ecz : (0 : Int32) = nI (caN σ s) := by unfold caN; rw [hnb]; rfl
                  refine r_iconst (q := 78) (z := 0) (v := 0) C rfl (by decide +kernel) (by decide) ?_
                  have z0 := J78 _ _ F5 hC5 ai_row_eq hK5 ecz
                  exact wX.sub (lsub_s (lsub_s (lsub_s (lsub_n lsub_nil)))) z0
                · have hsb : sbs σ s = true := by unfold sbs; exact decide_eq_true ((nI_eq (Nat.lt_of_le_of_lt Nat.and_le_left (by omega)) (by omega)).mp c61)
                  refine r_iload_n (q := 65) (z := 2) C 2 rfl (by decide +kernel) rfl rfl ?_
                  refine r_iload_n (q := 66) (z := 1) C 1 rfl (by decide +kernel) rfl rfl ?_
                  refine r_icmp_eq (q := 69) (off := 11) (tgt := 77) C rfl (by decide +kernel) (by decide) (fun c66 => ?_) (fun c66 => ?_)
                  · have e66 : s = alS σ := (nI_eq (by omega) (by omega)).mp c66
                    have ecz : (0 : Int32) = nI (caN σ s) := by unfold caN; rw [e66, cp_al]; split <;> rfl
                    refine r_iconst (q := 78) (z := 0) (v := 0) C rfl (by decide +kernel) (by decide) ?_
                    have z0 := J78 _ _ F5 hC5 ai_row_eq hK5 ecz
                    exact wX.sub (lsub_s (lsub_s (lsub_s (lsub_n lsub_nil)))) z0
                  · refine r_aload_n (q := 70) (z := 0) C 0 rfl (by decide +kernel) rfl rfl ?_
                    refine r_iload_n (q := 71) (z := 2) C 2 rfl (by decide +kernel) rfl rfl ?_
                    refine cV1I (q := 74) C R rfl (by decide +kernel) lk_X7_335 (c_X7_pullsOn hm (M9.row hm (by rw [hm.g489]; decide)) W J (by omega) hC5) (by decide) (by decide) (by decide) rfl (by first | exact Nat.le_of_ble_eq_true rfl | (simp only [List.map_cons, List.map_nil, List.sum_cons, List.sum_nil, rv_cat]; exact Nat.le_of_ble_eq_true rfl)) rfl hm.1 ?_
                    rintro _ _ ⟨f71, g71, rfl, rfl⟩
                    refine r_goto (off := 4) (tgt := 78) C (by decide +kernel) (by decide) ?_
                    exact wX.sub (lsub_s (lsub_s (lsub_s (lsub_n (lsub_nil))))) (wX.sub (lsub_s (lsub_s (lsub_s (lsub_n lsub_nil)))) (J78 (scr (h2.row (h2.fr 489 m) (upd (h2.ai (h2.fr 489 m)) s (nI (wsN σ s 0)))) m f71 g71) _ (F5.sc hm0 (by decide) (by decide)) (fun c hc => by show ((((h2.row (h2.fr 489 m) (upd (h2.ai (h2.fr 489 m)) s (nI (wsN σ s 0)))).row (h2.fr 486 m) f71).row (h2.fr 487 m) g71).ai (h2.fr 491 m)) c = _; rw [ai_row_ne (gl_ne hm.g491 hm.g487 (by decide)), ai_row_ne (gl_ne hm.g491 hm.g486 (by decide))]; exact hC5 c hc) (by show (((h2.row (h2.fr 489 m) (upd (h2.ai (h2.fr 489 m)) s (nI (wsN σ s 0)))).row (h2.fr 486 m) f71).row (h2.fr 487 m) g71).ai (h2.fr 489 m) = _; rw [ai_row_ne (gl_ne hm.g489 hm.g487 (by decide)), ai_row_ne (gl_ne hm.g489 hm.g486 (by decide)), ai_row_eq]) (by show (((h2.row (h2.fr 489 m) (upd (h2.ai (h2.fr 489 m)) s (nI (wsN σ s 0)))).row (h2.fr 486 m) f71).row (h2.fr 487 m) g71).ai (h2.fr 490 m) = _; rw [ai_row_ne (gl_ne hm.g490 hm.g487 (by decide)), ai_row_ne (gl_ne hm.g490 hm.g486 (by decide))]; exact hK5) (by unfold caN; rw [if_pos hsb])))
        have z0 := L32 (alS σ + 2) (h.row (h.fr 491 m) (mix (fun c => covN σ c σ.n) (h.ai (h.fr 491 m)) 120)) (alS σ + 1) (by omega) (Fm.row Fm.rf (by rw [hm.g491]; decide)) (fun c hc => by rw [fr_row, ai_row_eq, mix_in hc]) (by omega) (fun S h1 h2 => absurd h1 (by omega)) (fun S h1 h2 => absurd h1 (by omega))
        rw [nI_pred] at z0
        exact wX.sub (lsub_s (lsub_s (lsub_s (lsub_n lsub_nil)))) z0
      · have hlt : k < 120 := Nat.lt_of_not_le (fun e => c5 (nI_le (a := 120) e (by omega)))
        refine r_aload_n (q := 9) (z := 0) C 0 rfl (by decide +kernel) rfl rfl ?_
        refine r_getR (q := 12) C 7 43 491 rfl (by decide +kernel) rfl (by decide) rfl rfl wf_X7_136 win7 hm.1 ?_
        refine r_iload_n (q := 13) (z := 1) C 1 rfl (by decide +kernel) rfl rfl ?_
        refine r_aload_n (q := 14) (z := 0) C 0 rfl (by decide +kernel) rfl rfl ?_
        refine r_iload_n (q := 15) (z := 1) C 1 rfl (by decide +kernel) rfl rfl ?_
        refine cV1I (q := 18) C R rfl (by decide +kernel) lk_X7_271 (c_X7_coveredBy hm M7 W (by omega)) (by decide) (by decide) (by decide) rfl (by first | exact Nat.le_of_ble_eq_true rfl | (simp only [List.map_cons, List.map_nil, List.sum_cons, List.sum_nil, rv_cat]; exact Nat.le_of_ble_eq_true rfl)) rfl hm.1 ?_
        rintro _ _ ⟨rfl, rfl⟩
        refine r_iast (q := 19) C rfl (by decide +kernel) rfl hm.k491 (vp_in_nI (by omega) (by decide)) ?_
        try simp only [fr_row]
        rw [row_stI, nI_clamp (by omega), mix_s (fun c => covN σ c σ.n)]
        refine r_iinc (q := 22) (z := 1) (v := 1) C 1 rfl (by decide +kernel) rfl (by decide) (by decide) (by first | rfl | exact okst_rv rfl) ?_
        dsimp only [List.set]
        rw [nI_1]
        refine r_goto (off := -20) (tgt := 2) C (by decide +kernel) (by decide) ?_
        exact wX.sub (lsub_s (lsub_s (lsub_n (lsub_n (lsub_nil))))) (ih2 (k + 1) (by omega) (by omega))
  have z0 := L2 121 0 (by omega) (by omega)
  rw [mix_0, row_self] at z0
  exact wX.sub (lsub_s (lsub_s (lsub_n (lsub_n lsub_nil)))) z0
theorem c_X7_orders {G : GT} {h : HP} {m : Nat} {σ : SG}  (hm : LM h.kd h.gl h.fr m) (M : MR σ h m) (W : WF σ) (J : JN σ) : Con G 6 0 0 yX7_orders cX7_orders 1 (some .int) [rv m] h (PI (fun v h' => nI (fac (lyN σ σ.n)) = v ∧ Fm [486, 487, 489, 490, 491] [448] h h')) := by
  refine Con.of (lv := [some (rv m)]) (by decide) (by simp only [lvE_r, lvE_i, lvE_l, lvE_s, lvE_0]; rfl) (by simp only [lgl_r, lgl_i, lgl_l, lgl_s, lgl_0]; decide) (fun Γ C R => ?_)
  generalize hPP : (PI (fun v h' => nI (fac (lyN σ σ.n)) = v ∧ Fm [486, 487, 489, 490, 491] [448] h h')) = PP
  have r10 := W.n10
  have M1 : MR σ (h.setI 448 m 0) m := M.setI (by decide) (by decide) (by decide)
  have a10 := al_lt r10
  refine r_aload_n (q := 1) (z := 0) C 0 rfl (by decide +kernel) rfl rfl ?_
  refine r_iconst (q := 2) (z := 0) (v := 0) C rfl (by decide +kernel) (by decide) ?_
  refine r_putI (q := 5) C 7 0 448 rfl (by decide +kernel) rfl (by decide) rfl rfl wf_X7_1 win7 tyX7 tyX7_ok nmX7 rfl (tyX7_ok 0 (by decide)) rfl wnd7 rfl rfl hm.1 ?_
  refine r_aload_n (q := 6) (z := 0) C 0 rfl (by decide +kernel) rfl rfl ?_
  refine cV0V (q := 9) C R rfl (by decide +kernel) lk_X7_338 (c_X7_findWays hm M1 W J) (by decide) (by decide) (by decide) rfl (by first | exact Nat.le_of_ble_eq_true rfl | (simp only [List.map_cons, List.map_nil, List.sum_cons, List.sum_nil, rv_cat]; exact Nat.le_of_ble_eq_true rfl)) rfl hm.1 ?_
  rintro h6 ⟨F6, hW6, hK6⟩
  refine r_aload_n (q := 10) (z := 0) C 0 rfl (by decide +kernel) rfl rfl ?_
  refine r_getR (q := 13) C 7 41 489 rfl (by decide +kernel) rfl (by decide) rfl rfl wf_X7_130 win7 (by rw [F6.1]; exact hm.1) ?_
  refine r_iconst (q := 14) (z := 0) (v := 0) C rfl (by decide +kernel) (by decide) ?_
  refine r_iald (q := 15) C rfl (by decide +kernel) (LM.fm F6 (h := h.setI 448 m 0) hm).k489 (vp_in_nI (n := 0) (by decide) (by decide)) ?_
  rw [show (0 : Int32).toNatClampNeg = 0 from rfl, hW6 0 (Nat.zero_le _), wy_0]
  exact r_iret C (by decide +kernel) rfl (by decide) (by decide) (eqP hPP ⟨_, rfl, ⟨rfl, Fm.tr (Fm.rf.setI (by decide)) F6⟩⟩)
theorem c_X7_order {G : GT} {h : HP} {m : Nat} {σ : SG} {i : Int32} (hm : LM h.kd h.gl h.fr m) (M : MR σ h m) (W : WF σ) (J : JN σ) : Con G 6 0 0 yX7_order cX7_order 6 (some .int) [rv m, .int i] h (PI (fun v h' => ordV σ i = v ∧ Fm [486, 487, 489, 490, 491] [448] h h')) := by
  refine Con.of (lv := [some (rv m), some (.int i), none, none, none, none]) (by decide) (by simp only [lvE_r, lvE_i, lvE_l, lvE_s, lvE_0]; rfl) (by simp only [lgl_r, lgl_i, lgl_l, lgl_s, lgl_0]; decide) (fun Γ C R => ?_)
  generalize hPP : (PI (fun v h' => ordV σ i = v ∧ Fm [486, 487, 489, 490, 491] [448] h h')) = PP
  have r10 := W.n10
  have M1 : MR σ (h.setI 448 m 0) m := M.setI (by decide) (by decide) (by decide)
  have a10 := al_lt r10
  refine r_aload_n (q := 1) (z := 0) C 0 rfl (by decide +kernel) rfl rfl ?_
  refine r_iconst (q := 2) (z := 0) (v := 0) C rfl (by decide +kernel) (by decide) ?_
  refine r_putI (q := 5) C 7 0 448 rfl (by decide +kernel) rfl (by decide) rfl rfl wf_X7_1 win7 tyX7 tyX7_ok nmX7 rfl (tyX7_ok 0 (by decide)) rfl wnd7 rfl rfl hm.1 ?_
  refine r_aload_n (q := 6) (z := 0) C 0 rfl (by decide +kernel) rfl rfl ?_
  refine cV0V (q := 9) C R rfl (by decide +kernel) lk_X7_338 (c_X7_findWays hm M1 W J) (by decide) (by decide) (by decide) rfl (by first | exact Nat.le_of_ble_eq_true rfl | (simp only [List.map_cons, List.map_nil, List.sum_cons, List.sum_nil, rv_cat]; exact Nat.le_of_ble_eq_true rfl)) rfl hm.1 ?_
  rintro h6 ⟨F6, hW6, hK6⟩
  have hm0 := hm
  have hm : LM h6.kd h6.gl h6.fr m := LM.fm F6 (h := h.setI 448 m 0) hm0
  have M9 : MR σ h6 m := MR.fm F6 (h := h.setI 448 m 0) hm0 (by decide) (by decide) M1
  have F9 : Fm [486, 487, 489, 490, 491] [448] h h6 := Fm.tr (Fm.rf.setI (by decide)) F6
  refine r_aload_n (q := 10) (z := 0) C 0 rfl (by decide +kernel) rfl rfl ?_
  refine cV0I (q := 13) C R rfl (by decide +kernel) lk_X7_332 (c_X7_setLying hm M9 W) (by decide) (by decide) (by decide) rfl (by first | exact Nat.le_of_ble_eq_true rfl | (simp only [List.map_cons, List.map_nil, List.sum_cons, List.sum_nil, rv_cat]; exact Nat.le_of_ble_eq_true rfl)) rfl hm.1 ?_
  rintro _ _ ⟨rfl, rfl⟩
  refine r_istore_n (q := 14) (z := 2) C 2 rfl (by decide +kernel) rfl (by decide) (by first | rfl | exact okst_rv rfl) ?_
  dsimp only [List.set]
  refine r_iload_n (q := 15) (z := 1) C 1 rfl (by decide +kernel) rfl rfl ?_
  refine r_if_lt (q := 18) (off := 12) (tgt := 27) C rfl (by decide +kernel) (by decide) (fun c15 => ?_) (fun c15 => ?_)
  · refine r_iconst (q := 28) (z := (-1)) (v := (-1)) C rfl (by decide +kernel) (by decide) ?_
    exact r_iret C (by decide +kernel) rfl (by decide) (by decide) (eqP hPP ⟨_, rfl, ⟨ordV_n (fun r e => by rw [e.2.2] at c15; exact absurd c15 (nI_pos (by have := lyN_le σ r; have := e.1; omega))), F9⟩⟩)
  · refine r_aload_n (q := 19) (z := 0) C 0 rfl (by decide +kernel) rfl rfl ?_
    refine r_getR (q := 22) C 7 41 489 rfl (by decide +kernel) rfl (by decide) rfl rfl wf_X7_130 win7 hm.1 ?_
    refine r_iconst (q := 23) (z := 0) (v := 0) C rfl (by decide +kernel) (by decide) ?_
    refine r_iald (q := 24) C rfl (by decide +kernel) hm.k489 (vp_in_nI (n := 0) (by decide) (by decide)) ?_
    rw [show (0 : Int32).toNatClampNeg = 0 from rfl, hW6 0 (Nat.zero_le _), wy_0]
    refine r_if_ne (q := 27) (off := 5) (tgt := 29) C rfl (by decide +kernel) (by decide) (fun c24 => ?_) (fun c24 => ?_)
    · refine r_iconst (q := 30) (z := 0) (v := 0) C rfl (by decide +kernel) (by decide) ?_
      refine r_istore_n (q := 31) (z := 3) C 3 rfl (by decide +kernel) rfl (by decide) (by first | rfl | exact okst_rv rfl) ?_
      dsimp only [List.set]
      refine r_iconst (q := 32) (z := 0) (v := 0) C rfl (by decide +kernel) (by decide) ?_
      refine r_istore (q := 34) C 4 rfl (by decide +kernel) (by decide) (by first | rfl | exact okst_rv rfl) ?_
      dsimp only [List.set]
      have L34 : ∀ (fuel34 : Nat) (b : Nat), σ.n - b < fuel34 → (b ≤ σ.n) → (∀ r, r < b → ¬ ordP σ i r) → wX G Γ (qM G Γ PP 0 0) 0 0 (h6) 34 [some (rv m), some (.int i), some (.int (nI (alS σ))), some (.int (nI (mset (lyb σ) b))), some (.int (nI (lyN σ b))), none] [] := by
        intro fuel34
        induction fuel34 with
        | zero =>
          intro b hm34
          exact absurd hm34 (Nat.not_lt_zero _)
        | succ fuel34 ih34 =>
          intro b hm34 hb hno
          refine r_iload_n (q := 35) (z := 3) C 3 rfl (by decide +kernel) rfl rfl ?_
          refine r_iload_n (q := 36) (z := 2) C 2 rfl (by decide +kernel) rfl rfl ?_
          refine r_icmp_eq (q := 39) (off := 62) (tgt := 98) C rfl (by decide +kernel) (by decide) (fun c36 => ?_) (fun c36 => ?_)
          · have eal : mset (lyb σ) b = alS σ := (nI_eq (by have := mset_10 (lyb σ) (n := b) (by omega); omega) (by omega)).mp c36
            refine r_iconst (q := 99) (z := (-1)) (v := (-1)) C rfl (by decide +kernel) (by decide) ?_
            exact r_iret C (by decide +kernel) rfl (by decide) (by decide) (eqP hPP ⟨_, rfl, ⟨ordV_n (fun r e => by
                  by_cases h1 : r < b
                  · exact hno r h1 e
                  · have h2 : (alS σ).testBit r = true := by rw [alS_bit]; unfold lyb; simp [e.1, e.2.1]
                    rw [← eal, mset_bit] at h2; simp [h1] at h2), F9⟩⟩)
          · have nal : mset (lyb σ) b ≠ alS σ := fun e => c36 (by rw [e])
            obtain ⟨r0, hr1, hr2, hr3, hr4⟩ := nxt_ly hb nal
            have hms := mset_10 (lyb σ) (n := b) (by omega)
            have hsb := ms_sbs hb
            have hml : mset (lyb σ) b ≤ alS σ := sub_le (fun q hq => by have := sbs_iff.mp hsb q hq; rw [alS_bit, this.2]; simp [this.1])
            have hcal := ca_lt r10 (mset (lyb σ) b)
            have hbit : ∀ r, r ≤ r0 → ((caN σ (mset (lyb σ) b)).testBit r = true ↔ r = r0) := fun r hr => by
              rw [ca_bit, hsb, Bool.true_and, Bool.and_eq_true, decide_eq_true_eq]
              unfold nin
              rw [mset_bit]
              constructor
              · rintro ⟨h1, h2⟩
                refine Classical.byContradiction (fun hne => ?_)
                by_cases e : r < b
                · cases h9 : lyb σ r <;> simp [h9, e] at h2
                · rw [hr4 r (by omega) (by omega)] at h2; simp at h2
              · intro e
                subst e
                exact ⟨hr2, by rw [hr3]; simp; omega⟩
            refine r_iconst (q := 40) (z := 0) (v := 0) C rfl (by decide +kernel) (by decide) ?_
            refine r_istore (q := 42) C 5 rfl (by decide +kernel) (by decide) (by first | rfl | exact okst_rv rfl) ?_
            dsimp only [List.set]
            have L42 : ∀ (fuel42 : Nat) (r : Nat), r0 - r < fuel42 → (r ≤ r0) → wX G Γ (qM G Γ PP 0 0) 0 0 (h6) 42 [some (rv m), some (.int i), some (.int (nI (alS σ))), some (.int (nI (mset (lyb σ) b))), some (.int (nI (lyN σ b))), some (.int (nI r))] [] := by
              intro fuel42
              induction fuel42 with
              | zero =>
                intro r hm42
                exact absurd hm42 (Nat.not_lt_zero _)
              | succ fuel42 ih42 =>
                intro r hm42 hr
                refine r_aload_n (q := 43) (z := 0) C 0 rfl (by decide +kernel) rfl rfl ?_
                refine r_getR (q := 46) C 7 42 490 rfl (by decide +kernel) rfl (by decide) rfl rfl wf_X7_133 win7 hm.1 ?_
                refine r_iload_n (q := 47) (z := 3) C 3 rfl (by decide +kernel) rfl rfl ?_
                refine r_iald (q := 48) C rfl (by decide +kernel) hm.k490 (vp_in_nI (by omega) (by decide)) ?_
                rw [nI_clamp (n := mset (lyb σ) b) (by omega), hK6 _ hml]
                refine r_iload (q := 50) C 5 rfl (by decide +kernel) rfl ?_
                refine r_ishr (q := 51) C rfl (by decide +kernel) ?_
                rw [shrb (by omega) (by omega)]
                refine r_iconst (q := 52) (z := 1) (v := 1) C rfl (by decide +kernel) (by decide) ?_
                refine r_iand (q := 53) C rfl (by decide +kernel) ?_
                rw [and1 (by have : caN σ (mset (lyb σ) b) / 2 ^ r ≤ caN σ (mset (lyb σ) b) := Nat.div_le_self _ _; omega)]
                refine r_if_eq (q := 56) (off := 17) (tgt := 70) C rfl (by decide +kernel) (by decide) (fun c53 => ?_) (fun c53 => ?_)
                · have hne : r ≠ r0 := fun e => by
                    have h9 := (hbit r hr).mpr e
                    rw [Nat.testBit_eq_decide_div_mod_eq, decide_eq_true_eq] at h9
                    rw [h9] at c53; exact absurd c53 (by decide)
                  refine r_iinc (q := 73) (z := 1) (v := 1) C 5 rfl (by decide +kernel) rfl (by decide) (by decide) (by first | rfl | exact okst_rv rfl) ?_
                  dsimp only [List.set]
                  rw [nI_1]
                  refine r_goto (off := -31) (tgt := 42) C (by decide +kernel) (by decide) ?_
                  exact ih42 (r + 1) (by omega) (by omega)
                · have heq : r = r0 := (hbit r hr).mp (by
                    rw [Nat.testBit_eq_decide_div_mod_eq, decide_eq_true_eq]
                    rcases Nat.mod_two_eq_zero_or_one (caN σ (mset (lyb σ) b) / 2 ^ r) with e | e
                    · rw [e] at c53; exact absurd rfl c53
                    · exact e)
                  subst heq
                  have hor := mset_or hr1 hr3 hr4
                  have hsb2 := or_sbs hsb hr2 hr3
                  refine r_aload_n (q := 57) (z := 0) C 0 rfl (by decide +kernel) rfl rfl ?_
                  refine r_getR (q := 60) C 7 41 489 rfl (by decide +kernel) rfl (by decide) rfl rfl wf_X7_130 win7 hm.1 ?_
                  refine r_iload_n (q := 61) (z := 3) C 3 rfl (by decide +kernel) rfl rfl ?_
                  refine r_iconst (q := 62) (z := 1) (v := 1) C rfl (by decide +kernel) (by decide) ?_
                  refine r_iload (q := 64) C 5 rfl (by decide +kernel) rfl ?_
                  refine r_ishl (q := 65) C rfl (by decide +kernel) ?_
                  rw [shl1 r (by omega)]
                  refine r_ior (q := 66) C rfl (by decide +kernel) ?_
                  rw [fa_or]
                  refine r_iald (q := 67) C rfl (by decide +kernel) hm.k489 (vp_in_nI (by omega) (by decide)) ?_
                  rw [nI_clamp (n := mset (lyb σ) b ||| 2 ^ r) (by omega), hW6 _ hsb2.2]
                  refine r_if_ne (q := 70) (off := 9) (tgt := 76) C rfl (by decide +kernel) (by decide) (fun c67 => ?_) (fun c67 => ?_)
                  · have hly : lyN σ r = lyN σ b := lyN_mono hr1 hr4
                    have hlir : σ.li r < 240 := by unfold lyb at hr3; exact of_decide_eq_true hr3
                    have hl10 := lyN_le σ b
                    refine r_iload (q := 78) C 4 rfl (by decide +kernel) rfl ?_
                    refine r_iload_n (q := 79) (z := 1) C 1 rfl (by decide +kernel) rfl rfl ?_
                    refine r_icmp_ne (q := 82) (off := 6) (tgt := 85) C rfl (by decide +kernel) (by decide) (fun c79 => ?_) (fun c79 => ?_)
                    · have hno2 : ∀ q, q < r + 1 → ¬ ordP σ i q := fun q hq e => by
                        by_cases e1 : q < b
                        · exact hno q e1 e
                        · by_cases e2 : q = r
                          · subst e2; exact c79 (by rw [e.2.2, hly])
                          · have := hr4 q (by omega) (by omega); unfold lyb at this; exact of_decide_eq_false this e.2.1
                      refine r_iload_n (q := 86) (z := 3) C 3 rfl (by decide +kernel) rfl rfl ?_
                      refine r_iconst (q := 87) (z := 1) (v := 1) C rfl (by decide +kernel) (by decide) ?_
                      refine r_iload (q := 89) C 5 rfl (by decide +kernel) rfl ?_
                      refine r_ishl (q := 90) C rfl (by decide +kernel) ?_
                      rw [shl1 r (by omega)]
                      refine r_ior (q := 91) C rfl (by decide +kernel) ?_
                      rw [fa_or, hor]
                      refine r_istore_n (q := 92) (z := 3) C 3 rfl (by decide +kernel) rfl (by decide) (by first | rfl | exact okst_rv rfl) ?_
                      dsimp only [List.set]
                      refine r_iinc (q := 95) (z := 1) (v := 1) C 4 rfl (by decide +kernel) rfl (by decide) (by decide) (by first | rfl | exact okst_rv rfl) ?_
                      dsimp only [List.set]
                      rw [nI_1, show lyN σ b + 1 = lyN σ (r + 1) by rw [lyN_y hlir, hly]]
                      refine r_goto (off := -61) (tgt := 34) C (by decide +kernel) (by decide) ?_
                      have z0 := ih34 (r + 1) (by omega) (by omega) hno2
                      exact wX.sub (lsub_s (lsub_s (lsub_s (lsub_s (lsub_s (lsub_n lsub_nil)))))) z0
                    · have hyes : ordP σ i r := ⟨hr2, hlir, by rw [hly]; exact c79.symm⟩
                      refine r_iload (q := 84) C 5 rfl (by decide +kernel) rfl ?_
                      exact r_iret C (by decide +kernel) rfl (by decide) (by decide) (eqP hPP ⟨_, rfl, ⟨ordV_y r10 hyes, F9⟩⟩)
                  · exact absurd c67 (fun e2 => by unfold wyN at e2; rw [if_pos hsb2.1] at e2; have h1 := fac_pos (cdS σ (mset (lyb σ) b ||| 2 ^ r)); have h2 := fac_10 (Nat.le_trans (cnt_le (nin σ (mset (lyb σ) b ||| 2 ^ r)) σ.n) r10); exact absurd e2 (nI_ne0 h1 (by unfold cdS; omega)))
            exact L42 (r0 + 1) 0 (by omega) (by omega)
      have z0 := L34 (σ.n + 1) 0 (by omega) (Nat.zero_le _) (fun r hr => absurd hr (Nat.not_lt_zero r))
      exact wX.sub (lsub_s (lsub_s (lsub_s (lsub_s (lsub_s (lsub_n lsub_nil)))))) z0
    · exact absurd c24 (fun e2 => by have h1 := fac_pos (lyN σ σ.n); have h2 := fac_10 (Nat.le_trans (lyN_le σ σ.n) r10); exact absurd e2 (nI_ne0 h1 (by omega)))
