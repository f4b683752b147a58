/-! ===== rents parted ===== -/
theorem row_stI2 {h : HP} {a b i : Nat} {f g : Nat → Int32} {v : Int32} (hn : a ≠ b) : ((h.row a f).row b g).stI a i v = (h.row a (upd f i v)).row b g := by
  rw [row_comm hn, row_stI, row_comm (Ne.symm hn)]
def A3 (sh : Nat → Nat) : Nat := sh 0 + sh 1 + sh 2
def qN (s : Nat) (sh : Nat → Nat) (k : Nat) : Nat := s * sh k / A3 sh
def rN (s : Nat) (sh : Nat → Nat) (k : Nat) : Nat := s * sh k % A3 sh
def lfN (s : Nat) (sh : Nat → Nat) : Nat := s - (qN s sh 0 + qN s sh 1 + qN s sh 2)
def ahN (r : Nat → Nat) (k : Nat) : Nat := cnt (fun j => decide (r k < r j ∨ (r j = r k ∧ j < k))) 3
def rnV (s : Nat) (sh : Nat → Nat) (k : Nat) : Nat := qN s sh k + (if ahN (rN s sh) k < lfN s sh then 1 else 0)
def b3 (g : Nat → Int32) : Nat → Nat
  | 0 => 0
  | k + 1 => if g (b3 g k) < g k then k else b3 g k
theorem b3_lt {g : Nat → Int32} : ∀ k, b3 g k < k ∨ b3 g k = 0
  | 0 => Or.inr rfl
  | k + 1 => by
    have := b3_lt (g := g) k
    simp only [b3]; split <;> omega
theorem iteF (P : Prop) [Decidable P] : (P ∧ (if P then 1 else 0 : Nat) = 1) ∨ (¬ P ∧ (if P then 1 else 0 : Nat) = 0) := by
  by_cases e : P
  · exact Or.inl ⟨e, if_pos e⟩
  · exact Or.inr ⟨e, if_neg e⟩
theorem ahN_e (r : Nat → Nat) (k : Nat) : ∃ x y z : Nat, ahN r k = x + y + z ∧ (((r k < r 0 ∨ (r 0 = r k ∧ 0 < k)) ∧ x = 1) ∨ (¬ (r k < r 0 ∨ (r 0 = r k ∧ 0 < k)) ∧ x = 0)) ∧ (((r k < r 1 ∨ (r 1 = r k ∧ 1 < k)) ∧ y = 1) ∨ (¬ (r k < r 1 ∨ (r 1 = r k ∧ 1 < k)) ∧ y = 0)) ∧ (((r k < r 2 ∨ (r 2 = r k ∧ 2 < k)) ∧ z = 1) ∨ (¬ (r k < r 2 ∨ (r 2 = r k ∧ 2 < k)) ∧ z = 0)) :=
  ⟨_, _, _, by simp only [ahN, cnt, Nat.zero_add, decide_eq_true_eq], iteF _, iteF _, iteF _⟩
theorem b3_ah {r : Nat → Nat} {g : Nat → Int32} {t : Nat} (ht : t < 3) (hg : ∀ k, k < 3 → (g k).toInt = if ahN r k < t then -1 else (r k : Int)) : b3 g 3 < 3 ∧ ahN r (b3 g 3) = t := by
  have h0 := hg 0 (by decide)
  have h1 := hg 1 (by decide)
  have h2 := hg 2 (by decide)
  obtain ⟨x0, y0, z0, e0, a0, b0, c0⟩ := ahN_e r 0
  obtain ⟨x1, y1, z1, e1, a1, b1, c1⟩ := ahN_e r 1
  obtain ⟨x2, y2, z2, e2, a2, b2, c2⟩ := ahN_e r 2
  have x : b3 g 3 = if g (if g 0 < g 1 then 1 else 0) < g 2 then 2 else (if g 0 < g 1 then 1 else 0) := by simp [b3]
  rw [x]
  by_cases k1 : g 0 < g 1
  · rw [if_pos k1]
    rw [Int32.lt_iff_toInt_lt] at k1
    by_cases k2 : g 1 < g 2
    · rw [if_pos k2]; rw [Int32.lt_iff_toInt_lt] at k2; refine ⟨by decide, ?_⟩; omega
    · rw [if_neg k2]; rw [Int32.lt_iff_toInt_lt] at k2; refine ⟨by decide, ?_⟩; omega
  · rw [if_neg k1]
    rw [Int32.lt_iff_toInt_lt] at k1
    by_cases k2 : g 0 < g 2
    · rw [if_pos k2]; rw [Int32.lt_iff_toInt_lt] at k2; refine ⟨by decide, ?_⟩; omega
    · rw [if_neg k2]; rw [Int32.lt_iff_toInt_lt] at k2; refine ⟨by decide, ?_⟩; omega
theorem lf_2 {s : Nat} {sh : Nat → Nat} (h0 : 0 < A3 sh) : qN s sh 0 + qN s sh 1 + qN s sh 2 ≤ s ∧ lfN s sh ≤ 2 := by
  have d0 := Nat.div_add_mod (s * sh 0) (A3 sh)
  have d1 := Nat.div_add_mod (s * sh 1) (A3 sh)
  have d2 := Nat.div_add_mod (s * sh 2) (A3 sh)
  have m0 := Nat.mod_lt (s * sh 0) h0
  have m1 := Nat.mod_lt (s * sh 1) h0
  have m2 := Nat.mod_lt (s * sh 2) h0
  have eA : A3 sh * s = s * sh 0 + s * sh 1 + s * sh 2 := by unfold A3; rw [Nat.mul_comm, Nat.mul_add, Nat.mul_add]
  have eQ : A3 sh * (qN s sh 0 + qN s sh 1 + qN s sh 2) = A3 sh * (s * sh 0 / A3 sh) + A3 sh * (s * sh 1 / A3 sh) + A3 sh * (s * sh 2 / A3 sh) := by unfold qN; rw [Nat.mul_add, Nat.mul_add]
  have k1 : qN s sh 0 + qN s sh 1 + qN s sh 2 ≤ s := by
    rcases Nat.lt_or_ge s (qN s sh 0 + qN s sh 1 + qN s sh 2) with e | e
    · have := Nat.mul_le_mul_left (A3 sh) (show s + 1 ≤ _ from e)
      rw [Nat.mul_add] at this; omega
    · exact e
  refine ⟨k1, ?_⟩
  rcases Nat.lt_or_ge (lfN s sh) 3 with e | e
  · omega
  · unfold lfN at e
    have := Nat.mul_le_mul_left (A3 sh) (show (qN s sh 0 + qN s sh 1 + qN s sh 2) + 3 ≤ s by omega)
    rw [Nat.mul_add] at this; omega
theorem rent_le {σ : SG} (W : WF σ) {ra : Nat} (hr : ra ≤ 1000) : ∀ k, k ≤ σ.n → rentN σ ra k ≤ 16000 * k
  | 0, _ => Nat.le_refl _
  | k + 1, h => by
    have ih := rent_le W hr k (by omega)
    have w := W.2.2.1 k (by omega)
    have : σ.wd k * σ.hg k * ra ≤ 4 * 4 * 1000 := Nat.mul_le_mul (Nat.mul_le_mul w.2.1 w.2.2.2.1) hr
    simp only [rentN]; split <;> omega
def sumq (s : Nat) (sh : Nat → Nat) : Nat → Nat
  | 0 => 0
  | k + 1 => sumq s sh k + qN s sh k
theorem sumq_3 (s : Nat) (sh : Nat → Nat) : sumq s sh 3 = qN s sh 0 + qN s sh 1 + qN s sh 2 := by simp [sumq]
theorem sumq_le {s : Nat} {sh : Nat → Nat} (h0 : 0 < A3 sh) {k : Nat} (hk : k ≤ 3) : sumq s sh k ≤ s := by
  have := (lf_2 (s := s) h0).1
  rcases (show k = 0 ∨ k = 1 ∨ k = 2 ∨ k = 3 by omega) with e | e | e | e <;> subst e <;> simp only [sumq] <;> omega
theorem ah_inj {r : Nat → Nat} {a b : Nat} (ha : a < 3) (hb : b < 3) (hn : a ≠ b) : ahN r a ≠ ahN r b := by
  obtain ⟨x0, y0, z0, e0, a0, b0, c0⟩ := ahN_e r 0
  obtain ⟨x1, y1, z1, e1, a1, b1, c1⟩ := ahN_e r 1
  obtain ⟨x2, y2, z2, e2, a2, b2, c2⟩ := ahN_e r 2
  rcases (show a = 0 ∨ a = 1 ∨ a = 2 by omega) with e | e | e <;> rcases (show b = 0 ∨ b = 1 ∨ b = 2 by omega) with e' | e' | e' <;> subst e <;> subst e' <;> omega

theorem c_X7_rent {G : GT} {h : HP} {m : Nat} {σ : SG} {be sh : Nat → Nat} {ra : Nat} {x : Int32} (hm : LM h.kd h.gl h.fr m) (M : MR σ h m) (W : WF σ) (Mb : MB be sh ra h m) : Con G 2 0 0 yX7_rent cX7_rent 7 (some .int) [rv m, .int x] h (PI (fun v h' => cif (0 ≤ x ∧ x ≤ 2) (nI (rnV (rentN σ ra σ.n) sh x.toNatClampNeg)) (-1) = v ∧ Fm [496, 497] [448] h h')) := by
  refine Con.of (lv := [some (rv m), some (.int x), none, none, none, none, none]) (by decide) (by simp only [lvE_r, lvE_i, lvE_l, lvE_s, lvE_0]; rfl) (by simp only [lgl_r, lgl_i, lgl_l, lgl_s, lgl_0]; decide) (fun Γ C R => ?_)
  generalize hPP : (PI (fun v h' => cif (0 ≤ x ∧ x ≤ 2) (nI (rnV (rentN σ ra σ.n) sh x.toNatClampNeg)) (-1) = v ∧ Fm [496, 497] [448] h h')) = PP
  have r10 := W.n10
  have M1 : MR σ (h.setI 448 m 0) m := M.setI (by decide) (by decide) (by decide)
  have Mb1 : MB be sh ra (h.setI 448 m 0) m := Mb.setI (by decide)
  have s0 := Mb.2.1 0 (by decide)
  have s1 := Mb.2.1 1 (by decide)
  have s2 := Mb.2.1 2 (by decide)
  have hA : 0 < A3 sh ∧ A3 sh ≤ 3000 := by unfold A3; omega
  have hle := rent_le W Mb.2.2.2 σ.n (Nat.le_refl _)
  have hs : rentN σ ra σ.n ≤ 160000 := by omega
  have hsk : ∀ k, k < 3 → rentN σ ra σ.n * sh k ≤ 160000000 := fun k hk => Nat.mul_le_mul hs (Mb.2.1 k hk).2.2
  have n1 : h.fr 497 m ≠ h.fr 496 m := gl_ne hm.g497 hm.g496 (by decide)
  have n2 : h.fr 494 m ≠ h.fr 496 m := gl_ne hm.g494 hm.g496 (by decide)
  have n3 : h.fr 494 m ≠ h.fr 497 m := gl_ne hm.g494 hm.g497 (by decide)
  have hlf := lf_2 (s := rentN σ ra σ.n) hA.1
  refine r_aload_n (q := 1) (z := 0) C 0 rfl (by decide +kernel) rfl rfl ?_
  refine r_iconst (q := 2) (z := 0) (v := 0) C rfl (by decide +kernel) (by decide) ?_
  refine r_putI (q := 5) C 7 0 448 rfl (by decide +kernel) rfl (by decide) rfl rfl wf_X7_1 win7 tyX7 tyX7_ok nmX7 rfl (tyX7_ok 0 (by decide)) rfl wnd7 rfl rfl hm.1 ?_
  refine r_iload_n (q := 6) (z := 1) C 1 rfl (by decide +kernel) rfl rfl ?_
  refine r_if_lt (q := 9) (off := 8) (tgt := 14) C rfl (by decide +kernel) (by decide) (fun c6 => ?_) (fun c6 => ?_)
  · refine r_iconst (q := 15) (z := (-1)) (v := (-1)) C rfl (by decide +kernel) (by decide) ?_
    exact r_iret C (by decide +kernel) rfl (by decide) (by decide) (eqP hPP ⟨_, rfl, (by
          have hn : ¬ (0 ≤ x ∧ x ≤ 2) := by
            rintro ⟨e1, e2⟩
            first | exact absurd e1 (Int32.not_le.mpr c6) | exact absurd e2 c11
          rw [cif_f hn]
          exact ⟨rfl, Fm.rf.setI (by decide)⟩)⟩)
  · refine r_iload_n (q := 10) (z := 1) C 1 rfl (by decide +kernel) rfl rfl ?_
    refine r_iconst (q := 11) (z := 2) (v := 2) C rfl (by decide +kernel) (by decide) ?_
    refine r_icmp_le (q := 14) (off := 5) (tgt := 16) C rfl (by decide +kernel) (by decide) (fun c11 => ?_) (fun c11 => ?_)
    · have hy : 0 ≤ x ∧ x ≤ 2 := ⟨Int32.not_lt.mp c6, c11⟩
      obtain ⟨x1, x2, x3⟩ := nI_rng2 (a := 0) (b := 2) (by decide) hy.1 hy.2 (by decide)
      obtain ⟨r, hr⟩ : ∃ r, r = x.toNatClampNeg := ⟨_, rfl⟩
      rw [← hr] at x2 x3
      rw [← hr] at hPP
      clear hr
      subst x3
      refine r_aload_n (q := 17) (z := 0) C 0 rfl (by decide +kernel) rfl rfl ?_
      refine cV0I (q := 20) C R rfl (by decide +kernel) lk_X7_356 (c_X7_rents hm M1 W Mb1) (by decide) (by decide) (by decide) rfl (by first | exact Nat.le_of_ble_eq_true rfl | (simp only [List.map_cons, List.map_nil, List.sum_cons, List.sum_nil, rv_cat]; exact Nat.le_of_ble_eq_true rfl)) rfl hm.1 ?_
      rintro _ _ ⟨rfl, rfl⟩
      refine r_istore_n (q := 21) (z := 2) C 2 rfl (by decide +kernel) rfl (by decide) (by first | rfl | exact okst_rv rfl) ?_
      dsimp only [List.set]
      have L116 : ∀ (fuel116 : Nat) (f g : Nat → Int32) (t : Nat), lfN (rentN σ ra σ.n) sh - t < fuel116 → (t ≤ lfN (rentN σ ra σ.n) sh) → (∀ k, k < 3 → f k = nI (qN (rentN σ ra σ.n) sh k + (if ahN (rN (rentN σ ra σ.n) sh) k < t then 1 else 0))) → (∀ k, k < 3 → g k = if ahN (rN (rentN σ ra σ.n) sh) k < t then -1 else nI (rN (rentN σ ra σ.n) sh k)) → wX G Γ (qM G Γ PP 0 0) 0 0 (((h.setI 448 m 0).row (h.fr 497 m) (f)).row (h.fr 496 m) (g)) 116 [some (rv m), some (.int (nI r)), some (.int (nI (rentN σ ra σ.n))), some (.int (nI (A3 sh))), some (.int (nI (lfN (rentN σ ra σ.n) sh - t))), none, none] [] := by
        intro fuel116
        induction fuel116 with
        | zero =>
          intro f g t hm116
          exact absurd hm116 (Nat.not_lt_zero _)
        | succ fuel116 ih116 =>
          intro f g t hm116 ht hf hg
          refine r_iload (q := 118) C 4 rfl (by decide +kernel) rfl ?_
          refine r_if_le (q := 121) (off := 72) (tgt := 190) C rfl (by decide +kernel) (by decide) (fun c118 => ?_) (fun c118 => ?_)
          · have etl : t = lfN (rentN σ ra σ.n) sh := by
              rcases Nat.lt_or_ge t (lfN (rentN σ ra σ.n) sh) with e | e
              · exact absurd c118 (nI_nle (by omega) (by omega))
              · omega
            refine r_aload_n (q := 191) (z := 0) C 0 rfl (by decide +kernel) rfl rfl ?_
            refine r_getR (q := 194) C 7 49 497 rfl (by decide +kernel) rfl (by decide) rfl rfl wf_X7_154 win7 hm.1 ?_
            refine r_iload_n (q := 195) (z := 1) C 1 rfl (by decide +kernel) rfl rfl ?_
            refine r_iald (q := 196) C rfl (by decide +kernel) hm.k497 (vp_in_nI (by omega) (by decide)) ?_
            try simp only [fr_row, fr_setI]
            rw [nI_clamp (by omega), ai_row_ne n1, ai_row_eq, hf r (by omega), etl]
            exact r_iret C (by decide +kernel) rfl (by decide) (by decide) (eqP hPP ⟨_, rfl, (by
                  rw [cif_t hy]
                  exact ⟨rfl, Fm.row (Fm.row (Fm.rf.setI (by decide)) (by rw [hm.g497]; decide)) (by rw [hm.g496]; decide)⟩)⟩)
          · have htl : t < lfN (rentN σ ra σ.n) sh := by
              rcases Nat.lt_or_ge t (lfN (rentN σ ra σ.n) sh) with e | e
              · exact e
              · exact absurd (by rw [show lfN (rentN σ ra σ.n) sh - t = 0 by omega]; decide) c118
            refine r_iconst (q := 122) (z := 0) (v := 0) C rfl (by decide +kernel) (by decide) ?_
            refine r_istore (q := 124) C 5 rfl (by decide +kernel) (by decide) (by first | rfl | exact okst_rv rfl) ?_
            dsimp only [List.set]
            refine r_iconst (q := 125) (z := 1) (v := 1) C rfl (by decide +kernel) (by decide) ?_
            refine r_istore (q := 127) C 6 rfl (by decide +kernel) (by decide) (by first | rfl | exact okst_rv rfl) ?_
            dsimp only [List.set]
            have L127 : ∀ (fuel127 : Nat) (k : Nat), 3 - k < fuel127 → (1 ≤ k) → (k ≤ 3) → wX G Γ (qM G Γ PP 0 0) 0 0 (((h.setI 448 m 0).row (h.fr 497 m) (f)).row (h.fr 496 m) (g)) 127 [some (rv m), some (.int (nI r)), some (.int (nI (rentN σ ra σ.n))), some (.int (nI (A3 sh))), some (.int (nI (lfN (rentN σ ra σ.n) sh - t))), some (.int (nI (b3 g k))), some (.int (nI k))] [] := by
              intro fuel127
              induction fuel127 with
              | zero =>
                intro k hm127
                exact absurd hm127 (Nat.not_lt_zero _)
              | succ fuel127 ih127 =>
                intro k hm127 h1k hk
                refine r_iload (q := 129) C 6 rfl (by decide +kernel) rfl ?_
                refine r_iconst (q := 130) (z := 3) (v := 3) C rfl (by decide +kernel) (by decide) ?_
                refine r_icmp_ge (q := 133) (off := 35) (tgt := 165) C rfl (by decide +kernel) (by decide) (fun c130 => ?_) (fun c130 => ?_)
                · have ek : k = 3 := by have := (nI_leI (b := k) (a := 3) (by omega) (by omega)).mp c130; omega
                  subst ek
                  obtain ⟨b3a, b3b⟩ := b3_ah (r := rN (rentN σ ra σ.n) sh) (g := g) (t := t) (by omega) (fun k hk => by rw [hg k hk]; split <;> first | rfl | exact nI_toInt (by have := Nat.mod_lt ((rentN σ ra σ.n) * sh k) hA.1; unfold rN; omega))
                  obtain ⟨b, hb⟩ : ∃ b, b = b3 g 3 := ⟨_, rfl⟩
                  rw [← hb] at b3a b3b
                  rw [← hb]
                  refine r_aload_n (q := 166) (z := 0) C 0 rfl (by decide +kernel) rfl rfl ?_
                  refine r_getR (q := 169) C 7 49 497 rfl (by decide +kernel) rfl (by decide) rfl rfl wf_X7_154 win7 hm.1 ?_
                  refine r_iload (q := 171) C 5 rfl (by decide +kernel) rfl ?_
                  refine r_dup2 (q := 172) C rfl (by decide +kernel) (by first | rfl | exact rv_cat _) (by first | rfl | exact rv_cat _) ?_
                  refine r_iald (q := 173) C rfl (by decide +kernel) hm.k497 (vp_in_nI (by omega) (by decide)) ?_
                  try simp only [fr_row, fr_setI]
                  rw [nI_clamp (by omega), ai_row_ne n1, ai_row_eq, hf b b3a, b3b, if_neg (Nat.lt_irrefl t), Nat.add_zero]
                  refine r_iconst (q := 174) (z := 1) (v := 1) C rfl (by decide +kernel) (by decide) ?_
                  refine r_iadd (q := 175) C rfl (by decide +kernel) ?_
                  rw [nI_1]
                  refine r_iast (q := 176) C rfl (by decide +kernel) rfl hm.k497 (vp_in_nI (by omega) (by decide)) ?_
                  try simp only [fr_row, fr_setI]
                  rw [row_stI2 n1, nI_clamp (by omega)]
                  refine r_aload_n (q := 177) (z := 0) C 0 rfl (by decide +kernel) rfl rfl ?_
                  refine r_getR (q := 180) C 7 48 496 rfl (by decide +kernel) rfl (by decide) rfl rfl wf_X7_151 win7 hm.1 ?_
                  refine r_iload (q := 182) C 5 rfl (by decide +kernel) rfl ?_
                  refine r_iconst (q := 183) (z := (-1)) (v := (-1)) C rfl (by decide +kernel) (by decide) ?_
                  refine r_iast (q := 184) C rfl (by decide +kernel) rfl hm.k496 (vp_in_nI (by omega) (by decide)) ?_
                  try simp only [fr_row, fr_setI]
                  rw [row_stI, nI_clamp (by omega)]
                  refine r_iinc (q := 187) (z := (-1)) (v := (-1)) C 4 rfl (by decide +kernel) rfl (by decide) (by decide) (by first | rfl | exact okst_rv rfl) ?_
                  dsimp only [List.set]
                  rw [show nI (lfN (rentN σ ra σ.n) sh - t) + -1 = nI (lfN (rentN σ ra σ.n) sh - (t + 1)) by rw [show lfN (rentN σ ra σ.n) sh - t = (lfN (rentN σ ra σ.n) sh - (t + 1)) + 1 by omega]; exact pk_m1 _]
                  have inj : ∀ k, k < 3 → k ≠ b → ahN (rN (rentN σ ra σ.n) sh) k ≠ t := fun k hk hn e => ah_inj hk b3a hn (e.trans b3b.symm)
                  have hf2 : ∀ k, k < 3 → upd f b (nI (qN (rentN σ ra σ.n) sh b + 1)) k = nI (qN (rentN σ ra σ.n) sh k + (if ahN (rN (rentN σ ra σ.n) sh) k < t + 1 then 1 else 0)) := fun k hk => by
                    by_cases e : k = b
                    · subst e; rw [pk_us, if_pos (by omega)]
                    · rw [pk_un e, hf k hk]
                      have := inj k hk e
                      by_cases e2 : ahN (rN (rentN σ ra σ.n) sh) k < t
                      · rw [if_pos e2, if_pos (by omega)]
                      · rw [if_neg e2, if_neg (by omega)]
                  have hg2 : ∀ k, k < 3 → upd g b (-1) k = if ahN (rN (rentN σ ra σ.n) sh) k < t + 1 then -1 else nI (rN (rentN σ ra σ.n) sh k) := fun k hk => by
                    by_cases e : k = b
                    · subst e; rw [pk_us, if_pos (by omega)]
                    · rw [pk_un e, hg k hk]
                      have := inj k hk e
                      by_cases e2 : ahN (rN (rentN σ ra σ.n) sh) k < t
                      · rw [if_pos e2, if_pos (by omega)]
                      · rw [if_neg e2, if_neg (by omega)]
                  refine r_goto (off := -71) (tgt := 116) C (by decide +kernel) (by decide) ?_
                  exact wX.sub (lsub_s (lsub_s (lsub_s (lsub_s (lsub_s (lsub_n (lsub_n (lsub_nil)))))))) (ih116 _ _ (t + 1) (by omega) (by omega) hf2 hg2)
                · have hlt : k < 3 := Nat.lt_of_not_le (fun e => c130 (nI_le (a := 3) e (by omega)))
                  refine r_aload_n (q := 134) (z := 0) C 0 rfl (by decide +kernel) rfl rfl ?_
                  refine r_getR (q := 137) C 7 48 496 rfl (by decide +kernel) rfl (by decide) rfl rfl wf_X7_151 win7 hm.1 ?_
                  refine r_iload (q := 139) C 6 rfl (by decide +kernel) rfl ?_
                  refine r_iald (q := 140) C rfl (by decide +kernel) hm.k496 (vp_in_nI (by omega) (by decide)) ?_
                  try simp only [fr_row, fr_setI]
                  rw [nI_clamp (by omega), ai_row_eq]
                  refine r_aload_n (q := 141) (z := 0) C 0 rfl (by decide +kernel) rfl rfl ?_
                  refine r_getR (q := 144) C 7 48 496 rfl (by decide +kernel) rfl (by decide) rfl rfl wf_X7_151 win7 hm.1 ?_
                  refine r_iload (q := 146) C 5 rfl (by decide +kernel) rfl ?_
                  refine r_iald (q := 147) C rfl (by decide +kernel) hm.k496 (vp_in_nI (by have := b3_lt (g := g) k; omega) (by decide)) ?_
                  try simp only [fr_row, fr_setI]
                  rw [nI_clamp (by have := b3_lt (g := g) k; omega), ai_row_eq]
                  refine r_icmp_le (q := 150) (off := 8) (tgt := 155) C rfl (by decide +kernel) (by decide) (fun c147 => ?_) (fun c147 => ?_)
                  · have eb : nI (b3 g k) = nI (b3 g (k + 1)) := by rw [b3, if_neg (Int32.not_lt.mpr c147)]
                    refine r_iload (q := 157) C 5 rfl (by decide +kernel) rfl ?_
                    refine r_istore (q := 159) C 5 rfl (by decide +kernel) (by decide) (by first | rfl | exact okst_rv rfl) ?_
                    dsimp only [List.set]
                    refine r_iinc (q := 162) (z := 1) (v := 1) C 6 rfl (by decide +kernel) rfl (by decide) (by decide) (by first | rfl | exact okst_rv rfl) ?_
                    dsimp only [List.set]
                    rw [nI_1]
                    refine r_goto (off := -35) (tgt := 127) C (by decide +kernel) (by decide) ?_
                    have z := ih127 (k + 1) (by omega) (by omega) (by omega)
                    rw [← eb] at z
                    exact z
                  · have eb : nI k = nI (b3 g (k + 1)) := by rw [b3, if_pos (Int32.not_le.mp c147)]
                    refine r_iload (q := 152) C 6 rfl (by decide +kernel) rfl ?_
                    refine r_goto (off := 5) (tgt := 157) C (by decide +kernel) (by decide) ?_
                    refine r_istore (q := 159) C 5 rfl (by decide +kernel) (by decide) (by first | rfl | exact okst_rv rfl) ?_
                    dsimp only [List.set]
                    refine r_iinc (q := 162) (z := 1) (v := 1) C 6 rfl (by decide +kernel) rfl (by decide) (by decide) (by first | rfl | exact okst_rv rfl) ?_
                    dsimp only [List.set]
                    rw [nI_1]
                    refine r_goto (off := -35) (tgt := 127) C (by decide +kernel) (by decide) ?_
                    have z := ih127 (k + 1) (by omega) (by omega) (by omega)
                    rw [← eb] at z
                    exact z
            have z := L127 4 1 (by omega) (by omega) (by omega)
            rw [show b3 g 1 = 0 by simp [b3]] at z
            exact z
      refine r_aload_n (q := 22) (z := 0) C 0 rfl (by decide +kernel) rfl rfl ?_
      refine r_getR (q := 25) C 7 46 494 rfl (by decide +kernel) rfl (by decide) rfl rfl wf_X7_145 win7 hm.1 ?_
      refine r_iconst (q := 26) (z := 0) (v := 0) C rfl (by decide +kernel) (by decide) ?_
      refine r_iald (q := 27) C rfl (by decide +kernel) hm.k494 (vp_in_nI (n := 0) (by decide) (by decide)) ?_
      rw [show (0 : Int32).toNatClampNeg = 0 from rfl, (Mb1.2.1 0 (by decide)).1]
      refine r_aload_n (q := 28) (z := 0) C 0 rfl (by decide +kernel) rfl rfl ?_
      refine r_getR (q := 31) C 7 46 494 rfl (by decide +kernel) rfl (by decide) rfl rfl wf_X7_145 win7 hm.1 ?_
      refine r_iconst (q := 32) (z := 1) (v := 1) C rfl (by decide +kernel) (by decide) ?_
      refine r_iald (q := 33) C rfl (by decide +kernel) hm.k494 (vp_in_nI (n := 1) (by decide) (by decide)) ?_
      rw [show (1 : Int32).toNatClampNeg = 1 from rfl, (Mb1.2.1 1 (by decide)).1]
      refine r_iadd (q := 34) C rfl (by decide +kernel) ?_
      rw [nI_add]
      refine r_aload_n (q := 35) (z := 0) C 0 rfl (by decide +kernel) rfl rfl ?_
      refine r_getR (q := 38) C 7 46 494 rfl (by decide +kernel) rfl (by decide) rfl rfl wf_X7_145 win7 hm.1 ?_
      refine r_iconst (q := 39) (z := 2) (v := 2) C rfl (by decide +kernel) (by decide) ?_
      refine r_iald (q := 40) C rfl (by decide +kernel) hm.k494 (vp_in_nI (n := 2) (by decide) (by decide)) ?_
      rw [show (2 : Int32).toNatClampNeg = 2 from rfl, (Mb1.2.1 2 (by decide)).1]
      refine r_iadd (q := 41) C rfl (by decide +kernel) ?_
      rw [nI_add, show sh 0 + sh 1 + sh 2 = A3 sh from rfl]
      refine r_istore_n (q := 42) (z := 3) C 3 rfl (by decide +kernel) rfl (by decide) (by first | rfl | exact okst_rv rfl) ?_
      dsimp only [List.set]
      refine r_iload_n (q := 43) (z := 2) C 2 rfl (by decide +kernel) rfl rfl ?_
      refine r_istore (q := 45) C 4 rfl (by decide +kernel) (by decide) (by first | rfl | exact okst_rv rfl) ?_
      dsimp only [List.set]
      refine r_iconst (q := 46) (z := 0) (v := 0) C rfl (by decide +kernel) (by decide) ?_
      refine r_istore (q := 48) C 5 rfl (by decide +kernel) (by decide) (by first | rfl | exact okst_rv rfl) ?_
      dsimp only [List.set]
      have L48 : ∀ (fuel48 : Nat) (k : Nat), 3 - k < fuel48 → (k ≤ 3) → wX G Γ (qM G Γ PP 0 0) 0 0 (((h.setI 448 m 0).row (h.fr 497 m) (mix (fun j => nI (qN (rentN σ ra σ.n) sh j)) (h.ai (h.fr 497 m)) k)).row (h.fr 496 m) (mix (fun j => nI (rN (rentN σ ra σ.n) sh j)) (h.ai (h.fr 496 m)) k)) 48 [some (rv m), some (.int (nI r)), some (.int (nI (rentN σ ra σ.n))), some (.int (nI (A3 sh))), some (.int (nI ((rentN σ ra σ.n) - sumq (rentN σ ra σ.n) sh k))), some (.int (nI k)), none] [] := by
        intro fuel48
        induction fuel48 with
        | zero =>
          intro k hm48
          exact absurd hm48 (Nat.not_lt_zero _)
        | succ fuel48 ih48 =>
          intro k hm48 hk
          refine r_iload (q := 50) C 5 rfl (by decide +kernel) rfl ?_
          refine r_iconst (q := 51) (z := 3) (v := 3) C rfl (by decide +kernel) (by decide) ?_
          refine r_icmp_ge (q := 54) (off := 65) (tgt := 116) C rfl (by decide +kernel) (by decide) (fun c51 => ?_) (fun c51 => ?_)
          · have ek : k = 3 := by have := (nI_leI (b := k) (a := 3) (by omega) (by omega)).mp c51; omega
            subst ek
            rw [show (rentN σ ra σ.n) - sumq (rentN σ ra σ.n) sh 3 = lfN (rentN σ ra σ.n) sh - 0 by rw [sumq_3]; rfl]
            exact wX.sub (lsub_s (lsub_s (lsub_s (lsub_s (lsub_s (lsub_n (lsub_n lsub_nil))))))) (L116 (lfN (rentN σ ra σ.n) sh + 1) _ _ 0 (by omega) (by omega) (fun k hk => by rw [mix_in hk, if_neg (Nat.not_lt_zero _)]; rfl) (fun k hk => by rw [mix_in hk, if_neg (Nat.not_lt_zero _)]))
          · have hlt : k < 3 := Nat.lt_of_not_le (fun e => c51 (nI_le (a := 3) e (by omega)))
            have hk9 := hsk k hlt
            have hsh := Mb.2.1 k hlt
            refine r_aload_n (q := 55) (z := 0) C 0 rfl (by decide +kernel) rfl rfl ?_
            refine r_getR (q := 58) C 7 49 497 rfl (by decide +kernel) rfl (by decide) rfl rfl wf_X7_154 win7 hm.1 ?_
            refine r_iload (q := 60) C 5 rfl (by decide +kernel) rfl ?_
            refine r_iload_n (q := 61) (z := 2) C 2 rfl (by decide +kernel) rfl rfl ?_
            refine r_i2l (q := 62) C rfl (by decide +kernel) ?_
            rw [nI_l (by omega)]
            refine r_aload_n (q := 63) (z := 0) C 0 rfl (by decide +kernel) rfl rfl ?_
            refine r_getR (q := 66) C 7 46 494 rfl (by decide +kernel) rfl (by decide) rfl rfl wf_X7_145 win7 hm.1 ?_
            refine r_iload (q := 68) C 5 rfl (by decide +kernel) rfl ?_
            refine r_iald (q := 69) C rfl (by decide +kernel) hm.k494 (vp_in_nI (by omega) (by decide)) ?_
            try simp only [fr_row, fr_setI]
            rw [nI_clamp (by omega), ai_row_ne n2, ai_row_ne n3, ai_setI, hsh.1]
            refine r_i2l (q := 70) C rfl (by decide +kernel) ?_
            rw [nI_l (by omega)]
            refine r_lmul (q := 71) C rfl (by decide +kernel) ?_
            rw [lN_mul]
            refine r_iload_n (q := 72) (z := 3) C 3 rfl (by decide +kernel) rfl rfl ?_
            refine r_i2l (q := 73) C rfl (by decide +kernel) ?_
            rw [nI_l (by omega)]
            refine r_ldiv (q := 74) C rfl (by decide +kernel) (by rw [show (0 : Int64) = lN 0 from rfl, pk_lEQ (by omega) (by decide)]; omega) ?_
            rw [pk_lDiv (by omega) hA.1 (by omega)]
            refine r_l2i (q := 75) C rfl (by decide +kernel) ?_
            rw [lN_i]
            refine r_iast (q := 76) C rfl (by decide +kernel) rfl hm.k497 (vp_in_nI (by omega) (by decide)) ?_
            try simp only [fr_row, fr_setI]
            rw [row_stI2 n1, nI_clamp (by omega), show (rentN σ ra σ.n) * sh k / A3 sh = qN (rentN σ ra σ.n) sh k from rfl, mix_s (fun j => nI (qN (rentN σ ra σ.n) sh j))]
            refine r_aload_n (q := 77) (z := 0) C 0 rfl (by decide +kernel) rfl rfl ?_
            refine r_getR (q := 80) C 7 48 496 rfl (by decide +kernel) rfl (by decide) rfl rfl wf_X7_151 win7 hm.1 ?_
            refine r_iload (q := 82) C 5 rfl (by decide +kernel) rfl ?_
            refine r_iload_n (q := 83) (z := 2) C 2 rfl (by decide +kernel) rfl rfl ?_
            refine r_i2l (q := 84) C rfl (by decide +kernel) ?_
            rw [nI_l (by omega)]
            refine r_aload_n (q := 85) (z := 0) C 0 rfl (by decide +kernel) rfl rfl ?_
            refine r_getR (q := 88) C 7 46 494 rfl (by decide +kernel) rfl (by decide) rfl rfl wf_X7_145 win7 hm.1 ?_
            refine r_iload (q := 90) C 5 rfl (by decide +kernel) rfl ?_
            refine r_iald (q := 91) C rfl (by decide +kernel) hm.k494 (vp_in_nI (by omega) (by decide)) ?_
            try simp only [fr_row, fr_setI]
            rw [nI_clamp (by omega), ai_row_ne n2, ai_row_ne n3, ai_setI, hsh.1]
            refine r_i2l (q := 92) C rfl (by decide +kernel) ?_
            rw [nI_l (by omega)]
            refine r_lmul (q := 93) C rfl (by decide +kernel) ?_
            rw [lN_mul]
            refine r_iload_n (q := 94) (z := 3) C 3 rfl (by decide +kernel) rfl rfl ?_
            refine r_i2l (q := 95) C rfl (by decide +kernel) ?_
            rw [nI_l (by omega)]
            refine r_lrem (q := 96) C rfl (by decide +kernel) (by rw [show (0 : Int64) = lN 0 from rfl, pk_lEQ (by omega) (by decide)]; omega) ?_
            rw [pk_lRem (by omega) hA.1 (by omega)]
            refine r_l2i (q := 97) C rfl (by decide +kernel) ?_
            rw [lN_i]
            refine r_iast (q := 98) C rfl (by decide +kernel) rfl hm.k496 (vp_in_nI (by omega) (by decide)) ?_
            try simp only [fr_row, fr_setI]
            rw [row_stI, nI_clamp (by omega), show (rentN σ ra σ.n) * sh k % A3 sh = rN (rentN σ ra σ.n) sh k from rfl, mix_s (fun j => nI (rN (rentN σ ra σ.n) sh j))]
            refine r_iload (q := 100) C 4 rfl (by decide +kernel) rfl ?_
            refine r_aload_n (q := 101) (z := 0) C 0 rfl (by decide +kernel) rfl rfl ?_
            refine r_getR (q := 104) C 7 49 497 rfl (by decide +kernel) rfl (by decide) rfl rfl wf_X7_154 win7 hm.1 ?_
            refine r_iload (q := 106) C 5 rfl (by decide +kernel) rfl ?_
            refine r_iald (q := 107) C rfl (by decide +kernel) hm.k497 (vp_in_nI (by omega) (by decide)) ?_
            try simp only [fr_row, fr_setI]
            rw [nI_clamp (by omega), ai_row_ne n1, ai_row_eq, mix_in (by omega)]
            refine r_isub (q := 108) C rfl (by decide +kernel) ?_
            have hq9 := sumq_le (s := (rentN σ ra σ.n)) hA.1 (k := k + 1) (by omega)
            rw [sumq] at hq9
            rw [pk_sub (by omega), show (rentN σ ra σ.n) - sumq (rentN σ ra σ.n) sh k - qN (rentN σ ra σ.n) sh k = (rentN σ ra σ.n) - sumq (rentN σ ra σ.n) sh (k + 1) by rw [sumq]; omega]
            refine r_istore (q := 110) C 4 rfl (by decide +kernel) (by decide) (by first | rfl | exact okst_rv rfl) ?_
            dsimp only [List.set]
            refine r_iinc (q := 113) (z := 1) (v := 1) C 5 rfl (by decide +kernel) rfl (by decide) (by decide) (by first | rfl | exact okst_rv rfl) ?_
            dsimp only [List.set]
            rw [nI_1]
            refine r_goto (off := -65) (tgt := 48) C (by decide +kernel) (by decide) ?_
            exact wX.sub (lsub_s (lsub_s (lsub_s (lsub_s (lsub_s (lsub_s (lsub_n (lsub_nil)))))))) (ih48 (k + 1) (by omega) (by omega))
      have z0 := L48 4 0 (by omega) (by omega)
      rw [mix_0, mix_0, show (h.setI 448 m 0).row (h.fr 497 m) (h.ai (h.fr 497 m)) = h.setI 448 m 0 from row_self, show (h.setI 448 m 0).row (h.fr 496 m) (h.ai (h.fr 496 m)) = h.setI 448 m 0 from row_self] at z0
      exact z0
    · refine r_iconst (q := 15) (z := (-1)) (v := (-1)) C rfl (by decide +kernel) (by decide) ?_
      exact r_iret C (by decide +kernel) rfl (by decide) (by decide) (eqP hPP ⟨_, rfl, (by
            have hn : ¬ (0 ≤ x ∧ x ≤ 2) := by
              rintro ⟨e1, e2⟩
              first | exact absurd e1 (Int32.not_le.mpr c6) | exact absurd e2 c11
            rw [cif_f hn]
            exact ⟨rfl, Fm.rf.setI (by decide)⟩)⟩)
