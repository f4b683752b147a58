/-! ===== cells, places, what is reached ===== -/
def hasC (x y : Int32) : Bool := decide (0 ≤ x ∧ x < 12 ∧ 0 ≤ y ∧ y < 10)
theorem hasC_of {x y : Int32} (h : hasC x y = true) : ∃ a b : Nat, a < 12 ∧ b < 10 ∧ x = nI a ∧ y = nI b := by
  simp only [hasC, decide_eq_true_eq] at h
  obtain ⟨h1, h2, h3, h4⟩ := h
  rw [Int32.le_iff_toInt_le] at h1 h3
  rw [Int32.lt_iff_toInt_lt] at h2 h4
  have e12 : (12 : Int32).toInt = 12 := by decide
  have e10 : (10 : Int32).toInt = 10 := by decide
  have e0 : (0 : Int32).toInt = 0 := by decide
  rw [e12] at h2; rw [e10] at h4; rw [e0] at h1 h3
  refine ⟨x.toInt.toNat, y.toInt.toNat, by omega, by omega, Int32.toInt_inj.mp ?_, Int32.toInt_inj.mp ?_⟩
  · rw [nI_toInt (by omega)]; omega
  · rw [nI_toInt (by omega)]; omega
theorem hasC_nI {a b : Nat} (ha : a < 12) (hb : b < 10) : hasC (nI a) (nI b) = true := by
  simp only [hasC, decide_eq_true_eq]
  exact ⟨nI_pos' (by omega), nI_lt ha (by decide), nI_pos' (by omega), nI_lt hb (by decide)⟩
theorem cIx {a b : Nat} : (12 : Int32) * nI b + nI a = nI (12 * b + a) := by
  rw [show (12 : Int32) = nI 12 from rfl, pk_mul, nI_add]
theorem cIn {x y : Int32} (h : hasC x y = true) : vp_in (12 * y + x) 120 := by
  obtain ⟨a, b, ha, hb, rfl, rfl⟩ := hasC_of h
  rw [cIx]
  exact vp_in_nI (by omega) (by decide)
/-- the cell c is at x, y -/
def cAt (x y : Int32) (c : Nat) : Prop := hasC x y = true ∧ 12 * y + x = nI c ∧ c < 120
theorem cAt_of {x y : Int32} (h : hasC x y = true) : ∃ c, cAt x y c ∧ (12 * y + x).toNatClampNeg = c := by
  obtain ⟨a, b, ha, hb, rfl, rfl⟩ := hasC_of h
  exact ⟨12 * b + a, ⟨h, cIx, by omega⟩, by rw [cIx]; exact nI_clamp (by omega)⟩
theorem cAt_one {x y : Int32} {c d : Nat} (h : cAt x y c) (h' : cAt x y d) : c = d := (nI_eq (by have := h.2.2; omega) (by have := h'.2.2; omega)).mp (h.2.1.symm.trans h'.2.1)
def adj (a b : Nat) : Prop := (a % 12 ≠ 0 ∧ b + 1 = a) ∨ (a % 12 ≠ 11 ∧ b = a + 1) ∨ b + 12 = a ∨ b = a + 12
theorem adj_symm {a b : Nat} (h : adj a b) : adj b a := by unfold adj at *; omega
/-- reached from g over cells that aren't barred: in every set that holds g and is closed -/
def RS (bar : Nat → Bool) (g c : Nat) : Prop := ∀ S : Nat → Prop, (bar g = false → S g) → (∀ a b, a < 120 → b < 120 → S a → adj a b → bar b = false → S b) → S c
theorem RS.gate {bar : Nat → Bool} {g : Nat} (h : bar g = false) : RS bar g g := fun S h1 _ => h1 h
theorem RS.step {bar : Nat → Bool} {g a b : Nat} (h : RS bar g a) (ha : a < 120) (hb : b < 120) (hab : adj a b) (hf : bar b = false) : RS bar g b := fun S h1 h2 => h2 a b ha hb (h S h1 h2) hab hf
theorem RS.free {bar : Nat → Bool} {g c : Nat} (h : RS bar g c) : bar c = false := h (fun c => bar c = false) (fun h => h) (fun _ _ _ _ _ _ h => h)
theorem RS.mono {bar bar' : Nat → Bool} {g c : Nat} (hm : ∀ c, bar c = false → bar' c = false) (h : RS bar g c) : RS bar' g c := fun S h1 h2 => h (fun c => S c) (fun e => h1 (hm _ e)) (fun a b ha hb hs hab he => h2 a b ha hb hs hab (hm _ he))
theorem RS.lt {bar : Nat → Bool} {g c : Nat} (hg : g < 120) (h : RS bar g c) : c < 120 := h (fun c => c < 120) (fun _ => hg) (fun _ _ _ h _ _ _ => h)
theorem RS.congr {bar bar' : Nat → Bool} {g c : Nat} (hg : g < 120) (hm : ∀ c, c < 120 → bar c = bar' c) : RS bar g c ↔ RS bar' g c := by
  constructor
  · intro h
    exact (h (fun c => RS bar' g c ∧ c < 120) (fun e => ⟨RS.gate (by rw [← hm g hg]; exact e), hg⟩) (fun a b ha hb hs hab he => ⟨hs.1.step ha hb hab (by rw [← hm b hb]; exact he), hb⟩)).1
  · intro h
    exact (h (fun c => RS bar g c ∧ c < 120) (fun e => ⟨RS.gate (by rw [hm g hg]; exact e), hg⟩) (fun a b ha hb hs hab he => ⟨hs.1.step ha hb hab (by rw [hm b hb]; exact he), hb⟩)).1
/-- how many of the first n -/
def cnt (p : Nat → Bool) : Nat → Nat
  | 0 => 0
  | n + 1 => cnt p n + (if p n then 1 else 0)
theorem cnt_le (p : Nat → Bool) : ∀ n, cnt p n ≤ n
  | 0 => Nat.le_refl 0
  | n + 1 => by have := cnt_le p n; simp only [cnt]; split <;> omega
theorem cnt_lt {p : Nat → Bool} {c : Nat} (hc : p c = false) : ∀ n, c < n → cnt p n < n
  | 0, h => absurd h (Nat.not_lt_zero _)
  | n + 1, h => by
    simp only [cnt]
    have := cnt_le p n
    by_cases e : c = n
    · subst e; rw [hc]; simp; omega
    · have := cnt_lt hc n (by omega); split <;> omega
theorem cnt_congr {p q : Nat → Bool} : ∀ n, (∀ k, k < n → p k = q k) → cnt p n = cnt q n
  | 0, _ => rfl
  | n + 1, h => by simp only [cnt]; rw [cnt_congr n (fun k hk => h k (by omega)), h n (by omega)]
theorem cnt_add {p : Nat → Bool} {c : Nat} (hc : p c = false) : ∀ n, cnt (fun k => p k || decide (k = c)) n = cnt p n + (if c < n then 1 else 0)
  | 0 => rfl
  | n + 1 => by
    simp only [cnt]
    rw [cnt_add hc n]
    by_cases e : n = c
    · subst e; simp [hc]
    · have e2 : (c < n + 1) = (c < n) := by apply propext; omega
      simp [e, e2]; omega
def inn (x y w z c : Nat) : Bool := decide (x ≤ c % 12 ∧ c % 12 < x + w ∧ y ≤ c / 12 ∧ c / 12 < y + z)
theorem inn_iff {x y w z c : Nat} : inn x y w z c = true ↔ x ≤ c % 12 ∧ c % 12 < x + w ∧ y ≤ c / 12 ∧ c / 12 < y + z := by simp [inn]
/-- the layout of Green -/
def LGn (kd : Nat → Nat × Nat) (gl : Nat → Nat) (fr : Nat → Nat → Nat) (a : Nat) : Prop := kd a = (0, 0) ∧ kd (fr 0 a) = (9, 120) ∧ kd (fr 1 a) = (9, 120) ∧ kd (fr 2 a) = (9, 120) ∧ gl (fr 0 a) = 1 ∧ gl (fr 1 a) = 2 ∧ gl (fr 2 a) = 3
/-- a spot that lies on the green: x, y, wide, high -/
def SpN (kd : Nat → Nat × Nat) (fi : Nat → Nat → Int32) (b x y w z : Nat) : Prop := kd b = (0, 4) ∧ fi 256 b = nI x ∧ fi 257 b = nI y ∧ fi 258 b = nI w ∧ fi 259 b = nI z ∧ x + w ≤ 12 ∧ y + z ≤ 10
/-- the search's state: reached f, the row q of its first k -/
def BI (bar : Nat → Bool) (g : Nat) (f q : Nat → Int32) (k : Nat) : Prop := (∀ c, c < 120 → f c = 0 ∨ f c = 1) ∧ k = cnt (fun c => decide (f c = 1)) 120 ∧ (∀ c, c < 120 → f c = 1 → RS bar g c ∧ ∃ j, j < k ∧ q j = nI c) ∧ (∀ j, j < k → ∃ c, c < 120 ∧ q j = nI c ∧ f c = 1)
def BS (f q : Nat → Int32) (k : Nat) (f' q' : Nat → Int32) (k' : Nat) : Prop := k ≤ k' ∧ (∀ j, j < k → q' j = q j) ∧ (∀ c, c < 120 → f c = 1 → f' c = 1)
theorem BI.le {bar : Nat → Bool} {g : Nat} {f q : Nat → Int32} {k : Nat} (h : BI bar g f q k) : k ≤ 120 := by rw [h.2.1]; exact cnt_le _ _
theorem BI.room {bar : Nat → Bool} {g : Nat} {f q : Nat → Int32} {k c : Nat} (h : BI bar g f q k) (hc : c < 120) (h0 : f c = 0) : k < 120 := by
  rw [h.2.1]
  exact cnt_lt (c := c) (by rw [h0]; decide) 120 hc
theorem BI.add {bar : Nat → Bool} {g : Nat} {f q : Nat → Int32} {k c : Nat} (h : BI bar g f q k) (hc : c < 120) (h0 : f c = 0) (hr : RS bar g c) : BI bar g (upd f c 1) (upd q k (nI c)) (k + 1) ∧ BS f q k (upd f c 1) (upd q k (nI c)) (k + 1) := by
  obtain ⟨h1, h2, h3, h4⟩ := h
  have u1 : ∀ d, upd f c 1 d = if d = c then 1 else f d := fun d => rfl
  have u2 : ∀ j, upd q k (nI c) j = if j = k then nI c else q j := fun d => rfl
  refine ⟨⟨fun d hd => ?_, ?_, fun d hd e => ?_, fun j hj => ?_⟩, by omega, fun j hj => ?_, fun d hd e => ?_⟩
  · rw [u1]; split
    · exact Or.inr rfl
    · exact h1 d hd
  · have e := cnt_add (p := fun c => decide (f c = 1)) (c := c) (by rw [h0]; decide) 120
    rw [if_pos hc, ← h2] at e
    rw [← e]
    refine cnt_congr 120 (fun d hd => ?_)
    show _ = decide (upd f c 1 d = 1)
    rw [u1]
    by_cases e2 : d = c <;> simp [e2]
  · rw [u1] at e
    by_cases e2 : d = c
    · subst e2
      exact ⟨hr, k, by omega, by rw [u2, if_pos rfl]⟩
    · rw [if_neg e2] at e
      obtain ⟨g1, j, g2, g3⟩ := h3 d hd e
      exact ⟨g1, j, by omega, by rw [u2, if_neg (by omega)]; exact g3⟩
  · rw [u2]
    by_cases e2 : j = k
    · exact ⟨c, hc, by rw [if_pos e2], by rw [u1, if_pos rfl]⟩
    · obtain ⟨d, g1, g2, g3⟩ := h4 j (by omega)
      exact ⟨d, g1, by rw [if_neg e2]; exact g2, by rw [u1]; split; rfl; exact g3⟩
  · rw [u2, if_neg (by omega)]
  · rw [u1]; split
    · rfl
    · exact e
theorem BS.rf {f q : Nat → Int32} {k : Nat} : BS f q k f q k := ⟨Nat.le_refl _, fun _ _ => rfl, fun _ _ h => h⟩
theorem BS.tr {f q f1 q1 f2 q2 : Nat → Int32} {k k1 k2 : Nat} (h : BS f q k f1 q1 k1) (h' : BS f1 q1 k1 f2 q2 k2) : BS f q k f2 q2 k2 := ⟨Nat.le_trans h.1 h'.1, fun j hj => (h'.2.1 j (Nat.lt_of_lt_of_le hj h.1)).trans (h.2.1 j hj), fun c hc e => h'.2.2 c hc (h.2.2 c hc e)⟩
/-- f on the first i, behind that g -/
def mix {α : Type} (f g : Nat → α) (i : Nat) : Nat → α := fun c => if c < i then f c else g c
theorem mix_0 {α : Type} (f g : Nat → α) : mix f g 0 = g := funext fun c => if_neg (Nat.not_lt_zero c)
theorem mix_s (f g : Nat → Int32) (i : Nat) : upd (mix f g i) i (f i) = mix f g (i + 1) := by
  funext c
  unfold upd mix
  by_cases e : c = i
  · subst e; simp
  · have e1 : (c < i + 1) = (c < i) := by apply propext; omega
    simp [e, e1]
theorem mix_in {α : Type} {f g : Nat → α} {i c : Nat} (h : c < i) : mix f g i c = f c := if_pos h
theorem mix_out {α : Type} {f g : Nat → α} {i c : Nat} (h : i ≤ c) : mix f g i c = g c := if_neg (by omega)

theorem c_X0_hasCell {G : GT} {h : HP} {x y : Int32} : Con G 1 0 0 yX0_hasCell cX0_hasCell 2 (some .boolean) [.int x, .int y] h (PI (fun r h' => b2i (hasC x y) = r ∧ h = h')) := by
  refine Con.of (lv := [some (.int x), some (.int y)]) (by decide) (by simp only [lvE_r, lvE_i, lvE_l, lvE_s, lvE_0]; rfl) (by simp only [lgl_r, lgl_i, lgl_l, lgl_s, lgl_0]; decide) (fun Γ C R => ?_)
  refine r_iload_n (q := 1) (z := 0) C 0 rfl (by decide +kernel) rfl rfl ?_
  refine r_if_lt (q := 4) (off := 23) (tgt := 24) C rfl (by decide +kernel) (by decide) (fun c1 => ?_) (fun c1 => ?_)
  · refine r_iconst (q := 25) (z := 0) (v := 0) C rfl (by decide +kernel) (by decide) ?_
    exact r_zret C (by decide +kernel) rfl (by first | decide | exact b2i_nar _) (by decide) (by decide) ⟨_, rfl, ⟨by clear C R; simp_all [b2i, hasC, ← Int32.not_lt], rfl⟩⟩
  · refine r_iload_n (q := 5) (z := 0) C 0 rfl (by decide +kernel) rfl rfl ?_
    refine r_bipush (q := 7) (z := 12) (v := 12) C rfl (by decide +kernel) (by decide) ?_
    refine r_icmp_ge (q := 10) (off := 17) (tgt := 24) C rfl (by decide +kernel) (by decide) (fun c7 => ?_) (fun c7 => ?_)
    · refine r_iconst (q := 25) (z := 0) (v := 0) C rfl (by decide +kernel) (by decide) ?_
      exact r_zret C (by decide +kernel) rfl (by first | decide | exact b2i_nar _) (by decide) (by decide) ⟨_, rfl, ⟨by clear C R; simp_all [b2i, hasC, ← Int32.not_lt], rfl⟩⟩
    · refine r_iload_n (q := 11) (z := 1) C 1 rfl (by decide +kernel) rfl rfl ?_
      refine r_if_lt (q := 14) (off := 13) (tgt := 24) C rfl (by decide +kernel) (by decide) (fun c11 => ?_) (fun c11 => ?_)
      · refine r_iconst (q := 25) (z := 0) (v := 0) C rfl (by decide +kernel) (by decide) ?_
        exact r_zret C (by decide +kernel) rfl (by first | decide | exact b2i_nar _) (by decide) (by decide) ⟨_, rfl, ⟨by clear C R; simp_all [b2i, hasC, ← Int32.not_lt], rfl⟩⟩
      · refine r_iload_n (q := 15) (z := 1) C 1 rfl (by decide +kernel) rfl rfl ?_
        refine r_bipush (q := 17) (z := 10) (v := 10) C rfl (by decide +kernel) (by decide) ?_
        refine r_icmp_ge (q := 20) (off := 7) (tgt := 24) C rfl (by decide +kernel) (by decide) (fun c17 => ?_) (fun c17 => ?_)
        · refine r_iconst (q := 25) (z := 0) (v := 0) C rfl (by decide +kernel) (by decide) ?_
          exact r_zret C (by decide +kernel) rfl (by first | decide | exact b2i_nar _) (by decide) (by decide) ⟨_, rfl, ⟨by clear C R; simp_all [b2i, hasC, ← Int32.not_lt], rfl⟩⟩
        · refine r_iconst (q := 21) (z := 1) (v := 1) C rfl (by decide +kernel) (by decide) ?_
          refine r_goto (off := 4) (tgt := 25) C (by decide +kernel) (by decide) ?_
          exact r_zret C (by decide +kernel) rfl (by first | decide | exact b2i_nar _) (by decide) (by decide) ⟨_, rfl, ⟨by clear C R; simp_all [b2i, hasC, ← Int32.not_lt], rfl⟩⟩
theorem c_X0_at {G : GT} {h : HP} {a : Nat} {x y : Int32} (g1 : h.kd a = (0, 0)) (g2 : h.kd (h.fr 0 a) = (9, 120)) : Con G 2 0 0 yX0_at cX0_at 3 (some .int) [rv a, .int x, .int y] h (PI (fun r h' => (if hasC x y then h.ai (h.fr 0 a) (12 * y + x).toNatClampNeg else -3) = r ∧ h = h')) := by
  refine Con.of (lv := [some (rv a), some (.int x), some (.int y)]) (by decide) (by simp only [lvE_r, lvE_i, lvE_l, lvE_s, lvE_0]; rfl) (by simp only [lgl_r, lgl_i, lgl_l, lgl_s, lgl_0]; decide) (fun Γ C R => ?_)
  refine r_iload_n (q := 1) (z := 1) C 1 rfl (by decide +kernel) rfl rfl ?_
  refine r_iload_n (q := 2) (z := 2) C 2 rfl (by decide +kernel) rfl rfl ?_
  refine cS2I (q := 5) C R rfl (by decide +kernel) lk_X0_34 (c_X0_hasCell ) (by decide) (by decide) (by decide) rfl (by first | exact Nat.le_of_ble_eq_true rfl | (simp only [List.map_cons, List.map_nil, List.sum_cons, List.sum_nil, rv_cat]; exact Nat.le_of_ble_eq_true rfl))  ?_
  rintro _ _ ⟨rfl, rfl⟩
  refine r_if_eq (q := 8) (off := 17) (tgt := 22) C rfl (by decide +kernel) (by decide) (fun c5 => ?_) (fun c5 => ?_)
  · refine r_bipush (q := 24) (z := (-3)) (v := (-3)) C rfl (by decide +kernel) (by decide) ?_
    exact r_iret C (by decide +kernel) rfl (by decide) (by decide) ⟨_, rfl, ⟨by clear C R; simp_all [b2i_0, b2i_n0], rfl⟩⟩
  · refine r_aload_n (q := 9) (z := 0) C 0 rfl (by decide +kernel) rfl rfl ?_
    refine r_getR (q := 12) C 0 0 0 rfl (by decide +kernel) rfl (by decide) rfl rfl wf_X0_9 win0 (by assumption) ?_
    refine r_bipush (q := 14) (z := 12) (v := 12) C rfl (by decide +kernel) (by decide) ?_
    refine r_iload_n (q := 15) (z := 2) C 2 rfl (by decide +kernel) rfl rfl ?_
    refine r_imul (q := 16) C rfl (by decide +kernel) ?_
    refine r_iload_n (q := 17) (z := 1) C 1 rfl (by decide +kernel) rfl rfl ?_
    refine r_iadd (q := 18) C rfl (by decide +kernel) ?_
    refine r_iald (q := 19) C rfl (by decide +kernel) (by assumption) (cIn ((b2i_n0 _).mp c5)) ?_
    refine r_goto (off := 5) (tgt := 24) C (by decide +kernel) (by decide) ?_
    exact r_iret C (by decide +kernel) rfl (by decide) (by decide) ⟨_, rfl, ⟨by clear C R; simp_all [b2i_0, b2i_n0], rfl⟩⟩
theorem c_X0_put {G : GT} {h : HP} {a : Nat} {x y v : Int32} (g1 : h.kd a = (0, 0)) (g2 : h.kd (h.fr 0 a) = (9, 120)) : Con G 2 0 0 yX0_put cX0_put 4 none [rv a, .int x, .int y, .int v] h (PV (fun h' => (if hasC x y then h.stI (h.fr 0 a) (12 * y + x).toNatClampNeg v else h) = h')) := by
  refine Con.of (lv := [some (rv a), some (.int x), some (.int y), some (.int v)]) (by decide) (by simp only [lvE_r, lvE_i, lvE_l, lvE_s, lvE_0]; rfl) (by simp only [lgl_r, lgl_i, lgl_l, lgl_s, lgl_0]; decide) (fun Γ C R => ?_)
  refine r_iload_n (q := 1) (z := 1) C 1 rfl (by decide +kernel) rfl rfl ?_
  refine r_iload_n (q := 2) (z := 2) C 2 rfl (by decide +kernel) rfl rfl ?_
  refine cS2I (q := 5) C R rfl (by decide +kernel) lk_X0_34 (c_X0_hasCell ) (by decide) (by decide) (by decide) rfl (by first | exact Nat.le_of_ble_eq_true rfl | (simp only [List.map_cons, List.map_nil, List.sum_cons, List.sum_nil, rv_cat]; exact Nat.le_of_ble_eq_true rfl))  ?_
  rintro _ _ ⟨rfl, rfl⟩
  refine r_if_eq (q := 8) (off := 15) (tgt := 20) C rfl (by decide +kernel) (by decide) (fun c5 => ?_) (fun c5 => ?_)
  · exact r_ret C (by decide +kernel) rfl (by decide) (by decide) ⟨rfl, (by clear C R; simp_all [b2i_0, b2i_n0])⟩
  · refine r_aload_n (q := 9) (z := 0) C 0 rfl (by decide +kernel) rfl rfl ?_
    refine r_getR (q := 12) C 0 0 0 rfl (by decide +kernel) rfl (by decide) rfl rfl wf_X0_9 win0 (by assumption) ?_
    refine r_bipush (q := 14) (z := 12) (v := 12) C rfl (by decide +kernel) (by decide) ?_
    refine r_iload_n (q := 15) (z := 2) C 2 rfl (by decide +kernel) rfl rfl ?_
    refine r_imul (q := 16) C rfl (by decide +kernel) ?_
    refine r_iload_n (q := 17) (z := 1) C 1 rfl (by decide +kernel) rfl rfl ?_
    refine r_iadd (q := 18) C rfl (by decide +kernel) ?_
    refine r_iload_n (q := 19) (z := 3) C 3 rfl (by decide +kernel) rfl rfl ?_
    refine r_iast (q := 20) C rfl (by decide +kernel) rfl (by assumption) (cIn ((b2i_n0 _).mp c5)) ?_
    exact r_ret C (by decide +kernel) rfl (by decide) (by decide) ⟨rfl, (by clear C R; simp_all [b2i_0, b2i_n0])⟩
theorem c_X0_isGate {G : GT} {h : HP} {a : Nat} {x y : Int32} (g1 : h.kd a = (0, 0)) : Con G 1 0 0 yX0_isGate cX0_isGate 3 (some .boolean) [rv a, .int x, .int y] h (PI (fun r h' => b2i (decide (x = 0 ∧ y = h.fi 4 a)) = r ∧ h = h')) := by
  refine Con.of (lv := [some (rv a), some (.int x), some (.int y)]) (by decide) (by simp only [lvE_r, lvE_i, lvE_l, lvE_s, lvE_0]; rfl) (by simp only [lgl_r, lgl_i, lgl_l, lgl_s, lgl_0]; decide) (fun Γ C R => ?_)
  refine r_iload_n (q := 1) (z := 1) C 1 rfl (by decide +kernel) rfl rfl ?_
  refine r_if_ne (q := 4) (off := 15) (tgt := 16) C rfl (by decide +kernel) (by decide) (fun c1 => ?_) (fun c1 => ?_)
  · refine r_iconst (q := 17) (z := 0) (v := 0) C rfl (by decide +kernel) (by decide) ?_
    exact r_zret C (by decide +kernel) rfl (by first | decide | exact b2i_nar _) (by decide) (by decide) ⟨_, rfl, ⟨by clear C R; simp_all [b2i], rfl⟩⟩
  · refine r_iload_n (q := 5) (z := 2) C 2 rfl (by decide +kernel) rfl rfl ?_
    refine r_aload_n (q := 6) (z := 0) C 0 rfl (by decide +kernel) rfl rfl ?_
    refine r_getI (q := 9) C 0 4 4 rfl (by decide +kernel) rfl (by decide) rfl rfl wf_X0_25 win0 (by assumption) ?_
    refine r_icmp_ne (q := 12) (off := 7) (tgt := 16) C rfl (by decide +kernel) (by decide) (fun c9 => ?_) (fun c9 => ?_)
    · refine r_iconst (q := 17) (z := 0) (v := 0) C rfl (by decide +kernel) (by decide) ?_
      exact r_zret C (by decide +kernel) rfl (by first | decide | exact b2i_nar _) (by decide) (by decide) ⟨_, rfl, ⟨by clear C R; simp_all [b2i], rfl⟩⟩
    · refine r_iconst (q := 13) (z := 1) (v := 1) C rfl (by decide +kernel) (by decide) ?_
      refine r_goto (off := 4) (tgt := 17) C (by decide +kernel) (by decide) ?_
      exact r_zret C (by decide +kernel) rfl (by first | decide | exact b2i_nar _) (by decide) (by decide) ⟨_, rfl, ⟨by clear C R; simp_all [b2i], rfl⟩⟩
theorem c_X0_isReached {G : GT} {h : HP} {a : Nat} {x y : Int32} (g1 : h.kd a = (0, 0)) (g3 : h.kd (h.fr 1 a) = (9, 120)) : Con G 2 0 0 yX0_isReached cX0_isReached 3 (some .boolean) [rv a, .int x, .int y] h (PI (fun r h' => b2i (hasC x y && decide (h.ai (h.fr 1 a) (12 * y + x).toNatClampNeg = 1)) = r ∧ h = h')) := by
  refine Con.of (lv := [some (rv a), some (.int x), some (.int y)]) (by decide) (by simp only [lvE_r, lvE_i, lvE_l, lvE_s, lvE_0]; rfl) (by simp only [lgl_r, lgl_i, lgl_l, lgl_s, lgl_0]; decide) (fun Γ C R => ?_)
  refine r_iload_n (q := 1) (z := 1) C 1 rfl (by decide +kernel) rfl rfl ?_
  refine r_iload_n (q := 2) (z := 2) C 2 rfl (by decide +kernel) rfl rfl ?_
  refine cS2I (q := 5) C R rfl (by decide +kernel) lk_X0_34 (c_X0_hasCell ) (by decide) (by decide) (by decide) rfl (by first | exact Nat.le_of_ble_eq_true rfl | (simp only [List.map_cons, List.map_nil, List.sum_cons, List.sum_nil, rv_cat]; exact Nat.le_of_ble_eq_true rfl))  ?_
  rintro _ _ ⟨rfl, rfl⟩
  refine r_if_eq (q := 8) (off := 22) (tgt := 27) C rfl (by decide +kernel) (by decide) (fun c5 => ?_) (fun c5 => ?_)
  · refine r_iconst (q := 28) (z := 0) (v := 0) C rfl (by decide +kernel) (by decide) ?_
    exact r_zret C (by decide +kernel) rfl (by first | decide | exact b2i_nar _) (by decide) (by decide) ⟨_, rfl, ⟨by clear C R; simp_all [b2i_0, b2i_n0, b2i], rfl⟩⟩
  · refine r_aload_n (q := 9) (z := 0) C 0 rfl (by decide +kernel) rfl rfl ?_
    refine r_getR (q := 12) C 0 1 1 rfl (by decide +kernel) rfl (by decide) rfl rfl wf_X0_15 win0 (by assumption) ?_
    refine r_bipush (q := 14) (z := 12) (v := 12) C rfl (by decide +kernel) (by decide) ?_
    refine r_iload_n (q := 15) (z := 2) C 2 rfl (by decide +kernel) rfl rfl ?_
    refine r_imul (q := 16) C rfl (by decide +kernel) ?_
    refine r_iload_n (q := 17) (z := 1) C 1 rfl (by decide +kernel) rfl rfl ?_
    refine r_iadd (q := 18) C rfl (by decide +kernel) ?_
    refine r_iald (q := 19) C rfl (by decide +kernel) (by assumption) (cIn ((b2i_n0 _).mp c5)) ?_
    refine r_iconst (q := 20) (z := 1) (v := 1) C rfl (by decide +kernel) (by decide) ?_
    refine r_icmp_ne (q := 23) (off := 7) (tgt := 27) C rfl (by decide +kernel) (by decide) (fun c20 => ?_) (fun c20 => ?_)
    · refine r_iconst (q := 28) (z := 0) (v := 0) C rfl (by decide +kernel) (by decide) ?_
      exact r_zret C (by decide +kernel) rfl (by first | decide | exact b2i_nar _) (by decide) (by decide) ⟨_, rfl, ⟨by clear C R; simp_all [b2i_0, b2i_n0, b2i], rfl⟩⟩
    · refine r_iconst (q := 24) (z := 1) (v := 1) C rfl (by decide +kernel) (by decide) ?_
      refine r_goto (off := 4) (tgt := 28) C (by decide +kernel) (by decide) ?_
      exact r_zret C (by decide +kernel) rfl (by first | decide | exact b2i_nar _) (by decide) (by decide) ⟨_, rfl, ⟨by clear C R; simp_all [b2i_0, b2i_n0, b2i], rfl⟩⟩
theorem c_J7_fill_53178 {G : GT} {h : HP} {a z : Nat} {v : Int32} (hk : h.kd a = (9, z)) (hz : z < 1000) : Con G 1 0 0 yJ7_fill_53178 cJ7_fill_53178 4 none [rv a, .int v] h (PV (fun h' => h.row a (mix (fun _ => v) (h.ai a) z) = h')) := by
  refine Con.of (lv := [some (rv a), some (.int v), none, none]) (by decide) (by simp only [lvE_r, lvE_i, lvE_l, lvE_s, lvE_0]; rfl) (by simp only [lgl_r, lgl_i, lgl_l, lgl_s, lgl_0]; decide) (fun Γ C R => ?_)
  refine r_iconst (q := 1) (z := 0) (v := 0) C rfl (by decide +kernel) (by decide) ?_
  refine r_istore_n (q := 2) (z := 2) C 2 rfl (by decide +kernel) rfl (by decide) (by first | rfl | exact okst_rv rfl) ?_
  dsimp only [List.set]
  refine r_aload_n (q := 3) (z := 0) C 0 rfl (by decide +kernel) rfl rfl ?_
  refine r_alen (q := 4) C rfl (by decide +kernel) (by exact hk) (by first | exact Or.inl rfl | exact Or.inr rfl) ?_
  refine r_istore_n (q := 5) (z := 3) C 3 rfl (by decide +kernel) rfl (by decide) (by first | rfl | exact okst_rv rfl) ?_
  dsimp only [List.set]
  have L5 : ∀ (fuel5 : Nat) (i : Nat), z - i < fuel5 → (i ≤ z) → wX G Γ (qM G Γ (PV (fun h' => h.row a (mix (fun _ => v) (h.ai a) z) = h')) 0 0) 0 0 (h.row a (mix (fun _ => v) (h.ai a) i)) 5 [some (rv a), some (.int v), some (.int (nI i)), some (.int (nI z))] [] := by
    intro fuel5
    induction fuel5 with
    | zero =>
      intro i hm5
      exact absurd hm5 (Nat.not_lt_zero _)
    | succ fuel5 ih5 =>
      intro i hm5 hi
      refine r_iload_n (q := 6) (z := 2) C 2 rfl (by decide +kernel) rfl rfl ?_
      refine r_iload_n (q := 7) (z := 3) C 3 rfl (by decide +kernel) rfl rfl ?_
      refine r_icmp_ge (q := 10) (off := 13) (tgt := 20) C rfl (by decide +kernel) (by decide) (fun c7 => ?_) (fun c7 => ?_)
      · have ez : i = z := by have := (nI_leI (by omega) (by omega)).mp c7; omega
        subst ez
        exact r_ret C (by decide +kernel) rfl (by decide) (by decide) ⟨rfl, rfl⟩
      · have hlt : i < z := Nat.lt_of_not_le (fun e => c7 (nI_le e (by omega)))
        refine r_aload_n (q := 11) (z := 0) C 0 rfl (by decide +kernel) rfl rfl ?_
        refine r_iload_n (q := 12) (z := 2) C 2 rfl (by decide +kernel) rfl rfl ?_
        refine r_iload_n (q := 13) (z := 1) C 1 rfl (by decide +kernel) rfl rfl ?_
        refine r_iast (q := 14) C rfl (by decide +kernel) rfl (by exact hk) (vp_in_nI hlt (by omega)) ?_
        rw [row_stI, nI_clamp (by omega), mix_s (fun _ => v)]
        refine r_iinc (q := 17) (z := 1) (v := 1) C 2 rfl (by decide +kernel) rfl (by decide) (by decide) (by first | rfl | exact okst_rv rfl) ?_
        dsimp only [List.set]
        rw [nI_1]
        refine r_goto (off := -12) (tgt := 5) C (by decide +kernel) (by decide) ?_
        exact ih5 (i + 1) (by omega) (by omega)
  have z0 := L5 (z + 1) 0 (by omega) (by omega)
  rw [mix_0, row_self] at z0
  exact z0
