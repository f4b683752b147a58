theorem fa_or (a b : Nat) : nI a ||| nI b = nI (a ||| b) := by
  apply Int32.toBitVec_inj.1
  show BitVec.ofNat 32 a ||| BitVec.ofNat 32 b = BitVec.ofNat 32 (a ||| b)
  apply BitVec.eq_of_getLsbD_eq
  intro i hi
  simp [hi]
/-- a remainder by a power of two, as a mask -/
theorem shl1 : ∀ q : Nat, q < 10 → (1 : Int32) <<< (nI q &&& 31) = nI (2 ^ q) := by decide
theorem sh31 : ∀ q : Nat, q < 10 → ((nI q &&& 31).toBitVec.smod 32).toNat = q := by decide
theorem shrb {s q : Nat} (hs : s < 2 ^ 31) (hq : q < 10) : nI s >>> (nI q &&& 31) = nI (s / 2 ^ q) := pk_shrN hs _ q (sh31 q hq)
theorem and1 {n : Nat} (h : n < 2 ^ 32) : nI n &&& 1 = nI (n % 2) := pk_andN h 1 (by decide)
/-- the set of those below n that p holds of -/
def mset (p : Nat → Bool) : Nat → Nat
  | 0 => 0
  | n + 1 => if p n then mset p n ||| 2 ^ n else mset p n
theorem mset_lt (p : Nat → Bool) : ∀ n, mset p n < 2 ^ n
  | 0 => by show (0 : Nat) < 1; decide
  | n + 1 => by
    have h := mset_lt p n
    have h2 : 2 ^ n < 2 ^ (n + 1) := Nat.pow_lt_pow_right (by decide) (by omega)
    simp only [mset]; split
    · exact Nat.or_lt_two_pow (by omega) h2
    · omega
theorem mset_10 (p : Nat → Bool) {n : Nat} (hn : n ≤ 10) : mset p n < 1024 := by
  have h := mset_lt p n
  have : 2 ^ n ≤ 2 ^ 10 := Nat.pow_le_pow_right (by decide) hn
  omega
theorem mset_congr {p q : Nat → Bool} : ∀ n, (∀ k, k < n → p k = q k) → mset p n = mset q n
  | 0, _ => rfl
  | n + 1, h => by simp only [mset]; rw [mset_congr n (fun k hk => h k (by omega)), h n (by omega)]
def popk (s : Nat) : Nat → Nat
  | 0 => 0
  | k + 1 => popk s k + s / 2 ^ k % 2
def pop (s : Nat) : Nat := popk s 10
theorem popk_le (s : Nat) : ∀ k, popk s k ≤ k
  | 0 => Nat.le_refl _
  | k + 1 => by have := popk_le s k; simp only [popk]; omega
def dcl (x y w z : Nat) : Nat := 12 * (y + z) + x + (w - 1) / 2
/-- r could grow to the cells at x, y, w wide, z high -/
def SG.gok (σ : SG) (r x y w z : Nat) : Bool := decide (x + w ≤ 12 ∧ y + z < 10) && ((!inn x y w z (12 * σ.gr) && !σ.cl (dcl x y w z)) && !anyb (fun c => inn x y w z c && σ.cl c) 120) && anyb (fun c => inn x y w z c && σ.cv r c) 120
def SG.mv0 (σ : SG) (r x y w z q : Nat) : Bool := decide (q ≠ r) && (decide (σ.li q < 240) && (inn x y w z (σ.dr q) || σ.cv q (dcl x y w z)))
def SG.mvq (σ : SG) (r x y w z q : Nat) : Bool := σ.mv0 r x y w z q || (decide (q ≠ r) && anyb (fun c => inn x y w z c && σ.cv q c) 120)
/-- the first place with the fewest to move, among the first k: (place or 240, set) -/
def chg (σ : SG) (r w z : Nat) : Nat → Nat × Nat
  | 0 => (240, 0)
  | p + 1 => if σ.gok r (px p) (py p) (wAt w z p) (wAt z w p) && (decide (¬ (chg σ r w z p).1 < 240) || decide (pop (mset (σ.mvq r (px p) (py p) (wAt w z p) (wAt z w p)) σ.n) < pop (chg σ r w z p).2)) then (p, mset (σ.mvq r (px p) (py p) (wAt w z p) (wAt z w p)) σ.n) else chg σ r w z p
theorem chg_2 {σ : SG} (hn : σ.n ≤ 10) {r w z : Nat} : ∀ k, (chg σ r w z k).2 < 1024
  | 0 => by show (0 : Nat) < 1024; decide
  | p + 1 => by
    simp only [chg]; split
    · exact mset_10 _ hn
    · exact chg_2 hn p
def pm2 (x : Nat) : Int32 := if x < 240 then nI x else -2
theorem pm2_neg {x : Nat} : pm2 x < 0 ↔ ¬ x < 240 := by
  unfold pm2; split
  · rename_i h; exact ⟨fun e => absurd e (nI_pos (by omega)), fun e => absurd h e⟩
  · rename_i h; exact ⟨fun _ => h, fun _ => by decide⟩
def chP (σ : SG) (x w z k : Int32) : Prop := ((0 ≤ x ∧ x < nI σ.n) ∧ σ.li x.toNatClampNeg < 240) ∧ (1 ≤ w ∧ w ≤ 4) ∧ (1 ≤ z ∧ z ≤ 4) ∧ 0 ≤ k ∧ k ≤ 1
def chV (σ : SG) (r w z : Nat) (k : Int32) : Int32 := if (chg σ r w z 240).1 < 240 then (if k = 0 then nI (chg σ r w z 240).2 else nI (chg σ r w z 240).1) else -2
theorem wAt_r {w z p : Nat} (h1 : 1 ≤ w ∧ w ≤ 4) (h2 : 1 ≤ z ∧ z ≤ 4) : 1 ≤ wAt w z p ∧ wAt w z p ≤ 4 := by unfold wAt; split <;> assumption


theorem c_X7_bits {G : GT} {h : HP} {s : Nat} (hs : s < 1024) : Con G 1 0 0 yX7_bits cX7_bits 3 (some .int) [.int (nI s)] h (PI (fun v h' => nI (pop s) = v ∧ h = h')) := by
  refine Con.of (lv := [some (.int (nI s)), none, none]) (by decide) (by simp only [lvE_r, lvE_i, lvE_l, lvE_s, lvE_0]; rfl) (by simp only [lgl_r, lgl_i, lgl_l, lgl_s, lgl_0]; decide) (fun Γ C R => ?_)
  generalize hPP : (PI (fun v h' => nI (pop s) = v ∧ h = h')) = PP
  refine r_iconst (q := 1) (z := 0) (v := 0) C rfl (by decide +kernel) (by decide) ?_
  refine r_istore_n (q := 2) (z := 1) C 1 rfl (by decide +kernel) rfl (by decide) (by first | rfl | exact okst_rv rfl) ?_
  dsimp only [List.set]
  refine r_iconst (q := 3) (z := 0) (v := 0) C rfl (by decide +kernel) (by decide) ?_
  refine r_istore_n (q := 4) (z := 2) C 2 rfl (by decide +kernel) rfl (by decide) (by first | rfl | exact okst_rv rfl) ?_
  dsimp only [List.set]
  have L4 : ∀ (fuel4 : Nat) (k : Nat), 10 - k < fuel4 → (k ≤ 10) → wX G Γ (qM G Γ PP 0 0) 0 0 (h) 4 [some (.int (nI s)), some (.int (nI (popk s k))), some (.int (nI k))] [] := by
    intro fuel4
    induction fuel4 with
    | zero =>
      intro k hm4
      exact absurd hm4 (Nat.not_lt_zero _)
    | succ fuel4 ih4 =>
      intro k hm4 hk
      refine r_iload_n (q := 5) (z := 2) C 2 rfl (by decide +kernel) rfl rfl ?_
      refine r_bipush (q := 7) (z := 10) (v := 10) C rfl (by decide +kernel) (by decide) ?_
      refine r_icmp_ge (q := 10) (off := 17) (tgt := 24) C rfl (by decide +kernel) (by decide) (fun c7 => ?_) (fun c7 => ?_)
      · have ek : k = 10 := by have := (nI_leI (a := 10) (by omega) (by omega)).mp c7; omega
        subst ek
        refine r_iload_n (q := 25) (z := 1) C 1 rfl (by decide +kernel) rfl rfl ?_
        exact r_iret C (by decide +kernel) rfl (by decide) (by decide) (eqP hPP ⟨_, rfl, ⟨rfl, rfl⟩⟩)
      · have hlt : k < 10 := Nat.lt_of_not_le (fun e => c7 (nI_le (a := 10) e (by omega)))
        refine r_iload_n (q := 11) (z := 1) C 1 rfl (by decide +kernel) rfl rfl ?_
        refine r_iload_n (q := 12) (z := 0) C 0 rfl (by decide +kernel) rfl rfl ?_
        refine r_iload_n (q := 13) (z := 2) C 2 rfl (by decide +kernel) rfl rfl ?_
        refine r_ishr (q := 14) C rfl (by decide +kernel) ?_
        rw [shrb (by omega) hlt]
        refine r_iconst (q := 15) (z := 1) (v := 1) C rfl (by decide +kernel) (by decide) ?_
        refine r_iand (q := 16) C rfl (by decide +kernel) ?_
        rw [and1 (by have : s / 2 ^ k ≤ s := Nat.div_le_self _ _; omega)]
        refine r_iadd (q := 17) C rfl (by decide +kernel) ?_
        rw [nI_add]
        refine r_istore_n (q := 18) (z := 1) C 1 rfl (by decide +kernel) rfl (by decide) (by first | rfl | exact okst_rv rfl) ?_
        dsimp only [List.set]
        refine r_iinc (q := 21) (z := 1) (v := 1) C 2 rfl (by decide +kernel) rfl (by decide) (by decide) (by first | rfl | exact okst_rv rfl) ?_
        dsimp only [List.set]
        rw [nI_1]
        refine r_goto (off := -17) (tgt := 4) C (by decide +kernel) (by decide) ?_
        exact ih4 (k + 1) (by omega) (by omega)
  exact L4 11 0 (by omega) (by omega)
theorem c_X7_movesFor {G : GT} {h : HP} {m : Nat} {σ : SG} {r x y w z : Nat} (hm : LM h.kd h.gl h.fr m) (M : MR σ h m) (W : WF σ) (hr : r < σ.n) (hx : x < 12) (hy : y < 10) (hw : 1 ≤ w ∧ w ≤ 4) (hz : 1 ≤ z ∧ z ≤ 4) : Con G 4 0 0 yX7_movesFor cX7_movesFor 13 (some .int) [rv m, .int (nI r), .int (nI x), .int (nI y), .int (nI w), .int (nI z)] h (PI (fun v h' => (if σ.gok r x y w z then nI (mset (σ.mvq r x y w z) σ.n) else -2) = v ∧ h = h')) := by
  refine Con.of (lv := [some (rv m), some (.int (nI r)), some (.int (nI x)), some (.int (nI y)), some (.int (nI w)), some (.int (nI z)), none, none, none, none, none, none, none]) (by decide) (by simp only [lvE_r, lvE_i, lvE_l, lvE_s, lvE_0]; rfl) (by simp only [lgl_r, lgl_i, lgl_l, lgl_s, lgl_0]; decide) (fun Γ C R => ?_)
  generalize hPP : (PI (fun v h' => (if σ.gok r x y w z then nI (mset (σ.mvq r x y w z) σ.n) else -2) = v ∧ h = h')) = PP
  have r10 := W.n10
  have g10 := W.gr10
  have L182 : ∀ (fuel182 : Nat) (q : Nat), σ.n - q < fuel182 → (q ≤ σ.n) → (σ.gok r x y w z = true) → (x + w ≤ 12) → (y + z < 10) → wX G Γ (qM G Γ PP 0 0) 0 0 (h) 182 [some (rv m), some (.int (nI r)), some (.int (nI x)), some (.int (nI y)), some (.int (nI w)), some (.int (nI z)), some (.int (nI (dcl x y w z))), none, none, some (.int (nI (mset (σ.mvq r x y w z) q))), some (.int (nI q)), none, none] [] := by
    intro fuel182
    induction fuel182 with
    | zero =>
      intro q hm182
      exact absurd hm182 (Nat.not_lt_zero _)
    | succ fuel182 ih182 =>
      intro q hm182 hq0 hok hg1 hg2
      refine r_iload (q := 184) C 10 rfl (by decide +kernel) rfl ?_
      refine r_aload_n (q := 185) (z := 0) C 0 rfl (by decide +kernel) rfl rfl ?_
      refine r_getI (q := 188) C 7 24 472 rfl (by decide +kernel) rfl (by decide) rfl rfl wf_X7_243 win7 hm.1 ?_
      rw [M.fn]
      refine r_icmp_ge (q := 191) (off := 138) (tgt := 326) C rfl (by decide +kernel) (by decide) (fun c188 => ?_) (fun c188 => ?_)
      · have eq0 : q = σ.n := by have := (nI_leI (by omega) (by omega)).mp c188; omega
        subst eq0
        refine r_iload (q := 328) C 9 rfl (by decide +kernel) rfl ?_
        exact r_iret C (by decide +kernel) rfl (by decide) (by decide) (eqP hPP ⟨_, rfl, ⟨by rw [if_pos hok], rfl⟩⟩)
      · have hlq : q < σ.n := Nat.lt_of_not_le (fun e => c188 (nI_le e (by omega)))
        have hdc : dcl x y w z < 120 := by unfold dcl; omega
        have J241 : ∀ (v : Int32), (v = b2i (σ.mv0 r x y w z q || (decide (q ≠ r) && anyb (fun c => inn x y w z c && σ.cv q c) 0))) → wX G Γ (qM G Γ PP 0 0) 0 0 (h) 241 [some (rv m), some (.int (nI r)), some (.int (nI x)), some (.int (nI y)), some (.int (nI w)), some (.int (nI z)), some (.int (nI (dcl x y w z))), none, none, some (.int (nI (mset (σ.mvq r x y w z) q))), some (.int (nI q)), none, none] [.int v] := by
          intro v hv
          subst hv
          refine r_istore (q := 243) C 11 rfl (by decide +kernel) (by decide) (by first | rfl | exact okst_rv rfl) ?_
          dsimp only [List.set]
          refine r_iconst (q := 244) (z := 0) (v := 0) C rfl (by decide +kernel) (by decide) ?_
          refine r_istore (q := 246) C 12 rfl (by decide +kernel) (by decide) (by first | rfl | exact okst_rv rfl) ?_
          dsimp only [List.set]
          have L246 : ∀ (fuel246 : Nat) (i : Nat), 120 - i < fuel246 → (i ≤ 120) → wX G Γ (qM G Γ PP 0 0) 0 0 (h) 246 [some (rv m), some (.int (nI r)), some (.int (nI x)), some (.int (nI y)), some (.int (nI w)), some (.int (nI z)), some (.int (nI (dcl x y w z))), none, none, some (.int (nI (mset (σ.mvq r x y w z) q))), some (.int (nI q)), some (.int (b2i (σ.mv0 r x y w z q || (decide (q ≠ r) && anyb (fun c => inn x y w z c && σ.cv q c) i)))), some (.int (nI i))] [] := by
            intro fuel246
            induction fuel246 with
            | zero =>
              intro i hm246
              exact absurd hm246 (Nat.not_lt_zero _)
            | succ fuel246 ih246 =>
              intro i hm246 hi
              refine r_iload (q := 248) C 12 rfl (by decide +kernel) rfl ?_
              refine r_bipush (q := 250) (z := 120) (v := 120) C rfl (by decide +kernel) (by decide) ?_
              refine r_icmp_ge (q := 253) (off := 52) (tgt := 302) C rfl (by decide +kernel) (by decide) (fun c250 => ?_) (fun c250 => ?_)
              · have ez : i = 120 := by have := (nI_leI (a := 120) (by omega) (by omega)).mp c250; omega
                subst ez
                refine r_iload (q := 304) C 9 rfl (by decide +kernel) rfl ?_
                refine r_iload (q := 306) C 11 rfl (by decide +kernel) rfl ?_
                refine r_if_eq (q := 309) (off := 10) (tgt := 316) C rfl (by decide +kernel) (by decide) (fun c306 => ?_) (fun c306 => ?_)
                · have e317 : nI (mset (σ.mvq r x y w z) q) ||| 0 = nI (mset (σ.mvq r x y w z) (q + 1)) := by
                    rw [mset, if_neg (by unfold SG.mvq; rw [(b2i_0 _).mp c306]; decide)]
                    exact (fa_or _ 0).trans (by rw [Nat.or_zero])
                  refine r_iconst (q := 317) (z := 0) (v := 0) C rfl (by decide +kernel) (by decide) ?_
                  refine r_ior (q := 318) C rfl (by decide +kernel) ?_
                  rw [e317]
                  refine r_istore (q := 320) C 9 rfl (by decide +kernel) (by decide) (by first | rfl | exact okst_rv rfl) ?_
                  dsimp only [List.set]
                  refine r_iinc (q := 323) (z := 1) (v := 1) C 10 rfl (by decide +kernel) rfl (by decide) (by decide) (by first | rfl | exact okst_rv rfl) ?_
                  dsimp only [List.set]
                  rw [nI_1]
                  refine r_goto (off := -141) (tgt := 182) C (by decide +kernel) (by decide) ?_
                  exact wX.sub (lsub_s (lsub_s (lsub_s (lsub_s (lsub_s (lsub_s (lsub_s (lsub_n (lsub_n (lsub_s (lsub_s (lsub_n (lsub_n (lsub_nil)))))))))))))) (ih182 (q + 1) (by omega) (by omega) hok hg1 hg2)
                · have e317 : nI (mset (σ.mvq r x y w z) q) ||| nI (2 ^ q) = nI (mset (σ.mvq r x y w z) (q + 1)) := by
                    rw [mset, if_pos (by unfold SG.mvq; exact (b2i_n0 _).mp c306)]
                    exact fa_or _ _
                  refine r_iconst (q := 310) (z := 1) (v := 1) C rfl (by decide +kernel) (by decide) ?_
                  refine r_iload (q := 312) C 10 rfl (by decide +kernel) rfl ?_
                  refine r_ishl (q := 313) C rfl (by decide +kernel) ?_
                  rw [shl1 q (by omega)]
                  refine r_goto (off := 4) (tgt := 317) C (by decide +kernel) (by decide) ?_
                  refine r_ior (q := 318) C rfl (by decide +kernel) ?_
                  rw [e317]
                  refine r_istore (q := 320) C 9 rfl (by decide +kernel) (by decide) (by first | rfl | exact okst_rv rfl) ?_
                  dsimp only [List.set]
                  refine r_iinc (q := 323) (z := 1) (v := 1) C 10 rfl (by decide +kernel) rfl (by decide) (by decide) (by first | rfl | exact okst_rv rfl) ?_
                  dsimp only [List.set]
                  rw [nI_1]
                  refine r_goto (off := -141) (tgt := 182) C (by decide +kernel) (by decide) ?_
                  exact wX.sub (lsub_s (lsub_s (lsub_s (lsub_s (lsub_s (lsub_s (lsub_s (lsub_n (lsub_n (lsub_s (lsub_s (lsub_n (lsub_n (lsub_nil)))))))))))))) (ih182 (q + 1) (by omega) (by omega) hok hg1 hg2)
              · have hlt : i < 120 := Nat.lt_of_not_le (fun e => c250 (nI_le (a := 120) e (by omega)))
                have J294 : ∀ (v : Int32), (v = b2i (σ.mv0 r x y w z q || (decide (q ≠ r) && anyb (fun c => inn x y w z c && σ.cv q c) (i + 1)))) → wX G Γ (qM G Γ PP 0 0) 0 0 (h) 294 [some (rv m), some (.int (nI r)), some (.int (nI x)), some (.int (nI y)), some (.int (nI w)), some (.int (nI z)), some (.int (nI (dcl x y w z))), none, none, some (.int (nI (mset (σ.mvq r x y w z) q))), some (.int (nI q)), some (.int (b2i (σ.mv0 r x y w z q || (decide (q ≠ r) && anyb (fun c => inn x y w z c && σ.cv q c) i)))), some (.int (nI i))] [.int v] := by
                  intro v hv
                  subst hv
                  refine r_istore (q := 296) C 11 rfl (by decide +kernel) (by decide) (by first | rfl | exact okst_rv rfl) ?_
                  dsimp only [List.set]
                  refine r_iinc (q := 299) (z := 1) (v := 1) C 12 rfl (by decide +kernel) rfl (by decide) (by decide) (by first | rfl | exact okst_rv rfl) ?_
                  dsimp only [List.set]
                  rw [nI_1]
                  refine r_goto (off := -53) (tgt := 246) C (by decide +kernel) (by decide) ?_
                  exact wX.sub (lsub_s (lsub_s (lsub_s (lsub_s (lsub_s (lsub_s (lsub_s (lsub_n (lsub_n (lsub_s (lsub_s (lsub_s (lsub_s (lsub_nil)))))))))))))) (ih246 (i + 1) (by omega) (by omega))
                refine r_iload (q := 255) C 11 rfl (by decide +kernel) rfl ?_
                refine r_if_ne (q := 258) (off := 34) (tgt := 289) C rfl (by decide +kernel) (by decide) (fun c255 => ?_) (fun c255 => ?_)
                · have ev : (1 : Int32) = b2i (σ.mv0 r x y w z q || (decide (q ≠ r) && anyb (fun c => inn x y w z c && σ.cv q c) (i + 1))) := by
                    have h9 := (b2i_n0 _).mp c255
                    simp only [anyb]
                    rw [Bool.or_eq_true, Bool.and_eq_true] at h9
                    rcases h9 with h9 | ⟨h9, h8⟩
                    · rw [h9]; rfl
                    · rw [h9, h8]; simp [b2i]
                  refine r_iconst (q := 290) (z := 1) (v := 1) C rfl (by decide +kernel) (by decide) ?_
                  refine r_goto (off := 4) (tgt := 294) C (by decide +kernel) (by decide) ?_
                  exact wX.sub (lsub_s (lsub_s (lsub_s (lsub_s (lsub_s (lsub_s (lsub_s (lsub_n (lsub_n (lsub_s (lsub_s (lsub_s (lsub_s (lsub_nil)))))))))))))) (J294 _ ev)
                · refine r_iload (q := 260) C 10 rfl (by decide +kernel) rfl ?_
                  refine r_iload_n (q := 261) (z := 1) C 1 rfl (by decide +kernel) rfl rfl ?_
                  refine r_icmp_eq (q := 264) (off := 32) (tgt := 293) C rfl (by decide +kernel) (by decide) (fun c261 => ?_) (fun c261 => ?_)
                  · have ev : (0 : Int32) = b2i (σ.mv0 r x y w z q || (decide (q ≠ r) && anyb (fun c => inn x y w z c && σ.cv q c) (i + 1))) := by
                      have h9 := (b2i_0 _).mp c255
                      rw [Bool.or_eq_false_iff] at h9
                      have e : q = r := (nI_eq (by omega) (by omega)).mp c261
                      rw [h9.1]; simp [e, b2i]
                    refine r_iconst (q := 294) (z := 0) (v := 0) C rfl (by decide +kernel) (by decide) ?_
                    exact wX.sub (lsub_s (lsub_s (lsub_s (lsub_s (lsub_s (lsub_s (lsub_s (lsub_n (lsub_n (lsub_s (lsub_s (lsub_s (lsub_s (lsub_nil)))))))))))))) (J294 _ ev)
                  · have hqr : q ≠ r := fun e => c261 (by rw [e])
                    refine r_iload_n (q := 265) (z := 2) C 2 rfl (by decide +kernel) rfl rfl ?_
                    refine r_iload_n (q := 266) (z := 3) C 3 rfl (by decide +kernel) rfl rfl ?_
                    refine r_iload (q := 268) C 4 rfl (by decide +kernel) rfl ?_
                    refine r_iload (q := 270) C 5 rfl (by decide +kernel) rfl ?_
                    refine r_iload (q := 272) C 12 rfl (by decide +kernel) rfl ?_
                    refine cS5I (q := 275) C R rfl (by decide +kernel) lk_X7_259 (c_X7_isIn (by omega) (by omega) (by omega) (by omega) (by omega)) (by decide) (by decide) (by decide) rfl (by first | exact Nat.le_of_ble_eq_true rfl | (simp only [List.map_cons, List.map_nil, List.sum_cons, List.sum_nil, rv_cat]; exact Nat.le_of_ble_eq_true rfl))  ?_
                    rintro _ _ ⟨rfl, rfl⟩
                    refine r_if_eq (q := 278) (off := 18) (tgt := 293) C rfl (by decide +kernel) (by decide) (fun c275 => ?_) (fun c275 => ?_)
                    · have ev : (0 : Int32) = b2i (σ.mv0 r x y w z q || (decide (q ≠ r) && anyb (fun c => inn x y w z c && σ.cv q c) (i + 1))) := by
                        have h9 := (b2i_0 _).mp c255
                        simp only [anyb, (b2i_0 _).mp c275, Bool.false_and, Bool.or_false]
                        rw [h9]; rfl
                      refine r_iconst (q := 294) (z := 0) (v := 0) C rfl (by decide +kernel) (by decide) ?_
                      exact wX.sub (lsub_s (lsub_s (lsub_s (lsub_s (lsub_s (lsub_s (lsub_s (lsub_n (lsub_n (lsub_s (lsub_s (lsub_s (lsub_s (lsub_nil)))))))))))))) (J294 _ ev)
                    · refine r_aload_n (q := 279) (z := 0) C 0 rfl (by decide +kernel) rfl rfl ?_
                      refine r_iload (q := 281) C 10 rfl (by decide +kernel) rfl ?_
                      refine r_iload (q := 283) C 12 rfl (by decide +kernel) rfl ?_
                      refine cV2I (q := 286) C R rfl (by decide +kernel) lk_X7_267 (c_X7_covers hm M W hlq (by omega)) (by decide) (by decide) (by decide) rfl (by first | exact Nat.le_of_ble_eq_true rfl | (simp only [List.map_cons, List.map_nil, List.sum_cons, List.sum_nil, rv_cat]; exact Nat.le_of_ble_eq_true rfl)) rfl hm.1 ?_
                      rintro _ _ ⟨rfl, rfl⟩
                      refine r_if_eq (q := 289) (off := 7) (tgt := 293) C rfl (by decide +kernel) (by decide) (fun c286 => ?_) (fun c286 => ?_)
                      · have ev : (0 : Int32) = b2i (σ.mv0 r x y w z q || (decide (q ≠ r) && anyb (fun c => inn x y w z c && σ.cv q c) (i + 1))) := by
                          have h9 := (b2i_0 _).mp c255
                          simp only [anyb, (b2i_0 _).mp c286, Bool.and_false, Bool.or_false]
                          rw [h9]; rfl
                        refine r_iconst (q := 294) (z := 0) (v := 0) C rfl (by decide +kernel) (by decide) ?_
                        exact wX.sub (lsub_s (lsub_s (lsub_s (lsub_s (lsub_s (lsub_s (lsub_s (lsub_n (lsub_n (lsub_s (lsub_s (lsub_s (lsub_s (lsub_nil)))))))))))))) (J294 _ ev)
                      · have ev : (1 : Int32) = b2i (σ.mv0 r x y w z q || (decide (q ≠ r) && anyb (fun c => inn x y w z c && σ.cv q c) (i + 1))) := by
                          simp only [anyb, (b2i_n0 _).mp c275, (b2i_n0 _).mp c286, Bool.and_self, Bool.or_true]
                          simp [hqr, b2i]
                        refine r_iconst (q := 290) (z := 1) (v := 1) C rfl (by decide +kernel) (by decide) ?_
                        refine r_goto (off := 4) (tgt := 294) C (by decide +kernel) (by decide) ?_
                        exact wX.sub (lsub_s (lsub_s (lsub_s (lsub_s (lsub_s (lsub_s (lsub_s (lsub_n (lsub_n (lsub_s (lsub_s (lsub_s (lsub_s (lsub_nil)))))))))))))) (J294 _ ev)
          exact wX.sub (lsub_s (lsub_s (lsub_s (lsub_s (lsub_s (lsub_s (lsub_s (lsub_n (lsub_n (lsub_s (lsub_s (lsub_s (lsub_s (lsub_nil)))))))))))))) (L246 121 0 (by omega) (by omega))
        refine r_iload (q := 193) C 10 rfl (by decide +kernel) rfl ?_
        refine r_iload_n (q := 194) (z := 1) C 1 rfl (by decide +kernel) rfl rfl ?_
        refine r_icmp_eq (q := 197) (off := 46) (tgt := 240) C rfl (by decide +kernel) (by decide) (fun c194 => ?_) (fun c194 => ?_)
        · have ev : (0 : Int32) = b2i (σ.mv0 r x y w z q || (decide (q ≠ r) && anyb (fun c => inn x y w z c && σ.cv q c) 0)) := by have e : q = r := (nI_eq (by omega) (by omega)).mp c194; simp [SG.mv0, e, anyb, b2i]
          refine r_iconst (q := 241) (z := 0) (v := 0) C rfl (by decide +kernel) (by decide) ?_
          exact wX.sub (lsub_s (lsub_s (lsub_s (lsub_s (lsub_s (lsub_s (lsub_s (lsub_n (lsub_n (lsub_s (lsub_s (lsub_n (lsub_n (lsub_nil)))))))))))))) (wX.sub (lsub_s (lsub_s (lsub_s (lsub_s (lsub_s (lsub_s (lsub_s (lsub_n (lsub_n (lsub_s (lsub_s (lsub_n (lsub_n lsub_nil))))))))))))) (J241 _ ev))
        · have hqr : q ≠ r := fun e => c194 (by rw [e])
          refine r_aload_n (q := 198) (z := 0) C 0 rfl (by decide +kernel) rfl rfl ?_
          refine r_getR (q := 201) C 7 30 478 rfl (by decide +kernel) rfl (by decide) rfl rfl wf_X7_103 win7 hm.1 ?_
          refine r_iload (q := 203) C 10 rfl (by decide +kernel) rfl ?_
          refine r_iald (q := 204) C rfl (by decide +kernel) hm.k478 (vp_in_nI (by omega) (by decide)) ?_
          rw [nI_clamp (by omega), M.ali (by omega)]
          refine r_if_lt (q := 207) (off := 36) (tgt := 240) C rfl (by decide +kernel) (by decide) (fun c204 => ?_) (fun c204 => ?_)
          · have ev : (0 : Int32) = b2i (σ.mv0 r x y w z q || (decide (q ≠ r) && anyb (fun c => inn x y w z c && σ.cv q c) 0)) := by have e := pl_neg.mp c204; simp [SG.mv0, e, anyb, b2i]
            refine r_iconst (q := 241) (z := 0) (v := 0) C rfl (by decide +kernel) (by decide) ?_
            exact wX.sub (lsub_s (lsub_s (lsub_s (lsub_s (lsub_s (lsub_s (lsub_s (lsub_n (lsub_n (lsub_s (lsub_s (lsub_n (lsub_n (lsub_nil)))))))))))))) (wX.sub (lsub_s (lsub_s (lsub_s (lsub_s (lsub_s (lsub_s (lsub_s (lsub_n (lsub_n (lsub_s (lsub_s (lsub_n (lsub_n lsub_nil))))))))))))) (J241 _ ev))
          · have hl := pl_nn.mp c204
            have hdr := W.dr hlq hl
            refine r_iload_n (q := 208) (z := 2) C 2 rfl (by decide +kernel) rfl rfl ?_
            refine r_iload_n (q := 209) (z := 3) C 3 rfl (by decide +kernel) rfl rfl ?_
            refine r_iload (q := 211) C 4 rfl (by decide +kernel) rfl ?_
            refine r_iload (q := 213) C 5 rfl (by decide +kernel) rfl ?_
            refine r_aload_n (q := 214) (z := 0) C 0 rfl (by decide +kernel) rfl rfl ?_
            refine r_iload (q := 216) C 10 rfl (by decide +kernel) rfl ?_
            refine cV1I (q := 219) C R rfl (by decide +kernel) lk_X7_292 (c_X7_door hm M W hlq) (by decide) (by decide) (by decide) rfl (by first | exact Nat.le_of_ble_eq_true rfl | (simp only [List.map_cons, List.map_nil, List.sum_cons, List.sum_nil, rv_cat]; exact Nat.le_of_ble_eq_true rfl)) rfl hm.1 ?_
            rintro _ _ ⟨rfl, rfl⟩
            rw [if_pos hl]
            refine cS5I (q := 222) C R rfl (by decide +kernel) lk_X7_259 (c_X7_isIn (by omega) (by omega) (by omega) (by omega) (by omega)) (by decide) (by decide) (by decide) rfl (by first | exact Nat.le_of_ble_eq_true rfl | (simp only [List.map_cons, List.map_nil, List.sum_cons, List.sum_nil, rv_cat]; exact Nat.le_of_ble_eq_true rfl))  ?_
            rintro _ _ ⟨rfl, rfl⟩
            refine r_if_ne (q := 225) (off := 14) (tgt := 236) C rfl (by decide +kernel) (by decide) (fun c222 => ?_) (fun c222 => ?_)
            · have ev : (1 : Int32) = b2i (σ.mv0 r x y w z q || (decide (q ≠ r) && anyb (fun c => inn x y w z c && σ.cv q c) 0)) := by simp [SG.mv0, hqr, hl, (b2i_n0 _).mp c222, b2i]
              refine r_iconst (q := 237) (z := 1) (v := 1) C rfl (by decide +kernel) (by decide) ?_
              refine r_goto (off := 4) (tgt := 241) C (by decide +kernel) (by decide) ?_
              exact wX.sub (lsub_s (lsub_s (lsub_s (lsub_s (lsub_s (lsub_s (lsub_s (lsub_n (lsub_n (lsub_s (lsub_s (lsub_n (lsub_n (lsub_nil)))))))))))))) (wX.sub (lsub_s (lsub_s (lsub_s (lsub_s (lsub_s (lsub_s (lsub_s (lsub_n (lsub_n (lsub_s (lsub_s (lsub_n (lsub_n lsub_nil))))))))))))) (J241 _ ev))
            · refine r_aload_n (q := 226) (z := 0) C 0 rfl (by decide +kernel) rfl rfl ?_
              refine r_iload (q := 228) C 10 rfl (by decide +kernel) rfl ?_
              refine r_iload (q := 230) C 6 rfl (by decide +kernel) rfl ?_
              refine cV2I (q := 233) C R rfl (by decide +kernel) lk_X7_267 (c_X7_covers hm M W hlq (by omega)) (by decide) (by decide) (by decide) rfl (by first | exact Nat.le_of_ble_eq_true rfl | (simp only [List.map_cons, List.map_nil, List.sum_cons, List.sum_nil, rv_cat]; exact Nat.le_of_ble_eq_true rfl)) rfl hm.1 ?_
              rintro _ _ ⟨rfl, rfl⟩
              refine r_if_eq (q := 236) (off := 7) (tgt := 240) C rfl (by decide +kernel) (by decide) (fun c233 => ?_) (fun c233 => ?_)
              · have ev : (0 : Int32) = b2i (σ.mv0 r x y w z q || (decide (q ≠ r) && anyb (fun c => inn x y w z c && σ.cv q c) 0)) := by simp [SG.mv0, (b2i_0 _).mp c222, (b2i_0 _).mp c233, anyb, b2i]
                refine r_iconst (q := 241) (z := 0) (v := 0) C rfl (by decide +kernel) (by decide) ?_
                exact wX.sub (lsub_s (lsub_s (lsub_s (lsub_s (lsub_s (lsub_s (lsub_s (lsub_n (lsub_n (lsub_s (lsub_s (lsub_n (lsub_n (lsub_nil)))))))))))))) (wX.sub (lsub_s (lsub_s (lsub_s (lsub_s (lsub_s (lsub_s (lsub_s (lsub_n (lsub_n (lsub_s (lsub_s (lsub_n (lsub_n lsub_nil))))))))))))) (J241 _ ev))
              · have ev : (1 : Int32) = b2i (σ.mv0 r x y w z q || (decide (q ≠ r) && anyb (fun c => inn x y w z c && σ.cv q c) 0)) := by simp [SG.mv0, hqr, hl, (b2i_n0 _).mp c233, b2i]
                refine r_iconst (q := 237) (z := 1) (v := 1) C rfl (by decide +kernel) (by decide) ?_
                refine r_goto (off := 4) (tgt := 241) C (by decide +kernel) (by decide) ?_
                exact wX.sub (lsub_s (lsub_s (lsub_s (lsub_s (lsub_s (lsub_s (lsub_s (lsub_n (lsub_n (lsub_s (lsub_s (lsub_n (lsub_n (lsub_nil)))))))))))))) (wX.sub (lsub_s (lsub_s (lsub_s (lsub_s (lsub_s (lsub_s (lsub_s (lsub_n (lsub_n (lsub_s (lsub_s (lsub_n (lsub_n lsub_nil))))))))))))) (J241 _ ev))
  have L78 : ∀ (fuel78 : Nat) (i : Nat), 120 - i < fuel78 → (i ≤ 120) → (x + w ≤ 12) → (y + z < 10) → wX G Γ (qM G Γ PP 0 0) 0 0 (h) 78 [some (rv m), some (.int (nI r)), some (.int (nI x)), some (.int (nI y)), some (.int (nI w)), some (.int (nI z)), some (.int (nI (dcl x y w z))), some (.int (b2i (((!inn x y w z (12 * σ.gr)) && !σ.cl (dcl x y w z)) && !anyb (fun c => inn x y w z c && σ.cl c) i))), some (.int (b2i (anyb (fun c => inn x y w z c && σ.cv r c) i))), some (.int (nI i)), none, none, none] [] := by
    intro fuel78
    induction fuel78 with
    | zero =>
      intro i hm78
      exact absurd hm78 (Nat.not_lt_zero _)
    | succ fuel78 ih78 =>
      intro i hm78 hi hg1 hg2
      refine r_iload (q := 80) C 9 rfl (by decide +kernel) rfl ?_
      refine r_bipush (q := 82) (z := 120) (v := 120) C rfl (by decide +kernel) (by decide) ?_
      refine r_icmp_ge (q := 85) (off := 81) (tgt := 163) C rfl (by decide +kernel) (by decide) (fun c82 => ?_) (fun c82 => ?_)
      · have ez : i = 120 := by have := (nI_leI (a := 120) (by omega) (by omega)).mp c82; omega
        subst ez
        refine r_iload (q := 165) C 7 rfl (by decide +kernel) rfl ?_
        refine r_if_eq (q := 168) (off := 8) (tgt := 173) C rfl (by decide +kernel) (by decide) (fun c165 => ?_) (fun c165 => ?_)
        · refine r_bipush (q := 175) (z := (-2)) (v := (-2)) C rfl (by decide +kernel) (by decide) ?_
          exact r_iret C (by decide +kernel) rfl (by decide) (by decide) (eqP hPP ⟨_, rfl, ⟨by rw [if_neg (by unfold SG.gok; first | (rw [(b2i_0 _).mp c165]; simp; done) | (rw [(b2i_0 _).mp c170]; simp; done))], rfl⟩⟩)
        · refine r_iload (q := 170) C 8 rfl (by decide +kernel) rfl ?_
          refine r_if_ne (q := 173) (off := 6) (tgt := 176) C rfl (by decide +kernel) (by decide) (fun c170 => ?_) (fun c170 => ?_)
          · have hok : σ.gok r x y w z = true := by unfold SG.gok; rw [(b2i_n0 _).mp c165, (b2i_n0 _).mp c170]; simp [hg1, hg2]
            refine r_iconst (q := 177) (z := 0) (v := 0) C rfl (by decide +kernel) (by decide) ?_
            refine r_istore (q := 179) C 9 rfl (by decide +kernel) (by decide) (by first | rfl | exact okst_rv rfl) ?_
            dsimp only [List.set]
            refine r_iconst (q := 180) (z := 0) (v := 0) C rfl (by decide +kernel) (by decide) ?_
            refine r_istore (q := 182) C 10 rfl (by decide +kernel) (by decide) (by first | rfl | exact okst_rv rfl) ?_
            dsimp only [List.set]
            exact wX.sub (lsub_s (lsub_s (lsub_s (lsub_s (lsub_s (lsub_s (lsub_s (lsub_n (lsub_n (lsub_s (lsub_s (lsub_n (lsub_n (lsub_nil)))))))))))))) (L182 (σ.n + 1) 0 (by omega) (by omega) hok hg1 hg2)
          · refine r_bipush (q := 175) (z := (-2)) (v := (-2)) C rfl (by decide +kernel) (by decide) ?_
            exact r_iret C (by decide +kernel) rfl (by decide) (by decide) (eqP hPP ⟨_, rfl, ⟨by rw [if_neg (by unfold SG.gok; first | (rw [(b2i_0 _).mp c165]; simp; done) | (rw [(b2i_0 _).mp c170]; simp; done))], rfl⟩⟩)
      · have hlt : i < 120 := Nat.lt_of_not_le (fun e => c82 (nI_le (a := 120) e (by omega)))
        have J155 : ∀ (v : Int32), (v = b2i (anyb (fun c => inn x y w z c && σ.cv r c) (i + 1))) → wX G Γ (qM G Γ PP 0 0) 0 0 (h) 155 [some (rv m), some (.int (nI r)), some (.int (nI x)), some (.int (nI y)), some (.int (nI w)), some (.int (nI z)), some (.int (nI (dcl x y w z))), some (.int (b2i (((!inn x y w z (12 * σ.gr)) && !σ.cl (dcl x y w z)) && !anyb (fun c => inn x y w z c && σ.cl c) (i + 1)))), some (.int (b2i (anyb (fun c => inn x y w z c && σ.cv r c) i))), some (.int (nI i)), none, none, none] [.int v] := by
          intro v hv
          subst hv
          refine r_istore (q := 157) C 8 rfl (by decide +kernel) (by decide) (by first | rfl | exact okst_rv rfl) ?_
          dsimp only [List.set]
          refine r_iinc (q := 160) (z := 1) (v := 1) C 9 rfl (by decide +kernel) rfl (by decide) (by decide) (by first | rfl | exact okst_rv rfl) ?_
          dsimp only [List.set]
          rw [nI_1]
          refine r_goto (off := -82) (tgt := 78) C (by decide +kernel) (by decide) ?_
          exact wX.sub (lsub_s (lsub_s (lsub_s (lsub_s (lsub_s (lsub_s (lsub_s (lsub_s (lsub_s (lsub_s (lsub_n (lsub_n (lsub_n (lsub_nil)))))))))))))) (ih78 (i + 1) (by omega) (by omega) hg1 hg2)
        have J119 : ∀ (v : Int32), (v = b2i (((!inn x y w z (12 * σ.gr)) && !σ.cl (dcl x y w z)) && !anyb (fun c => inn x y w z c && σ.cl c) (i + 1))) → wX G Γ (qM G Γ PP 0 0) 0 0 (h) 119 [some (rv m), some (.int (nI r)), some (.int (nI x)), some (.int (nI y)), some (.int (nI w)), some (.int (nI z)), some (.int (nI (dcl x y w z))), some (.int (b2i (((!inn x y w z (12 * σ.gr)) && !σ.cl (dcl x y w z)) && !anyb (fun c => inn x y w z c && σ.cl c) i))), some (.int (b2i (anyb (fun c => inn x y w z c && σ.cv r c) i))), some (.int (nI i)), none, none, none] [.int v] := by
          intro v hv
          subst hv
          refine r_istore (q := 121) C 7 rfl (by decide +kernel) (by decide) (by first | rfl | exact okst_rv rfl) ?_
          dsimp only [List.set]
          refine r_iload (q := 123) C 8 rfl (by decide +kernel) rfl ?_
          refine r_if_ne (q := 126) (off := 27) (tgt := 150) C rfl (by decide +kernel) (by decide) (fun c123 => ?_) (fun c123 => ?_)
          · have ev : (1 : Int32) = b2i (anyb (fun c => inn x y w z c && σ.cv r c) (i + 1)) := by simp only [anyb, (b2i_n0 _).mp c123, Bool.true_or]; rfl
            refine r_iconst (q := 151) (z := 1) (v := 1) C rfl (by decide +kernel) (by decide) ?_
            refine r_goto (off := 4) (tgt := 155) C (by decide +kernel) (by decide) ?_
            exact wX.sub (lsub_s (lsub_s (lsub_s (lsub_s (lsub_s (lsub_s (lsub_s (lsub_s (lsub_s (lsub_s (lsub_n (lsub_n (lsub_n (lsub_nil)))))))))))))) (J155 _ ev)
          · refine r_iload_n (q := 127) (z := 2) C 2 rfl (by decide +kernel) rfl rfl ?_
            refine r_iload_n (q := 128) (z := 3) C 3 rfl (by decide +kernel) rfl rfl ?_
            refine r_iload (q := 130) C 4 rfl (by decide +kernel) rfl ?_
            refine r_iload (q := 132) C 5 rfl (by decide +kernel) rfl ?_
            refine r_iload (q := 134) C 9 rfl (by decide +kernel) rfl ?_
            refine cS5I (q := 137) C R rfl (by decide +kernel) lk_X7_259 (c_X7_isIn (by omega) (by omega) (by omega) (by omega) (by omega)) (by decide) (by decide) (by decide) rfl (by first | exact Nat.le_of_ble_eq_true rfl | (simp only [List.map_cons, List.map_nil, List.sum_cons, List.sum_nil, rv_cat]; exact Nat.le_of_ble_eq_true rfl))  ?_
            rintro _ _ ⟨rfl, rfl⟩
            refine r_if_eq (q := 140) (off := 17) (tgt := 154) C rfl (by decide +kernel) (by decide) (fun c137 => ?_) (fun c137 => ?_)
            · have ev : (0 : Int32) = b2i (anyb (fun c => inn x y w z c && σ.cv r c) (i + 1)) := by simp only [anyb, (b2i_0 _).mp c123, (b2i_0 _).mp c137, Bool.false_and, Bool.or_self]; rfl
              refine r_iconst (q := 155) (z := 0) (v := 0) C rfl (by decide +kernel) (by decide) ?_
              exact wX.sub (lsub_s (lsub_s (lsub_s (lsub_s (lsub_s (lsub_s (lsub_s (lsub_s (lsub_s (lsub_s (lsub_n (lsub_n (lsub_n (lsub_nil)))))))))))))) (J155 _ ev)
            · refine r_aload_n (q := 141) (z := 0) C 0 rfl (by decide +kernel) rfl rfl ?_
              refine r_iload_n (q := 142) (z := 1) C 1 rfl (by decide +kernel) rfl rfl ?_
              refine r_iload (q := 144) C 9 rfl (by decide +kernel) rfl ?_
              refine cV2I (q := 147) C R rfl (by decide +kernel) lk_X7_267 (c_X7_covers hm M W hr (by omega)) (by decide) (by decide) (by decide) rfl (by first | exact Nat.le_of_ble_eq_true rfl | (simp only [List.map_cons, List.map_nil, List.sum_cons, List.sum_nil, rv_cat]; exact Nat.le_of_ble_eq_true rfl)) rfl hm.1 ?_
              rintro _ _ ⟨rfl, rfl⟩
              refine r_if_eq (q := 150) (off := 7) (tgt := 154) C rfl (by decide +kernel) (by decide) (fun c147 => ?_) (fun c147 => ?_)
              · have ev : (0 : Int32) = b2i (anyb (fun c => inn x y w z c && σ.cv r c) (i + 1)) := by simp only [anyb, (b2i_0 _).mp c123, (b2i_0 _).mp c147, Bool.and_false, Bool.or_self]; rfl
                refine r_iconst (q := 155) (z := 0) (v := 0) C rfl (by decide +kernel) (by decide) ?_
                exact wX.sub (lsub_s (lsub_s (lsub_s (lsub_s (lsub_s (lsub_s (lsub_s (lsub_s (lsub_s (lsub_s (lsub_n (lsub_n (lsub_n (lsub_nil)))))))))))))) (J155 _ ev)
              · have ev : (1 : Int32) = b2i (anyb (fun c => inn x y w z c && σ.cv r c) (i + 1)) := by simp only [anyb, (b2i_n0 _).mp c137, (b2i_n0 _).mp c147, Bool.and_self, Bool.or_true]; rfl
                refine r_iconst (q := 151) (z := 1) (v := 1) C rfl (by decide +kernel) (by decide) ?_
                refine r_goto (off := 4) (tgt := 155) C (by decide +kernel) (by decide) ?_
                exact wX.sub (lsub_s (lsub_s (lsub_s (lsub_s (lsub_s (lsub_s (lsub_s (lsub_s (lsub_s (lsub_s (lsub_n (lsub_n (lsub_n (lsub_nil)))))))))))))) (J155 _ ev)
        refine r_iload (q := 87) C 7 rfl (by decide +kernel) rfl ?_
        refine r_if_eq (q := 90) (off := 31) (tgt := 118) C rfl (by decide +kernel) (by decide) (fun c87 => ?_) (fun c87 => ?_)
        · have ev : (0 : Int32) = b2i (((!inn x y w z (12 * σ.gr)) && !σ.cl (dcl x y w z)) && !anyb (fun c => inn x y w z c && σ.cl c) (i + 1)) := by
            have h9 := (b2i_0 _).mp c87
            simp only [anyb]
            cases e1 : ((!inn x y w z (12 * σ.gr)) && !σ.cl (dcl x y w z)) with
            | false => rfl
            | true => rw [e1] at h9; simp only [Bool.true_and, Bool.not_eq_false'] at h9; rw [h9]; rfl
          refine r_iconst (q := 119) (z := 0) (v := 0) C rfl (by decide +kernel) (by decide) ?_
          exact wX.sub (lsub_s (lsub_s (lsub_s (lsub_s (lsub_s (lsub_s (lsub_s (lsub_s (lsub_s (lsub_s (lsub_n (lsub_n (lsub_n (lsub_nil)))))))))))))) (J119 _ ev)
        · refine r_iload_n (q := 91) (z := 2) C 2 rfl (by decide +kernel) rfl rfl ?_
          refine r_iload_n (q := 92) (z := 3) C 3 rfl (by decide +kernel) rfl rfl ?_
          refine r_iload (q := 94) C 4 rfl (by decide +kernel) rfl ?_
          refine r_iload (q := 96) C 5 rfl (by decide +kernel) rfl ?_
          refine r_iload (q := 98) C 9 rfl (by decide +kernel) rfl ?_
          refine cS5I (q := 101) C R rfl (by decide +kernel) lk_X7_259 (c_X7_isIn (by omega) (by omega) (by omega) (by omega) (by omega)) (by decide) (by decide) (by decide) rfl (by first | exact Nat.le_of_ble_eq_true rfl | (simp only [List.map_cons, List.map_nil, List.sum_cons, List.sum_nil, rv_cat]; exact Nat.le_of_ble_eq_true rfl))  ?_
          rintro _ _ ⟨rfl, rfl⟩
          refine r_if_eq (q := 104) (off := 13) (tgt := 114) C rfl (by decide +kernel) (by decide) (fun c101 => ?_) (fun c101 => ?_)
          · have ev : (1 : Int32) = b2i (((!inn x y w z (12 * σ.gr)) && !σ.cl (dcl x y w z)) && !anyb (fun c => inn x y w z c && σ.cl c) (i + 1)) := by
              have h9 := (b2i_n0 _).mp c87
              simp only [anyb, (b2i_0 _).mp c101, Bool.false_and, Bool.or_false]
              rw [h9]; rfl
            refine r_iconst (q := 115) (z := 1) (v := 1) C rfl (by decide +kernel) (by decide) ?_
            refine r_goto (off := 4) (tgt := 119) C (by decide +kernel) (by decide) ?_
            exact wX.sub (lsub_s (lsub_s (lsub_s (lsub_s (lsub_s (lsub_s (lsub_s (lsub_s (lsub_s (lsub_s (lsub_n (lsub_n (lsub_n (lsub_nil)))))))))))))) (J119 _ ev)
          · refine r_aload_n (q := 105) (z := 0) C 0 rfl (by decide +kernel) rfl rfl ?_
            refine r_getR (q := 108) C 7 36 484 rfl (by decide +kernel) rfl (by decide) rfl rfl wf_X7_118 win7 hm.1 ?_
            refine r_iload (q := 110) C 9 rfl (by decide +kernel) rfl ?_
            refine r_zald (q := 111) C rfl (by decide +kernel) hm.k484 (vp_in_nI hlt (by decide)) ?_
            rw [nI_clamp (by omega), M.acl hlt]
            refine r_if_ne (q := 114) (off := 7) (tgt := 118) C rfl (by decide +kernel) (by decide) (fun c111 => ?_) (fun c111 => ?_)
            · have ev : (0 : Int32) = b2i (((!inn x y w z (12 * σ.gr)) && !σ.cl (dcl x y w z)) && !anyb (fun c => inn x y w z c && σ.cl c) (i + 1)) := by
                simp only [anyb, (b2i_n0 _).mp c101, (b2i_n0 _).mp c111, Bool.and_self, Bool.or_true, Bool.not_true, Bool.and_false]
                rfl
              refine r_iconst (q := 119) (z := 0) (v := 0) C rfl (by decide +kernel) (by decide) ?_
              exact wX.sub (lsub_s (lsub_s (lsub_s (lsub_s (lsub_s (lsub_s (lsub_s (lsub_s (lsub_s (lsub_s (lsub_n (lsub_n (lsub_n (lsub_nil)))))))))))))) (J119 _ ev)
            · have ev : (1 : Int32) = b2i (((!inn x y w z (12 * σ.gr)) && !σ.cl (dcl x y w z)) && !anyb (fun c => inn x y w z c && σ.cl c) (i + 1)) := by
                have h9 := (b2i_n0 _).mp c87
                simp only [anyb, (b2i_0 _).mp c111, Bool.and_false, Bool.or_false]
                rw [h9]; rfl
              refine r_iconst (q := 115) (z := 1) (v := 1) C rfl (by decide +kernel) (by decide) ?_
              refine r_goto (off := 4) (tgt := 119) C (by decide +kernel) (by decide) ?_
              exact wX.sub (lsub_s (lsub_s (lsub_s (lsub_s (lsub_s (lsub_s (lsub_s (lsub_s (lsub_s (lsub_s (lsub_n (lsub_n (lsub_n (lsub_nil)))))))))))))) (J119 _ ev)
  refine r_iload_n (q := 1) (z := 2) C 2 rfl (by decide +kernel) rfl rfl ?_
  refine r_iload (q := 3) C 4 rfl (by decide +kernel) rfl ?_
  refine r_iadd (q := 4) C rfl (by decide +kernel) ?_
  rw [nI_add]
  refine r_bipush (q := 6) (z := 12) (v := 12) C rfl (by decide +kernel) (by decide) ?_
  refine r_icmp_gt (q := 9) (off := 12) (tgt := 18) C rfl (by decide +kernel) (by decide) (fun c6 => ?_) (fun c6 => ?_)
  · rw [show (12 : Int32) = nI 12 from rfl, nI_ltI (by omega) (by omega)] at c6
    refine r_bipush (q := 20) (z := (-2)) (v := (-2)) C rfl (by decide +kernel) (by decide) ?_
    exact r_iret C (by decide +kernel) rfl (by decide) (by decide) (eqP hPP ⟨_, rfl, ⟨by rw [if_neg (by unfold SG.gok; simp; omega)], rfl⟩⟩)
  · rw [show (12 : Int32) = nI 12 from rfl, nI_ltI (by omega) (by omega)] at c6
    have hg1 : x + w ≤ 12 := by omega
    refine r_iload_n (q := 10) (z := 3) C 3 rfl (by decide +kernel) rfl rfl ?_
    refine r_iload (q := 12) C 5 rfl (by decide +kernel) rfl ?_
    refine r_iadd (q := 13) C rfl (by decide +kernel) ?_
    rw [nI_add]
    refine r_bipush (q := 15) (z := 10) (v := 10) C rfl (by decide +kernel) (by decide) ?_
    refine r_icmp_lt (q := 18) (off := 6) (tgt := 21) C rfl (by decide +kernel) (by decide) (fun c15 => ?_) (fun c15 => ?_)
    · rw [show (10 : Int32) = nI 10 from rfl, nI_ltI (by omega) (by omega)] at c15
      have hg2 : y + z < 10 := c15
      have J70 : ∀ (v : Int32), (x + w ≤ 12) → (y + z < 10) → (v = b2i (((!inn x y w z (12 * σ.gr)) && !σ.cl (dcl x y w z)) && !anyb (fun c => inn x y w z c && σ.cl c) 0)) → wX G Γ (qM G Γ PP 0 0) 0 0 (h) 70 [some (rv m), some (.int (nI r)), some (.int (nI x)), some (.int (nI y)), some (.int (nI w)), some (.int (nI z)), some (.int (nI (dcl x y w z))), none, none, none, none, none, none] [.int v] := by
        intro v hg1 hg2 hv
        subst hv
        refine r_istore (q := 72) C 7 rfl (by decide +kernel) (by decide) (by first | rfl | exact okst_rv rfl) ?_
        dsimp only [List.set]
        refine r_iconst (q := 73) (z := 0) (v := 0) C rfl (by decide +kernel) (by decide) ?_
        refine r_istore (q := 75) C 8 rfl (by decide +kernel) (by decide) (by first | rfl | exact okst_rv rfl) ?_
        dsimp only [List.set]
        refine r_iconst (q := 76) (z := 0) (v := 0) C rfl (by decide +kernel) (by decide) ?_
        refine r_istore (q := 78) C 9 rfl (by decide +kernel) (by decide) (by first | rfl | exact okst_rv rfl) ?_
        dsimp only [List.set]
        exact wX.sub (lsub_s (lsub_s (lsub_s (lsub_s (lsub_s (lsub_s (lsub_s (lsub_s (lsub_s (lsub_s (lsub_n (lsub_n (lsub_n (lsub_nil)))))))))))))) (L78 121 0 (by omega) (by omega) hg1 hg2)
      refine r_bipush (q := 23) (z := 12) (v := 12) C rfl (by decide +kernel) (by decide) ?_
      refine r_iload_n (q := 24) (z := 3) C 3 rfl (by decide +kernel) rfl rfl ?_
      refine r_iload (q := 26) C 5 rfl (by decide +kernel) rfl ?_
      refine r_iadd (q := 27) C rfl (by decide +kernel) ?_
      rw [nI_add]
      refine r_imul (q := 28) C rfl (by decide +kernel) ?_
      rw [show (12 : Int32) = nI 12 from rfl, pk_mul]
      refine r_iload_n (q := 29) (z := 2) C 2 rfl (by decide +kernel) rfl rfl ?_
      refine r_iadd (q := 30) C rfl (by decide +kernel) ?_
      rw [nI_add]
      refine r_iload (q := 32) C 4 rfl (by decide +kernel) rfl ?_
      refine r_iconst (q := 33) (z := 1) (v := 1) C rfl (by decide +kernel) (by decide) ?_
      refine r_isub (q := 34) C rfl (by decide +kernel) ?_
      rw [m1x _ (by omega)]
      refine r_iconst (q := 35) (z := 2) (v := 2) C rfl (by decide +kernel) (by decide) ?_
      refine r_idiv (q := 36) C rfl (by decide +kernel) (by decide) ?_
      rw [show nI (w - 1) / 2 = nI ((w - 1) / 2) from pk_div (d := 2) (by omega) (by decide) (by decide)]
      refine r_iadd (q := 37) C rfl (by decide +kernel) ?_
      rw [nI_add, show 12 * (y + z) + x + (w - 1) / 2 = dcl x y w z from rfl]
      have hdc : dcl x y w z < 120 := by unfold dcl; omega
      refine r_istore (q := 39) C 6 rfl (by decide +kernel) (by decide) (by first | rfl | exact okst_rv rfl) ?_
      dsimp only [List.set]
      refine r_iload_n (q := 40) (z := 2) C 2 rfl (by decide +kernel) rfl rfl ?_
      refine r_iload_n (q := 41) (z := 3) C 3 rfl (by decide +kernel) rfl rfl ?_
      refine r_iload (q := 43) C 4 rfl (by decide +kernel) rfl ?_
      refine r_iload (q := 45) C 5 rfl (by decide +kernel) rfl ?_
      refine r_aload_n (q := 46) (z := 0) C 0 rfl (by decide +kernel) rfl rfl ?_
      refine cV0I (q := 49) C R rfl (by decide +kernel) lk_X7_280 (c_X7_gateCell hm M W) (by decide) (by decide) (by decide) rfl (by first | exact Nat.le_of_ble_eq_true rfl | (simp only [List.map_cons, List.map_nil, List.sum_cons, List.sum_nil, rv_cat]; exact Nat.le_of_ble_eq_true rfl)) rfl hm.1 ?_
      rintro _ _ ⟨rfl, rfl⟩
      refine cS5I (q := 52) C R rfl (by decide +kernel) lk_X7_259 (c_X7_isIn (by omega) (by omega) (by omega) (by omega) (by omega)) (by decide) (by decide) (by decide) rfl (by first | exact Nat.le_of_ble_eq_true rfl | (simp only [List.map_cons, List.map_nil, List.sum_cons, List.sum_nil, rv_cat]; exact Nat.le_of_ble_eq_true rfl))  ?_
      rintro _ _ ⟨rfl, rfl⟩
      refine r_if_ne (q := 55) (off := 17) (tgt := 69) C rfl (by decide +kernel) (by decide) (fun c52 => ?_) (fun c52 => ?_)
      · have ev : (0 : Int32) = b2i (((!inn x y w z (12 * σ.gr)) && !σ.cl (dcl x y w z)) && !anyb (fun c => inn x y w z c && σ.cl c) 0) := by rw [(b2i_n0 _).mp c52]; rfl
        refine r_iconst (q := 70) (z := 0) (v := 0) C rfl (by decide +kernel) (by decide) ?_
        exact wX.sub (lsub_s (lsub_s (lsub_s (lsub_s (lsub_s (lsub_s (lsub_s (lsub_n (lsub_n (lsub_n (lsub_n (lsub_n (lsub_n (lsub_nil)))))))))))))) (J70 _ hg1 hg2 ev)
      · refine r_aload_n (q := 56) (z := 0) C 0 rfl (by decide +kernel) rfl rfl ?_
        refine r_getR (q := 59) C 7 36 484 rfl (by decide +kernel) rfl (by decide) rfl rfl wf_X7_118 win7 hm.1 ?_
        refine r_iload (q := 61) C 6 rfl (by decide +kernel) rfl ?_
        refine r_zald (q := 62) C rfl (by decide +kernel) hm.k484 (vp_in_nI hdc (by decide)) ?_
        rw [nI_clamp (by omega), M.acl hdc]
        refine r_if_ne (q := 65) (off := 7) (tgt := 69) C rfl (by decide +kernel) (by decide) (fun c62 => ?_) (fun c62 => ?_)
        · have ev : (0 : Int32) = b2i (((!inn x y w z (12 * σ.gr)) && !σ.cl (dcl x y w z)) && !anyb (fun c => inn x y w z c && σ.cl c) 0) := by rw [(b2i_n0 _).mp c62, Bool.not_true, Bool.and_false]; rfl
          refine r_iconst (q := 70) (z := 0) (v := 0) C rfl (by decide +kernel) (by decide) ?_
          exact wX.sub (lsub_s (lsub_s (lsub_s (lsub_s (lsub_s (lsub_s (lsub_s (lsub_n (lsub_n (lsub_n (lsub_n (lsub_n (lsub_n (lsub_nil)))))))))))))) (J70 _ hg1 hg2 ev)
        · have ev : (1 : Int32) = b2i (((!inn x y w z (12 * σ.gr)) && !σ.cl (dcl x y w z)) && !anyb (fun c => inn x y w z c && σ.cl c) 0) := by rw [(b2i_0 _).mp c52, (b2i_0 _).mp c62]; rfl
          refine r_iconst (q := 66) (z := 1) (v := 1) C rfl (by decide +kernel) (by decide) ?_
          refine r_goto (off := 4) (tgt := 70) C (by decide +kernel) (by decide) ?_
          exact wX.sub (lsub_s (lsub_s (lsub_s (lsub_s (lsub_s (lsub_s (lsub_s (lsub_n (lsub_n (lsub_n (lsub_n (lsub_n (lsub_n (lsub_nil)))))))))))))) (J70 _ hg1 hg2 ev)
    · rw [show (10 : Int32) = nI 10 from rfl, nI_ltI (by omega) (by omega)] at c15
      refine r_bipush (q := 20) (z := (-2)) (v := (-2)) C rfl (by decide +kernel) (by decide) ?_
      exact r_iret C (by decide +kernel) rfl (by decide) (by decide) (eqP hPP ⟨_, rfl, ⟨by rw [if_neg (by unfold SG.gok; simp; omega)], rfl⟩⟩)
theorem c_X7_change {G : GT} {h : HP} {m : Nat} {σ : SG} {x w z k : Int32} (hm : LM h.kd h.gl h.fr m) (M : MR σ h m) (W : WF σ) : Con G 5 0 0 yX7_change cX7_change 9 (some .int) [rv m, .int x, .int w, .int z, .int k] h (PI (fun v h' => cif (chP σ x w z k) (chV σ x.toNatClampNeg w.toNatClampNeg z.toNatClampNeg k) (-1) = v ∧ h.setI 448 m 0 = h')) := by
  refine Con.of (lv := [some (rv m), some (.int x), some (.int w), some (.int z), some (.int k), none, none, none, none]) (by decide) (by simp only [lvE_r, lvE_i, lvE_l, lvE_s, lvE_0]; rfl) (by simp only [lgl_r, lgl_i, lgl_l, lgl_s, lgl_0]; decide) (fun Γ C R => ?_)
  generalize hPP : (PI (fun v h' => cif (chP σ x w z k) (chV σ x.toNatClampNeg w.toNatClampNeg z.toNatClampNeg k) (-1) = v ∧ h.setI 448 m 0 = h')) = PP
  have r10 := W.n10
  have M1 : MR σ (h.setI 448 m 0) m := M.setI (by decide) (by decide) (by decide)
  refine r_aload_n (q := 1) (z := 0) C 0 rfl (by decide +kernel) rfl rfl ?_
  refine r_iconst (q := 2) (z := 0) (v := 0) C rfl (by decide +kernel) (by decide) ?_
  refine r_putI (q := 5) C 7 0 448 rfl (by decide +kernel) rfl (by decide) rfl rfl wf_X7_1 win7 tyX7 tyX7_ok nmX7 rfl (tyX7_ok 0 (by decide)) rfl wnd7 rfl rfl hm.1 ?_
  have J53 : (¬ chP σ x w z k) → wX G Γ (qM G Γ PP 0 0) 0 0 (h.setI 448 m 0) 53 [some (rv m), some (.int x), some (.int w), some (.int z), some (.int k), none, none, none, none] [] := by
    intro  hn
    refine r_iconst (q := 54) (z := (-1)) (v := (-1)) C rfl (by decide +kernel) (by decide) ?_
    exact r_iret C (by decide +kernel) rfl (by decide) (by decide) (eqP hPP ⟨_, rfl, ⟨cif_f hn, rfl⟩⟩)
  refine r_aload_n (q := 6) (z := 0) C 0 rfl (by decide +kernel) rfl rfl ?_
  refine r_iload_n (q := 7) (z := 1) C 1 rfl (by decide +kernel) rfl rfl ?_
  refine cV1I (q := 10) C R rfl (by decide +kernel) lk_X7_316 (c_X7_isRide hm M1) (by decide) (by decide) (by decide) rfl (by first | exact Nat.le_of_ble_eq_true rfl | (simp only [List.map_cons, List.map_nil, List.sum_cons, List.sum_nil, rv_cat]; exact Nat.le_of_ble_eq_true rfl)) rfl hm.1 ?_
  rintro _ _ ⟨rfl, rfl⟩
  refine r_if_eq (q := 13) (off := 43) (tgt := 53) C rfl (by decide +kernel) (by decide) (fun c10 => ?_) (fun c10 => ?_)
  · have c10 := of_decide_eq_false ((b2i_0 _).mp c10)
    exact wX.sub (lsub_s (lsub_s (lsub_s (lsub_s (lsub_s (lsub_n (lsub_n (lsub_n (lsub_n (lsub_nil)))))))))) (J53 (fun e => c10 e.1.1))
  · have c10 := of_decide_eq_true ((b2i_n0 _).mp c10)
    obtain ⟨r, hr, hxr⟩ := ride_of r10 c10
    refine r_aload_n (q := 14) (z := 0) C 0 rfl (by decide +kernel) rfl rfl ?_
    refine r_getR (q := 17) C 7 30 478 rfl (by decide +kernel) rfl (by decide) rfl rfl wf_X7_103 win7 hm.1 ?_
    refine r_iload_n (q := 18) (z := 1) C 1 rfl (by decide +kernel) rfl rfl ?_
    refine r_iald (q := 19) C rfl (by decide +kernel) hm.k478 (by rw [hxr]; exact vp_in_nI (by omega) (by decide)) ?_
    rw [show x.toNatClampNeg = r by rw [hxr]; exact nI_clamp (by omega)]
    rw [M1.ali (by omega)]
    refine r_if_lt (q := 22) (off := 34) (tgt := 53) C rfl (by decide +kernel) (by decide) (fun c19 => ?_) (fun c19 => ?_)
    · have c19 : ¬ σ.li x.toNatClampNeg < 240 := by rw [hxr, nI_clamp (by omega)]; exact pl_neg.mp c19
      exact wX.sub (lsub_s (lsub_s (lsub_s (lsub_s (lsub_s (lsub_n (lsub_n (lsub_n (lsub_n (lsub_nil)))))))))) (J53 (fun e => c19 e.1.2))
    · have c19 : σ.li x.toNatClampNeg < 240 := by rw [hxr, nI_clamp (by omega)]; exact pl_nn.mp c19
      refine r_iload_n (q := 23) (z := 2) C 2 rfl (by decide +kernel) rfl rfl ?_
      refine r_iconst (q := 24) (z := 1) (v := 1) C rfl (by decide +kernel) (by decide) ?_
      refine r_icmp_lt (q := 27) (off := 29) (tgt := 53) C rfl (by decide +kernel) (by decide) (fun c24 => ?_) (fun c24 => ?_)
      · exact wX.sub (lsub_s (lsub_s (lsub_s (lsub_s (lsub_s (lsub_n (lsub_n (lsub_n (lsub_n (lsub_nil)))))))))) (J53 (fun e => absurd e.2.1.1 (Int32.not_le.mpr c24)))
      · refine r_iload_n (q := 28) (z := 2) C 2 rfl (by decide +kernel) rfl rfl ?_
        refine r_iconst (q := 29) (z := 4) (v := 4) C rfl (by decide +kernel) (by decide) ?_
        refine r_icmp_gt (q := 32) (off := 24) (tgt := 53) C rfl (by decide +kernel) (by decide) (fun c29 => ?_) (fun c29 => ?_)
        · exact wX.sub (lsub_s (lsub_s (lsub_s (lsub_s (lsub_s (lsub_n (lsub_n (lsub_n (lsub_n (lsub_nil)))))))))) (J53 (fun e => absurd e.2.1.2 (Int32.not_le.mpr c29)))
        · refine r_iload_n (q := 33) (z := 3) C 3 rfl (by decide +kernel) rfl rfl ?_
          refine r_iconst (q := 34) (z := 1) (v := 1) C rfl (by decide +kernel) (by decide) ?_
          refine r_icmp_lt (q := 37) (off := 19) (tgt := 53) C rfl (by decide +kernel) (by decide) (fun c34 => ?_) (fun c34 => ?_)
          · exact wX.sub (lsub_s (lsub_s (lsub_s (lsub_s (lsub_s (lsub_n (lsub_n (lsub_n (lsub_n (lsub_nil)))))))))) (J53 (fun e => absurd e.2.2.1.1 (Int32.not_le.mpr c34)))
          · refine r_iload_n (q := 38) (z := 3) C 3 rfl (by decide +kernel) rfl rfl ?_
            refine r_iconst (q := 39) (z := 4) (v := 4) C rfl (by decide +kernel) (by decide) ?_
            refine r_icmp_gt (q := 42) (off := 14) (tgt := 53) C rfl (by decide +kernel) (by decide) (fun c39 => ?_) (fun c39 => ?_)
            · exact wX.sub (lsub_s (lsub_s (lsub_s (lsub_s (lsub_s (lsub_n (lsub_n (lsub_n (lsub_n (lsub_nil)))))))))) (J53 (fun e => absurd e.2.2.1.2 (Int32.not_le.mpr c39)))
            · refine r_iload (q := 44) C 4 rfl (by decide +kernel) rfl ?_
              refine r_if_lt (q := 47) (off := 9) (tgt := 53) C rfl (by decide +kernel) (by decide) (fun c44 => ?_) (fun c44 => ?_)
              · exact wX.sub (lsub_s (lsub_s (lsub_s (lsub_s (lsub_s (lsub_n (lsub_n (lsub_n (lsub_n (lsub_nil)))))))))) (J53 (fun e => absurd e.2.2.2.1 (Int32.not_le.mpr c44)))
              · refine r_iload (q := 49) C 4 rfl (by decide +kernel) rfl ?_
                refine r_iconst (q := 50) (z := 1) (v := 1) C rfl (by decide +kernel) (by decide) ?_
                refine r_icmp_le (q := 53) (off := 5) (tgt := 55) C rfl (by decide +kernel) (by decide) (fun c50 => ?_) (fun c50 => ?_)
                · have hy : chP σ x w z k := ⟨⟨c10, c19⟩, ⟨Int32.not_lt.mp c24, Int32.not_lt.mp c29⟩, ⟨Int32.not_lt.mp c34, Int32.not_lt.mp c39⟩, Int32.not_lt.mp c44, c50⟩
                  obtain ⟨w1, w2, w3⟩ := nI_rng (a := 1) (b := 4) (by decide) hy.2.1.1 hy.2.1.2 (by decide)
                  obtain ⟨z1, z2, z3⟩ := nI_rng (a := 1) (b := 4) (by decide) hy.2.2.1.1 hy.2.2.1.2 (by decide)
                  generalize ew0 : w.toNatClampNeg = w0 at w1 w2 w3
                  generalize ez0 : z.toNatClampNeg = z0 at z1 z2 z3
                  clear J53
                  subst w3
                  subst z3
                  subst hxr
                  refine r_bipush (q := 57) (z := (-2)) (v := (-2)) C rfl (by decide +kernel) (by decide) ?_
                  refine r_istore (q := 59) C 5 rfl (by decide +kernel) (by decide) (by first | rfl | exact okst_rv rfl) ?_
                  dsimp only [List.set]
                  refine r_iconst (q := 60) (z := 0) (v := 0) C rfl (by decide +kernel) (by decide) ?_
                  refine r_istore (q := 62) C 6 rfl (by decide +kernel) (by decide) (by first | rfl | exact okst_rv rfl) ?_
                  dsimp only [List.set]
                  refine r_iconst (q := 63) (z := 0) (v := 0) C rfl (by decide +kernel) (by decide) ?_
                  refine r_istore (q := 65) C 7 rfl (by decide +kernel) (by decide) (by first | rfl | exact okst_rv rfl) ?_
                  dsimp only [List.set]
                  have L65 : ∀ (fuel65 : Nat) (p : Nat), 240 - p < fuel65 → (p ≤ 240) → wX G Γ (qM G Γ PP 0 0) 0 0 (h.setI 448 m 0) 65 [some (rv m), some (.int (nI r)), some (.int (nI w0)), some (.int (nI z0)), some (.int k), some (.int (pm2 (chg σ r w0 z0 p).1)), some (.int (nI (chg σ r w0 z0 p).2)), some (.int (nI p)), none] [] := by
                    intro fuel65
                    induction fuel65 with
                    | zero =>
                      intro p hm65
                      exact absurd hm65 (Nat.not_lt_zero _)
                    | succ fuel65 ih65 =>
                      intro p hm65 hp
                      refine r_iload (q := 67) C 7 rfl (by decide +kernel) rfl ?_
                      refine r_sipush (q := 70) (z := 240) (v := 240) C rfl (by decide +kernel) (by decide) ?_
                      refine r_icmp_ge (q := 73) (off := 83) (tgt := 153) C rfl (by decide +kernel) (by decide) (fun c70 => ?_) (fun c70 => ?_)
                      · have ep : p = 240 := by have := (nI_leI (a := 240) (by omega) (by omega)).mp c70; omega
                        refine r_iload (q := 155) C 5 rfl (by decide +kernel) rfl ?_
                        refine r_if_ge (q := 158) (off := 8) (tgt := 163) C rfl (by decide +kernel) (by decide) (fun c155 => ?_) (fun c155 => ?_)
                        · have hb : (chg σ r w0 z0 p).1 < 240 := Classical.not_not.mp (mt pm2_neg.mpr (Int32.not_lt.mpr c155))
                          refine r_iload (q := 165) C 4 rfl (by decide +kernel) rfl ?_
                          refine r_if_ne (q := 168) (off := 8) (tgt := 173) C rfl (by decide +kernel) (by decide) (fun c165 => ?_) (fun c165 => ?_)
                          · refine r_iload (q := 175) C 5 rfl (by decide +kernel) rfl ?_
                            exact r_iret C (by decide +kernel) rfl (by decide) (by decide) (eqP hPP ⟨_, rfl, ⟨by rw [cif_t hy, nI_clamp (by omega), ew0, ez0]; subst ep; unfold chV; first | (rw [if_neg hb]; done) | (rw [if_pos hb, if_pos c165]; done) | (rw [if_pos hb, if_neg c165]; exact (if_pos hb).symm), rfl⟩⟩)
                          · refine r_iload (q := 170) C 6 rfl (by decide +kernel) rfl ?_
                            refine r_goto (off := 5) (tgt := 175) C (by decide +kernel) (by decide) ?_
                            exact r_iret C (by decide +kernel) rfl (by decide) (by decide) (eqP hPP ⟨_, rfl, ⟨by rw [cif_t hy, nI_clamp (by omega), ew0, ez0]; subst ep; unfold chV; first | (rw [if_neg hb]; done) | (rw [if_pos hb, if_pos c165]; done) | (rw [if_pos hb, if_neg c165]; exact (if_pos hb).symm), rfl⟩⟩)
                        · have hb : ¬ (chg σ r w0 z0 p).1 < 240 := pm2_neg.mp (Int32.not_le.mp c155)
                          refine r_bipush (q := 160) (z := (-2)) (v := (-2)) C rfl (by decide +kernel) (by decide) ?_
                          refine r_goto (off := 15) (tgt := 175) C (by decide +kernel) (by decide) ?_
                          exact r_iret C (by decide +kernel) rfl (by decide) (by decide) (eqP hPP ⟨_, rfl, ⟨by rw [cif_t hy, nI_clamp (by omega), ew0, ez0]; subst ep; unfold chV; first | (rw [if_neg hb]; done) | (rw [if_pos hb, if_pos c165]; done) | (rw [if_pos hb, if_neg c165]; exact (if_pos hb).symm), rfl⟩⟩)
                      · have hlt : p < 240 := Nat.lt_of_not_le (fun e => c70 (nI_le (a := 240) e (by omega)))
                        have J147 : ∀ (v5 v6 : Int32), (v5 = pm2 (chg σ r w0 z0 (p + 1)).1) → (v6 = nI (chg σ r w0 z0 (p + 1)).2) → wX G Γ (qM G Γ PP 0 0) 0 0 (h.setI 448 m 0) 147 [some (rv m), some (.int (nI r)), some (.int (nI w0)), some (.int (nI z0)), some (.int k), some (.int v5), some (.int v6), some (.int (nI p)), none] [] := by
                          intro v5 v6 hv5 hv6
                          subst hv5
                          subst hv6
                          refine r_iinc (q := 150) (z := 1) (v := 1) C 7 rfl (by decide +kernel) rfl (by decide) (by decide) (by first | rfl | exact okst_rv rfl) ?_
                          dsimp only [List.set]
                          rw [nI_1]
                          refine r_goto (off := -85) (tgt := 65) C (by decide +kernel) (by decide) ?_
                          exact wX.sub (lsub_s (lsub_s (lsub_s (lsub_s (lsub_s (lsub_s (lsub_s (lsub_s (lsub_n (lsub_nil)))))))))) (ih65 (p + 1) (by omega) (by omega))
                        have J111 : ∀ (v : Int32), (v = nI (wAt z0 w0 p)) → wX G Γ (qM G Γ PP 0 0) 0 0 (h.setI 448 m 0) 111 [some (rv m), some (.int (nI r)), some (.int (nI w0)), some (.int (nI z0)), some (.int k), some (.int (pm2 (chg σ r w0 z0 p).1)), some (.int (nI (chg σ r w0 z0 p).2)), some (.int (nI p)), none] [.int v, .int (nI (wAt w0 z0 p)), .int (nI (py p)), .int (nI (px p)), .int (nI r), rv m] := by
                          intro v hv
                          subst hv
                          refine cV5I (q := 114) C R rfl (by decide +kernel) lk_X7_359 (c_X7_movesFor hm M1 W hr px_lt (py_lt hlt) (wAt_r ⟨w1, w2⟩ ⟨z1, z2⟩) (wAt_r ⟨z1, z2⟩ ⟨w1, w2⟩)) (by decide) (by decide) (by decide) rfl (by first | exact Nat.le_of_ble_eq_true rfl | (simp only [List.map_cons, List.map_nil, List.sum_cons, List.sum_nil, rv_cat]; exact Nat.le_of_ble_eq_true rfl)) rfl hm.1 ?_
                          rintro _ _ ⟨rfl, rfl⟩
                          have hm10 := mset_10 (σ.mvq r (px p) (py p) (wAt w0 z0 p) (wAt z0 w0 p)) r10
                          have hp1 := popk_le (mset (σ.mvq r (px p) (py p) (wAt w0 z0 p) (wAt z0 w0 p)) σ.n) 10
                          have hp2 := popk_le (chg σ r w0 z0 p).2 10
                          have hc2 := chg_2 r10 (r := r) (w := w0) (z := z0) p
                          refine r_istore (q := 116) C 8 rfl (by decide +kernel) (by decide) (by first | rfl | exact okst_rv rfl) ?_
                          dsimp only [List.set]
                          refine r_iload (q := 118) C 8 rfl (by decide +kernel) rfl ?_
                          refine r_if_lt (q := 121) (off := 29) (tgt := 147) C rfl (by decide +kernel) (by decide) (fun c118 => ?_) (fun c118 => ?_)
                          · have hg : σ.gok r (px p) (py p) (wAt w0 z0 p) (wAt z0 w0 p) = false := by
                              cases e : σ.gok r (px p) (py p) (wAt w0 z0 p) (wAt z0 w0 p) with
                              | false => rfl
                              | true => rw [e] at c118; exact absurd c118 (nI_pos (by omega))
                            have ec : (chg σ r w0 z0 (p + 1)) = (chg σ r w0 z0 p) := by simp only [chg, hg, Bool.false_and]; rfl
                            exact wX.sub (lsub_s (lsub_s (lsub_s (lsub_s (lsub_s (lsub_s (lsub_s (lsub_s (lsub_n (lsub_nil)))))))))) (J147 _ _ (by rw [ec]) (by rw [ec]))
                          · have hg : σ.gok r (px p) (py p) (wAt w0 z0 p) (wAt z0 w0 p) = true := by
                              cases e : σ.gok r (px p) (py p) (wAt w0 z0 p) (wAt z0 w0 p) with
                              | true => rfl
                              | false => rw [e] at c118; exact absurd (show (-2 : Int32) < 0 by decide) c118
                            rw [if_pos hg] at c118 ⊢
                            refine r_iload (q := 123) C 5 rfl (by decide +kernel) rfl ?_
                            refine r_if_lt (q := 126) (off := 16) (tgt := 139) C rfl (by decide +kernel) (by decide) (fun c123 => ?_) (fun c123 => ?_)
                            · have ec : (chg σ r w0 z0 (p + 1)) = (p, (mset (σ.mvq r (px p) (py p) (wAt w0 z0 p) (wAt z0 w0 p)) σ.n)) := by simp only [chg, hg, Bool.true_and]; rw [if_pos]; simp [pm2_neg.mp c123]
                              refine r_iload (q := 141) C 7 rfl (by decide +kernel) rfl ?_
                              refine r_istore (q := 143) C 5 rfl (by decide +kernel) (by decide) (by first | rfl | exact okst_rv rfl) ?_
                              dsimp only [List.set]
                              refine r_iload (q := 145) C 8 rfl (by decide +kernel) rfl ?_
                              refine r_istore (q := 147) C 6 rfl (by decide +kernel) (by decide) (by first | rfl | exact okst_rv rfl) ?_
                              dsimp only [List.set]
                              exact wX.sub (lsub_s (lsub_s (lsub_s (lsub_s (lsub_s (lsub_s (lsub_s (lsub_s (lsub_n (lsub_nil)))))))))) (J147 _ _ (by rw [ec]; exact (if_pos hlt).symm) (by rw [ec]))
                            · refine r_iload (q := 128) C 8 rfl (by decide +kernel) rfl ?_
                              refine cS1I (q := 131) C R rfl (by decide +kernel) lk_X7_363 (c_X7_bits hm10) (by decide) (by decide) (by decide) rfl (by first | exact Nat.le_of_ble_eq_true rfl | (simp only [List.map_cons, List.map_nil, List.sum_cons, List.sum_nil, rv_cat]; exact Nat.le_of_ble_eq_true rfl))  ?_
                              rintro _ _ ⟨rfl, rfl⟩
                              refine r_iload (q := 133) C 6 rfl (by decide +kernel) rfl ?_
                              refine cS1I (q := 136) C R rfl (by decide +kernel) lk_X7_363 (c_X7_bits hc2) (by decide) (by decide) (by decide) rfl (by first | exact Nat.le_of_ble_eq_true rfl | (simp only [List.map_cons, List.map_nil, List.sum_cons, List.sum_nil, rv_cat]; exact Nat.le_of_ble_eq_true rfl))  ?_
                              rintro _ _ ⟨rfl, rfl⟩
                              refine r_icmp_ge (q := 139) (off := 11) (tgt := 147) C rfl (by decide +kernel) (by decide) (fun c136 => ?_) (fun c136 => ?_)
                              · have hb : (chg σ r w0 z0 p).1 < 240 := Classical.not_not.mp (mt pm2_neg.mpr c123)
                                have c136 := (nI_leI (by show popk _ 10 < _; omega) (by show popk _ 10 < _; omega)).mp c136
                                have ec : (chg σ r w0 z0 (p + 1)) = (chg σ r w0 z0 p) := by simp only [chg, hg, Bool.true_and]; rw [if_neg]; simp [hb]; omega
                                exact wX.sub (lsub_s (lsub_s (lsub_s (lsub_s (lsub_s (lsub_s (lsub_s (lsub_s (lsub_n (lsub_nil)))))))))) (J147 _ _ (by rw [ec]) (by rw [ec]))
                              · have hb : (chg σ r w0 z0 p).1 < 240 := Classical.not_not.mp (mt pm2_neg.mpr c123)
                                have c136 := mt (fun e => nI_le e (by show popk _ 10 < _; omega)) c136
                                have ec : (chg σ r w0 z0 (p + 1)) = (p, (mset (σ.mvq r (px p) (py p) (wAt w0 z0 p) (wAt z0 w0 p)) σ.n)) := by simp only [chg, hg, Bool.true_and]; rw [if_pos]; simp [hb]; omega
                                refine r_iload (q := 141) C 7 rfl (by decide +kernel) rfl ?_
                                refine r_istore (q := 143) C 5 rfl (by decide +kernel) (by decide) (by first | rfl | exact okst_rv rfl) ?_
                                dsimp only [List.set]
                                refine r_iload (q := 145) C 8 rfl (by decide +kernel) rfl ?_
                                refine r_istore (q := 147) C 6 rfl (by decide +kernel) (by decide) (by first | rfl | exact okst_rv rfl) ?_
                                dsimp only [List.set]
                                exact wX.sub (lsub_s (lsub_s (lsub_s (lsub_s (lsub_s (lsub_s (lsub_s (lsub_s (lsub_n (lsub_nil)))))))))) (J147 _ _ (by rw [ec]; exact (if_pos hlt).symm) (by rw [ec]))
                        have J98 : ∀ (v : Int32), (v = nI (wAt w0 z0 p)) → wX G Γ (qM G Γ PP 0 0) 0 0 (h.setI 448 m 0) 98 [some (rv m), some (.int (nI r)), some (.int (nI w0)), some (.int (nI z0)), some (.int k), some (.int (pm2 (chg σ r w0 z0 p).1)), some (.int (nI (chg σ r w0 z0 p).2)), some (.int (nI p)), none] [.int v, .int (nI (py p)), .int (nI (px p)), .int (nI r), rv m] := by
                          intro v hv
                          subst hv
                          refine r_iload (q := 100) C 7 rfl (by decide +kernel) rfl ?_
                          refine r_iconst (q := 101) (z := 2) (v := 2) C rfl (by decide +kernel) (by decide) ?_
                          refine r_irem (q := 102) C rfl (by decide +kernel) (by decide) ?_
                          rw [show nI p - nI p / 2 * 2 = nI (p % 2) from pk_rem (d := 2) (by omega) (by decide) (by decide)]
                          refine r_iconst (q := 103) (z := 1) (v := 1) C rfl (by decide +kernel) (by decide) ?_
                          refine r_icmp_ne (q := 106) (off := 7) (tgt := 110) C rfl (by decide +kernel) (by decide) (fun c103 => ?_) (fun c103 => ?_)
                          · have ev : nI z0 = nI (wAt z0 w0 p) := by rw [wAt, if_neg (fun e => c103 (by rw [e]; rfl))]
                            refine r_iload_n (q := 111) (z := 3) C 3 rfl (by decide +kernel) rfl rfl ?_
                            exact wX.sub (lsub_s (lsub_s (lsub_s (lsub_s (lsub_s (lsub_s (lsub_s (lsub_s (lsub_n (lsub_nil)))))))))) (J111 _ ev)
                          · have ev : nI w0 = nI (wAt z0 w0 p) := by rw [wAt, if_pos ((nI_eq (b := 1) (by omega) (by decide)).mp c103)]
                            refine r_iload_n (q := 107) (z := 2) C 2 rfl (by decide +kernel) rfl rfl ?_
                            refine r_goto (off := 4) (tgt := 111) C (by decide +kernel) (by decide) ?_
                            exact wX.sub (lsub_s (lsub_s (lsub_s (lsub_s (lsub_s (lsub_s (lsub_s (lsub_s (lsub_n (lsub_nil)))))))))) (J111 _ ev)
                        refine r_aload_n (q := 74) (z := 0) C 0 rfl (by decide +kernel) rfl rfl ?_
                        refine r_iload_n (q := 75) (z := 1) C 1 rfl (by decide +kernel) rfl rfl ?_
                        refine r_iload (q := 77) C 7 rfl (by decide +kernel) rfl ?_
                        refine cS1I (q := 80) C R rfl (by decide +kernel) lk_X7_246 (c_X7_placeX hlt) (by decide) (by decide) (by decide) rfl (by first | exact Nat.le_of_ble_eq_true rfl | (simp only [List.map_cons, List.map_nil, List.sum_cons, List.sum_nil, rv_cat]; exact Nat.le_of_ble_eq_true rfl))  ?_
                        rintro _ _ ⟨rfl, rfl⟩
                        refine r_iload (q := 82) C 7 rfl (by decide +kernel) rfl ?_
                        refine cS1I (q := 85) C R rfl (by decide +kernel) lk_X7_249 (c_X7_placeY hlt) (by decide) (by decide) (by decide) rfl (by first | exact Nat.le_of_ble_eq_true rfl | (simp only [List.map_cons, List.map_nil, List.sum_cons, List.sum_nil, rv_cat]; exact Nat.le_of_ble_eq_true rfl))  ?_
                        rintro _ _ ⟨rfl, rfl⟩
                        refine r_iload (q := 87) C 7 rfl (by decide +kernel) rfl ?_
                        refine r_iconst (q := 88) (z := 2) (v := 2) C rfl (by decide +kernel) (by decide) ?_
                        refine r_irem (q := 89) C rfl (by decide +kernel) (by decide) ?_
                        rw [show nI p - nI p / 2 * 2 = nI (p % 2) from pk_rem (d := 2) (by omega) (by decide) (by decide)]
                        refine r_iconst (q := 90) (z := 1) (v := 1) C rfl (by decide +kernel) (by decide) ?_
                        refine r_icmp_ne (q := 93) (off := 7) (tgt := 97) C rfl (by decide +kernel) (by decide) (fun c90 => ?_) (fun c90 => ?_)
                        · have ev : nI w0 = nI (wAt w0 z0 p) := by rw [wAt, if_neg (fun e => c90 (by rw [e]; rfl))]
                          refine r_iload_n (q := 98) (z := 2) C 2 rfl (by decide +kernel) rfl rfl ?_
                          exact wX.sub (lsub_s (lsub_s (lsub_s (lsub_s (lsub_s (lsub_s (lsub_s (lsub_s (lsub_n (lsub_nil)))))))))) (J98 _ ev)
                        · have ev : nI z0 = nI (wAt w0 z0 p) := by rw [wAt, if_pos ((nI_eq (b := 1) (by omega) (by decide)).mp c90)]
                          refine r_iload_n (q := 94) (z := 3) C 3 rfl (by decide +kernel) rfl rfl ?_
                          refine r_goto (off := 4) (tgt := 98) C (by decide +kernel) (by decide) ?_
                          exact wX.sub (lsub_s (lsub_s (lsub_s (lsub_s (lsub_s (lsub_s (lsub_s (lsub_s (lsub_n (lsub_nil)))))))))) (J98 _ ev)
                  exact wX.sub (lsub_s (lsub_s (lsub_s (lsub_s (lsub_s (lsub_s (lsub_s (lsub_s (lsub_n (lsub_nil)))))))))) (L65 241 0 (by omega) (by omega))
                · exact wX.sub (lsub_s (lsub_s (lsub_s (lsub_s (lsub_s (lsub_n (lsub_n (lsub_n (lsub_n (lsub_nil)))))))))) (J53 (fun e => c50 e.2.2.2.2))
