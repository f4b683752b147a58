theorem MR.wd_up {σ : SG} {h : HP} {m r : Nat} {p : Nat} (hm : LM h.kd h.gl h.fr m) (M : MR σ h m) {v : Int32} (hv : v = nI p) : MR (σ.wd_ (upN σ.wd r p)) (h.row (h.fr 473 m) (upd (h.ai (h.fr 473 m)) r v)) m := by
  obtain ⟨h1, h2, h3, a0, a1, a2, a3, a4, a5, a6, a7, a8, a9, a10⟩ := M
  have key : ∀ (g : Nat), h.gl (h.fr g m) = g → g ≠ 473 → (h.row (h.fr 473 m) (upd (h.ai (h.fr 473 m)) r v)).ai (h.fr g m) = h.ai (h.fr g m) := fun g e hg => ai_row_ne (gl_ne e hm.g473 hg)
  refine ⟨h1, h2, h3, ?_, ?_, ?_, ?_, ?_, ?_, ?_, ?_, ?_, ?_, ?_⟩
  · intro j hj
    rw [fr_row, ai_row_eq]
    show (if j = r then v else h.ai (h.fr 473 m) j) = nI (upN σ.wd r p j)
    by_cases e : j = r
    · rw [if_pos e, e, upN_s, hv]
    · rw [if_neg e, upN_n e]; exact a0 j hj
  · rw [fr_row, key 474 hm.g474 (by decide)]; exact a1
  · rw [fr_row, key 475 hm.g475 (by decide)]; exact a2
  · rw [fr_row, key 476 hm.g476 (by decide)]; exact a3
  · rw [fr_row, key 477 hm.g477 (by decide)]; exact a4
  · rw [fr_row, key 478 hm.g478 (by decide)]; exact a5
  · rw [fr_row, key 479 hm.g479 (by decide)]; exact a6
  · rw [fr_row, key 480 hm.g480 (by decide)]; exact a7
  · rw [fr_row, key 481 hm.g481 (by decide)]; exact a8
  · rw [fr_row, key 482 hm.g482 (by decide)]; exact a9
  · rw [fr_row, key 484 hm.g484 (by decide)]; exact a10
theorem MR.hg_up {σ : SG} {h : HP} {m r : Nat} {p : Nat} (hm : LM h.kd h.gl h.fr m) (M : MR σ h m) {v : Int32} (hv : v = nI p) : MR (σ.hg_ (upN σ.hg r p)) (h.row (h.fr 474 m) (upd (h.ai (h.fr 474 m)) r v)) m := by
  obtain ⟨h1, h2, h3, a0, a1, a2, a3, a4, a5, a6, a7, a8, a9, a10⟩ := M
  have key : ∀ (g : Nat), h.gl (h.fr g m) = g → g ≠ 474 → (h.row (h.fr 474 m) (upd (h.ai (h.fr 474 m)) r v)).ai (h.fr g m) = h.ai (h.fr g m) := fun g e hg => ai_row_ne (gl_ne e hm.g474 hg)
  refine ⟨h1, h2, h3, ?_, ?_, ?_, ?_, ?_, ?_, ?_, ?_, ?_, ?_, ?_⟩
  · rw [fr_row, key 473 hm.g473 (by decide)]; exact a0
  · intro j hj
    rw [fr_row, ai_row_eq]
    show (if j = r then v else h.ai (h.fr 474 m) j) = nI (upN σ.hg r p j)
    by_cases e : j = r
    · rw [if_pos e, e, upN_s, hv]
    · rw [if_neg e, upN_n e]; exact a1 j hj
  · rw [fr_row, key 475 hm.g475 (by decide)]; exact a2
  · rw [fr_row, key 476 hm.g476 (by decide)]; exact a3
  · rw [fr_row, key 477 hm.g477 (by decide)]; exact a4
  · rw [fr_row, key 478 hm.g478 (by decide)]; exact a5
  · rw [fr_row, key 479 hm.g479 (by decide)]; exact a6
  · rw [fr_row, key 480 hm.g480 (by decide)]; exact a7
  · rw [fr_row, key 481 hm.g481 (by decide)]; exact a8
  · rw [fr_row, key 482 hm.g482 (by decide)]; exact a9
  · rw [fr_row, key 484 hm.g484 (by decide)]; exact a10
theorem MR.pw_up {σ : SG} {h : HP} {m r : Nat} {p : Nat} (hm : LM h.kd h.gl h.fr m) (M : MR σ h m) {v : Int32} (hv : v = nI p) : MR (σ.pw_ (upN σ.pw r p)) (h.row (h.fr 475 m) (upd (h.ai (h.fr 475 m)) r v)) m := by
  obtain ⟨h1, h2, h3, a0, a1, a2, a3, a4, a5, a6, a7, a8, a9, a10⟩ := M
  have key : ∀ (g : Nat), h.gl (h.fr g m) = g → g ≠ 475 → (h.row (h.fr 475 m) (upd (h.ai (h.fr 475 m)) r v)).ai (h.fr g m) = h.ai (h.fr g m) := fun g e hg => ai_row_ne (gl_ne e hm.g475 hg)
  refine ⟨h1, h2, h3, ?_, ?_, ?_, ?_, ?_, ?_, ?_, ?_, ?_, ?_, ?_⟩
  · rw [fr_row, key 473 hm.g473 (by decide)]; exact a0
  · rw [fr_row, key 474 hm.g474 (by decide)]; exact a1
  · intro j hj
    rw [fr_row, ai_row_eq]
    show (if j = r then v else h.ai (h.fr 475 m) j) = nI (upN σ.pw r p j)
    by_cases e : j = r
    · rw [if_pos e, e, upN_s, hv]
    · rw [if_neg e, upN_n e]; exact a2 j hj
  · rw [fr_row, key 476 hm.g476 (by decide)]; exact a3
  · rw [fr_row, key 477 hm.g477 (by decide)]; exact a4
  · rw [fr_row, key 478 hm.g478 (by decide)]; exact a5
  · rw [fr_row, key 479 hm.g479 (by decide)]; exact a6
  · rw [fr_row, key 480 hm.g480 (by decide)]; exact a7
  · rw [fr_row, key 481 hm.g481 (by decide)]; exact a8
  · rw [fr_row, key 482 hm.g482 (by decide)]; exact a9
  · rw [fr_row, key 484 hm.g484 (by decide)]; exact a10
theorem MR.ns_up {σ : SG} {h : HP} {m r : Nat} {p : Nat} (hm : LM h.kd h.gl h.fr m) (M : MR σ h m) {v : Int32} (hv : v = nI p) : MR (σ.ns_ (upN σ.ns r p)) (h.row (h.fr 476 m) (upd (h.ai (h.fr 476 m)) r v)) m := by
  obtain ⟨h1, h2, h3, a0, a1, a2, a3, a4, a5, a6, a7, a8, a9, a10⟩ := M
  have key : ∀ (g : Nat), h.gl (h.fr g m) = g → g ≠ 476 → (h.row (h.fr 476 m) (upd (h.ai (h.fr 476 m)) r v)).ai (h.fr g m) = h.ai (h.fr g m) := fun g e hg => ai_row_ne (gl_ne e hm.g476 hg)
  refine ⟨h1, h2, h3, ?_, ?_, ?_, ?_, ?_, ?_, ?_, ?_, ?_, ?_, ?_⟩
  · rw [fr_row, key 473 hm.g473 (by decide)]; exact a0
  · rw [fr_row, key 474 hm.g474 (by decide)]; exact a1
  · rw [fr_row, key 475 hm.g475 (by decide)]; exact a2
  · intro j hj
    rw [fr_row, ai_row_eq]
    show (if j = r then v else h.ai (h.fr 476 m) j) = nI (upN σ.ns r p j)
    by_cases e : j = r
    · rw [if_pos e, e, upN_s, hv]
    · rw [if_neg e, upN_n e]; exact a3 j hj
  · rw [fr_row, key 477 hm.g477 (by decide)]; exact a4
  · rw [fr_row, key 478 hm.g478 (by decide)]; exact a5
  · rw [fr_row, key 479 hm.g479 (by decide)]; exact a6
  · rw [fr_row, key 480 hm.g480 (by decide)]; exact a7
  · rw [fr_row, key 481 hm.g481 (by decide)]; exact a8
  · rw [fr_row, key 482 hm.g482 (by decide)]; exact a9
  · rw [fr_row, key 484 hm.g484 (by decide)]; exact a10
theorem MR.rk_up {σ : SG} {h : HP} {m r : Nat} {p : Nat} (hm : LM h.kd h.gl h.fr m) (M : MR σ h m) {v : Int32} (hv : v = nI p) : MR (σ.rk_ (upN σ.rk r p)) (h.row (h.fr 477 m) (upd (h.ai (h.fr 477 m)) r v)) m := by
  obtain ⟨h1, h2, h3, a0, a1, a2, a3, a4, a5, a6, a7, a8, a9, a10⟩ := M
  have key : ∀ (g : Nat), h.gl (h.fr g m) = g → g ≠ 477 → (h.row (h.fr 477 m) (upd (h.ai (h.fr 477 m)) r v)).ai (h.fr g m) = h.ai (h.fr g m) := fun g e hg => ai_row_ne (gl_ne e hm.g477 hg)
  refine ⟨h1, h2, h3, ?_, ?_, ?_, ?_, ?_, ?_, ?_, ?_, ?_, ?_, ?_⟩
  · rw [fr_row, key 473 hm.g473 (by decide)]; exact a0
  · rw [fr_row, key 474 hm.g474 (by decide)]; exact a1
  · rw [fr_row, key 475 hm.g475 (by decide)]; exact a2
  · rw [fr_row, key 476 hm.g476 (by decide)]; exact a3
  · intro j hj
    rw [fr_row, ai_row_eq]
    show (if j = r then v else h.ai (h.fr 477 m) j) = nI (upN σ.rk r p j)
    by_cases e : j = r
    · rw [if_pos e, e, upN_s, hv]
    · rw [if_neg e, upN_n e]; exact a4 j hj
  · rw [fr_row, key 478 hm.g478 (by decide)]; exact a5
  · rw [fr_row, key 479 hm.g479 (by decide)]; exact a6
  · rw [fr_row, key 480 hm.g480 (by decide)]; exact a7
  · rw [fr_row, key 481 hm.g481 (by decide)]; exact a8
  · rw [fr_row, key 482 hm.g482 (by decide)]; exact a9
  · rw [fr_row, key 484 hm.g484 (by decide)]; exact a10
theorem MR.rt_up {σ : SG} {h : HP} {m r : Nat} {p : Nat} (hm : LM h.kd h.gl h.fr m) (M : MR σ h m) {v : Int32} (hv : v = pl p) : MR (σ.rt_ (upN σ.rt r p)) (h.row (h.fr 479 m) (upd (h.ai (h.fr 479 m)) r v)) m := by
  obtain ⟨h1, h2, h3, a0, a1, a2, a3, a4, a5, a6, a7, a8, a9, a10⟩ := M
  have key : ∀ (g : Nat), h.gl (h.fr g m) = g → g ≠ 479 → (h.row (h.fr 479 m) (upd (h.ai (h.fr 479 m)) r v)).ai (h.fr g m) = h.ai (h.fr g m) := fun g e hg => ai_row_ne (gl_ne e hm.g479 hg)
  refine ⟨h1, h2, h3, ?_, ?_, ?_, ?_, ?_, ?_, ?_, ?_, ?_, ?_, ?_⟩
  · rw [fr_row, key 473 hm.g473 (by decide)]; exact a0
  · rw [fr_row, key 474 hm.g474 (by decide)]; exact a1
  · rw [fr_row, key 475 hm.g475 (by decide)]; exact a2
  · rw [fr_row, key 476 hm.g476 (by decide)]; exact a3
  · rw [fr_row, key 477 hm.g477 (by decide)]; exact a4
  · rw [fr_row, key 478 hm.g478 (by decide)]; exact a5
  · intro j hj
    rw [fr_row, ai_row_eq]
    show (if j = r then v else h.ai (h.fr 479 m) j) = pl (upN σ.rt r p j)
    by_cases e : j = r
    · rw [if_pos e, e, upN_s, hv]
    · rw [if_neg e, upN_n e]; exact a6 j hj
  · rw [fr_row, key 480 hm.g480 (by decide)]; exact a7
  · rw [fr_row, key 481 hm.g481 (by decide)]; exact a8
  · rw [fr_row, key 482 hm.g482 (by decide)]; exact a9
  · rw [fr_row, key 484 hm.g484 (by decide)]; exact a10
theorem MR.hd_up {σ : SG} {h : HP} {m r : Nat} {p : Nat} (hm : LM h.kd h.gl h.fr m) (M : MR σ h m) {v : Int32} (hv : v = nI p) : MR (σ.hd_ (upN σ.hd r p)) (h.row (h.fr 480 m) (upd (h.ai (h.fr 480 m)) r v)) m := by
  obtain ⟨h1, h2, h3, a0, a1, a2, a3, a4, a5, a6, a7, a8, a9, a10⟩ := M
  have key : ∀ (g : Nat), h.gl (h.fr g m) = g → g ≠ 480 → (h.row (h.fr 480 m) (upd (h.ai (h.fr 480 m)) r v)).ai (h.fr g m) = h.ai (h.fr g m) := fun g e hg => ai_row_ne (gl_ne e hm.g480 hg)
  refine ⟨h1, h2, h3, ?_, ?_, ?_, ?_, ?_, ?_, ?_, ?_, ?_, ?_, ?_⟩
  · rw [fr_row, key 473 hm.g473 (by decide)]; exact a0
  · rw [fr_row, key 474 hm.g474 (by decide)]; exact a1
  · rw [fr_row, key 475 hm.g475 (by decide)]; exact a2
  · rw [fr_row, key 476 hm.g476 (by decide)]; exact a3
  · rw [fr_row, key 477 hm.g477 (by decide)]; exact a4
  · rw [fr_row, key 478 hm.g478 (by decide)]; exact a5
  · rw [fr_row, key 479 hm.g479 (by decide)]; exact a6
  · intro j hj
    rw [fr_row, ai_row_eq]
    show (if j = r then v else h.ai (h.fr 480 m) j) = nI (upN σ.hd r p j)
    by_cases e : j = r
    · rw [if_pos e, e, upN_s, hv]
    · rw [if_neg e, upN_n e]; exact a7 j hj
  · rw [fr_row, key 481 hm.g481 (by decide)]; exact a8
  · rw [fr_row, key 482 hm.g482 (by decide)]; exact a9
  · rw [fr_row, key 484 hm.g484 (by decide)]; exact a10
theorem MR.ms_up {σ : SG} {h : HP} {m r : Nat} {p : Nat} (hm : LM h.kd h.gl h.fr m) (M : MR σ h m) {v : Int32} (hv : v = nI p) : MR (σ.ms_ (upN σ.ms r p)) (h.row (h.fr 481 m) (upd (h.ai (h.fr 481 m)) r v)) m := by
  obtain ⟨h1, h2, h3, a0, a1, a2, a3, a4, a5, a6, a7, a8, a9, a10⟩ := M
  have key : ∀ (g : Nat), h.gl (h.fr g m) = g → g ≠ 481 → (h.row (h.fr 481 m) (upd (h.ai (h.fr 481 m)) r v)).ai (h.fr g m) = h.ai (h.fr g m) := fun g e hg => ai_row_ne (gl_ne e hm.g481 hg)
  refine ⟨h1, h2, h3, ?_, ?_, ?_, ?_, ?_, ?_, ?_, ?_, ?_, ?_, ?_⟩
  · rw [fr_row, key 473 hm.g473 (by decide)]; exact a0
  · rw [fr_row, key 474 hm.g474 (by decide)]; exact a1
  · rw [fr_row, key 475 hm.g475 (by decide)]; exact a2
  · rw [fr_row, key 476 hm.g476 (by decide)]; exact a3
  · rw [fr_row, key 477 hm.g477 (by decide)]; exact a4
  · rw [fr_row, key 478 hm.g478 (by decide)]; exact a5
  · rw [fr_row, key 479 hm.g479 (by decide)]; exact a6
  · rw [fr_row, key 480 hm.g480 (by decide)]; exact a7
  · intro j hj
    rw [fr_row, ai_row_eq]
    show (if j = r then v else h.ai (h.fr 481 m) j) = nI (upN σ.ms r p j)
    by_cases e : j = r
    · rw [if_pos e, e, upN_s, hv]
    · rw [if_neg e, upN_n e]; exact a8 j hj
  · rw [fr_row, key 482 hm.g482 (by decide)]; exact a9
  · rw [fr_row, key 484 hm.g484 (by decide)]; exact a10
theorem MR.sk_up {σ : SG} {h : HP} {m r : Nat} {p : Bool} (hm : LM h.kd h.gl h.fr m) (M : MR σ h m) {v : Int32} (hv : v = b2i p) : MR (σ.sk_ (upN σ.sk r p)) (h.row (h.fr 482 m) (upd (h.ai (h.fr 482 m)) r v)) m := by
  obtain ⟨h1, h2, h3, a0, a1, a2, a3, a4, a5, a6, a7, a8, a9, a10⟩ := M
  have key : ∀ (g : Nat), h.gl (h.fr g m) = g → g ≠ 482 → (h.row (h.fr 482 m) (upd (h.ai (h.fr 482 m)) r v)).ai (h.fr g m) = h.ai (h.fr g m) := fun g e hg => ai_row_ne (gl_ne e hm.g482 hg)
  refine ⟨h1, h2, h3, ?_, ?_, ?_, ?_, ?_, ?_, ?_, ?_, ?_, ?_, ?_⟩
  · rw [fr_row, key 473 hm.g473 (by decide)]; exact a0
  · rw [fr_row, key 474 hm.g474 (by decide)]; exact a1
  · rw [fr_row, key 475 hm.g475 (by decide)]; exact a2
  · rw [fr_row, key 476 hm.g476 (by decide)]; exact a3
  · rw [fr_row, key 477 hm.g477 (by decide)]; exact a4
  · rw [fr_row, key 478 hm.g478 (by decide)]; exact a5
  · rw [fr_row, key 479 hm.g479 (by decide)]; exact a6
  · rw [fr_row, key 480 hm.g480 (by decide)]; exact a7
  · rw [fr_row, key 481 hm.g481 (by decide)]; exact a8
  · intro j hj
    rw [fr_row, ai_row_eq]
    show (if j = r then v else h.ai (h.fr 482 m) j) = b2i (upN σ.sk r p j)
    by_cases e : j = r
    · rw [if_pos e, e, upN_s, hv]
    · rw [if_neg e, upN_n e]; exact a9 j hj
  · rw [fr_row, key 484 hm.g484 (by decide)]; exact a10
theorem MR.cl_up {σ : SG} {h : HP} {m r : Nat} {p : Bool} (hm : LM h.kd h.gl h.fr m) (M : MR σ h m) {v : Int32} (hv : v = b2i p) : MR (σ.cl_ (upN σ.cl r p)) (h.row (h.fr 484 m) (upd (h.ai (h.fr 484 m)) r v)) m := by
  obtain ⟨h1, h2, h3, a0, a1, a2, a3, a4, a5, a6, a7, a8, a9, a10⟩ := M
  have key : ∀ (g : Nat), h.gl (h.fr g m) = g → g ≠ 484 → (h.row (h.fr 484 m) (upd (h.ai (h.fr 484 m)) r v)).ai (h.fr g m) = h.ai (h.fr g m) := fun g e hg => ai_row_ne (gl_ne e hm.g484 hg)
  refine ⟨h1, h2, h3, ?_, ?_, ?_, ?_, ?_, ?_, ?_, ?_, ?_, ?_, ?_⟩
  · rw [fr_row, key 473 hm.g473 (by decide)]; exact a0
  · rw [fr_row, key 474 hm.g474 (by decide)]; exact a1
  · rw [fr_row, key 475 hm.g475 (by decide)]; exact a2
  · rw [fr_row, key 476 hm.g476 (by decide)]; exact a3
  · rw [fr_row, key 477 hm.g477 (by decide)]; exact a4
  · rw [fr_row, key 478 hm.g478 (by decide)]; exact a5
  · rw [fr_row, key 479 hm.g479 (by decide)]; exact a6
  · rw [fr_row, key 480 hm.g480 (by decide)]; exact a7
  · rw [fr_row, key 481 hm.g481 (by decide)]; exact a8
  · rw [fr_row, key 482 hm.g482 (by decide)]; exact a9
  · intro j hj
    rw [fr_row, ai_row_eq]
    show (if j = r then v else h.ai (h.fr 484 m) j) = b2i (upN σ.cl r p j)
    by_cases e : j = r
    · rw [if_pos e, e, upN_s, hv]
    · rw [if_neg e, upN_n e]; exact a10 j hj
theorem upN_self {α : Type} {f : Nat → α} {k : Nat} : upN f k (f k) = f := funext fun j => by unfold upN; split <;> simp_all
theorem MR.gr_up {σ : SG} {h : HP} {m g : Nat} (M : MR σ h m) : MR (σ.gr_ g) (h.setI 485 m (nI g)) m := ⟨(fi_ne (by decide)).trans M.1, fi_eq, (fi_ne (by decide)).trans M.2.2.1, M.2.2.2⟩
theorem MR.n_up {σ : SG} {h : HP} {m k : Nat} (M : MR σ h m) : MR (σ.n_ k) (h.setI 472 m (nI k)) m := ⟨fi_eq, (fi_ne (by decide)).trans M.2.1, (fi_ne (by decide)).trans M.2.2.1, M.2.2.2⟩
theorem MR.yr_up {σ : SG} {h : HP} {m k : Nat} (M : MR σ h m) : MR (σ.yr_ k) (h.setI 483 m (nI k)) m := ⟨(fi_ne (by decide)).trans M.1, (fi_ne (by decide)).trans M.2.1, fi_eq, M.2.2.2⟩
/-! close -/
def SG.bad (σ : SG) (c : Nat) : Prop := anyb (fun r => σ.cv r c) σ.n = true ∨ c = 12 * σ.gr ∨ ∃ r, r < σ.n ∧ σ.li r < 240 ∧ σ.dr r = c
def SG.jn (σ : SG) (c : Nat) : Prop := ∀ q, q < σ.n → σ.li q < 240 → RS (fun k => !σ.fre k || decide (k = c)) (12 * σ.gr) (σ.dr q)
def clP (σ : SG) (x y : Int32) (t : Bool) : Prop := hasC x y = true ∧ ¬ σ.bad (12 * y + x).toNatClampNeg ∧ (t = true → σ.jn (12 * y + x).toNatClampNeg)
def gtP (σ : SG) (y : Int32) : Prop := (0 ≤ y ∧ y < 10) ∧ lyN σ σ.n = 0 ∧ σ.cl (12 * y.toNatClampNeg) = false
def rdP (σ : SG) (w z p s k : Int32) : Prop := (1 ≤ w ∧ w ≤ 4) ∧ (1 ≤ z ∧ z ≤ 4) ∧ (0 ≤ p ∧ p ≤ 100) ∧ (0 ≤ s ∧ s ≤ 9) ∧ (0 ≤ k ∧ k ≤ 99) ∧ σ.n < 10
def SG.add (σ : SG) (w z p s k : Nat) : SG := (((((σ.wd_ (upN σ.wd σ.n w)).hg_ (upN σ.hg σ.n z)).pw_ (upN σ.pw σ.n p)).ns_ (upN σ.ns σ.n s)).rk_ (upN σ.rk σ.n k)).n_ (σ.n + 1)
theorem nI_rng {x : Int32} {a b : Nat} (hb : b < 1000) (h1 : nI a ≤ x) (h2 : x ≤ nI b) (ha : a < 1000) : a ≤ x.toNatClampNeg ∧ x.toNatClampNeg ≤ b ∧ x = nI x.toNatClampNeg := by
  have e0 : ¬ x < 0 := fun e => absurd (Int32.lt_of_le_of_lt h1 e) (nI_pos (by omega))
  obtain ⟨j, hj, rfl⟩ := nI_of e0
  rw [nI_clamp hj]
  exact ⟨(nI_leI (by omega) hj).mp h1, (nI_leI hj (by omega)).mp h2, rfl⟩
/-- money and power -/
def MB (be sh : Nat → Nat) (ra : Nat) (h : HP) (m : Nat) : Prop := (∀ k, k < 3 → h.ai (h.fr 492 m) k = nI (be k) ∧ be k ≤ 1000) ∧ (∀ k, k < 3 → h.ai (h.fr 494 m) k = nI (sh k) ∧ 1 ≤ sh k ∧ sh k ≤ 1000) ∧ h.fi 493 m = nI ra ∧ ra ≤ 1000
theorem MB.fm {be sh : Nat → Nat} {ra : Nat} {A B : List Nat} {h h' : HP} {m : Nat} (F : Fm A B h h') (hm : LM h.kd h.gl h.fr m) (hA : 492 ∉ A ∧ 494 ∉ A) (hB : 493 ∉ B) (M : MB be sh ra h m) : MB be sh ra h' m := by
  obtain ⟨f1, f2, f3, f4, f5, f6⟩ := F
  obtain ⟨m1, m2, m3, m4⟩ := M
  refine ⟨?_, ?_, (f5 _ _ hB).trans m3, m4⟩
  · rw [f2, (f6 _ (by rw [hm.g492]; exact hA.1)).1]; exact m1
  · rw [f2, (f6 _ (by rw [hm.g494]; exact hA.2)).1]; exact m2
def rentN (σ : SG) (ra : Nat) : Nat → Nat
  | 0 => 0
  | k + 1 => rentN σ ra k + (if σ.li k < 240 then σ.wd k * σ.hg k * ra else 0)

def lookV (σ : SG) (r : Nat) (w : Int32) : Int32 := if w = 0 then (if σ.li r < 240 then 1 else 0) else if w = 1 then pl (σ.li r) else if w = 2 then (if σ.li r < 240 then nI (σ.dr r) else -1) else if w = 3 then pl (σ.rt r) else if w = 4 then nI (σ.hd r) else nI (σ.ms r)
def lkP (σ : SG) (x w : Int32) : Prop := (0 ≤ x ∧ x < nI σ.n) ∧ 0 ≤ w ∧ w ≤ 5
def frN (σ : SG) (k : Nat) : Nat := cnt σ.fre k
def rtN (σ : SG) (k : Nat) : Nat := cnt (fun r => decide (σ.rt r < 240)) k
theorem frN_y {σ : SG} {k : Nat} (h : σ.fre k = true) : frN σ (k + 1) = frN σ k + 1 := by simp [frN, cnt, h]
theorem frN_n {σ : SG} {k : Nat} (h : σ.fre k = false) : frN σ (k + 1) = frN σ k := by simp [frN, cnt, h]
theorem rtN_y {σ : SG} {k : Nat} (h : σ.rt k < 240) : rtN σ (k + 1) = rtN σ k + 1 := by simp [rtN, cnt, h]
theorem rtN_n {σ : SG} {k : Nat} (h : ¬ σ.rt k < 240) : rtN σ (k + 1) = rtN σ k := by simp [rtN, cnt, h]
def countV (σ : SG) (ra : Nat) (ln tp w : Int32) : Int32 := if w = 0 then nI σ.n else if w = 1 then nI (lyN σ σ.n) else if w = 2 then nI σ.yr else if w = 3 then nI (frN σ 120) else if w = 4 then nI (rtN σ σ.n) else if w = 5 then ln else if w = 6 then tp else if w = 7 then nI (rentN σ ra σ.n) else -1

theorem c_X7_thrown {G : GT} {h : HP} {m : Nat} (hm : LM h.kd h.gl h.fr m) : Con G 1 0 0 yX7_thrown cX7_thrown 1 (some .int) [rv m] h (PI (fun v h' => h.fi 448 m = v ∧ h = h')) := by
  refine Con.of (lv := [some (rv m)]) (by decide) (by simp only [lvE_r, lvE_i, lvE_l, lvE_s, lvE_0]; rfl) (by simp only [lgl_r, lgl_i, lgl_l, lgl_s, lgl_0]; decide) (fun Γ C R => ?_)
  refine r_aload_n (q := 1) (z := 0) C 0 rfl (by decide +kernel) rfl rfl ?_
  refine r_getI (q := 4) C 7 0 448 rfl (by decide +kernel) rfl (by decide) rfl rfl wf_X7_1 win7 hm.1 ?_
  exact r_iret C (by decide +kernel) rfl (by decide) (by decide) ⟨_, rfl, ⟨rfl, rfl⟩⟩
theorem c_X7_sick {G : GT} {h : HP} {m : Nat} {σ : SG} {x : Int32} (hm : LM h.kd h.gl h.fr m) (M : MR σ h m) (W : WF σ) : Con G 2 0 0 yX7_sick cX7_sick 2 (some .boolean) [rv m, .int x] h (PI (fun v h' => cif ((0 ≤ x ∧ x < nI σ.n) ∧ σ.sk x.toNatClampNeg = false ∧ ¬ σ.li x.toNatClampNeg < 240) 1 0 = v ∧ MR (cif ((0 ≤ x ∧ x < nI σ.n) ∧ σ.sk x.toNatClampNeg = false ∧ ¬ σ.li x.toNatClampNeg < 240) (σ.sk_ (upN σ.sk x.toNatClampNeg true)) σ) h' m ∧ Fm [482] [448] h h')) := by
  refine Con.of (lv := [some (rv m), some (.int x)]) (by decide) (by simp only [lvE_r, lvE_i, lvE_l, lvE_s, lvE_0]; rfl) (by simp only [lgl_r, lgl_i, lgl_l, lgl_s, lgl_0]; decide) (fun Γ C R => ?_)
  have r10 := W.n10
  have M1 : MR σ (h.setI 448 m 0) m := M.setI (by decide) (by decide) (by decide)
  refine r_aload_n (q := 1) (z := 0) C 0 rfl (by decide +kernel) rfl rfl ?_
  refine r_iconst (q := 2) (z := 0) (v := 0) C rfl (by decide +kernel) (by decide) ?_
  refine r_putI (q := 5) C 7 0 448 rfl (by decide +kernel) rfl (by decide) rfl rfl wf_X7_1 win7 tyX7 tyX7_ok nmX7 rfl (tyX7_ok 0 (by decide)) rfl wnd7 rfl rfl hm.1 ?_
  refine r_aload_n (q := 6) (z := 0) C 0 rfl (by decide +kernel) rfl rfl ?_
  refine r_iload_n (q := 7) (z := 1) C 1 rfl (by decide +kernel) rfl rfl ?_
  refine cV1I (q := 10) C R rfl (by decide +kernel) lk_X7_316 (c_X7_isRide hm M1) (by decide) (by decide) (by decide) rfl (by first | exact Nat.le_of_ble_eq_true rfl | (simp only [List.map_cons, List.map_nil, List.sum_cons, List.sum_nil, rv_cat]; exact Nat.le_of_ble_eq_true rfl)) rfl hm.1 ?_
  rintro _ _ ⟨rfl, rfl⟩
  refine r_if_eq (q := 13) (off := 21) (tgt := 31) C rfl (by decide +kernel) (by decide) (fun c10 => ?_) (fun c10 => ?_)
  · have c10 := of_decide_eq_false ((b2i_0 _).mp c10)
    refine r_iconst (q := 32) (z := 0) (v := 0) C rfl (by decide +kernel) (by decide) ?_
    exact r_zret C (by decide +kernel) rfl (by first | decide | exact b2i_nar _) (by decide) (by decide) ⟨_, rfl, (by
          first | (have hn : ¬ ((0 ≤ x ∧ x < nI σ.n) ∧ σ.sk x.toNatClampNeg = false ∧ ¬ σ.li x.toNatClampNeg < 240) := fun e => c10 e.1
                   rw [cif_f hn, cif_f hn]) | (have hn : ¬ ((0 ≤ nI r ∧ nI r < nI σ.n) ∧ σ.sk r = false ∧ ¬ σ.li r < 240) := fun e => e.2.2 c28
                                               rw [cif_f hn, cif_f hn]) | (have hn : ¬ ((0 ≤ nI r ∧ nI r < nI σ.n) ∧ σ.sk r = false ∧ ¬ σ.li r < 240) := fun e => absurd e.2.1 (by rw [(b2i_n0 _).mp c19]; decide)
                                                                           rw [cif_f hn, cif_f hn])
          exact ⟨rfl, M1, Fm.rf.setI (by decide)⟩)⟩
  · have c10 := of_decide_eq_true ((b2i_n0 _).mp c10)
    obtain ⟨r, hr, rfl⟩ := ride_of r10 c10
    refine r_aload_n (q := 14) (z := 0) C 0 rfl (by decide +kernel) rfl rfl ?_
    refine r_getR (q := 17) C 7 34 482 rfl (by decide +kernel) rfl (by decide) rfl rfl wf_X7_115 win7 hm.1 ?_
    refine r_iload_n (q := 18) (z := 1) C 1 rfl (by decide +kernel) rfl rfl ?_
    refine r_zald (q := 19) C rfl (by decide +kernel) hm.k482 (vp_in_nI (by omega) (by decide)) ?_
    rw [nI_clamp (by omega), M1.ask (by omega)]
    refine r_if_ne (q := 22) (off := 12) (tgt := 31) C rfl (by decide +kernel) (by decide) (fun c19 => ?_) (fun c19 => ?_)
    · refine r_iconst (q := 32) (z := 0) (v := 0) C rfl (by decide +kernel) (by decide) ?_
      exact r_zret C (by decide +kernel) rfl (by first | decide | exact b2i_nar _) (by decide) (by decide) ⟨_, rfl, (by
            first | (have hn : ¬ ((0 ≤ x ∧ x < nI σ.n) ∧ σ.sk x.toNatClampNeg = false ∧ ¬ σ.li x.toNatClampNeg < 240) := fun e => c10 e.1
                     rw [cif_f hn, cif_f hn]) | (have hn : ¬ ((0 ≤ nI r ∧ nI r < nI σ.n) ∧ σ.sk r = false ∧ ¬ σ.li r < 240) := fun e => e.2.2 c28
                                                 rw [cif_f hn, cif_f hn]) | (have hn : ¬ ((0 ≤ nI r ∧ nI r < nI σ.n) ∧ σ.sk r = false ∧ ¬ σ.li r < 240) := fun e => absurd e.2.1 (by rw [(b2i_n0 _).mp c19]; decide)
                                                                             rw [cif_f hn, cif_f hn])
            exact ⟨rfl, M1, Fm.rf.setI (by decide)⟩)⟩
    · refine r_aload_n (q := 23) (z := 0) C 0 rfl (by decide +kernel) rfl rfl ?_
      refine r_getR (q := 26) C 7 30 478 rfl (by decide +kernel) rfl (by decide) rfl rfl wf_X7_103 win7 hm.1 ?_
      refine r_iload_n (q := 27) (z := 1) C 1 rfl (by decide +kernel) rfl rfl ?_
      refine r_iald (q := 28) C rfl (by decide +kernel) hm.k478 (vp_in_nI (by omega) (by decide)) ?_
      rw [nI_clamp (by omega), M1.ali (by omega)]
      refine r_if_lt (q := 31) (off := 5) (tgt := 33) C rfl (by decide +kernel) (by decide) (fun c28 => ?_) (fun c28 => ?_)
      · have c28 := pl_neg.mp c28
        refine r_aload_n (q := 34) (z := 0) C 0 rfl (by decide +kernel) rfl rfl ?_
        refine r_getR (q := 37) C 7 34 482 rfl (by decide +kernel) rfl (by decide) rfl rfl wf_X7_115 win7 hm.1 ?_
        refine r_iload_n (q := 38) (z := 1) C 1 rfl (by decide +kernel) rfl rfl ?_
        refine r_iconst (q := 39) (z := 1) (v := 1) C rfl (by decide +kernel) (by decide) ?_
        refine r_zast (q := 40) C rfl (by decide +kernel) (show vp_nar .boolean 1 = 1 by decide) hm.k482 (vp_in_nI (by omega) (by decide)) ?_
        rw [stI_row, nI_clamp (by omega)]
        refine r_iconst (q := 41) (z := 1) (v := 1) C rfl (by decide +kernel) (by decide) ?_
        exact r_zret C (by decide +kernel) rfl (by first | decide | exact b2i_nar _) (by decide) (by decide) ⟨_, rfl, (by
              have hy : (0 ≤ nI r ∧ nI r < nI σ.n) ∧ σ.sk r = false ∧ ¬ σ.li r < 240 := ⟨c10, (b2i_0 _).mp c19, c28⟩
              rw [cif_t hy, cif_t hy]
              exact ⟨rfl, MR.sk_up (h := h.setI 448 m 0) hm M1 rfl, Fm.row (Fm.rf.setI (by decide)) (by show h.gl (h.fr 482 m) ∈ _; rw [hm.g482]; decide)⟩)⟩
      · have c28 := pl_nn.mp c28
        refine r_iconst (q := 32) (z := 0) (v := 0) C rfl (by decide +kernel) (by decide) ?_
        exact r_zret C (by decide +kernel) rfl (by first | decide | exact b2i_nar _) (by decide) (by decide) ⟨_, rfl, (by
              first | (have hn : ¬ ((0 ≤ x ∧ x < nI σ.n) ∧ σ.sk x.toNatClampNeg = false ∧ ¬ σ.li x.toNatClampNeg < 240) := fun e => c10 e.1
                       rw [cif_f hn, cif_f hn]) | (have hn : ¬ ((0 ≤ nI r ∧ nI r < nI σ.n) ∧ σ.sk r = false ∧ ¬ σ.li r < 240) := fun e => e.2.2 c28
                                                   rw [cif_f hn, cif_f hn]) | (have hn : ¬ ((0 ≤ nI r ∧ nI r < nI σ.n) ∧ σ.sk r = false ∧ ¬ σ.li r < 240) := fun e => absurd e.2.1 (by rw [(b2i_n0 _).mp c19]; decide)
                                                                               rw [cif_f hn, cif_f hn])
              exact ⟨rfl, M1, Fm.rf.setI (by decide)⟩)⟩
theorem c_X7_gate {G : GT} {h : HP} {m : Nat} {σ : SG} {y : Int32} (hm : LM h.kd h.gl h.fr m) (M : MR σ h m) (W : WF σ) : Con G 2 0 0 yX7_gate cX7_gate 2 (some .boolean) [rv m, .int y] h (PI (fun v h' => cif (gtP σ y) 1 0 = v ∧ MR (cif (gtP σ y) (σ.gr_ y.toNatClampNeg) σ) h' m ∧ Fm [] [448, 485] h h')) := by
  refine Con.of (lv := [some (rv m), some (.int y)]) (by decide) (by simp only [lvE_r, lvE_i, lvE_l, lvE_s, lvE_0]; rfl) (by simp only [lgl_r, lgl_i, lgl_l, lgl_s, lgl_0]; decide) (fun Γ C R => ?_)
  have r10 := W.n10
  have M1 : MR σ (h.setI 448 m 0) m := M.setI (by decide) (by decide) (by decide)
  refine r_aload_n (q := 1) (z := 0) C 0 rfl (by decide +kernel) rfl rfl ?_
  refine r_iconst (q := 2) (z := 0) (v := 0) C rfl (by decide +kernel) (by decide) ?_
  refine r_putI (q := 5) C 7 0 448 rfl (by decide +kernel) rfl (by decide) rfl rfl wf_X7_1 win7 tyX7 tyX7_ok nmX7 rfl (tyX7_ok 0 (by decide)) rfl wnd7 rfl rfl hm.1 ?_
  refine r_iload_n (q := 6) (z := 1) C 1 rfl (by decide +kernel) rfl rfl ?_
  refine r_if_lt (q := 9) (off := 28) (tgt := 34) C rfl (by decide +kernel) (by decide) (fun c6 => ?_) (fun c6 => ?_)
  · refine r_iconst (q := 35) (z := 0) (v := 0) C rfl (by decide +kernel) (by decide) ?_
    exact r_zret C (by decide +kernel) rfl (by first | decide | exact b2i_nar _) (by decide) (by decide) ⟨_, rfl, (by
          first | (have hn : ¬ gtP σ y := fun e => absurd e.1.1 (Int32.not_le.mpr c6)
                   rw [cif_f hn, cif_f hn]) | (have hn : ¬ gtP σ y := fun e => absurd e.1.2 (Int32.not_lt.mpr c12)
                                               rw [cif_f hn, cif_f hn]) | (have hn : ¬ gtP σ (nI g) := fun e => c19 e.2.1
                                                                           rw [cif_f hn, cif_f hn]) | (have hn : ¬ gtP σ (nI g) := fun e => absurd e.2.2 (by rw [nI_clamp (by omega), (b2i_n0 _).mp c31]; decide)
                                                                                                       rw [cif_f hn, cif_f hn])
          exact ⟨rfl, M1, Fm.rf.setI (by decide)⟩)⟩
  · refine r_iload_n (q := 10) (z := 1) C 1 rfl (by decide +kernel) rfl rfl ?_
    refine r_bipush (q := 12) (z := 10) (v := 10) C rfl (by decide +kernel) (by decide) ?_
    refine r_icmp_ge (q := 15) (off := 22) (tgt := 34) C rfl (by decide +kernel) (by decide) (fun c12 => ?_) (fun c12 => ?_)
    · refine r_iconst (q := 35) (z := 0) (v := 0) C rfl (by decide +kernel) (by decide) ?_
      exact r_zret C (by decide +kernel) rfl (by first | decide | exact b2i_nar _) (by decide) (by decide) ⟨_, rfl, (by
            first | (have hn : ¬ gtP σ y := fun e => absurd e.1.1 (Int32.not_le.mpr c6)
                     rw [cif_f hn, cif_f hn]) | (have hn : ¬ gtP σ y := fun e => absurd e.1.2 (Int32.not_lt.mpr c12)
                                                 rw [cif_f hn, cif_f hn]) | (have hn : ¬ gtP σ (nI g) := fun e => c19 e.2.1
                                                                             rw [cif_f hn, cif_f hn]) | (have hn : ¬ gtP σ (nI g) := fun e => absurd e.2.2 (by rw [nI_clamp (by omega), (b2i_n0 _).mp c31]; decide)
                                                                                                         rw [cif_f hn, cif_f hn])
            exact ⟨rfl, M1, Fm.rf.setI (by decide)⟩)⟩
    · have hy9 : ∃ g, g < 10 ∧ y = nI g := by
        obtain ⟨j, hj, rfl⟩ := nI_of c6
        exact ⟨j, (nI_ltI (b := 10) hj (by decide)).mp (Int32.not_le.mp c12), rfl⟩
      obtain ⟨g, hg, rfl⟩ := hy9
      have hl10 := lyN_le σ σ.n
      refine r_aload_n (q := 16) (z := 0) C 0 rfl (by decide +kernel) rfl rfl ?_
      refine cV0I (q := 19) C R rfl (by decide +kernel) lk_X7_304 (c_X7_lying hm M1 W) (by decide) (by decide) (by decide) rfl (by first | exact Nat.le_of_ble_eq_true rfl | (simp only [List.map_cons, List.map_nil, List.sum_cons, List.sum_nil, rv_cat]; exact Nat.le_of_ble_eq_true rfl)) rfl hm.1 ?_
      rintro _ _ ⟨rfl, rfl⟩
      refine r_if_gt (q := 22) (off := 15) (tgt := 34) C rfl (by decide +kernel) (by decide) (fun c19 => ?_) (fun c19 => ?_)
      · have c19 : ¬ lyN σ σ.n = 0 := fun e => by rw [e] at c19; exact absurd c19 (by decide)
        refine r_iconst (q := 35) (z := 0) (v := 0) C rfl (by decide +kernel) (by decide) ?_
        exact r_zret C (by decide +kernel) rfl (by first | decide | exact b2i_nar _) (by decide) (by decide) ⟨_, rfl, (by
              first | (have hn : ¬ gtP σ y := fun e => absurd e.1.1 (Int32.not_le.mpr c6)
                       rw [cif_f hn, cif_f hn]) | (have hn : ¬ gtP σ y := fun e => absurd e.1.2 (Int32.not_lt.mpr c12)
                                                   rw [cif_f hn, cif_f hn]) | (have hn : ¬ gtP σ (nI g) := fun e => c19 e.2.1
                                                                               rw [cif_f hn, cif_f hn]) | (have hn : ¬ gtP σ (nI g) := fun e => absurd e.2.2 (by rw [nI_clamp (by omega), (b2i_n0 _).mp c31]; decide)
                                                                                                           rw [cif_f hn, cif_f hn])
              exact ⟨rfl, M1, Fm.rf.setI (by decide)⟩)⟩
      · have c19 : lyN σ σ.n = 0 := by
          rcases Nat.eq_zero_or_pos (lyN σ σ.n) with e | e
          · exact e
          · exact absurd (nI_lt (a := 0) e (by omega)) c19
        refine r_aload_n (q := 23) (z := 0) C 0 rfl (by decide +kernel) rfl rfl ?_
        refine r_getR (q := 26) C 7 36 484 rfl (by decide +kernel) rfl (by decide) rfl rfl wf_X7_118 win7 hm.1 ?_
        refine r_bipush (q := 28) (z := 12) (v := 12) C rfl (by decide +kernel) (by decide) ?_
        refine r_iload_n (q := 29) (z := 1) C 1 rfl (by decide +kernel) rfl rfl ?_
        refine r_imul (q := 30) C rfl (by decide +kernel) ?_
        rw [show (12 : Int32) = nI 12 from rfl, pk_mul]
        refine r_zald (q := 31) C rfl (by decide +kernel) hm.k484 (vp_in_nI (by omega) (by decide)) ?_
        rw [nI_clamp (n := 12 * g) (by omega), M1.acl (by omega)]
        refine r_if_eq (q := 34) (off := 5) (tgt := 36) C rfl (by decide +kernel) (by decide) (fun c31 => ?_) (fun c31 => ?_)
        · refine r_aload_n (q := 37) (z := 0) C 0 rfl (by decide +kernel) rfl rfl ?_
          refine r_iload_n (q := 38) (z := 1) C 1 rfl (by decide +kernel) rfl rfl ?_
          refine r_putI (q := 41) C 7 37 485 rfl (by decide +kernel) rfl (by decide) rfl rfl wf_X7_277 win7 tyX7 tyX7_ok nmX7 rfl (tyX7_ok 37 (by decide)) rfl wnd7 rfl rfl hm.1 ?_
          refine r_iconst (q := 42) (z := 1) (v := 1) C rfl (by decide +kernel) (by decide) ?_
          exact r_zret C (by decide +kernel) rfl (by first | decide | exact b2i_nar _) (by decide) (by decide) ⟨_, rfl, (by
                have hy : gtP σ (nI g) := ⟨⟨nI_pos' (by omega), nI_lt (b := 10) hg (by decide)⟩, c19, by rw [nI_clamp (by omega)]; exact (b2i_0 _).mp c31⟩
                rw [cif_t hy, cif_t hy, nI_clamp (by omega)]
                exact ⟨rfl, MR.gr_up M1, (Fm.rf.setI (by decide)).setI (by decide)⟩)⟩
        · refine r_iconst (q := 35) (z := 0) (v := 0) C rfl (by decide +kernel) (by decide) ?_
          exact r_zret C (by decide +kernel) rfl (by first | decide | exact b2i_nar _) (by decide) (by decide) ⟨_, rfl, (by
                first | (have hn : ¬ gtP σ y := fun e => absurd e.1.1 (Int32.not_le.mpr c6)
                         rw [cif_f hn, cif_f hn]) | (have hn : ¬ gtP σ y := fun e => absurd e.1.2 (Int32.not_lt.mpr c12)
                                                     rw [cif_f hn, cif_f hn]) | (have hn : ¬ gtP σ (nI g) := fun e => c19 e.2.1
                                                                                 rw [cif_f hn, cif_f hn]) | (have hn : ¬ gtP σ (nI g) := fun e => absurd e.2.2 (by rw [nI_clamp (by omega), (b2i_n0 _).mp c31]; decide)
                                                                                                             rw [cif_f hn, cif_f hn])
                exact ⟨rfl, M1, Fm.rf.setI (by decide)⟩)⟩
theorem c_X7_ride {G : GT} {h : HP} {m : Nat} {σ : SG} {w z p s k : Int32} (hm : LM h.kd h.gl h.fr m) (M : MR σ h m) (W : WF σ) : Con G 2 0 0 yX7_ride cX7_ride 6 (some .int) [rv m, .int w, .int z, .int p, .int s, .int k] h (PI (fun v h' => cif (rdP σ w z p s k) (nI σ.n) (-1) = v ∧ MR (cif (rdP σ w z p s k) (σ.add w.toNatClampNeg z.toNatClampNeg p.toNatClampNeg s.toNatClampNeg k.toNatClampNeg) σ) h' m ∧ Fm [473, 474, 475, 476, 477] [448, 472] h h')) := by
  refine Con.of (lv := [some (rv m), some (.int w), some (.int z), some (.int p), some (.int s), some (.int k)]) (by decide) (by simp only [lvE_r, lvE_i, lvE_l, lvE_s, lvE_0]; rfl) (by simp only [lgl_r, lgl_i, lgl_l, lgl_s, lgl_0]; decide) (fun Γ C R => ?_)
  have r10 := W.n10
  have M1 : MR σ (h.setI 448 m 0) m := M.setI (by decide) (by decide) (by decide)
  refine r_aload_n (q := 1) (z := 0) C 0 rfl (by decide +kernel) rfl rfl ?_
  refine r_iconst (q := 2) (z := 0) (v := 0) C rfl (by decide +kernel) (by decide) ?_
  refine r_putI (q := 5) C 7 0 448 rfl (by decide +kernel) rfl (by decide) rfl rfl wf_X7_1 win7 tyX7 tyX7_ok nmX7 rfl (tyX7_ok 0 (by decide)) rfl wnd7 rfl rfl hm.1 ?_
  have J68 : (¬ rdP σ w z p s k) → wX G Γ (qM G Γ (PI (fun v h' => cif (rdP σ w z p s k) (nI σ.n) (-1) = v ∧ MR (cif (rdP σ w z p s k) (σ.add w.toNatClampNeg z.toNatClampNeg p.toNatClampNeg s.toNatClampNeg k.toNatClampNeg) σ) h' m ∧ Fm [473, 474, 475, 476, 477] [448, 472] h h')) 0 0) 0 0 (h.setI 448 m 0) 68 [some (rv m), some (.int w), some (.int z), some (.int p), some (.int s), some (.int k)] [] := by
    intro  hn
    refine r_iconst (q := 69) (z := (-1)) (v := (-1)) C rfl (by decide +kernel) (by decide) ?_
    exact r_iret C (by decide +kernel) rfl (by decide) (by decide) ⟨_, rfl, (by
          rw [cif_f hn, cif_f hn]
          exact ⟨rfl, M1, Fm.rf.setI (by decide)⟩)⟩
  refine r_iload_n (q := 6) (z := 1) C 1 rfl (by decide +kernel) rfl rfl ?_
  refine r_iconst (q := 7) (z := 1) (v := 1) C rfl (by decide +kernel) (by decide) ?_
  refine r_icmp_lt (q := 10) (off := 61) (tgt := 68) C rfl (by decide +kernel) (by decide) (fun c7 => ?_) (fun c7 => ?_)
  · exact J68 (fun e => absurd e.1.1 (Int32.not_le.mpr c7))
  · refine r_iload_n (q := 11) (z := 1) C 1 rfl (by decide +kernel) rfl rfl ?_
    refine r_iconst (q := 12) (z := 4) (v := 4) C rfl (by decide +kernel) (by decide) ?_
    refine r_icmp_gt (q := 15) (off := 56) (tgt := 68) C rfl (by decide +kernel) (by decide) (fun c12 => ?_) (fun c12 => ?_)
    · exact J68 (fun e => absurd e.1.2 (Int32.not_le.mpr c12))
    · refine r_iload_n (q := 16) (z := 2) C 2 rfl (by decide +kernel) rfl rfl ?_
      refine r_iconst (q := 17) (z := 1) (v := 1) C rfl (by decide +kernel) (by decide) ?_
      refine r_icmp_lt (q := 20) (off := 51) (tgt := 68) C rfl (by decide +kernel) (by decide) (fun c17 => ?_) (fun c17 => ?_)
      · exact J68 (fun e => absurd e.2.1.1 (Int32.not_le.mpr c17))
      · refine r_iload_n (q := 21) (z := 2) C 2 rfl (by decide +kernel) rfl rfl ?_
        refine r_iconst (q := 22) (z := 4) (v := 4) C rfl (by decide +kernel) (by decide) ?_
        refine r_icmp_gt (q := 25) (off := 46) (tgt := 68) C rfl (by decide +kernel) (by decide) (fun c22 => ?_) (fun c22 => ?_)
        · exact J68 (fun e => absurd e.2.1.2 (Int32.not_le.mpr c22))
        · refine r_iload_n (q := 26) (z := 3) C 3 rfl (by decide +kernel) rfl rfl ?_
          refine r_if_lt (q := 29) (off := 42) (tgt := 68) C rfl (by decide +kernel) (by decide) (fun c26 => ?_) (fun c26 => ?_)
          · exact J68 (fun e => absurd e.2.2.1.1 (Int32.not_le.mpr c26))
          · refine r_iload_n (q := 30) (z := 3) C 3 rfl (by decide +kernel) rfl rfl ?_
            refine r_bipush (q := 32) (z := 100) (v := 100) C rfl (by decide +kernel) (by decide) ?_
            refine r_icmp_gt (q := 35) (off := 36) (tgt := 68) C rfl (by decide +kernel) (by decide) (fun c32 => ?_) (fun c32 => ?_)
            · exact J68 (fun e => absurd e.2.2.1.2 (Int32.not_le.mpr c32))
            · refine r_iload (q := 37) C 4 rfl (by decide +kernel) rfl ?_
              refine r_if_lt (q := 40) (off := 31) (tgt := 68) C rfl (by decide +kernel) (by decide) (fun c37 => ?_) (fun c37 => ?_)
              · exact J68 (fun e => absurd e.2.2.2.1.1 (Int32.not_le.mpr c37))
              · refine r_iload (q := 42) C 4 rfl (by decide +kernel) rfl ?_
                refine r_bipush (q := 44) (z := 9) (v := 9) C rfl (by decide +kernel) (by decide) ?_
                refine r_icmp_gt (q := 47) (off := 24) (tgt := 68) C rfl (by decide +kernel) (by decide) (fun c44 => ?_) (fun c44 => ?_)
                · exact J68 (fun e => absurd e.2.2.2.1.2 (Int32.not_le.mpr c44))
                · refine r_iload (q := 49) C 5 rfl (by decide +kernel) rfl ?_
                  refine r_if_lt (q := 52) (off := 19) (tgt := 68) C rfl (by decide +kernel) (by decide) (fun c49 => ?_) (fun c49 => ?_)
                  · exact J68 (fun e => absurd e.2.2.2.2.1.1 (Int32.not_le.mpr c49))
                  · refine r_iload (q := 54) C 5 rfl (by decide +kernel) rfl ?_
                    refine r_bipush (q := 56) (z := 99) (v := 99) C rfl (by decide +kernel) (by decide) ?_
                    refine r_icmp_gt (q := 59) (off := 12) (tgt := 68) C rfl (by decide +kernel) (by decide) (fun c56 => ?_) (fun c56 => ?_)
                    · exact J68 (fun e => absurd e.2.2.2.2.1.2 (Int32.not_le.mpr c56))
                    · refine r_aload_n (q := 60) (z := 0) C 0 rfl (by decide +kernel) rfl rfl ?_
                      refine r_getI (q := 63) C 7 24 472 rfl (by decide +kernel) rfl (by decide) rfl rfl wf_X7_243 win7 hm.1 ?_
                      rw [M1.fn]
                      refine r_bipush (q := 65) (z := 10) (v := 10) C rfl (by decide +kernel) (by decide) ?_
                      refine r_icmp_ne (q := 68) (off := 5) (tgt := 70) C rfl (by decide +kernel) (by decide) (fun c65 => ?_) (fun c65 => ?_)
                      · have hlt : σ.n < 10 := by
                          rcases Nat.lt_or_ge σ.n 10 with e | e
                          · exact e
                          · exact absurd (by rw [show σ.n = 10 by omega]; rfl) c65
                        have hy : rdP σ w z p s k := ⟨⟨Int32.not_lt.mp c7, Int32.not_lt.mp c12⟩, ⟨Int32.not_lt.mp c17, Int32.not_lt.mp c22⟩, ⟨Int32.not_lt.mp c26, Int32.not_lt.mp c32⟩, ⟨Int32.not_lt.mp c37, Int32.not_lt.mp c44⟩, ⟨Int32.not_lt.mp c49, Int32.not_lt.mp c56⟩, hlt⟩
                        obtain ⟨w1, w2, w3⟩ := nI_rng (a := 1) (b := 4) (by decide) hy.1.1 hy.1.2 (by decide)
                        obtain ⟨z1, z2, z3⟩ := nI_rng (a := 1) (b := 4) (by decide) hy.2.1.1 hy.2.1.2 (by decide)
                        obtain ⟨p1, p2, p3⟩ := nI_rng (a := 0) (b := 100) (by decide) hy.2.2.1.1 hy.2.2.1.2 (by decide)
                        obtain ⟨s1, s2, s3⟩ := nI_rng (a := 0) (b := 9) (by decide) hy.2.2.2.1.1 hy.2.2.2.1.2 (by decide)
                        obtain ⟨k1, k2, k3⟩ := nI_rng (a := 0) (b := 99) (by decide) hy.2.2.2.2.1.1 hy.2.2.2.2.1.2 (by decide)
                        refine r_aload_n (q := 71) (z := 0) C 0 rfl (by decide +kernel) rfl rfl ?_
                        refine r_getR (q := 74) C 7 25 473 rfl (by decide +kernel) rfl (by decide) rfl rfl wf_X7_88 win7 hm.1 ?_
                        refine r_aload_n (q := 75) (z := 0) C 0 rfl (by decide +kernel) rfl rfl ?_
                        refine r_getI (q := 78) C 7 24 472 rfl (by decide +kernel) rfl (by decide) rfl rfl wf_X7_243 win7 hm.1 ?_
                        rw [M1.fn]
                        refine r_iload_n (q := 79) (z := 1) C 1 rfl (by decide +kernel) rfl rfl ?_
                        refine r_iast (q := 80) C rfl (by decide +kernel) rfl hm.k473 (vp_in_nI hlt (by decide)) ?_
                        rw [stI_row, nI_clamp (by omega)]
                        have M2 := MR.wd_up (h := h.setI 448 m 0) (r := σ.n) hm M1 w3
                        refine r_aload_n (q := 81) (z := 0) C 0 rfl (by decide +kernel) rfl rfl ?_
                        refine r_getR (q := 84) C 7 26 474 rfl (by decide +kernel) rfl (by decide) rfl rfl wf_X7_91 win7 hm.1 ?_
                        refine r_aload_n (q := 85) (z := 0) C 0 rfl (by decide +kernel) rfl rfl ?_
                        refine r_getI (q := 88) C 7 24 472 rfl (by decide +kernel) rfl (by decide) rfl rfl wf_X7_243 win7 hm.1 ?_
                        rw [fi_row, M1.fn]
                        refine r_iload_n (q := 89) (z := 2) C 2 rfl (by decide +kernel) rfl rfl ?_
                        refine r_iast (q := 90) C rfl (by decide +kernel) rfl hm.k474 (vp_in_nI hlt (by decide)) ?_
                        try simp only [fr_row]
                        rw [stI_row, nI_clamp (by omega)]
                        have M3 := MR.hg_up (h := (h.setI 448 m 0).row _ _) (r := σ.n) hm M2 z3
                        refine r_aload_n (q := 91) (z := 0) C 0 rfl (by decide +kernel) rfl rfl ?_
                        refine r_getR (q := 94) C 7 27 475 rfl (by decide +kernel) rfl (by decide) rfl rfl wf_X7_94 win7 hm.1 ?_
                        refine r_aload_n (q := 95) (z := 0) C 0 rfl (by decide +kernel) rfl rfl ?_
                        refine r_getI (q := 98) C 7 24 472 rfl (by decide +kernel) rfl (by decide) rfl rfl wf_X7_243 win7 hm.1 ?_
                        simp only [fi_row]
                        rw [M1.fn]
                        refine r_iload_n (q := 99) (z := 3) C 3 rfl (by decide +kernel) rfl rfl ?_
                        refine r_iast (q := 100) C rfl (by decide +kernel) rfl hm.k475 (vp_in_nI hlt (by decide)) ?_
                        try simp only [fr_row]
                        rw [stI_row, nI_clamp (by omega)]
                        have M4 := MR.pw_up (h := ((h.setI 448 m 0).row _ _).row _ _) (r := σ.n) hm M3 p3
                        refine r_aload_n (q := 101) (z := 0) C 0 rfl (by decide +kernel) rfl rfl ?_
                        refine r_getR (q := 104) C 7 28 476 rfl (by decide +kernel) rfl (by decide) rfl rfl wf_X7_97 win7 hm.1 ?_
                        refine r_aload_n (q := 105) (z := 0) C 0 rfl (by decide +kernel) rfl rfl ?_
                        refine r_getI (q := 108) C 7 24 472 rfl (by decide +kernel) rfl (by decide) rfl rfl wf_X7_243 win7 hm.1 ?_
                        simp only [fi_row]
                        rw [M1.fn]
                        refine r_iload (q := 110) C 4 rfl (by decide +kernel) rfl ?_
                        refine r_iast (q := 111) C rfl (by decide +kernel) rfl hm.k476 (vp_in_nI hlt (by decide)) ?_
                        try simp only [fr_row]
                        rw [stI_row, nI_clamp (by omega)]
                        have M5 := MR.ns_up (h := (((h.setI 448 m 0).row _ _).row _ _).row _ _) (r := σ.n) hm M4 s3
                        refine r_aload_n (q := 112) (z := 0) C 0 rfl (by decide +kernel) rfl rfl ?_
                        refine r_getR (q := 115) C 7 29 477 rfl (by decide +kernel) rfl (by decide) rfl rfl wf_X7_100 win7 hm.1 ?_
                        refine r_aload_n (q := 116) (z := 0) C 0 rfl (by decide +kernel) rfl rfl ?_
                        refine r_getI (q := 119) C 7 24 472 rfl (by decide +kernel) rfl (by decide) rfl rfl wf_X7_243 win7 hm.1 ?_
                        simp only [fi_row]
                        rw [M1.fn]
                        refine r_iload (q := 121) C 5 rfl (by decide +kernel) rfl ?_
                        refine r_iast (q := 122) C rfl (by decide +kernel) rfl hm.k477 (vp_in_nI hlt (by decide)) ?_
                        try simp only [fr_row]
                        rw [stI_row, nI_clamp (by omega)]
                        have M6 := MR.rk_up (h := ((((h.setI 448 m 0).row _ _).row _ _).row _ _).row _ _) (r := σ.n) hm M5 k3
                        refine r_aload_n (q := 123) (z := 0) C 0 rfl (by decide +kernel) rfl rfl ?_
                        refine r_dup (q := 124) C rfl (by decide +kernel) (by first | rfl | exact rv_cat _) ?_
                        refine r_getI (q := 127) C 7 24 472 rfl (by decide +kernel) rfl (by decide) rfl rfl wf_X7_243 win7 hm.1 ?_
                        simp only [fi_row]
                        rw [M1.fn]
                        refine r_iconst (q := 128) (z := 1) (v := 1) C rfl (by decide +kernel) (by decide) ?_
                        refine r_iadd (q := 129) C rfl (by decide +kernel) ?_
                        rw [nI_1]
                        refine r_putI (q := 132) C 7 24 472 rfl (by decide +kernel) rfl (by decide) rfl rfl wf_X7_243 win7 tyX7 tyX7_ok nmX7 rfl (tyX7_ok 24 (by decide)) rfl wnd7 rfl rfl hm.1 ?_
                        refine r_aload_n (q := 133) (z := 0) C 0 rfl (by decide +kernel) rfl rfl ?_
                        refine r_getI (q := 136) C 7 24 472 rfl (by decide +kernel) rfl (by decide) rfl rfl wf_X7_243 win7 hm.1 ?_
                        rw [fi_eq]
                        refine r_iconst (q := 137) (z := 1) (v := 1) C rfl (by decide +kernel) (by decide) ?_
                        refine r_isub (q := 138) C rfl (by decide +kernel) ?_
                        rw [nI_pred]
                        exact r_iret C (by decide +kernel) rfl (by decide) (by decide) ⟨_, rfl, (by
                              rw [cif_t hy, cif_t hy]
                              refine ⟨rfl, MR.n_up M6, Fm.setI (Fm.row (Fm.row (Fm.row (Fm.row (Fm.row (Fm.rf.setI (by decide)) ?_) ?_) ?_) ?_) ?_) (by decide)⟩
                              · show h.gl (h.fr 473 m) ∈ _; rw [hm.g473]; decide
                              · show h.gl (h.fr 474 m) ∈ _; rw [hm.g474]; decide
                              · show h.gl (h.fr 475 m) ∈ _; rw [hm.g475]; decide
                              · show h.gl (h.fr 476 m) ∈ _; rw [hm.g476]; decide
                              · show h.gl (h.fr 477 m) ∈ _; rw [hm.g477]; decide)⟩
                      · have c65 : σ.n = 10 := (nI_eq (b := 10) (by omega) (by decide)).mp c65
                        exact J68 (fun e => absurd e.2.2.2.2.2 (by omega))
theorem c_X7_cell {G : GT} {h : HP} {m : Nat} {σ : SG} {x y : Int32} (hm : LM h.kd h.gl h.fr m) (M : MR σ h m) (W : WF σ) : Con G 5 0 0 yX7_cell cX7_cell 3 (some .int) [rv m, .int x, .int y] h (PI (fun v h' => (if hasC x y then (if σ.cl (12 * y + x).toNatClampNeg then -2 else covN σ (12 * y + x).toNatClampNeg σ.n) else -3) = v ∧ h.setI 448 m 0 = h')) := by
  refine Con.of (lv := [some (rv m), some (.int x), some (.int y)]) (by decide) (by simp only [lvE_r, lvE_i, lvE_l, lvE_s, lvE_0]; rfl) (by simp only [lgl_r, lgl_i, lgl_l, lgl_s, lgl_0]; decide) (fun Γ C R => ?_)
  have r10 := W.n10
  have M1 : MR σ (h.setI 448 m 0) m := M.setI (by decide) (by decide) (by decide)
  refine r_aload_n (q := 1) (z := 0) C 0 rfl (by decide +kernel) rfl rfl ?_
  refine r_iconst (q := 2) (z := 0) (v := 0) C rfl (by decide +kernel) (by decide) ?_
  refine r_putI (q := 5) C 7 0 448 rfl (by decide +kernel) rfl (by decide) rfl rfl wf_X7_1 win7 tyX7 tyX7_ok nmX7 rfl (tyX7_ok 0 (by decide)) rfl wnd7 rfl rfl hm.1 ?_
  refine r_iload_n (q := 6) (z := 1) C 1 rfl (by decide +kernel) rfl rfl ?_
  refine r_iload_n (q := 7) (z := 2) C 2 rfl (by decide +kernel) rfl rfl ?_
  refine cS2I (q := 10) C R rfl (by decide +kernel) lk_X7_295 (c_X7_isCell ) (by decide) (by decide) (by decide) rfl (by first | exact Nat.le_of_ble_eq_true rfl | (simp only [List.map_cons, List.map_nil, List.sum_cons, List.sum_nil, rv_cat]; exact Nat.le_of_ble_eq_true rfl))  ?_
  rintro _ _ ⟨rfl, rfl⟩
  refine r_if_ne (q := 13) (off := 6) (tgt := 16) C rfl (by decide +kernel) (by decide) (fun c10 => ?_) (fun c10 => ?_)
  · have c10 := (b2i_n0 _).mp c10
    obtain ⟨c0, hc0, hcl⟩ := cAt_of c10
    have h120 := hc0.2.2
    refine r_aload_n (q := 17) (z := 0) C 0 rfl (by decide +kernel) rfl rfl ?_
    refine r_getR (q := 20) C 7 36 484 rfl (by decide +kernel) rfl (by decide) rfl rfl wf_X7_118 win7 hm.1 ?_
    refine r_bipush (q := 22) (z := 12) (v := 12) C rfl (by decide +kernel) (by decide) ?_
    refine r_iload_n (q := 23) (z := 2) C 2 rfl (by decide +kernel) rfl rfl ?_
    refine r_imul (q := 24) C rfl (by decide +kernel) ?_
    refine r_iload_n (q := 25) (z := 1) C 1 rfl (by decide +kernel) rfl rfl ?_
    refine r_iadd (q := 26) C rfl (by decide +kernel) ?_
    rw [hc0.2.1]
    refine r_zald (q := 27) C rfl (by decide +kernel) hm.k484 (vp_in_nI h120 (by decide)) ?_
    rw [nI_clamp (by omega), M1.acl h120]
    refine r_if_eq (q := 30) (off := 8) (tgt := 35) C rfl (by decide +kernel) (by decide) (fun c27 => ?_) (fun c27 => ?_)
    · refine r_aload_n (q := 36) (z := 0) C 0 rfl (by decide +kernel) rfl rfl ?_
      refine r_bipush (q := 38) (z := 12) (v := 12) C rfl (by decide +kernel) (by decide) ?_
      refine r_iload_n (q := 39) (z := 2) C 2 rfl (by decide +kernel) rfl rfl ?_
      refine r_imul (q := 40) C rfl (by decide +kernel) ?_
      refine r_iload_n (q := 41) (z := 1) C 1 rfl (by decide +kernel) rfl rfl ?_
      refine r_iadd (q := 42) C rfl (by decide +kernel) ?_
      rw [hc0.2.1]
      refine cV1I (q := 45) C R rfl (by decide +kernel) lk_X7_271 (c_X7_coveredBy hm M1 W (by omega)) (by decide) (by decide) (by decide) rfl (by first | exact Nat.le_of_ble_eq_true rfl | (simp only [List.map_cons, List.map_nil, List.sum_cons, List.sum_nil, rv_cat]; exact Nat.le_of_ble_eq_true rfl)) rfl hm.1 ?_
      rintro _ _ ⟨rfl, rfl⟩
      exact r_iret C (by decide +kernel) rfl (by decide) (by decide) ⟨_, rfl, ⟨by rw [if_pos c10]; first | (rw [nI_clamp (by omega), (b2i_n0 _).mp c27]; rfl) | (rw [nI_clamp (by omega), (b2i_0 _).mp c27]; rfl) | (rw [(b2i_n0 _).mp c27]; rfl) | (rw [(b2i_0 _).mp c27]; rfl), rfl⟩⟩
    · refine r_bipush (q := 32) (z := (-2)) (v := (-2)) C rfl (by decide +kernel) (by decide) ?_
      refine r_goto (off := 13) (tgt := 45) C (by decide +kernel) (by decide) ?_
      exact r_iret C (by decide +kernel) rfl (by decide) (by decide) ⟨_, rfl, ⟨by rw [if_pos c10]; first | (rw [nI_clamp (by omega), (b2i_n0 _).mp c27]; rfl) | (rw [nI_clamp (by omega), (b2i_0 _).mp c27]; rfl) | (rw [(b2i_n0 _).mp c27]; rfl) | (rw [(b2i_0 _).mp c27]; rfl), rfl⟩⟩
  · have c10 := (b2i_0 _).mp c10
    refine r_bipush (q := 15) (z := (-3)) (v := (-3)) C rfl (by decide +kernel) (by decide) ?_
    exact r_iret C (by decide +kernel) rfl (by decide) (by decide) ⟨_, rfl, ⟨by rw [c10]; rfl, rfl⟩⟩
theorem c_X7_rents {G : GT} {h : HP} {m : Nat} {σ : SG} {be sh : Nat → Nat} {ra : Nat} (hm : LM h.kd h.gl h.fr m) (M : MR σ h m) (W : WF σ) (Mb : MB be sh ra h m) : Con G 1 0 0 yX7_rents cX7_rents 3 (some .int) [rv m] h (PI (fun v h' => nI (rentN σ ra σ.n) = v ∧ h = h')) := by
  refine Con.of (lv := [some (rv m), none, none]) (by decide) (by simp only [lvE_r, lvE_i, lvE_l, lvE_s, lvE_0]; rfl) (by simp only [lgl_r, lgl_i, lgl_l, lgl_s, lgl_0]; decide) (fun Γ C R => ?_)
  have r10 := W.n10
  refine r_iconst (q := 1) (z := 0) (v := 0) C rfl (by decide +kernel) (by decide) ?_
  refine r_istore_n (q := 2) (z := 1) C 1 rfl (by decide +kernel) rfl (by decide) (by first | rfl | exact okst_rv rfl) ?_
  dsimp only [List.set]
  refine r_iconst (q := 3) (z := 0) (v := 0) C rfl (by decide +kernel) (by decide) ?_
  refine r_istore_n (q := 4) (z := 2) C 2 rfl (by decide +kernel) rfl (by decide) (by first | rfl | exact okst_rv rfl) ?_
  dsimp only [List.set]
  have L4 : ∀ (fuel4 : Nat) (k : Nat), σ.n - k < fuel4 → (k ≤ σ.n) → wX G Γ (qM G Γ (PI (fun v h' => nI (rentN σ ra σ.n) = v ∧ h = h')) 0 0) 0 0 (h) 4 [some (rv m), some (.int (nI (rentN σ ra k))), some (.int (nI k))] [] := by
    intro fuel4
    induction fuel4 with
    | zero =>
      intro k hm4
      exact absurd hm4 (Nat.not_lt_zero _)
    | succ fuel4 ih4 =>
      intro k hm4 hk
      refine r_iload_n (q := 5) (z := 2) C 2 rfl (by decide +kernel) rfl rfl ?_
      refine r_aload_n (q := 6) (z := 0) C 0 rfl (by decide +kernel) rfl rfl ?_
      refine r_getI (q := 9) C 7 24 472 rfl (by decide +kernel) rfl (by decide) rfl rfl wf_X7_243 win7 hm.1 ?_
      rw [M.fn]
      refine r_icmp_ge (q := 12) (off := 43) (tgt := 52) C rfl (by decide +kernel) (by decide) (fun c9 => ?_) (fun c9 => ?_)
      · have ek : k = σ.n := by have := (nI_leI (by omega) (by omega)).mp c9; omega
        subst ek
        refine r_iload_n (q := 53) (z := 1) C 1 rfl (by decide +kernel) rfl rfl ?_
        exact r_iret C (by decide +kernel) rfl (by decide) (by decide) ⟨_, rfl, ⟨rfl, rfl⟩⟩
      · have hlt : k < σ.n := Nat.lt_of_not_le (fun e => c9 (nI_le e (by omega)))
        refine r_iload_n (q := 13) (z := 1) C 1 rfl (by decide +kernel) rfl rfl ?_
        refine r_aload_n (q := 14) (z := 0) C 0 rfl (by decide +kernel) rfl rfl ?_
        refine r_getR (q := 17) C 7 30 478 rfl (by decide +kernel) rfl (by decide) rfl rfl wf_X7_103 win7 hm.1 ?_
        refine r_iload_n (q := 18) (z := 2) C 2 rfl (by decide +kernel) rfl rfl ?_
        refine r_iald (q := 19) C rfl (by decide +kernel) hm.k478 (vp_in_nI (by omega) (by decide)) ?_
        rw [nI_clamp (by omega), M.ali (by omega)]
        refine r_if_lt (q := 22) (off := 24) (tgt := 43) C rfl (by decide +kernel) (by decide) (fun c19 => ?_) (fun c19 => ?_)
        · have e44 : nI (rentN σ ra k) + 0 = nI (rentN σ ra (k + 1)) := by rw [rentN, if_neg (pl_neg.mp c19)]; exact nI_add _ 0
          refine r_iconst (q := 44) (z := 0) (v := 0) C rfl (by decide +kernel) (by decide) ?_
          refine r_iadd (q := 45) C rfl (by decide +kernel) ?_
          rw [e44]
          refine r_istore_n (q := 46) (z := 1) C 1 rfl (by decide +kernel) rfl (by decide) (by first | rfl | exact okst_rv rfl) ?_
          dsimp only [List.set]
          refine r_iinc (q := 49) (z := 1) (v := 1) C 2 rfl (by decide +kernel) rfl (by decide) (by decide) (by first | rfl | exact okst_rv rfl) ?_
          dsimp only [List.set]
          rw [nI_1]
          refine r_goto (off := -45) (tgt := 4) C (by decide +kernel) (by decide) ?_
          exact ih4 (k + 1) (by omega) (by omega)
        · have e44 : nI (rentN σ ra k) + nI (σ.wd k * σ.hg k * ra) = nI (rentN σ ra (k + 1)) := by rw [rentN, if_pos (pl_nn.mp c19)]; exact nI_add _ _
          refine r_aload_n (q := 23) (z := 0) C 0 rfl (by decide +kernel) rfl rfl ?_
          refine r_getR (q := 26) C 7 25 473 rfl (by decide +kernel) rfl (by decide) rfl rfl wf_X7_88 win7 hm.1 ?_
          refine r_iload_n (q := 27) (z := 2) C 2 rfl (by decide +kernel) rfl rfl ?_
          refine r_iald (q := 28) C rfl (by decide +kernel) hm.k473 (vp_in_nI (by omega) (by decide)) ?_
          rw [nI_clamp (by omega), M.awd (by omega)]
          refine r_aload_n (q := 29) (z := 0) C 0 rfl (by decide +kernel) rfl rfl ?_
          refine r_getR (q := 32) C 7 26 474 rfl (by decide +kernel) rfl (by decide) rfl rfl wf_X7_91 win7 hm.1 ?_
          refine r_iload_n (q := 33) (z := 2) C 2 rfl (by decide +kernel) rfl rfl ?_
          refine r_iald (q := 34) C rfl (by decide +kernel) hm.k474 (vp_in_nI (by omega) (by decide)) ?_
          rw [nI_clamp (by omega), M.ahg (by omega)]
          refine r_imul (q := 35) C rfl (by decide +kernel) ?_
          rw [pk_mul]
          refine r_aload_n (q := 36) (z := 0) C 0 rfl (by decide +kernel) rfl rfl ?_
          refine r_getI (q := 39) C 7 45 493 rfl (by decide +kernel) rfl (by decide) rfl rfl wf_X7_142 win7 hm.1 ?_
          rw [Mb.2.2.1]
          refine r_imul (q := 40) C rfl (by decide +kernel) ?_
          rw [pk_mul]
          refine r_goto (off := 4) (tgt := 44) C (by decide +kernel) (by decide) ?_
          refine r_iadd (q := 45) C rfl (by decide +kernel) ?_
          rw [e44]
          refine r_istore_n (q := 46) (z := 1) C 1 rfl (by decide +kernel) rfl (by decide) (by first | rfl | exact okst_rv rfl) ?_
          dsimp only [List.set]
          refine r_iinc (q := 49) (z := 1) (v := 1) C 2 rfl (by decide +kernel) rfl (by decide) (by decide) (by first | rfl | exact okst_rv rfl) ?_
          dsimp only [List.set]
          rw [nI_1]
          refine r_goto (off := -45) (tgt := 4) C (by decide +kernel) (by decide) ?_
          exact ih4 (k + 1) (by omega) (by omega)
  exact L4 (σ.n + 1) 0 (by omega) (by omega)
