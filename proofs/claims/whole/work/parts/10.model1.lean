/-! ===== the state of green and rides; a place is below 240, 240 is none ===== -/
def SG : Type := (Nat) × (Nat → Nat) × (Nat → Nat) × (Nat → Nat) × (Nat → Nat) × (Nat → Nat) × (Nat → Nat) × (Nat → Nat) × (Nat → Nat) × (Nat → Nat) × (Nat → Bool) × (Nat → Bool) × (Nat) × (Nat)
def SG.n (σ : SG) : Nat := Prod.fst σ
def SG.wd (σ : SG) : Nat → Nat := Prod.fst (Prod.snd σ)
def SG.hg (σ : SG) : Nat → Nat := Prod.fst (Prod.snd (Prod.snd σ))
def SG.pw (σ : SG) : Nat → Nat := Prod.fst (Prod.snd (Prod.snd (Prod.snd σ)))
def SG.ns (σ : SG) : Nat → Nat := Prod.fst (Prod.snd (Prod.snd (Prod.snd (Prod.snd σ))))
def SG.rk (σ : SG) : Nat → Nat := Prod.fst (Prod.snd (Prod.snd (Prod.snd (Prod.snd (Prod.snd σ)))))
def SG.li (σ : SG) : Nat → Nat := Prod.fst (Prod.snd (Prod.snd (Prod.snd (Prod.snd (Prod.snd (Prod.snd σ))))))
def SG.rt (σ : SG) : Nat → Nat := Prod.fst (Prod.snd (Prod.snd (Prod.snd (Prod.snd (Prod.snd (Prod.snd (Prod.snd σ)))))))
def SG.hd (σ : SG) : Nat → Nat := Prod.fst (Prod.snd (Prod.snd (Prod.snd (Prod.snd (Prod.snd (Prod.snd (Prod.snd (Prod.snd σ))))))))
def SG.ms (σ : SG) : Nat → Nat := Prod.fst (Prod.snd (Prod.snd (Prod.snd (Prod.snd (Prod.snd (Prod.snd (Prod.snd (Prod.snd (Prod.snd σ)))))))))
def SG.sk (σ : SG) : Nat → Bool := Prod.fst (Prod.snd (Prod.snd (Prod.snd (Prod.snd (Prod.snd (Prod.snd (Prod.snd (Prod.snd (Prod.snd (Prod.snd σ))))))))))
def SG.cl (σ : SG) : Nat → Bool := Prod.fst (Prod.snd (Prod.snd (Prod.snd (Prod.snd (Prod.snd (Prod.snd (Prod.snd (Prod.snd (Prod.snd (Prod.snd (Prod.snd σ)))))))))))
def SG.gr (σ : SG) : Nat := Prod.fst (Prod.snd (Prod.snd (Prod.snd (Prod.snd (Prod.snd (Prod.snd (Prod.snd (Prod.snd (Prod.snd (Prod.snd (Prod.snd (Prod.snd σ))))))))))))
def SG.yr (σ : SG) : Nat := Prod.snd (Prod.snd (Prod.snd (Prod.snd (Prod.snd (Prod.snd (Prod.snd (Prod.snd (Prod.snd (Prod.snd (Prod.snd (Prod.snd (Prod.snd σ))))))))))))
def SG.of (n : Nat) (wd : Nat → Nat) (hg : Nat → Nat) (pw : Nat → Nat) (ns : Nat → Nat) (rk : Nat → Nat) (li : Nat → Nat) (rt : Nat → Nat) (hd : Nat → Nat) (ms : Nat → Nat) (sk : Nat → Bool) (cl : Nat → Bool) (gr : Nat) (yr : Nat) : SG := (n, wd, hg, pw, ns, rk, li, rt, hd, ms, sk, cl, gr, yr)
def SG.n_ (σ : SG) (v : Nat) : SG := SG.of v σ.wd σ.hg σ.pw σ.ns σ.rk σ.li σ.rt σ.hd σ.ms σ.sk σ.cl σ.gr σ.yr
def SG.wd_ (σ : SG) (v : Nat → Nat) : SG := SG.of σ.n v σ.hg σ.pw σ.ns σ.rk σ.li σ.rt σ.hd σ.ms σ.sk σ.cl σ.gr σ.yr
def SG.hg_ (σ : SG) (v : Nat → Nat) : SG := SG.of σ.n σ.wd v σ.pw σ.ns σ.rk σ.li σ.rt σ.hd σ.ms σ.sk σ.cl σ.gr σ.yr
def SG.pw_ (σ : SG) (v : Nat → Nat) : SG := SG.of σ.n σ.wd σ.hg v σ.ns σ.rk σ.li σ.rt σ.hd σ.ms σ.sk σ.cl σ.gr σ.yr
def SG.ns_ (σ : SG) (v : Nat → Nat) : SG := SG.of σ.n σ.wd σ.hg σ.pw v σ.rk σ.li σ.rt σ.hd σ.ms σ.sk σ.cl σ.gr σ.yr
def SG.rk_ (σ : SG) (v : Nat → Nat) : SG := SG.of σ.n σ.wd σ.hg σ.pw σ.ns v σ.li σ.rt σ.hd σ.ms σ.sk σ.cl σ.gr σ.yr
def SG.li_ (σ : SG) (v : Nat → Nat) : SG := SG.of σ.n σ.wd σ.hg σ.pw σ.ns σ.rk v σ.rt σ.hd σ.ms σ.sk σ.cl σ.gr σ.yr
def SG.rt_ (σ : SG) (v : Nat → Nat) : SG := SG.of σ.n σ.wd σ.hg σ.pw σ.ns σ.rk σ.li v σ.hd σ.ms σ.sk σ.cl σ.gr σ.yr
def SG.hd_ (σ : SG) (v : Nat → Nat) : SG := SG.of σ.n σ.wd σ.hg σ.pw σ.ns σ.rk σ.li σ.rt v σ.ms σ.sk σ.cl σ.gr σ.yr
def SG.ms_ (σ : SG) (v : Nat → Nat) : SG := SG.of σ.n σ.wd σ.hg σ.pw σ.ns σ.rk σ.li σ.rt σ.hd v σ.sk σ.cl σ.gr σ.yr
def SG.sk_ (σ : SG) (v : Nat → Bool) : SG := SG.of σ.n σ.wd σ.hg σ.pw σ.ns σ.rk σ.li σ.rt σ.hd σ.ms v σ.cl σ.gr σ.yr
def SG.cl_ (σ : SG) (v : Nat → Bool) : SG := SG.of σ.n σ.wd σ.hg σ.pw σ.ns σ.rk σ.li σ.rt σ.hd σ.ms σ.sk v σ.gr σ.yr
def SG.gr_ (σ : SG) (v : Nat) : SG := SG.of σ.n σ.wd σ.hg σ.pw σ.ns σ.rk σ.li σ.rt σ.hd σ.ms σ.sk σ.cl v σ.yr
def SG.yr_ (σ : SG) (v : Nat) : SG := SG.of σ.n σ.wd σ.hg σ.pw σ.ns σ.rk σ.li σ.rt σ.hd σ.ms σ.sk σ.cl σ.gr v
/-- a place as an int -/
def pl (x : Nat) : Int32 := if x < 240 then nI x else -1
theorem pl_in {x : Nat} (h : x < 240) : pl x = nI x := if_pos h
theorem pl_out {x : Nat} (h : ¬ x < 240) : pl x = -1 := if_neg h
theorem pl_neg {x : Nat} : pl x < 0 ↔ ¬ x < 240 := by
  unfold pl; split
  · rename_i h; exact ⟨fun e => absurd e (nI_pos (by omega)), fun e => absurd h e⟩
  · rename_i h; exact ⟨fun _ => h, fun _ => by decide⟩
theorem pl_nn {x : Nat} : ¬ pl x < 0 ↔ x < 240 := by rw [pl_neg, Classical.not_not]
theorem pl_le {x : Nat} : 0 ≤ pl x ↔ x < 240 := by rw [← Int32.not_lt]; exact pl_nn
def wAt (w z p : Nat) : Nat := if p % 2 = 1 then z else w
def px (p : Nat) : Nat := p / 2 % 12
def py (p : Nat) : Nat := p / 2 / 12
theorem px_lt {p : Nat} : px p < 12 := by unfold px; omega
theorem py_lt {p : Nat} (h : p < 240) : py p < 10 := by unfold py; omega
def SG.wA (σ : SG) (r p : Nat) : Nat := wAt (σ.wd r) (σ.hg r) p
def SG.hA (σ : SG) (r p : Nat) : Nat := wAt (σ.hg r) (σ.wd r) p
/-- r at the place p covers the cell c -/
def SG.cA (σ : SG) (r p c : Nat) : Bool := inn (px p) (py p) (σ.wA r p) (σ.hA r p) c
def SG.cv (σ : SG) (r c : Nat) : Bool := decide (σ.li r < 240) && σ.cA r (σ.li r) c
def anyb (p : Nat → Bool) : Nat → Bool
  | 0 => false
  | k + 1 => anyb p k || p k
theorem anyb_iff {p : Nat → Bool} : ∀ {k : Nat}, anyb p k = true ↔ ∃ r, r < k ∧ p r = true
  | 0 => by simp [anyb]
  | k + 1 => by
    simp only [anyb, Bool.or_eq_true, anyb_iff]
    constructor
    · rintro (⟨r, h1, h2⟩ | h)
      · exact ⟨r, by omega, h2⟩
      · exact ⟨k, by omega, h⟩
    · rintro ⟨r, h1, h2⟩
      by_cases e : r = k
      · exact Or.inr (e ▸ h2)
      · exact Or.inl ⟨r, by omega, h2⟩
theorem anyb_f {p : Nat → Bool} {k : Nat} : anyb p k = false ↔ ∀ r, r < k → p r = false := by
  rw [← Bool.not_eq_true, anyb_iff]
  constructor
  · intro h r hr
    cases e : p r with
    | false => rfl
    | true => exact absurd ⟨r, hr, e⟩ h
  · rintro h ⟨r, h1, h2⟩
    rw [h r h1] at h2; cases h2
def SG.fre (σ : SG) (c : Nat) : Bool := !σ.cl c && !anyb (fun r => σ.cv r c) σ.n
/-- the last of the first k that covers c -/
def covN (σ : SG) (c : Nat) : Nat → Int32
  | 0 => -1
  | k + 1 => if σ.cv k c then nI k else covN σ c k
theorem covN_neg {σ : SG} {c : Nat} : ∀ {k : Nat}, k ≤ 10 → (covN σ c k < 0 ↔ anyb (fun r => σ.cv r c) k = false)
  | 0, _ => by simp only [covN, anyb]; decide
  | k + 1, hk => by
    simp only [covN, anyb]
    cases e : σ.cv k c with
    | true => simp; exact nI_pos' (by omega)
    | false => simp; exact covN_neg (by omega)
def SG.dA (σ : SG) (r p : Nat) : Nat := 12 * (py p + σ.hA r p) + px p + (σ.wA r p - 1) / 2
def SG.dr (σ : SG) (r : Nat) : Nat := σ.dA r (σ.li r)
/-- r at the place p is on the green -/
def SG.onG (σ : SG) (r p : Nat) : Prop := px p + σ.wA r p ≤ 12 ∧ py p + σ.hA r p < 10
/-- the state is well formed -/
def WF (σ : SG) : Prop := σ.n ≤ 10 ∧ σ.gr < 10 ∧ (∀ r, r < σ.n → 1 ≤ σ.wd r ∧ σ.wd r ≤ 4 ∧ 1 ≤ σ.hg r ∧ σ.hg r ≤ 4 ∧ σ.pw r ≤ 100 ∧ σ.ns r ≤ 9 ∧ σ.rk r ≤ 99) ∧ (∀ r, r < 10 → σ.li r ≤ 240 ∧ σ.rt r ≤ 240 ∧ (σ.n ≤ r → σ.li r = 240 ∧ σ.rt r = 240)) ∧ (∀ r, r < σ.n → σ.li r < 240 → σ.onG r (σ.li r)) ∧ (∀ r, r < σ.n → σ.rt r < 240 → σ.onG r (σ.rt r))
theorem WF.wA {σ : SG} (h : WF σ) {r : Nat} (hr : r < σ.n) (p : Nat) : 1 ≤ σ.wA r p ∧ σ.wA r p ≤ 4 := by
  have := h.2.2.1 r hr
  unfold SG.wA wAt; split <;> omega
theorem WF.hA {σ : SG} (h : WF σ) {r : Nat} (hr : r < σ.n) (p : Nat) : 1 ≤ σ.hA r p ∧ σ.hA r p ≤ 4 := by
  have := h.2.2.1 r hr
  unfold SG.hA wAt; split <;> omega
theorem WF.n10 {σ : SG} (h : WF σ) : σ.n ≤ 10 := h.1
theorem WF.gr10 {σ : SG} (h : WF σ) : σ.gr < 10 := h.2.1
theorem SG.onG.door {σ : SG} {r p : Nat} (hw : WF σ) (hr : r < σ.n) (h : σ.onG r p) : σ.dA r p < 120 := by
  have := hw.wA hr p
  unfold SG.onG at h
  unfold SG.dA
  omega
theorem WF.dr {σ : SG} (h : WF σ) {r : Nat} (hr : r < σ.n) (hl : σ.li r < 240) : σ.dr r < 120 := SG.onG.door h hr (h.2.2.2.2.1 r hr hl)
/-! the model's layout -/
def mK : List (Nat × Nat × Nat) := [(449, 9, 600), (452, 9, 602), (453, 9, 602), (454, 10, 602), (457, 10, 10), (458, 9, 2), (459, 11, 32), (460, 9, 32), (461, 9, 1320), (462, 9, 1320), (467, 9, 7), (468, 9, 7), (469, 9, 7), (470, 9, 6), (471, 9, 660), (473, 9, 10), (474, 9, 10), (475, 9, 10), (476, 9, 10), (477, 9, 10), (478, 9, 10), (479, 9, 10), (480, 9, 10), (481, 9, 10), (482, 11, 10), (484, 11, 120), (486, 11, 120), (487, 11, 120), (488, 11, 10), (489, 9, 1024), (490, 9, 1024), (491, 9, 120), (492, 9, 3), (494, 9, 3), (495, 11, 10), (496, 9, 3), (497, 9, 3)]
def LM (kd : Nat → Nat × Nat) (gl : Nat → Nat) (fr : Nat → Nat → Nat) (m : Nat) : Prop := kd m = (0, 7) ∧ ∀ q ∈ mK, kd (fr q.1 m) = (q.2.1, q.2.2) ∧ gl (fr q.1 m) = q.1
theorem LM.k449 {kd : Nat → Nat × Nat} {gl : Nat → Nat} {fr : Nat → Nat → Nat} {m : Nat} (h : LM kd gl fr m) : kd (fr 449 m) = (9, 600) := (h.2 (449, 9, 600) (by decide)).1
theorem LM.g449 {kd : Nat → Nat × Nat} {gl : Nat → Nat} {fr : Nat → Nat → Nat} {m : Nat} (h : LM kd gl fr m) : gl (fr 449 m) = 449 := (h.2 (449, 9, 600) (by decide)).2
theorem LM.k452 {kd : Nat → Nat × Nat} {gl : Nat → Nat} {fr : Nat → Nat → Nat} {m : Nat} (h : LM kd gl fr m) : kd (fr 452 m) = (9, 602) := (h.2 (452, 9, 602) (by decide)).1
theorem LM.g452 {kd : Nat → Nat × Nat} {gl : Nat → Nat} {fr : Nat → Nat → Nat} {m : Nat} (h : LM kd gl fr m) : gl (fr 452 m) = 452 := (h.2 (452, 9, 602) (by decide)).2
theorem LM.k453 {kd : Nat → Nat × Nat} {gl : Nat → Nat} {fr : Nat → Nat → Nat} {m : Nat} (h : LM kd gl fr m) : kd (fr 453 m) = (9, 602) := (h.2 (453, 9, 602) (by decide)).1
theorem LM.g453 {kd : Nat → Nat × Nat} {gl : Nat → Nat} {fr : Nat → Nat → Nat} {m : Nat} (h : LM kd gl fr m) : gl (fr 453 m) = 453 := (h.2 (453, 9, 602) (by decide)).2
theorem LM.k454 {kd : Nat → Nat × Nat} {gl : Nat → Nat} {fr : Nat → Nat → Nat} {m : Nat} (h : LM kd gl fr m) : kd (fr 454 m) = (10, 602) := (h.2 (454, 10, 602) (by decide)).1
theorem LM.g454 {kd : Nat → Nat × Nat} {gl : Nat → Nat} {fr : Nat → Nat → Nat} {m : Nat} (h : LM kd gl fr m) : gl (fr 454 m) = 454 := (h.2 (454, 10, 602) (by decide)).2
theorem LM.k457 {kd : Nat → Nat × Nat} {gl : Nat → Nat} {fr : Nat → Nat → Nat} {m : Nat} (h : LM kd gl fr m) : kd (fr 457 m) = (10, 10) := (h.2 (457, 10, 10) (by decide)).1
theorem LM.g457 {kd : Nat → Nat × Nat} {gl : Nat → Nat} {fr : Nat → Nat → Nat} {m : Nat} (h : LM kd gl fr m) : gl (fr 457 m) = 457 := (h.2 (457, 10, 10) (by decide)).2
theorem LM.k458 {kd : Nat → Nat × Nat} {gl : Nat → Nat} {fr : Nat → Nat → Nat} {m : Nat} (h : LM kd gl fr m) : kd (fr 458 m) = (9, 2) := (h.2 (458, 9, 2) (by decide)).1
theorem LM.g458 {kd : Nat → Nat × Nat} {gl : Nat → Nat} {fr : Nat → Nat → Nat} {m : Nat} (h : LM kd gl fr m) : gl (fr 458 m) = 458 := (h.2 (458, 9, 2) (by decide)).2
theorem LM.k459 {kd : Nat → Nat × Nat} {gl : Nat → Nat} {fr : Nat → Nat → Nat} {m : Nat} (h : LM kd gl fr m) : kd (fr 459 m) = (11, 32) := (h.2 (459, 11, 32) (by decide)).1
theorem LM.g459 {kd : Nat → Nat × Nat} {gl : Nat → Nat} {fr : Nat → Nat → Nat} {m : Nat} (h : LM kd gl fr m) : gl (fr 459 m) = 459 := (h.2 (459, 11, 32) (by decide)).2
theorem LM.k460 {kd : Nat → Nat × Nat} {gl : Nat → Nat} {fr : Nat → Nat → Nat} {m : Nat} (h : LM kd gl fr m) : kd (fr 460 m) = (9, 32) := (h.2 (460, 9, 32) (by decide)).1
theorem LM.g460 {kd : Nat → Nat × Nat} {gl : Nat → Nat} {fr : Nat → Nat → Nat} {m : Nat} (h : LM kd gl fr m) : gl (fr 460 m) = 460 := (h.2 (460, 9, 32) (by decide)).2
theorem LM.k461 {kd : Nat → Nat × Nat} {gl : Nat → Nat} {fr : Nat → Nat → Nat} {m : Nat} (h : LM kd gl fr m) : kd (fr 461 m) = (9, 1320) := (h.2 (461, 9, 1320) (by decide)).1
theorem LM.g461 {kd : Nat → Nat × Nat} {gl : Nat → Nat} {fr : Nat → Nat → Nat} {m : Nat} (h : LM kd gl fr m) : gl (fr 461 m) = 461 := (h.2 (461, 9, 1320) (by decide)).2
theorem LM.k462 {kd : Nat → Nat × Nat} {gl : Nat → Nat} {fr : Nat → Nat → Nat} {m : Nat} (h : LM kd gl fr m) : kd (fr 462 m) = (9, 1320) := (h.2 (462, 9, 1320) (by decide)).1
theorem LM.g462 {kd : Nat → Nat × Nat} {gl : Nat → Nat} {fr : Nat → Nat → Nat} {m : Nat} (h : LM kd gl fr m) : gl (fr 462 m) = 462 := (h.2 (462, 9, 1320) (by decide)).2
theorem LM.k467 {kd : Nat → Nat × Nat} {gl : Nat → Nat} {fr : Nat → Nat → Nat} {m : Nat} (h : LM kd gl fr m) : kd (fr 467 m) = (9, 7) := (h.2 (467, 9, 7) (by decide)).1
theorem LM.g467 {kd : Nat → Nat × Nat} {gl : Nat → Nat} {fr : Nat → Nat → Nat} {m : Nat} (h : LM kd gl fr m) : gl (fr 467 m) = 467 := (h.2 (467, 9, 7) (by decide)).2
theorem LM.k468 {kd : Nat → Nat × Nat} {gl : Nat → Nat} {fr : Nat → Nat → Nat} {m : Nat} (h : LM kd gl fr m) : kd (fr 468 m) = (9, 7) := (h.2 (468, 9, 7) (by decide)).1
theorem LM.g468 {kd : Nat → Nat × Nat} {gl : Nat → Nat} {fr : Nat → Nat → Nat} {m : Nat} (h : LM kd gl fr m) : gl (fr 468 m) = 468 := (h.2 (468, 9, 7) (by decide)).2
theorem LM.k469 {kd : Nat → Nat × Nat} {gl : Nat → Nat} {fr : Nat → Nat → Nat} {m : Nat} (h : LM kd gl fr m) : kd (fr 469 m) = (9, 7) := (h.2 (469, 9, 7) (by decide)).1
theorem LM.g469 {kd : Nat → Nat × Nat} {gl : Nat → Nat} {fr : Nat → Nat → Nat} {m : Nat} (h : LM kd gl fr m) : gl (fr 469 m) = 469 := (h.2 (469, 9, 7) (by decide)).2
theorem LM.k470 {kd : Nat → Nat × Nat} {gl : Nat → Nat} {fr : Nat → Nat → Nat} {m : Nat} (h : LM kd gl fr m) : kd (fr 470 m) = (9, 6) := (h.2 (470, 9, 6) (by decide)).1
theorem LM.g470 {kd : Nat → Nat × Nat} {gl : Nat → Nat} {fr : Nat → Nat → Nat} {m : Nat} (h : LM kd gl fr m) : gl (fr 470 m) = 470 := (h.2 (470, 9, 6) (by decide)).2
theorem LM.k471 {kd : Nat → Nat × Nat} {gl : Nat → Nat} {fr : Nat → Nat → Nat} {m : Nat} (h : LM kd gl fr m) : kd (fr 471 m) = (9, 660) := (h.2 (471, 9, 660) (by decide)).1
theorem LM.g471 {kd : Nat → Nat × Nat} {gl : Nat → Nat} {fr : Nat → Nat → Nat} {m : Nat} (h : LM kd gl fr m) : gl (fr 471 m) = 471 := (h.2 (471, 9, 660) (by decide)).2
theorem LM.k473 {kd : Nat → Nat × Nat} {gl : Nat → Nat} {fr : Nat → Nat → Nat} {m : Nat} (h : LM kd gl fr m) : kd (fr 473 m) = (9, 10) := (h.2 (473, 9, 10) (by decide)).1
theorem LM.g473 {kd : Nat → Nat × Nat} {gl : Nat → Nat} {fr : Nat → Nat → Nat} {m : Nat} (h : LM kd gl fr m) : gl (fr 473 m) = 473 := (h.2 (473, 9, 10) (by decide)).2
theorem LM.k474 {kd : Nat → Nat × Nat} {gl : Nat → Nat} {fr : Nat → Nat → Nat} {m : Nat} (h : LM kd gl fr m) : kd (fr 474 m) = (9, 10) := (h.2 (474, 9, 10) (by decide)).1
theorem LM.g474 {kd : Nat → Nat × Nat} {gl : Nat → Nat} {fr : Nat → Nat → Nat} {m : Nat} (h : LM kd gl fr m) : gl (fr 474 m) = 474 := (h.2 (474, 9, 10) (by decide)).2
theorem LM.k475 {kd : Nat → Nat × Nat} {gl : Nat → Nat} {fr : Nat → Nat → Nat} {m : Nat} (h : LM kd gl fr m) : kd (fr 475 m) = (9, 10) := (h.2 (475, 9, 10) (by decide)).1
theorem LM.g475 {kd : Nat → Nat × Nat} {gl : Nat → Nat} {fr : Nat → Nat → Nat} {m : Nat} (h : LM kd gl fr m) : gl (fr 475 m) = 475 := (h.2 (475, 9, 10) (by decide)).2
theorem LM.k476 {kd : Nat → Nat × Nat} {gl : Nat → Nat} {fr : Nat → Nat → Nat} {m : Nat} (h : LM kd gl fr m) : kd (fr 476 m) = (9, 10) := (h.2 (476, 9, 10) (by decide)).1
theorem LM.g476 {kd : Nat → Nat × Nat} {gl : Nat → Nat} {fr : Nat → Nat → Nat} {m : Nat} (h : LM kd gl fr m) : gl (fr 476 m) = 476 := (h.2 (476, 9, 10) (by decide)).2
theorem LM.k477 {kd : Nat → Nat × Nat} {gl : Nat → Nat} {fr : Nat → Nat → Nat} {m : Nat} (h : LM kd gl fr m) : kd (fr 477 m) = (9, 10) := (h.2 (477, 9, 10) (by decide)).1
theorem LM.g477 {kd : Nat → Nat × Nat} {gl : Nat → Nat} {fr : Nat → Nat → Nat} {m : Nat} (h : LM kd gl fr m) : gl (fr 477 m) = 477 := (h.2 (477, 9, 10) (by decide)).2
theorem LM.k478 {kd : Nat → Nat × Nat} {gl : Nat → Nat} {fr : Nat → Nat → Nat} {m : Nat} (h : LM kd gl fr m) : kd (fr 478 m) = (9, 10) := (h.2 (478, 9, 10) (by decide)).1
theorem LM.g478 {kd : Nat → Nat × Nat} {gl : Nat → Nat} {fr : Nat → Nat → Nat} {m : Nat} (h : LM kd gl fr m) : gl (fr 478 m) = 478 := (h.2 (478, 9, 10) (by decide)).2
theorem LM.k479 {kd : Nat → Nat × Nat} {gl : Nat → Nat} {fr : Nat → Nat → Nat} {m : Nat} (h : LM kd gl fr m) : kd (fr 479 m) = (9, 10) := (h.2 (479, 9, 10) (by decide)).1
theorem LM.g479 {kd : Nat → Nat × Nat} {gl : Nat → Nat} {fr : Nat → Nat → Nat} {m : Nat} (h : LM kd gl fr m) : gl (fr 479 m) = 479 := (h.2 (479, 9, 10) (by decide)).2
theorem LM.k480 {kd : Nat → Nat × Nat} {gl : Nat → Nat} {fr : Nat → Nat → Nat} {m : Nat} (h : LM kd gl fr m) : kd (fr 480 m) = (9, 10) := (h.2 (480, 9, 10) (by decide)).1
theorem LM.g480 {kd : Nat → Nat × Nat} {gl : Nat → Nat} {fr : Nat → Nat → Nat} {m : Nat} (h : LM kd gl fr m) : gl (fr 480 m) = 480 := (h.2 (480, 9, 10) (by decide)).2
theorem LM.k481 {kd : Nat → Nat × Nat} {gl : Nat → Nat} {fr : Nat → Nat → Nat} {m : Nat} (h : LM kd gl fr m) : kd (fr 481 m) = (9, 10) := (h.2 (481, 9, 10) (by decide)).1
theorem LM.g481 {kd : Nat → Nat × Nat} {gl : Nat → Nat} {fr : Nat → Nat → Nat} {m : Nat} (h : LM kd gl fr m) : gl (fr 481 m) = 481 := (h.2 (481, 9, 10) (by decide)).2
theorem LM.k482 {kd : Nat → Nat × Nat} {gl : Nat → Nat} {fr : Nat → Nat → Nat} {m : Nat} (h : LM kd gl fr m) : kd (fr 482 m) = (11, 10) := (h.2 (482, 11, 10) (by decide)).1
theorem LM.g482 {kd : Nat → Nat × Nat} {gl : Nat → Nat} {fr : Nat → Nat → Nat} {m : Nat} (h : LM kd gl fr m) : gl (fr 482 m) = 482 := (h.2 (482, 11, 10) (by decide)).2
theorem LM.k484 {kd : Nat → Nat × Nat} {gl : Nat → Nat} {fr : Nat → Nat → Nat} {m : Nat} (h : LM kd gl fr m) : kd (fr 484 m) = (11, 120) := (h.2 (484, 11, 120) (by decide)).1
theorem LM.g484 {kd : Nat → Nat × Nat} {gl : Nat → Nat} {fr : Nat → Nat → Nat} {m : Nat} (h : LM kd gl fr m) : gl (fr 484 m) = 484 := (h.2 (484, 11, 120) (by decide)).2
theorem LM.k486 {kd : Nat → Nat × Nat} {gl : Nat → Nat} {fr : Nat → Nat → Nat} {m : Nat} (h : LM kd gl fr m) : kd (fr 486 m) = (11, 120) := (h.2 (486, 11, 120) (by decide)).1
theorem LM.g486 {kd : Nat → Nat × Nat} {gl : Nat → Nat} {fr : Nat → Nat → Nat} {m : Nat} (h : LM kd gl fr m) : gl (fr 486 m) = 486 := (h.2 (486, 11, 120) (by decide)).2
theorem LM.k487 {kd : Nat → Nat × Nat} {gl : Nat → Nat} {fr : Nat → Nat → Nat} {m : Nat} (h : LM kd gl fr m) : kd (fr 487 m) = (11, 120) := (h.2 (487, 11, 120) (by decide)).1
theorem LM.g487 {kd : Nat → Nat × Nat} {gl : Nat → Nat} {fr : Nat → Nat → Nat} {m : Nat} (h : LM kd gl fr m) : gl (fr 487 m) = 487 := (h.2 (487, 11, 120) (by decide)).2
theorem LM.k488 {kd : Nat → Nat × Nat} {gl : Nat → Nat} {fr : Nat → Nat → Nat} {m : Nat} (h : LM kd gl fr m) : kd (fr 488 m) = (11, 10) := (h.2 (488, 11, 10) (by decide)).1
theorem LM.g488 {kd : Nat → Nat × Nat} {gl : Nat → Nat} {fr : Nat → Nat → Nat} {m : Nat} (h : LM kd gl fr m) : gl (fr 488 m) = 488 := (h.2 (488, 11, 10) (by decide)).2
theorem LM.k489 {kd : Nat → Nat × Nat} {gl : Nat → Nat} {fr : Nat → Nat → Nat} {m : Nat} (h : LM kd gl fr m) : kd (fr 489 m) = (9, 1024) := (h.2 (489, 9, 1024) (by decide)).1
theorem LM.g489 {kd : Nat → Nat × Nat} {gl : Nat → Nat} {fr : Nat → Nat → Nat} {m : Nat} (h : LM kd gl fr m) : gl (fr 489 m) = 489 := (h.2 (489, 9, 1024) (by decide)).2
theorem LM.k490 {kd : Nat → Nat × Nat} {gl : Nat → Nat} {fr : Nat → Nat → Nat} {m : Nat} (h : LM kd gl fr m) : kd (fr 490 m) = (9, 1024) := (h.2 (490, 9, 1024) (by decide)).1
theorem LM.g490 {kd : Nat → Nat × Nat} {gl : Nat → Nat} {fr : Nat → Nat → Nat} {m : Nat} (h : LM kd gl fr m) : gl (fr 490 m) = 490 := (h.2 (490, 9, 1024) (by decide)).2
theorem LM.k491 {kd : Nat → Nat × Nat} {gl : Nat → Nat} {fr : Nat → Nat → Nat} {m : Nat} (h : LM kd gl fr m) : kd (fr 491 m) = (9, 120) := (h.2 (491, 9, 120) (by decide)).1
theorem LM.g491 {kd : Nat → Nat × Nat} {gl : Nat → Nat} {fr : Nat → Nat → Nat} {m : Nat} (h : LM kd gl fr m) : gl (fr 491 m) = 491 := (h.2 (491, 9, 120) (by decide)).2
theorem LM.k492 {kd : Nat → Nat × Nat} {gl : Nat → Nat} {fr : Nat → Nat → Nat} {m : Nat} (h : LM kd gl fr m) : kd (fr 492 m) = (9, 3) := (h.2 (492, 9, 3) (by decide)).1
theorem LM.g492 {kd : Nat → Nat × Nat} {gl : Nat → Nat} {fr : Nat → Nat → Nat} {m : Nat} (h : LM kd gl fr m) : gl (fr 492 m) = 492 := (h.2 (492, 9, 3) (by decide)).2
theorem LM.k494 {kd : Nat → Nat × Nat} {gl : Nat → Nat} {fr : Nat → Nat → Nat} {m : Nat} (h : LM kd gl fr m) : kd (fr 494 m) = (9, 3) := (h.2 (494, 9, 3) (by decide)).1
theorem LM.g494 {kd : Nat → Nat × Nat} {gl : Nat → Nat} {fr : Nat → Nat → Nat} {m : Nat} (h : LM kd gl fr m) : gl (fr 494 m) = 494 := (h.2 (494, 9, 3) (by decide)).2
theorem LM.k495 {kd : Nat → Nat × Nat} {gl : Nat → Nat} {fr : Nat → Nat → Nat} {m : Nat} (h : LM kd gl fr m) : kd (fr 495 m) = (11, 10) := (h.2 (495, 11, 10) (by decide)).1
theorem LM.g495 {kd : Nat → Nat × Nat} {gl : Nat → Nat} {fr : Nat → Nat → Nat} {m : Nat} (h : LM kd gl fr m) : gl (fr 495 m) = 495 := (h.2 (495, 11, 10) (by decide)).2
theorem LM.k496 {kd : Nat → Nat × Nat} {gl : Nat → Nat} {fr : Nat → Nat → Nat} {m : Nat} (h : LM kd gl fr m) : kd (fr 496 m) = (9, 3) := (h.2 (496, 9, 3) (by decide)).1
theorem LM.g496 {kd : Nat → Nat × Nat} {gl : Nat → Nat} {fr : Nat → Nat → Nat} {m : Nat} (h : LM kd gl fr m) : gl (fr 496 m) = 496 := (h.2 (496, 9, 3) (by decide)).2
theorem LM.k497 {kd : Nat → Nat × Nat} {gl : Nat → Nat} {fr : Nat → Nat → Nat} {m : Nat} (h : LM kd gl fr m) : kd (fr 497 m) = (9, 3) := (h.2 (497, 9, 3) (by decide)).1
theorem LM.g497 {kd : Nat → Nat × Nat} {gl : Nat → Nat} {fr : Nat → Nat → Nat} {m : Nat} (h : LM kd gl fr m) : gl (fr 497 m) = 497 := (h.2 (497, 9, 3) (by decide)).2
/-- what the model holds of the state -/
def MR (σ : SG) (h : HP) (m : Nat) : Prop := h.fi 472 m = nI σ.n ∧ h.fi 485 m = nI σ.gr ∧ h.fi 483 m = nI σ.yr ∧ (∀ r, r < 10 → h.ai (h.fr 473 m) r = nI (σ.wd r)) ∧ (∀ r, r < 10 → h.ai (h.fr 474 m) r = nI (σ.hg r)) ∧ (∀ r, r < 10 → h.ai (h.fr 475 m) r = nI (σ.pw r)) ∧ (∀ r, r < 10 → h.ai (h.fr 476 m) r = nI (σ.ns r)) ∧ (∀ r, r < 10 → h.ai (h.fr 477 m) r = nI (σ.rk r)) ∧ (∀ r, r < 10 → h.ai (h.fr 478 m) r = pl (σ.li r)) ∧ (∀ r, r < 10 → h.ai (h.fr 479 m) r = pl (σ.rt r)) ∧ (∀ r, r < 10 → h.ai (h.fr 480 m) r = nI (σ.hd r)) ∧ (∀ r, r < 10 → h.ai (h.fr 481 m) r = nI (σ.ms r)) ∧ (∀ r, r < 10 → h.ai (h.fr 482 m) r = b2i (σ.sk r)) ∧ (∀ r, r < 120 → h.ai (h.fr 484 m) r = b2i (σ.cl r))
theorem MR.fn {σ : SG} {h : HP} {m : Nat} (M : MR σ h m) : h.fi 472 m = nI σ.n := M.1
theorem MR.fg {σ : SG} {h : HP} {m : Nat} (M : MR σ h m) : h.fi 485 m = nI σ.gr := M.2.1
theorem MR.fy {σ : SG} {h : HP} {m : Nat} (M : MR σ h m) : h.fi 483 m = nI σ.yr := M.2.2.1
theorem MR.awd {σ : SG} {h : HP} {m : Nat} (M : MR σ h m) {r : Nat} (hr : r < 10) : h.ai (h.fr 473 m) r = nI (σ.wd r) := M.2.2.2.1 r hr
theorem MR.ahg {σ : SG} {h : HP} {m : Nat} (M : MR σ h m) {r : Nat} (hr : r < 10) : h.ai (h.fr 474 m) r = nI (σ.hg r) := M.2.2.2.2.1 r hr
theorem MR.apw {σ : SG} {h : HP} {m : Nat} (M : MR σ h m) {r : Nat} (hr : r < 10) : h.ai (h.fr 475 m) r = nI (σ.pw r) := M.2.2.2.2.2.1 r hr
theorem MR.ans {σ : SG} {h : HP} {m : Nat} (M : MR σ h m) {r : Nat} (hr : r < 10) : h.ai (h.fr 476 m) r = nI (σ.ns r) := M.2.2.2.2.2.2.1 r hr
theorem MR.ark {σ : SG} {h : HP} {m : Nat} (M : MR σ h m) {r : Nat} (hr : r < 10) : h.ai (h.fr 477 m) r = nI (σ.rk r) := M.2.2.2.2.2.2.2.1 r hr
theorem MR.ali {σ : SG} {h : HP} {m : Nat} (M : MR σ h m) {r : Nat} (hr : r < 10) : h.ai (h.fr 478 m) r = pl (σ.li r) := M.2.2.2.2.2.2.2.2.1 r hr
theorem MR.art {σ : SG} {h : HP} {m : Nat} (M : MR σ h m) {r : Nat} (hr : r < 10) : h.ai (h.fr 479 m) r = pl (σ.rt r) := M.2.2.2.2.2.2.2.2.2.1 r hr
theorem MR.ahd {σ : SG} {h : HP} {m : Nat} (M : MR σ h m) {r : Nat} (hr : r < 10) : h.ai (h.fr 480 m) r = nI (σ.hd r) := M.2.2.2.2.2.2.2.2.2.2.1 r hr
theorem MR.ams {σ : SG} {h : HP} {m : Nat} (M : MR σ h m) {r : Nat} (hr : r < 10) : h.ai (h.fr 481 m) r = nI (σ.ms r) := M.2.2.2.2.2.2.2.2.2.2.2.1 r hr
theorem MR.ask {σ : SG} {h : HP} {m : Nat} (M : MR σ h m) {r : Nat} (hr : r < 10) : h.ai (h.fr 482 m) r = b2i (σ.sk r) := M.2.2.2.2.2.2.2.2.2.2.2.2.1 r hr
theorem MR.acl {σ : SG} {h : HP} {m : Nat} (M : MR σ h m) {r : Nat} (hr : r < 120) : h.ai (h.fr 484 m) r = b2i (σ.cl r) := M.2.2.2.2.2.2.2.2.2.2.2.2.2 r hr
def mP : List Nat := [473, 474, 475, 476, 477, 478, 479, 480, 481, 482, 484]
theorem MR.row {σ : SG} {h : HP} {m : Nat} (L : LM h.kd h.gl h.fr m) (M : MR σ h m) {b : Nat} {f : Nat → Int32} (hb : h.gl b ∉ mP) : MR σ (h.row b f) m := by
  obtain ⟨h1, h2, h3, a0, a1, a2, a3, a4, a5, a6, a7, a8, a9, a10⟩ := M
  refine ⟨h1, h2, h3, ?_, ?_, ?_, ?_, ?_, ?_, ?_, ?_, ?_, ?_, ?_⟩
  · intro r hr; show (h.row b f).ai (h.fr 473 m) r = _; rw [ai_row_ne (fun e => hb (by rw [← e, L.g473]; decide))]; exact a0 r hr
  · intro r hr; show (h.row b f).ai (h.fr 474 m) r = _; rw [ai_row_ne (fun e => hb (by rw [← e, L.g474]; decide))]; exact a1 r hr
  · intro r hr; show (h.row b f).ai (h.fr 475 m) r = _; rw [ai_row_ne (fun e => hb (by rw [← e, L.g475]; decide))]; exact a2 r hr
  · intro r hr; show (h.row b f).ai (h.fr 476 m) r = _; rw [ai_row_ne (fun e => hb (by rw [← e, L.g476]; decide))]; exact a3 r hr
  · intro r hr; show (h.row b f).ai (h.fr 477 m) r = _; rw [ai_row_ne (fun e => hb (by rw [← e, L.g477]; decide))]; exact a4 r hr
  · intro r hr; show (h.row b f).ai (h.fr 478 m) r = _; rw [ai_row_ne (fun e => hb (by rw [← e, L.g478]; decide))]; exact a5 r hr
  · intro r hr; show (h.row b f).ai (h.fr 479 m) r = _; rw [ai_row_ne (fun e => hb (by rw [← e, L.g479]; decide))]; exact a6 r hr
  · intro r hr; show (h.row b f).ai (h.fr 480 m) r = _; rw [ai_row_ne (fun e => hb (by rw [← e, L.g480]; decide))]; exact a7 r hr
  · intro r hr; show (h.row b f).ai (h.fr 481 m) r = _; rw [ai_row_ne (fun e => hb (by rw [← e, L.g481]; decide))]; exact a8 r hr
  · intro r hr; show (h.row b f).ai (h.fr 482 m) r = _; rw [ai_row_ne (fun e => hb (by rw [← e, L.g482]; decide))]; exact a9 r hr
  · intro r hr; show (h.row b f).ai (h.fr 484 m) r = _; rw [ai_row_ne (fun e => hb (by rw [← e, L.g484]; decide))]; exact a10 r hr
theorem MR.setI {σ : SG} {h : HP} {m : Nat} (M : MR σ h m) {g b : Nat} {v : Int32} (h1 : g ≠ 472) (h2 : g ≠ 485) (h3 : g ≠ 483) : MR σ (h.setI g b v) m := ⟨(fi_ne (Ne.symm h1)).trans M.1, (fi_ne (Ne.symm h2)).trans M.2.1, (fi_ne (Ne.symm h3)).trans M.2.2.1, M.2.2.2⟩

theorem c_X7_isRide {G : GT} {h : HP} {m : Nat} {σ : SG} {x : Int32} (hm : LM h.kd h.gl h.fr m) (M : MR σ h m) : Con G 1 0 0 yX7_isRide cX7_isRide 2 (some .boolean) [rv m, .int x] h (PI (fun r h' => b2i (decide (0 ≤ x ∧ x < nI σ.n)) = r ∧ h = h')) := by
  refine Con.of (lv := [some (rv m), some (.int x)]) (by decide) (by simp only [lvE_r, lvE_i, lvE_l, lvE_s, lvE_0]; rfl) (by simp only [lgl_r, lgl_i, lgl_l, lgl_s, lgl_0]; decide) (fun Γ C R => ?_)
  refine r_iload_n (q := 1) (z := 1) C 1 rfl (by decide +kernel) rfl rfl ?_
  refine r_if_lt (q := 4) (off := 15) (tgt := 16) C rfl (by decide +kernel) (by decide) (fun c1 => ?_) (fun c1 => ?_)
  · refine r_iconst (q := 17) (z := 0) (v := 0) C rfl (by decide +kernel) (by decide) ?_
    exact r_zret C (by decide +kernel) rfl (by first | decide | exact b2i_nar _) (by decide) (by decide) ⟨_, rfl, ⟨by clear C R; simp_all [b2i, ← Int32.not_lt], rfl⟩⟩
  · refine r_iload_n (q := 5) (z := 1) C 1 rfl (by decide +kernel) rfl rfl ?_
    refine r_aload_n (q := 6) (z := 0) C 0 rfl (by decide +kernel) rfl rfl ?_
    refine r_getI (q := 9) C 7 24 472 rfl (by decide +kernel) rfl (by decide) rfl rfl wf_X7_243 win7 hm.1 ?_
    rw [M.fn]
    refine r_icmp_ge (q := 12) (off := 7) (tgt := 16) C rfl (by decide +kernel) (by decide) (fun c9 => ?_) (fun c9 => ?_)
    · refine r_iconst (q := 17) (z := 0) (v := 0) C rfl (by decide +kernel) (by decide) ?_
      exact r_zret C (by decide +kernel) rfl (by first | decide | exact b2i_nar _) (by decide) (by decide) ⟨_, rfl, ⟨by clear C R; simp_all [b2i, ← Int32.not_lt], rfl⟩⟩
    · refine r_iconst (q := 13) (z := 1) (v := 1) C rfl (by decide +kernel) (by decide) ?_
      refine r_goto (off := 4) (tgt := 17) C (by decide +kernel) (by decide) ?_
      exact r_zret C (by decide +kernel) rfl (by first | decide | exact b2i_nar _) (by decide) (by decide) ⟨_, rfl, ⟨by clear C R; simp_all [b2i, ← Int32.not_lt], rfl⟩⟩
theorem c_X7_isCell {G : GT} {h : HP} {x y : Int32} : Con G 1 0 0 yX7_isCell cX7_isCell 2 (some .boolean) [.int x, .int y] h (PI (fun r h' => b2i (hasC x y) = r ∧ h = h')) := by
  refine Con.of (lv := [some (.int x), some (.int y)]) (by decide) (by simp only [lvE_r, lvE_i, lvE_l, lvE_s, lvE_0]; rfl) (by simp only [lgl_r, lgl_i, lgl_l, lgl_s, lgl_0]; decide) (fun Γ C R => ?_)
  refine r_iload_n (q := 1) (z := 0) C 0 rfl (by decide +kernel) rfl rfl ?_
  refine r_if_lt (q := 4) (off := 23) (tgt := 24) C rfl (by decide +kernel) (by decide) (fun c1 => ?_) (fun c1 => ?_)
  · refine r_iconst (q := 25) (z := 0) (v := 0) C rfl (by decide +kernel) (by decide) ?_
    exact r_zret C (by decide +kernel) rfl (by first | decide | exact b2i_nar _) (by decide) (by decide) ⟨_, rfl, ⟨by clear C R; simp_all [b2i, hasC, ← Int32.not_lt], rfl⟩⟩
  · refine r_iload_n (q := 5) (z := 0) C 0 rfl (by decide +kernel) rfl rfl ?_
    refine r_bipush (q := 7) (z := 12) (v := 12) C rfl (by decide +kernel) (by decide) ?_
    refine r_icmp_ge (q := 10) (off := 17) (tgt := 24) C rfl (by decide +kernel) (by decide) (fun c7 => ?_) (fun c7 => ?_)
    · refine r_iconst (q := 25) (z := 0) (v := 0) C rfl (by decide +kernel) (by decide) ?_
      exact r_zret C (by decide +kernel) rfl (by first | decide | exact b2i_nar _) (by decide) (by decide) ⟨_, rfl, ⟨by clear C R; simp_all [b2i, hasC, ← Int32.not_lt], rfl⟩⟩
    · refine r_iload_n (q := 11) (z := 1) C 1 rfl (by decide +kernel) rfl rfl ?_
      refine r_if_lt (q := 14) (off := 13) (tgt := 24) C rfl (by decide +kernel) (by decide) (fun c11 => ?_) (fun c11 => ?_)
      · refine r_iconst (q := 25) (z := 0) (v := 0) C rfl (by decide +kernel) (by decide) ?_
        exact r_zret C (by decide +kernel) rfl (by first | decide | exact b2i_nar _) (by decide) (by decide) ⟨_, rfl, ⟨by clear C R; simp_all [b2i, hasC, ← Int32.not_lt], rfl⟩⟩
      · refine r_iload_n (q := 15) (z := 1) C 1 rfl (by decide +kernel) rfl rfl ?_
        refine r_bipush (q := 17) (z := 10) (v := 10) C rfl (by decide +kernel) (by decide) ?_
        refine r_icmp_ge (q := 20) (off := 7) (tgt := 24) C rfl (by decide +kernel) (by decide) (fun c17 => ?_) (fun c17 => ?_)
        · refine r_iconst (q := 25) (z := 0) (v := 0) C rfl (by decide +kernel) (by decide) ?_
          exact r_zret C (by decide +kernel) rfl (by first | decide | exact b2i_nar _) (by decide) (by decide) ⟨_, rfl, ⟨by clear C R; simp_all [b2i, hasC, ← Int32.not_lt], rfl⟩⟩
        · refine r_iconst (q := 21) (z := 1) (v := 1) C rfl (by decide +kernel) (by decide) ?_
          refine r_goto (off := 4) (tgt := 25) C (by decide +kernel) (by decide) ?_
          exact r_zret C (by decide +kernel) rfl (by first | decide | exact b2i_nar _) (by decide) (by decide) ⟨_, rfl, ⟨by clear C R; simp_all [b2i, hasC, ← Int32.not_lt], rfl⟩⟩
theorem c_X7_placeX {G : GT} {h : HP} {p : Nat} (hp : p < 240) : Con G 1 0 0 yX7_placeX cX7_placeX 1 (some .int) [.int (nI p)] h (PI (fun r h' => nI (px p) = r ∧ h = h')) := by
  refine Con.of (lv := [some (.int (nI p))]) (by decide) (by simp only [lvE_r, lvE_i, lvE_l, lvE_s, lvE_0]; rfl) (by simp only [lgl_r, lgl_i, lgl_l, lgl_s, lgl_0]; decide) (fun Γ C R => ?_)
  refine r_iload_n (q := 1) (z := 0) C 0 rfl (by decide +kernel) rfl rfl ?_
  refine r_iconst (q := 2) (z := 2) (v := 2) C rfl (by decide +kernel) (by decide) ?_
  refine r_idiv (q := 3) C rfl (by decide +kernel) (by decide) ?_
  rw [show nI p / 2 = nI (p / 2) from pk_div (d := 2) (by omega) (by decide) (by decide)]
  refine r_bipush (q := 5) (z := 12) (v := 12) C rfl (by decide +kernel) (by decide) ?_
  refine r_irem (q := 6) C rfl (by decide +kernel) (by decide) ?_
  rw [rem12 (by omega)]
  exact r_iret C (by decide +kernel) rfl (by decide) (by decide) ⟨_, rfl, ⟨rfl, rfl⟩⟩
theorem c_X7_placeY {G : GT} {h : HP} {p : Nat} (hp : p < 240) : Con G 1 0 0 yX7_placeY cX7_placeY 1 (some .int) [.int (nI p)] h (PI (fun r h' => nI (py p) = r ∧ h = h')) := by
  refine Con.of (lv := [some (.int (nI p))]) (by decide) (by simp only [lvE_r, lvE_i, lvE_l, lvE_s, lvE_0]; rfl) (by simp only [lgl_r, lgl_i, lgl_l, lgl_s, lgl_0]; decide) (fun Γ C R => ?_)
  refine r_iload_n (q := 1) (z := 0) C 0 rfl (by decide +kernel) rfl rfl ?_
  refine r_iconst (q := 2) (z := 2) (v := 2) C rfl (by decide +kernel) (by decide) ?_
  refine r_idiv (q := 3) C rfl (by decide +kernel) (by decide) ?_
  rw [show nI p / 2 = nI (p / 2) from pk_div (d := 2) (by omega) (by decide) (by decide)]
  refine r_bipush (q := 5) (z := 12) (v := 12) C rfl (by decide +kernel) (by decide) ?_
  refine r_idiv (q := 6) C rfl (by decide +kernel) (by decide) ?_
  rw [div12 (by omega)]
  exact r_iret C (by decide +kernel) rfl (by decide) (by decide) ⟨_, rfl, ⟨rfl, rfl⟩⟩
theorem c_X7_widthAt {G : GT} {h : HP} {m : Nat} {σ : SG} {r p : Nat} (hm : LM h.kd h.gl h.fr m) (M : MR σ h m) (hr : r < 10) (hp : p < 240) : Con G 1 0 0 yX7_widthAt cX7_widthAt 3 (some .int) [rv m, .int (nI r), .int (nI p)] h (PI (fun v h' => nI (σ.wA r p) = v ∧ h = h')) := by
  refine Con.of (lv := [some (rv m), some (.int (nI r)), some (.int (nI p))]) (by decide) (by simp only [lvE_r, lvE_i, lvE_l, lvE_s, lvE_0]; rfl) (by simp only [lgl_r, lgl_i, lgl_l, lgl_s, lgl_0]; decide) (fun Γ C R => ?_)
  refine r_iload_n (q := 1) (z := 2) C 2 rfl (by decide +kernel) rfl rfl ?_
  refine r_iconst (q := 2) (z := 2) (v := 2) C rfl (by decide +kernel) (by decide) ?_
  refine r_irem (q := 3) C rfl (by decide +kernel) (by decide) ?_
  rw [show nI p - nI p / 2 * 2 = nI (p % 2) from pk_rem (d := 2) (by omega) (by decide) (by decide)]
  refine r_iconst (q := 4) (z := 1) (v := 1) C rfl (by decide +kernel) (by decide) ?_
  refine r_icmp_ne (q := 7) (off := 12) (tgt := 16) C rfl (by decide +kernel) (by decide) (fun c4 => ?_) (fun c4 => ?_)
  · have e2 : ¬ p % 2 = 1 := fun e => c4 (by rw [e]; rfl)
    refine r_aload_n (q := 17) (z := 0) C 0 rfl (by decide +kernel) rfl rfl ?_
    refine r_getR (q := 20) C 7 25 473 rfl (by decide +kernel) rfl (by decide) rfl rfl wf_X7_88 win7 hm.1 ?_
    refine r_iload_n (q := 21) (z := 1) C 1 rfl (by decide +kernel) rfl rfl ?_
    refine r_iald (q := 22) C rfl (by decide +kernel) hm.k473 (vp_in_nI hr (by decide)) ?_
    rw [nI_clamp (by omega), M.awd hr]
    exact r_iret C (by decide +kernel) rfl (by decide) (by decide) ⟨_, rfl, ⟨by simp [SG.wA, wAt, e2], rfl⟩⟩
  · have e2 : p % 2 = 1 := (nI_eq (b := 1) (by omega) (by decide)).mp c4
    refine r_aload_n (q := 8) (z := 0) C 0 rfl (by decide +kernel) rfl rfl ?_
    refine r_getR (q := 11) C 7 26 474 rfl (by decide +kernel) rfl (by decide) rfl rfl wf_X7_91 win7 hm.1 ?_
    refine r_iload_n (q := 12) (z := 1) C 1 rfl (by decide +kernel) rfl rfl ?_
    refine r_iald (q := 13) C rfl (by decide +kernel) hm.k474 (vp_in_nI hr (by decide)) ?_
    rw [nI_clamp (by omega), M.ahg hr]
    refine r_goto (off := 9) (tgt := 22) C (by decide +kernel) (by decide) ?_
    exact r_iret C (by decide +kernel) rfl (by decide) (by decide) ⟨_, rfl, ⟨by simp [SG.wA, wAt, e2], rfl⟩⟩
theorem c_X7_heightAt {G : GT} {h : HP} {m : Nat} {σ : SG} {r p : Nat} (hm : LM h.kd h.gl h.fr m) (M : MR σ h m) (hr : r < 10) (hp : p < 240) : Con G 1 0 0 yX7_heightAt cX7_heightAt 3 (some .int) [rv m, .int (nI r), .int (nI p)] h (PI (fun v h' => nI (σ.hA r p) = v ∧ h = h')) := by
  refine Con.of (lv := [some (rv m), some (.int (nI r)), some (.int (nI p))]) (by decide) (by simp only [lvE_r, lvE_i, lvE_l, lvE_s, lvE_0]; rfl) (by simp only [lgl_r, lgl_i, lgl_l, lgl_s, lgl_0]; decide) (fun Γ C R => ?_)
  refine r_iload_n (q := 1) (z := 2) C 2 rfl (by decide +kernel) rfl rfl ?_
  refine r_iconst (q := 2) (z := 2) (v := 2) C rfl (by decide +kernel) (by decide) ?_
  refine r_irem (q := 3) C rfl (by decide +kernel) (by decide) ?_
  rw [show nI p - nI p / 2 * 2 = nI (p % 2) from pk_rem (d := 2) (by omega) (by decide) (by decide)]
  refine r_iconst (q := 4) (z := 1) (v := 1) C rfl (by decide +kernel) (by decide) ?_
  refine r_icmp_ne (q := 7) (off := 12) (tgt := 16) C rfl (by decide +kernel) (by decide) (fun c4 => ?_) (fun c4 => ?_)
  · have e2 : ¬ p % 2 = 1 := fun e => c4 (by rw [e]; rfl)
    refine r_aload_n (q := 17) (z := 0) C 0 rfl (by decide +kernel) rfl rfl ?_
    refine r_getR (q := 20) C 7 26 474 rfl (by decide +kernel) rfl (by decide) rfl rfl wf_X7_91 win7 hm.1 ?_
    refine r_iload_n (q := 21) (z := 1) C 1 rfl (by decide +kernel) rfl rfl ?_
    refine r_iald (q := 22) C rfl (by decide +kernel) hm.k474 (vp_in_nI hr (by decide)) ?_
    rw [nI_clamp (by omega), M.ahg hr]
    exact r_iret C (by decide +kernel) rfl (by decide) (by decide) ⟨_, rfl, ⟨by simp [SG.hA, wAt, e2], rfl⟩⟩
  · have e2 : p % 2 = 1 := (nI_eq (b := 1) (by omega) (by decide)).mp c4
    refine r_aload_n (q := 8) (z := 0) C 0 rfl (by decide +kernel) rfl rfl ?_
    refine r_getR (q := 11) C 7 25 473 rfl (by decide +kernel) rfl (by decide) rfl rfl wf_X7_88 win7 hm.1 ?_
    refine r_iload_n (q := 12) (z := 1) C 1 rfl (by decide +kernel) rfl rfl ?_
    refine r_iald (q := 13) C rfl (by decide +kernel) hm.k473 (vp_in_nI hr (by decide)) ?_
    rw [nI_clamp (by omega), M.awd hr]
    refine r_goto (off := 9) (tgt := 22) C (by decide +kernel) (by decide) ?_
    exact r_iret C (by decide +kernel) rfl (by decide) (by decide) ⟨_, rfl, ⟨by simp [SG.hA, wAt, e2], rfl⟩⟩
theorem c_X7_isIn {G : GT} {h : HP} {x y w z c : Nat} (hx : x ≤ 20) (hy : y ≤ 20) (hw : w ≤ 20) (hz : z ≤ 20) (hc : c < 240) : Con G 1 0 0 yX7_isIn cX7_isIn 7 (some .boolean) [.int (nI x), .int (nI y), .int (nI w), .int (nI z), .int (nI c)] h (PI (fun v h' => b2i (inn x y w z c) = v ∧ h = h')) := by
  refine Con.of (lv := [some (.int (nI x)), some (.int (nI y)), some (.int (nI w)), some (.int (nI z)), some (.int (nI c)), none, none]) (by decide) (by simp only [lvE_r, lvE_i, lvE_l, lvE_s, lvE_0]; rfl) (by simp only [lgl_r, lgl_i, lgl_l, lgl_s, lgl_0]; decide) (fun Γ C R => ?_)
  refine r_iload (q := 2) C 4 rfl (by decide +kernel) rfl ?_
  refine r_bipush (q := 4) (z := 12) (v := 12) C rfl (by decide +kernel) (by decide) ?_
  refine r_irem (q := 5) C rfl (by decide +kernel) (by decide) ?_
  rw [show nI c - nI c / 12 * 12 = nI (c % 12) from pk_rem (d := 12) (by omega) (by decide) (by decide)]
  refine r_istore (q := 7) C 5 rfl (by decide +kernel) (by decide) (by first | rfl | exact okst_rv rfl) ?_
  dsimp only [List.set]
  refine r_iload (q := 9) C 4 rfl (by decide +kernel) rfl ?_
  refine r_bipush (q := 11) (z := 12) (v := 12) C rfl (by decide +kernel) (by decide) ?_
  refine r_idiv (q := 12) C rfl (by decide +kernel) (by decide) ?_
  rw [show nI c / 12 = nI (c / 12) from pk_div (d := 12) (by omega) (by decide) (by decide)]
  refine r_istore (q := 14) C 6 rfl (by decide +kernel) (by decide) (by first | rfl | exact okst_rv rfl) ?_
  dsimp only [List.set]
  refine r_iload (q := 16) C 5 rfl (by decide +kernel) rfl ?_
  refine r_iload_n (q := 17) (z := 0) C 0 rfl (by decide +kernel) rfl rfl ?_
  refine r_icmp_lt (q := 20) (off := 29) (tgt := 46) C rfl (by decide +kernel) (by decide) (fun c17 => ?_) (fun c17 => ?_)
  · rw [nI_ltI (by omega) (by omega)] at c17
    refine r_iconst (q := 47) (z := 0) (v := 0) C rfl (by decide +kernel) (by decide) ?_
    exact r_zret C (by decide +kernel) rfl (by first | decide | exact b2i_nar _) (by decide) (by decide) ⟨_, rfl, ⟨by clear C R; first | exact bf (by omega) | exact bt (by omega), rfl⟩⟩
  · rw [nI_ltI (by omega) (by omega)] at c17
    refine r_iload (q := 22) C 5 rfl (by decide +kernel) rfl ?_
    refine r_iload_n (q := 23) (z := 0) C 0 rfl (by decide +kernel) rfl rfl ?_
    refine r_iload_n (q := 24) (z := 2) C 2 rfl (by decide +kernel) rfl rfl ?_
    refine r_iadd (q := 25) C rfl (by decide +kernel) ?_
    rw [nI_add]
    refine r_icmp_ge (q := 28) (off := 21) (tgt := 46) C rfl (by decide +kernel) (by decide) (fun c25 => ?_) (fun c25 => ?_)
    · rw [nI_leI (by omega) (by omega)] at c25
      refine r_iconst (q := 47) (z := 0) (v := 0) C rfl (by decide +kernel) (by decide) ?_
      exact r_zret C (by decide +kernel) rfl (by first | decide | exact b2i_nar _) (by decide) (by decide) ⟨_, rfl, ⟨by clear C R; first | exact bf (by omega) | exact bt (by omega), rfl⟩⟩
    · rw [nI_leI (by omega) (by omega)] at c25
      refine r_iload (q := 30) C 6 rfl (by decide +kernel) rfl ?_
      refine r_iload_n (q := 31) (z := 1) C 1 rfl (by decide +kernel) rfl rfl ?_
      refine r_icmp_lt (q := 34) (off := 15) (tgt := 46) C rfl (by decide +kernel) (by decide) (fun c31 => ?_) (fun c31 => ?_)
      · rw [nI_ltI (by omega) (by omega)] at c31
        refine r_iconst (q := 47) (z := 0) (v := 0) C rfl (by decide +kernel) (by decide) ?_
        exact r_zret C (by decide +kernel) rfl (by first | decide | exact b2i_nar _) (by decide) (by decide) ⟨_, rfl, ⟨by clear C R; first | exact bf (by omega) | exact bt (by omega), rfl⟩⟩
      · rw [nI_ltI (by omega) (by omega)] at c31
        refine r_iload (q := 36) C 6 rfl (by decide +kernel) rfl ?_
        refine r_iload_n (q := 37) (z := 1) C 1 rfl (by decide +kernel) rfl rfl ?_
        refine r_iload_n (q := 38) (z := 3) C 3 rfl (by decide +kernel) rfl rfl ?_
        refine r_iadd (q := 39) C rfl (by decide +kernel) ?_
        rw [nI_add]
        refine r_icmp_ge (q := 42) (off := 7) (tgt := 46) C rfl (by decide +kernel) (by decide) (fun c39 => ?_) (fun c39 => ?_)
        · rw [nI_leI (by omega) (by omega)] at c39
          refine r_iconst (q := 47) (z := 0) (v := 0) C rfl (by decide +kernel) (by decide) ?_
          exact r_zret C (by decide +kernel) rfl (by first | decide | exact b2i_nar _) (by decide) (by decide) ⟨_, rfl, ⟨by clear C R; first | exact bf (by omega) | exact bt (by omega), rfl⟩⟩
        · rw [nI_leI (by omega) (by omega)] at c39
          refine r_iconst (q := 43) (z := 1) (v := 1) C rfl (by decide +kernel) (by decide) ?_
          refine r_goto (off := 4) (tgt := 47) C (by decide +kernel) (by decide) ?_
          exact r_zret C (by decide +kernel) rfl (by first | decide | exact b2i_nar _) (by decide) (by decide) ⟨_, rfl, ⟨by clear C R; first | exact bf (by omega) | exact bt (by omega), rfl⟩⟩
theorem c_X7_coversAt {G : GT} {h : HP} {m : Nat} {σ : SG} {r p c : Nat} (hm : LM h.kd h.gl h.fr m) (M : MR σ h m) (W : WF σ) (hr : r < σ.n) (hp : p < 240) (hc : c < 240) : Con G 2 0 0 yX7_coversAt cX7_coversAt 4 (some .boolean) [rv m, .int (nI r), .int (nI p), .int (nI c)] h (PI (fun v h' => b2i (σ.cA r p c) = v ∧ h = h')) := by
  refine Con.of (lv := [some (rv m), some (.int (nI r)), some (.int (nI p)), some (.int (nI c))]) (by decide) (by simp only [lvE_r, lvE_i, lvE_l, lvE_s, lvE_0]; rfl) (by simp only [lgl_r, lgl_i, lgl_l, lgl_s, lgl_0]; decide) (fun Γ C R => ?_)
  have r10 := W.n10
  have q1 := W.wA hr p
  have q2 := W.hA hr p
  have q3 := px_lt (p := p)
  have q4 := py_lt hp
  refine r_iload_n (q := 1) (z := 2) C 2 rfl (by decide +kernel) rfl rfl ?_
  refine cS1I (q := 4) C R rfl (by decide +kernel) lk_X7_246 (c_X7_placeX hp) (by decide) (by decide) (by decide) rfl (by first | exact Nat.le_of_ble_eq_true rfl | (simp only [List.map_cons, List.map_nil, List.sum_cons, List.sum_nil, rv_cat]; exact Nat.le_of_ble_eq_true rfl))  ?_
  rintro _ _ ⟨rfl, rfl⟩
  refine r_iload_n (q := 5) (z := 2) C 2 rfl (by decide +kernel) rfl rfl ?_
  refine cS1I (q := 8) C R rfl (by decide +kernel) lk_X7_249 (c_X7_placeY hp) (by decide) (by decide) (by decide) rfl (by first | exact Nat.le_of_ble_eq_true rfl | (simp only [List.map_cons, List.map_nil, List.sum_cons, List.sum_nil, rv_cat]; exact Nat.le_of_ble_eq_true rfl))  ?_
  rintro _ _ ⟨rfl, rfl⟩
  refine r_aload_n (q := 9) (z := 0) C 0 rfl (by decide +kernel) rfl rfl ?_
  refine r_iload_n (q := 10) (z := 1) C 1 rfl (by decide +kernel) rfl rfl ?_
  refine r_iload_n (q := 11) (z := 2) C 2 rfl (by decide +kernel) rfl rfl ?_
  refine cV2I (q := 14) C R rfl (by decide +kernel) lk_X7_252 (c_X7_widthAt hm M (by omega) hp) (by decide) (by decide) (by decide) rfl (by first | exact Nat.le_of_ble_eq_true rfl | (simp only [List.map_cons, List.map_nil, List.sum_cons, List.sum_nil, rv_cat]; exact Nat.le_of_ble_eq_true rfl)) rfl hm.1 ?_
  rintro _ _ ⟨rfl, rfl⟩
  refine r_aload_n (q := 15) (z := 0) C 0 rfl (by decide +kernel) rfl rfl ?_
  refine r_iload_n (q := 16) (z := 1) C 1 rfl (by decide +kernel) rfl rfl ?_
  refine r_iload_n (q := 17) (z := 2) C 2 rfl (by decide +kernel) rfl rfl ?_
  refine cV2I (q := 20) C R rfl (by decide +kernel) lk_X7_256 (c_X7_heightAt hm M (by omega) hp) (by decide) (by decide) (by decide) rfl (by first | exact Nat.le_of_ble_eq_true rfl | (simp only [List.map_cons, List.map_nil, List.sum_cons, List.sum_nil, rv_cat]; exact Nat.le_of_ble_eq_true rfl)) rfl hm.1 ?_
  rintro _ _ ⟨rfl, rfl⟩
  refine r_iload_n (q := 21) (z := 3) C 3 rfl (by decide +kernel) rfl rfl ?_
  refine cS5I (q := 24) C R rfl (by decide +kernel) lk_X7_259 (c_X7_isIn (by omega) (by omega) (by omega) (by omega) hc) (by decide) (by decide) (by decide) rfl (by first | exact Nat.le_of_ble_eq_true rfl | (simp only [List.map_cons, List.map_nil, List.sum_cons, List.sum_nil, rv_cat]; exact Nat.le_of_ble_eq_true rfl))  ?_
  rintro _ _ ⟨rfl, rfl⟩
  exact r_zret C (by decide +kernel) rfl (by first | decide | exact b2i_nar _) (by decide) (by decide) ⟨_, rfl, ⟨rfl, rfl⟩⟩
theorem c_X7_covers {G : GT} {h : HP} {m : Nat} {σ : SG} {r c : Nat} (hm : LM h.kd h.gl h.fr m) (M : MR σ h m) (W : WF σ) (hr : r < σ.n) (hc : c < 240) : Con G 3 0 0 yX7_covers cX7_covers 3 (some .boolean) [rv m, .int (nI r), .int (nI c)] h (PI (fun v h' => b2i (σ.cv r c) = v ∧ h = h')) := by
  refine Con.of (lv := [some (rv m), some (.int (nI r)), some (.int (nI c))]) (by decide) (by simp only [lvE_r, lvE_i, lvE_l, lvE_s, lvE_0]; rfl) (by simp only [lgl_r, lgl_i, lgl_l, lgl_s, lgl_0]; decide) (fun Γ C R => ?_)
  have r10 := W.n10
  refine r_aload_n (q := 1) (z := 0) C 0 rfl (by decide +kernel) rfl rfl ?_
  refine r_getR (q := 4) C 7 30 478 rfl (by decide +kernel) rfl (by decide) rfl rfl wf_X7_103 win7 hm.1 ?_
  refine r_iload_n (q := 5) (z := 1) C 1 rfl (by decide +kernel) rfl rfl ?_
  refine r_iald (q := 6) C rfl (by decide +kernel) hm.k478 (vp_in_nI (by omega) (by decide)) ?_
  rw [nI_clamp (by omega), M.ali (by omega)]
  refine r_if_lt (q := 9) (off := 22) (tgt := 28) C rfl (by decide +kernel) (by decide) (fun c6 => ?_) (fun c6 => ?_)
  · have hl := pl_neg.mp c6
    refine r_iconst (q := 29) (z := 0) (v := 0) C rfl (by decide +kernel) (by decide) ?_
    exact r_zret C (by decide +kernel) rfl (by first | decide | exact b2i_nar _) (by decide) (by decide) ⟨_, rfl, ⟨by clear C R; first | (simp [SG.cv, hl, b2i]; done) | (simp_all [SG.cv, b2i_0, b2i_n0, b2i]; done), rfl⟩⟩
  · have hl := pl_nn.mp c6
    refine r_aload_n (q := 10) (z := 0) C 0 rfl (by decide +kernel) rfl rfl ?_
    refine r_iload_n (q := 11) (z := 1) C 1 rfl (by decide +kernel) rfl rfl ?_
    refine r_aload_n (q := 12) (z := 0) C 0 rfl (by decide +kernel) rfl rfl ?_
    refine r_getR (q := 15) C 7 30 478 rfl (by decide +kernel) rfl (by decide) rfl rfl wf_X7_103 win7 hm.1 ?_
    refine r_iload_n (q := 16) (z := 1) C 1 rfl (by decide +kernel) rfl rfl ?_
    refine r_iald (q := 17) C rfl (by decide +kernel) hm.k478 (vp_in_nI (by omega) (by decide)) ?_
    rw [nI_clamp (by omega), M.ali (by omega), pl_in hl]
    refine r_iload_n (q := 18) (z := 2) C 2 rfl (by decide +kernel) rfl rfl ?_
    refine cV3I (q := 21) C R rfl (by decide +kernel) lk_X7_263 (c_X7_coversAt hm M W hr hl hc) (by decide) (by decide) (by decide) rfl (by first | exact Nat.le_of_ble_eq_true rfl | (simp only [List.map_cons, List.map_nil, List.sum_cons, List.sum_nil, rv_cat]; exact Nat.le_of_ble_eq_true rfl)) rfl hm.1 ?_
    rintro _ _ ⟨rfl, rfl⟩
    refine r_if_eq (q := 24) (off := 7) (tgt := 28) C rfl (by decide +kernel) (by decide) (fun c21 => ?_) (fun c21 => ?_)
    · refine r_iconst (q := 29) (z := 0) (v := 0) C rfl (by decide +kernel) (by decide) ?_
      exact r_zret C (by decide +kernel) rfl (by first | decide | exact b2i_nar _) (by decide) (by decide) ⟨_, rfl, ⟨by clear C R; first | (simp [SG.cv, hl, b2i]; done) | (simp_all [SG.cv, b2i_0, b2i_n0, b2i]; done), rfl⟩⟩
    · refine r_iconst (q := 25) (z := 1) (v := 1) C rfl (by decide +kernel) (by decide) ?_
      refine r_goto (off := 4) (tgt := 29) C (by decide +kernel) (by decide) ?_
      exact r_zret C (by decide +kernel) rfl (by first | decide | exact b2i_nar _) (by decide) (by decide) ⟨_, rfl, ⟨by clear C R; first | (simp [SG.cv, hl, b2i]; done) | (simp_all [SG.cv, b2i_0, b2i_n0, b2i]; done), rfl⟩⟩
theorem c_X7_coveredBy {G : GT} {h : HP} {m : Nat} {σ : SG} {c : Nat} (hm : LM h.kd h.gl h.fr m) (M : MR σ h m) (W : WF σ) (hc : c < 240) : Con G 4 0 0 yX7_coveredBy cX7_coveredBy 4 (some .int) [rv m, .int (nI c)] h (PI (fun v h' => covN σ c σ.n = v ∧ h = h')) := by
  refine Con.of (lv := [some (rv m), some (.int (nI c)), none, none]) (by decide) (by simp only [lvE_r, lvE_i, lvE_l, lvE_s, lvE_0]; rfl) (by simp only [lgl_r, lgl_i, lgl_l, lgl_s, lgl_0]; decide) (fun Γ C R => ?_)
  have r10 := W.n10
  refine r_iconst (q := 1) (z := (-1)) (v := (-1)) C rfl (by decide +kernel) (by decide) ?_
  refine r_istore_n (q := 2) (z := 2) C 2 rfl (by decide +kernel) rfl (by decide) (by first | rfl | exact okst_rv rfl) ?_
  dsimp only [List.set]
  refine r_iconst (q := 3) (z := 0) (v := 0) C rfl (by decide +kernel) (by decide) ?_
  refine r_istore_n (q := 4) (z := 3) C 3 rfl (by decide +kernel) rfl (by decide) (by first | rfl | exact okst_rv rfl) ?_
  dsimp only [List.set]
  have L4 : ∀ (fuel4 : Nat) (k : Nat), σ.n - k < fuel4 → (k ≤ σ.n) → wX G Γ (qM G Γ (PI (fun v h' => covN σ c σ.n = v ∧ h = h')) 0 0) 0 0 (h) 4 [some (rv m), some (.int (nI c)), some (.int (covN σ c k)), some (.int (nI k))] [] := by
    intro fuel4
    induction fuel4 with
    | zero =>
      intro k hm4
      exact absurd hm4 (Nat.not_lt_zero _)
    | succ fuel4 ih4 =>
      intro k hm4 hk
      refine r_iload_n (q := 5) (z := 3) C 3 rfl (by decide +kernel) rfl rfl ?_
      refine r_aload_n (q := 6) (z := 0) C 0 rfl (by decide +kernel) rfl rfl ?_
      refine r_getI (q := 9) C 7 24 472 rfl (by decide +kernel) rfl (by decide) rfl rfl wf_X7_243 win7 hm.1 ?_
      rw [M.fn]
      refine r_icmp_ge (q := 12) (off := 24) (tgt := 33) C rfl (by decide +kernel) (by decide) (fun c9 => ?_) (fun c9 => ?_)
      · have ek : k = σ.n := by have := (nI_leI (by omega) (by omega)).mp c9; omega
        refine r_iload_n (q := 34) (z := 2) C 2 rfl (by decide +kernel) rfl rfl ?_
        exact r_iret C (by decide +kernel) rfl (by decide) (by decide) ⟨_, rfl, ⟨by rw [ek], rfl⟩⟩
      · have hlt : k < σ.n := Nat.lt_of_not_le (fun e => c9 (nI_le e (by omega)))
        refine r_aload_n (q := 13) (z := 0) C 0 rfl (by decide +kernel) rfl rfl ?_
        refine r_iload_n (q := 14) (z := 3) C 3 rfl (by decide +kernel) rfl rfl ?_
        refine r_iload_n (q := 15) (z := 1) C 1 rfl (by decide +kernel) rfl rfl ?_
        refine cV2I (q := 18) C R rfl (by decide +kernel) lk_X7_267 (c_X7_covers hm M W hlt hc) (by decide) (by decide) (by decide) rfl (by first | exact Nat.le_of_ble_eq_true rfl | (simp only [List.map_cons, List.map_nil, List.sum_cons, List.sum_nil, rv_cat]; exact Nat.le_of_ble_eq_true rfl)) rfl hm.1 ?_
        rintro _ _ ⟨rfl, rfl⟩
        refine r_if_eq (q := 21) (off := 7) (tgt := 25) C rfl (by decide +kernel) (by decide) (fun c18 => ?_) (fun c18 => ?_)
        · have ec : covN σ c k = covN σ c (k + 1) := by simp [covN, (b2i_0 _).mp c18]
          refine r_iload_n (q := 26) (z := 2) C 2 rfl (by decide +kernel) rfl rfl ?_
          refine r_istore_n (q := 27) (z := 2) C 2 rfl (by decide +kernel) rfl (by decide) (by first | rfl | exact okst_rv rfl) ?_
          dsimp only [List.set]
          refine r_iinc (q := 30) (z := 1) (v := 1) C 3 rfl (by decide +kernel) rfl (by decide) (by decide) (by first | rfl | exact okst_rv rfl) ?_
          dsimp only [List.set]
          rw [nI_1, ec]
          refine r_goto (off := -26) (tgt := 4) C (by decide +kernel) (by decide) ?_
          exact ih4 (k + 1) (by omega) (by omega)
        · have ec : nI k = covN σ c (k + 1) := by simp [covN, (b2i_n0 _).mp c18]
          refine r_iload_n (q := 22) (z := 3) C 3 rfl (by decide +kernel) rfl rfl ?_
          refine r_goto (off := 4) (tgt := 26) C (by decide +kernel) (by decide) ?_
          refine r_istore_n (q := 27) (z := 2) C 2 rfl (by decide +kernel) rfl (by decide) (by first | rfl | exact okst_rv rfl) ?_
          dsimp only [List.set]
          refine r_iinc (q := 30) (z := 1) (v := 1) C 3 rfl (by decide +kernel) rfl (by decide) (by decide) (by first | rfl | exact okst_rv rfl) ?_
          dsimp only [List.set]
          rw [nI_1, ec]
          refine r_goto (off := -26) (tgt := 4) C (by decide +kernel) (by decide) ?_
          exact ih4 (k + 1) (by omega) (by omega)
  exact L4 (σ.n + 1) 0 (by omega) (by omega)
theorem c_X7_isFree {G : GT} {h : HP} {m : Nat} {σ : SG} {c : Nat} (hm : LM h.kd h.gl h.fr m) (M : MR σ h m) (W : WF σ) (hc : c < 120) : Con G 5 0 0 yX7_isFree cX7_isFree 2 (some .boolean) [rv m, .int (nI c)] h (PI (fun v h' => b2i (σ.fre c) = v ∧ h = h')) := by
  refine Con.of (lv := [some (rv m), some (.int (nI c))]) (by decide) (by simp only [lvE_r, lvE_i, lvE_l, lvE_s, lvE_0]; rfl) (by simp only [lgl_r, lgl_i, lgl_l, lgl_s, lgl_0]; decide) (fun Γ C R => ?_)
  have r10 := W.n10
  refine r_aload_n (q := 1) (z := 0) C 0 rfl (by decide +kernel) rfl rfl ?_
  refine r_getR (q := 4) C 7 36 484 rfl (by decide +kernel) rfl (by decide) rfl rfl wf_X7_118 win7 hm.1 ?_
  refine r_iload_n (q := 5) (z := 1) C 1 rfl (by decide +kernel) rfl rfl ?_
  refine r_zald (q := 6) C rfl (by decide +kernel) hm.k484 (vp_in_nI hc (by decide)) ?_
  rw [nI_clamp (by omega), M.acl hc]
  refine r_if_ne (q := 9) (off := 15) (tgt := 21) C rfl (by decide +kernel) (by decide) (fun c6 => ?_) (fun c6 => ?_)
  · refine r_iconst (q := 22) (z := 0) (v := 0) C rfl (by decide +kernel) (by decide) ?_
    exact r_zret C (by decide +kernel) rfl (by first | decide | exact b2i_nar _) (by decide) (by decide) ⟨_, rfl, ⟨by clear C R; simp_all [SG.fre, b2i_0, b2i_n0, b2i], rfl⟩⟩
  · refine r_aload_n (q := 10) (z := 0) C 0 rfl (by decide +kernel) rfl rfl ?_
    refine r_iload_n (q := 11) (z := 1) C 1 rfl (by decide +kernel) rfl rfl ?_
    refine cV1I (q := 14) C R rfl (by decide +kernel) lk_X7_271 (c_X7_coveredBy hm M W (by omega)) (by decide) (by decide) (by decide) rfl (by first | exact Nat.le_of_ble_eq_true rfl | (simp only [List.map_cons, List.map_nil, List.sum_cons, List.sum_nil, rv_cat]; exact Nat.le_of_ble_eq_true rfl)) rfl hm.1 ?_
    rintro _ _ ⟨rfl, rfl⟩
    refine r_if_ge (q := 17) (off := 7) (tgt := 21) C rfl (by decide +kernel) (by decide) (fun c14 => ?_) (fun c14 => ?_)
    · have c14 := mt (covN_neg r10).mpr (Int32.not_lt.mpr c14)
      refine r_iconst (q := 22) (z := 0) (v := 0) C rfl (by decide +kernel) (by decide) ?_
      exact r_zret C (by decide +kernel) rfl (by first | decide | exact b2i_nar _) (by decide) (by decide) ⟨_, rfl, ⟨by clear C R; simp_all [SG.fre, b2i_0, b2i_n0, b2i], rfl⟩⟩
    · have c14 := (covN_neg r10).mp (Int32.not_le.mp c14)
      refine r_iconst (q := 18) (z := 1) (v := 1) C rfl (by decide +kernel) (by decide) ?_
      refine r_goto (off := 4) (tgt := 22) C (by decide +kernel) (by decide) ?_
      exact r_zret C (by decide +kernel) rfl (by first | decide | exact b2i_nar _) (by decide) (by decide) ⟨_, rfl, ⟨by clear C R; simp_all [SG.fre, b2i_0, b2i_n0, b2i], rfl⟩⟩
theorem c_X7_doorAt {G : GT} {h : HP} {m : Nat} {σ : SG} {r p : Nat} (hm : LM h.kd h.gl h.fr m) (M : MR σ h m) (W : WF σ) (hr : r < σ.n) (hp : p < 240) : Con G 2 0 0 yX7_doorAt cX7_doorAt 3 (some .int) [rv m, .int (nI r), .int (nI p)] h (PI (fun v h' => nI (σ.dA r p) = v ∧ h = h')) := by
  refine Con.of (lv := [some (rv m), some (.int (nI r)), some (.int (nI p))]) (by decide) (by simp only [lvE_r, lvE_i, lvE_l, lvE_s, lvE_0]; rfl) (by simp only [lgl_r, lgl_i, lgl_l, lgl_s, lgl_0]; decide) (fun Γ C R => ?_)
  have r10 := W.n10
  have q1 := W.wA hr p
  refine r_bipush (q := 2) (z := 12) (v := 12) C rfl (by decide +kernel) (by decide) ?_
  refine r_iload_n (q := 3) (z := 2) C 2 rfl (by decide +kernel) rfl rfl ?_
  refine cS1I (q := 6) C R rfl (by decide +kernel) lk_X7_249 (c_X7_placeY hp) (by decide) (by decide) (by decide) rfl (by first | exact Nat.le_of_ble_eq_true rfl | (simp only [List.map_cons, List.map_nil, List.sum_cons, List.sum_nil, rv_cat]; exact Nat.le_of_ble_eq_true rfl))  ?_
  rintro _ _ ⟨rfl, rfl⟩
  refine r_aload_n (q := 7) (z := 0) C 0 rfl (by decide +kernel) rfl rfl ?_
  refine r_iload_n (q := 8) (z := 1) C 1 rfl (by decide +kernel) rfl rfl ?_
  refine r_iload_n (q := 9) (z := 2) C 2 rfl (by decide +kernel) rfl rfl ?_
  refine cV2I (q := 12) C R rfl (by decide +kernel) lk_X7_256 (c_X7_heightAt hm M (by omega) hp) (by decide) (by decide) (by decide) rfl (by first | exact Nat.le_of_ble_eq_true rfl | (simp only [List.map_cons, List.map_nil, List.sum_cons, List.sum_nil, rv_cat]; exact Nat.le_of_ble_eq_true rfl)) rfl hm.1 ?_
  rintro _ _ ⟨rfl, rfl⟩
  refine r_iadd (q := 13) C rfl (by decide +kernel) ?_
  rw [nI_add]
  refine r_imul (q := 14) C rfl (by decide +kernel) ?_
  rw [show (12 : Int32) = nI 12 from rfl, pk_mul]
  refine r_iload_n (q := 15) (z := 2) C 2 rfl (by decide +kernel) rfl rfl ?_
  refine cS1I (q := 18) C R rfl (by decide +kernel) lk_X7_246 (c_X7_placeX hp) (by decide) (by decide) (by decide) rfl (by first | exact Nat.le_of_ble_eq_true rfl | (simp only [List.map_cons, List.map_nil, List.sum_cons, List.sum_nil, rv_cat]; exact Nat.le_of_ble_eq_true rfl))  ?_
  rintro _ _ ⟨rfl, rfl⟩
  refine r_iadd (q := 19) C rfl (by decide +kernel) ?_
  rw [nI_add]
  refine r_aload_n (q := 20) (z := 0) C 0 rfl (by decide +kernel) rfl rfl ?_
  refine r_iload_n (q := 21) (z := 1) C 1 rfl (by decide +kernel) rfl rfl ?_
  refine r_iload_n (q := 22) (z := 2) C 2 rfl (by decide +kernel) rfl rfl ?_
  refine cV2I (q := 25) C R rfl (by decide +kernel) lk_X7_252 (c_X7_widthAt hm M (by omega) hp) (by decide) (by decide) (by decide) rfl (by first | exact Nat.le_of_ble_eq_true rfl | (simp only [List.map_cons, List.map_nil, List.sum_cons, List.sum_nil, rv_cat]; exact Nat.le_of_ble_eq_true rfl)) rfl hm.1 ?_
  rintro _ _ ⟨rfl, rfl⟩
  refine r_iconst (q := 26) (z := 1) (v := 1) C rfl (by decide +kernel) (by decide) ?_
  refine r_isub (q := 27) C rfl (by decide +kernel) ?_
  rw [m1x _ (by omega)]
  refine r_iconst (q := 28) (z := 2) (v := 2) C rfl (by decide +kernel) (by decide) ?_
  refine r_idiv (q := 29) C rfl (by decide +kernel) (by decide) ?_
  rw [show nI (σ.wA r p - 1) / 2 = nI ((σ.wA r p - 1) / 2) from pk_div (d := 2) (by omega) (by decide) (by decide)]
  refine r_iadd (q := 30) C rfl (by decide +kernel) ?_
  rw [nI_add]
  exact r_iret C (by decide +kernel) rfl (by decide) (by decide) ⟨_, rfl, ⟨rfl, rfl⟩⟩
theorem c_X7_door {G : GT} {h : HP} {m : Nat} {σ : SG} {r : Nat} (hm : LM h.kd h.gl h.fr m) (M : MR σ h m) (W : WF σ) (hr : r < σ.n) : Con G 3 0 0 yX7_door cX7_door 2 (some .int) [rv m, .int (nI r)] h (PI (fun v h' => (if σ.li r < 240 then nI (σ.dr r) else -1) = v ∧ h = h')) := by
  refine Con.of (lv := [some (rv m), some (.int (nI r))]) (by decide) (by simp only [lvE_r, lvE_i, lvE_l, lvE_s, lvE_0]; rfl) (by simp only [lgl_r, lgl_i, lgl_l, lgl_s, lgl_0]; decide) (fun Γ C R => ?_)
  have r10 := W.n10
  refine r_aload_n (q := 1) (z := 0) C 0 rfl (by decide +kernel) rfl rfl ?_
  refine r_getR (q := 4) C 7 30 478 rfl (by decide +kernel) rfl (by decide) rfl rfl wf_X7_103 win7 hm.1 ?_
  refine r_iload_n (q := 5) (z := 1) C 1 rfl (by decide +kernel) rfl rfl ?_
  refine r_iald (q := 6) C rfl (by decide +kernel) hm.k478 (vp_in_nI (by omega) (by decide)) ?_
  rw [nI_clamp (by omega), M.ali (by omega)]
  refine r_if_ge (q := 9) (off := 7) (tgt := 13) C rfl (by decide +kernel) (by decide) (fun c6 => ?_) (fun c6 => ?_)
  · have hl := pl_le.mp c6
    refine r_aload_n (q := 14) (z := 0) C 0 rfl (by decide +kernel) rfl rfl ?_
    refine r_iload_n (q := 15) (z := 1) C 1 rfl (by decide +kernel) rfl rfl ?_
    refine r_aload_n (q := 16) (z := 0) C 0 rfl (by decide +kernel) rfl rfl ?_
    refine r_getR (q := 19) C 7 30 478 rfl (by decide +kernel) rfl (by decide) rfl rfl wf_X7_103 win7 hm.1 ?_
    refine r_iload_n (q := 20) (z := 1) C 1 rfl (by decide +kernel) rfl rfl ?_
    refine r_iald (q := 21) C rfl (by decide +kernel) hm.k478 (vp_in_nI (by omega) (by decide)) ?_
    rw [nI_clamp (by omega), M.ali (by omega), pl_in hl]
    refine cV2I (q := 24) C R rfl (by decide +kernel) lk_X7_274 (c_X7_doorAt hm M W hr hl) (by decide) (by decide) (by decide) rfl (by first | exact Nat.le_of_ble_eq_true rfl | (simp only [List.map_cons, List.map_nil, List.sum_cons, List.sum_nil, rv_cat]; exact Nat.le_of_ble_eq_true rfl)) rfl hm.1 ?_
    rintro _ _ ⟨rfl, rfl⟩
    exact r_iret C (by decide +kernel) rfl (by decide) (by decide) ⟨_, rfl, ⟨by first | rw [if_neg hl] | (rw [if_pos hl]; rfl), rfl⟩⟩
  · have hl := mt pl_le.mpr c6
    refine r_iconst (q := 10) (z := (-1)) (v := (-1)) C rfl (by decide +kernel) (by decide) ?_
    refine r_goto (off := 14) (tgt := 24) C (by decide +kernel) (by decide) ?_
    exact r_iret C (by decide +kernel) rfl (by decide) (by decide) ⟨_, rfl, ⟨by first | rw [if_neg hl] | (rw [if_pos hl]; rfl), rfl⟩⟩
theorem c_X7_gateCell {G : GT} {h : HP} {m : Nat} {σ : SG}  (hm : LM h.kd h.gl h.fr m) (M : MR σ h m) (W : WF σ) : Con G 1 0 0 yX7_gateCell cX7_gateCell 1 (some .int) [rv m] h (PI (fun v h' => nI (12 * σ.gr) = v ∧ h = h')) := by
  refine Con.of (lv := [some (rv m)]) (by decide) (by simp only [lvE_r, lvE_i, lvE_l, lvE_s, lvE_0]; rfl) (by simp only [lgl_r, lgl_i, lgl_l, lgl_s, lgl_0]; decide) (fun Γ C R => ?_)
  refine r_bipush (q := 2) (z := 12) (v := 12) C rfl (by decide +kernel) (by decide) ?_
  refine r_aload_n (q := 3) (z := 0) C 0 rfl (by decide +kernel) rfl rfl ?_
  refine r_getI (q := 6) C 7 37 485 rfl (by decide +kernel) rfl (by decide) rfl rfl wf_X7_277 win7 hm.1 ?_
  rw [M.fg]
  refine r_imul (q := 7) C rfl (by decide +kernel) ?_
  rw [show (12 : Int32) = nI 12 from rfl, pk_mul]
  exact r_iret C (by decide +kernel) rfl (by decide) (by decide) ⟨_, rfl, ⟨rfl, rfl⟩⟩
