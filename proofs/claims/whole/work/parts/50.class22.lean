/-! ===== a new ride ===== -/
def Kg (h h' : HP) : Prop := ∀ b, (h.kd b).1 ≠ 99 → h'.kd b = h.kd b ∧ h'.gl b = h.gl b ∧ (∀ f, f ≠ 387 → h'.fi f b = h.fi f b) ∧ (∀ f, h'.fr f b = h.fr f b) ∧ h'.ai b = h.ai b ∧ h'.al b = h.al b
theorem Kg.rf {h : HP} : Kg h h := fun _ _ => ⟨rfl, rfl, fun _ _ => rfl, fun _ => rfl, rfl, rfl⟩
theorem Gw.old {a b : Nat} {h h' : HP} (x : Gw a h h') (ha : (h.kd a).1 = 99) (hb : (h.kd b).1 ≠ 99) : h'.kd b = h.kd b ∧ h'.gl b = h.gl b ∧ (∀ f, h'.fi f b = h.fi f b) ∧ (∀ f, h'.fr f b = h.fr f b) ∧ h'.ai b = h.ai b ∧ h'.al b = h.al b ∧ h'.ar b = h.ar b := by
  obtain ⟨x1, x2, x3⟩ := x b hb
  exact ⟨x1, x2, x3 (fun e => hb (by rw [e]; exact ha))⟩
/-- only the references in the array B have changed -/
def Ra (B : Nat) (h h' : HP) : Prop := h'.kd = h.kd ∧ h'.fi = h.fi ∧ h'.fr = h.fr ∧ h'.ai = h.ai ∧ h'.al = h.al ∧ h'.gl = h.gl ∧ ∀ b, b ≠ B → h'.ar b = h.ar b
theorem Ra.rf {B : Nat} {h : HP} : Ra B h h := ⟨rfl, rfl, rfl, rfl, rfl, rfl, fun _ _ => rfl⟩
theorem Ra.st {B i v : Nat} {h h' : HP} (x : Ra B h h') : Ra B h (h'.stR B i v) := ⟨x.1, x.2.1, x.2.2.1, x.2.2.2.1, x.2.2.2.2.1, x.2.2.2.2.2.1, fun b hb => by
  funext j
  rw [ar_stR', if_neg (fun e => hb e.1), x.2.2.2.2.2.2 b hb]⟩
theorem cv_add {σ : SG} {w z p s k q c : Nat} (hq : q ≠ σ.n) : (σ.add w z p s k).cv q c = σ.cv q c := by
  show (decide (σ.li q < 240) && inn (px (σ.li q)) (py (σ.li q)) (wAt (upN σ.wd σ.n w q) (upN σ.hg σ.n z q) (σ.li q)) (wAt (upN σ.hg σ.n z q) (upN σ.wd σ.n w q) (σ.li q)) c) = _
  rw [upN_n hq, upN_n hq]; rfl
theorem cell_add {σ : SG} (W : WF σ) {w z p s k c : Nat} (hn : σ.n < 10) : cellV (σ.add w z p s k) c = cellV σ c := by
  have hli : σ.li σ.n = 240 := ((W.2.2.2.1 σ.n hn).2.2 (Nat.le_refl _)).1
  have hcn : (σ.add w z p s k).cv σ.n c = false := by
    show (decide (σ.li σ.n < 240) && _) = false
    rw [hli]; rfl
  unfold cellV
  show (if σ.cl c then (-2 : Int32) else covN (σ.add w z p s k) c (σ.n + 1)) = _
  have e : covN (σ.add w z p s k) c (σ.n + 1) = covN σ c σ.n := by
    show (if (σ.add w z p s k).cv σ.n c then nI σ.n else covN (σ.add w z p s k) c σ.n) = _
    rw [hcn]
    show covN (σ.add w z p s k) c σ.n = _
    exact covN_congr (fun q hq => cv_add (by omega))
  rw [e]
theorem Srt.ge {σ : SG} {L : List Nat} (S : Srt σ L) {i j a b : Nat} (hij : i < j) (ha : L[i]? = some a) (hb : L[j]? = some b) : σ.rk b ≤ σ.rk a := by
  obtain ⟨h1, e1⟩ := List.getElem?_eq_some_iff.mp ha
  obtain ⟨h2, e2⟩ := List.getElem?_eq_some_iff.mp hb
  have := List.pairwise_iff_getElem.mp S.1 i j h1 h2 hij
  rw [e1, e2] at this
  unfold bfr at this; omega
theorem Srt.ins {σ : SG} {L : List Nat} {j w z p s k : Nat} (S : Srt σ L) (h1 : ∀ i r, i < j → L[i]? = some r → k ≤ σ.rk r) (h2 : ∀ i r, j ≤ i → L[i]? = some r → σ.rk r < k) : Srt (σ.add w z p s k) (L.take j ++ σ.n :: L.drop j) := by
  have hr : ∀ r, r ∈ L → (σ.add w z p s k).rk r = σ.rk r := fun r hr => by
    have := (S.2 r).mp hr
    exact upN_n (by omega)
  have hn : (σ.add w z p s k).rk σ.n = k := upN_s
  have hm : ∀ r, r ∈ L.take j → r ∈ L := fun r h => List.mem_of_mem_take h
  have hd : ∀ r, r ∈ L.drop j → r ∈ L := fun r h => List.mem_of_mem_drop h
  have hb : ∀ a b, a ∈ L → b ∈ L → bfr σ a b → bfr (σ.add w z p s k) a b := fun a b ha hb h => by
    unfold bfr at *
    rw [hr a ha, hr b hb]; exact h
  have hP : (L.take j ++ L.drop j).Pairwise (bfr σ) := by rw [List.take_append_drop]; exact S.1
  obtain ⟨p1, p2, p3⟩ := List.pairwise_append.mp hP
  refine ⟨List.pairwise_append.mpr ⟨?_, List.pairwise_cons.mpr ⟨fun b hb2 => ?_, ?_⟩, fun a ha b hb2 => ?_⟩, fun r => ?_⟩
  · exact p1.imp_of_mem (fun ha hb2 h => hb _ _ (hm _ ha) (hm _ hb2) h)
  · refine Or.inl ?_
    rw [hn, hr b (hd b hb2)]
    obtain ⟨i, hi⟩ := List.mem_iff_getElem?.mp hb2
    rw [List.getElem?_drop] at hi
    exact h2 _ _ (Nat.le_add_right j i) hi
  · exact p2.imp_of_mem (fun ha hb2 h => hb _ _ (hd _ ha) (hd _ hb2) h)
  · rcases List.mem_cons.mp hb2 with e | e
    · subst e
      unfold bfr
      rw [hn, hr a (hm a ha)]
      obtain ⟨i, hi⟩ := List.mem_iff_getElem?.mp ha
      rw [List.getElem?_take] at hi
      split at hi
      · rename_i hij
        have h9 := h1 i a hij hi
        have h8 := (S.2 a).mp (hm a ha)
        omega
      · cases hi
    · exact hb a b (hm a ha) (hd b e) (p3 a ha b e)
  · have e : r ∈ L ↔ r ∈ L.take j ∨ r ∈ L.drop j := by rw [← List.mem_append, List.take_append_drop]
    rw [List.mem_append, List.mem_cons]
    have h9 := S.2 r
    show _ ↔ r < σ.n + 1
    rw [e] at h9
    constructor
    · rintro (h | h | h)
      · have := h9.mp (Or.inl h); omega
      · omega
      · have := h9.mp (Or.inr h); omega
    · intro h
      by_cases q : r = σ.n
      · exact Or.inr (Or.inl q)
      · rcases h9.mpr (by omega) with h | h
        · exact Or.inl h
        · exact Or.inr (Or.inr h)
/-- rides to come have no past -/
def NW (σ : SG) : Prop := ∀ r, σ.n ≤ r → r < 10 → σ.hd r = 0 ∧ σ.ms r = 0 ∧ σ.sk r = false
theorem LCl.grow {kd kd' : Nat → Nat × Nat} {gl gl' : Nat → Nat} {fr fr' ar ar' : Nat → Nat → Nat} {g n n' : Nat} {p p' : Nat → Nat} {L L' : List Nat} (hL : LCl kd gl fr ar g n p L) (O : ∀ b, (kd b).1 ≠ 99 → kd' b = kd b ∧ gl' b = gl b ∧ ∀ f, fr' f b = fr f b) (h1 : L'.length = n') (h2 : ∀ r, r < n' → kd' (p' r) = (0, 3) ∧ gl' (p' r) = 1000 + r ∧ kd' (fr' 198 (p' r)) = (0, 4) ∧ gl' (fr' 198 (p' r)) = 2000 + r ∧ ar' (fr 385 g) r = p' r) (h3 : ∀ j r, L'[j]? = some r → ar' (fr 386 g) j = p' r) : LCl kd' gl' fr' ar' g n' p' L' := by
  have X : ∀ a z, kd a = z → z.1 ≠ 99 → kd' a = z := fun a z h hz => by rw [(O a (by rw [h]; exact hz)).1]; exact h
  have Y : ∀ a z v, kd a = z → z.1 ≠ 99 → gl a = v → gl' a = v := fun a z v h hz hv => by rw [(O a (by rw [h]; exact hz)).2.1]; exact hv
  have Z : ∀ f a z, kd a = z → z.1 ≠ 99 → fr' f a = fr f a := fun f a z h hz => (O a (by rw [h]; exact hz)).2.2 f
  have Zg : ∀ f, fr' f g = fr f g := fun f => Z f g _ hL.kf (by decide)
  have hG : LGn kd' gl' fr' (fr' 384 g) := by
    rw [Zg 384]
    obtain ⟨g1, g2, g3, g4, g5, g6, g7⟩ := hL.gn
    refine ⟨X _ _ g1 (by decide), ?_⟩
    rw [Z 0 _ _ g1 (by decide), Z 1 _ _ g1 (by decide), Z 2 _ _ g1 (by decide)]
    exact ⟨X _ _ g2 (by decide), X _ _ g3 (by decide), X _ _ g4 (by decide), Y _ _ _ g2 (by decide) g5, Y _ _ _ g3 (by decide) g6, Y _ _ _ g4 (by decide) g7⟩
  have hW : ∀ a k, LwL kd gl fr a k → LwL kd' gl' fr' a k := fun a k h => by
    obtain ⟨w1, w2, ⟨w3, w4⟩, ⟨w5, w6⟩, ⟨w7, w8⟩, w9, w10⟩ := h
    refine ⟨X _ _ w1 (by decide), Y _ _ _ w1 (by decide) w2, ?_⟩
    rw [Z 64 _ _ w1 (by decide), Z 66 _ _ w1 (by decide), Z 67 _ _ w1 (by decide), Z 68 _ _ w1 (by decide)]
    exact ⟨⟨X _ _ w3 (by decide), Y _ _ _ w3 (by decide) w4⟩, ⟨X _ _ w5 (by decide), Y _ _ _ w5 (by decide) w6⟩, ⟨X _ _ w7 (by decide), Y _ _ _ w7 (by decide) w8⟩, X _ _ w9 (by decide), Y _ _ _ w9 (by decide) w10⟩
  obtain ⟨k, hk, l1, l2⟩ := hL.lw
  unfold LCl
  rw [Zg 385, Zg 386, Zg 389, Zg 390, Zg 391, Zg 394, Zg 395, Zg 396, Z 320 _ _ hL.k390 (by decide), Z 128 _ _ hL.k391 (by decide), Z 129 _ _ hL.k391 (by decide), Z 130 _ _ hL.k391 (by decide)]
  exact ⟨X _ _ hL.kf (by decide), hG, X _ _ hL.k385 (by decide), Y _ _ _ hL.k385 (by decide) hL.g385, X _ _ hL.k386 (by decide), Y _ _ _ hL.k386 (by decide) hL.g386, X _ _ hL.k389 (by decide), Y _ _ _ hL.k389 (by decide) hL.g389, X _ _ hL.k390 (by decide), X _ _ hL.k320 (by decide), Y _ _ _ hL.k320 (by decide) hL.g320, X _ _ hL.k391 (by decide), X _ _ hL.k128 (by decide), Y _ _ _ hL.k128 (by decide) hL.g128, X _ _ hL.k129 (by decide), Y _ _ _ hL.k129 (by decide) hL.g129, X _ _ hL.k130 (by decide), Y _ _ _ hL.k130 (by decide) hL.g130, X _ _ hL.k394 (by decide), Y _ _ _ hL.k394 (by decide) hL.g394, X _ _ hL.k395 (by decide), Y _ _ _ hL.k395 (by decide) hL.g395, X _ _ hL.k396 (by decide), Y _ _ _ hL.k396 (by decide) hL.g396, h1, ⟨k, hk, by rw [Zg 392]; exact hW _ _ l1, by rw [Zg 393]; exact hW _ _ l2⟩, h2, h3⟩
theorem ins_get {L : List Nat} {n j i : Nat} (hj : j ≤ L.length) : (L.take j ++ n :: L.drop j)[i]? = if i < j then L[i]? else if i = j then some n else L[i - 1]? := by
  have hl : (L.take j).length = j := by rw [List.length_take]; omega
  by_cases h1 : i < j
  · rw [if_pos h1, List.getElem?_append_left (by omega), List.getElem?_take, if_pos h1]
  · rw [if_neg h1, List.getElem?_append_right (by omega), hl]
    by_cases h2 : i = j
    · rw [if_pos h2, h2, Nat.sub_self]; rfl
    · rw [if_neg h2, show i - j = (i - j - 1) + 1 by omega, List.getElem?_cons_succ, List.getElem?_drop]
      congr 1; omega
theorem ride_fin {h h78 h2 : HP} {g a s j wN zN pN sN kN : Nat} {σ : SG} {p : Nat → Nat} {L : List Nat} (hL : LCl h.kd h.gl h.fr h.ar g σ.n p L) (R0 : CRr σ h.fi h.fr g p) (Rc : CRc σ h g) (W : WF σ) (St : Srt σ L) (hNW : NW σ) (n10 : σ.n < 10)
    (OL : ∀ b, (h.kd b).1 ≠ 99 → h78.kd b = h.kd b ∧ h78.gl b = h.gl b ∧ (∀ f, h78.fi f b = h.fi f b) ∧ (∀ f, h78.fr f b = h.fr f b) ∧ h78.ai b = h.ai b ∧ h78.al b = h.al b ∧ h78.ar b = h.ar b)
    (ka : h78.kd a = (0, 3)) (ga : h78.gl a = 1000 + σ.n) (e198 : h78.fr 198 a = s) (ks : h78.kd s = (0, 4)) (gs : h78.gl s = 2000 + σ.n) (y260 : h78.fi 260 s = 0) (y192 : h78.fi 192 a = nI σ.n) (y193 : h78.fi 193 a = nI wN) (y194 : h78.fi 194 a = nI zN) (y195 : h78.fi 195 a = nI pN) (y196 : h78.fi 196 a = nI sN) (y197 : h78.fi 197 a = nI kN) (y199 : h78.fi 199 a = 0) (y200 : h78.fi 200 a = 0) (y201 : h78.fi 201 a = -1) (y202 : h78.fi 202 a = 0) (y203 : h78.fi 203 a = 0)
    (A0 : Ra (h.fr 386 g) (h78.stR (h.fr 385 g) σ.n a) h2) (hj : j ≤ σ.n) (A1 : ∀ i r, i < j → L[i]? = some r → h2.ar (h.fr 386 g) i = p r) (A2 : ∀ i r, j ≤ i → L[i]? = some r → h2.ar (h.fr 386 g) (i + 1) = p r) (A3 : ∀ i r, j ≤ i → L[i]? = some r → σ.rk r < kN) (A4 : ∀ i r, i < j → L[i]? = some r → kN ≤ σ.rk r) :
    LCl ((h2.stR (h.fr 386 g) j a).setI 387 g (nI (σ.n + 1))).kd ((h2.stR (h.fr 386 g) j a).setI 387 g (nI (σ.n + 1))).gl ((h2.stR (h.fr 386 g) j a).setI 387 g (nI (σ.n + 1))).fr ((h2.stR (h.fr 386 g) j a).setI 387 g (nI (σ.n + 1))).ar g (σ.n + 1) (upN p σ.n a) (L.take j ++ σ.n :: L.drop j) ∧ CRr (σ.add wN zN pN sN kN) ((h2.stR (h.fr 386 g) j a).setI 387 g (nI (σ.n + 1))).fi ((h2.stR (h.fr 386 g) j a).setI 387 g (nI (σ.n + 1))).fr g (upN p σ.n a) ∧ CRc (σ.add wN zN pN sN kN) ((h2.stR (h.fr 386 g) j a).setI 387 g (nI (σ.n + 1))) g ∧ Srt (σ.add wN zN pN sN kN) (L.take j ++ σ.n :: L.drop j) ∧ Kg h ((h2.stR (h.fr 386 g) j a).setI 387 g (nI (σ.n + 1))) := by
  have ng : (h.kd g).1 ≠ 99 := by rw [hL.kf]; decide
  have hln := hL.ln
  obtain ⟨a1, a2, a3, a4, a5, a6, a7⟩ := A0
  have b1 : h2.kd = h78.kd := a1
  have b2 : h2.fi = h78.fi := a2
  have b3 : h2.fr = h78.fr := a3
  have b4 : h2.ai = h78.ai := a4
  have b5 : h2.al = h78.al := a5
  have b6 : h2.gl = h78.gl := a6
  have nab : h.fr 385 g ≠ h.fr 386 g := gl_ne hL.g385 hL.g386 (by decide)
  have n385 : (h.kd (h.fr 385 g)).1 ≠ 99 := by rw [hL.k385]; decide
  have cF : ∀ f b, f ≠ 387 → ((h2.stR (h.fr 386 g) j a).setI 387 g (nI (σ.n + 1))).fi f b = h78.fi f b := fun f b hf => by rw [fi_ne hf, fi_stR, b2]
  have cR : ∀ f b, ((h2.stR (h.fr 386 g) j a).setI 387 g (nI (σ.n + 1))).fr f b = h78.fr f b := fun f b => by show h2.fr f b = _; rw [b3]
  have cK : ∀ b, ((h2.stR (h.fr 386 g) j a).setI 387 g (nI (σ.n + 1))).kd b = h78.kd b := fun b => by show h2.kd b = _; rw [b1]
  have cG : ∀ b, ((h2.stR (h.fr 386 g) j a).setI 387 g (nI (σ.n + 1))).gl b = h78.gl b := fun b => by show h2.gl b = _; rw [b6]
  have cA : ∀ b, ((h2.stR (h.fr 386 g) j a).setI 387 g (nI (σ.n + 1))).ai b = h78.ai b := fun b => by show h2.ai b = _; rw [b4]
  have hpo : ∀ r, r < σ.n → upN p σ.n a r = p r := fun r hr => upN_n (by omega)
  have h9 : ∀ r, r < σ.n → (h.kd (p r)).1 ≠ 99 := fun r hr => by rw [hL.kp hr]; decide
  have h8 : ∀ r, r < σ.n → (h.kd (h.fr 198 (p r))).1 ≠ 99 := fun r hr => by rw [hL.ks hr]; decide
  have hli : σ.li σ.n = 240 := ((W.2.2.2.1 σ.n n10).2.2 (Nat.le_refl _)).1
  have hrt : σ.rt σ.n = 240 := ((W.2.2.2.1 σ.n n10).2.2 (Nat.le_refl _)).2
  obtain ⟨w1, w2, w3⟩ := hNW σ.n (Nat.le_refl _) n10
  refine ⟨hL.grow (fun b hb => ⟨by rw [cK]; exact (OL b hb).1, by rw [cG]; exact (OL b hb).2.1, fun f => by rw [cR]; exact (OL b hb).2.2.2.1 f⟩) (by rw [List.length_append, List.length_cons, List.length_take, List.length_drop]; omega) (fun r hr => ?_) (fun i r hi => ?_), ⟨fi_eq, ?_, ?_, fun r hr => ?_⟩, fun c hc => ?_, St.ins A4 A3, fun b hb => ?_⟩
  · have e85 : ((h2.stR (h.fr 386 g) j a).setI 387 g (nI (σ.n + 1))).ar (h.fr 385 g) r = (if r = σ.n then a else h.ar (h.fr 385 g) r) := by
      show (h2.stR (h.fr 386 g) j a).ar (h.fr 385 g) r = _
      rw [ar_stR', if_neg (fun e => nab e.1), a7 _ nab, ar_stR']
      by_cases q : r = σ.n
      · rw [if_pos ⟨rfl, q⟩, if_pos q]
      · rw [if_neg (fun e => q e.2), if_neg q, (OL _ n385).2.2.2.2.2.2]
    by_cases q : r = σ.n
    · rw [e85, if_pos q, q, upN_s, cK, cG, cR, e198, cK, cG]
      exact ⟨ka, ga, ks, gs, rfl⟩
    · have hr2 : r < σ.n := by omega
      rw [e85, if_neg q, hpo r hr2, cK, cG, cR, (OL _ (h9 r hr2)).2.2.2.1, cK, cG, (OL _ (h9 r hr2)).1, (OL _ (h9 r hr2)).2.1, (OL _ (h8 r hr2)).1, (OL _ (h8 r hr2)).2.1]
      exact hL.rd r hr2
  · rw [ins_get (by omega)] at hi
    show (h2.stR (h.fr 386 g) j a).ar (h.fr 386 g) i = _
    rw [ar_stR']
    have hm : ∀ q, L[q]? = some r → r < σ.n := fun q hq => (St.2 r).mp (List.mem_of_getElem? hq)
    by_cases q1 : i < j
    · rw [if_pos q1] at hi
      rw [if_neg (fun e => by omega), hpo r (hm _ hi)]; exact A1 i r q1 hi
    · rw [if_neg q1] at hi
      by_cases q2 : i = j
      · rw [if_pos q2] at hi
        cases hi
        rw [if_pos ⟨rfl, q2⟩, upN_s]
      · rw [if_neg q2] at hi
        rw [if_neg (fun e => q2 e.2), hpo r (hm _ hi)]
        have z := A2 (i - 1) r (by omega) hi
        rw [show i - 1 + 1 = i by omega] at z
        exact z
  · rw [cF _ _ (by decide), (OL g ng).2.2.1]; exact R0.2.1
  · rw [cR, (OL g ng).2.2.2.1, cF _ _ (by decide), (OL _ (by rw [hL.kg]; decide)).2.2.1]; exact R0.2.2.1
  · have hr : r < σ.n + 1 := hr
    by_cases q : r = σ.n
    · subst q
      rw [upN_s, cR, e198]
      refine ⟨by rw [cF _ _ (by decide)]; exact y192, by rw [cF _ _ (by decide), y193]; exact congrArg nI upN_s.symm, by rw [cF _ _ (by decide), y194]; exact congrArg nI upN_s.symm, by rw [cF _ _ (by decide), y195]; exact congrArg nI upN_s.symm, by rw [cF _ _ (by decide), y196]; exact congrArg nI upN_s.symm, by rw [cF _ _ (by decide), y197]; exact congrArg nI upN_s.symm, ?_, ?_, ?_, ?_, ?_, ⟨false, by rw [cF _ _ (by decide)]; exact y260⟩, fun h1 => ?_⟩
      · rw [cF _ _ (by decide), y199]; show (0 : Int32) = b2i (decide (σ.li σ.n < 240)); rw [hli]; rfl
      · rw [cF _ _ (by decide), y200]; show (0 : Int32) = b2i (σ.sk σ.n); rw [w3]; rfl
      · rw [cF _ _ (by decide), y201]; show (-1 : Int32) = pl (σ.rt σ.n); rw [hrt]; rfl
      · rw [cF _ _ (by decide), y202]; show (0 : Int32) = nI (σ.hd σ.n); rw [w1]; rfl
      · rw [cF _ _ (by decide), y203]; show (0 : Int32) = nI (σ.ms σ.n); rw [w2]; rfl
      · have h1 : σ.li σ.n < 240 := h1
        omega
    · have hr2 : r < σ.n := by omega
      rw [hpo r hr2, cR, (OL _ (h9 r hr2)).2.2.2.1]
      exact RF.congr (σ := σ) (fi := h.fi) ⟨upN_n q, upN_n q, upN_n q, upN_n q, upN_n q, rfl, rfl, rfl, rfl, rfl⟩ (fun g' h1 h2 => by rw [cF _ _ (by omega)]; exact (OL _ (h9 r hr2)).2.2.1 g') (fun g' h1 h2 => by rw [cF _ _ (by omega)]; exact (OL _ (h8 r hr2)).2.2.1 g') (R0.2.2.2 r hr2)
  · rw [cR, cR, (OL g ng).2.2.2.1, (OL _ (by rw [hL.kg]; decide)).2.2.2.1, cA, (OL _ (by rw [hL.gn.2.1]; decide)).2.2.2.2.1, cell_add W n10]
    exact Rc c hc
  · exact ⟨by rw [cK]; exact (OL b hb).1, by rw [cG]; exact (OL b hb).2.1, fun f hf => by rw [cF _ _ hf]; exact (OL b hb).2.2.1 f, fun f => by rw [cR]; exact (OL b hb).2.2.2.1 f, by rw [cA]; exact (OL b hb).2.2.2.2.1, by show h2.al b = _; rw [b5]; exact (OL b hb).2.2.2.2.2.1⟩

set_option maxHeartbeats 4000000 in
theorem c_X6_ride {G : GT} {h : HP} {g : Nat} {σ : SG} {p : Nat → Nat} {L : List Nat} {w z pq s k : Int32} (hL : LCl h.kd h.gl h.fr h.ar g σ.n p L) (R0 : CRr σ h.fi h.fr g p) (Rc : CRc σ h g) (W : WF σ) (St : Srt σ L) (hNW : NW σ) : Con G 4 2 17 yX6_ride cX6_ride 9 (some .int) [rv g, .int w, .int z, .int pq, .int s, .int k] h (PI (fun v h' => (rdP σ w z pq s k → nI σ.n = v ∧ ∃ a L', LCl h'.kd h'.gl h'.fr h'.ar g (σ.n + 1) (upN p σ.n a) L' ∧ CRr (σ.add w.toNatClampNeg z.toNatClampNeg pq.toNatClampNeg s.toNatClampNeg k.toNatClampNeg) h'.fi h'.fr g (upN p σ.n a) ∧ CRc (σ.add w.toNatClampNeg z.toNatClampNeg pq.toNatClampNeg s.toNatClampNeg k.toNatClampNeg) h' g ∧ Srt (σ.add w.toNatClampNeg z.toNatClampNeg pq.toNatClampNeg s.toNatClampNeg k.toNatClampNeg) L') ∧ (¬ rdP σ w z pq s k → -1 = v ∧ h = h') ∧ Kg h h')) := by
  refine Con.of (lv := [some (rv g), some (.int w), some (.int z), some (.int pq), some (.int s), some (.int k), none, none, none]) (by decide) (by simp only [lvE_r, lvE_i, lvE_l, lvE_s, lvE_0]; rfl) (by simp only [lgl_r, lgl_i, lgl_l, lgl_s, lgl_0]; decide) (fun Γ C R => ?_)
  generalize hPP : (PI (fun v h' => (rdP σ w z pq s k → nI σ.n = v ∧ ∃ a L', LCl h'.kd h'.gl h'.fr h'.ar g (σ.n + 1) (upN p σ.n a) L' ∧ CRr (σ.add w.toNatClampNeg z.toNatClampNeg pq.toNatClampNeg s.toNatClampNeg k.toNatClampNeg) h'.fi h'.fr g (upN p σ.n a) ∧ CRc (σ.add w.toNatClampNeg z.toNatClampNeg pq.toNatClampNeg s.toNatClampNeg k.toNatClampNeg) h' g ∧ Srt (σ.add w.toNatClampNeg z.toNatClampNeg pq.toNatClampNeg s.toNatClampNeg k.toNatClampNeg) L') ∧ (¬ rdP σ w z pq s k → -1 = v ∧ h = h') ∧ Kg h h')) = PP
  have r10 := W.n10
  have hln := hL.ln
  have J47 : ∀ (t : Bool), (t = true ↔ ((1 ≤ w ∧ w ≤ 4) ∧ (1 ≤ z ∧ z ≤ 4) ∧ (0 ≤ pq ∧ pq ≤ 100) ∧ (0 ≤ s ∧ s ≤ 9) ∧ (0 ≤ k ∧ k ≤ 99))) → wX G Γ (qM G Γ PP 2 17) 0 0 (h) 47 [some (rv g), some (.int w), some (.int z), some (.int pq), some (.int s), some (.int k), some (.int (b2i t)), none, none] [] := by
    intro t ht
    have J61 : (¬ rdP σ w z pq s k) → wX G Γ (qM G Γ PP 2 17) 0 0 (h) 61 [some (rv g), some (.int w), some (.int z), some (.int pq), some (.int s), some (.int k), none, none, none] [] := by
      intro  hno
      refine r_iconst (q := 62) (z := (-1)) (v := (-1)) C rfl (by decide +kernel) (by decide) ?_
      exact r_iret C (by decide +kernel) rfl (by decide) (by decide) (eqP hPP ⟨_, rfl, ⟨fun e => absurd e hno, fun _ => ⟨rfl, rfl⟩, Kg.rf⟩⟩)
    refine r_iload (q := 49) C 6 rfl (by decide +kernel) rfl ?_
    refine r_if_eq (q := 52) (off := 12) (tgt := 61) C rfl (by decide +kernel) (by decide) (fun c49 => ?_) (fun c49 => ?_)
    · exact wX.sub (lsub_s (lsub_s (lsub_s (lsub_s (lsub_s (lsub_s (lsub_n (lsub_n (lsub_n (lsub_nil)))))))))) (J61 (fun e => by have h9 := ht.mpr ⟨e.1, e.2.1, e.2.2.1, e.2.2.2.1, e.2.2.2.2.1⟩; rw [(b2i_0 _).mp c49] at h9; cases h9))
    · refine r_aload_n (q := 53) (z := 0) C 0 rfl (by decide +kernel) rfl rfl ?_
      refine r_getI (q := 56) C 6 3 387 rfl (by decide +kernel) rfl (by decide) rfl rfl wf_X6_25 win6 hL.kf ?_
      rw [R0.1]
      refine r_bipush (q := 58) (z := 10) (v := 10) C rfl (by decide +kernel) (by decide) ?_
      refine r_icmp_lt (q := 61) (off := 5) (tgt := 63) C rfl (by decide +kernel) (by decide) (fun c58 => ?_) (fun c58 => ?_)
      · have n10 : σ.n < 10 := (nI_ltI (b := 10) (by omega) (by decide)).mp c58
        have hyP : rdP σ w z pq s k := by have h9 := ht.mp ((b2i_n0 _).mp c49); exact ⟨h9.1, h9.2.1, h9.2.2.1, h9.2.2.2.1, h9.2.2.2.2, n10⟩
        obtain ⟨w1, w2, w3⟩ := nI_rng2 (a := 1) (b := 4) (by decide) hyP.1.1 hyP.1.2 (by decide)
        obtain ⟨z1, z2, z3⟩ := nI_rng2 (a := 1) (b := 4) (by decide) hyP.2.1.1 hyP.2.1.2 (by decide)
        obtain ⟨p1, p2, p3⟩ := nI_rng2 (a := 0) (b := 100) (by decide) hyP.2.2.1.1 hyP.2.2.1.2 (by decide)
        obtain ⟨s1, s2, s3⟩ := nI_rng2 (a := 0) (b := 9) (by decide) hyP.2.2.2.1.1 hyP.2.2.2.1.2 (by decide)
        obtain ⟨k1, k2, k3⟩ := nI_rng2 (a := 0) (b := 99) (by decide) hyP.2.2.2.2.1.1 hyP.2.2.2.2.1.2 (by decide)
        obtain ⟨wN, ewN⟩ : ∃ wN, wN = w.toNatClampNeg := ⟨_, rfl⟩
        obtain ⟨zN, ezN⟩ : ∃ zN, zN = z.toNatClampNeg := ⟨_, rfl⟩
        obtain ⟨pN, epN⟩ : ∃ pN, pN = pq.toNatClampNeg := ⟨_, rfl⟩
        obtain ⟨sN, esN⟩ : ∃ sN, sN = s.toNatClampNeg := ⟨_, rfl⟩
        obtain ⟨kN, ekN⟩ : ∃ kN, kN = k.toNatClampNeg := ⟨_, rfl⟩
        rw [← ewN] at w1 w2 w3
        rw [← ezN] at z1 z2 z3
        rw [← epN] at p1 p2 p3
        rw [← esN] at s1 s2 s3
        rw [← ekN] at k1 k2 k3
        rw [w3, z3, p3, s3, k3]
        have ng : (h.kd g).1 ≠ 99 := by rw [hL.kf]; decide
        have n385 : (h.kd (h.fr 385 g)).1 ≠ 99 := by rw [hL.k385]; decide
        have n386 : (h.kd (h.fr 386 g)).1 ≠ 99 := by rw [hL.k386]; decide
        refine r_new (q := 66) C R (1000 + σ.n) 3 rfl (by decide +kernel) rfl win3 tyX3 tyX3_ok wk_X6_16 wi_X3 wn_X3 (by decide +kernel) (by decide) (by decide) ?_
        intro a63 e63
        have N63 : g ≠ a63 := fun e => ng (by rw [e]; exact e63)
        refine r_dup (q := 67) C rfl (by decide +kernel) (by first | rfl | exact rv_cat _) ?_
        refine r_aload_n (q := 68) (z := 0) C 0 rfl (by decide +kernel) rfl rfl ?_
        refine r_getI (q := 71) C 6 3 387 rfl (by decide +kernel) rfl (by decide) rfl rfl wf_X6_25 win6 (nw_k (lb := 1000 + σ.n) e63 hL.kf (by decide)) ?_
        rw [(nw_ne (h := h) (k := (0, 3)) (lb := 1000 + σ.n) N63).2.2.1, R0.1]
        refine r_iload_n (q := 72) (z := 1) C 1 rfl (by decide +kernel) rfl rfl ?_
        refine r_iload_n (q := 73) (z := 2) C 2 rfl (by decide +kernel) rfl rfl ?_
        refine r_iload_n (q := 74) (z := 3) C 3 rfl (by decide +kernel) rfl rfl ?_
        refine r_iload (q := 76) C 4 rfl (by decide +kernel) rfl ?_
        refine r_iload (q := 78) C 5 rfl (by decide +kernel) rfl ?_
        refine cI6V (q := 81) C R rfl (by decide +kernel) lk_X6_109 (c_X3_init (lb := 2000 + σ.n) kd_new) (by decide) (by decide) (by decide) rfl (by first | exact Nat.le_of_ble_eq_true rfl | (simp only [List.map_cons, List.map_nil, List.sum_cons, List.sum_nil, rv_cat]; exact Nat.le_of_ble_eq_true rfl)) kd_new (by decide) ?_
        rintro h78 ⟨s78, d78, G78, e19878, ks78, gs78, z26078, z19278, z19378, z19478, z19578, z19678, z19778, z19978, z20078, z20178, z20278, z20378⟩
        have GA : Gw a63 h h78 := (Gw.nw (k := (0, 3)) (lb := 1000 + σ.n) e63).tr G78
        have OL : ∀ b, (h.kd b).1 ≠ 99 → h78.kd b = h.kd b ∧ h78.gl b = h.gl b ∧ (∀ f, h78.fi f b = h.fi f b) ∧ (∀ f, h78.fr f b = h.fr f b) ∧ h78.ai b = h.ai b ∧ h78.al b = h.al b ∧ h78.ar b = h.ar b := fun b hb => GA.old e63 hb
        have ka78 : h78.kd a63 = (0, 3) := (G78 a63 (by rw [kd_new]; decide)).1.trans kd_new
        have ga78 : h78.gl a63 = 1000 + σ.n := (G78 a63 (by rw [kd_new]; decide)).2.1.trans gl_nw
        have ka := ka78
        have kg78 : h78.kd g = (0, 6) := by rw [(OL g ng).1]; exact hL.kf
        refine r_astore (q := 83) C 7 rfl (by decide +kernel) (by decide) (by first | rfl | exact okst_rv rfl) ?_
        dsimp only [List.set]
        refine r_aload_n (q := 84) (z := 0) C 0 rfl (by decide +kernel) rfl rfl ?_
        refine r_getR (q := 87) C 6 1 385 rfl (by decide +kernel) rfl (by decide) rfl rfl wf_X6_18 win6 kg78 ?_
        rw [(OL g ng).2.2.2.1]
        refine r_aload_n (q := 88) (z := 0) C 0 rfl (by decide +kernel) rfl rfl ?_
        refine r_getI (q := 91) C 6 3 387 rfl (by decide +kernel) rfl (by decide) rfl rfl wf_X6_25 win6 kg78 ?_
        rw [(OL g ng).2.2.1, R0.1]
        refine r_aload (q := 93) C 7 rfl (by decide +kernel) rfl ?_
        refine r_aast (q := 94) C rfl (by decide +kernel) (by rw [(OL _ n385).1]; exact hL.k385) ka78 (vp_in_nI n10 (by decide)) ?_
        rw [nI_clamp (by omega)]
        have nab : (h.fr 386 g) ≠ (h.fr 385 g) := gl_ne hL.g386 hL.g385 (by decide)
        have E1 : ∀ i r, i < σ.n → L[i]? = some r → (h78.stR (h.fr 385 g) σ.n a63).ar (h.fr 386 g) i = p r := fun i r hi hr => by rw [ar_stR', if_neg (fun e => nab e.1), (OL _ n386).2.2.2.2.2.2]; exact hL.rk i r hr
        have E2 : ∀ i r, σ.n ≤ i → L[i]? = some r → (h78.stR (h.fr 385 g) σ.n a63).ar (h.fr 386 g) (i + 1) = p r := fun i r hi hr => absurd (List.getElem?_eq_some_iff.mp hr).1 (by omega)
        have E3 : ∀ i r, σ.n ≤ i → L[i]? = some r → σ.rk r < kN := fun i r hi hr => absurd (List.getElem?_eq_some_iff.mp hr).1 (by omega)
        refine r_aload_n (q := 95) (z := 0) C 0 rfl (by decide +kernel) rfl rfl ?_
        refine r_getI (q := 98) C 6 3 387 rfl (by decide +kernel) rfl (by decide) rfl rfl wf_X6_25 win6 kg78 ?_
        rw [fi_stR, (OL g ng).2.2.1, R0.1]
        refine r_istore (q := 100) C 8 rfl (by decide +kernel) (by decide) (by first | rfl | exact okst_rv rfl) ?_
        dsimp only [List.set]
        have L100 : ∀ (fuel100 : Nat) (h2 : HP) (j : Nat), j < fuel100 → (Ra (h.fr 386 g) (h78.stR (h.fr 385 g) σ.n a63) h2) → (j ≤ σ.n) → (∀ i r, i < j → L[i]? = some r → h2.ar (h.fr 386 g) i = p r) → (∀ i r, j ≤ i → L[i]? = some r → h2.ar (h.fr 386 g) (i + 1) = p r) → (∀ i r, j ≤ i → L[i]? = some r → σ.rk r < kN) → wX G Γ (qM G Γ PP 2 17) 2 17 (h2) 100 [some (rv g), none, none, none, none, some (.int (nI kN)), none, some (rv a63), some (.int (nI j))] [] := by
          intro fuel100
          induction fuel100 with
          | zero =>
            intro h2 j hm100
            exact absurd hm100 (Nat.not_lt_zero _)
          | succ fuel100 ih100 =>
            intro h2 j hm100 A0 hj A1 A2 A3
            have ok2 : ∀ b, (h.kd b).1 ≠ 99 → h2.kd b = h.kd b := fun b hb => by rw [A0.1]; exact (OL b hb).1
            have of2 : ∀ b f, (h.kd b).1 ≠ 99 → h2.fr f b = h.fr f b := fun b f hb => by rw [A0.2.2.1]; exact (OL b hb).2.2.2.1 f
            have oi2 : ∀ b f, (h.kd b).1 ≠ 99 → h2.fi f b = h.fi f b := fun b f hb => by rw [A0.2.1]; exact (OL b hb).2.2.1 f
            have kg2 : h2.kd g = (0, 6) := by rw [ok2 g ng]; exact hL.kf
            have kb2 : h2.kd (h.fr 386 g) = (12, 10) := by rw [ok2 _ n386]; exact hL.k386
            have ka : h2.kd a63 = (0, 3) := by rw [A0.1]; exact ka78
            have J144 : (∀ i r, i < j → L[i]? = some r → kN ≤ σ.rk r) → wX G Γ (qM G Γ PP 2 17) 2 17 (h2) 144 [some (rv g), none, none, none, none, none, none, some (rv a63), some (.int (nI j))] [] := by
              intro  A4
              refine r_aload_n (q := 145) (z := 0) C 0 rfl (by decide +kernel) rfl rfl ?_
              refine r_getR (q := 148) C 6 2 386 rfl (by decide +kernel) rfl (by decide) rfl rfl wf_X6_22 win6 kg2 ?_
              rw [of2 g _ ng]
              refine r_iload (q := 150) C 8 rfl (by decide +kernel) rfl ?_
              refine r_aload (q := 152) C 7 rfl (by decide +kernel) rfl ?_
              refine r_aast (q := 153) C rfl (by decide +kernel) kb2 ka (vp_in_nI (by omega) (by decide)) ?_
              rw [nI_clamp (by omega)]
              refine r_aload_n (q := 154) (z := 0) C 0 rfl (by decide +kernel) rfl rfl ?_
              refine r_dup (q := 155) C rfl (by decide +kernel) (by first | rfl | exact rv_cat _) ?_
              refine r_getI (q := 158) C 6 3 387 rfl (by decide +kernel) rfl (by decide) rfl rfl wf_X6_25 win6 kg2 ?_
              rw [fi_stR, oi2 g _ ng, R0.1]
              refine r_iconst (q := 159) (z := 1) (v := 1) C rfl (by decide +kernel) (by decide) ?_
              refine r_iadd (q := 160) C rfl (by decide +kernel) ?_
              rw [nI_1]
              refine r_putI (q := 163) C 6 3 387 rfl (by decide +kernel) rfl (by decide) rfl rfl wf_X6_25 win6 tyX6 tyX6_ok nmX6 rfl (tyX6_ok 3 (by decide)) rfl wnd6 rfl rfl kg2 ?_
              have z192 : h2.fi 192 a63 = nI σ.n := by rw [A0.2.1]; exact z19278
              refine r_aload (q := 165) C 7 rfl (by decide +kernel) rfl ?_
              refine r_getI (q := 168) C 3 0 192 rfl (by decide +kernel) rfl (by decide) rfl rfl wf_X6_115 win3 ka ?_
              rw [fi_ne (by decide), fi_stR, z192]
              exact r_iret C (by decide +kernel) rfl (by decide) (by decide) (eqP hPP ⟨_, rfl, (by
                    rw [← ewN, ← ezN, ← epN, ← esN, ← ekN]
                    obtain ⟨f1, f2, f3, f4, f5⟩ := ride_fin (s := s78) hL R0 Rc W St hNW n10 OL ka78 ga78 e19878 ks78 gs78 z26078 z19278 z19378 z19478 z19578 z19678 z19778 z19978 z20078 z20178 z20278 z20378 A0 hj A1 A2 A3 A4
                    exact ⟨fun _ => ⟨rfl, a63, _, f1, f2, f3, f4⟩, fun e => absurd hyP e, f5⟩)⟩)
            refine r_iload (q := 102) C 8 rfl (by decide +kernel) rfl ?_
            refine r_if_le (q := 105) (off := 42) (tgt := 144) C rfl (by decide +kernel) (by decide) (fun c102 => ?_) (fun c102 => ?_)
            · have j0 : j = 0 := by
                rcases Nat.eq_zero_or_pos j with q | q
                · exact q
                · exact absurd c102 (nI_nle q (by omega))
              exact wX.sub (lsub_s (lsub_n (lsub_n (lsub_n (lsub_n (lsub_n (lsub_n (lsub_s (lsub_s (lsub_nil)))))))))) (J144 (fun i r hi => absurd hi (by omega)))
            · have j0 : 0 < j := by
                rcases Nat.eq_zero_or_pos j with q | q
                · rw [q] at c102; exact absurd (by decide) c102
                · exact q
              obtain ⟨rj, hrj⟩ : ∃ rj, L[j - 1]? = some rj := ⟨_, List.getElem?_eq_getElem (by omega)⟩
              have hrn : rj < σ.n := (St.2 rj).mp (List.mem_of_getElem? hrj)
              have arj : h2.ar (h.fr 386 g) (j - 1) = p rj := A1 (j - 1) rj (by omega) hrj
              have rkj := (W.2.2.1 rj hrn).2.2.2.2.2.2
              refine r_aload_n (q := 106) (z := 0) C 0 rfl (by decide +kernel) rfl rfl ?_
              refine r_getR (q := 109) C 6 2 386 rfl (by decide +kernel) rfl (by decide) rfl rfl wf_X6_22 win6 kg2 ?_
              rw [of2 g _ ng]
              refine r_iload (q := 111) C 8 rfl (by decide +kernel) rfl ?_
              refine r_iconst (q := 112) (z := 1) (v := 1) C rfl (by decide +kernel) (by decide) ?_
              refine r_isub (q := 113) C rfl (by decide +kernel) ?_
              rw [m1x _ j0]
              refine r_aald (q := 114) C rfl (by decide +kernel) kb2 (vp_in_nI (by omega) (by decide)) ?_
              rw [nI_clamp (by omega), arj]
              refine r_getI (q := 117) C 3 5 197 rfl (by decide +kernel) rfl (by decide) rfl rfl wf_X6_112 win3 (by rw [ok2 _ (by rw [hL.kp hrn]; decide)]; exact hL.kp hrn) ?_
              rw [oi2 _ _ (by rw [hL.kp hrn]; decide), R0.rk hrn]
              refine r_iload (q := 119) C 5 rfl (by decide +kernel) rfl ?_
              refine r_icmp_ge (q := 122) (off := 25) (tgt := 144) C rfl (by decide +kernel) (by decide) (fun c119 => ?_) (fun c119 => ?_)
              · have k9 : kN ≤ σ.rk rj := (nI_leI (by omega) (by omega)).mp c119
                have A4 : ∀ i r, i < j → L[i]? = some r → kN ≤ σ.rk r := fun i r hi hr => by
                  by_cases q : i = j - 1
                  · rw [q, hrj] at hr; cases hr; exact k9
                  · exact Nat.le_trans k9 (St.ge (by omega) hr hrj)
                exact wX.sub (lsub_s (lsub_n (lsub_n (lsub_n (lsub_n (lsub_n (lsub_n (lsub_s (lsub_s (lsub_nil)))))))))) (J144 A4)
              · have k9 : σ.rk rj < kN := Nat.lt_of_not_le (fun q => c119 (nI_le q (by omega)))
                have A1n : ∀ i r, i < j - 1 → L[i]? = some r → (h2.stR (h.fr 386 g) j (p rj)).ar (h.fr 386 g) i = p r := fun i r hi hr => by rw [ar_stR', if_neg (fun e => by omega)]; exact A1 i r (by omega) hr
                have A2n : ∀ i r, j - 1 ≤ i → L[i]? = some r → (h2.stR (h.fr 386 g) j (p rj)).ar (h.fr 386 g) (i + 1) = p r := fun i r hi hr => by
                  by_cases q : i = j - 1
                  · rw [q, hrj] at hr; cases hr; rw [ar_stR', if_pos ⟨rfl, by omega⟩]
                  · rw [ar_stR', if_neg (fun e => by omega)]; exact A2 i r (by omega) hr
                have A3n : ∀ i r, j - 1 ≤ i → L[i]? = some r → σ.rk r < kN := fun i r hi hr => by
                  by_cases q : i = j - 1
                  · rw [q, hrj] at hr; cases hr; exact k9
                  · exact A3 i r (by omega) hr
                refine r_aload_n (q := 123) (z := 0) C 0 rfl (by decide +kernel) rfl rfl ?_
                refine r_getR (q := 126) C 6 2 386 rfl (by decide +kernel) rfl (by decide) rfl rfl wf_X6_22 win6 kg2 ?_
                rw [of2 g _ ng]
                refine r_iload (q := 128) C 8 rfl (by decide +kernel) rfl ?_
                refine r_aload_n (q := 129) (z := 0) C 0 rfl (by decide +kernel) rfl rfl ?_
                refine r_getR (q := 132) C 6 2 386 rfl (by decide +kernel) rfl (by decide) rfl rfl wf_X6_22 win6 kg2 ?_
                rw [of2 g _ ng]
                refine r_iload (q := 134) C 8 rfl (by decide +kernel) rfl ?_
                refine r_iconst (q := 135) (z := 1) (v := 1) C rfl (by decide +kernel) (by decide) ?_
                refine r_isub (q := 136) C rfl (by decide +kernel) ?_
                rw [m1x _ j0]
                refine r_aald (q := 137) C rfl (by decide +kernel) kb2 (vp_in_nI (by omega) (by decide)) ?_
                rw [nI_clamp (by omega), arj]
                refine r_aast (q := 138) C rfl (by decide +kernel) kb2 (by rw [ok2 _ (by rw [hL.kp hrn]; decide)]; exact hL.kp hrn) (vp_in_nI (by omega) (by decide)) ?_
                rw [nI_clamp (by omega)]
                refine r_iinc (q := 141) (z := (-1)) (v := (-1)) C 8 rfl (by decide +kernel) rfl (by decide) (by decide) (by first | rfl | exact okst_rv rfl) ?_
                dsimp only [List.set]
                rw [n_m1 j0]
                refine r_goto (off := -41) (tgt := 100) C (by decide +kernel) (by decide) ?_
                exact wX.sub (lsub_s (lsub_n (lsub_n (lsub_n (lsub_n (lsub_s (lsub_n (lsub_s (lsub_s (lsub_nil)))))))))) (ih100 (h2.stR (h.fr 386 g) j (p rj)) (j - 1) (by omega) A0.st (by omega) A1n A2n A3n)
        exact wX.sub (lsub_s (lsub_n (lsub_n (lsub_n (lsub_n (lsub_s (lsub_n (lsub_s (lsub_s (lsub_nil)))))))))) (L100 (σ.n + 1) (h78.stR (h.fr 385 g) σ.n a63) σ.n (by omega) Ra.rf (Nat.le_refl _) E1 E2 E3)
      · exact wX.sub (lsub_s (lsub_s (lsub_s (lsub_s (lsub_s (lsub_s (lsub_n (lsub_n (lsub_n (lsub_nil)))))))))) (J61 (fun e => c58 (by have h9 := e.2.2.2.2.2; exact nI_lt (b := 10) h9 (by decide))))
  refine r_iload_n (q := 1) (z := 1) C 1 rfl (by decide +kernel) rfl rfl ?_
  refine r_iload_n (q := 2) (z := 2) C 2 rfl (by decide +kernel) rfl rfl ?_
  have J44 : (¬ ((1 ≤ w ∧ w ≤ 4) ∧ (1 ≤ z ∧ z ≤ 4) ∧ (0 ≤ pq ∧ pq ≤ 100) ∧ (0 ≤ s ∧ s ≤ 9) ∧ (0 ≤ k ∧ k ≤ 99))) → wX G Γ (qM G Γ PP 2 17) 0 0 (h) 44 [some (rv g), some (.int w), some (.int z), some (.int pq), some (.int s), some (.int k), none, none, none] [] := by
    intro  hn
    refine r_iconst (q := 45) (z := 0) (v := 0) C rfl (by decide +kernel) (by decide) ?_
    refine r_istore (q := 47) C 6 rfl (by decide +kernel) (by decide) (by first | rfl | exact okst_rv rfl) ?_
    dsimp only [List.set]
    first
      | exact wX.sub (lsub_s (lsub_s (lsub_s (lsub_s (lsub_s (lsub_s (lsub_s (lsub_n (lsub_n lsub_nil))))))))) (J47 true ⟨fun _ => hy, fun _ => rfl⟩)
      | exact wX.sub (lsub_s (lsub_s (lsub_s (lsub_s (lsub_s (lsub_s (lsub_s (lsub_n (lsub_n lsub_nil))))))))) (J47 false ⟨(fun e => nomatch e), fun e => absurd e hn⟩)
  refine cS2I (q := 5) C R rfl (by decide +kernel) lk_X6_102 (c_X6_isSize ) (by decide) (by decide) (by decide) rfl (by first | exact Nat.le_of_ble_eq_true rfl | (simp only [List.map_cons, List.map_nil, List.sum_cons, List.sum_nil, rv_cat]; exact Nat.le_of_ble_eq_true rfl))  ?_
  rintro _ _ ⟨rfl, rfl⟩
  refine r_if_eq (q := 8) (off := 39) (tgt := 44) C rfl (by decide +kernel) (by decide) (fun c5 => ?_) (fun c5 => ?_)
  · have d5 := of_decide_eq_false ((b2i_0 _).mp c5)
    exact wX.sub (lsub_s (lsub_s (lsub_s (lsub_s (lsub_s (lsub_s (lsub_n (lsub_n (lsub_n (lsub_nil)))))))))) (J44 (fun e => d5 ⟨e.1, e.2.1⟩))
  · have d5 := of_decide_eq_true ((b2i_n0 _).mp c5)
    refine r_iload_n (q := 9) (z := 3) C 3 rfl (by decide +kernel) rfl rfl ?_
    refine r_iconst (q := 10) (z := 0) (v := 0) C rfl (by decide +kernel) (by decide) ?_
    refine r_bipush (q := 12) (z := 100) (v := 100) C rfl (by decide +kernel) (by decide) ?_
    refine cS3I (q := 15) C R rfl (by decide +kernel) lk_X6_105 (c_X6_isWithin ) (by decide) (by decide) (by decide) rfl (by first | exact Nat.le_of_ble_eq_true rfl | (simp only [List.map_cons, List.map_nil, List.sum_cons, List.sum_nil, rv_cat]; exact Nat.le_of_ble_eq_true rfl))  ?_
    rintro _ _ ⟨rfl, rfl⟩
    refine r_if_eq (q := 18) (off := 29) (tgt := 44) C rfl (by decide +kernel) (by decide) (fun c15 => ?_) (fun c15 => ?_)
    · have d15 := of_decide_eq_false ((b2i_0 _).mp c15)
      exact wX.sub (lsub_s (lsub_s (lsub_s (lsub_s (lsub_s (lsub_s (lsub_n (lsub_n (lsub_n (lsub_nil)))))))))) (J44 (fun e => d15 e.2.2.1))
    · have d15 := of_decide_eq_true ((b2i_n0 _).mp c15)
      refine r_iload (q := 20) C 4 rfl (by decide +kernel) rfl ?_
      refine r_iconst (q := 21) (z := 0) (v := 0) C rfl (by decide +kernel) (by decide) ?_
      refine r_bipush (q := 23) (z := 9) (v := 9) C rfl (by decide +kernel) (by decide) ?_
      refine cS3I (q := 26) C R rfl (by decide +kernel) lk_X6_105 (c_X6_isWithin ) (by decide) (by decide) (by decide) rfl (by first | exact Nat.le_of_ble_eq_true rfl | (simp only [List.map_cons, List.map_nil, List.sum_cons, List.sum_nil, rv_cat]; exact Nat.le_of_ble_eq_true rfl))  ?_
      rintro _ _ ⟨rfl, rfl⟩
      refine r_if_eq (q := 29) (off := 18) (tgt := 44) C rfl (by decide +kernel) (by decide) (fun c26 => ?_) (fun c26 => ?_)
      · have d26 := of_decide_eq_false ((b2i_0 _).mp c26)
        exact wX.sub (lsub_s (lsub_s (lsub_s (lsub_s (lsub_s (lsub_s (lsub_n (lsub_n (lsub_n (lsub_nil)))))))))) (J44 (fun e => d26 e.2.2.2.1))
      · have d26 := of_decide_eq_true ((b2i_n0 _).mp c26)
        refine r_iload (q := 31) C 5 rfl (by decide +kernel) rfl ?_
        refine r_iconst (q := 32) (z := 0) (v := 0) C rfl (by decide +kernel) (by decide) ?_
        refine r_bipush (q := 34) (z := 99) (v := 99) C rfl (by decide +kernel) (by decide) ?_
        refine cS3I (q := 37) C R rfl (by decide +kernel) lk_X6_105 (c_X6_isWithin ) (by decide) (by decide) (by decide) rfl (by first | exact Nat.le_of_ble_eq_true rfl | (simp only [List.map_cons, List.map_nil, List.sum_cons, List.sum_nil, rv_cat]; exact Nat.le_of_ble_eq_true rfl))  ?_
        rintro _ _ ⟨rfl, rfl⟩
        refine r_if_eq (q := 40) (off := 7) (tgt := 44) C rfl (by decide +kernel) (by decide) (fun c37 => ?_) (fun c37 => ?_)
        · have d37 := of_decide_eq_false ((b2i_0 _).mp c37)
          exact wX.sub (lsub_s (lsub_s (lsub_s (lsub_s (lsub_s (lsub_s (lsub_n (lsub_n (lsub_n (lsub_nil)))))))))) (J44 (fun e => d37 e.2.2.2.2))
        · have d37 := of_decide_eq_true ((b2i_n0 _).mp c37)
          have hy : (1 ≤ w ∧ w ≤ 4) ∧ (1 ≤ z ∧ z ≤ 4) ∧ (0 ≤ pq ∧ pq ≤ 100) ∧ (0 ≤ s ∧ s ≤ 9) ∧ (0 ≤ k ∧ k ≤ 99) := ⟨d5.1, d5.2, d15, d26, d37⟩
          refine r_iconst (q := 41) (z := 1) (v := 1) C rfl (by decide +kernel) (by decide) ?_
          refine r_goto (off := 4) (tgt := 45) C (by decide +kernel) (by decide) ?_
          refine r_istore (q := 47) C 6 rfl (by decide +kernel) (by decide) (by first | rfl | exact okst_rv rfl) ?_
          dsimp only [List.set]
          first
            | exact wX.sub (lsub_s (lsub_s (lsub_s (lsub_s (lsub_s (lsub_s (lsub_s (lsub_n (lsub_n lsub_nil))))))))) (J47 true ⟨fun _ => hy, fun _ => rfl⟩)
            | exact wX.sub (lsub_s (lsub_s (lsub_s (lsub_s (lsub_s (lsub_s (lsub_s (lsub_n (lsub_n lsub_nil))))))))) (J47 false ⟨(fun e => nomatch e), fun e => absurd e hn⟩)
