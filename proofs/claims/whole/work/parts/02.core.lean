/-! ===== the heap as functions; the world; the judgement wX ===== -/
def rv (n : Nat) : Value := if n = 0 then .null else .ref n
def op (n : Nat) : Option Nat := if n = 0 then none else some n
theorem va_rf_op (n : Nat) : va_rf (op n) = rv n := by unfold op rv; split <;> rfl
theorem rv_ref {n : Nat} (h : n ≠ 0) : rv n = .ref n := if_neg h
theorem rv_0 : rv 0 = .null := rfl
theorem rv_cat (n : Nat) : (rv n).category = 1 := by unfold rv; split <;> rfl
theorem rv_or (n : Nat) : rv n = .null ∨ ∃ a, rv n = .ref a := by
  unfold rv; split
  · exact Or.inl rfl
  · exact Or.inr ⟨_, rfl⟩
def b2i (b : Bool) : Int32 := if b then 1 else 0
theorem b2i_t : b2i true = 1 := rfl
theorem b2i_f : b2i false = 0 := rfl
theorem b2i_nar (b : Bool) : narrow .boolean (.int (b2i b)) = .int (b2i b) := by cases b <;> decide
theorem b2i_0 (b : Bool) : b2i b = 0 ↔ b = false := by cases b <;> decide
theorem b2i_n0 (b : Bool) : ¬ b2i b = 0 ↔ b = true := by cases b <;> decide
def up2 {α : Type} (f : Nat → Nat → α) (g a : Nat) (v : α) : Nat → Nat → α := fun g' a' => if g' = g ∧ a' = a then v else f g' a'
def clr {α : Type} (f : Nat → Nat → α) (a : Nat) (v : α) : Nat → Nat → α := fun g' a' => if a' = a then v else f g' a'
def clr1 {α : Type} (f : Nat → Nat → α) (a : Nat) (v : α) : Nat → Nat → α := fun a' j => if a' = a then v else f a' j
def HP : Type := (Nat → Nat × Nat) × (Nat → Nat → Int32) × (Nat → Nat → Nat) × (Nat → Nat → Int32) × (Nat → Nat → Int64) × (Nat → Nat → Nat) × (Nat → Nat)
def HP.of (kd : Nat → Nat × Nat) (fi : Nat → Nat → Int32) (fr : Nat → Nat → Nat) (ai : Nat → Nat → Int32) (al : Nat → Nat → Int64) (ar : Nat → Nat → Nat) (gl : Nat → Nat) : HP := (kd, fi, fr, ai, al, ar, gl)
/-- kinds: (0, c) an object of the class c; (8 byte, 9 int, 10 long, 11 boolean, 12 Ride; n) an array of length n; (99, _) none -/
def HP.kd (h : HP) : Nat → Nat × Nat := Prod.fst h
def HP.fi (h : HP) : Nat → Nat → Int32 := Prod.fst (Prod.snd h)
def HP.fr (h : HP) : Nat → Nat → Nat := Prod.fst (Prod.snd (Prod.snd h))
def HP.ai (h : HP) : Nat → Nat → Int32 := Prod.fst (Prod.snd (Prod.snd (Prod.snd h)))
def HP.al (h : HP) : Nat → Nat → Int64 := Prod.fst (Prod.snd (Prod.snd (Prod.snd (Prod.snd h))))
def HP.ar (h : HP) : Nat → Nat → Nat := Prod.fst (Prod.snd (Prod.snd (Prod.snd (Prod.snd (Prod.snd h)))))
/-- labels of our own: which cell is which -/
def HP.gl (h : HP) : Nat → Nat := Prod.snd (Prod.snd (Prod.snd (Prod.snd (Prod.snd (Prod.snd h)))))
def HP.setI (h : HP) (g a : Nat) (v : Int32) : HP := HP.of h.kd (up2 h.fi g a v) h.fr h.ai h.al h.ar h.gl
def HP.setR (h : HP) (g a : Nat) (v : Nat) : HP := HP.of h.kd h.fi (up2 h.fr g a v) h.ai h.al h.ar h.gl
def HP.stI (h : HP) (a i : Nat) (v : Int32) : HP := HP.of h.kd h.fi h.fr (up2 h.ai a i v) h.al h.ar h.gl
def HP.stL (h : HP) (a i : Nat) (v : Int64) : HP := HP.of h.kd h.fi h.fr h.ai (up2 h.al a i v) h.ar h.gl
def HP.stR (h : HP) (a i : Nat) (v : Nat) : HP := HP.of h.kd h.fi h.fr h.ai h.al (up2 h.ar a i v) h.gl
def HP.new (h : HP) (a : Nat) (k : Nat × Nat) (lb : Nat) : HP := HP.of (fun b => if b = a then k else h.kd b) (clr h.fi a 0) (clr h.fr a 0) (clr1 h.ai a 0) (clr1 h.al a 0) (clr1 h.ar a 0) (fun b => if b = a then lb else h.gl b)
def gid (c k : Nat) : Nat := 64 * c + k
def fv (h : HP) (a : Nat) (q : Bool × Nat) : Value := match q.1 with
  | true => rv (h.fr q.2 a)
  | false => .int (h.fi q.2 a)
def ftab (c : Nat) : List (Bool × Nat) := match c with
  | 0 => [(true, 0), (true, 1), (true, 2), (false, 3), (false, 4)]
  | 1 => [(true, 64), (false, 65), (true, 66), (true, 67), (true, 68), (false, 69)]
  | 2 => [(true, 128), (true, 129), (true, 130), (false, 131), (false, 132), (false, 133)]
  | 3 => [(false, 192), (false, 193), (false, 194), (false, 195), (false, 196), (false, 197), (true, 198), (false, 199), (false, 200), (false, 201), (false, 202), (false, 203)]
  | 4 => [(false, 256), (false, 257), (false, 258), (false, 259), (false, 260)]
  | 5 => [(true, 320), (false, 321)]
  | 6 => [(true, 384), (true, 385), (true, 386), (false, 387), (false, 388), (true, 389), (true, 390), (true, 391), (true, 392), (true, 393), (true, 394), (true, 395), (true, 396), (false, 397)]
  | 7 => [(false, 448), (true, 449), (false, 450), (false, 451), (true, 452), (true, 453), (true, 454), (false, 455), (false, 456), (true, 457), (true, 458), (true, 459), (true, 460), (true, 461), (true, 462), (false, 463), (false, 464), (false, 465), (false, 466), (true, 467), (true, 468), (true, 469), (true, 470), (true, 471), (false, 472), (true, 473), (true, 474), (true, 475), (true, 476), (true, 477), (true, 478), (true, 479), (true, 480), (true, 481), (true, 482), (false, 483), (true, 484), (false, 485), (true, 486), (true, 487), (true, 488), (true, 489), (true, 490), (true, 491), (true, 492), (false, 493), (true, 494), (true, 495), (true, 496), (true, 497)]
  | _ => []
def kE (ca : Nat → ClassId) (h : HP) (a : Nat) : va_E := match (h.kd a).1 with
  | 8 => .inl (ca 8, (h.kd a).2, .inl (h.ai a))
  | 9 => .inl (ca 9, (h.kd a).2, .inl (h.ai a))
  | 10 => .inl (ca 10, (h.kd a).2, .inr (.inl (h.al a)))
  | 11 => .inl (ca 11, (h.kd a).2, .inl (h.ai a))
  | 12 => .inl (ca 12, (h.kd a).2, .inr (.inr (.inr (.inr (fun j => op (h.ar a j))))))
  | _ => .inr ((h.kd a).2, (ftab (h.kd a).2).map (fv h a))
theorem kE_obj {ca : Nat → ClassId} {h : HP} {a c : Nat} (hk : h.kd a = (0, c)) : kE ca h a = .inr (c, (ftab c).map (fv h a)) := by
  unfold kE; rw [hk]; rfl
theorem kE_b {ca : Nat → ClassId} {h : HP} {a n : Nat} (hk : h.kd a = (8, n)) : kE ca h a = .inl (ca 8, n, .inl (h.ai a)) := by
  unfold kE; rw [hk]; rfl
theorem kE_i {ca : Nat → ClassId} {h : HP} {a n : Nat} (hk : h.kd a = (9, n)) : kE ca h a = .inl (ca 9, n, .inl (h.ai a)) := by
  unfold kE; rw [hk]; rfl
theorem kE_l {ca : Nat → ClassId} {h : HP} {a n : Nat} (hk : h.kd a = (10, n)) : kE ca h a = .inl (ca 10, n, .inr (.inl (h.al a))) := by
  unfold kE; rw [hk]; rfl
theorem kE_z {ca : Nat → ClassId} {h : HP} {a n : Nat} (hk : h.kd a = (11, n)) : kE ca h a = .inl (ca 11, n, .inl (h.ai a)) := by
  unfold kE; rw [hk]; rfl
theorem kE_r {ca : Nat → ClassId} {h : HP} {a n : Nat} (hk : h.kd a = (12, n)) : kE ca h a = .inl (ca 12, n, .inr (.inr (.inr (.inr (fun j => op (h.ar a j)))))) := by
  unfold kE; rw [hk]; rfl
theorem kE_congr {ca : Nat → ClassId} {h h' : HP} {a : Nat} (h1 : h'.kd a = h.kd a) (h2 : ∀ g, h'.fi g a = h.fi g a) (h3 : ∀ g, h'.fr g a = h.fr g a) (h4 : h'.ai a = h.ai a) (h5 : h'.al a = h.al a) (h6 : h'.ar a = h.ar a) : kE ca h' a = kE ca h a := by
  have e : fv h' a = fv h a := by
    funext q
    unfold fv
    rw [h2, h3]
  unfold kE
  rw [h1, h4, h5, h6, e]
/-- launch, class numbers, array classes, the cells that may change, the Strings' addresses -/
def GT : Type := Launch × va_G × (Nat → ClassId) × (Nat → Prop) × (Nat → Nat) × (Nat → Nat)
abbrev GT.l (G : GT) : Launch := Prod.fst G
abbrev GT.D (G : GT) : va_G := Prod.fst (Prod.snd G)
abbrev GT.ca (G : GT) : Nat → ClassId := Prod.fst (Prod.snd (Prod.snd G))
abbrev GT.A (G : GT) : Nat → Prop := Prod.fst (Prod.snd (Prod.snd (Prod.snd G)))
abbrev GT.aK (G : GT) : Nat → Nat := Prod.fst (Prod.snd (Prod.snd (Prod.snd (Prod.snd G))))
abbrev GT.aV (G : GT) : Nat → Nat := Prod.snd (Prod.snd (Prod.snd (Prod.snd (Prod.snd G))))
def CT : Type := Program × Env × Room × State × MethodId × Array Value × List Frame × Method × Code
abbrev CT.p (Γ : CT) : Program := Prod.fst Γ
abbrev CT.e (Γ : CT) : Env := Prod.fst (Prod.snd Γ)
abbrev CT.R (Γ : CT) : Room := Prod.fst (Prod.snd (Prod.snd Γ))
abbrev CT.s (Γ : CT) : State := Prod.fst (Prod.snd (Prod.snd (Prod.snd Γ)))
abbrev CT.m (Γ : CT) : MethodId := Prod.fst (Prod.snd (Prod.snd (Prod.snd (Prod.snd Γ))))
abbrev CT.args (Γ : CT) : Array Value := Prod.fst (Prod.snd (Prod.snd (Prod.snd (Prod.snd (Prod.snd Γ)))))
abbrev CT.below (Γ : CT) : List Frame := Prod.fst (Prod.snd (Prod.snd (Prod.snd (Prod.snd (Prod.snd (Prod.snd Γ))))))
abbrev CT.meth (Γ : CT) : Method := Prod.fst (Prod.snd (Prod.snd (Prod.snd (Prod.snd (Prod.snd (Prod.snd (Prod.snd Γ)))))))
abbrev CT.c (Γ : CT) : Code := Prod.snd (Prod.snd (Prod.snd (Prod.snd (Prod.snd (Prod.snd (Prod.snd (Prod.snd Γ)))))))
def WS : List Cond := lw_tbl.filter goodWord
abbrev tys_ (ca : Nat → ClassId) : List (ClassId × FieldType) := [(ca 8, .byte), (ca 9, .int), (ca 10, .long), (ca 11, .boolean), (ca 12, .object RX3)]
def wld (G : GT) (h : HP) (la : List Nat) : va_W := va_pl la (kE G.ca h)
def Rl (G : GT) (h : HP) (H : Heap) : Prop := ∃ la : List Nat, (∀ a, a ∈ la ↔ (h.kd a).1 ≠ 99) ∧ va_P G.D vwCl (wld G h la) H ∧ va_D G.A (wld G h la)
def st_own : List (String × Nat × String) := [(RX2, 89, "missed"), (RX2, 91, "held"), (RX2, 93, "sick"), (RX2, 95, "rank"), (RX2, 97, "area"), (RX2, 99, "year"), (RX2, 77, "keep"), (RX2, 83, "lapse"), (RX2, 85, "when"), (RX2, 87, "and"), (RX6, 216, "no such ride"), (RX6, 236, "nothing such to look at")]
def st_len : List Nat := st_own.map (fun q => q.2.2.length)
def st_byt : List (List Int32) := st_own.map (fun q => q.2.2.toList.map (fun ch => Int32.ofNat ch.toNat))
def st_nest : List (String × Nat × MethodName × String) := [(RX6, 34, yX4_init, RX6), (RX6, 41, yX5_init, RX6), (RX6, 48, yX2_init, RX6), (RX6, 55, yX1_init, RX6), (RX3, 11, yX4_init, RX6), (RX5, 21, yX6_isWithin, RX6)]
/-- what the tables and the old heap say, of any state in the run -/
def KN (G : GT) (U : State) : Prop := va_K G.D vwCl (tys_ G.ca) U ∧ va_AO RX3 U ∧ (∀ q ∈ st_nest, va_Nw (.methodLinkNest q.1 q.2.1 q.2.2.1 q.2.2.2) U) ∧
  (∀ (i : Nat) (q : String × Nat × String), st_own[i]? = some q → vk_R q.1 q.2.1 q.2.2 (G.aK i) U)
/-- words that held where the run began -/
def st_stat : List Cond := [.laysStatic "java/lang/Throwable" "UNASSIGNED_STACK" "[Ljava/lang/StackTraceElement;", .laysStatic "java/lang/Throwable" "SUPPRESSED_SENTINEL" "Ljava/util/List;", .isRef (.static "java/lang/Throwable" "UNASSIGNED_STACK" "[Ljava/lang/StackTraceElement;"), .isRef (.static "java/lang/Throwable" "SUPPRESSED_SENTINEL" "Ljava/util/List;"), .initialized "java/lang/Throwable"]
/-- the run began somewhere: the tables are alike, the old cells are as they were -/
def KO (G : GT) (U : State) (H : Heap) : Prop := ∃ s0 : State, (∀ w ∈ st_stat, w.before #[] s0 = true) ∧ s0.vm.Alike U.vm ∧ (∀ a : Nat, a < s0.heap.size → ¬ G.A a) ∧ ∀ a : Nat, a < s0.heap.size → H[a]? = s0.heap[a]?
/-- what the old heap says -/
def KH (G : GT) (U : State) (H : Heap) : Prop := vk_S 12 st_len st_byt G.aK G.aV G.A U H ∧ va_Z "java/lang/String" "COMPACT_STRINGS" "Z" (.int 1) G.A U H ∧ va_Zq "jdk/internal/util/Preconditions" "SIOOBE_FORMATTER" "Ljava/util/function/BiFunction;" G.A U H ∧ KO G U H
def lvh (nL : Nat) (ls : Array Slot) (lv : List (Option Value)) : Prop := ls.size = nL ∧ lv_wf ls ∧ ∀ (i : Nat) (v : Value), lv[i]? = some (some v) → ls[i]? = some (.val v)
def wX (G : GT) (Γ : CT) (Q : State → Prop) (k n : Nat) (h : HP) (pc : Nat) (lv : List (Option Value)) (st : List Value) : Prop :=
  ∀ (H : Heap) (locs : List Loc) (ls : Array Slot), Rl G h H → va_S G.A Γ.s.heap H locs → lvh Γ.c.maxLocals ls lv → W Γ.p G.l Γ.e Γ.R Γ.s Γ.m Γ.args Γ.below Γ.meth Γ.c H locs k n Q (F0 Γ.m pc ls st)
/-- where a method's body stands: machine, code, tables -/
abbrev Cx (G : GT) (Γ : CT) (y : MethodName) (cc : ByteArray) (nL : Nat) (rt : Option FieldType) : Prop :=
  Γ.p.tables.exec = Jvm.exec ∧ Γ.c.code = cc ∧ Γ.c.maxLocals = nL ∧ Γ.s.vm.findClass y.cls = some Γ.m.cls ∧ (∀ w ∈ WS, w.before Γ.args Γ.s = true) ∧ Γ.meth.sig.returnType = rt ∧ Γ.meth.locks = false ∧ Γ.meth.name = y.name ∧ KN G Γ.s ∧ KH G Γ.s Γ.s.heap ∧ (∀ q, Γ.s.heap.size ≤ q → G.A q) ∧ ¬ G.A 0
/-! locals -/
def lvp (lv : List (Option Value)) : List (Nat × Value) := (List.range lv.length).filterMap (fun j => match lv[j]? with | some (some w) => some (j, w) | _ => none)
theorem lvp_mem {lv : List (Option Value)} {j : Nat} {w : Value} : (j, w) ∈ lvp lv ↔ lv[j]? = some (some w) := by
  unfold lvp
  rw [List.mem_filterMap]
  constructor
  · rintro ⟨i, -, hi⟩
    split at hi
    · rename_i w' hw
      cases hi
      exact hw
    · cases hi
  · intro h
    refine ⟨j, List.mem_range.mpr (List.getElem?_eq_some_iff.mp h).1, ?_⟩
    rw [h]
theorem lvh_has {nL : Nat} {ls : Array Slot} {lv : List (Option Value)} (h : lvh nL ls lv) : lv_has ls nL (lvp lv) := ⟨h.1, h.2.1, fun q hq => h.2.2 q.1 q.2 (lvp_mem.mp hq)⟩
def okst (lv : List (Option Value)) (i : Nat) : Bool := match i with
  | 0 => true
  | j + 1 => match lv[j]? with
    | some (some w) => !(w.category == 2)
    | _ => true
theorem lvh_of1 {nL : Nat} {ls : Array Slot} {lv : List (Option Value)} {i : Nat} {v : Value} (ho : okst lv i = true) (h : lv_has ls nL ((i, v) :: (lvp lv).filter (fun q => !(q.1 == i) && !(q.1 + 1 == i && q.2.category == 2)))) : lvh nL ls (lv.set i (some v)) := by
  refine ⟨h.1, h.2.1, fun j w hj => ?_⟩
  by_cases e : j = i
  · subst e
    have hl : j < lv.length := by
      have := (List.getElem?_eq_some_iff.mp hj).1
      rwa [List.length_set] at this
    rw [List.getElem?_set_self hl] at hj
    cases hj
    exact h.2.2 (j, v) List.mem_cons_self
  · rw [List.getElem?_set_ne (Ne.symm e)] at hj
    refine h.2.2 (j, w) (List.mem_cons_of_mem _ (List.mem_filter.mpr ⟨lvp_mem.mpr hj, ?_⟩))
    have e1 : (j == i) = false := by simpa using e
    have e2 : (j + 1 == i && w.category == 2) = false := by
      by_cases e3 : j + 1 = i
      · subst e3
        simp only [okst, hj] at ho
        simpa using ho
      · simp [e3]
    simp only [e1, e2]
    rfl
theorem lvh_of2 {nL : Nat} {ls : Array Slot} {lv : List (Option Value)} {i : Nat} {v : Value} (ho : okst lv i = true) (h : lv_has ls nL ((i, v) :: (lvp lv).filter (fun q => !(q.1 == i) && (!(q.1 == i + 1) && !(q.1 + 1 == i && q.2.category == 2))))) : lvh nL ls ((lv.set i (some v)).set (i + 1) none) := by
  refine ⟨h.1, h.2.1, fun j w hj => ?_⟩
  by_cases e0 : j = i + 1
  · subst e0
    have hl : i + 1 < (lv.set i (some v)).length := by
      have := (List.getElem?_eq_some_iff.mp hj).1
      rwa [List.length_set] at this
    rw [List.getElem?_set_self hl] at hj
    cases hj
  · rw [List.getElem?_set_ne (Ne.symm e0)] at hj
    by_cases e : j = i
    · subst e
      have hl : j < lv.length := by
        have := (List.getElem?_eq_some_iff.mp hj).1
        rwa [List.length_set] at this
      rw [List.getElem?_set_self hl] at hj
      cases hj
      exact h.2.2 (j, v) List.mem_cons_self
    · rw [List.getElem?_set_ne (Ne.symm e)] at hj
      refine h.2.2 (j, w) (List.mem_cons_of_mem _ (List.mem_filter.mpr ⟨lvp_mem.mpr hj, ?_⟩))
      have e1 : (j == i) = false := by simpa using e
      have e4 : (j == i + 1) = false := by simpa using e0
      have e2 : (j + 1 == i && w.category == 2) = false := by
        by_cases e3 : j + 1 = i
        · subst e3
          simp only [okst, hj] at ho
          simpa using ho
        · simp [e3]
      simp only [e1, e2, e4]
      rfl
theorem lvh_at {nL : Nat} {ls : Array Slot} {lv : List (Option Value)} (h : lvh nL ls lv) {i : Nat} {v : Value} (hi : lv[i]? = some (some v)) : ls[i]? = some (.val v) := h.2.2 i v hi
theorem lvh_sub {nL : Nat} {ls : Array Slot} {lv lv' : List (Option Value)} (h : lvh nL ls lv) (hs : ∀ (i : Nat) (v : Value), lv'[i]? = some (some v) → lv[i]? = some (some v)) : lvh nL ls lv' := ⟨h.1, h.2.1, fun i v hi => h.2.2 i v (hs i v hi)⟩
def lsub (lv' lv : List (Option Value)) : Prop := ∀ (i : Nat) (v : Value), lv'[i]? = some (some v) → lv[i]? = some (some v)
theorem wX.sub {G : GT} {Γ : CT} {Q : State → Prop} {k n : Nat} {h : HP} {pc : Nat} {lv lv' : List (Option Value)} {st : List Value} (hs : lsub lv' lv) (kk : wX G Γ Q k n h pc lv' st) : wX G Γ Q k n h pc lv st := fun H locs ls a b c => kk H locs ls a b (lvh_sub c hs)
theorem lsub_nil : lsub [] [] := fun i v h => h
theorem lsub_s {v : Option Value} {a b : List (Option Value)} (h : lsub a b) : lsub (v :: a) (v :: b) := fun i w hi => by
  cases i with
  | zero => exact hi
  | succ i => exact h i w hi
theorem lsub_n {v : Option Value} {a b : List (Option Value)} (h : lsub a b) : lsub (none :: a) (v :: b) := fun i w hi => by
  cases i with
  | zero => cases hi
  | succ i => exact h i w hi
theorem wX.widen {G : GT} {Γ : CT} {Q : State → Prop} {k n k' n' : Nat} {h : HP} {pc : Nat} {lv : List (Option Value)} {st : List Value} (h1 : k ≤ k') (h2 : n ≤ n') (kk : wX G Γ Q k' n' h pc lv st) : wX G Γ Q k n h pc lv st := fun H locs ls a b c => W.widen h1 h2 (kk H locs ls a b c)
theorem Rl.in {G : GT} {h : HP} {H : Heap} (hR : Rl G h H) {a : Nat} {k : Nat × Nat} (hk : h.kd a = k) (h9 : k.1 ≠ 99) : ∃ (la : List Nat) (q0 : Nat), (∀ b, b ∈ la ↔ (h.kd b).1 ≠ 99) ∧ va_P G.D vwCl (wld G h la) H ∧ va_D G.A (wld G h la) ∧ (wld G h la)[q0]? = some (a, kE G.ca h a) ∧ a ∈ la := by
  obtain ⟨la, h1, h2, h3⟩ := hR
  have hm : a ∈ la := (h1 a).mpr (by rw [hk]; exact h9)
  obtain ⟨q0, hq⟩ := va_pl_get (X := []) (f := kE G.ca h) hm
  exact ⟨la, q0, h1, h2, h3, hq, hm⟩
theorem Rl.ne0 {G : GT} {h : HP} {H : Heap} (hR : Rl G h H) (hA : ¬ G.A 0) {a : Nat} {k : Nat × Nat} (hk : h.kd a = k) (h9 : k.1 ≠ 99) : a ≠ 0 := by
  obtain ⟨la, q0, h1, h2, h3, h4, h5⟩ := Rl.in hR hk h9
  rintro rfl
  exact hA (h3.2 q0 _ h4)
/-- one cell has changed -/
theorem Rl.upd {G : GT} {h h' : HP} {H1 : Heap} {la : List Nat} {q0 a : Nat} (h1 : ∀ b, b ∈ la ↔ (h.kd b).1 ≠ 99) (hD : va_D G.A (wld G h la)) (hq : (wld G h la)[q0]? = some (a, kE G.ca h a)) (hm : a ∈ la) (hk : h'.kd = h.kd) (hb : ∀ b, b ≠ a → kE G.ca h' b = kE G.ca h b)
    (hP1 : va_P G.D vwCl ((wld G h la).set q0 (a, kE G.ca h' a)) H1) (hD1 : va_D G.A ((wld G h la).set q0 (a, kE G.ca h' a))) : Rl G h' H1 := by
  have e : (wld G h la).set q0 (a, kE G.ca h' a) = wld G h' la := by
    have e1 := va_pl_set (X := []) (e := kE G.ca h' a) hD hm hq
    refine (show (wld G h la).set q0 (a, kE G.ca h' a) = va_pl la (va_up (kE G.ca h) a (kE G.ca h' a)) from e1).trans (va_pl_congr fun b => ?_)
    by_cases hba : b = a
    · subst hba; rw [va_up_self]
    · rw [va_up_ne _ _ hba, hb b hba]
  rw [e] at hP1 hD1
  exact ⟨la, fun b => by rw [hk]; exact h1 b, hP1, hD1⟩
/-- one cell has come -/
theorem Rl.push {G : GT} {h h' : HP} {H1 : Heap} {la : List Nat} {a : Nat} {k : Nat × Nat} (h1 : ∀ b, b ∈ la ↔ (h.kd b).1 ≠ 99) (hk9 : k.1 ≠ 99) (hk : h'.kd a = k) (hko : ∀ b, b ≠ a → h'.kd b = h.kd b) (hb : ∀ b, b ≠ a → kE G.ca h' b = kE G.ca h b)
    (hP1 : va_P G.D vwCl (wld G h la ++ [(a, kE G.ca h' a)]) H1) (hD1 : va_D G.A (wld G h la ++ [(a, kE G.ca h' a)])) : Rl G h' H1 ∧ (h.kd a).1 = 99 := by
  have hf : a ∉ la := va_pl_fresh2 (X := []) (f := kE G.ca h) (e := kE G.ca h' a) hD1
  have e : wld G h la ++ [(a, kE G.ca h' a)] = wld G h' (la ++ [a]) := by
    have e1 := va_pl_push (f := kE G.ca h) (e := kE G.ca h' a) hf
    refine (show wld G h la ++ [(a, kE G.ca h' a)] = _ from e1).trans (va_pl_congr fun b => ?_)
    by_cases hba : b = a
    · subst hba; rw [va_up_self]
    · rw [va_up_ne _ _ hba, hb b hba]
  rw [e] at hP1 hD1
  refine ⟨⟨la ++ [a], fun b => ?_, hP1, hD1⟩, ?_⟩
  · by_cases hba : b = a
    · subst hba
      simp [hk, hk9]
    · rw [hko b hba, ← h1 b]
      simp [hba]
  · have := mt (h1 a).mpr hf
    omega
