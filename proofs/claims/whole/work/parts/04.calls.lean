/-! ===== contracts over the functional heap: entry, returns, calls, new cells ===== -/
theorem WS_good : GoodIn WS WS := fun w hw => ⟨hw, good_of_word (List.mem_filter.mp hw).2⟩
theorem ws_code {y : MethodName} {cc : ByteArray} {nL : Nat} {rt : Option FieldType} (h : Cond.code y cc nL rt ∈ WS) : GoodIn WS (.code y cc nL rt :: WS) := fun w hw => by
  rcases List.mem_cons.mp hw with rfl | hw
  · exact WS_good _ h
  · exact WS_good _ hw
def rmm (lev mc ms : Nat) : Room := { frames := lev, cells := mc, slots := ms, locals := 64 * lev }
def Rm (Γ : CT) (lev mc ms : Nat) : Prop := lev ≤ Γ.R.frames ∧ mc ≤ Γ.R.cells ∧ ms ≤ Γ.R.slots ∧ 64 * lev ≤ Γ.R.locals
def PreU (G : GT) (h : HP) (U : State) : Prop := Rl G h U.heap ∧ KN G U ∧ KH G U U.heap ∧ (∀ q, U.heap.size ≤ q → G.A q) ∧ ¬ G.A 0
def QC (G : GT) (post : Option Value → HP → Prop) : Array Value → State → Outcome → State → Prop := fun _ s0 o t => (∃ (v : Option Value) (h' : HP), o = .returned v ∧ post v h' ∧ Rl G h' t.heap) ∧ va_F G.A s0 t
def qM (G : GT) (Γ : CT) (post : Option Value → HP → Prop) (mc ms : Nat) : State → Prop := MQ Γ.below (QC G post) Γ.args Γ.s mc ms G.A
/-- the contract: any heap like h, the arguments av: it returns, and post holds of the answer and the new heap -/
def Con (G : GT) (lev mc ms : Nat) (y : MethodName) (cc : ByteArray) (nL : Nat) (rt : Option FieldType) (av : List Value) (h : HP) (post : Option Value → HP → Prop) : Prop :=
  Met G.l y (.code y cc nL rt :: WS) (rmm lev mc ms) (va_Pc av (PreU G h)) (QC G post) mc ms G.A
theorem KN.same {G : GT} {u U : State} (hv : u.vm = U.vm) (h : KN G u) : KN G U := by
  obtain ⟨h1, h2, h3, h4⟩ := h
  have ha : u.vm.Alike U.vm := hv ▸ Vm.Alike.refl u.vm
  exact ⟨va_K.moved ha h1, h2.moved ha, fun q hq => (h3 q hq).same rfl hv, fun i q hq => (h4 i q hq).same hv.symm⟩
theorem KN.warm {G : GT} {s U : State} (hW : s.WarmedH U.vm) (h : KN G s) : KN G U := by
  obtain ⟨h1, h2, h3, h4⟩ := h
  exact ⟨va_K.moved hW.alike h1, h2.moved hW.alike, fun q hq => (h3 q hq).warmM hW, fun i q hq => (h4 i q hq).warm hW⟩
theorem KH.moved {G : GT} {u U : State} {H : Heap} (ha : u.vm.Alike U.vm) (h : KH G u H) : KH G U H := ⟨h.1.moved ha, h.2.1.moved ha, h.2.2.1.moved ha, by obtain ⟨s0, k1, k2, k3⟩ := h.2.2.2; exact ⟨s0, k1, k2.trans ha, k3⟩⟩
theorem KH.kept {G : GT} {U : State} {H H1 : Heap} (h : KH G U H) (hq : ∀ a : Nat, a < H.size → ¬ G.A a → H1[a]? = H[a]?) : KH G U H1 := ⟨h.1.kept hq, h.2.1.kept hq, h.2.2.1.kept hq, by obtain ⟨s0, k1, k2, k3, k4⟩ := h.2.2.2; exact ⟨s0, k1, k2, k3, fun a ha => (hq a (by have e := k4 a ha; rw [Array.getElem?_eq_getElem ha] at e; exact (Array.getElem?_eq_some_iff.mp e).1) (k3 a ha)).trans (k4 a ha)⟩⟩
theorem pre_blind {G : GT} {h : HP} {av : List Value} : FrameBlind (va_Pc av (PreU G h)) := fun a U g mk hp => by
  obtain ⟨h0, h1, h2, h3, h4, h5⟩ := hp
  exact ⟨h0, h1, h2.same rfl, h3.moved (u := U) (U := U.calling g mk a) (Vm.Alike.refl U.vm), h4, h5⟩
theorem pre_of {G : GT} {Γ : CT} {y : MethodName} {cc : ByteArray} {nL : Nat} {rt : Option FieldType} (C : Cx G Γ y cc nL rt) {h : HP} {H : Heap} {locs : List Loc} (hR : Rl G h H) (hS : va_S G.A Γ.s.heap H locs) (U : State) (hU : U.heap = H) (hW : Γ.s.WarmedH U.vm) : PreU G h U := by
  obtain ⟨-, -, -, -, -, -, -, -, c1, c2, c3, c4⟩ := C
  refine ⟨by rw [hU]; exact hR, c1.warm hW, (c2.moved hW.alike).kept (fun a h1 h2 => ?_), fun q hq => c3 q ?_, c4⟩
  · rw [hU]; exact hS.2.1 a h1 h2
  · rw [hU] at hq
    exact Nat.le_trans hS.1 hq
/-- the locals at the entry -/
def lvE : Nat → List Value → List (Option Value)
  | n, [] => List.replicate n none
  | n, v :: vs => if v.category = 2 then some v :: none :: lvE (n - 2) vs else some v :: lvE (n - 1) vs
theorem lvE_at (vs : List Value) : ∀ (n i0 i : Nat) (v : Value), (lvE n vs)[i]? = some (some v) → (i0 + i, v) ∈ lv_args i0 vs := by
  induction vs with
  | nil =>
    intro n i0 i v h
    simp only [lvE] at h
    have := List.mem_of_getElem? h
    rw [List.mem_replicate] at this
    exact absurd this.2 (by simp)
  | cons w vs ih =>
    intro n i0 i v h
    simp only [lvE] at h
    simp only [lv_args]
    by_cases hc : w.category = 2
    · rw [if_pos hc] at h
      match i, h with
      | 0, h => cases h; exact List.mem_cons_self
      | 1, h => cases h
      | i + 2, h =>
        refine List.mem_cons_of_mem _ ?_
        have := ih (n - 2) (i0 + 2) i v h
        rw [show i0 + (i + 2) = i0 + 2 + i by omega]
        rw [hc]
        exact this
    · rw [if_neg hc] at h
      have hc1 : w.category = 1 := (lv_cat w).resolve_right hc
      match i, h with
      | 0, h => cases h; exact List.mem_cons_self
      | i + 1, h =>
        refine List.mem_cons_of_mem _ ?_
        have := ih (n - 1) (i0 + 1) i v h
        rw [show i0 + (i + 1) = i0 + 1 + i by omega]
        rw [hc1]
        exact this
theorem Con.of {G : GT} {lev mc ms : Nat} {y : MethodName} {cc : ByteArray} {nL : Nat} {rt : Option FieldType} {av : List Value} {h : HP} {post : Option Value → HP → Prop} {lv : List (Option Value)} (hy : plainName y.cls = true) (he : lvE nL av = lv) (hn : (lg_sl av).length ≤ nL)
    (body : ∀ Γ : CT, Cx G Γ y cc nL rt → Rm Γ lev mc ms → wX G Γ (qM G Γ post mc ms) 0 0 h 0 lv []) : Con G lev mc ms y cc nL rt av h post := by
  refine Met.ofW (cc := cc) (maxL := nL) (ret := rt) hy rfl ?_
  intro p e s m args below meth c s₁ B hml hv
  obtain ⟨rfl, h1, h2, h3, h4, h5⟩ := hv
  have hown : s.vm.findClass y.cls = some m.cls := findClass_of_methodNamed B.named
  have hts := atoms_spec (ws := Cond.code y cc nL rt :: WS) B.pre
  have hnm : meth.name = y.name := (name_of_methodNamed B.named B.method).1
  have hl := lv_entry av (n := nL) hn
  rw [lg_entry_eq]
  refine body (p, e, (headSpec (Cond.code y cc nL rt :: WS) (rmm lev mc ms)).room, s, m, av.toArray, below, meth, c) ⟨B.exec, B.bytes, hml, hown, fun w hw => hts w (List.mem_cons_of_mem _ hw), B.returns, B.notSynchronized, hnm, h2, h3, h4, h5⟩ ⟨Nat.le_refl _, Nat.le_refl _, Nat.le_refl _, Nat.le_refl _⟩ s.heap [] _ h1 va_S.rf ⟨hl.1.trans hml.symm, hl.2.1, fun i v hi => ?_⟩
  subst he
  have := lvE_at av nL 0 i v hi
  rw [Nat.zero_add] at this
  exact hl.2.2 (i, v) this
section CALLS
variable {G : GT} {Γ : CT} {y : MethodName} {cc : ByteArray} {nL : Nat} {rt : Option FieldType} {Q : State → Prop} {k n : Nat} {h : HP} {pc q : Nat} {lv : List (Option Value)} {st : List Value} {lev mc ms : Nat} {post : Option Value → HP → Prop}
/-! returns -/
theorem r_ret (C : Cx G Γ y cc nL rt) (d : decode cc pc = .ok (.return_, 1)) (hr : rt = none) (h1 : k ≤ mc) (h2 : n ≤ ms) (hp : post none h) : wX G Γ (qM G Γ post mc ms) k n h pc lv [] := by
  subst hr
  intro H locs ls a b c
  refine W.widen h1 h2 ?_
  exact W.vret C.1 C.2.1 C.2.2.2.2.2.1 (fun t ht hW => ⟨⟨none, h, rfl, hp, by rw [ht]; exact a⟩, b.F ht⟩) b.2.2 d C.2.2.2.2.2.2.1
theorem r_iret (C : Cx G Γ y cc nL rt) {v : Int32} (d : decode cc pc = .ok (.ireturn, 1)) (hr : rt = some .int) (h1 : k ≤ mc) (h2 : n ≤ ms) (hp : post (some (.int v)) h) : wX G Γ (qM G Γ post mc ms) k n h pc lv [.int v] := by
  subst hr
  intro H locs ls a b c
  refine W.widen h1 h2 ?_
  exact W.iret C.1 C.2.1 C.2.2.2.2.2.1 (fun t ht hW => ⟨⟨_, h, rfl, hp, by rw [ht]; exact a⟩, b.F ht⟩) b.2.2 d C.2.2.2.2.2.2.1
theorem r_zret (C : Cx G Γ y cc nL rt) {v : Int32} {ty : FieldType} (d : decode cc pc = .ok (.ireturn, 1)) (hr : rt = some ty) (hn : narrow ty (.int v) = .int v) (h1 : k ≤ mc) (h2 : n ≤ ms) (hp : post (some (.int v)) h) : wX G Γ (qM G Γ post mc ms) k n h pc lv [.int v] := by
  subst hr
  intro H locs ls a b c
  refine W.widen h1 h2 ?_
  exact W.zret C.1 C.2.1 C.2.2.2.2.2.1 hn (fun t ht hW => ⟨⟨_, h, rfl, hp, by rw [ht]; exact a⟩, b.F ht⟩) b.2.2 d C.2.2.2.2.2.2.1
theorem r_aret (C : Cx G Γ y cc nL rt) {v : Nat} {cn : String} (d : decode cc pc = .ok (.areturn, 1)) (hr : rt = some (.object cn)) (h1 : k ≤ mc) (h2 : n ≤ ms) (hp : post (some (rv v)) h) : wX G Γ (qM G Γ post mc ms) k n h pc lv [rv v] := by
  subst hr
  intro H locs ls a b c
  refine W.widen h1 h2 ?_
  exact W.aret C.1 C.2.1 C.2.2.2.2.2.1 (Or.inl ⟨_, rfl⟩) (rv_or v) (fun t ht hW => ⟨⟨_, h, rfl, hp, by rw [ht]; exact a⟩, b.F ht⟩) b.2.2 d C.2.2.2.2.2.2.1
/-! calls -/
theorem wX_run {st0 : List Value} {av : Array Value} {mc' ms' : Nat} (hq : pc + 3 = q) (hr : ∀ (H : Heap) (locs : List Loc) (ls : Array Slot), Rl G h H → va_S G.A Γ.s.heap H locs → lvh Γ.c.maxLocals ls lv → va_Run Γ.p G.l Γ.e Γ.R Γ.s Γ.m Γ.args Γ.below Γ.meth Γ.c H locs k n mc' ms' (F0 Γ.m pc ls st0) st (QC G post av) G.A)
    (kk : ∀ v h', post v h' → wX G Γ Q (k + mc') (n + ms') h' q lv (v.toList ++ st)) : wX G Γ Q k n h pc lv st0 := by
  subst hq
  intro H locs ls a b c T hT X
  obtain ⟨v, st₀, t, T', L, h0, X', hL, e1, e2, ⟨⟨v', h', hv, hp, hR⟩, hz, hk⟩, st⟩ := hr H locs ls a b c T hT X
  cases hv
  rw [h0] at hz hk
  obtain ⟨t2, a1, b1⟩ := kk v h' hp T'.heap (locs ++ L) ls (by rw [e1]; exact hR) ⟨Nat.le_trans b.1 (by rw [e1]; exact hz), fun q h1 h2 => by rw [e1, hk q (Nat.lt_of_lt_of_le h1 b.1) h2]; exact b.2.1 q h1 h2, fun q hq => by
      rcases List.mem_append.mp hq with h | h
      · exact b.2.2 q h
      · exact hL q h⟩ c T' rfl X'
  exact ⟨t2, st t2 a1, b1⟩
theorem rm_ok {lev' mc' ms' nL' : Nat} (R : Rm Γ lev mc ms) (hl : lev' < lev) (hn : nL' ≤ 45) : (rmm lev' mc' ms').frames + 1 ≤ Γ.R.frames ∧ 8 + (nL' + 11) + (rmm lev' mc' ms').locals ≤ Γ.R.locals := by
  obtain ⟨r1, r2, r3, r4⟩ := R
  constructor
  · show lev' + 1 ≤ _
    omega
  · show 8 + (nL' + 11) + 64 * lev' ≤ _
    omega
/-- what a call takes of the tables: the callee's name, its parameters -/
def okCall (y' : MethodName) (np : Nat) : Bool := decide (y'.cls ≠ "java/lang/invoke/MethodHandle") && decide (y'.cls ≠ "java/lang/invoke/VarHandle") && decide ((parseMethodDescriptor y'.desc).map (fun d => d.parameters.length) = some np)
theorem okCall_spec {y' : MethodName} {np : Nat} (h : okCall y' np = true) : y'.cls ≠ "java/lang/invoke/MethodHandle" ∧ y'.cls ≠ "java/lang/invoke/VarHandle" ∧ (parseMethodDescriptor y'.desc).map (fun d => d.parameters.length) = some np := by
  simp only [okCall, Bool.and_eq_true, decide_eq_true_eq] at h
  exact ⟨h.1.1, h.1.2, h.2⟩
theorem r_callV {lev' mc' ms' nL' np ci i b : Nat} {y' : MethodName} {cc' : ByteArray} {rt' : Option FieldType} {As : List Value} {T : u_T} {N : Nat} (C : Cx G Γ y cc nL rt) (R : Rm Γ lev mc ms) (hq : pc + 3 = q) (d : decode cc pc = .ok (.invokevirtual i, 3))
    (hw1 : Cond.methodLink y.cls i y' ∈ WS) (hw2 : Cond.instanceMethod y' ∈ WS) (hw3 : Cond.selects y'.cls y' y' ∈ WS) (hw4 : Cond.initialized y'.cls ∈ WS) (hw5 : Cond.code y' cc' nL' rt' ∈ WS) (hd : okCall y' np = true) (hcl : vwCl[ci]? = some (y'.cls, T, N)) (hnl : nL' ≤ 45)
    (hM : Con G lev' mc' ms' y' cc' nL' rt' (rv b :: As) h post) (hlev : lev' < lev) (hmc : k + mc' ≤ mc) (hms : n + ms' ≤ ms) (hn : As.length = np) (hst : (st.map fun v => v.category).sum ≤ 8) (hk : h.kd b = (0, ci))
    (kk : ∀ v h', post v h' → wX G Γ Q (k + mc') (n + ms') h' q lv (v.toList ++ st)) : wX G Γ Q k n h pc lv (As.reverse ++ rv b :: st) := by
  refine wX_run (av := (rv b :: As).toArray) hq (fun H locs ls aa bb cl => ?_) kk
  have h0 := Rl.ne0 aa C.2.2.2.2.2.2.2.2.2.2.2 hk (show (0 : Nat) ≠ 99 by decide)
  obtain ⟨la, q0, -, hP, -, h4, -⟩ := Rl.in aa hk (show (0 : Nat) ≠ 99 by decide)
  rw [kE_obj hk] at h4
  have hts := C.2.2.2.2.1
  have hM' : Met G.l y' (.code y' cc' nL' rt' :: WS) (rmm lev' mc' ms') (va_Pc (rv b :: As) (PreU G h)) (QC G post) mc' ms' G.A := hM
  rw [rv_ref h0] at hM' ⊢
  exact va_runV (As := As) (Ts := WS) ⟨C.1, C.2.1, C.2.2.1, C.2.2.2.1, hts⟩ hM' ⟨callB_of np hts (ws_code hw5) rfl rfl rfl (hts _ hw4) (hts _ hw1) (okCall_spec hd) (rm_ok R hlev hnl), hts _ hw2, hts _ hw3⟩
    ⟨pre_blind, va_recv C.2.2.2.2.2.2.2.2.1.1 hP hcl h4, fun U hU hW => ⟨rfl, pre_of C aa bb U hU hW⟩⟩ rfl hn (cl.1.trans C.2.2.1) rfl (lv_room hst) d ⟨Nat.le_trans hmc R.2.1, Nat.le_trans hms R.2.2.1⟩
theorem r_callS {lev' mc' ms' nL' np i : Nat} {y' : MethodName} {cc' : ByteArray} {rt' : Option FieldType} {As : List Value} (C : Cx G Γ y cc nL rt) (R : Rm Γ lev mc ms) (hq : pc + 3 = q) (d : decode cc pc = .ok (.invokestatic i, 3))
    (hw1 : Cond.methodLink y.cls i y' ∈ WS) (hw2 : Cond.static y' ∈ WS) (hw4 : Cond.initialized y'.cls ∈ WS) (hw5 : Cond.code y' cc' nL' rt' ∈ WS) (hd : okCall y' np = true) (hnl : nL' ≤ 45)
    (hM : Con G lev' mc' ms' y' cc' nL' rt' As h post) (hlev : lev' < lev) (hmc : k + mc' ≤ mc) (hms : n + ms' ≤ ms) (hn : As.length = np) (hst : (st.map fun v => v.category).sum ≤ 8)
    (kk : ∀ v h', post v h' → wX G Γ Q (k + mc') (n + ms') h' q lv (v.toList ++ st)) : wX G Γ Q k n h pc lv (As.reverse ++ st) := by
  refine wX_run (av := As.toArray) hq (fun H locs ls aa bb cl => ?_) kk
  have hts := C.2.2.2.2.1
  have hM' : Met G.l y' (.code y' cc' nL' rt' :: WS) (rmm lev' mc' ms') (va_Pc As (PreU G h)) (QC G post) mc' ms' G.A := hM
  exact va_runS (As := As) (Ts := WS) ⟨C.1, C.2.1, C.2.2.1, C.2.2.2.1, hts⟩ hM' ⟨callB_of np hts (ws_code hw5) rfl rfl rfl (hts _ hw4) (hts _ hw1) (okCall_spec hd) (rm_ok R hlev hnl), hts _ hw2⟩
    ⟨pre_blind, fun U hU hW => ⟨rfl, pre_of C aa bb U hU hW⟩⟩ rfl hn (cl.1.trans C.2.2.1) rfl (lv_room hst) d ⟨Nat.le_trans hmc R.2.1, Nat.le_trans hms R.2.2.1⟩
theorem r_callI {lev' mc' ms' nL' np i b : Nat} {y' : MethodName} {cc' : ByteArray} {As : List Value} (C : Cx G Γ y cc nL rt) (R : Rm Γ lev mc ms) (hq : pc + 3 = q) (d : decode cc pc = .ok (.invokespecial i, 3))
    (hw1 : Cond.methodLink y.cls i y' ∈ WS) (hw2 : Cond.instanceMethod y' ∈ WS) (hw4 : Cond.initialized y'.cls ∈ WS) (hw5 : Cond.code y' cc' nL' none ∈ WS) (hd : okCall y' np = true) (hnm : y'.name = "<init>") (hnl : nL' ≤ 45)
    (hM : Con G lev' mc' ms' y' cc' nL' none (rv b :: As) h post) (hlev : lev' < lev) (hmc : k + mc' ≤ mc) (hms : n + ms' ≤ ms) (hn : As.length = np) (hst : (st.map fun v => v.category).sum ≤ 8) {kd0 : Nat × Nat} (hk : h.kd b = kd0) (hk9 : kd0.1 ≠ 99)
    (kk : ∀ v h', post v h' → wX G Γ Q (k + mc') (n + ms') h' q lv (v.toList ++ st)) : wX G Γ Q k n h pc lv (As.reverse ++ rv b :: st) := by
  refine wX_run (av := (rv b :: As).toArray) hq (fun H locs ls aa bb cl => ?_) kk
  have h0 := Rl.ne0 aa C.2.2.2.2.2.2.2.2.2.2.2 hk hk9
  have hts := C.2.2.2.2.1
  have hM' : Met G.l y' (.code y' cc' nL' none :: WS) (rmm lev' mc' ms') (va_Pc (rv b :: As) (PreU G h)) (QC G post) mc' ms' G.A := hM
  rw [rv_ref h0] at hM' ⊢
  exact va_runI (As := As) (Ts := WS) ⟨C.1, C.2.1, C.2.2.1, C.2.2.2.1, hts⟩ hM' ⟨callB_of np hts (ws_code hw5) rfl rfl rfl (hts _ hw4) (hts _ hw1) (okCall_spec hd) (rm_ok R hlev hnl), hnm, hts _ hw2⟩
    ⟨pre_blind, fun U hU hW => ⟨rfl, pre_of C aa bb U hU hW⟩⟩ rfl hn (cl.1.trans C.2.2.1) rfl (lv_room hst) d ⟨Nat.le_trans hmc R.2.1, Nat.le_trans hms R.2.2.1⟩
theorem r_callIN {lev' mc' ms' nL' np i b : Nat} {y' : MethodName} {cc' : ByteArray} {As : List Value} {host : String} (C : Cx G Γ y cc nL rt) (R : Rm Γ lev mc ms) (hq : pc + 3 = q) (d : decode cc pc = .ok (.invokespecial i, 3))
    (hw1 : (y.cls, i, y', host) ∈ st_nest) (hw2 : Cond.instanceMethod y' ∈ WS) (hw4 : Cond.initialized y'.cls ∈ WS) (hw5 : Cond.code y' cc' nL' none ∈ WS) (hd : okCall y' np = true) (hnm : y'.name = "<init>") (hnl : nL' ≤ 45)
    (hM : Con G lev' mc' ms' y' cc' nL' none (rv b :: As) h post) (hlev : lev' < lev) (hmc : k + mc' ≤ mc) (hms : n + ms' ≤ ms) (hn : As.length = np) (hst : (st.map fun v => v.category).sum ≤ 8) {kd0 : Nat × Nat} (hk : h.kd b = kd0) (hk9 : kd0.1 ≠ 99)
    (kk : ∀ v h', post v h' → wX G Γ Q (k + mc') (n + ms') h' q lv (v.toList ++ st)) : wX G Γ Q k n h pc lv (As.reverse ++ rv b :: st) := by
  refine wX_run (av := (rv b :: As).toArray) hq (fun H locs ls aa bb cl => ?_) kk
  have h0 := Rl.ne0 aa C.2.2.2.2.2.2.2.2.2.2.2 hk hk9
  have hts := C.2.2.2.2.1
  have hM' : Met G.l y' (.code y' cc' nL' none :: WS) (rmm lev' mc' ms') (va_Pc (rv b :: As) (PreU G h)) (QC G post) mc' ms' G.A := hM
  rw [rv_ref h0] at hM' ⊢
  exact va_runIN (As := As) (Ts := WS) ⟨C.1, C.2.1, C.2.2.1, C.2.2.2.1, hts⟩ hM' ⟨va_cnB np hts (ws_code hw5) rfl rfl rfl (C.2.2.2.2.2.2.2.2.1.2.2.1 _ hw1) (hts _ hw4) (okCall_spec hd) (rm_ok R hlev hnl), hnm, hts _ hw2⟩
    ⟨pre_blind, fun U hU hW => ⟨rfl, pre_of C aa bb U hU hW⟩⟩ rfl hn (cl.1.trans C.2.2.1) rfl (lv_room hst) d ⟨Nat.le_trans hmc R.2.1, Nat.le_trans hms R.2.2.1⟩
theorem r_callSN {lev' mc' ms' nL' np i : Nat} {y' : MethodName} {cc' : ByteArray} {rt' : Option FieldType} {As : List Value} {host : String} (C : Cx G Γ y cc nL rt) (R : Rm Γ lev mc ms) (hq : pc + 3 = q) (d : decode cc pc = .ok (.invokestatic i, 3))
    (hw1 : (y.cls, i, y', host) ∈ st_nest) (hw2 : Cond.static y' ∈ WS) (hw4 : Cond.initialized y'.cls ∈ WS) (hw5 : Cond.code y' cc' nL' rt' ∈ WS) (hd : okCall y' np = true) (hnl : nL' ≤ 45)
    (hM : Con G lev' mc' ms' y' cc' nL' rt' As h post) (hlev : lev' < lev) (hmc : k + mc' ≤ mc) (hms : n + ms' ≤ ms) (hn : As.length = np) (hst : (st.map fun v => v.category).sum ≤ 8)
    (kk : ∀ v h', post v h' → wX G Γ Q (k + mc') (n + ms') h' q lv (v.toList ++ st)) : wX G Γ Q k n h pc lv (As.reverse ++ st) := by
  refine wX_run (av := As.toArray) hq (fun H locs ls aa bb cl => ?_) kk
  have hts := C.2.2.2.2.1
  have hM' : Met G.l y' (.code y' cc' nL' rt' :: WS) (rmm lev' mc' ms') (va_Pc As (PreU G h)) (QC G post) mc' ms' G.A := hM
  exact va_runSN (As := As) (Ts := WS) ⟨C.1, C.2.1, C.2.2.1, C.2.2.2.1, hts⟩ hM' ⟨va_cnB np hts (ws_code hw5) rfl rfl rfl (C.2.2.2.2.2.2.2.2.1.2.2.1 _ hw1) (hts _ hw4) (okCall_spec hd) (rm_ok R hlev hnl), hts _ hw2, trivial⟩
    ⟨pre_blind, fun U hU hW => ⟨rfl, pre_of C aa bb U hU hW⟩⟩ rfl hn (cl.1.trans C.2.2.1) rfl (lv_room hst) d ⟨Nat.le_trans hmc R.2.1, Nat.le_trans hms R.2.2.1⟩
/-! Object's constructor -/
theorem r_objInit (C : Cx G Γ y cc nL rt) (R : Rm Γ lev mc ms) {i b : Nat} (hq : pc + 3 = q) (d : decode cc pc = .ok (.invokespecial i, 3)) (hw1 : Cond.methodLink y.cls i Lib.objectInit ∈ WS) (hw2 : Cond.instanceMethod Lib.objectInit ∈ WS) (hw5 : Cond.code Lib.objectInit ⟨#[0xb1]⟩ 1 none ∈ WS) (hlev : 1 ≤ lev) (hst : (st.map fun v => v.category).sum ≤ 8) {kd0 : Nat × Nat} (hk : h.kd b = kd0) (hk9 : kd0.1 ≠ 99)
    (kk : wX G Γ Q k n h q lv st) : wX G Γ Q k n h pc lv (rv b :: st) := by
  subst hq
  intro H locs ls aa bb cl
  have h0 := Rl.ne0 aa C.2.2.2.2.2.2.2.2.2.2.2 hk hk9
  have hts := C.2.2.2.2.1
  obtain ⟨r1, r2, r3, r4⟩ := R
  rw [rv_ref h0]
  exact W.objInit C.1 C.2.1 C.2.2.2.1 (hts _ hw1) (hts _ hw2) (hts _ hw5) rfl cl.1 rfl d (by omega) (by have := lv_room (m := Γ.m) (pc := pc) (ls := ls) (rest := Value.ref b :: st) hst; omega) (kk H locs ls aa bb cl)
/-! new cells -/
theorem kE_new_ne {ca : Nat → ClassId} {h : HP} {a b : Nat} {kd0 : Nat × Nat} {lb : Nat} (hb : b ≠ a) : kE ca (h.new a kd0 lb) b = kE ca h b := kE_congr (if_neg hb) (fun g' => if_neg hb) (fun g' => if_neg hb) (funext fun j => if_neg hb) (funext fun j => if_neg hb) (funext fun j => if_neg hb)
theorem kd_new {h : HP} {a : Nat} {kd0 : Nat × Nat} {lb : Nat} : (h.new a kd0 lb).kd a = kd0 := if_pos rfl
theorem fi_new {h : HP} {a g : Nat} {kd0 : Nat × Nat} {lb : Nat} : (h.new a kd0 lb).fi g a = 0 := if_pos rfl
theorem fr_new {h : HP} {a g : Nat} {kd0 : Nat × Nat} {lb : Nat} : (h.new a kd0 lb).fr g a = 0 := if_pos rfl
theorem ai_new {h : HP} {a : Nat} {kd0 : Nat × Nat} {lb : Nat} : (h.new a kd0 lb).ai a = fun _ => 0 := funext fun _ => if_pos rfl
theorem al_new {h : HP} {a : Nat} {kd0 : Nat × Nat} {lb : Nat} : (h.new a kd0 lb).al a = fun _ => 0 := funext fun _ => if_pos rfl
theorem ar_new {h : HP} {a : Nat} {kd0 : Nat × Nat} {lb : Nat} : (h.new a kd0 lb).ar a = fun _ => 0 := funext fun _ => if_pos rfl
def fv0 (q : Bool × Nat) : Value := match q.1 with
  | true => .null
  | false => .int 0
theorem fv_new {h : HP} {a : Nat} {kd0 : Nat × Nat} {lb : Nat} : fv (h.new a kd0 lb) a = fv0 := by
  funext q
  unfold fv fv0
  rw [fi_new, fr_new]
  rfl
theorem r_new (C : Cx G Γ y cc nL rt) (R : Rm Γ lev mc ms) (lb c : Nat) {Cn : String} {T : u_T} {N i : Nat} (hq : pc + 3 = q) (d : decode cc pc = .ok (.new i, 3)) (hcl : vwCl[c]? = some (Cn, T, N)) (hin : ∀ w ∈ u_ws Cn T N, w ∈ WS) (ty0 : Nat → FieldType) (hty : ∀ k, k < N → parseFieldDescriptor (T k).2.2.1 = some (ty0 k)) (hw1 : Cond.classLink y.cls i Cn ∈ WS) (hw2 : Cond.instantiable Cn N ∈ WS) (hw3 : Cond.initialized Cn ∈ WS) (hfs : ∀ j, j < N → defaultValue (ty0 j) = vp_V ((ftab c).map fv0) j) (hmc : k + 1 ≤ mc) (hms : n + N ≤ ms)
    (kk : ∀ a, (h.kd a).1 = 99 → wX G Γ Q (k + 1) (n + N) (h.new a (0, c) lb) q lv (rv a :: st)) : wX G Γ Q k n h pc lv st := by
  subst hq
  intro H locs ls aa bb cl
  have hts := C.2.2.2.2.1
  obtain ⟨la, h1, hP, hD⟩ := aa
  refine va_new (Ts := WS) C.1 C.2.1 hts hin ty0 hty C.2.2.2.1 (hts _ hw1) (hts _ hw2) (hts _ hw3) C.2.2.2.2.2.2.2.2.1.1 hP hD bb C.2.2.2.2.2.2.2.2.2.2.1 hcl hfs (Nat.le_trans hmc R.2.1) (Nat.le_trans hms R.2.2.1) d (fun a H1 hP1 hD1 hS1 => ?_)
  have e : (Sum.inr (c, (ftab c).map fv0) : va_E) = kE G.ca (h.new a (0, c) lb) a := by rw [kE_obj kd_new, fv_new]
  rw [e] at hP1 hD1
  obtain ⟨hR, h9⟩ := Rl.push h1 (show (0 : Nat) ≠ 99 by decide) kd_new (fun b hb => if_neg hb) (fun b hb => kE_new_ne hb) hP1 hD1
  have k1 := kk a h9 H1 locs ls hR hS1 cl
  rwa [rv_ref (Rl.ne0 hR C.2.2.2.2.2.2.2.2.2.2.2 kd_new (show (0 : Nat) ≠ 99 by decide))] at k1
theorem r_newaI (C : Cx G Γ y cc nL rt) (R : Rm Γ lev mc ms) (lb : Nat) {v : Int32} {z : Nat} (hq : pc + 2 = q) (d : decode cc pc = .ok (.newarray .int, 2)) (hw : Cond.arrayClass .int ∈ WS) (hv0 : ¬ v < 0) (hv : v.toNatClampNeg = z) (hz : z ≤ 60000000) (hmc : k + 1 ≤ mc) (hms : n + z ≤ ms)
    (kk : ∀ a, (h.kd a).1 = 99 → wX G Γ Q (k + 1) (n + z) (h.new a (9, z) lb) q lv (rv a :: st)) : wX G Γ Q k n h pc lv (.int v :: st) := by
  subst hq
  intro H locs ls aa bb cl
  have hts := C.2.2.2.2.1
  obtain ⟨la, h1, hP, hD⟩ := aa
  have hK := C.2.2.2.2.2.2.2.2.1.1
  refine va_newa (atype := .int) (ty := .int) (a0 := (z, .inl (fun _ => 0))) C.1 C.2.1 (hts _ hw) rfl hK hP hD bb C.2.2.2.2.2.2.2.2.2.2.1 (fun cA => rfl) hv0 hv (by show z * 4 ≤ _; omega) (Nat.le_trans hmc R.2.1) (Nat.le_trans hms R.2.2.1) d (fun a cA H1 hK1 hP1 hD1 hS1 => ?_)
  have ec : cA = G.ca 9 := by
    have e1 : va_RA Γ.s (G.ca 9) .int := (hK.2 1 _ rfl).2
    have e2 : va_RA Γ.s cA .int := (hK1.2 5 _ rfl).2
    have e1' : Γ.s.vm.findClass ("[" ++ (FieldType.toString .int)) = some (G.ca 9) := e1
    have e2' : Γ.s.vm.findClass ("[" ++ (FieldType.toString .int)) = some cA := e2
    exact Option.some.inj (e2'.symm.trans e1')
  have e : (Sum.inl (cA, z, Sum.inl (fun _ => 0)) : va_E) = kE G.ca (h.new a (9, z) lb) a := by rw [kE_i kd_new, ai_new, ec]
  rw [e] at hP1 hD1
  obtain ⟨hR, h9⟩ := Rl.push h1 (show (9 : Nat) ≠ 99 by decide) kd_new (fun b hb => if_neg hb) (fun b hb => kE_new_ne hb) hP1 hD1
  have k1 := kk a h9 H1 locs ls hR hS1 cl
  rwa [rv_ref (Rl.ne0 hR C.2.2.2.2.2.2.2.2.2.2.2 kd_new (show (9 : Nat) ≠ 99 by decide))] at k1
theorem r_newaZ (C : Cx G Γ y cc nL rt) (R : Rm Γ lev mc ms) (lb : Nat) {v : Int32} {z : Nat} (hq : pc + 2 = q) (d : decode cc pc = .ok (.newarray .boolean, 2)) (hw : Cond.arrayClass .boolean ∈ WS) (hv0 : ¬ v < 0) (hv : v.toNatClampNeg = z) (hz : z ≤ 60000000) (hmc : k + 1 ≤ mc) (hms : n + z ≤ ms)
    (kk : ∀ a, (h.kd a).1 = 99 → wX G Γ Q (k + 1) (n + z) (h.new a (11, z) lb) q lv (rv a :: st)) : wX G Γ Q k n h pc lv (.int v :: st) := by
  subst hq
  intro H locs ls aa bb cl
  have hts := C.2.2.2.2.1
  obtain ⟨la, h1, hP, hD⟩ := aa
  have hK := C.2.2.2.2.2.2.2.2.1.1
  refine va_newa (atype := .boolean) (ty := .boolean) (a0 := (z, .inl (fun _ => 0))) C.1 C.2.1 (hts _ hw) rfl hK hP hD bb C.2.2.2.2.2.2.2.2.2.2.1 (fun cA => rfl) hv0 hv (by show z * 1 ≤ _; omega) (Nat.le_trans hmc R.2.1) (Nat.le_trans hms R.2.2.1) d (fun a cA H1 hK1 hP1 hD1 hS1 => ?_)
  have ec : cA = G.ca 11 := by
    have e1 : va_RA Γ.s (G.ca 11) .boolean := (hK.2 3 _ rfl).2
    have e2 : va_RA Γ.s cA .boolean := (hK1.2 5 _ rfl).2
    have e1' : Γ.s.vm.findClass ("[" ++ (FieldType.toString .boolean)) = some (G.ca 11) := e1
    have e2' : Γ.s.vm.findClass ("[" ++ (FieldType.toString .boolean)) = some cA := e2
    exact Option.some.inj (e2'.symm.trans e1')
  have e : (Sum.inl (cA, z, Sum.inl (fun _ => 0)) : va_E) = kE G.ca (h.new a (11, z) lb) a := by rw [kE_z kd_new, ai_new, ec]
  rw [e] at hP1 hD1
  obtain ⟨hR, h9⟩ := Rl.push h1 (show (11 : Nat) ≠ 99 by decide) kd_new (fun b hb => if_neg hb) (fun b hb => kE_new_ne hb) hP1 hD1
  have k1 := kk a h9 H1 locs ls hR hS1 cl
  rwa [rv_ref (Rl.ne0 hR C.2.2.2.2.2.2.2.2.2.2.2 kd_new (show (11 : Nat) ≠ 99 by decide))] at k1
theorem r_newaB (C : Cx G Γ y cc nL rt) (R : Rm Γ lev mc ms) (lb : Nat) {v : Int32} {z : Nat} (hq : pc + 2 = q) (d : decode cc pc = .ok (.newarray .byte, 2)) (hw : Cond.arrayClass .byte ∈ WS) (hv0 : ¬ v < 0) (hv : v.toNatClampNeg = z) (hz : z ≤ 60000000) (hmc : k + 1 ≤ mc) (hms : n + z ≤ ms)
    (kk : ∀ a, (h.kd a).1 = 99 → wX G Γ Q (k + 1) (n + z) (h.new a (8, z) lb) q lv (rv a :: st)) : wX G Γ Q k n h pc lv (.int v :: st) := by
  subst hq
  intro H locs ls aa bb cl
  have hts := C.2.2.2.2.1
  obtain ⟨la, h1, hP, hD⟩ := aa
  have hK := C.2.2.2.2.2.2.2.2.1.1
  refine va_newa (atype := .byte) (ty := .byte) (a0 := (z, .inl (fun _ => 0))) C.1 C.2.1 (hts _ hw) rfl hK hP hD bb C.2.2.2.2.2.2.2.2.2.2.1 (fun cA => rfl) hv0 hv (by show z * 1 ≤ _; omega) (Nat.le_trans hmc R.2.1) (Nat.le_trans hms R.2.2.1) d (fun a cA H1 hK1 hP1 hD1 hS1 => ?_)
  have ec : cA = G.ca 8 := by
    have e1 : va_RA Γ.s (G.ca 8) .byte := (hK.2 0 _ rfl).2
    have e2 : va_RA Γ.s cA .byte := (hK1.2 5 _ rfl).2
    have e1' : Γ.s.vm.findClass ("[" ++ (FieldType.toString .byte)) = some (G.ca 8) := e1
    have e2' : Γ.s.vm.findClass ("[" ++ (FieldType.toString .byte)) = some cA := e2
    exact Option.some.inj (e2'.symm.trans e1')
  have e : (Sum.inl (cA, z, Sum.inl (fun _ => 0)) : va_E) = kE G.ca (h.new a (8, z) lb) a := by rw [kE_b kd_new, ai_new, ec]
  rw [e] at hP1 hD1
  obtain ⟨hR, h9⟩ := Rl.push h1 (show (8 : Nat) ≠ 99 by decide) kd_new (fun b hb => if_neg hb) (fun b hb => kE_new_ne hb) hP1 hD1
  have k1 := kk a h9 H1 locs ls hR hS1 cl
  rwa [rv_ref (Rl.ne0 hR C.2.2.2.2.2.2.2.2.2.2.2 kd_new (show (8 : Nat) ≠ 99 by decide))] at k1
theorem r_newaJ (C : Cx G Γ y cc nL rt) (R : Rm Γ lev mc ms) (lb : Nat) {v : Int32} {z : Nat} (hq : pc + 2 = q) (d : decode cc pc = .ok (.newarray .long, 2)) (hw : Cond.arrayClass .long ∈ WS) (hv0 : ¬ v < 0) (hv : v.toNatClampNeg = z) (hz : z ≤ 60000000) (hmc : k + 1 ≤ mc) (hms : n + z ≤ ms)
    (kk : ∀ a, (h.kd a).1 = 99 → wX G Γ Q (k + 1) (n + z) (h.new a (10, z) lb) q lv (rv a :: st)) : wX G Γ Q k n h pc lv (.int v :: st) := by
  subst hq
  intro H locs ls aa bb cl
  have hts := C.2.2.2.2.1
  obtain ⟨la, h1, hP, hD⟩ := aa
  have hK := C.2.2.2.2.2.2.2.2.1.1
  refine va_newa (atype := .long) (ty := .long) (a0 := (z, .inr (.inl (fun _ => 0)))) C.1 C.2.1 (hts _ hw) rfl hK hP hD bb C.2.2.2.2.2.2.2.2.2.2.1 (fun cA => rfl) hv0 hv (by show z * 8 ≤ _; omega) (Nat.le_trans hmc R.2.1) (Nat.le_trans hms R.2.2.1) d (fun a cA H1 hK1 hP1 hD1 hS1 => ?_)
  have ec : cA = G.ca 10 := by
    have e1 : va_RA Γ.s (G.ca 10) .long := (hK.2 2 _ rfl).2
    have e2 : va_RA Γ.s cA .long := (hK1.2 5 _ rfl).2
    have e1' : Γ.s.vm.findClass ("[" ++ (FieldType.toString .long)) = some (G.ca 10) := e1
    have e2' : Γ.s.vm.findClass ("[" ++ (FieldType.toString .long)) = some cA := e2
    exact Option.some.inj (e2'.symm.trans e1')
  have e : (Sum.inl (cA, z, Sum.inr (Sum.inl (fun _ => 0))) : va_E) = kE G.ca (h.new a (10, z) lb) a := by rw [kE_l kd_new, al_new, ec]
  rw [e] at hP1 hD1
  obtain ⟨hR, h9⟩ := Rl.push h1 (show (10 : Nat) ≠ 99 by decide) kd_new (fun b hb => if_neg hb) (fun b hb => kE_new_ne hb) hP1 hD1
  have k1 := kk a h9 H1 locs ls hR hS1 cl
  rwa [rv_ref (Rl.ne0 hR C.2.2.2.2.2.2.2.2.2.2.2 kd_new (show (10 : Nat) ≠ 99 by decide))] at k1
theorem r_newaR (C : Cx G Γ y cc nL rt) (R : Rm Γ lev mc ms) (lb : Nat) {v : Int32} {z i : Nat} (hq : pc + 3 = q) (d : decode cc pc = .ok (.anewarray i, 3)) (hw : Cond.classLink y.cls i RX3 ∈ WS) (hv0 : ¬ v < 0) (hv : v.toNatClampNeg = z) (hz : z ≤ 60000000) (hmc : k + 1 ≤ mc) (hms : n + z ≤ ms)
    (kk : ∀ a, (h.kd a).1 = 99 → wX G Γ Q (k + 1) (n + z) (h.new a (12, z) lb) q lv (rv a :: st)) : wX G Γ Q k n h pc lv (.int v :: st) := by
  subst hq
  intro H locs ls aa bb cl
  have hts := C.2.2.2.2.1
  obtain ⟨la, h1, hP, hD⟩ := aa
  have hK := C.2.2.2.2.2.2.2.2.1.1
  refine va_newq (C := RX3) C.1 C.2.1 C.2.2.2.1 (hts _ hw) C.2.2.2.2.2.2.2.2.1.2.1 hK hP hD bb C.2.2.2.2.2.2.2.2.2.2.1 hv0 hv (by omega) (Nat.le_trans hmc R.2.1) (Nat.le_trans hms R.2.2.1) d (fun a cA H1 hK1 hP1 hD1 hS1 => ?_)
  have ec : cA = G.ca 12 := by
    obtain ⟨-, -, -, -, -, e1⟩ : va_RA Γ.s (G.ca 12) (.object RX3) := (hK.2 4 _ rfl).2
    obtain ⟨-, -, -, -, -, e2⟩ : va_RA Γ.s cA (.object RX3) := (hK1.2 5 _ rfl).2
    exact Option.some.inj (e2.symm.trans e1)
  have e : (Sum.inl (cA, z, Sum.inr (Sum.inr (Sum.inr (Sum.inr (fun _ => none))))) : va_E) = kE G.ca (h.new a (12, z) lb) a := by rw [kE_r kd_new, ar_new, ec]; rfl
  rw [e] at hP1 hD1
  obtain ⟨hR, h9⟩ := Rl.push h1 (show (12 : Nat) ≠ 99 by decide) kd_new (fun b hb => if_neg hb) (fun b hb => kE_new_ne hb) hP1 hD1
  have k1 := kk a h9 H1 locs ls hR hS1 cl
  rwa [rv_ref (Rl.ne0 hR C.2.2.2.2.2.2.2.2.2.2.2 kd_new (show (12 : Nat) ≠ 99 by decide))] at k1
end CALLS
