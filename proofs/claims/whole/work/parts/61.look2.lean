/-! ===== the law's look: try and catch ===== -/
theorem mt_ofWH {l : Launch} {y : MethodName} {ws ws' : List Cond} {rm : Room} {Pc : Array Value → State → Prop} {Qc : Array Value → State → Outcome → State → Prop} {mc ms : Nat} {free : Addr → Prop} {cc : ByteArray} {maxL : Nat} {ret : Option FieldType} {hh : List (Nat × Nat × Nat × Nat)}
    (hy : plainName y.cls = true) (hw : ws = Cond.codeWith y cc maxL ret hh :: ws')
    (body : ∀ p e s m args below meth c s₁, BodyLoose p l y (headSpec ws rm) cc maxL ret e s m args below meth c s₁ → c.maxLocals = maxL → Pc args s →
      W p l e (headSpec ws rm).room s m args below meth c s.heap [] 0 0 (MQ below Qc args s mc ms free) (entryFrame m args maxL)) : Met l y ws rm Pc Qc mc ms free := by
  refine MetFree.of_bodyS (code := cc) (maxLocals := maxL) (ret := ret) hy ?_ ?_
  · intro args s m h hn
    obtain ⟨m9, meth, c, hn9, h1, h2, h3, h4, -, h5, h6, -⟩ := Cond.codeWith_spec (atoms_spec (ws := ws) h _ (by rw [hw]; exact List.mem_cons_self))
    cases hn.symm.trans hn9
    exact ⟨meth, c, h1, h2, h3, h4, h5, h6⟩
  · intro p e s m args below meth c s₁ B hml hP _
    have hh0 : s₁.heap = s.heap := by rw [B.state]; rfl
    obtain ⟨t, a1, o, b1, b2, b3⟩ := body p e s m args below meth c s₁ B hml hP s₁ hh0 (Stand.of_body B)
    exact ⟨t, o, a1, b1, b2, b3⟩
abbrev lkT : List (Nat × Nat × Nat × Nat) := [(0, 10, 13, 13)]
abbrev lkW : Cond := Cond.codeWith yL_look cL_look 5 (some .int) lkT
theorem lk_w0 : lkW ∈ WS := List.mem_filter.mpr ⟨List.mem_of_getElem? (i := 771) (by decide +kernel), by decide +kernel⟩
theorem lk_w1 : Cond.methodLink RL 107 yL_look ∈ WS := List.mem_filter.mpr ⟨List.mem_of_getElem? (i := 769) (by decide +kernel), by decide +kernel⟩
theorem lk_w2 : Cond.static yL_look ∈ WS := List.mem_filter.mpr ⟨List.mem_of_getElem? (i := 770) (by decide +kernel), by decide +kernel⟩
theorem lk_w3 : Cond.classLink RL 13 nseN ∈ WS := List.mem_filter.mpr ⟨List.mem_of_getElem? (i := 772) (by decide +kernel), by decide +kernel⟩
theorem lk_w4 : Cond.methodLink RL 7 yX6_look ∈ WS := List.mem_filter.mpr ⟨List.mem_of_getElem? (i := 773) (by decide +kernel), by decide +kernel⟩
theorem lk_w5 : Cond.instanceMethod yX6_look ∈ WS := List.mem_filter.mpr ⟨List.mem_of_getElem? (i := 774) (by decide +kernel), by decide +kernel⟩
theorem lk_w6 : Cond.selects yX6_look.cls yX6_look yX6_look ∈ WS := List.mem_filter.mpr ⟨List.mem_of_getElem? (i := 775) (by decide +kernel), by decide +kernel⟩
theorem lk_w7 : Cond.code yX6_look cX6_look 4 (some .int) ∈ WS := List.mem_filter.mpr ⟨List.mem_of_getElem? (i := 776) (by decide +kernel), by decide +kernel⟩
theorem lk_w8 : Cond.initialized yX6_look.cls ∈ WS := List.mem_filter.mpr ⟨List.mem_of_getElem? (i := 75) (by decide +kernel), by decide +kernel⟩
theorem lk_w9 : Cond.initialized yL_look.cls ∈ WS := List.mem_filter.mpr ⟨List.mem_of_getElem? (i := 74) (by decide +kernel), by decide +kernel⟩
def lkA (σ : SG) (o : Nat) (h : HP) (x w : Int32) (v : Int32) (h' : HP) : Prop := (lkP σ x w → 0 = v ∧ h.rowL o (vp_updL (h.al o) 0 (lookV σ x.toNatClampNeg w).toInt64) = h') ∧ (¬ lkP σ x w → 1 = v ∧ h = h')
theorem stL_rowL {h : HP} {a i : Nat} {v : Int64} : h.stL a i v = h.rowL a (vp_updL (h.al a) i v) := by
  unfold HP.stL HP.rowL
  congr 1
  funext b j
  unfold up2 vp_updL
  by_cases e : b = a
  · subst e
    rw [if_pos rfl]
    by_cases e2 : j = i
    · rw [if_pos ⟨rfl, e2⟩, if_pos e2]
    · rw [if_neg (fun z => e2 z.2), if_neg e2]
  · rw [if_neg e, if_neg (fun z => e z.1)]
theorem lk_body {G : GT} {Γ : CT} {h : HP} {g o : Nat} {σ : SG} {p : Nat → Nat} {L : List Nat} {x w : Int32} (C : Cx G Γ yL_look cL_look 5 (some .int)) (R : Rm Γ 13 2 40) (hT : Γ.c.exceptionTable.toList = tableOf lkT) (hl : G.l.stackTraces = false) (hL : LCl h.kd h.gl h.fr h.ar g σ.n p L) (R0 : CRr σ h.fi h.fr g p) (W0 : WF σ) (hg : h.kd g = (0, 6)) (ho : h.kd o = (10, 1)) :
    wX G Γ (qM G Γ (PI (lkA σ o h x w)) 2 40) 0 0 h 0 [some (rv g), some (.int x), some (.int w), some (rv o), none] [] := by
  refine r_aload_n (q := 1) (z := 3) C 3 rfl (by decide +kernel) rfl rfl ?_
  refine r_iconst (q := 2) (z := 0) (v := 0) C rfl (by decide +kernel) (by decide) ?_
  refine r_aload_n (q := 3) (z := 0) C 0 rfl (by decide +kernel) rfl rfl ?_
  refine r_iload_n (q := 4) (z := 1) C 1 rfl (by decide +kernel) rfl rfl ?_
  refine r_iload_n (q := 5) (z := 2) C 2 rfl (by decide +kernel) rfl rfl ?_
  have kk : ∀ v : Int32, (lkP σ x w ∧ lookV σ x.toNatClampNeg w = v) → wX G Γ (qM G Γ (PI (lkA σ o h x w)) 2 40) (0 + 1) (0 + 6) h 8 [some (rv g), some (.int x), some (.int w), some (rv o), none] [.int v, .int 0, rv o] := by
    rintro v ⟨hP, rfl⟩
    refine r_i2l (q := 9) C rfl (by decide +kernel) ?_
    refine r_last (q := 10) C rfl (by decide +kernel) ho (show vp_in (nI 0) 1 from vp_in_nI (by decide) (by decide)) ?_
    refine r_goto (off := 7) (tgt := 17) C (by decide +kernel) (by decide) ?_
    refine r_iconst (q := 18) (z := 0) (v := 0) C rfl (by decide +kernel) (by decide) ?_
    refine r_iret C (by decide +kernel) rfl (by omega) (by omega) ⟨0, rfl, fun _ => ⟨rfl, ?_⟩, fun z => absurd hP z⟩
    exact stL_rowL.symm
  have kx : ∀ a : Nat, ¬ lkP σ x w → wX G Γ (qM G Γ (PI (lkA σ o h x w)) 2 40) (0 + 1) (0 + 6) h 13 [some (rv g), some (.int x), some (.int w), some (rv o), none] [.ref a] := by
    intro a hP
    intro H locs ls aa bb cl
    refine lv_astore C.1 C.2.1 (show decode cL_look 13 = .ok (.astore 4, 2) by decide +kernel) (lvh_has cl) (by rw [C.2.2.1]; decide) rfl (fun ls' h' => ?_)
    refine (?_ : wX G Γ (qM G Γ (PI (lkA σ o h x w)) 2 40) (0 + 1) (0 + 6) h 15 [some (rv g), some (.int x), some (.int w), some (rv o), some (.ref a)] []) H locs ls' aa bb (lvh_of1 (nL := Γ.c.maxLocals) (lv := [some (rv g), some (.int x), some (.int w), some (rv o), none]) (i := 4) (v := .ref a) (okst_rv rfl) h')
    refine r_iconst (q := 16) (z := 1) (v := 1) C rfl (by decide +kernel) (by decide) ?_
    exact r_iret C (by decide +kernel) rfl (by omega) (by omega) ⟨1, rfl, fun z => absurd z hP, fun _ => ⟨rfl, rfl⟩⟩
  intro H locs ls aa bb cl T hTT X
  have hts := C.2.2.2.2.1
  have h0 := Rl.ne0 aa C.2.2.2.2.2.2.2.2.2.2.2 hg (show (0 : Nat) ≠ 99 by decide)
  obtain ⟨la, q0, -, hP, -, h4, -⟩ := Rl.in aa hg (show (0 : Nat) ≠ 99 by decide)
  rw [kE_obj hg] at h4
  have hM := vc_look (x := x) (w := w) hl hL R0 W0
  rw [rv_ref h0] at hM
  have hr : vx_Run Γ.p G.l Γ.e Γ.R Γ.s Γ.m Γ.args Γ.below Γ.meth Γ.c H locs 0 0 1 6 (F0 Γ.m 5 ls [.int w, .int x, .ref g, .int 0, rv o]) [.int 0, rv o] (QC G (PI (fun v h' => (lkP σ x w ∧ lookV σ x.toNatClampNeg w = v) ∧ h = h')) (Value.ref g :: [.int x, .int w]).toArray) (fun E st t => E = nseN ∧ ¬ lkP σ x w ∧ Rl G h t.heap ∧ va_F G.A st t) G.A := vx_runV (As := [.int x, .int w]) (rest := [.int 0, rv o]) (Ts := WS) (g := F0 Γ.m 5 ls [.int w, .int x, .ref g, .int 0, rv o]) ⟨C.1, C.2.1, C.2.2.1, C.2.2.2.1, hts⟩ hM ⟨callB_of 2 hts (ws_code lk_w7) rfl rfl rfl (hts _ lk_w8) (hts _ lk_w4) (okCall_spec (by decide +kernel)) (rm_ok R (by decide) (by decide)), hts _ lk_w5, hts _ lk_w6⟩
    ⟨pre_blind, va_recv C.2.2.2.2.2.2.2.2.1.1 hP (ci := 6) rfl h4, fun U hU hW => ⟨rfl, pre_of C aa bb U hU hW⟩⟩ rfl rfl (cl.1.trans C.2.2.1) rfl (lv_room (by simp only [List.map_cons, List.map_nil, List.sum_cons, List.sum_nil, rv_cat]; exact Nat.le_of_ble_eq_true rfl)) (show decode cL_look 5 = .ok (.invokevirtual 7, 3) by decide +kernel) ⟨Nat.le_trans (by decide) R.2.1, Nat.le_trans (by decide) R.2.2.1⟩
  rw [rv_ref h0]
  rcases hr T hTT X with ⟨v, st₀, t, T', Ls, e0, X', hLs, e1, e2, ⟨⟨v', h', hv, hp, hR⟩, hz, hk⟩, stp⟩ | ⟨a, st₀, t, T', Ls, E, ce, e0, X', hLs, e1, e2, ⟨hE, hnP, hR, hz, hk⟩, hce, hcv, hcl, stp⟩
  · cases hv
    obtain ⟨r, rfl, hp1, rfl⟩ := hp
    rw [e0] at hz hk
    obtain ⟨t2, a1, b1⟩ := kk r hp1 T'.heap (locs ++ Ls) ls (by rw [e1]; exact hR) ⟨Nat.le_trans bb.1 (by rw [e1]; exact hz), fun q h1 h2 => by rw [e1, hk q (Nat.lt_of_lt_of_le h1 bb.1) h2]; exact bb.2.1 q h1 h2, fun q hq => by
      rcases List.mem_append.mp hq with h | h
      · exact bb.2.2 q h
      · exact hLs q h⟩ cl T' rfl X'
    exact ⟨t2, stp t2 a1, b1⟩
  · subst hE
    rw [e0] at hz hk
    have hw := vx_catch (own := RL) (name := nseN) (E := nseN) (ce := ce) (q := a) (pc := 5) (ls := ls) (rest := [.int 0, rv o]) (H := T'.heap) (locs := locs ++ Ls) (Q := qM G Γ (PI (lkA σ o h x w)) 2 40) (l := G.l) (e := Γ.e) (R := Γ.R) (cells := 0 + 1) (slots := 0 + 6) C.2.2.2.1 [] ⟨0, 10, 13, 13⟩ [] hT (fun z hz => nomatch hz) (by decide) (by decide) (hts _ lk_w3) (cast_self (hts _ nse_w2)) (by rw [e1]; exact hce) hcv hcl
      (kx a hnP T'.heap (locs ++ Ls) ls (by rw [e1]; exact hR) ⟨Nat.le_trans bb.1 (by rw [e1]; exact hz), fun q h1 h2 => by rw [e1, hk q (Nat.lt_of_lt_of_le h1 bb.1) h2]; exact bb.2.1 q h1 h2, fun q hq => by
        rcases List.mem_append.mp hq with h | h
        · exact bb.2.2 q h
        · exact hLs q h⟩ cl)
    obtain ⟨t2, a1, b1⟩ := hw T' rfl X'
    exact ⟨t2, stp.trans a1, b1⟩
theorem mt_look {G : GT} {h : HP} {g o : Nat} {σ : SG} {p : Nat → Nat} {L : List Nat} {x w : Int32} (hl : G.l.stackTraces = false) (hL : LCl h.kd h.gl h.fr h.ar g σ.n p L) (R0 : CRr σ h.fi h.fr g p) (W0 : WF σ) (hg : h.kd g = (0, 6)) (ho : h.kd o = (10, 1)) :
    Met G.l yL_look (lkW :: WS) (rmm 13 2 40) (va_Pc [rv g, .int x, .int w, rv o] (PreU G h)) (QC G (PI (lkA σ o h x w))) 2 40 G.A := by
  refine mt_ofWH (cc := cL_look) (maxL := 5) (ret := some .int) (hh := lkT) (ws' := WS) (by decide) rfl ?_
  intro p e s m args below meth c s₁ B hml hv
  obtain ⟨rfl, h1, h2, h3, h4, h5⟩ := hv
  have hown : s.vm.findClass yL_look.cls = some m.cls := findClass_of_methodNamed B.named
  have hts := atoms_spec (ws := lkW :: WS) B.pre
  have hnm : meth.name = yL_look.name := (name_of_methodNamed B.named B.method).1
  have hlv := lv_entry [rv g, .int x, .int w, rv o] (n := 5) (by simp only [lgl_r, lgl_i, lgl_l, lgl_s, lgl_0]; decide)
  have hT : c.exceptionTable.toList = tableOf lkT := vx_table (x := yL_look) B (hts _ List.mem_cons_self)
  rw [lg_entry_eq]
  refine lk_body (Γ := (p, e, (headSpec (lkW :: WS) (rmm 13 2 40)).room, s, m, [rv g, .int x, .int w, rv o].toArray, below, meth, c)) ⟨B.exec, B.bytes, hml, hown, fun w hw => hts w (List.mem_cons_of_mem _ hw), B.returns, B.notSynchronized, hnm, h2, h3, h4, h5⟩ ⟨Nat.le_refl _, Nat.le_refl _, Nat.le_refl _, Nat.le_refl _⟩ hT hl hL R0 W0 hg ho s.heap [] _ h1 va_S.rf ⟨hlv.1.trans hml.symm, hlv.2.1, fun i v hi => ?_⟩
  have he : lvE 5 [rv g, .int x, .int w, rv o] = [some (rv g), some (.int x), some (.int w), some (rv o), none] := by simp only [lvE_r, lvE_i, lvE_l, lvE_s, lvE_0]; rfl
  rw [← he] at hi
  have := lvE_at [rv g, .int x, .int w, rv o] 5 0 i v hi
  rw [Nat.zero_add] at this
  exact hlv.2.2 (i, v) this
/-- the call of look in the law -/
theorem law_look {G : GT} {Γ : CT} {Q : State → Prop} {nm ds : String} {k n : Nat} {h : HP} {lv : List (Option Value)} {g o : Nat} {σ : SG} {p : Nat → Nat} {L : List Nat} {x w : Int32} (C : Cx G Γ ⟨RL, nm, ds⟩ cL_law 7 (some .boolean)) (R : Rm Γ 30 601024 7293034) (hl : G.l.stackTraces = false) (hL : LCl h.kd h.gl h.fr h.ar g σ.n p L) (R0 : CRr σ h.fi h.fr g p) (W0 : WF σ) (hg : h.kd g = (0, 6)) (ho : h.kd o = (10, 1)) (hk : k + 2 ≤ 601024) (hn : n + 40 ≤ 7293034)
    (kk : ∀ v h', lkA σ o h x w v h' → wX G Γ Q (k + 2) (n + 40) h' 962 lv (.int v :: [])) : wX G Γ Q k n h 959 lv (rv o :: .int w :: .int x :: rv g :: []) := by
  refine wX_run (st := []) (post := PI (lkA σ o h x w)) (av := [rv g, .int x, .int w, rv o].toArray) (mc' := 2) (ms' := 40) (q := 962) rfl (fun H locs ls aa bb cl => ?_) (fun v h' hp => by obtain ⟨r, rfl, hp⟩ := hp; exact kk r h' hp)
  have hts := C.2.2.2.2.1
  have hG : GoodIn WS (lkW :: WS) := fun w hw => by
    rcases List.mem_cons.mp hw with rfl | hw
    · exact WS_good _ lk_w0
    · exact WS_good _ hw
  have hT : GoodIn WS (va_wsS RL 107 yL_look (lkW :: WS)) := fun w hw => by
    simp only [va_wsS, List.mem_append, List.mem_cons, List.not_mem_nil, or_false] at hw
    rcases hw with hw | hw
    · rcases hw with rfl | rfl | rfl
      all_goals first | exact WS_good _ lk_w1 | exact WS_good _ lk_w2 | exact WS_good _ lk_w9
    · rcases hw with rfl | hw
      · exact WS_good _ lk_w0
      · exact WS_good _ hw
  exact vx_runSW (As := [rv g, .int x, .int w, rv o]) (Ts := WS) (own := RL) ⟨C.1, C.2.1, C.2.2.1, C.2.2.2.1, hts⟩ (mt_look hl hL R0 W0 hg ho) (vx_cwSW (ws' := WS) 4 hts hT rfl rfl rfl (okCall_spec (by decide +kernel)) (rm_ok R (by decide) (by decide)))
    ⟨pre_blind, fun U hU hW => ⟨rfl, pre_of C aa bb U hU hW⟩⟩ rfl rfl (cl.1.trans C.2.2.1) rfl (lv_room (by decide)) (show decode cL_law 959 = .ok (.invokestatic 107, 3) by decide +kernel) ⟨Nat.le_trans hk R.2.1, Nat.le_trans hn R.2.2.1⟩

