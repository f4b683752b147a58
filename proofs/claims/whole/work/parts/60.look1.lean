/-! ===== look, where it throws ===== -/
abbrev nseN : String := "java/util/NoSuchElementException"
abbrev nseC : List String := ["java/lang/RuntimeException", "java/lang/Exception"]
abbrev nseB : ByteArray := prog_19_method_4_code
theorem nse_in : ∀ w ∈ ((Bundle.ownAtomsX RX6 218 nseN 13 nseB nseC).filter vx_no).filter goodWord, w ∈ lw_tbl := by decide +kernel
theorem nse_ng : ∀ w ∈ ((Bundle.ownAtomsX RX6 218 nseN 13 nseB nseC).filter vx_no).filter (fun w => !goodWord w), w ∈ [Cond.castable nseN nseN, Cond.declares (Bundle.initS "java/lang/RuntimeException"), Cond.declares (Bundle.initS "java/lang/Exception"), Cond.declares (Bundle.initS "java/lang/Throwable")] := by decide +kernel
theorem asg_self (vm : Vm) (c : ClassId) : vm.assignable c c = true := by
  unfold Vm.assignable Vm.assignableAux
  simp
theorem cast_self {args : Array Value} {s : State} {E : String} (h : (Cond.initialized E).before args s = true) : (Cond.castable E E).before args s = true := by
  cases hc : s.vm.findClass E with
  | none => simp [Cond.before, Cond.holds, Cond.value, hc] at h
  | some c => simp [Cond.before, Cond.holds, Cond.value, hc, asg_self]
theorem decl_of {args : Array Value} {s : State} {x : MethodName} {b : ByteArray} {n : Nat} {r : Option FieldType} (h1 : (Cond.instanceMethod x).before args s = true) (h2 : (Cond.code x b n r).before args s = true) : (Cond.declares x).before args s = true := by
  obtain ⟨m, meth, e1, e2, e3, _⟩ := Cond.instanceMethod_spec h1
  obtain ⟨meth', c, f1, _, _, _, _, _, _, f2⟩ := Cond.code_spec e1 h2
  cases e2.symm.trans f1
  simp [Cond.before, Cond.holds, Cond.value, e1, e2, e3, f2]
theorem nse_d1 : Cond.instanceMethod (Bundle.initS "java/lang/RuntimeException") ∈ WS ∧ Cond.code (Bundle.initS "java/lang/RuntimeException") prog_13_method_2_code 2 none ∈ WS := ⟨List.mem_filter.mpr ⟨List.mem_of_getElem? (i := 821) (by decide +kernel), by decide +kernel⟩, List.mem_filter.mpr ⟨List.mem_of_getElem? (i := 822) (by decide +kernel), by decide +kernel⟩⟩
theorem nse_d2 : Cond.instanceMethod (Bundle.initS "java/lang/Exception") ∈ WS ∧ Cond.code (Bundle.initS "java/lang/Exception") prog_10_method_2_code 2 none ∈ WS := ⟨List.mem_filter.mpr ⟨List.mem_of_getElem? (i := 824) (by decide +kernel), by decide +kernel⟩, List.mem_filter.mpr ⟨List.mem_of_getElem? (i := 825) (by decide +kernel), by decide +kernel⟩⟩
theorem nse_d3 : Cond.instanceMethod (Bundle.initS "java/lang/Throwable") ∈ WS ∧ Cond.code (Bundle.initS "java/lang/Throwable") prog_17_method_2_code 2 none ∈ WS := ⟨List.mem_filter.mpr ⟨List.mem_of_getElem? (i := 827) (by decide +kernel), by decide +kernel⟩, List.mem_filter.mpr ⟨List.mem_of_getElem? (i := 828) (by decide +kernel), by decide +kernel⟩⟩
theorem nse_w1 : Cond.classLink RX6 214 nseN ∈ WS := List.mem_filter.mpr ⟨List.mem_of_getElem? (i := 777) (by decide +kernel), by decide +kernel⟩
theorem nse_w2 : Cond.initialized nseN ∈ WS := List.mem_filter.mpr ⟨List.mem_of_getElem? (i := 93) (by decide +kernel), by decide +kernel⟩
theorem nse_ok : ∀ w ∈ Cond.classLink RX6 214 nseN :: Cond.initialized nseN :: ((Bundle.ownAtomsX RX6 218 nseN 13 nseB nseC).filter vx_no), vx_ot w = true := by decide +kernel
theorem Rl.kept {G : GT} {h : HP} {H H1 : Heap} (R : Rl G h H) (hq : ∀ q : Nat, q < H.size → H1[q]? = H[q]?) : Rl G h H1 := by
  obtain ⟨la, h1, hP, hD⟩ := R
  exact ⟨la, h1, hP.kept (fun k q hk => hq q.1 (vx_lt hP hk)), hD⟩
theorem KO.zq {G : GT} {U : State} {H : Heap} (K : KO G U H) : vx_Zq Bundle.tN "UNASSIGNED_STACK" Bundle.steD G.A U H ∧ vx_Zq Bundle.tN "SUPPRESSED_SENTINEL" Bundle.listD G.A U H := by
  obtain ⟨s0, k1, k2, k3, k4⟩ := K
  have z1 : vx_Zq Bundle.tN "UNASSIGNED_STACK" Bundle.steD G.A s0 s0.heap := vx_Zqof (args := #[]) (k1 (.laysStatic "java/lang/Throwable" "UNASSIGNED_STACK" "[Ljava/lang/StackTraceElement;") (by simp [st_stat])) (k1 (.initialized "java/lang/Throwable") (by simp [st_stat])) (k1 (.isRef (.static "java/lang/Throwable" "UNASSIGNED_STACK" "[Ljava/lang/StackTraceElement;")) (by simp [st_stat])) k3
  have z2 : vx_Zq Bundle.tN "SUPPRESSED_SENTINEL" Bundle.listD G.A s0 s0.heap := vx_Zqof (args := #[]) (k1 (.laysStatic "java/lang/Throwable" "SUPPRESSED_SENTINEL" "Ljava/util/List;") (by simp [st_stat])) (k1 (.initialized "java/lang/Throwable") (by simp [st_stat])) (k1 (.isRef (.static "java/lang/Throwable" "SUPPRESSED_SENTINEL" "Ljava/util/List;")) (by simp [st_stat])) k3
  exact ⟨vx_Zq.moved k2 (z1.kept (fun a ha _ => k4 a ha)), vx_Zq.moved k2 (z2.kept (fun a ha _ => k4 a ha))⟩
theorem r_thr {G : GT} {Γ : CT} {h : HP} {pc : Nat} {lv : List (Option Value)} {Qc : Array Value → State → Outcome → State → Prop} {XC : String → State → State → Prop} {is j : Nat} {text : String} (C : Cx G Γ yX6_look cX6_look 4 (some .int)) (R : Rm Γ 12 1 6) (hl : G.l.stackTraces = false) (hT : ∀ x ∈ Γ.c.exceptionTable.toList, False) (hj : st_own[j]? = some (RX6, is, text))
    (d0 : decode cX6_look pc = .ok (.new 214, 3)) (d3 : decode cX6_look (pc + 3) = .ok (.dup, 1)) (d4 : decode cX6_look (pc + 4) = .ok (.ldc is, 2)) (d6 : decode cX6_look (pc + 6) = .ok (.invokespecial 218, 3)) (d9 : decode cX6_look (pc + 9) = .ok (.athrow, 1))
    (hX : ∀ t : State, Rl G h t.heap → va_F G.A Γ.s t → XC nseN Γ.s t) : wX G Γ (vx_MQ Γ.below Qc XC Γ.args Γ.s 1 6 G.A) 0 0 h pc lv [] := by
  intro H locs ls aa bb cl
  obtain ⟨r1, r2, r3, r4⟩ := R
  have hts := C.2.2.2.2.1
  have kn := C.2.2.2.2.2.2.2.2.1
  obtain ⟨zU, zN⟩ := KO.zq C.2.2.2.2.2.2.2.2.2.1.2.2.2
  have hat : ∀ w ∈ (Bundle.ownAtomsX RX6 218 nseN 13 nseB nseC).filter vx_no, w.before Γ.args Γ.s = true := vx_hat (fun w hw => hts w (List.mem_filter.mpr ⟨nse_in w hw, (List.mem_filter.mp hw).2⟩)) nse_ng (vx_c (cast_self (hts _ nse_w2)) (vx_c (decl_of (hts _ nse_d1.1) (hts _ nse_d1.2)) (vx_c (decl_of (hts _ nse_d2.1) (hts _ nse_d2.2)) (vx_c (decl_of (hts _ nse_d3.1) (hts _ nse_d3.2)) vx_n))))
  exact vq_throw (own := RX6) (cls := nseN) (text := text) (names := nseC) (ik := 214) (is := is) (ic := 218) (sa := G.aK j) (ix := 13) (rx := nseB) (A := G.A) C.1 C.2.1 hl (by decide +kernel) (by decide +kernel) (by decide +kernel) (by decide +kernel) C.2.2.2.1 (by decide +kernel) (by decide +kernel) (hts _ nse_w1) (hts _ nse_w2) (kn.2.2.2 j _ hj) hat nse_ok zU zN bb cl.1 d0 d3 d4 d6 d9 (fun x hx => (hT x hx).elim) (by show 2 + 3 < _; omega) (by show 0 + (13 * (2 + 1) + 43) ≤ _; omega) (by omega) (by omega) C.2.2.2.2.2.2.1
    (fun t _ hs hk => hX t (aa.kept hk) ⟨Nat.le_trans bb.1 hs, fun q h1 h2 => by rw [hk q (Nat.lt_of_lt_of_le h1 bb.1)]; exact bb.2.1 q h1 h2⟩) bb.2.2 (by decide) (by decide)
theorem ConX.of {G : GT} {lev mc ms : Nat} {y : MethodName} {cc : ByteArray} {nL : Nat} {rt : Option FieldType} {av : List Value} {h : HP} {post : Option Value → HP → Prop} {XC : String → State → State → Prop} {lv : List (Option Value)} (hy : plainName y.cls = true) (he : lvE nL av = lv) (hn : (lg_sl av).length ≤ nL)
    (body : ∀ Γ : CT, Cx G Γ y cc nL rt → Rm Γ lev mc ms → (∀ x ∈ Γ.c.exceptionTable.toList, False) → wX G Γ (vx_MQ Γ.below (QC G post) XC Γ.args Γ.s mc ms G.A) 0 0 h 0 lv []) : vx_Met G.l y (.code y cc nL rt :: WS) (rmm lev mc ms) (va_Pc av (PreU G h)) (QC G post) XC mc ms G.A := by
  refine vx_ofW (cc := cc) (maxL := nL) (ret := rt) hy rfl ?_
  intro p e s m args below meth c s₁ B hml ht hv
  obtain ⟨rfl, h1, h2, h3, h4, h5⟩ := hv
  have hown : s.vm.findClass y.cls = some m.cls := findClass_of_methodNamed B.named
  have hts := atoms_spec (ws := Cond.code y cc nL rt :: WS) B.pre
  have hnm : meth.name = y.name := (name_of_methodNamed B.named B.method).1
  have hl := lv_entry av (n := nL) hn
  rw [lg_entry_eq]
  refine body (p, e, (headSpec (Cond.code y cc nL rt :: WS) (rmm lev mc ms)).room, s, m, av.toArray, below, meth, c) ⟨B.exec, B.bytes, hml, hown, fun w hw => hts w (List.mem_cons_of_mem _ hw), B.returns, B.notSynchronized, hnm, h2, h3, h4, h5⟩ ⟨Nat.le_refl _, Nat.le_refl _, Nat.le_refl _, Nat.le_refl _⟩ ht s.heap [] _ h1 va_S.rf ⟨hl.1.trans hml.symm, hl.2.1, fun i v hi => ?_⟩
  subst he
  have := lvE_at av nL 0 i v hi
  rw [Nat.zero_add] at this
  exact hl.2.2 (i, v) this
theorem wX.vx {G : GT} {Γ : CT} {post : Option Value → HP → Prop} {XC : String → State → State → Prop} {mc ms k n : Nat} {h : HP} {pc : Nat} {lv : List (Option Value)} {st : List Value} (kk : wX G Γ (qM G Γ post mc ms) k n h pc lv st) : wX G Γ (vx_MQ Γ.below (QC G post) XC Γ.args Γ.s mc ms G.A) k n h pc lv st := fun H locs ls a b c => vx_ret (kk H locs ls a b c)

theorem b_X6_look {G : GT} {Γ : CT} {h : HP} {g : Nat} {σ : SG} {p : Nat → Nat} {L : List Nat} {x w : Int32} (C : Cx G Γ yX6_look cX6_look 4 (some .int)) (R : Rm Γ 12 1 6) (hL : LCl h.kd h.gl h.fr h.ar g σ.n p L) (R0 : CRr σ h.fi h.fr g p) (W : WF σ) (hP : lkP σ x w) : wX G Γ (qM G Γ (PI (fun v h' => lookV σ x.toNatClampNeg w = v ∧ h = h')) 1 6) 0 0 h 0 [some (rv g), some (.int x), some (.int w), none] [] := by
  generalize hPP : (PI (fun v h' => lookV σ x.toNatClampNeg w = v ∧ h = h')) = PP
  have r10 := W.n10
  obtain ⟨r, hlt, rfl⟩ := ride_of r10 hP.1
  refine r_aload_n (q := 1) (z := 0) C 0 rfl (by decide +kernel) rfl rfl ?_
  refine r_iload_n (q := 2) (z := 1) C 1 rfl (by decide +kernel) rfl rfl ?_
  refine cV1R (q := 5) C R rfl (by decide +kernel) lk_X6_118 (c_X6_find hL R0 r10) (by decide) (by decide) (by decide) rfl (by first | exact Nat.le_of_ble_eq_true rfl | (simp only [List.map_cons, List.map_nil, List.sum_cons, List.sum_nil, rv_cat]; exact Nat.le_of_ble_eq_true rfl)) rfl hL.kf ?_
  rintro _ _ ⟨rfl, rfl⟩
  refine wX_k0 C (fun hk0 => ?_)
  refine r_astore_n (q := 6) (z := 3) C 3 rfl (by decide +kernel) rfl (by decide) (by first | rfl | exact okst_rv rfl) ?_
  dsimp only [List.set]
  refine r_aload_n (q := 7) (z := 3) C 3 rfl (by decide +kernel) rfl rfl ?_
  refine r_ifnonnull (q := 10) (off := 13) (tgt := 20) C rfl (by decide +kernel) (by decide) (fun c7 => ?_) (fun c7 => ?_)
  · rw [rdA_in r10 hlt]
    refine r_iload_n (q := 21) (z := 2) C 2 rfl (by decide +kernel) rfl rfl ?_
    rcases w_6 hP.2 with rfl | rfl | rfl | rfl | rfl | rfl
    · refine r_tableIn (dflt := 116) (lo := 0) (hi := 5) (offs := #[39, 52, 71, 101, 106, 111]) (len := 39) (off := 39) (tgt := 60) C (by decide +kernel) (by decide) (by decide) (by decide) (by decide) ?_
      refine r_aload_n (q := 61) (z := 3) C 3 rfl (by decide +kernel) rfl rfl ?_
      refine r_getI (q := 64) C 3 7 199 rfl (by decide +kernel) rfl (by decide) rfl rfl wf_X6_122 win3 (hL.kp hlt) ?_
      rw [R0.lie hlt]
      refine r_if_eq (q := 67) (off := 7) (tgt := 71) C rfl (by decide +kernel) (by decide) (fun c64 => ?_) (fun c64 => ?_)
      · have hl : ¬ σ.li r < 240 := of_decide_eq_false ((b2i_0 _).mp c64)
        refine r_iconst (q := 72) (z := 0) (v := 0) C rfl (by decide +kernel) (by decide) ?_
        exact r_iret C (by decide +kernel) rfl (by decide) (by decide) (eqP hPP ⟨_, rfl, (by first | exact ⟨by rw [nI_clamp (by omega)]; unfold lookV; rw [if_pos rfl, if_pos hl], rfl⟩ | exact ⟨by rw [nI_clamp (by omega)]; unfold lookV; rw [if_pos rfl, if_neg hl], rfl⟩)⟩)
      · have hl : σ.li r < 240 := of_decide_eq_true ((b2i_n0 _).mp c64)
        refine r_iconst (q := 68) (z := 1) (v := 1) C rfl (by decide +kernel) (by decide) ?_
        refine r_goto (off := 4) (tgt := 72) C (by decide +kernel) (by decide) ?_
        exact r_iret C (by decide +kernel) rfl (by decide) (by decide) (eqP hPP ⟨_, rfl, (by first | exact ⟨by rw [nI_clamp (by omega)]; unfold lookV; rw [if_pos rfl, if_pos hl], rfl⟩ | exact ⟨by rw [nI_clamp (by omega)]; unfold lookV; rw [if_pos rfl, if_neg hl], rfl⟩)⟩)
    · refine r_tableIn (dflt := 116) (lo := 0) (hi := 5) (offs := #[39, 52, 71, 101, 106, 111]) (len := 39) (off := 52) (tgt := 73) C (by decide +kernel) (by decide) (by decide) (by decide) (by decide) ?_
      refine r_aload_n (q := 74) (z := 3) C 3 rfl (by decide +kernel) rfl rfl ?_
      refine r_getI (q := 77) C 3 7 199 rfl (by decide +kernel) rfl (by decide) rfl rfl wf_X6_122 win3 (hL.kp hlt) ?_
      rw [R0.lie hlt]
      refine r_if_eq (q := 80) (off := 13) (tgt := 90) C rfl (by decide +kernel) (by decide) (fun c77 => ?_) (fun c77 => ?_)
      · have hl : ¬ σ.li r < 240 := of_decide_eq_false ((b2i_0 _).mp c77)
        refine r_iconst (q := 91) (z := (-1)) (v := (-1)) C rfl (by decide +kernel) (by decide) ?_
        exact r_iret C (by decide +kernel) rfl (by decide) (by decide) (eqP hPP ⟨_, rfl, (by first | exact ⟨by rw [nI_clamp (by omega)]; unfold lookV; rw [if_neg (by decide), if_pos rfl, pl_out hl], rfl⟩ | exact ⟨by rw [nI_clamp (by omega)]; unfold lookV; rw [if_neg (by decide), if_pos rfl], rfl⟩)⟩)
      · have hl : σ.li r < 240 := of_decide_eq_true ((b2i_n0 _).mp c77)
        obtain ⟨q1, q2, q3, q4, q5⟩ := R0.sp hlt hl
        refine r_aload_n (q := 81) (z := 3) C 3 rfl (by decide +kernel) rfl rfl ?_
        refine r_getR (q := 84) C 3 6 198 rfl (by decide +kernel) rfl (by decide) rfl rfl wf_X6_221 win3 (hL.kp hlt) ?_
        refine cV0I (q := 87) C R rfl (by decide +kernel) lk_X6_224 (c_X4_place (hL.ks hlt)) (by decide) (by decide) (by decide) rfl (by first | exact Nat.le_of_ble_eq_true rfl | (simp only [List.map_cons, List.map_nil, List.sum_cons, List.sum_nil, rv_cat]; exact Nat.le_of_ble_eq_true rfl)) rfl (hL.ks hlt) ?_
        rintro _ _ ⟨rfl, rfl⟩
        rw [q2, q1, q5, hold_v hl]
        refine r_goto (off := 4) (tgt := 91) C (by decide +kernel) (by decide) ?_
        exact r_iret C (by decide +kernel) rfl (by decide) (by decide) (eqP hPP ⟨_, rfl, (by first | exact ⟨by rw [nI_clamp (by omega)]; unfold lookV; rw [if_neg (by decide), if_pos rfl, pl_out hl], rfl⟩ | exact ⟨by rw [nI_clamp (by omega)]; unfold lookV; rw [if_neg (by decide), if_pos rfl], rfl⟩)⟩)
    · refine r_tableIn (dflt := 116) (lo := 0) (hi := 5) (offs := #[39, 52, 71, 101, 106, 111]) (len := 39) (off := 71) (tgt := 92) C (by decide +kernel) (by decide) (by decide) (by decide) (by decide) ?_
      refine r_aload_n (q := 93) (z := 3) C 3 rfl (by decide +kernel) rfl rfl ?_
      refine r_getI (q := 96) C 3 7 199 rfl (by decide +kernel) rfl (by decide) rfl rfl wf_X6_122 win3 (hL.kp hlt) ?_
      rw [R0.lie hlt]
      refine r_if_eq (q := 99) (off := 24) (tgt := 120) C rfl (by decide +kernel) (by decide) (fun c96 => ?_) (fun c96 => ?_)
      · have hl : ¬ σ.li r < 240 := of_decide_eq_false ((b2i_0 _).mp c96)
        refine r_iconst (q := 121) (z := (-1)) (v := (-1)) C rfl (by decide +kernel) (by decide) ?_
        exact r_iret C (by decide +kernel) rfl (by decide) (by decide) (eqP hPP ⟨_, rfl, (by first | exact ⟨by rw [nI_clamp (by omega)]; unfold lookV; rw [if_neg (by decide), if_neg (by decide), if_pos rfl, if_pos hl], rfl⟩ | exact ⟨by rw [nI_clamp (by omega)]; unfold lookV; rw [if_neg (by decide), if_neg (by decide), if_pos rfl, if_neg hl], rfl⟩)⟩)
      · have hl : σ.li r < 240 := of_decide_eq_true ((b2i_n0 _).mp c96)
        refine r_bipush (q := 101) (z := 12) (v := 12) C rfl (by decide +kernel) (by decide) ?_
        refine r_aload_n (q := 102) (z := 3) C 3 rfl (by decide +kernel) rfl rfl ?_
        refine r_getR (q := 105) C 3 6 198 rfl (by decide +kernel) rfl (by decide) rfl rfl wf_X6_221 win3 (hL.kp hlt) ?_
        refine cV0I (q := 108) C R rfl (by decide +kernel) lk_X6_227 (c_X4_doorY (hL.ks hlt)) (by decide) (by decide) (by decide) rfl (by first | exact Nat.le_of_ble_eq_true rfl | (simp only [List.map_cons, List.map_nil, List.sum_cons, List.sum_nil, rv_cat]; exact Nat.le_of_ble_eq_true rfl)) rfl (hL.ks hlt) ?_
        rintro _ _ ⟨rfl, rfl⟩
        rw [R0.dy hlt hl]
        refine r_imul (q := 109) C rfl (by decide +kernel) ?_
        rw [show (12 : Int32) = nI 12 from rfl, pk_mul]
        refine r_aload_n (q := 110) (z := 3) C 3 rfl (by decide +kernel) rfl rfl ?_
        refine r_getR (q := 113) C 3 6 198 rfl (by decide +kernel) rfl (by decide) rfl rfl wf_X6_221 win3 (hL.kp hlt) ?_
        refine cV0I (q := 116) C R rfl (by decide +kernel) lk_X6_230 (c_X4_doorX (hL.ks hlt)) (by decide) (by decide) (by decide) rfl (by first | exact Nat.le_of_ble_eq_true rfl | (simp only [List.map_cons, List.map_nil, List.sum_cons, List.sum_nil, rv_cat]; exact Nat.le_of_ble_eq_true rfl)) rfl (hL.ks hlt) ?_
        rintro _ _ ⟨rfl, rfl⟩
        rw [R0.dx W hlt hl]
        refine r_iadd (q := 117) C rfl (by decide +kernel) ?_
        rw [nI_add, ← dr_xy]
        refine r_goto (off := 4) (tgt := 121) C (by decide +kernel) (by decide) ?_
        exact r_iret C (by decide +kernel) rfl (by decide) (by decide) (eqP hPP ⟨_, rfl, (by first | exact ⟨by rw [nI_clamp (by omega)]; unfold lookV; rw [if_neg (by decide), if_neg (by decide), if_pos rfl, if_pos hl], rfl⟩ | exact ⟨by rw [nI_clamp (by omega)]; unfold lookV; rw [if_neg (by decide), if_neg (by decide), if_pos rfl, if_neg hl], rfl⟩)⟩)
    · refine r_tableIn (dflt := 116) (lo := 0) (hi := 5) (offs := #[39, 52, 71, 101, 106, 111]) (len := 39) (off := 101) (tgt := 122) C (by decide +kernel) (by decide) (by decide) (by decide) (by decide) ?_
      refine r_aload_n (q := 123) (z := 3) C 3 rfl (by decide +kernel) rfl rfl ?_
      refine r_getI (q := 126) C 3 9 201 rfl (by decide +kernel) rfl (by decide) rfl rfl wf_X6_147 win3 (hL.kp hlt) ?_
      rw [R0.rt hlt]
      exact r_iret C (by decide +kernel) rfl (by decide) (by decide) (eqP hPP ⟨_, rfl, ⟨by rw [nI_clamp (by omega)]; unfold lookV; rw [if_neg (by decide), if_neg (by decide), if_neg (by decide), if_pos rfl], rfl⟩⟩)
    · refine r_tableIn (dflt := 116) (lo := 0) (hi := 5) (offs := #[39, 52, 71, 101, 106, 111]) (len := 39) (off := 106) (tgt := 127) C (by decide +kernel) (by decide) (by decide) (by decide) (by decide) ?_
      refine r_aload_n (q := 128) (z := 3) C 3 rfl (by decide +kernel) rfl rfl ?_
      refine r_getI (q := 131) C 3 10 202 rfl (by decide +kernel) rfl (by decide) rfl rfl wf_X6_233 win3 (hL.kp hlt) ?_
      rw [R0.hd hlt]
      exact r_iret C (by decide +kernel) rfl (by decide) (by decide) (eqP hPP ⟨_, rfl, ⟨by rw [nI_clamp (by omega)]; unfold lookV; rw [if_neg (by decide), if_neg (by decide), if_neg (by decide), if_neg (by decide), if_pos rfl], rfl⟩⟩)
    · refine r_tableIn (dflt := 116) (lo := 0) (hi := 5) (offs := #[39, 52, 71, 101, 106, 111]) (len := 39) (off := 111) (tgt := 132) C (by decide +kernel) (by decide) (by decide) (by decide) (by decide) ?_
      refine r_aload_n (q := 133) (z := 3) C 3 rfl (by decide +kernel) rfl rfl ?_
      refine r_getI (q := 136) C 3 11 203 rfl (by decide +kernel) rfl (by decide) rfl rfl wf_X6_162 win3 (hL.kp hlt) ?_
      rw [R0.ms hlt]
      exact r_iret C (by decide +kernel) rfl (by decide) (by decide) (eqP hPP ⟨_, rfl, ⟨by rw [nI_clamp (by omega)]; unfold lookV; rw [if_neg (by decide), if_neg (by decide), if_neg (by decide), if_neg (by decide), if_neg (by decide)], rfl⟩⟩)
  · exact absurd hP.1 ((rdA_0 hL hk0 r10).mp c7)
theorem wX_find {G : GT} {Γ : CT} {Q : State → Prop} {h : HP} {g : Nat} {σ : SG} {p : Nat → Nat} {L : List Nat} {x w : Int32} (C : Cx G Γ yX6_look cX6_look 4 (some .int)) (R : Rm Γ 12 1 6) (hL : LCl h.kd h.gl h.fr h.ar g σ.n p L) (R0 : CRr σ h.fi h.fr g p) (W : WF σ)
    (k0 : ¬ (0 ≤ x ∧ x < nI σ.n) → wX G Γ Q 0 0 h 10 [some (rv g), some (.int x), some (.int w), some (rv (rdA σ p x))] []) (k1 : (0 ≤ x ∧ x < nI σ.n) → wX G Γ Q 0 0 h 20 [some (rv g), some (.int x), some (.int w), some (rv (rdA σ p x))] []) : wX G Γ Q 0 0 h 0 [some (rv g), some (.int x), some (.int w), none] [] := by
  have r10 := W.n10
  refine r_aload_n (q := 1) (z := 0) C 0 rfl (by decide +kernel) rfl rfl ?_
  refine r_iload_n (q := 2) (z := 1) C 1 rfl (by decide +kernel) rfl rfl ?_
  refine cV1R (q := 5) C R rfl (by decide +kernel) lk_X6_118 (c_X6_find hL R0 r10) (by decide) (by decide) (by decide) rfl (by first | exact Nat.le_of_ble_eq_true rfl | (simp only [List.map_cons, List.map_nil, List.sum_cons, List.sum_nil, rv_cat]; exact Nat.le_of_ble_eq_true rfl)) rfl hL.kf ?_
  rintro _ _ ⟨rfl, rfl⟩
  refine wX_k0 C (fun hk0 => ?_)
  refine r_astore_n (q := 6) (z := 3) C 3 rfl (by decide +kernel) rfl (by decide) (by first | rfl | exact okst_rv rfl) ?_
  dsimp only [List.set]
  refine r_aload_n (q := 7) (z := 3) C 3 rfl (by decide +kernel) rfl rfl ?_
  refine r_ifnonnull (q := 10) (off := 13) (tgt := 20) C rfl (by decide +kernel) (by decide) (fun c7 => ?_) (fun c7 => ?_)
  · exact k1 (Classical.not_not.mp (mt (rdA_0 hL hk0 r10).mpr c7))
  · exact k0 ((rdA_0 hL hk0 r10).mp c7)
theorem vc_look {G : GT} {h : HP} {g : Nat} {σ : SG} {p : Nat → Nat} {L : List Nat} {x w : Int32} (hl : G.l.stackTraces = false) (hL : LCl h.kd h.gl h.fr h.ar g σ.n p L) (R0 : CRr σ h.fi h.fr g p) (W : WF σ) : vx_Met G.l yX6_look (.code yX6_look cX6_look 4 (some .int) :: WS) (rmm 12 1 6) (va_Pc [rv g, .int x, .int w] (PreU G h)) (QC G (PI (fun v h' => (lkP σ x w ∧ lookV σ x.toNatClampNeg w = v) ∧ h = h'))) (fun E st t => E = nseN ∧ ¬ lkP σ x w ∧ Rl G h t.heap ∧ va_F G.A st t) 1 6 G.A := by
  refine ConX.of (lv := [some (rv g), some (.int x), some (.int w), none]) (by decide) (by simp only [lvE_r, lvE_i, lvE_l, lvE_s, lvE_0]; rfl) (by simp only [lgl_r, lgl_i, lgl_l, lgl_s, lgl_0]; decide) (fun Γ C R hT => ?_)
  by_cases hP : lkP σ x w
  · refine wX.vx ?_
    have z := b_X6_look C R hL R0 W hP
    have e : (PI (fun (v : Int32) (h' : HP) => (lkP σ x w ∧ lookV σ x.toNatClampNeg w = v) ∧ h = h')) = (PI (fun (v : Int32) (h' : HP) => lookV σ x.toNatClampNeg w = v ∧ h = h')) := by
      congr 1
      funext v h'
      exact propext ⟨fun q => ⟨q.1.2, q.2⟩, fun q => ⟨⟨hP, q.1⟩, q.2⟩⟩
    rw [e]
    exact z
  · have hX : ∀ t : State, Rl G h t.heap → va_F G.A Γ.s t → nseN = nseN ∧ ¬ lkP σ x w ∧ Rl G h t.heap ∧ va_F G.A Γ.s t := fun t a b => ⟨rfl, hP, a, b⟩
    refine wX_find C R hL R0 W (fun hno => ?_) (fun hx => ?_)
    · exact r_thr (j := 10) C R hl hT rfl (by decide +kernel) (by decide +kernel) (by decide +kernel) (by decide +kernel) (by decide +kernel) hX
    · refine r_iload_n (q := 21) (z := 2) C 2 rfl (by decide +kernel) rfl rfl ?_
      by_cases hw : 0 ≤ w ∧ w ≤ 5
      · exact absurd ⟨hx, hw⟩ hP
      · refine r_tableOut (dflt := 116) (lo := 0) (hi := 5) (offs := #[39, 52, 71, 101, 106, 111]) (len := 39) (tgt := 137) C (by decide +kernel) (w_out (b := 5) (by decide) hw) (by decide) ?_
        exact r_thr (j := 11) C R hl hT rfl (by decide +kernel) (by decide +kernel) (by decide +kernel) (by decide +kernel) (by decide +kernel) hX
