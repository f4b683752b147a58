def hp0 : HP := HP.of (fun _ => (99, 0)) (fun _ _ => 0) (fun _ _ => 0) (fun _ _ => 0) (fun _ _ => 0) (fun _ _ => 0) (fun _ => 0)
theorem rl_0 {G : GT} {H : Heap} : Rl G hp0 H := by
  have e : ∀ (k : Nat) (q : Nat × va_E), (wld G hp0 [])[k]? = some q → False := fun k q h => (by cases h)
  exact ⟨[], fun a => ⟨(fun h => by cases h), (fun h => absurd rfl h)⟩, (fun k q h => (e k q h).elim), (fun i j p q h _ _ => (e i p h).elim), (fun k q h => (e k q h).elim)⟩
theorem law_entry {G : GT} {Γ : CT} {Q : State → Prop} {nm ds : String} {b N : Nat} {xs : Nat → Int32} (C : Cx G Γ ⟨RL, nm, ds⟩ cL_law 7 (some .boolean)) (R : Rm Γ 30 601024 7293034) (hl : G.l.stackTraces = false) (hX : va_X b N xs Γ.s Γ.s.heap) (hbl : b < Γ.s.heap.size) (hbA : ¬ G.A b) (hN : N ≤ 3584)
    (Hend : ∀ (k n : Nat) (h : HP) (lv : List (Option Value)), k ≤ 601024 → n ≤ 7293034 → wX G Γ Q k n h 1081 lv []) : wX G Γ Q 0 0 hp0 0 [some (.ref b), none, none, none, none, none, none] [] := by
  refine r_new (q := 3) C R (6000) 6 rfl (by decide +kernel) rfl win6 tyX6 tyX6_ok wk_L_8 wi_X6 wn_X6 (by decide +kernel) (by decide) (by decide) ?_
  intro g e0
  refine r_dup (q := 4) C rfl (by decide +kernel) (by first | rfl | exact rv_cat _) ?_
  refine cI0V (q := 7) C R rfl (by decide +kernel) lk_L_15 (c_X6_init (kd_new (lb := 6000)) (fun f => fi_new)) (by decide) (by decide) (by decide) rfl (by first | exact Nat.le_of_ble_eq_true rfl | (simp only [List.map_cons, List.map_nil, List.sum_cons, List.sum_nil, rv_cat]; exact Nat.le_of_ble_eq_true rfl)) (kd_new (lb := 6000)) (by decide) ?_
  rintro h1 ⟨-, HC⟩
  have HC : CP s0 (fun _ => 100) (fun _ => 1) 1 [] [] [] (fun _ => 0) h1 g := HC
  refine r_astore_n (q := 8) (z := 1) C 1 rfl (by decide +kernel) rfl (by decide) (by first | rfl | exact okst_rv rfl) ?_
  refine r_new (q := 11) C R (7000) 7 rfl (by decide +kernel) rfl win7 tyX7 tyX7_ok wk_L_16 wi_X7 wn_X7 (by decide +kernel) (by decide) (by decide) ?_
  intro m e1
  refine r_dup (q := 12) C rfl (by decide +kernel) (by first | rfl | exact rv_cat _) ?_
  refine cI0V (q := 15) C R rfl (by decide +kernel) lk_L_18 (c_X7_init (kd_new (lb := 7000)) (fun f => fi_new)) (by decide) (by decide) (by decide) rfl (by first | exact Nat.le_of_ble_eq_true rfl | (simp only [List.map_cons, List.map_nil, List.sum_cons, List.sum_nil, rv_cat]; exact Nat.le_of_ble_eq_true rfl)) (kd_new (lb := 7000)) (by decide) ?_
  rintro h2 ⟨G2, HM⟩
  have HM : MP s0 (fun _ => 100) (fun _ => 1) 1 [] [] h2 m := HM
  have HC := CP.sm (((Gw.nw (a := m) e1).tr G2).sm e1) HC
  refine r_astore_n (q := 16) (z := 2) C 2 rfl (by decide +kernel) rfl (by decide) (by first | rfl | exact okst_rv rfl) ?_
  refine r_iconst (q := 17) (z := 1) (v := 1) C rfl (by decide +kernel) (by decide) ?_
  refine r_newaJ (q := 19) (z := 1) C R 5000 rfl (by decide +kernel) wa_long (by decide) (by decide) (by decide) (by decide) (by decide) ?_
  intro o e2
  have F := (Gw.nw (a := o) (k := (10, 1)) (lb := 5000) e2).sm e2
  have HC := CP.sm F HC
  have HM := MP.kc F.kc HM
  have HO : OO o (h2.new o (10, 1) 5000) := ⟨kd_new, gl_nw (k := (10, 1))⟩
  generalize h2.new o (10, 1) 5000 = h3 at HC HM HO ⊢
  refine r_astore_n (q := 20) (z := 3) C 3 rfl (by decide +kernel) rfl (by decide) (by first | rfl | exact okst_rv rfl) ?_
  refine r_iconst (q := 21) (z := 0) (v := nI 0) C rfl (by decide +kernel) (by decide) ?_
  refine r_istore (q := 23) C 4 rfl (by decide +kernel) (by decide) (by first | rfl | exact okst_rv rfl) ?_
  exact law_loop C R hX hbl hbA hN HC HM HO (by decide) (by decide) Hend (fun HCx HOx Wx hk hn kk => law_look C R hl HCx.1 HCx.2.1 Wx HCx.1.kf HOx.1 hk hn kk)

/-! THE CLAIM OUT OF ONE WALK OF THE LAW'S BODY. Your part is whole_start (and what it stands on); all else here is the same for every law, but numbers. -/
def R_law : String := "FairGroundLaw"
def lw_P (b : Addr) (xs : List Int32) (args : Array Value) (s : State) : Prop := args = #[.ref b] ∧ s.IntsAt b xs ∧ xs.length ≤ 3584 ∧ (Jvm.Cond.and given_1 narrow_1).before args s = true
def lw_Q (_ : Array Value) (s : State) (o : Outcome) (t : State) : Prop := o = .returned (some (.int 1)) ∧ Framed s o t [] 601024 7293034
def lw_Z (below : List Frame) (a : Array Value) (s : State) : State → Prop := fun t => ∃ o, t.status = .running ∧ Ended t below o ∧ lw_Q a s o t
/-- the law's own end, with 1 on the stack, nothing written that was there before, its room as the claim has it -/
theorem lw_ret {p : Program} {l : Launch} {e : Env} {s : State} {m : MethodId} {below : List Frame} {meth : Method} {c : Code} {b : Nat} (hx : p.tables.exec = Jvm.exec) (hb : c.code = code) (hr : meth.sig.returnType = ret) (hlocks : meth.locks = false) {pc : Nat} {H : Heap} {ls : Array Slot} (hdg : decode code pc = .ok (.ireturn, 1)) : W p l e room_1 s m #[Value.ref b] below meth c H [] 601024 7293034 (lw_Z below #[Value.ref b] s) (F0 m pc ls [.int 1]) := by
  intro T hT X
  obtain ⟨fs, hret, hrun, hended, hW, hframe⟩ := X.leave (v := some (.int 1)) (hlocks := hlocks) (fun h => by rw [hr] at h; cases h)
  have hmeth' : T.vm.method? m = some meth := X.method'
  refine ⟨T.setFrames fs, ?_, .returned (some (.int 1)), hrun, hended, rfl, ⟨_, rfl⟩, hW, hframe⟩
  jvm_step X.here [X.here.top, hx, hb, hdg, hmeth', hr, ret, narrow_b1]
  (try refine ⟨rfl, ?_⟩); (try refine ⟨rfl, ?_⟩)
  first | (intro acts; rw [hret _ acts rfl rfl rfl]) | rw [hret _ _ rfl rfl rfl]
  exact Steps.refl _
/-- what holds at the law's entry: the machine, the code, the tables' words (any of lw_tbl by 'hts w (by decide +kernel)'), the script of L ints xs at the cell b, what the Statement gives of the start (any of its parts by flat_of_before) -/
def lw_At (p : Program) (s : State) (m : MethodId) (meth : Method) (c : Code) (b L : Nat) (xs : Nat → Int32) : Prop :=
  p.tables.exec = Jvm.exec ∧ c.code = code ∧ meth.sig.returnType = ret ∧ c.maxLocals = 7 ∧ s.vm.findClass R_law = some m.cls ∧ (∀ w ∈ lw_tbl, w.before #[Value.ref b] s = true) ∧ va_X b L xs s s.heap ∧ b < s.heap.size ∧ meth.locks = false ∧ (Jvm.Cond.and given_1 narrow_1).before #[Value.ref b] s = true

theorem whole_start {p : Program} {e : Env} {s : State} {m : MethodId} {below : List Frame} {meth : Method} {c : Code} (l : Launch) (hl : l.stackTraces = false) {b L : Nat} {xs : Nat → Int32} (hL : L ≤ 3584) (C0 : lw_At p s m meth c b L xs) : W p l e room_1 s m #[Value.ref b] below meth c s.heap [] 0 0 (lw_Z below #[Value.ref b] s) (entryFrame m ([Value.ref b] : List Value).toArray 7) := by
  obtain ⟨hx, hb, hr, hml, hown, hts, hX, hbl, hlocks, hgv⟩ := id C0
  have hA : ∀ a : Nat, a < s.heap.size → ¬ (fun q : Nat => s.heap.size ≤ q) a := fun a ha => Nat.not_le.mpr ha
  obtain ⟨D, ca, hK⟩ := st_K hts
  obtain ⟨aK, aV, hS, he⟩ := st_S (A := fun q : Nat => s.heap.size ≤ q) hgv hA
  have C : Cx (l, D, ca, (fun q : Nat => s.heap.size ≤ q), aK, aV) (p, e, room_1, s, m, #[Value.ref b], below, meth, c) ⟨RL, meth.name, ""⟩ cL_law 7 (some .boolean) := ⟨hx, hb, hml, hown, fun w hw => hts w (List.mem_filter.mp hw).1, hr, hlocks, rfl, st_KN hts hK he, st_KH hts hgv hA hS, fun _ h => h, hA 0 (Nat.lt_of_le_of_lt (Nat.zero_le b) hbl)⟩
  have hlv := lv_entry ([.ref b]) (n := 7) (Nat.le_of_ble_eq_true rfl)
  rw [lg_entry_eq]
  refine law_entry C ⟨show 30 ≤ room_1.frames by decide, show 601024 ≤ room_1.cells by decide, show 7293034 ≤ room_1.slots by decide, show 64 * 30 ≤ room_1.locals by decide⟩ hl hX hbl (hA b hbl) hL (fun k n h lv h1 h2 => ?_) s.heap [] _ rl_0 va_S.rf ⟨hlv.1.trans hml.symm, hlv.2.1, fun i v hi => ?_⟩
  · refine r_iconst (q := 1082) (z := 1) (v := 1) C rfl (by decide +kernel) (by decide) ?_
    intro H locs ls aa bb cl
    refine va_forget (fun q hq => bb.2.2 q hq) ?_
    exact W.widen h1 h2 (lw_ret hx hb hr hlocks (by decide +kernel))
  · have := lvE_at [.ref b] 7 0 i v hi
    rw [Nat.zero_add] at this
    exact hlv.2.2 (i, v) this

set_option maxHeartbeats 4000000 in
theorem lw_walk (l : Launch) (hl : l.stackTraces = false) (b : Addr) (xs : List Int32) : MetFree l x (headSpec (Jvm.Cond.code x code maxLocals ret :: tables_1) room_1) (lw_P b xs) (fun _ _ _ _ _ => True) lw_Q := by
  refine MetFree.of_bodyS (code := code) (maxLocals := maxLocals) (ret := ret) (by decide) ?_ ?_
  · intro args s m h hn
    obtain ⟨meth, c, h1, h2, h3, h4, h5, h6, -, -⟩ := Cond.code_spec hn (atoms_spec (ws := Jvm.Cond.code x code maxLocals ret :: tables_1) h _ List.mem_cons_self)
    exact ⟨meth, c, h1, h2, h3, h4, h5, h6⟩
  · intro p e s m args below meth c s₁ B hml0 hP _
    obtain ⟨rfl, hx, hbd, hgv⟩ := hP
    obtain ⟨scr, harrAt, hlist, hof, hsmall⟩ := hx
    obtain ⟨hcb, hkn, -, -⟩ := State.arrayAt?_spec harrAt
    have hown : s.vm.findClass R_law = some m.cls := findClass_of_methodNamed B.named
    have hts0 : ∀ c ∈ (Jvm.Cond.code x code maxLocals ret :: tables_1), c.before #[Value.ref b] s = true := atoms_spec (ws := Jvm.Cond.code x code maxLocals ret :: tables_1) B.pre
    have hts : ∀ w ∈ lw_tbl, w.before #[Value.ref b] s = true := k2_hts_sels lw_privs (fun w hw => hts0 w (List.mem_cons_of_mem _ hw)) lw_privs_ok
    have hml : c.maxLocals = 7 := B.maxLocals_eq (hts0 _ List.mem_cons_self)
    have X₀ : Stand p l e room_1 s m #[Value.ref b] below meth c s₁ [] 0 0 := Stand.of_body B
    have hh0 : s₁.heap = s.heap := by rw [B.state]; rfl
    have hsz : scr.slots.size = xs.length := by rw [← Array.length_toList, hlist, List.length_map]
    have hval : ∀ j : Nat, j < xs.length → scr.slots[j]? = some (.int (xs.getD j 0)) := fun j hj => by
      rw [← Array.getElem?_toList, hlist]
      simp [hj]
    have hbl : b < s.heap.size := (Array.getElem?_eq_some_iff.mp hcb).1
    have hX : va_X b xs.length (fun j => xs.getD j 0) s s.heap := ⟨scr, hcb, hof, hkn, hsz, hval⟩
    have K : W p l e room_1 s m #[Value.ref b] below meth c s₁.heap [] 0 0 (lw_Z below #[Value.ref b] s) (entryFrame m ([Value.ref b] : List Value).toArray 7) := by
      rw [hh0]
      exact whole_start l hl hbd ⟨B.exec, B.bytes, B.returns, hml, hown, hts, hX, hbl, B.notSynchronized, hgv⟩
    obtain ⟨t, a1, o, b1, b2, b3⟩ := K s₁ rfl X₀
    exact ⟨t, o, a1, b1, b2, b3⟩
theorem lw_pre_spec {args : Array Value} {s : State} (h : (Jvm.Cond.and given_1 narrow_1).before args s = true) (hr : rest_1_c.before args s = true) : ∃ (b : Addr) (xs : List Int32), lw_P b xs args s := by
  have hs := flat_of_before _ h
  have hq := flat_of_before _ hr
  have hc : (Cond.count 1).before args s = true := hs _ (by decide +kernel)
  have harr : (Cond.arrayOf (.arg 0) .int).before args s = true := hs _ (by decide +kernel)
  have hle : (Cond.le (.length (.arg 0)) (.int 3584)).before args s = true := hs _ (by decide +kernel)
  have hlen : (Cond.isInt (.length (.arg 0))).before args s = true := hq _ (by decide +kernel)
  have hall : (Cond.all (.arg 0) (.isInt (.elem (.arg 0) (.index 0)))).before args s = true := hq _ (by decide +kernel)
  obtain ⟨b, xs, hb, hx⟩ := State.ints_of_pre rfl harr hlen hall
  have hsm : xs.length < 2 ^ 31 := hx.choose_spec.2.2.2
  have hev : (Term.length (.arg 0)).eval args s none [] s = some (.int xs.length.toInt32) := hx.length_eval hb
  have hv := Cond.le_ints hev (show (Term.int 3584).eval args s none [] s = some (.int 3584) from rfl)
  have hd : xs.length.toInt32 ≤ 3584 := by
    simpa [Cond.before, Cond.holds, hv] using hle
  have hN : xs.length ≤ 3584 := (Int32.ofNat_le_ofNat hsm (by decide)).mp (show Int32.ofNat xs.length ≤ Int32.ofNat 3584 from hd)
  exact ⟨b, xs, Cond.one_arg hc (show args[0]? = some (.ref b) from hb), hx, hN, h⟩
theorem lw_comes (l : Launch) (hl : l.stackTraces = false) : Comes l x (Jvm.Cond.code x code maxLocals ret :: tables_1) room_1 (fun tb e args s => Calls_1 tb e args s ∧ rest_1 tb e args s ∧ Pre_1 tb e args s)
    (fun _ _ args s o t => lw_Q args s o t) := by
  intro p e ha hc hk s m args below hf hfit hheap happ hpre
  obtain ⟨b, xs, hP⟩ := lw_pre_spec hpre.2.2 hpre.2.1
  obtain ⟨k, o, h1, h2, h3, hQ⟩ := lw_walk l hl b xs p e ha hc hk s m args below hf ((Spec.applies_iff_loose hf).mp happ).1 hP trivial
  exact ⟨k, o, h1, h2, h3, hQ⟩
theorem lw_frame {s t : State} {o : Outcome} {args : Array Value} (h : Framed s o t [] 601024 7293034) :
    Framed s o t (fieldLocs frame_1_writes args s ++ arrayLocs frame_1_arrays args s ++ staticLocs frame_1_statics s) 601024 7293034 := h
theorem lw_limb (L : Cond) (hL : ∀ (args : Array Value) (s t : State), L.after args s (.returned (some (.int 1))) t = true) :
    ArmFor flags0 classFile x code maxLocals ret World_1 tables_1 room_1 Calls_1 rest_1 Pre_1
      (fun tb e a s o t => postC L tb e a s o t ∧ Framed s o t (fieldLocs frame_1_writes a s ++ arrayLocs frame_1_arrays a s ++ staticLocs frame_1_statics s) 601024 7293034) := by
  intro l hfl _ _ p e ha hc hk s m args below hf hfit hheap happ hpre
  obtain ⟨k, o, h1, h2, h3, rfl, hF⟩ := lw_comes l (by unfold Launch.stackTraces; rw [hfl]; decide +kernel) p e ha hc hk s m args below hf hfit hheap happ hpre
  exact ⟨k, _, h1, h2, h3, hL args s _, lw_frame hF⟩
theorem i_vc : Claimed_1_1 ∧ Claimed_1_2 := ⟨lw_limb limb_1_1 (fun args s t => by simp [limb_1_1, Cond.after, Cond.holds, Cond.value]), lw_limb limb_1_2 (fun args s t => Cond.after_iff.mpr (by
  first | (rw [show limb_1_2 = Cond.eq .result (.int 1) from rfl, Cond.eq_ints (x := 1) (y := 1) rfl rfl]; simp; done) | (simp [limb_1_2, Cond.value, Term.eval]; done)))⟩

