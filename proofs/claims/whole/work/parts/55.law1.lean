/-! ===== the law ===== -/
theorem m7x {n : Nat} (h : n < 100000) : (nI n - 7).toInt = (n : Int) - 7 := by
  rw [show (7 : Int32) = nI 7 from rfl]
  exact pk_sub_toInt (by omega) (by omega)
theorem gt7 {i n : Nat} (hi : i < 100000) (hn : n < 100000) : nI n - 7 < nI i ↔ n < i + 7 := by
  rw [Int32.lt_iff_toInt_lt, m7x hn, nI_toInt (by omega)]
  omega
theorem of32 (x : Int32) : ∃ n, n < 2 ^ 32 ∧ x = nI n := ⟨x.toBitVec.toNat, x.toBitVec.isLt, Int32.toBitVec_inj.mp (by show _ = BitVec.ofNat 32 _; simp)⟩
theorem a31 (v : Int32) : ∃ j, j < 32 ∧ v &&& 31 = nI j := by
  obtain ⟨n, hn, rfl⟩ := of32 v
  exact ⟨n % 32, Nat.mod_lt _ (by decide), pk_andN hn 5 (by decide)⟩
theorem sw22 {w v : Int32} (hw : w = v &&& 31) : w = 0 ∨ w = 1 ∨ w = 2 ∨ w = 3 ∨ w = 4 ∨ w = 5 ∨ w = 6 ∨ w = 7 ∨ w = 8 ∨ w = 9 ∨ w = 10 ∨ w = 11 ∨ w = 12 ∨ w = 13 ∨ w = 14 ∨ w = 15 ∨ w = 16 ∨ w = 17 ∨ w = 18 ∨ w = 19 ∨ w = 20 ∨ w = 21 ∨ (21 : Int) < w.toInt := by
  obtain ⟨j, hj, e⟩ := a31 v
  rw [e] at hw
  by_cases h : j < 22
  · rcases (show j = 0 ∨ j = 1 ∨ j = 2 ∨ j = 3 ∨ j = 4 ∨ j = 5 ∨ j = 6 ∨ j = 7 ∨ j = 8 ∨ j = 9 ∨ j = 10 ∨ j = 11 ∨ j = 12 ∨ j = 13 ∨ j = 14 ∨ j = 15 ∨ j = 16 ∨ j = 17 ∨ j = 18 ∨ j = 19 ∨ j = 20 ∨ j = 21 by omega) with e | e | e | e | e | e | e | e | e | e | e | e | e | e | e | e | e | e | e | e | e | e <;> subst e <;> rw [hw] <;> decide
  · have : (21 : Int) < w.toInt := by rw [hw, nI_toInt (by omega)]; omega
    simp [this]
section LAWROWS
variable {G : GT} {Γ : CT} {y : MethodName} {cc : ByteArray} {nL : Nat} {rt : Option FieldType} {Q : State → Prop} {k n : Nat} {h : HP} {pc q : Nat} {lv : List (Option Value)} {st : List Value}
theorem r_sld (C : Cx G Γ y cc nL rt) {b N : Nat} {xs : Nat → Int32} {i : Int32} (hq : pc + 1 = q) (d : decode cc pc = .ok (.iaload, 1)) (hX : va_X b N xs Γ.s Γ.s.heap) (hbl : b < Γ.s.heap.size) (hbA : ¬ G.A b) (hi : vp_in i N) (kk : wX G Γ Q k n h q lv (.int (xs i.toNatClampNeg) :: st)) : wX G Γ Q k n h pc lv (.int i :: .ref b :: st) := by
  subst hq
  exact fun H locs ls a bb c => va_sld C.1 C.2.1 hX hbl hbA bb hi d (kk H locs ls a bb c)
theorem r_sln (C : Cx G Γ y cc nL rt) {b N : Nat} {xs : Nat → Int32} (hq : pc + 1 = q) (d : decode cc pc = .ok (.arraylength, 1)) (hX : va_X b N xs Γ.s Γ.s.heap) (hbl : b < Γ.s.heap.size) (hbA : ¬ G.A b) (kk : wX G Γ Q k n h q lv (.int (nI N) :: st)) : wX G Γ Q k n h pc lv (.ref b :: st) := by
  subst hq
  exact fun H locs ls a bb c => va_slen C.1 C.2.1 hX hbl hbA bb d (kk H locs ls a bb c)
end LAWROWS
def OO (o : Nat) (h : HP) : Prop := h.kd o = (10, 1) ∧ h.gl o = 5000
theorem OO.fm {o : Nat} {A B : List Nat} {h h' : HP} (P : OO o h) (F : Fm A B h h') : OO o h' := ⟨by rw [F.1]; exact P.1, by rw [F.2.2.1]; exact P.2⟩
theorem OO.kc {o : Nat} {h h' : HP} (P : OO o h) (F : Kc h h') : OO o h' := ⟨(F o (by rw [P.1]; decide)).1.trans P.1, (F o (by rw [P.1]; decide)).2.1.trans P.2⟩
theorem rd_step {σ : SG} {be sh : Nat → Nat} {ra : Nat} {tp : List Nat} {lw : LW} {L : List Nat} {p : Nat → Nat} {h h' : HP} {g : Nat} {w z pq s k v : Int32} (HC : CP σ be sh ra tp lw L p h g) (HK : PK σ L)
    (Y : rdP σ w z pq s k → nI σ.n = v ∧ ∃ a L', LCl h'.kd h'.gl h'.fr h'.ar g (σ.n + 1) (upN p σ.n a) L' ∧ CRr (σ.add w.toNatClampNeg z.toNatClampNeg pq.toNatClampNeg s.toNatClampNeg k.toNatClampNeg) h'.fi h'.fr g (upN p σ.n a) ∧ CRc (σ.add w.toNatClampNeg z.toNatClampNeg pq.toNatClampNeg s.toNatClampNeg k.toNatClampNeg) h' g ∧ Srt (σ.add w.toNatClampNeg z.toNatClampNeg pq.toNatClampNeg s.toNatClampNeg k.toNatClampNeg) L') (N : ¬ rdP σ w z pq s k → -1 = v ∧ h = h') (K : Kg h h') :
    ∃ τ L2 p2, v = cif (rdP σ w z pq s k) (nI σ.n) (-1) ∧ CP τ be sh ra tp lw L2 p2 h' g ∧ PK τ L2 ∧ τ = cif (rdP σ w z pq s k) (σ.add w.toNatClampNeg z.toNatClampNeg pq.toNatClampNeg s.toNatClampNeg k.toNatClampNeg) σ := by
  by_cases e : rdP σ w z pq s k
  · obtain ⟨ev, a, L', f1, f2, f3, f4⟩ := Y e
    exact ⟨σ.add w.toNatClampNeg z.toNatClampNeg pq.toNatClampNeg s.toNatClampNeg k.toNatClampNeg, L', _, by rw [cif_t e]; exact ev.symm, CP.ride (n := σ.n + 1) HC K rfl f1 f2 f3, HK.ride e f4, by rw [cif_t e]⟩
  · obtain ⟨ev, rfl⟩ := N e
    exact ⟨σ, L, p, by rw [cif_f e]; exact ev.symm, HC, HK, by rw [cif_f e]⟩
theorem lk_step {σ : SG} {be sh : Nat → Nat} {ra : Nat} {tp : List Nat} {lw : LW} {L : List Nat} {p : Nat → Nat} {h h' : HP} {g m o : Nat} {x w v : Int32} (HC : CP σ be sh ra tp lw L p h g) (HM : MP σ be sh ra tp lw h m) (HO : OO o h) (hy : lkP σ x w → 0 = v ∧ h.rowL o (vp_updL (h.al o) 0 (lookV σ x.toNatClampNeg w).toInt64) = h') (hn : ¬ lkP σ x w → 1 = v ∧ h = h') : v = cif (lkP σ x w) 0 1 ∧ CP σ be sh ra tp lw L p h' g ∧ MP σ be sh ra tp lw h' m ∧ OO o h' ∧ (lkP σ x w → h'.al o 0 = (lookV σ x.toNatClampNeg w).toInt64) := by
  by_cases e : lkP σ x w
  · obtain ⟨ev, rfl⟩ := hy e
    have F : Fm [5000] [] h (h.rowL o (vp_updL (h.al o) 0 (lookV σ x.toNatClampNeg w).toInt64)) := Fm.rowL Fm.rf (by rw [HO.2]; decide)
    exact ⟨by rw [cif_t e]; exact ev.symm, CP.fm F (by decide) (by decide) HC, MP.kc (F.kc (by decide) (by decide)) HM, HO.fm F, fun _ => by rw [al_rowL_eq, pk_uLs]⟩
  · obtain ⟨ev, rfl⟩ := hn e
    exact ⟨by rw [cif_f e]; exact ev.symm, HC, HM, HO, fun q => absurd q e⟩
theorem lk_step2 {σ : SG} {be sh : Nat → Nat} {ra : Nat} {tp : List Nat} {lw : LW} {L : List Nat} {p : Nat → Nat} {h h' : HP} {g m o : Nat} {x w v : Int32} (HC : CP σ be sh ra tp lw L p h g) (HM : MP σ be sh ra tp lw h m) (HO : OO o h) (al : lkP σ x w → h.al o 0 = (lookV σ x.toNatClampNeg w).toInt64) (hy : lkP σ x w → lookV σ x.toNatClampNeg w = v ∧ h.setI 448 m 0 = h') (hn : ¬ lkP σ x w → h.setI 448 m 1 = h') : h'.fi 448 m = cif (lkP σ x w) 0 1 ∧ CP σ be sh ra tp lw L p h' g ∧ MP σ be sh ra tp lw h' m ∧ OO o h' ∧ (lkP σ x w → h'.al o 0 = v.toInt64) := by
  by_cases e : lkP σ x w
  · obtain ⟨ev, rfl⟩ := hy e
    exact ⟨by rw [cif_t e, fi_eq], HC.s8, HM.s8, HO, fun _ => by rw [← ev]; exact al e⟩
  · have e2 := hn e
    subst e2
    exact ⟨by rw [cif_f e, fi_eq], HC.s8, HM.s8, HO, fun q => absurd q e⟩
theorem cif01 {P : Prop} : (cif P (0 : Int32) 1 = 0 ↔ P) := by
  by_cases e : P
  · rw [cif_t e]; exact ⟨fun _ => e, fun _ => rfl⟩
  · rw [cif_f e]; exact ⟨fun q => absurd q (by decide), fun q => absurd q e⟩
theorem lcmp_s (a : Int64) : lg_cmp a a = 0 := by
  unfold lg_cmp
  rw [if_neg (Int64.lt_irrefl)]
  simp

