/-! ===== String constants: their rows ===== -/
theorem ws_9 : Cond.fieldLink RJ0 9 "java/lang/String" "value" "[B" ∈ WS := List.mem_filter.mpr ⟨List.mem_of_getElem? (i := 1330) (by decide +kernel), by decide +kernel⟩
theorem ws_15 : Cond.fieldLink RJ0 15 "java/lang/String" "coder" "B" ∈ WS := List.mem_filter.mpr ⟨List.mem_of_getElem? (i := 1331) (by decide +kernel), by decide +kernel⟩
theorem ws_38 : Cond.fieldLink RJ0 38 "java/lang/String" "COMPACT_STRINGS" "Z" ∈ WS := List.mem_filter.mpr ⟨List.mem_of_getElem? (i := 577) (by decide +kernel), by decide +kernel⟩
theorem ws_1053 : Cond.fieldLink RJ0 1053 "jdk/internal/util/Preconditions" "SIOOBE_FORMATTER" "Ljava/util/function/BiFunction;" ∈ WS := List.mem_filter.mpr ⟨List.mem_of_getElem? (i := 593) (by decide +kernel), by decide +kernel⟩
theorem r_sval {G : GT} {Γ : CT} {y : MethodName} {cc : ByteArray} {nL : Nat} {rt : Option FieldType} {Q : State → Prop} {k n : Nat} {h : HP} {pc q : Nat} {lv : List (Option Value)} {st : List Value} (C : Cx G Γ y cc nL rt) {i j : Nat} (hq : pc + 3 = q) (d : decode cc pc = .ok (.getfield i, 3)) (hw : Cond.fieldLink y.cls i "java/lang/String" "value" "[B" ∈ WS) (hj : j < 12) (kk : wX G Γ Q k n h q lv (.ref (G.aV j) :: st)) : wX G Γ Q k n h pc lv (.ref (G.aK j) :: st) := by
  subst hq
  exact fun H locs ls a b c => vk_getf C.1 C.2.1 (C.2.2.2.2.2.2.2.2.2.1.1.1 j hj).2.2.1 b C.2.2.2.1 (C.2.2.2.2.1 _ hw) (fun _ h => h) d (kk H locs ls a b c)
theorem r_scod {G : GT} {Γ : CT} {y : MethodName} {cc : ByteArray} {nL : Nat} {rt : Option FieldType} {Q : State → Prop} {k n : Nat} {h : HP} {pc q : Nat} {lv : List (Option Value)} {st : List Value} (C : Cx G Γ y cc nL rt) {i j : Nat} (hq : pc + 3 = q) (d : decode cc pc = .ok (.getfield i, 3)) (hw : Cond.fieldLink y.cls i "java/lang/String" "coder" "B" ∈ WS) (hj : j < 12) (kk : wX G Γ Q k n h q lv (.int 0 :: st)) : wX G Γ Q k n h pc lv (.ref (G.aK j) :: st) := by
  subst hq
  exact fun H locs ls a b c => vk_getf C.1 C.2.1 (C.2.2.2.2.2.2.2.2.2.1.1.1 j hj).2.1 b C.2.2.2.1 (C.2.2.2.2.1 _ hw) (fun _ h => h) d (kk H locs ls a b c)
theorem r_slen {G : GT} {Γ : CT} {y : MethodName} {cc : ByteArray} {nL : Nat} {rt : Option FieldType} {Q : State → Prop} {k n : Nat} {h : HP} {pc q : Nat} {lv : List (Option Value)} {st : List Value} (C : Cx G Γ y cc nL rt) {j : Nat} (hq : pc + 1 = q) (d : decode cc pc = .ok (.arraylength, 1)) (hj : j < 12) (kk : wX G Γ Q k n h q lv (.int (nI (st_len.getD j 0)) :: st)) : wX G Γ Q k n h pc lv (.ref (G.aV j) :: st) := by
  subst hq
  exact fun H locs ls a b c => va_tlen C.1 C.2.1 (C.2.2.2.2.2.2.2.2.2.1.1.1 j hj).2.2.2 b rfl d (kk H locs ls a b c)
theorem r_sbal {G : GT} {Γ : CT} {y : MethodName} {cc : ByteArray} {nL : Nat} {rt : Option FieldType} {Q : State → Prop} {k n : Nat} {h : HP} {pc q : Nat} {lv : List (Option Value)} {st : List Value} (C : Cx G Γ y cc nL rt) {j : Nat} {i : Int32} (hq : pc + 1 = q) (d : decode cc pc = .ok (.baload, 1)) (hj : j < 12) (hi : vp_in i (st_len.getD j 0)) (kk : wX G Γ Q k n h q lv (.int ((st_byt.getD j []).getD i.toNatClampNeg 0) :: st)) : wX G Γ Q k n h pc lv (.int i :: .ref (G.aV j) :: st) := by
  subst hq
  exact fun H locs ls a b c => va_tb C.1 C.2.1 (C.2.2.2.2.2.2.2.2.2.1.1.1 j hj).2.2.2 b hi rfl d (kk H locs ls a b c)
theorem r_gcs {G : GT} {Γ : CT} {y : MethodName} {cc : ByteArray} {nL : Nat} {rt : Option FieldType} {Q : State → Prop} {k n : Nat} {h : HP} {pc q : Nat} {lv : List (Option Value)} {st : List Value} (C : Cx G Γ y cc nL rt) {i : Nat} (hq : pc + 3 = q) (d : decode cc pc = .ok (.getstatic i, 3)) (hw : Cond.fieldLink y.cls i "java/lang/String" "COMPACT_STRINGS" "Z" ∈ WS) (kk : wX G Γ Q k n h q lv (.int 1 :: st)) : wX G Γ Q k n h pc lv st := by
  subst hq
  exact fun H locs ls a b c => va_gets C.1 C.2.1 C.2.2.2.2.2.2.2.2.2.1.2.1 b C.2.2.2.1 (C.2.2.2.2.1 _ hw) (fun _ h => h) d (kk H locs ls a b c)
theorem r_gsf {G : GT} {Γ : CT} {y : MethodName} {cc : ByteArray} {nL : Nat} {rt : Option FieldType} {Q : State → Prop} {k n : Nat} {h : HP} {pc q : Nat} {lv : List (Option Value)} {st : List Value} (C : Cx G Γ y cc nL rt) {i : Nat} (hq : pc + 3 = q) (d : decode cc pc = .ok (.getstatic i, 3)) (hw : Cond.fieldLink y.cls i "jdk/internal/util/Preconditions" "SIOOBE_FORMATTER" "Ljava/util/function/BiFunction;" ∈ WS) (kk : ∀ w : Value, w.category = 1 → wX G Γ Q k n h q lv (w :: st)) : wX G Γ Q k n h pc lv st := by
  subst hq
  intro H locs ls a b c
  rcases C.2.2.2.2.2.2.2.2.2.1.2.2.1 with z | ⟨t, z⟩
  · exact va_gets C.1 C.2.1 z b C.2.2.2.1 (C.2.2.2.2.1 _ hw) (fun _ h => h) d (kk _ rfl H locs ls a b c)
  · exact va_gets C.1 C.2.1 z b C.2.2.2.1 (C.2.2.2.2.1 _ hw) (fun _ h => h) d (kk _ rfl H locs ls a b c)
theorem lvE_w (n : Nat) {w : Value} (hw : w.category = 1) (vs : List Value) : lvE n (w :: vs) = some w :: lvE (n - 1) vs := by simp [lvE, hw]
theorem lgl_w {w : Value} (hw : w.category = 1) (vs : List Value) : (lg_sl (w :: vs)).length = 1 + (lg_sl vs).length := by simp [lg_sl, hw]; omega
theorem r_callVS {G : GT} {Γ : CT} {y : MethodName} {cc : ByteArray} {nL : Nat} {rt : Option FieldType} {Q : State → Prop} {k n : Nat} {h : HP} {pc q : Nat} {lv : List (Option Value)} {st : List Value} {lev mc ms : Nat} {post : Option Value → HP → Prop} {lev' mc' ms' nL' np i j : Nat} {y' : MethodName} {cc' : ByteArray} {rt' : Option FieldType} {As : List Value} (C : Cx G Γ y cc nL rt) (R : Rm Γ lev mc ms) (hq : pc + 3 = q) (d : decode cc pc = .ok (.invokevirtual i, 3))
    (L : LkV y.cls i y' cc' nL' rt' np)
    (hM : Con G lev' mc' ms' y' cc' nL' rt' (.ref (G.aK j) :: As) h post) (hlev : lev' < lev) (hmc : k + mc' ≤ mc) (hms : n + ms' ≤ ms) (hn : As.length = np) (hst : (st.map fun v => v.category).sum ≤ 8) (hy : y'.cls = "java/lang/String") (hj : j < 12)
    (kk : ∀ v h', post v h' → wX G Γ Q (k + mc') (n + ms') h' q lv (v.toList ++ st)) : wX G Γ Q k n h pc lv (As.reverse ++ .ref (G.aK j) :: st) := by
  refine wX_run (av := (.ref (G.aK j) :: As).toArray) hq (fun H locs ls aa bb cl => ?_) kk
  obtain ⟨hw1, hw2, hw3, hw4, hw5, hd, hnl⟩ := L
  have hts := C.2.2.2.2.1
  have hM' : Met G.l y' (.code y' cc' nL' rt' :: WS) (rmm lev' mc' ms') (va_Pc (.ref (G.aK j) :: As) (PreU G h)) (QC G post) mc' ms' G.A := hM
  have hrc : ∃ cell : Cell, H[G.aK j]? = some cell ∧ cell.vm.isStatics = false ∧ Γ.s.vm.findClass y'.cls = some cell.cls := by rw [hy]; exact vk_recv C.2.2.2.2.2.2.2.2.2.1.1 hj bb
  exact va_runV (As := As) (Ts := WS) ⟨C.1, C.2.1, C.2.2.1, C.2.2.2.1, hts⟩ hM' ⟨callB_of np hts (ws_code hw5) rfl rfl rfl (hts _ hw4) (hts _ hw1) (okCall_spec hd) (rm_ok R hlev hnl), hts _ hw2, hts _ hw3⟩
    ⟨pre_blind, hrc, fun U hU hW => ⟨rfl, pre_of C aa bb U hU hW⟩⟩ rfl hn (cl.1.trans C.2.2.1) rfl (lv_room hst) d ⟨Nat.le_trans hmc R.2.1, Nat.le_trans hms R.2.2.1⟩
theorem cVS0I {G : GT} {Γ : CT} {y : MethodName} {cc : ByteArray} {nL : Nat} {rt : Option FieldType} {Q : State → Prop} {k n : Nat} {h : HP} {pc q : Nat} {lv : List (Option Value)} {st : List Value} {lev mc ms : Nat} {lev' mc' ms' nL' np i j : Nat} {y' : MethodName} {cc' : ByteArray} {rt' : Option FieldType} {P : Int32 → HP → Prop} (C : Cx G Γ y cc nL rt) (R : Rm Γ lev mc ms) (hq : pc + 3 = q) (d : decode cc pc = .ok (.invokevirtual i, 3)) (L : LkV y.cls i y' cc' nL' rt' np) (hM : Con G lev' mc' ms' y' cc' nL' rt' (.ref (G.aK j) :: []) h (PI P)) (hlev : lev' < lev) (hmc : k + mc' ≤ mc) (hms : n + ms' ≤ ms) (hn : 0 = np) (hst : (st.map fun v => v.category).sum ≤ 8) (hy : y'.cls = "java/lang/String") (hj : j < 12) (kk : ∀ r h', P r h' → wX G Γ Q (k + mc') (n + ms') h' q lv (.int r :: st)) : wX G Γ Q k n h pc lv (.ref (G.aK j) :: st) := by
  exact r_callVS (As := []) C R hq d L hM hlev hmc hms hn hst hy hj (fun v h' hp => by obtain ⟨r, rfl, hp⟩ := hp; exact kk r h' hp)
theorem cVS1I {G : GT} {Γ : CT} {y : MethodName} {cc : ByteArray} {nL : Nat} {rt : Option FieldType} {Q : State → Prop} {k n : Nat} {h : HP} {pc q : Nat} {lv : List (Option Value)} {st : List Value} {lev mc ms : Nat} {lev' mc' ms' nL' np i j : Nat} {y' : MethodName} {cc' : ByteArray} {rt' : Option FieldType} {v1 : Value} {P : Int32 → HP → Prop} (C : Cx G Γ y cc nL rt) (R : Rm Γ lev mc ms) (hq : pc + 3 = q) (d : decode cc pc = .ok (.invokevirtual i, 3)) (L : LkV y.cls i y' cc' nL' rt' np) (hM : Con G lev' mc' ms' y' cc' nL' rt' (.ref (G.aK j) :: [v1]) h (PI P)) (hlev : lev' < lev) (hmc : k + mc' ≤ mc) (hms : n + ms' ≤ ms) (hn : 1 = np) (hst : (st.map fun v => v.category).sum ≤ 8) (hy : y'.cls = "java/lang/String") (hj : j < 12) (kk : ∀ r h', P r h' → wX G Γ Q (k + mc') (n + ms') h' q lv (.int r :: st)) : wX G Γ Q k n h pc lv (v1 :: .ref (G.aK j) :: st) := by
  exact r_callVS (As := [v1]) C R hq d L hM hlev hmc hms hn hst hy hj (fun v h' hp => by obtain ⟨r, rfl, hp⟩ := hp; exact kk r h' hp)
def wj (j : Nat) : Nat := (j + 4) % 10
theorem sl_wd {j : Nat} (h : j < 10) : st_len.getD j 0 = (wd (wj j)).length := (by decide +kernel : ∀ j : Fin 10, st_len.getD j.val 0 = (wd (wj j.val)).length) ⟨j, h⟩
theorem wd_len {w : Nat} (h : w < 10) : (wd w).length < 10 := (by decide +kernel : ∀ w : Fin 10, (wd w.val).length < 10) ⟨w, h⟩
theorem wj_lt (j : Nat) : wj j < 10 := Nat.mod_lt _ (by decide)
theorem sb_wd {j k : Nat} (h : j < 10) (hk : k < (wd (wj j)).length) : (((st_byt.getD j []).getD k 0 &&& 255).toUInt32 % 65536).toInt32 = nI ((wd (wj j)).getD k 0) ∧ narrow .char (.int (nI ((wd (wj j)).getD k 0))) = .int (nI ((wd (wj j)).getD k 0)) ∧ (wd (wj j)).getD k 0 < 127 := (by decide +kernel : ∀ (j : Fin 10) (k : Fin 10), k.val < (wd (wj j.val)).length → (((st_byt.getD j.val []).getD k.val 0 &&& 255).toUInt32 % 65536).toInt32 = nI ((wd (wj j.val)).getD k.val 0) ∧ narrow .char (.int (nI ((wd (wj j.val)).getD k.val 0))) = .int (nI ((wd (wj j.val)).getD k.val 0)) ∧ (wd (wj j.val)).getD k.val 0 < 127) ⟨j, h⟩ ⟨k, Nat.lt_trans hk (wd_len (wj_lt j))⟩ hk
theorem shr0 {a : Nat} (h : a < 10) : nI a >>> ((0 : Int32) &&& 31) = nI a := (by decide : ∀ a : Fin 10, nI a.val >>> ((0 : Int32) &&& 31) = nI a.val) ⟨a, h⟩
theorem wl_len (s : Nat → Nat) (k e : Nat) : (wl s k e).length = e - k := by simp [wl]
theorem wl_get {s : Nat → Nat} {k e j : Nat} (h : j < e - k) : (wl s k e).getD j 0 = s (k + j) := by
  unfold wl; rw [List.getD_eq_getElem?_getD, List.getElem?_map, List.getElem?_range h]; rfl
theorem hw_yes {s : Nat → Nat} {k e : Nat} {l : List Nat} (h1 : e - k = l.length) (h2 : ∀ j, j < l.length → s (k + j) = l.getD j 0) : wl s k e = l := by
  apply List.ext_getElem?
  intro j
  by_cases hj : j < l.length
  · have e1 := wl_get (s := s) (k := k) (e := e) (j := j) (by omega)
    rw [h2 j hj, List.getD_eq_getElem?_getD, List.getD_eq_getElem?_getD, List.getElem?_eq_getElem hj, List.getElem?_eq_getElem (by rw [wl_len]; omega)] at e1
    rw [List.getElem?_eq_getElem hj, List.getElem?_eq_getElem (by rw [wl_len]; omega)]
    exact congrArg some e1
  · rw [List.getElem?_eq_none (by rw [wl_len]; omega), List.getElem?_eq_none (by omega)]
theorem hw_no {s : Nat → Nat} {k e j : Nat} {l : List Nat} (hj : j < e - k) (h : ¬ s (k + j) = l.getD j 0) : ¬ wl s k e = l := fun q => h (by rw [← q, wl_get hj])


theorem c_J0_coder_7d493 {G : GT} {h : HP} {j : Nat} (hj : j < 12) : Con G 1 0 0 yJ0_coder_7d493 cJ0_coder_7d493 1 (some .byte) [.ref (G.aK j)] h (PI (fun v h' => 0 = v ∧ h = h')) := by
  refine Con.of (lv := [some (.ref (G.aK j))]) (by decide) (by simp only [lvE_r, lvE_i, lvE_l, lvE_s, lvE_0]; rfl) (by simp only [lgl_r, lgl_i, lgl_l, lgl_s, lgl_0]; decide) (fun Γ C R => ?_)
  generalize hPP : (PI (fun v h' => 0 = v ∧ h = h')) = PP
  refine r_gcs (q := 3) C rfl (by decide +kernel) ws_38 ?_
  refine r_if_eq (q := 6) (off := 10) (tgt := 13) C rfl (by decide +kernel) (by decide) (fun c3 => ?_) (fun c3 => ?_)
  · exact absurd c3 (by decide)
  · refine r_aload_nS (q := 7) (z := 0) C 0 rfl (by decide +kernel) rfl rfl ?_
    refine r_scod (q := 10) C rfl (by decide +kernel) ws_15 hj ?_
    refine r_goto (off := 4) (tgt := 14) C (by decide +kernel) (by decide) ?_
    exact r_zret C (by decide +kernel) rfl rfl (by decide) (by decide) (eqP hPP ⟨_, rfl, ⟨rfl, rfl⟩⟩)
theorem c_J0_isLatin1_aae02 {G : GT} {h : HP} {j : Nat} (hj : j < 12) : Con G 1 0 0 yJ0_isLatin1_aae02 cJ0_isLatin1_aae02 1 (some .boolean) [.ref (G.aK j)] h (PI (fun v h' => 1 = v ∧ h = h')) := by
  refine Con.of (lv := [some (.ref (G.aK j))]) (by decide) (by simp only [lvE_r, lvE_i, lvE_l, lvE_s, lvE_0]; rfl) (by simp only [lgl_r, lgl_i, lgl_l, lgl_s, lgl_0]; decide) (fun Γ C R => ?_)
  generalize hPP : (PI (fun v h' => 1 = v ∧ h = h')) = PP
  refine r_gcs (q := 3) C rfl (by decide +kernel) ws_38 ?_
  refine r_if_eq (q := 6) (off := 14) (tgt := 17) C rfl (by decide +kernel) (by decide) (fun c3 => ?_) (fun c3 => ?_)
  · exact absurd c3 (by decide)
  · refine r_aload_nS (q := 7) (z := 0) C 0 rfl (by decide +kernel) rfl rfl ?_
    refine r_scod (q := 10) C rfl (by decide +kernel) ws_15 hj ?_
    refine r_if_ne (q := 13) (off := 7) (tgt := 17) C rfl (by decide +kernel) (by decide) (fun c10 => ?_) (fun c10 => ?_)
    · exact absurd rfl c10
    · refine r_iconst (q := 14) (z := 1) (v := 1) C rfl (by decide +kernel) (by decide) ?_
      refine r_goto (off := 4) (tgt := 18) C (by decide +kernel) (by decide) ?_
      exact r_zret C (by decide +kernel) rfl (by first | decide | exact b2i_nar _) (by decide) (by decide) (eqP hPP ⟨_, rfl, ⟨rfl, rfl⟩⟩)
theorem c_J0_length_8abf5 {G : GT} {h : HP} {j : Nat} (hj : j < 10) : Con G 2 0 0 yJ0_length_8abf5 cJ0_length_8abf5 1 (some .int) [.ref (G.aK j)] h (PI (fun v h' => nI (wd (wj j)).length = v ∧ h = h')) := by
  refine Con.of (lv := [some (.ref (G.aK j))]) (by decide) (by simp only [lvE_r, lvE_i, lvE_l, lvE_s, lvE_0]; rfl) (by simp only [lgl_r, lgl_i, lgl_l, lgl_s, lgl_0]; decide) (fun Γ C R => ?_)
  generalize hPP : (PI (fun v h' => nI (wd (wj j)).length = v ∧ h = h')) = PP
  have h10 := wd_len (wj_lt j)
  refine r_aload_nS (q := 1) (z := 0) C 0 rfl (by decide +kernel) rfl rfl ?_
  refine r_sval (q := 4) C rfl (by decide +kernel) ws_9 (by omega) ?_
  refine r_slen (q := 5) C rfl (by decide +kernel) (by omega) ?_
  rw [sl_wd hj]
  refine r_aload_nS (q := 6) (z := 0) C 0 rfl (by decide +kernel) rfl rfl ?_
  refine cVS0I (q := 9) C R rfl (by decide +kernel) lk_J0_335 (c_J0_coder_7d493 (by omega)) (by decide) (by decide) (by decide) rfl (by first | exact Nat.le_of_ble_eq_true rfl | (simp only [List.map_cons, List.map_nil, List.sum_cons, List.sum_nil, rv_cat]; exact Nat.le_of_ble_eq_true rfl)) rfl (by omega) ?_
  rintro _ _ ⟨rfl, rfl⟩
  refine r_ishr (q := 10) C rfl (by decide +kernel) ?_
  rw [shr0 h10]
  exact r_iret C (by decide +kernel) rfl (by decide) (by decide) (eqP hPP ⟨_, rfl, ⟨rfl, rfl⟩⟩)
theorem c_J3_checkIndex_8e157 {G : GT} {h : HP} {i z : Nat} {w : Value} (hw : w.category = 1) (hi : i < z) (hz : z < 2 ^ 31) : Con G 1 0 0 yJ3_checkIndex_8e157 cJ3_checkIndex_8e157 3 (some .int) [.int (nI i), .int (nI z), w] h (PI (fun v h' => nI i = v ∧ h = h')) := by
  refine Con.of (lv := [some (.int (nI i)), some (.int (nI z)), some w]) (by decide) (by simp only [lvE_i, lvE_w _ hw, lvE_0]; rfl) (by simp only [lgl_i, lgl_w hw, lgl_0]; decide) (fun Γ C R => ?_)
  generalize hPP : (PI (fun v h' => nI i = v ∧ h = h')) = PP
  refine r_iload_n (q := 1) (z := 0) C 0 rfl (by decide +kernel) rfl rfl ?_
  refine r_if_lt (q := 4) (off := 8) (tgt := 9) C rfl (by decide +kernel) (by decide) (fun c1 => ?_) (fun c1 => ?_)
  · exact absurd c1 (nI_pos (by omega))
  · refine r_iload_n (q := 5) (z := 0) C 0 rfl (by decide +kernel) rfl rfl ?_
    refine r_iload_n (q := 6) (z := 1) C 1 rfl (by decide +kernel) rfl rfl ?_
    refine r_icmp_lt (q := 9) (off := 10) (tgt := 16) C rfl (by decide +kernel) (by decide) (fun c6 => ?_) (fun c6 => ?_)
    · refine r_iload_n (q := 17) (z := 0) C 0 rfl (by decide +kernel) rfl rfl ?_
      exact r_iret C (by decide +kernel) rfl (by decide) (by decide) (eqP hPP ⟨_, rfl, ⟨rfl, rfl⟩⟩)
    · exact absurd (nI_lt hi hz) c6
theorem c_J0_checkIndex_df160 {G : GT} {h : HP} {i z : Nat} (hi : i < z) (hz : z < 2 ^ 31) : Con G 2 0 0 yJ0_checkIndex_df160 cJ0_checkIndex_df160 2 none [.int (nI i), .int (nI z)] h (PV (fun h' => h = h')) := by
  refine Con.of (lv := [some (.int (nI i)), some (.int (nI z))]) (by decide) (by simp only [lvE_r, lvE_i, lvE_l, lvE_s, lvE_0]; rfl) (by simp only [lgl_r, lgl_i, lgl_l, lgl_s, lgl_0]; decide) (fun Γ C R => ?_)
  generalize hPP : (PV (fun h' => h = h')) = PP
  refine r_iload_n (q := 1) (z := 0) C 0 rfl (by decide +kernel) rfl rfl ?_
  refine r_iload_n (q := 2) (z := 1) C 1 rfl (by decide +kernel) rfl rfl ?_
  refine r_gsf (q := 5) C rfl (by decide +kernel) ws_1053 (fun w hw => ?_)
  refine cS3I (q := 8) C R rfl (by decide +kernel) lk_J0_1059 (c_J3_checkIndex_8e157 hw hi hz) (by decide) (by decide) (by decide) rfl (by first | exact Nat.le_of_ble_eq_true rfl | (simp only [List.map_cons, List.map_nil, List.sum_cons, List.sum_nil, rv_cat]; exact Nat.le_of_ble_eq_true rfl))  ?_
  rintro _ _ ⟨rfl, rfl⟩
  refine r_pop (q := 9) C rfl (by decide +kernel) (by first | rfl | exact rv_cat _) ?_
  exact r_ret C (by decide +kernel) rfl (by decide) (by decide) (eqP hPP ⟨rfl, rfl⟩)
theorem c_J1_charAt_3b067 {G : GT} {h : HP} {j k : Nat} (hj : j < 10) (hk : k < (wd (wj j)).length) : Con G 3 0 0 yJ1_charAt_3b067 cJ1_charAt_3b067 2 (some .char) [.ref (G.aV j), .int (nI k)] h (PI (fun v h' => nI ((wd (wj j)).getD k 0) = v ∧ h = h')) := by
  refine Con.of (lv := [some (.ref (G.aV j)), some (.int (nI k))]) (by decide) (by simp only [lvE_r, lvE_i, lvE_l, lvE_s, lvE_0]; rfl) (by simp only [lgl_r, lgl_i, lgl_l, lgl_s, lgl_0]; decide) (fun Γ C R => ?_)
  generalize hPP : (PI (fun v h' => nI ((wd (wj j)).getD k 0) = v ∧ h = h')) = PP
  have h10 := wd_len (wj_lt j)
  obtain ⟨b1, b2, b3⟩ := sb_wd hj hk
  refine r_iload_n (q := 1) (z := 1) C 1 rfl (by decide +kernel) rfl rfl ?_
  refine r_aload_nS (q := 2) (z := 0) C 0 rfl (by decide +kernel) rfl rfl ?_
  refine r_slen (q := 3) C rfl (by decide +kernel) (by omega) ?_
  rw [sl_wd hj]
  refine cS2V (q := 6) C R rfl (by decide +kernel) lk_J1_9 (c_J0_checkIndex_df160 hk (by omega)) (by decide) (by decide) (by decide) rfl (by first | exact Nat.le_of_ble_eq_true rfl | (simp only [List.map_cons, List.map_nil, List.sum_cons, List.sum_nil, rv_cat]; exact Nat.le_of_ble_eq_true rfl))  ?_
  rintro _ rfl
  refine r_aload_nS (q := 7) (z := 0) C 0 rfl (by decide +kernel) rfl rfl ?_
  refine r_iload_n (q := 8) (z := 1) C 1 rfl (by decide +kernel) rfl rfl ?_
  refine r_sbal (q := 9) C rfl (by decide +kernel) (by omega) (by rw [sl_wd hj]; exact vp_in_nI hk (by omega)) ?_
  rw [nI_clamp (by omega)]
  refine r_sipush (q := 12) (z := 255) (v := 255) C rfl (by decide +kernel) (by decide) ?_
  refine r_iand (q := 13) C rfl (by decide +kernel) ?_
  refine r_i2c (q := 14) C rfl (by decide +kernel) ?_
  rw [b1]
  exact r_zret C (by decide +kernel) rfl b2 (by decide) (by decide) (eqP hPP ⟨_, rfl, ⟨rfl, rfl⟩⟩)
theorem c_J0_charAt_5068e {G : GT} {h : HP} {j k : Nat} (hj : j < 10) (hk : k < (wd (wj j)).length) : Con G 4 0 0 yJ0_charAt_5068e cJ0_charAt_5068e 2 (some .char) [.ref (G.aK j), .int (nI k)] h (PI (fun v h' => nI ((wd (wj j)).getD k 0) = v ∧ h = h')) := by
  refine Con.of (lv := [some (.ref (G.aK j)), some (.int (nI k))]) (by decide) (by simp only [lvE_r, lvE_i, lvE_l, lvE_s, lvE_0]; rfl) (by simp only [lgl_r, lgl_i, lgl_l, lgl_s, lgl_0]; decide) (fun Γ C R => ?_)
  generalize hPP : (PI (fun v h' => nI ((wd (wj j)).getD k 0) = v ∧ h = h')) = PP
  obtain ⟨b1, b2, b3⟩ := sb_wd hj hk
  refine r_aload_nS (q := 1) (z := 0) C 0 rfl (by decide +kernel) rfl rfl ?_
  refine cVS0I (q := 4) C R rfl (by decide +kernel) lk_J0_492 (c_J0_isLatin1_aae02 (by omega)) (by decide) (by decide) (by decide) rfl (by first | exact Nat.le_of_ble_eq_true rfl | (simp only [List.map_cons, List.map_nil, List.sum_cons, List.sum_nil, rv_cat]; exact Nat.le_of_ble_eq_true rfl)) rfl (by omega) ?_
  rintro _ _ ⟨rfl, rfl⟩
  refine r_if_eq (q := 7) (off := 12) (tgt := 16) C rfl (by decide +kernel) (by decide) (fun c4 => ?_) (fun c4 => ?_)
  · exact absurd c4 (by decide)
  · refine r_aload_nS (q := 8) (z := 0) C 0 rfl (by decide +kernel) rfl rfl ?_
    refine r_sval (q := 11) C rfl (by decide +kernel) ws_9 (by omega) ?_
    refine r_iload_n (q := 12) (z := 1) C 1 rfl (by decide +kernel) rfl rfl ?_
    refine cS2I (q := 15) C R rfl (by decide +kernel) lk_J0_495 (c_J1_charAt_3b067 hj hk) (by decide) (by decide) (by decide) rfl (by first | exact Nat.le_of_ble_eq_true rfl | (simp only [List.map_cons, List.map_nil, List.sum_cons, List.sum_nil, rv_cat]; exact Nat.le_of_ble_eq_true rfl))  ?_
    rintro _ _ ⟨rfl, rfl⟩
    exact r_zret C (by decide +kernel) rfl b2 (by decide) (by decide) (eqP hPP ⟨_, rfl, ⟨rfl, rfl⟩⟩)
theorem c_X5_hasWord {G : GT} {h : HP} {a j s e : Nat} {tp : List Nat} (hk5 : h.kd a = (0, 5)) (hs : h.kd (h.fr 320 a) = (8, 600)) (T : TpC tp h a) (hj : j < 10) (hs0 : s ≤ e) (he : e ≤ 700) : Con G 5 0 0 yX5_hasWord cX5_hasWord 5 (some .boolean) [rv a, .ref (G.aK j), .int (nI s), .int (nI e)] h (PI (fun v h' => b2i (decide (wl (sg tp) s e = wd (wj j))) = v ∧ h = h')) := by
  refine Con.of (lv := [some (rv a), some (.ref (G.aK j)), some (.int (nI s)), some (.int (nI e)), none]) (by decide) (by simp only [lvE_r, lvE_i, lvE_l, lvE_s, lvE_0]; rfl) (by simp only [lgl_r, lgl_i, lgl_l, lgl_s, lgl_0]; decide) (fun Γ C R => ?_)
  generalize hPP : (PI (fun v h' => b2i (decide (wl (sg tp) s e = wd (wj j))) = v ∧ h = h')) = PP
  have h10 := wd_len (wj_lt j)
  refine r_iload_n (q := 1) (z := 3) C 3 rfl (by decide +kernel) rfl rfl ?_
  refine r_iload_n (q := 2) (z := 2) C 2 rfl (by decide +kernel) rfl rfl ?_
  refine r_isub (q := 3) C rfl (by decide +kernel) ?_
  rw [pk_sub hs0]
  refine r_aload_nS (q := 4) (z := 1) C 1 rfl (by decide +kernel) rfl rfl ?_
  refine cVS0I (q := 7) C R rfl (by decide +kernel) lk_X5_29 (c_J0_length_8abf5 hj) (by decide) (by decide) (by decide) rfl (by first | exact Nat.le_of_ble_eq_true rfl | (simp only [List.map_cons, List.map_nil, List.sum_cons, List.sum_nil, rv_cat]; exact Nat.le_of_ble_eq_true rfl)) rfl (by omega) ?_
  rintro _ _ ⟨rfl, rfl⟩
  refine r_icmp_eq (q := 10) (off := 5) (tgt := 12) C rfl (by decide +kernel) (by decide) (fun c7 => ?_) (fun c7 => ?_)
  · have el := (nI_eq (by omega) (by omega)).mp c7
    refine r_iconst (q := 13) (z := 0) (v := 0) C rfl (by decide +kernel) (by decide) ?_
    refine r_istore (q := 15) C 4 rfl (by decide +kernel) (by decide) (by first | rfl | exact okst_rv rfl) ?_
    dsimp only [List.set]
    have L15 : ∀ (fuel15 : Nat) (k : Nat), (wd (wj j)).length - k < fuel15 → (k ≤ (wd (wj j)).length) → (∀ i, i < k → sg tp (s + i) = (wd (wj j)).getD i 0) → wX G Γ (qM G Γ PP 0 0) 0 0 (h) 15 [some (rv a), some (.ref (G.aK j)), some (.int (nI s)), some (.int (nI e)), some (.int (nI k))] [] := by
      intro fuel15
      induction fuel15 with
      | zero =>
        intro k hm15
        exact absurd hm15 (Nat.not_lt_zero _)
      | succ fuel15 ih15 =>
        intro k hm15 hkl hal
        refine r_iload (q := 17) C 4 rfl (by decide +kernel) rfl ?_
        refine r_aload_nS (q := 18) (z := 1) C 1 rfl (by decide +kernel) rfl rfl ?_
        refine cVS0I (q := 21) C R rfl (by decide +kernel) lk_X5_29 (c_J0_length_8abf5 hj) (by decide) (by decide) (by decide) rfl (by first | exact Nat.le_of_ble_eq_true rfl | (simp only [List.map_cons, List.map_nil, List.sum_cons, List.sum_nil, rv_cat]; exact Nat.le_of_ble_eq_true rfl)) rfl (by omega) ?_
        rintro _ _ ⟨rfl, rfl⟩
        refine r_icmp_ge (q := 24) (off := 28) (tgt := 49) C rfl (by decide +kernel) (by decide) (fun c21 => ?_) (fun c21 => ?_)
        · have ek : k = (wd (wj j)).length := by have := (nI_leI (by omega) (by omega)).mp c21; omega
          refine r_iconst (q := 50) (z := 1) (v := 1) C rfl (by decide +kernel) (by decide) ?_
          exact r_zret C (by decide +kernel) rfl (by first | decide | exact b2i_nar _) (by decide) (by decide) (eqP hPP ⟨_, rfl, ⟨bt (hw_yes el (by rw [← ek]; exact hal)), rfl⟩⟩)
        · have hk : k < (wd (wj j)).length := Nat.lt_of_not_le (fun q => c21 (nI_le q (by omega)))
          refine r_aload_n (q := 25) (z := 0) C 0 rfl (by decide +kernel) rfl rfl ?_
          refine r_iload_n (q := 26) (z := 2) C 2 rfl (by decide +kernel) rfl rfl ?_
          refine r_iload (q := 28) C 4 rfl (by decide +kernel) rfl ?_
          refine r_iadd (q := 29) C rfl (by decide +kernel) ?_
          rw [nI_add]
          refine cV1I (q := 32) C R rfl (by decide +kernel) lk_X5_25 (c_X5_signAt hk5 hs T (by omega)) (by decide) (by decide) (by decide) rfl (by first | exact Nat.le_of_ble_eq_true rfl | (simp only [List.map_cons, List.map_nil, List.sum_cons, List.sum_nil, rv_cat]; exact Nat.le_of_ble_eq_true rfl)) rfl hk5 ?_
          rintro _ _ ⟨rfl, rfl⟩
          refine r_aload_nS (q := 33) (z := 1) C 1 rfl (by decide +kernel) rfl rfl ?_
          refine r_iload (q := 35) C 4 rfl (by decide +kernel) rfl ?_
          refine cVS1I (q := 38) C R rfl (by decide +kernel) lk_X5_34 (c_J0_charAt_5068e hj hk) (by decide) (by decide) (by decide) rfl (by first | exact Nat.le_of_ble_eq_true rfl | (simp only [List.map_cons, List.map_nil, List.sum_cons, List.sum_nil, rv_cat]; exact Nat.le_of_ble_eq_true rfl)) rfl (by omega) ?_
          rintro _ _ ⟨rfl, rfl⟩
          refine r_icmp_eq (q := 41) (off := 5) (tgt := 43) C rfl (by decide +kernel) (by decide) (fun c38 => ?_) (fun c38 => ?_)
          · have ec := (nI_eq (by have := sg_lt T.1 (s + k); omega) (by have := (sb_wd hj hk).2.2; omega)).mp c38
            have hal2 : ∀ i, i < k + 1 → sg tp (s + i) = (wd (wj j)).getD i 0 := fun i hi => by
              by_cases q : i = k
              · rw [q]; exact ec
              · exact hal i (by omega)
            refine r_iinc (q := 46) (z := 1) (v := 1) C 4 rfl (by decide +kernel) rfl (by decide) (by decide) (by first | rfl | exact okst_rv rfl) ?_
            dsimp only [List.set]
            rw [nI_1]
            refine r_goto (off := -31) (tgt := 15) C (by decide +kernel) (by decide) ?_
            exact ih15 (k + 1) (by omega) (by omega) hal2
          · have ec : ¬ sg tp (s + k) = (wd (wj j)).getD k 0 := fun q => c38 (by rw [q])
            refine r_iconst (q := 42) (z := 0) (v := 0) C rfl (by decide +kernel) (by decide) ?_
            exact r_zret C (by decide +kernel) rfl (by first | decide | exact b2i_nar _) (by decide) (by decide) (eqP hPP ⟨_, rfl, ⟨bf (hw_no (by omega) ec), rfl⟩⟩)
    exact L15 ((wd (wj j)).length + 1) 0 (by omega) (by omega) (fun i hi => absurd hi (Nat.not_lt_zero i))
  · have el : ¬ e - s = (wd (wj j)).length := fun q => c7 (by rw [q])
    refine r_iconst (q := 11) (z := 0) (v := 0) C rfl (by decide +kernel) (by decide) ?_
    exact r_zret C (by decide +kernel) rfl (by first | decide | exact b2i_nar _) (by decide) (by decide) (eqP hPP ⟨_, rfl, ⟨bf (fun q => el (by rw [← q, wl_len])), rfl⟩⟩)
