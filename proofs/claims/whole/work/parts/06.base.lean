/-! ===== small rows that the walks use ===== -/
theorem lvE_r (n a : Nat) (vs : List Value) : lvE n (rv a :: vs) = some (rv a) :: lvE (n - 1) vs := by simp [lvE, rv_cat]
theorem lvE_i (n : Nat) (x : Int32) (vs : List Value) : lvE n (.int x :: vs) = some (.int x) :: lvE (n - 1) vs := by simp [lvE, Value.category]
theorem lvE_l (n : Nat) (x : Int64) (vs : List Value) : lvE n (.long x :: vs) = some (.long x) :: none :: lvE (n - 2) vs := by simp [lvE, Value.category]
theorem lvE_s (n a : Nat) (vs : List Value) : lvE n (.ref a :: vs) = some (.ref a) :: lvE (n - 1) vs := by simp [lvE, Value.category]
theorem lvE_0 (n : Nat) : lvE n [] = List.replicate n none := rfl
theorem lgl_r (a : Nat) (vs : List Value) : (lg_sl (rv a :: vs)).length = 1 + (lg_sl vs).length := by simp [lg_sl, rv_cat]; omega
theorem lgl_i (x : Int32) (vs : List Value) : (lg_sl (.int x :: vs)).length = 1 + (lg_sl vs).length := by simp [lg_sl, Value.category]; omega
theorem lgl_l (x : Int64) (vs : List Value) : (lg_sl (.long x :: vs)).length = 2 + (lg_sl vs).length := by simp [lg_sl, Value.category]; omega
theorem lgl_s (a : Nat) (vs : List Value) : (lg_sl (.ref a :: vs)).length = 1 + (lg_sl vs).length := by simp [lg_sl, Value.category]; omega
theorem lgl_0 : (lg_sl []).length = 0 := rfl
theorem rv_nar_o (c : String) (v : Nat) : narrow (.object c) (rv v) = rv v := by unfold rv; split <;> rfl
theorem rv_nar_a (t : FieldType) (v : Nat) : narrow (.array t) (rv v) = rv v := by unfold rv; split <;> rfl
theorem rv_fit_o (c : String) (v : Nat) : fits (.object c) (rv v) = true := by unfold rv; split <;> rfl
theorem rv_fit_a (t : FieldType) (v : Nat) : fits (.array t) (rv v) = true := by unfold rv; split <;> rfl
theorem b2i_fit (b : Bool) : fits .boolean (.int (b2i b)) = true := by cases b <;> decide
theorem b2i_vn (b : Bool) : vp_nar .boolean (b2i b) = b2i b := by cases b <;> decide
theorem fi_setI (h : HP) (g a : Nat) (v : Int32) (g' a' : Nat) : (h.setI g a v).fi g' a' = if g' = g ∧ a' = a then v else h.fi g' a' := rfl
theorem fr_setI (h : HP) (g a : Nat) (v : Int32) : (h.setI g a v).fr = h.fr := rfl
theorem kd_setI (h : HP) (g a : Nat) (v : Int32) : (h.setI g a v).kd = h.kd := rfl
theorem ai_setI (h : HP) (g a : Nat) (v : Int32) : (h.setI g a v).ai = h.ai := rfl
theorem al_setI (h : HP) (g a : Nat) (v : Int32) : (h.setI g a v).al = h.al := rfl
theorem ar_setI (h : HP) (g a : Nat) (v : Int32) : (h.setI g a v).ar = h.ar := rfl
theorem fr_setR (h : HP) (g a v g' a' : Nat) : (h.setR g a v).fr g' a' = if g' = g ∧ a' = a then v else h.fr g' a' := rfl
theorem fi_setR (h : HP) (g a v : Nat) : (h.setR g a v).fi = h.fi := rfl
theorem kd_setR (h : HP) (g a v : Nat) : (h.setR g a v).kd = h.kd := rfl
theorem ai_setR (h : HP) (g a v : Nat) : (h.setR g a v).ai = h.ai := rfl
theorem al_setR (h : HP) (g a v : Nat) : (h.setR g a v).al = h.al := rfl
theorem ar_setR (h : HP) (g a v : Nat) : (h.setR g a v).ar = h.ar := rfl
theorem ai_stI' (h : HP) (a i : Nat) (v : Int32) (a' i' : Nat) : (h.stI a i v).ai a' i' = if a' = a ∧ i' = i then v else h.ai a' i' := rfl
theorem fi_stI (h : HP) (a i : Nat) (v : Int32) : (h.stI a i v).fi = h.fi := rfl
theorem fr_stI (h : HP) (a i : Nat) (v : Int32) : (h.stI a i v).fr = h.fr := rfl
theorem kd_stI (h : HP) (a i : Nat) (v : Int32) : (h.stI a i v).kd = h.kd := rfl
theorem al_stI (h : HP) (a i : Nat) (v : Int32) : (h.stI a i v).al = h.al := rfl
theorem ar_stI (h : HP) (a i : Nat) (v : Int32) : (h.stI a i v).ar = h.ar := rfl
theorem al_stL' (h : HP) (a i : Nat) (v : Int64) (a' i' : Nat) : (h.stL a i v).al a' i' = if a' = a ∧ i' = i then v else h.al a' i' := rfl
theorem fi_stL (h : HP) (a i : Nat) (v : Int64) : (h.stL a i v).fi = h.fi := rfl
theorem fr_stL (h : HP) (a i : Nat) (v : Int64) : (h.stL a i v).fr = h.fr := rfl
theorem kd_stL (h : HP) (a i : Nat) (v : Int64) : (h.stL a i v).kd = h.kd := rfl
theorem ai_stL (h : HP) (a i : Nat) (v : Int64) : (h.stL a i v).ai = h.ai := rfl
theorem ar_stL (h : HP) (a i : Nat) (v : Int64) : (h.stL a i v).ar = h.ar := rfl
theorem ar_stR' (h : HP) (a i v a' i' : Nat) : (h.stR a i v).ar a' i' = if a' = a ∧ i' = i then v else h.ar a' i' := rfl
theorem fi_stR (h : HP) (a i v : Nat) : (h.stR a i v).fi = h.fi := rfl
theorem fr_stR (h : HP) (a i v : Nat) : (h.stR a i v).fr = h.fr := rfl
theorem kd_stR (h : HP) (a i v : Nat) : (h.stR a i v).kd = h.kd := rfl
theorem ai_stR (h : HP) (a i v : Nat) : (h.stR a i v).ai = h.ai := rfl
theorem al_stR (h : HP) (a i v : Nat) : (h.stR a i v).al = h.al := rfl
theorem HP.ext {h h' : HP} (h1 : h'.kd = h.kd) (h2 : ∀ g a, h'.fi g a = h.fi g a) (h3 : ∀ g a, h'.fr g a = h.fr g a) (h4 : ∀ a j, h'.ai a j = h.ai a j) (h5 : ∀ a j, h'.al a j = h.al a j) (h6 : ∀ a j, h'.ar a j = h.ar a j) (h7 : h'.gl = h.gl) : h' = h := by
  obtain ⟨a1, a2, a3, a4, a5, a6, a7⟩ := h
  obtain ⟨b1, b2, b3, b4, b5, b6, b7⟩ := h'
  have e1 : b1 = a1 := h1
  have e2 : b2 = a2 := funext fun g => funext fun a => h2 g a
  have e3 : b3 = a3 := funext fun g => funext fun a => h3 g a
  have e4 : b4 = a4 := funext fun g => funext fun a => h4 g a
  have e5 : b5 = a5 := funext fun g => funext fun a => h5 g a
  have e6 : b6 = a6 := funext fun g => funext fun a => h6 g a
  have e7 : b7 = a7 := h7
  rw [e1, e2, e3, e4, e5, e6, e7]
theorem wm_2 : Cond.static Lib.Math.max.name ∈ WS := by decide +kernel
theorem wm_3 : Cond.initialized "java/lang/Math" ∈ WS := by decide +kernel
theorem wm_4 : Cond.code Lib.Math.max.name Lib.Math.max.code 2 (some .int) ∈ WS := by decide +kernel
theorem r_mmax {G : GT} {Γ : CT} {y : MethodName} {cc : ByteArray} {nL : Nat} {rt : Option FieldType} {Q : State → Prop} {k n : Nat} {h : HP} {pc q : Nat} {lv : List (Option Value)} {st : List Value} {lev mc ms i : Nat} {x z : Int32} (C : Cx G Γ y cc nL rt) (R : Rm Γ lev mc ms) (hq : pc + 3 = q) (d : decode cc pc = .ok (.invokestatic i, 3)) (hw : Cond.methodLink y.cls i Lib.Math.max.name ∈ WS) (hl : 1 ≤ lev) (hk : k ≤ mc) (hs : n ≤ ms) (hst : (st.map fun v => v.category).sum ≤ 8)
    (kk : wX G Γ Q k n h q lv (.int (if x < z then z else x) :: st)) : wX G Γ Q k n h pc lv (.int z :: .int x :: st) := by
  subst hq
  intro H locs ls a b c
  have hts := C.2.2.2.2.1
  obtain ⟨r1, r2, r3, r4⟩ := R
  exact va_mmax C.1 C.2.1 c.1.symm C.2.2.2.1 (hts _ hw) (hts _ wm_2) (hts _ wm_3) (hts _ wm_4) (by omega) (by omega) (by omega) (by omega) d (kk H locs ls a b c)
theorem fi_ne {h : HP} {g a g' a' : Nat} {v : Int32} (hn : g' ≠ g) : (h.setI g a v).fi g' a' = h.fi g' a' := if_neg (fun e => hn e.1)
theorem fi_ne2 {h : HP} {g a g' a' : Nat} {v : Int32} (hn : a' ≠ a) : (h.setI g a v).fi g' a' = h.fi g' a' := if_neg (fun e => hn e.2)
theorem fi_eq {h : HP} {g a : Nat} {v : Int32} : (h.setI g a v).fi g a = v := if_pos ⟨rfl, rfl⟩
/-- a whole row of an array -/
def HP.row (h : HP) (a : Nat) (f : Nat → Int32) : HP := HP.of h.kd h.fi h.fr (fun b => if b = a then f else h.ai b) h.al h.ar h.gl
def HP.rowL (h : HP) (a : Nat) (f : Nat → Int64) : HP := HP.of h.kd h.fi h.fr h.ai (fun b => if b = a then f else h.al b) h.ar h.gl
theorem kd_row (h : HP) (a : Nat) (f : Nat → Int32) : (h.row a f).kd = h.kd := rfl
theorem fi_row (h : HP) (a : Nat) (f : Nat → Int32) : (h.row a f).fi = h.fi := rfl
theorem fr_row (h : HP) (a : Nat) (f : Nat → Int32) : (h.row a f).fr = h.fr := rfl
theorem al_row (h : HP) (a : Nat) (f : Nat → Int32) : (h.row a f).al = h.al := rfl
theorem ar_row (h : HP) (a : Nat) (f : Nat → Int32) : (h.row a f).ar = h.ar := rfl
theorem gl_row (h : HP) (a : Nat) (f : Nat → Int32) : (h.row a f).gl = h.gl := rfl
theorem ai_row (h : HP) (a : Nat) (f : Nat → Int32) (b : Nat) : (h.row a f).ai b = if b = a then f else h.ai b := rfl
theorem ai_row_eq {h : HP} {a : Nat} {f : Nat → Int32} : (h.row a f).ai a = f := if_pos rfl
theorem ai_row_ne {h : HP} {a b : Nat} {f : Nat → Int32} (hb : b ≠ a) : (h.row a f).ai b = h.ai b := if_neg hb
theorem al_rowL_eq {h : HP} {a : Nat} {f : Nat → Int64} : (h.rowL a f).al a = f := if_pos rfl
theorem al_rowL_ne {h : HP} {a b : Nat} {f : Nat → Int64} (hb : b ≠ a) : (h.rowL a f).al b = h.al b := if_neg hb
theorem row_self {h : HP} {a : Nat} : h.row a (h.ai a) = h := HP.ext rfl (fun _ _ => rfl) (fun _ _ => rfl) (fun b j => by rw [ai_row]; split <;> simp_all) (fun _ _ => rfl) (fun _ _ => rfl) rfl
theorem row_row {h : HP} {a : Nat} {f g : Nat → Int32} : (h.row a f).row a g = h.row a g := HP.ext rfl (fun _ _ => rfl) (fun _ _ => rfl) (fun b j => by simp only [ai_row]; split <;> rfl) (fun _ _ => rfl) (fun _ _ => rfl) rfl
theorem row_comm {h : HP} {a b : Nat} {f g : Nat → Int32} (hb : a ≠ b) : (h.row a f).row b g = (h.row b g).row a f := HP.ext rfl (fun _ _ => rfl) (fun _ _ => rfl) (fun c j => by
  simp only [ai_row]
  by_cases e : c = a
  · subst e; rw [if_neg hb, if_pos rfl, if_pos rfl]
  · rw [if_neg e, if_neg e]) (fun _ _ => rfl) (fun _ _ => rfl) rfl
theorem stI_row {h : HP} {a i : Nat} {v : Int32} : h.stI a i v = h.row a (upd (h.ai a) i v) := HP.ext rfl (fun _ _ => rfl) (fun _ _ => rfl) (fun b j => by
  simp only [ai_row, ai_stI']
  by_cases e : b = a
  · subst e
    rw [if_pos rfl]
    unfold upd
    by_cases e2 : j = i <;> simp [e2]
  · rw [if_neg e, if_neg (fun q => e q.1)]) (fun _ _ => rfl) (fun _ _ => rfl) rfl
theorem row_stI {h : HP} {a i : Nat} {f : Nat → Int32} {v : Int32} : (h.row a f).stI a i v = h.row a (upd f i v) := by
  rw [stI_row, ai_row_eq, row_row]
theorem stL_row {h : HP} {a i : Nat} {v : Int64} : h.stL a i v = h.rowL a (vp_updL (h.al a) i v) := HP.ext rfl (fun _ _ => rfl) (fun _ _ => rfl) (fun _ _ => rfl) (fun b j => by
  show (if b = a ∧ j = i then v else h.al b j) = (if b = a then vp_updL (h.al a) i v else h.al b) j
  by_cases e : b = a
  · subst e
    rw [if_pos rfl]
    unfold vp_updL
    by_cases e2 : j = i <;> simp [e2]
  · rw [if_neg e, if_neg (fun q => e q.1)]) (fun _ _ => rfl) rfl
theorem gl_setI (h : HP) (g a : Nat) (v : Int32) : (h.setI g a v).gl = h.gl := rfl
theorem gl_stI (h : HP) (a i : Nat) (v : Int32) : (h.stI a i v).gl = h.gl := rfl
theorem gl_ne {h : HP} {a b x z : Nat} (ha : h.gl a = x) (hb : h.gl b = z) (hn : x ≠ z) : a ≠ b := fun e => hn (by rw [← ha, ← hb, e])
theorem bt {P : Prop} [Decidable P] (hp : P) : b2i (decide P) = 1 := by simp [b2i, hp]
theorem bf {P : Prop} [Decidable P] (hp : ¬ P) : b2i (decide P) = 0 := by simp [b2i, hp]
theorem setI_row {h : HP} {a g b : Nat} {f : Nat → Int32} {v : Int32} : (h.row a f).setI g b v = (h.setI g b v).row a f := rfl
theorem setI_setI {h : HP} {g a : Nat} {v w : Int32} : (h.setI g a v).setI g a w = h.setI g a w := HP.ext rfl (fun g' a' => by simp only [fi_setI]; split <;> simp_all) (fun _ _ => rfl) (fun _ _ => rfl) (fun _ _ => rfl) (fun _ _ => rfl) rfl
theorem setI_self {h : HP} {g a : Nat} : h.setI g a (h.fi g a) = h := HP.ext rfl (fun g' a' => by simp only [fi_setI]; split <;> simp_all) (fun _ _ => rfl) (fun _ _ => rfl) (fun _ _ => rfl) (fun _ _ => rfl) rfl
theorem okst_rv {lv : List (Option Value)} {j a : Nat} (h : lv[j]? = some (some (rv a))) : okst lv (j + 1) = true := by
  simp only [okst, h, rv_cat]; rfl


def spPut (h : HP) (a : Nat) (w z x y : Int32) (t : Bool) : HP := ((((h.setI 256 a x).setI 257 a y).setI 258 a (if t then z else w)).setI 259 a (if t then w else z)).setI 260 a (b2i t)
def gp (x w z v : Int32) : Int32 := if z - (x + w) < x - (z + v) then x - (z + v) else z - (x + w)

theorem c_X6_isWithin {G : GT} {h : HP} {x a b : Int32} : Con G 1 0 0 yX6_isWithin cX6_isWithin 3 (some .boolean) [.int x, .int a, .int b] h (PI (fun r h' => b2i (decide (a ≤ x ∧ x ≤ b)) = r ∧ h = h')) := by
  refine Con.of (lv := [some (.int x), some (.int a), some (.int b)]) (by decide) (by simp only [lvE_r, lvE_i, lvE_l, lvE_s, lvE_0]; rfl) (by simp only [lgl_r, lgl_i, lgl_l, lgl_s, lgl_0]; decide) (fun Γ C R => ?_)
  refine r_iload_n (q := 1) (z := 0) C 0 rfl (by decide +kernel) rfl rfl ?_
  refine r_iload_n (q := 2) (z := 1) C 1 rfl (by decide +kernel) rfl rfl ?_
  refine r_icmp_lt (q := 5) (off := 12) (tgt := 14) C rfl (by decide +kernel) (by decide) (fun c2 => ?_) (fun c2 => ?_)
  · refine r_iconst (q := 15) (z := 0) (v := 0) C rfl (by decide +kernel) (by decide) ?_
    exact r_zret C (by decide +kernel) rfl (by first | decide | exact b2i_nar _) (by decide) (by decide) ⟨_, rfl, ⟨by clear C R; simp_all [b2i, ← Int32.not_lt], rfl⟩⟩
  · refine r_iload_n (q := 6) (z := 0) C 0 rfl (by decide +kernel) rfl rfl ?_
    refine r_iload_n (q := 7) (z := 2) C 2 rfl (by decide +kernel) rfl rfl ?_
    refine r_icmp_gt (q := 10) (off := 7) (tgt := 14) C rfl (by decide +kernel) (by decide) (fun c7 => ?_) (fun c7 => ?_)
    · refine r_iconst (q := 15) (z := 0) (v := 0) C rfl (by decide +kernel) (by decide) ?_
      exact r_zret C (by decide +kernel) rfl (by first | decide | exact b2i_nar _) (by decide) (by decide) ⟨_, rfl, ⟨by clear C R; simp_all [b2i, ← Int32.not_lt], rfl⟩⟩
    · refine r_iconst (q := 11) (z := 1) (v := 1) C rfl (by decide +kernel) (by decide) ?_
      refine r_goto (off := 4) (tgt := 15) C (by decide +kernel) (by decide) ?_
      exact r_zret C (by decide +kernel) rfl (by first | decide | exact b2i_nar _) (by decide) (by decide) ⟨_, rfl, ⟨by clear C R; simp_all [b2i, ← Int32.not_lt], rfl⟩⟩
theorem c_X4_doorX {G : GT} {h : HP} {a : Nat} (hk : h.kd a = (0, 4)) : Con G 1 0 0 yX4_doorX cX4_doorX 1 (some .int) [rv a] h (PI (fun r h' => h.fi 256 a + (h.fi 258 a - 1) / 2 = r ∧ h = h')) := by
  refine Con.of (lv := [some (rv a)]) (by decide) (by simp only [lvE_r, lvE_i, lvE_l, lvE_s, lvE_0]; rfl) (by simp only [lgl_r, lgl_i, lgl_l, lgl_s, lgl_0]; decide) (fun Γ C R => ?_)
  refine r_aload_n (q := 1) (z := 0) C 0 rfl (by decide +kernel) rfl rfl ?_
  refine r_getI (q := 4) C 4 0 256 rfl (by decide +kernel) rfl (by decide) rfl rfl wf_X4_9 win4 (by assumption) ?_
  refine r_aload_n (q := 5) (z := 0) C 0 rfl (by decide +kernel) rfl rfl ?_
  refine r_getI (q := 8) C 4 2 258 rfl (by decide +kernel) rfl (by decide) rfl rfl wf_X4_18 win4 (by assumption) ?_
  refine r_iconst (q := 9) (z := 1) (v := 1) C rfl (by decide +kernel) (by decide) ?_
  refine r_isub (q := 10) C rfl (by decide +kernel) ?_
  refine r_iconst (q := 11) (z := 2) (v := 2) C rfl (by decide +kernel) (by decide) ?_
  refine r_idiv (q := 12) C rfl (by decide +kernel) (by decide) ?_
  refine r_iadd (q := 13) C rfl (by decide +kernel) ?_
  exact r_iret C (by decide +kernel) rfl (by decide) (by decide) ⟨_, rfl, ⟨rfl, rfl⟩⟩
theorem c_X4_doorY {G : GT} {h : HP} {a : Nat} (hk : h.kd a = (0, 4)) : Con G 1 0 0 yX4_doorY cX4_doorY 1 (some .int) [rv a] h (PI (fun r h' => h.fi 257 a + h.fi 259 a = r ∧ h = h')) := by
  refine Con.of (lv := [some (rv a)]) (by decide) (by simp only [lvE_r, lvE_i, lvE_l, lvE_s, lvE_0]; rfl) (by simp only [lgl_r, lgl_i, lgl_l, lgl_s, lgl_0]; decide) (fun Γ C R => ?_)
  refine r_aload_n (q := 1) (z := 0) C 0 rfl (by decide +kernel) rfl rfl ?_
  refine r_getI (q := 4) C 4 1 257 rfl (by decide +kernel) rfl (by decide) rfl rfl wf_X4_15 win4 (by assumption) ?_
  refine r_aload_n (q := 5) (z := 0) C 0 rfl (by decide +kernel) rfl rfl ?_
  refine r_getI (q := 8) C 4 3 259 rfl (by decide +kernel) rfl (by decide) rfl rfl wf_X4_21 win4 (by assumption) ?_
  refine r_iadd (q := 9) C rfl (by decide +kernel) ?_
  exact r_iret C (by decide +kernel) rfl (by decide) (by decide) ⟨_, rfl, ⟨rfl, rfl⟩⟩
theorem c_X4_put {G : GT} {h : HP} {a : Nat} {w z x y : Int32} {t : Bool} (hk : h.kd a = (0, 4)) : Con G 1 0 0 yX4_put cX4_put 6 none [rv a, .int w, .int z, .int x, .int y, .int (b2i t)] h (PV (fun h' => spPut h a w z x y t = h')) := by
  refine Con.of (lv := [some (rv a), some (.int w), some (.int z), some (.int x), some (.int y), some (.int (b2i t))]) (by decide) (by simp only [lvE_r, lvE_i, lvE_l, lvE_s, lvE_0]; rfl) (by simp only [lgl_r, lgl_i, lgl_l, lgl_s, lgl_0]; decide) (fun Γ C R => ?_)
  refine r_aload_n (q := 1) (z := 0) C 0 rfl (by decide +kernel) rfl rfl ?_
  refine r_iload_n (q := 2) (z := 3) C 3 rfl (by decide +kernel) rfl rfl ?_
  refine r_putI (q := 5) C 4 0 256 rfl (by decide +kernel) rfl (by decide) rfl rfl wf_X4_9 win4 tyX4 tyX4_ok nmX4 rfl (tyX4_ok 0 (by decide)) rfl wnd4 rfl rfl (by assumption) ?_
  refine r_aload_n (q := 6) (z := 0) C 0 rfl (by decide +kernel) rfl rfl ?_
  refine r_iload (q := 8) C 4 rfl (by decide +kernel) rfl ?_
  refine r_putI (q := 11) C 4 1 257 rfl (by decide +kernel) rfl (by decide) rfl rfl wf_X4_15 win4 tyX4 tyX4_ok nmX4 rfl (tyX4_ok 1 (by decide)) rfl wnd4 rfl rfl (by assumption) ?_
  refine r_aload_n (q := 12) (z := 0) C 0 rfl (by decide +kernel) rfl rfl ?_
  refine r_iload (q := 14) C 5 rfl (by decide +kernel) rfl ?_
  refine r_if_eq (q := 17) (off := 7) (tgt := 21) C rfl (by decide +kernel) (by decide) (fun c14 => ?_) (fun c14 => ?_)
  · refine r_iload_n (q := 22) (z := 1) C 1 rfl (by decide +kernel) rfl rfl ?_
    refine r_putI (q := 25) C 4 2 258 rfl (by decide +kernel) rfl (by decide) rfl rfl wf_X4_18 win4 tyX4 tyX4_ok nmX4 rfl (tyX4_ok 2 (by decide)) rfl wnd4 rfl rfl (by assumption) ?_
    refine r_aload_n (q := 26) (z := 0) C 0 rfl (by decide +kernel) rfl rfl ?_
    refine r_iload (q := 28) C 5 rfl (by decide +kernel) rfl ?_
    refine r_if_eq (q := 31) (off := 7) (tgt := 35) C rfl (by decide +kernel) (by decide) (fun c28 => ?_) (fun c28 => ?_)
    · refine r_iload_n (q := 36) (z := 2) C 2 rfl (by decide +kernel) rfl rfl ?_
      refine r_putI (q := 39) C 4 3 259 rfl (by decide +kernel) rfl (by decide) rfl rfl wf_X4_21 win4 tyX4 tyX4_ok nmX4 rfl (tyX4_ok 3 (by decide)) rfl wnd4 rfl rfl (by assumption) ?_
      refine r_aload_n (q := 40) (z := 0) C 0 rfl (by decide +kernel) rfl rfl ?_
      refine r_iload (q := 42) C 5 rfl (by decide +kernel) rfl ?_
      refine r_putI (q := 45) C 4 4 260 rfl (by decide +kernel) rfl (by decide) rfl rfl wf_X4_24 win4 tyX4 tyX4_ok nmX4 rfl (tyX4_ok 4 (by decide)) rfl wnd4 (by first | rfl | exact b2i_nar _) (by first | rfl | exact b2i_fit _) (by assumption) ?_
      exact r_ret C (by decide +kernel) rfl (by decide) (by decide) ⟨rfl, by clear C R; cases t <;> simp_all [spPut, b2i]⟩
    · refine r_iload_n (q := 32) (z := 1) C 1 rfl (by decide +kernel) rfl rfl ?_
      refine r_goto (off := 4) (tgt := 36) C (by decide +kernel) (by decide) ?_
      refine r_putI (q := 39) C 4 3 259 rfl (by decide +kernel) rfl (by decide) rfl rfl wf_X4_21 win4 tyX4 tyX4_ok nmX4 rfl (tyX4_ok 3 (by decide)) rfl wnd4 rfl rfl (by assumption) ?_
      refine r_aload_n (q := 40) (z := 0) C 0 rfl (by decide +kernel) rfl rfl ?_
      refine r_iload (q := 42) C 5 rfl (by decide +kernel) rfl ?_
      refine r_putI (q := 45) C 4 4 260 rfl (by decide +kernel) rfl (by decide) rfl rfl wf_X4_24 win4 tyX4 tyX4_ok nmX4 rfl (tyX4_ok 4 (by decide)) rfl wnd4 (by first | rfl | exact b2i_nar _) (by first | rfl | exact b2i_fit _) (by assumption) ?_
      exact r_ret C (by decide +kernel) rfl (by decide) (by decide) ⟨rfl, by clear C R; cases t <;> simp_all [spPut, b2i]⟩
  · refine r_iload_n (q := 18) (z := 2) C 2 rfl (by decide +kernel) rfl rfl ?_
    refine r_goto (off := 4) (tgt := 22) C (by decide +kernel) (by decide) ?_
    refine r_putI (q := 25) C 4 2 258 rfl (by decide +kernel) rfl (by decide) rfl rfl wf_X4_18 win4 tyX4 tyX4_ok nmX4 rfl (tyX4_ok 2 (by decide)) rfl wnd4 rfl rfl (by assumption) ?_
    refine r_aload_n (q := 26) (z := 0) C 0 rfl (by decide +kernel) rfl rfl ?_
    refine r_iload (q := 28) C 5 rfl (by decide +kernel) rfl ?_
    refine r_if_eq (q := 31) (off := 7) (tgt := 35) C rfl (by decide +kernel) (by decide) (fun c28 => ?_) (fun c28 => ?_)
    · refine r_iload_n (q := 36) (z := 2) C 2 rfl (by decide +kernel) rfl rfl ?_
      refine r_putI (q := 39) C 4 3 259 rfl (by decide +kernel) rfl (by decide) rfl rfl wf_X4_21 win4 tyX4 tyX4_ok nmX4 rfl (tyX4_ok 3 (by decide)) rfl wnd4 rfl rfl (by assumption) ?_
      refine r_aload_n (q := 40) (z := 0) C 0 rfl (by decide +kernel) rfl rfl ?_
      refine r_iload (q := 42) C 5 rfl (by decide +kernel) rfl ?_
      refine r_putI (q := 45) C 4 4 260 rfl (by decide +kernel) rfl (by decide) rfl rfl wf_X4_24 win4 tyX4 tyX4_ok nmX4 rfl (tyX4_ok 4 (by decide)) rfl wnd4 (by first | rfl | exact b2i_nar _) (by first | rfl | exact b2i_fit _) (by assumption) ?_
      exact r_ret C (by decide +kernel) rfl (by decide) (by decide) ⟨rfl, by clear C R; cases t <;> simp_all [spPut, b2i]⟩
    · refine r_iload_n (q := 32) (z := 1) C 1 rfl (by decide +kernel) rfl rfl ?_
      refine r_goto (off := 4) (tgt := 36) C (by decide +kernel) (by decide) ?_
      refine r_putI (q := 39) C 4 3 259 rfl (by decide +kernel) rfl (by decide) rfl rfl wf_X4_21 win4 tyX4 tyX4_ok nmX4 rfl (tyX4_ok 3 (by decide)) rfl wnd4 rfl rfl (by assumption) ?_
      refine r_aload_n (q := 40) (z := 0) C 0 rfl (by decide +kernel) rfl rfl ?_
      refine r_iload (q := 42) C 5 rfl (by decide +kernel) rfl ?_
      refine r_putI (q := 45) C 4 4 260 rfl (by decide +kernel) rfl (by decide) rfl rfl wf_X4_24 win4 tyX4 tyX4_ok nmX4 rfl (tyX4_ok 4 (by decide)) rfl wnd4 (by first | rfl | exact b2i_nar _) (by first | rfl | exact b2i_fit _) (by assumption) ?_
      exact r_ret C (by decide +kernel) rfl (by decide) (by decide) ⟨rfl, by clear C R; cases t <;> simp_all [spPut, b2i]⟩
theorem c_X4_putAtPlace {G : GT} {h : HP} {a : Nat} {w z p : Int32} (hk : h.kd a = (0, 4)) : Con G 2 0 0 yX4_putAtPlace cX4_putAtPlace 5 none [rv a, .int w, .int z, .int p] h (PV (fun h' => spPut h a w z (p / 2 - p / 2 / 12 * 12) (p / 2 / 12) (decide (p - p / 2 * 2 = 1)) = h')) := by
  refine Con.of (lv := [some (rv a), some (.int w), some (.int z), some (.int p), none]) (by decide) (by simp only [lvE_r, lvE_i, lvE_l, lvE_s, lvE_0]; rfl) (by simp only [lgl_r, lgl_i, lgl_l, lgl_s, lgl_0]; decide) (fun Γ C R => ?_)
  refine r_iload_n (q := 1) (z := 3) C 3 rfl (by decide +kernel) rfl rfl ?_
  refine r_iconst (q := 2) (z := 2) (v := 2) C rfl (by decide +kernel) (by decide) ?_
  refine r_idiv (q := 3) C rfl (by decide +kernel) (by decide) ?_
  refine r_istore (q := 5) C 4 rfl (by decide +kernel) (by decide) (by first | rfl | exact okst_rv rfl) ?_
  dsimp only [List.set]
  refine r_aload_n (q := 6) (z := 0) C 0 rfl (by decide +kernel) rfl rfl ?_
  refine r_iload_n (q := 7) (z := 1) C 1 rfl (by decide +kernel) rfl rfl ?_
  refine r_iload_n (q := 8) (z := 2) C 2 rfl (by decide +kernel) rfl rfl ?_
  refine r_iload (q := 10) C 4 rfl (by decide +kernel) rfl ?_
  refine r_bipush (q := 12) (z := 12) (v := 12) C rfl (by decide +kernel) (by decide) ?_
  refine r_irem (q := 13) C rfl (by decide +kernel) (by decide) ?_
  refine r_iload (q := 15) C 4 rfl (by decide +kernel) rfl ?_
  refine r_bipush (q := 17) (z := 12) (v := 12) C rfl (by decide +kernel) (by decide) ?_
  refine r_idiv (q := 18) C rfl (by decide +kernel) (by decide) ?_
  refine r_iload_n (q := 19) (z := 3) C 3 rfl (by decide +kernel) rfl rfl ?_
  refine r_iconst (q := 20) (z := 2) (v := 2) C rfl (by decide +kernel) (by decide) ?_
  refine r_irem (q := 21) C rfl (by decide +kernel) (by decide) ?_
  refine r_iconst (q := 22) (z := 1) (v := 1) C rfl (by decide +kernel) (by decide) ?_
  refine r_icmp_ne (q := 25) (off := 7) (tgt := 29) C rfl (by decide +kernel) (by decide) (fun c22 => ?_) (fun c22 => ?_)
  · refine r_iconst (q := 30) (z := 0) (v := b2i false) C rfl (by decide +kernel) (by decide) ?_
    refine cV5V (q := 33) C R rfl (by decide +kernel) lk_X4_28 (c_X4_put (by assumption)) (by decide) (by decide) (by decide) rfl (by first | exact Nat.le_of_ble_eq_true rfl | (simp only [List.map_cons, List.map_nil, List.sum_cons, List.sum_nil, rv_cat]; exact Nat.le_of_ble_eq_true rfl)) rfl (by assumption) ?_
    rintro _ rfl
    exact r_ret C (by decide +kernel) rfl (by decide) (by decide) ⟨rfl, (by clear C R; simp_all)⟩
  · refine r_iconst (q := 26) (z := 1) (v := b2i true) C rfl (by decide +kernel) (by decide) ?_
    refine r_goto (off := 4) (tgt := 30) C (by decide +kernel) (by decide) ?_
    refine cV5V (q := 33) C R rfl (by decide +kernel) lk_X4_28 (c_X4_put (by assumption)) (by decide) (by decide) (by decide) rfl (by first | exact Nat.le_of_ble_eq_true rfl | (simp only [List.map_cons, List.map_nil, List.sum_cons, List.sum_nil, rv_cat]; exact Nat.le_of_ble_eq_true rfl)) rfl (by assumption) ?_
    rintro _ rfl
    exact r_ret C (by decide +kernel) rfl (by decide) (by decide) ⟨rfl, (by clear C R; simp_all)⟩
theorem c_X4_putLike {G : GT} {h : HP} {a b : Nat} {t : Bool} (hk : h.kd a = (0, 4)) (hkb : h.kd b = (0, 4)) (ht : h.fi 260 b = b2i t) (hab : a ≠ b) : Con G 1 0 0 yX4_putLike cX4_putLike 2 none [rv a, rv b] h (PV (fun h' => ((((h.setI 256 a (h.fi 256 b)).setI 257 a (h.fi 257 b)).setI 258 a (h.fi 258 b)).setI 259 a (h.fi 259 b)).setI 260 a (h.fi 260 b) = h')) := by
  refine Con.of (lv := [some (rv a), some (rv b)]) (by decide) (by simp only [lvE_r, lvE_i, lvE_l, lvE_s, lvE_0]; rfl) (by simp only [lgl_r, lgl_i, lgl_l, lgl_s, lgl_0]; decide) (fun Γ C R => ?_)
  refine r_aload_n (q := 1) (z := 0) C 0 rfl (by decide +kernel) rfl rfl ?_
  refine r_aload_n (q := 2) (z := 1) C 1 rfl (by decide +kernel) rfl rfl ?_
  refine r_getI (q := 5) C 4 0 256 rfl (by decide +kernel) rfl (by decide) rfl rfl wf_X4_9 win4 (by assumption) ?_
  refine r_putI (q := 8) C 4 0 256 rfl (by decide +kernel) rfl (by decide) rfl rfl wf_X4_9 win4 tyX4 tyX4_ok nmX4 rfl (tyX4_ok 0 (by decide)) rfl wnd4 rfl rfl (by assumption) ?_
  refine r_aload_n (q := 9) (z := 0) C 0 rfl (by decide +kernel) rfl rfl ?_
  refine r_aload_n (q := 10) (z := 1) C 1 rfl (by decide +kernel) rfl rfl ?_
  refine r_getI (q := 13) C 4 1 257 rfl (by decide +kernel) rfl (by decide) rfl rfl wf_X4_15 win4 (by assumption) ?_
  refine r_putI (q := 16) C 4 1 257 rfl (by decide +kernel) rfl (by decide) rfl rfl wf_X4_15 win4 tyX4 tyX4_ok nmX4 rfl (tyX4_ok 1 (by decide)) rfl wnd4 rfl rfl (by assumption) ?_
  refine r_aload_n (q := 17) (z := 0) C 0 rfl (by decide +kernel) rfl rfl ?_
  refine r_aload_n (q := 18) (z := 1) C 1 rfl (by decide +kernel) rfl rfl ?_
  refine r_getI (q := 21) C 4 2 258 rfl (by decide +kernel) rfl (by decide) rfl rfl wf_X4_18 win4 (by assumption) ?_
  refine r_putI (q := 24) C 4 2 258 rfl (by decide +kernel) rfl (by decide) rfl rfl wf_X4_18 win4 tyX4 tyX4_ok nmX4 rfl (tyX4_ok 2 (by decide)) rfl wnd4 rfl rfl (by assumption) ?_
  refine r_aload_n (q := 25) (z := 0) C 0 rfl (by decide +kernel) rfl rfl ?_
  refine r_aload_n (q := 26) (z := 1) C 1 rfl (by decide +kernel) rfl rfl ?_
  refine r_getI (q := 29) C 4 3 259 rfl (by decide +kernel) rfl (by decide) rfl rfl wf_X4_21 win4 (by assumption) ?_
  refine r_putI (q := 32) C 4 3 259 rfl (by decide +kernel) rfl (by decide) rfl rfl wf_X4_21 win4 tyX4 tyX4_ok nmX4 rfl (tyX4_ok 3 (by decide)) rfl wnd4 rfl rfl (by assumption) ?_
  refine r_aload_n (q := 33) (z := 0) C 0 rfl (by decide +kernel) rfl rfl ?_
  refine r_aload_n (q := 34) (z := 1) C 1 rfl (by decide +kernel) rfl rfl ?_
  refine r_getI (q := 37) C 4 4 260 rfl (by decide +kernel) rfl (by decide) rfl rfl wf_X4_24 win4 (by assumption) ?_
  refine r_putI (q := 40) C 4 4 260 rfl (by decide +kernel) rfl (by decide) rfl rfl wf_X4_24 win4 tyX4 tyX4_ok nmX4 rfl (tyX4_ok 4 (by decide)) rfl wnd4 (by rw [fi_ne (by decide), fi_ne (by decide), fi_ne (by decide), fi_ne (by decide), ht]; exact b2i_nar _) (by rw [fi_ne (by decide), fi_ne (by decide), fi_ne (by decide), fi_ne (by decide), ht]; exact b2i_fit _) (by assumption) ?_
  exact r_ret C (by decide +kernel) rfl (by decide) (by decide) ⟨rfl, (by rfl)⟩
theorem c_X4_place {G : GT} {h : HP} {a : Nat} (hk : h.kd a = (0, 4)) : Con G 1 0 0 yX4_place cX4_place 1 (some .int) [rv a] h (PI (fun r h' => 2 * (12 * h.fi 257 a + h.fi 256 a) + (if h.fi 260 a = 0 then 0 else 1) = r ∧ h = h')) := by
  refine Con.of (lv := [some (rv a)]) (by decide) (by simp only [lvE_r, lvE_i, lvE_l, lvE_s, lvE_0]; rfl) (by simp only [lgl_r, lgl_i, lgl_l, lgl_s, lgl_0]; decide) (fun Γ C R => ?_)
  refine r_iconst (q := 1) (z := 2) (v := 2) C rfl (by decide +kernel) (by decide) ?_
  refine r_bipush (q := 3) (z := 12) (v := 12) C rfl (by decide +kernel) (by decide) ?_
  refine r_aload_n (q := 4) (z := 0) C 0 rfl (by decide +kernel) rfl rfl ?_
  refine r_getI (q := 7) C 4 1 257 rfl (by decide +kernel) rfl (by decide) rfl rfl wf_X4_15 win4 (by assumption) ?_
  refine r_imul (q := 8) C rfl (by decide +kernel) ?_
  refine r_aload_n (q := 9) (z := 0) C 0 rfl (by decide +kernel) rfl rfl ?_
  refine r_getI (q := 12) C 4 0 256 rfl (by decide +kernel) rfl (by decide) rfl rfl wf_X4_9 win4 (by assumption) ?_
  refine r_iadd (q := 13) C rfl (by decide +kernel) ?_
  refine r_imul (q := 14) C rfl (by decide +kernel) ?_
  refine r_aload_n (q := 15) (z := 0) C 0 rfl (by decide +kernel) rfl rfl ?_
  refine r_getI (q := 18) C 4 4 260 rfl (by decide +kernel) rfl (by decide) rfl rfl wf_X4_24 win4 (by assumption) ?_
  refine r_if_eq (q := 21) (off := 7) (tgt := 25) C rfl (by decide +kernel) (by decide) (fun c18 => ?_) (fun c18 => ?_)
  · refine r_iconst (q := 26) (z := 0) (v := 0) C rfl (by decide +kernel) (by decide) ?_
    refine r_iadd (q := 27) C rfl (by decide +kernel) ?_
    exact r_iret C (by decide +kernel) rfl (by decide) (by decide) ⟨_, rfl, ⟨by clear C R; simp_all, rfl⟩⟩
  · refine r_iconst (q := 22) (z := 1) (v := 1) C rfl (by decide +kernel) (by decide) ?_
    refine r_goto (off := 4) (tgt := 26) C (by decide +kernel) (by decide) ?_
    refine r_iadd (q := 27) C rfl (by decide +kernel) ?_
    exact r_iret C (by decide +kernel) rfl (by decide) (by decide) ⟨_, rfl, ⟨by clear C R; simp_all, rfl⟩⟩
theorem c_X4_isOnGreen {G : GT} {h : HP} {a : Nat} (hk : h.kd a = (0, 4)) : Con G 1 0 0 yX4_isOnGreen cX4_isOnGreen 1 (some .boolean) [rv a] h (PI (fun r h' => b2i (decide (0 ≤ h.fi 256 a ∧ h.fi 256 a < 12 ∧ 0 ≤ h.fi 257 a ∧ h.fi 257 a < 10 ∧ h.fi 256 a + h.fi 258 a ≤ 12 ∧ h.fi 257 a + h.fi 259 a < 10)) = r ∧ h = h')) := by
  refine Con.of (lv := [some (rv a)]) (by decide) (by simp only [lvE_r, lvE_i, lvE_l, lvE_s, lvE_0]; rfl) (by simp only [lgl_r, lgl_i, lgl_l, lgl_s, lgl_0]; decide) (fun Γ C R => ?_)
  refine r_aload_n (q := 1) (z := 0) C 0 rfl (by decide +kernel) rfl rfl ?_
  refine r_getI (q := 4) C 4 0 256 rfl (by decide +kernel) rfl (by decide) rfl rfl wf_X4_9 win4 (by assumption) ?_
  refine r_if_lt (q := 7) (off := 60) (tgt := 64) C rfl (by decide +kernel) (by decide) (fun c4 => ?_) (fun c4 => ?_)
  · refine r_iconst (q := 65) (z := 0) (v := 0) C rfl (by decide +kernel) (by decide) ?_
    exact r_zret C (by decide +kernel) rfl (by first | decide | exact b2i_nar _) (by decide) (by decide) ⟨_, rfl, ⟨by clear C R; simp_all [b2i, ← Int32.not_lt], rfl⟩⟩
  · refine r_aload_n (q := 8) (z := 0) C 0 rfl (by decide +kernel) rfl rfl ?_
    refine r_getI (q := 11) C 4 0 256 rfl (by decide +kernel) rfl (by decide) rfl rfl wf_X4_9 win4 (by assumption) ?_
    refine r_bipush (q := 13) (z := 12) (v := 12) C rfl (by decide +kernel) (by decide) ?_
    refine r_icmp_ge (q := 16) (off := 51) (tgt := 64) C rfl (by decide +kernel) (by decide) (fun c13 => ?_) (fun c13 => ?_)
    · refine r_iconst (q := 65) (z := 0) (v := 0) C rfl (by decide +kernel) (by decide) ?_
      exact r_zret C (by decide +kernel) rfl (by first | decide | exact b2i_nar _) (by decide) (by decide) ⟨_, rfl, ⟨by clear C R; simp_all [b2i, ← Int32.not_lt], rfl⟩⟩
    · refine r_aload_n (q := 17) (z := 0) C 0 rfl (by decide +kernel) rfl rfl ?_
      refine r_getI (q := 20) C 4 1 257 rfl (by decide +kernel) rfl (by decide) rfl rfl wf_X4_15 win4 (by assumption) ?_
      refine r_if_lt (q := 23) (off := 44) (tgt := 64) C rfl (by decide +kernel) (by decide) (fun c20 => ?_) (fun c20 => ?_)
      · refine r_iconst (q := 65) (z := 0) (v := 0) C rfl (by decide +kernel) (by decide) ?_
        exact r_zret C (by decide +kernel) rfl (by first | decide | exact b2i_nar _) (by decide) (by decide) ⟨_, rfl, ⟨by clear C R; simp_all [b2i, ← Int32.not_lt], rfl⟩⟩
      · refine r_aload_n (q := 24) (z := 0) C 0 rfl (by decide +kernel) rfl rfl ?_
        refine r_getI (q := 27) C 4 1 257 rfl (by decide +kernel) rfl (by decide) rfl rfl wf_X4_15 win4 (by assumption) ?_
        refine r_bipush (q := 29) (z := 10) (v := 10) C rfl (by decide +kernel) (by decide) ?_
        refine r_icmp_ge (q := 32) (off := 35) (tgt := 64) C rfl (by decide +kernel) (by decide) (fun c29 => ?_) (fun c29 => ?_)
        · refine r_iconst (q := 65) (z := 0) (v := 0) C rfl (by decide +kernel) (by decide) ?_
          exact r_zret C (by decide +kernel) rfl (by first | decide | exact b2i_nar _) (by decide) (by decide) ⟨_, rfl, ⟨by clear C R; simp_all [b2i, ← Int32.not_lt], rfl⟩⟩
        · refine r_aload_n (q := 33) (z := 0) C 0 rfl (by decide +kernel) rfl rfl ?_
          refine r_getI (q := 36) C 4 0 256 rfl (by decide +kernel) rfl (by decide) rfl rfl wf_X4_9 win4 (by assumption) ?_
          refine r_aload_n (q := 37) (z := 0) C 0 rfl (by decide +kernel) rfl rfl ?_
          refine r_getI (q := 40) C 4 2 258 rfl (by decide +kernel) rfl (by decide) rfl rfl wf_X4_18 win4 (by assumption) ?_
          refine r_iadd (q := 41) C rfl (by decide +kernel) ?_
          refine r_bipush (q := 43) (z := 12) (v := 12) C rfl (by decide +kernel) (by decide) ?_
          refine r_icmp_gt (q := 46) (off := 21) (tgt := 64) C rfl (by decide +kernel) (by decide) (fun c43 => ?_) (fun c43 => ?_)
          · refine r_iconst (q := 65) (z := 0) (v := 0) C rfl (by decide +kernel) (by decide) ?_
            exact r_zret C (by decide +kernel) rfl (by first | decide | exact b2i_nar _) (by decide) (by decide) ⟨_, rfl, ⟨by clear C R; simp_all [b2i, ← Int32.not_lt], rfl⟩⟩
          · refine r_aload_n (q := 47) (z := 0) C 0 rfl (by decide +kernel) rfl rfl ?_
            refine r_getI (q := 50) C 4 1 257 rfl (by decide +kernel) rfl (by decide) rfl rfl wf_X4_15 win4 (by assumption) ?_
            refine r_aload_n (q := 51) (z := 0) C 0 rfl (by decide +kernel) rfl rfl ?_
            refine r_getI (q := 54) C 4 3 259 rfl (by decide +kernel) rfl (by decide) rfl rfl wf_X4_21 win4 (by assumption) ?_
            refine r_iadd (q := 55) C rfl (by decide +kernel) ?_
            refine r_bipush (q := 57) (z := 10) (v := 10) C rfl (by decide +kernel) (by decide) ?_
            refine r_icmp_ge (q := 60) (off := 7) (tgt := 64) C rfl (by decide +kernel) (by decide) (fun c57 => ?_) (fun c57 => ?_)
            · refine r_iconst (q := 65) (z := 0) (v := 0) C rfl (by decide +kernel) (by decide) ?_
              exact r_zret C (by decide +kernel) rfl (by first | decide | exact b2i_nar _) (by decide) (by decide) ⟨_, rfl, ⟨by clear C R; simp_all [b2i, ← Int32.not_lt], rfl⟩⟩
            · refine r_iconst (q := 61) (z := 1) (v := 1) C rfl (by decide +kernel) (by decide) ?_
              refine r_goto (off := 4) (tgt := 65) C (by decide +kernel) (by decide) ?_
              exact r_zret C (by decide +kernel) rfl (by first | decide | exact b2i_nar _) (by decide) (by decide) ⟨_, rfl, ⟨by clear C R; simp_all [b2i, ← Int32.not_lt], rfl⟩⟩
theorem c_X4_covers {G : GT} {h : HP} {a : Nat} {x y : Int32} (hk : h.kd a = (0, 4)) : Con G 1 0 0 yX4_covers cX4_covers 3 (some .boolean) [rv a, .int x, .int y] h (PI (fun r h' => b2i (decide (h.fi 256 a ≤ x ∧ x < h.fi 256 a + h.fi 258 a ∧ h.fi 257 a ≤ y ∧ y < h.fi 257 a + h.fi 259 a)) = r ∧ h = h')) := by
  refine Con.of (lv := [some (rv a), some (.int x), some (.int y)]) (by decide) (by simp only [lvE_r, lvE_i, lvE_l, lvE_s, lvE_0]; rfl) (by simp only [lgl_r, lgl_i, lgl_l, lgl_s, lgl_0]; decide) (fun Γ C R => ?_)
  refine r_iload_n (q := 1) (z := 1) C 1 rfl (by decide +kernel) rfl rfl ?_
  refine r_aload_n (q := 2) (z := 0) C 0 rfl (by decide +kernel) rfl rfl ?_
  refine r_getI (q := 5) C 4 0 256 rfl (by decide +kernel) rfl (by decide) rfl rfl wf_X4_9 win4 (by assumption) ?_
  refine r_icmp_lt (q := 8) (off := 41) (tgt := 46) C rfl (by decide +kernel) (by decide) (fun c5 => ?_) (fun c5 => ?_)
  · refine r_iconst (q := 47) (z := 0) (v := 0) C rfl (by decide +kernel) (by decide) ?_
    exact r_zret C (by decide +kernel) rfl (by first | decide | exact b2i_nar _) (by decide) (by decide) ⟨_, rfl, ⟨by clear C R; simp_all [b2i, ← Int32.not_lt], rfl⟩⟩
  · refine r_iload_n (q := 9) (z := 1) C 1 rfl (by decide +kernel) rfl rfl ?_
    refine r_aload_n (q := 10) (z := 0) C 0 rfl (by decide +kernel) rfl rfl ?_
    refine r_getI (q := 13) C 4 0 256 rfl (by decide +kernel) rfl (by decide) rfl rfl wf_X4_9 win4 (by assumption) ?_
    refine r_aload_n (q := 14) (z := 0) C 0 rfl (by decide +kernel) rfl rfl ?_
    refine r_getI (q := 17) C 4 2 258 rfl (by decide +kernel) rfl (by decide) rfl rfl wf_X4_18 win4 (by assumption) ?_
    refine r_iadd (q := 18) C rfl (by decide +kernel) ?_
    refine r_icmp_ge (q := 21) (off := 28) (tgt := 46) C rfl (by decide +kernel) (by decide) (fun c18 => ?_) (fun c18 => ?_)
    · refine r_iconst (q := 47) (z := 0) (v := 0) C rfl (by decide +kernel) (by decide) ?_
      exact r_zret C (by decide +kernel) rfl (by first | decide | exact b2i_nar _) (by decide) (by decide) ⟨_, rfl, ⟨by clear C R; simp_all [b2i, ← Int32.not_lt], rfl⟩⟩
    · refine r_iload_n (q := 22) (z := 2) C 2 rfl (by decide +kernel) rfl rfl ?_
      refine r_aload_n (q := 23) (z := 0) C 0 rfl (by decide +kernel) rfl rfl ?_
      refine r_getI (q := 26) C 4 1 257 rfl (by decide +kernel) rfl (by decide) rfl rfl wf_X4_15 win4 (by assumption) ?_
      refine r_icmp_lt (q := 29) (off := 20) (tgt := 46) C rfl (by decide +kernel) (by decide) (fun c26 => ?_) (fun c26 => ?_)
      · refine r_iconst (q := 47) (z := 0) (v := 0) C rfl (by decide +kernel) (by decide) ?_
        exact r_zret C (by decide +kernel) rfl (by first | decide | exact b2i_nar _) (by decide) (by decide) ⟨_, rfl, ⟨by clear C R; simp_all [b2i, ← Int32.not_lt], rfl⟩⟩
      · refine r_iload_n (q := 30) (z := 2) C 2 rfl (by decide +kernel) rfl rfl ?_
        refine r_aload_n (q := 31) (z := 0) C 0 rfl (by decide +kernel) rfl rfl ?_
        refine r_getI (q := 34) C 4 1 257 rfl (by decide +kernel) rfl (by decide) rfl rfl wf_X4_15 win4 (by assumption) ?_
        refine r_aload_n (q := 35) (z := 0) C 0 rfl (by decide +kernel) rfl rfl ?_
        refine r_getI (q := 38) C 4 3 259 rfl (by decide +kernel) rfl (by decide) rfl rfl wf_X4_21 win4 (by assumption) ?_
        refine r_iadd (q := 39) C rfl (by decide +kernel) ?_
        refine r_icmp_ge (q := 42) (off := 7) (tgt := 46) C rfl (by decide +kernel) (by decide) (fun c39 => ?_) (fun c39 => ?_)
        · refine r_iconst (q := 47) (z := 0) (v := 0) C rfl (by decide +kernel) (by decide) ?_
          exact r_zret C (by decide +kernel) rfl (by first | decide | exact b2i_nar _) (by decide) (by decide) ⟨_, rfl, ⟨by clear C R; simp_all [b2i, ← Int32.not_lt], rfl⟩⟩
        · refine r_iconst (q := 43) (z := 1) (v := 1) C rfl (by decide +kernel) (by decide) ?_
          refine r_goto (off := 4) (tgt := 47) C (by decide +kernel) (by decide) ?_
          exact r_zret C (by decide +kernel) rfl (by first | decide | exact b2i_nar _) (by decide) (by decide) ⟨_, rfl, ⟨by clear C R; simp_all [b2i, ← Int32.not_lt], rfl⟩⟩
theorem c_X4_coversDoorOf {G : GT} {h : HP} {a b : Nat} (hk : h.kd a = (0, 4)) (hkb : h.kd b = (0, 4)) : Con G 2 0 0 yX4_coversDoorOf cX4_coversDoorOf 2 (some .boolean) [rv a, rv b] h (PI (fun r h' => b2i (decide (h.fi 256 a ≤ h.fi 256 b + (h.fi 258 b - 1) / 2 ∧ h.fi 256 b + (h.fi 258 b - 1) / 2 < h.fi 256 a + h.fi 258 a ∧ h.fi 257 a ≤ h.fi 257 b + h.fi 259 b ∧ h.fi 257 b + h.fi 259 b < h.fi 257 a + h.fi 259 a)) = r ∧ h = h')) := by
  refine Con.of (lv := [some (rv a), some (rv b)]) (by decide) (by simp only [lvE_r, lvE_i, lvE_l, lvE_s, lvE_0]; rfl) (by simp only [lgl_r, lgl_i, lgl_l, lgl_s, lgl_0]; decide) (fun Γ C R => ?_)
  refine r_aload_n (q := 1) (z := 0) C 0 rfl (by decide +kernel) rfl rfl ?_
  refine r_aload_n (q := 2) (z := 1) C 1 rfl (by decide +kernel) rfl rfl ?_
  refine cV0I (q := 5) C R rfl (by decide +kernel) lk_X4_32 (c_X4_doorX (by assumption)) (by decide) (by decide) (by decide) rfl (by first | exact Nat.le_of_ble_eq_true rfl | (simp only [List.map_cons, List.map_nil, List.sum_cons, List.sum_nil, rv_cat]; exact Nat.le_of_ble_eq_true rfl)) rfl (by assumption) ?_
  rintro _ _ ⟨rfl, rfl⟩
  refine r_aload_n (q := 6) (z := 1) C 1 rfl (by decide +kernel) rfl rfl ?_
  refine cV0I (q := 9) C R rfl (by decide +kernel) lk_X4_36 (c_X4_doorY (by assumption)) (by decide) (by decide) (by decide) rfl (by first | exact Nat.le_of_ble_eq_true rfl | (simp only [List.map_cons, List.map_nil, List.sum_cons, List.sum_nil, rv_cat]; exact Nat.le_of_ble_eq_true rfl)) rfl (by assumption) ?_
  rintro _ _ ⟨rfl, rfl⟩
  refine cV2I (q := 12) C R rfl (by decide +kernel) lk_X4_39 (c_X4_covers (by assumption)) (by decide) (by decide) (by decide) rfl (by first | exact Nat.le_of_ble_eq_true rfl | (simp only [List.map_cons, List.map_nil, List.sum_cons, List.sum_nil, rv_cat]; exact Nat.le_of_ble_eq_true rfl)) rfl (by assumption) ?_
  rintro _ _ ⟨rfl, rfl⟩
  exact r_zret C (by decide +kernel) rfl (by first | decide | exact b2i_nar _) (by decide) (by decide) ⟨_, rfl, ⟨rfl, rfl⟩⟩
theorem c_X4_gap {G : GT} {h : HP} {x w z v : Int32} : Con G 2 0 0 yX4_gap cX4_gap 4 (some .int) [.int x, .int w, .int z, .int v] h (PI (fun r h' => gp x w z v = r ∧ h = h')) := by
  refine Con.of (lv := [some (.int x), some (.int w), some (.int z), some (.int v)]) (by decide) (by simp only [lvE_r, lvE_i, lvE_l, lvE_s, lvE_0]; rfl) (by simp only [lgl_r, lgl_i, lgl_l, lgl_s, lgl_0]; decide) (fun Γ C R => ?_)
  refine r_iload_n (q := 1) (z := 2) C 2 rfl (by decide +kernel) rfl rfl ?_
  refine r_iload_n (q := 2) (z := 0) C 0 rfl (by decide +kernel) rfl rfl ?_
  refine r_iload_n (q := 3) (z := 1) C 1 rfl (by decide +kernel) rfl rfl ?_
  refine r_iadd (q := 4) C rfl (by decide +kernel) ?_
  refine r_isub (q := 5) C rfl (by decide +kernel) ?_
  refine r_iload_n (q := 6) (z := 0) C 0 rfl (by decide +kernel) rfl rfl ?_
  refine r_iload_n (q := 7) (z := 2) C 2 rfl (by decide +kernel) rfl rfl ?_
  refine r_iload_n (q := 8) (z := 3) C 3 rfl (by decide +kernel) rfl rfl ?_
  refine r_iadd (q := 9) C rfl (by decide +kernel) ?_
  refine r_isub (q := 10) C rfl (by decide +kernel) ?_
  refine r_mmax (q := 13) (i := 47) C R rfl (by decide +kernel) (by decide +kernel) (by decide) (by decide) (by decide) (by first | exact Nat.le_of_ble_eq_true rfl | (simp only [List.map_cons, List.map_nil, List.sum_cons, List.sum_nil, rv_cat]; exact Nat.le_of_ble_eq_true rfl)) ?_
  exact r_iret C (by decide +kernel) rfl (by decide) (by decide) ⟨_, rfl, ⟨rfl, rfl⟩⟩
theorem c_X4_overlaps {G : GT} {h : HP} {a b : Nat} (hk : h.kd a = (0, 4)) (hkb : h.kd b = (0, 4)) : Con G 3 0 0 yX4_overlaps cX4_overlaps 2 (some .boolean) [rv a, rv b] h (PI (fun r h' => b2i (decide (gp (h.fi 256 a) (h.fi 258 a) (h.fi 256 b) (h.fi 258 b) < 0 ∧ gp (h.fi 257 a) (h.fi 259 a) (h.fi 257 b) (h.fi 259 b) < 0)) = r ∧ h = h')) := by
  refine Con.of (lv := [some (rv a), some (rv b)]) (by decide) (by simp only [lvE_r, lvE_i, lvE_l, lvE_s, lvE_0]; rfl) (by simp only [lgl_r, lgl_i, lgl_l, lgl_s, lgl_0]; decide) (fun Γ C R => ?_)
  refine r_aload_n (q := 1) (z := 0) C 0 rfl (by decide +kernel) rfl rfl ?_
  refine r_getI (q := 4) C 4 0 256 rfl (by decide +kernel) rfl (by decide) rfl rfl wf_X4_9 win4 (by assumption) ?_
  refine r_aload_n (q := 5) (z := 0) C 0 rfl (by decide +kernel) rfl rfl ?_
  refine r_getI (q := 8) C 4 2 258 rfl (by decide +kernel) rfl (by decide) rfl rfl wf_X4_18 win4 (by assumption) ?_
  refine r_aload_n (q := 9) (z := 1) C 1 rfl (by decide +kernel) rfl rfl ?_
  refine r_getI (q := 12) C 4 0 256 rfl (by decide +kernel) rfl (by decide) rfl rfl wf_X4_9 win4 (by assumption) ?_
  refine r_aload_n (q := 13) (z := 1) C 1 rfl (by decide +kernel) rfl rfl ?_
  refine r_getI (q := 16) C 4 2 258 rfl (by decide +kernel) rfl (by decide) rfl rfl wf_X4_18 win4 (by assumption) ?_
  refine cS4I (q := 19) C R rfl (by decide +kernel) lk_X4_43 (c_X4_gap ) (by decide) (by decide) (by decide) rfl (by first | exact Nat.le_of_ble_eq_true rfl | (simp only [List.map_cons, List.map_nil, List.sum_cons, List.sum_nil, rv_cat]; exact Nat.le_of_ble_eq_true rfl))  ?_
  rintro _ _ ⟨rfl, rfl⟩
  refine r_if_ge (q := 22) (off := 29) (tgt := 48) C rfl (by decide +kernel) (by decide) (fun c19 => ?_) (fun c19 => ?_)
  · refine r_iconst (q := 49) (z := 0) (v := 0) C rfl (by decide +kernel) (by decide) ?_
    exact r_zret C (by decide +kernel) rfl (by first | decide | exact b2i_nar _) (by decide) (by decide) ⟨_, rfl, ⟨by clear C R; simp_all [b2i, ← Int32.not_lt], rfl⟩⟩
  · refine r_aload_n (q := 23) (z := 0) C 0 rfl (by decide +kernel) rfl rfl ?_
    refine r_getI (q := 26) C 4 1 257 rfl (by decide +kernel) rfl (by decide) rfl rfl wf_X4_15 win4 (by assumption) ?_
    refine r_aload_n (q := 27) (z := 0) C 0 rfl (by decide +kernel) rfl rfl ?_
    refine r_getI (q := 30) C 4 3 259 rfl (by decide +kernel) rfl (by decide) rfl rfl wf_X4_21 win4 (by assumption) ?_
    refine r_aload_n (q := 31) (z := 1) C 1 rfl (by decide +kernel) rfl rfl ?_
    refine r_getI (q := 34) C 4 1 257 rfl (by decide +kernel) rfl (by decide) rfl rfl wf_X4_15 win4 (by assumption) ?_
    refine r_aload_n (q := 35) (z := 1) C 1 rfl (by decide +kernel) rfl rfl ?_
    refine r_getI (q := 38) C 4 3 259 rfl (by decide +kernel) rfl (by decide) rfl rfl wf_X4_21 win4 (by assumption) ?_
    refine cS4I (q := 41) C R rfl (by decide +kernel) lk_X4_43 (c_X4_gap ) (by decide) (by decide) (by decide) rfl (by first | exact Nat.le_of_ble_eq_true rfl | (simp only [List.map_cons, List.map_nil, List.sum_cons, List.sum_nil, rv_cat]; exact Nat.le_of_ble_eq_true rfl))  ?_
    rintro _ _ ⟨rfl, rfl⟩
    refine r_if_ge (q := 44) (off := 7) (tgt := 48) C rfl (by decide +kernel) (by decide) (fun c41 => ?_) (fun c41 => ?_)
    · refine r_iconst (q := 49) (z := 0) (v := 0) C rfl (by decide +kernel) (by decide) ?_
      exact r_zret C (by decide +kernel) rfl (by first | decide | exact b2i_nar _) (by decide) (by decide) ⟨_, rfl, ⟨by clear C R; simp_all [b2i, ← Int32.not_lt], rfl⟩⟩
    · refine r_iconst (q := 45) (z := 1) (v := 1) C rfl (by decide +kernel) (by decide) ?_
      refine r_goto (off := 4) (tgt := 49) C (by decide +kernel) (by decide) ?_
      exact r_zret C (by decide +kernel) rfl (by first | decide | exact b2i_nar _) (by decide) (by decide) ⟨_, rfl, ⟨by clear C R; simp_all [b2i, ← Int32.not_lt], rfl⟩⟩
theorem c_X4_isApartFrom {G : GT} {h : HP} {a b : Nat} (hk : h.kd a = (0, 4)) (hkb : h.kd b = (0, 4)) : Con G 3 0 0 yX4_isApartFrom cX4_isApartFrom 2 (some .boolean) [rv a, rv b] h (PI (fun r h' => b2i (decide (2 ≤ gp (h.fi 256 a) (h.fi 258 a) (h.fi 256 b) (h.fi 258 b) ∨ 2 ≤ gp (h.fi 257 a) (h.fi 259 a) (h.fi 257 b) (h.fi 259 b))) = r ∧ h = h')) := by
  refine Con.of (lv := [some (rv a), some (rv b)]) (by decide) (by simp only [lvE_r, lvE_i, lvE_l, lvE_s, lvE_0]; rfl) (by simp only [lgl_r, lgl_i, lgl_l, lgl_s, lgl_0]; decide) (fun Γ C R => ?_)
  refine r_aload_n (q := 1) (z := 0) C 0 rfl (by decide +kernel) rfl rfl ?_
  refine r_getI (q := 4) C 4 0 256 rfl (by decide +kernel) rfl (by decide) rfl rfl wf_X4_9 win4 (by assumption) ?_
  refine r_aload_n (q := 5) (z := 0) C 0 rfl (by decide +kernel) rfl rfl ?_
  refine r_getI (q := 8) C 4 2 258 rfl (by decide +kernel) rfl (by decide) rfl rfl wf_X4_18 win4 (by assumption) ?_
  refine r_aload_n (q := 9) (z := 1) C 1 rfl (by decide +kernel) rfl rfl ?_
  refine r_getI (q := 12) C 4 0 256 rfl (by decide +kernel) rfl (by decide) rfl rfl wf_X4_9 win4 (by assumption) ?_
  refine r_aload_n (q := 13) (z := 1) C 1 rfl (by decide +kernel) rfl rfl ?_
  refine r_getI (q := 16) C 4 2 258 rfl (by decide +kernel) rfl (by decide) rfl rfl wf_X4_18 win4 (by assumption) ?_
  refine cS4I (q := 19) C R rfl (by decide +kernel) lk_X4_43 (c_X4_gap ) (by decide) (by decide) (by decide) rfl (by first | exact Nat.le_of_ble_eq_true rfl | (simp only [List.map_cons, List.map_nil, List.sum_cons, List.sum_nil, rv_cat]; exact Nat.le_of_ble_eq_true rfl))  ?_
  rintro _ _ ⟨rfl, rfl⟩
  refine r_iconst (q := 20) (z := 2) (v := 2) C rfl (by decide +kernel) (by decide) ?_
  refine r_icmp_ge (q := 23) (off := 26) (tgt := 46) C rfl (by decide +kernel) (by decide) (fun c20 => ?_) (fun c20 => ?_)
  · refine r_iconst (q := 47) (z := 1) (v := 1) C rfl (by decide +kernel) (by decide) ?_
    refine r_goto (off := 4) (tgt := 51) C (by decide +kernel) (by decide) ?_
    exact r_zret C (by decide +kernel) rfl (by first | decide | exact b2i_nar _) (by decide) (by decide) ⟨_, rfl, ⟨by clear C R; simp_all [b2i, ← Int32.not_lt], rfl⟩⟩
  · refine r_aload_n (q := 24) (z := 0) C 0 rfl (by decide +kernel) rfl rfl ?_
    refine r_getI (q := 27) C 4 1 257 rfl (by decide +kernel) rfl (by decide) rfl rfl wf_X4_15 win4 (by assumption) ?_
    refine r_aload_n (q := 28) (z := 0) C 0 rfl (by decide +kernel) rfl rfl ?_
    refine r_getI (q := 31) C 4 3 259 rfl (by decide +kernel) rfl (by decide) rfl rfl wf_X4_21 win4 (by assumption) ?_
    refine r_aload_n (q := 32) (z := 1) C 1 rfl (by decide +kernel) rfl rfl ?_
    refine r_getI (q := 35) C 4 1 257 rfl (by decide +kernel) rfl (by decide) rfl rfl wf_X4_15 win4 (by assumption) ?_
    refine r_aload_n (q := 36) (z := 1) C 1 rfl (by decide +kernel) rfl rfl ?_
    refine r_getI (q := 39) C 4 3 259 rfl (by decide +kernel) rfl (by decide) rfl rfl wf_X4_21 win4 (by assumption) ?_
    refine cS4I (q := 42) C R rfl (by decide +kernel) lk_X4_43 (c_X4_gap ) (by decide) (by decide) (by decide) rfl (by first | exact Nat.le_of_ble_eq_true rfl | (simp only [List.map_cons, List.map_nil, List.sum_cons, List.sum_nil, rv_cat]; exact Nat.le_of_ble_eq_true rfl))  ?_
    rintro _ _ ⟨rfl, rfl⟩
    refine r_iconst (q := 43) (z := 2) (v := 2) C rfl (by decide +kernel) (by decide) ?_
    refine r_icmp_lt (q := 46) (off := 7) (tgt := 50) C rfl (by decide +kernel) (by decide) (fun c43 => ?_) (fun c43 => ?_)
    · refine r_iconst (q := 51) (z := 0) (v := 0) C rfl (by decide +kernel) (by decide) ?_
      exact r_zret C (by decide +kernel) rfl (by first | decide | exact b2i_nar _) (by decide) (by decide) ⟨_, rfl, ⟨by clear C R; simp_all [b2i, ← Int32.not_lt], rfl⟩⟩
    · refine r_iconst (q := 47) (z := 1) (v := 1) C rfl (by decide +kernel) (by decide) ?_
      refine r_goto (off := 4) (tgt := 51) C (by decide +kernel) (by decide) ?_
      exact r_zret C (by decide +kernel) rfl (by first | decide | exact b2i_nar _) (by decide) (by decide) ⟨_, rfl, ⟨by clear C R; simp_all [b2i, ← Int32.not_lt], rfl⟩⟩
