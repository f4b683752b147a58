section ROWS
variable {G : GT} {Γ : CT} {y : MethodName} {cc : ByteArray} {nL : Nat} {rt : Option FieldType} {Q : State → Prop} {k n : Nat} {h : HP} {pc q : Nat} {lv : List (Option Value)} {st : List Value}
theorem r_iconst (C : Cx G Γ y cc nL rt) {z : Int} {v : Int32} (hq : pc + 1 = q) (d : decode cc pc = .ok (.iconst z, 1)) (hv : Int32.ofInt z = v) (kk : wX G Γ Q k n h q lv (.int v :: st)) : wX G Γ Q k n h pc lv st := by
  subst hq
  exact fun H locs ls a b c => lv_iconst C.1 C.2.1 d hv (kk H locs ls a b c)
theorem r_bipush (C : Cx G Γ y cc nL rt) {z : Int} {v : Int32} (hq : pc + 2 = q) (d : decode cc pc = .ok (.bipush z, 2)) (hv : (Int8.ofInt z).toInt32 = v) (kk : wX G Γ Q k n h q lv (.int v :: st)) : wX G Γ Q k n h pc lv st := by
  subst hq
  exact fun H locs ls a b c => lv_bipush C.1 C.2.1 d hv (kk H locs ls a b c)
theorem r_sipush (C : Cx G Γ y cc nL rt) {z : Int} {v : Int32} (hq : pc + 3 = q) (d : decode cc pc = .ok (.sipush z, 3)) (hv : (Int16.ofInt z).toInt32 = v) (kk : wX G Γ Q k n h q lv (.int v :: st)) : wX G Γ Q k n h pc lv st := by
  subst hq
  exact fun H locs ls a b c => lv_sipush C.1 C.2.1 d hv (kk H locs ls a b c)
theorem r_lconst (C : Cx G Γ y cc nL rt) {z : Fin 2} {v : Int64} (hq : pc + 1 = q) (d : decode cc pc = .ok (.lconst z, 1)) (hv : Int64.ofNat (z : Nat) = v) (kk : wX G Γ Q k n h q lv (.long v :: st)) : wX G Γ Q k n h pc lv st := by
  subst hq
  exact fun H locs ls a b c => lv_lconst C.1 C.2.1 d hv (kk H locs ls a b c)
theorem r_ldc (C : Cx G Γ y cc nL rt) {i : Nat} {v : Int32} (hq : pc + 2 = q) (d : decode cc pc = .ok (.ldc i, 2)) (hw : Cond.constant y.cls i v ∈ WS) (kk : wX G Γ Q k n h q lv (.int v :: st)) : wX G Γ Q k n h pc lv st := by
  subst hq
  exact fun H locs ls a b c => lv_ldc C.1 C.2.1 C.2.2.2.1 (C.2.2.2.2.1 _ hw) d (kk H locs ls a b c)
theorem r_ldcw (C : Cx G Γ y cc nL rt) {i : Nat} {v : Int32} (hq : pc + 3 = q) (d : decode cc pc = .ok (.ldc_w i, 3)) (hw : Cond.constant y.cls i v ∈ WS) (kk : wX G Γ Q k n h q lv (.int v :: st)) : wX G Γ Q k n h pc lv st := by
  subst hq
  exact fun H locs ls a b c => lv_ldcw C.1 C.2.1 C.2.2.2.1 (C.2.2.2.2.1 _ hw) d (kk H locs ls a b c)
theorem r_ldc2 (C : Cx G Γ y cc nL rt) {i : Nat} {v : Int64} (hq : pc + 3 = q) (d : decode cc pc = .ok (.ldc2_w i, 3)) (hw : Cond.constantLong y.cls i v ∈ WS) (kk : wX G Γ Q k n h q lv (.long v :: st)) : wX G Γ Q k n h pc lv st := by
  subst hq
  exact fun H locs ls a b c => lv_ldc2 C.1 C.2.1 C.2.2.2.1 (C.2.2.2.2.1 _ hw) d (kk H locs ls a b c)
theorem r_ldcS (C : Cx G Γ y cc nL rt) {i j : Nat} {tx : String} (hq : pc + 2 = q) (d : decode cc pc = .ok (.ldc i, 2)) (hw : st_own[j]? = some (y.cls, i, tx)) (kk : wX G Γ Q k n h q lv (.ref (G.aK j) :: st)) : wX G Γ Q k n h pc lv st := by
  subst hq
  exact fun H locs ls a b c => va_ldcS C.1 C.2.1 C.2.2.2.1 (C.2.2.2.2.2.2.2.2.1.2.2.2 j _ hw) d (kk H locs ls a b c)
theorem r_iload_n (C : Cx G Γ y cc nL rt) (i : Nat) {z : Fin 4} {x : Int32} (hq : pc + 1 = q) (d : decode cc pc = .ok (.iload_n z, 1)) (hz : (z : Nat) = i) (hl : lv[i]? = some (some (.int x))) (kk : wX G Γ Q k n h q lv (.int x :: st)) : wX G Γ Q k n h pc lv st := by
  subst hq
  exact fun H locs ls a b c => lv_iload_n C.1 C.2.1 d hz (c.2.2 i _ hl) (kk H locs ls a b c)
theorem r_iload (C : Cx G Γ y cc nL rt) (i : Nat) {x : Int32} (hq : pc + 2 = q) (d : decode cc pc = .ok (.iload i, 2)) (hl : lv[i]? = some (some (.int x))) (kk : wX G Γ Q k n h q lv (.int x :: st)) : wX G Γ Q k n h pc lv st := by
  subst hq
  exact fun H locs ls a b c => lv_iload C.1 C.2.1 d (c.2.2 i _ hl) (kk H locs ls a b c)
theorem r_lload_n (C : Cx G Γ y cc nL rt) (i : Nat) {z : Fin 4} {x : Int64} (hq : pc + 1 = q) (d : decode cc pc = .ok (.lload_n z, 1)) (hz : (z : Nat) = i) (hl : lv[i]? = some (some (.long x))) (kk : wX G Γ Q k n h q lv (.long x :: st)) : wX G Γ Q k n h pc lv st := by
  subst hq
  exact fun H locs ls a b c => lv_lload_n C.1 C.2.1 d hz (c.2.2 i _ hl) (kk H locs ls a b c)
theorem r_lload (C : Cx G Γ y cc nL rt) (i : Nat) {x : Int64} (hq : pc + 2 = q) (d : decode cc pc = .ok (.lload i, 2)) (hl : lv[i]? = some (some (.long x))) (kk : wX G Γ Q k n h q lv (.long x :: st)) : wX G Γ Q k n h pc lv st := by
  subst hq
  exact fun H locs ls a b c => lv_lload C.1 C.2.1 d (c.2.2 i _ hl) (kk H locs ls a b c)
theorem r_aload_n (C : Cx G Γ y cc nL rt) (i : Nat) {z : Fin 4} {x : Nat} (hq : pc + 1 = q) (d : decode cc pc = .ok (.aload_n z, 1)) (hz : (z : Nat) = i) (hl : lv[i]? = some (some (rv x))) (kk : wX G Γ Q k n h q lv (rv x :: st)) : wX G Γ Q k n h pc lv st := by
  subst hq
  intro H locs ls a b c
  have k1 := kk H locs ls a b c
  have h1 := c.2.2 i _ hl
  by_cases e : x = 0
  · subst e
    exact lv_aload_nN C.1 C.2.1 d hz h1 k1
  · rw [rv_ref e] at h1 k1
    exact lv_aload_n C.1 C.2.1 d hz h1 k1
theorem r_aload (C : Cx G Γ y cc nL rt) (i : Nat) {x : Nat} (hq : pc + 2 = q) (d : decode cc pc = .ok (.aload i, 2)) (hl : lv[i]? = some (some (rv x))) (kk : wX G Γ Q k n h q lv (rv x :: st)) : wX G Γ Q k n h pc lv st := by
  subst hq
  intro H locs ls a b c
  have k1 := kk H locs ls a b c
  have h1 := c.2.2 i _ hl
  by_cases e : x = 0
  · subst e
    exact lv_aloadN C.1 C.2.1 d h1 k1
  · rw [rv_ref e] at h1 k1
    exact lv_aload C.1 C.2.1 d h1 k1
theorem r_aload_nS (C : Cx G Γ y cc nL rt) (i : Nat) {z : Fin 4} {x : Nat} (hq : pc + 1 = q) (d : decode cc pc = .ok (.aload_n z, 1)) (hz : (z : Nat) = i) (hl : lv[i]? = some (some (.ref x))) (kk : wX G Γ Q k n h q lv (.ref x :: st)) : wX G Γ Q k n h pc lv st := by
  subst hq
  exact fun H locs ls a b c => lv_aload_n C.1 C.2.1 d hz (c.2.2 i _ hl) (kk H locs ls a b c)
theorem r_aloadS (C : Cx G Γ y cc nL rt) (i : Nat) {x : Nat} (hq : pc + 2 = q) (d : decode cc pc = .ok (.aload i, 2)) (hl : lv[i]? = some (some (.ref x))) (kk : wX G Γ Q k n h q lv (.ref x :: st)) : wX G Γ Q k n h pc lv st := by
  subst hq
  exact fun H locs ls a b c => lv_aload C.1 C.2.1 d (c.2.2 i _ hl) (kk H locs ls a b c)
theorem r_istore_n (C : Cx G Γ y cc nL rt) (i : Nat) {z : Fin 4} {x : Int32} (hq : pc + 1 = q) (d : decode cc pc = .ok (.istore_n z, 1)) (hz : (z : Nat) = i) (hn : i < nL) (ho : okst lv i = true) (kk : wX G Γ Q k n h q (lv.set i (some (.int x))) st) : wX G Γ Q k n h pc lv (.int x :: st) := by
  subst hq
  intro H locs ls a b c
  exact lv_istore_n C.1 C.2.1 d hz (lvh_has c) (C.2.2.1 ▸ hn) rfl (fun ls' h' => kk H locs ls' a b (lvh_of1 ho h'))
theorem r_istore (C : Cx G Γ y cc nL rt) (i : Nat) {x : Int32} (hq : pc + 2 = q) (d : decode cc pc = .ok (.istore i, 2)) (hn : i < nL) (ho : okst lv i = true) (kk : wX G Γ Q k n h q (lv.set i (some (.int x))) st) : wX G Γ Q k n h pc lv (.int x :: st) := by
  subst hq
  intro H locs ls a b c
  exact lv_istore C.1 C.2.1 d (lvh_has c) (C.2.2.1 ▸ hn) rfl (fun ls' h' => kk H locs ls' a b (lvh_of1 ho h'))
theorem r_lstore_n (C : Cx G Γ y cc nL rt) (i : Nat) {z : Fin 4} {x : Int64} (hq : pc + 1 = q) (d : decode cc pc = .ok (.lstore_n z, 1)) (hz : (z : Nat) = i) (hn : i + 1 < nL) (ho : okst lv i = true) (kk : wX G Γ Q k n h q ((lv.set i (some (.long x))).set (i + 1) none) st) : wX G Γ Q k n h pc lv (.long x :: st) := by
  subst hq
  intro H locs ls a b c
  exact lv_lstore_n C.1 C.2.1 d hz (lvh_has c) (C.2.2.1 ▸ hn) rfl (fun ls' h' => kk H locs ls' a b (lvh_of2 ho h'))
theorem r_lstore (C : Cx G Γ y cc nL rt) (i : Nat) {x : Int64} (hq : pc + 2 = q) (d : decode cc pc = .ok (.lstore i, 2)) (hn : i + 1 < nL) (ho : okst lv i = true) (kk : wX G Γ Q k n h q ((lv.set i (some (.long x))).set (i + 1) none) st) : wX G Γ Q k n h pc lv (.long x :: st) := by
  subst hq
  intro H locs ls a b c
  exact lv_lstore C.1 C.2.1 d (lvh_has c) (C.2.2.1 ▸ hn) rfl (fun ls' h' => kk H locs ls' a b (lvh_of2 ho h'))
theorem r_astore_n (C : Cx G Γ y cc nL rt) (i : Nat) {z : Fin 4} {x : Nat} (hq : pc + 1 = q) (d : decode cc pc = .ok (.astore_n z, 1)) (hz : (z : Nat) = i) (hn : i < nL) (ho : okst lv i = true) (kk : wX G Γ Q k n h q (lv.set i (some (rv x))) st) : wX G Γ Q k n h pc lv (rv x :: st) := by
  subst hq
  intro H locs ls a b c
  have k1 := fun ls' h' => kk H locs ls' a b (lvh_of1 (nL := Γ.c.maxLocals) ho h')
  by_cases e : x = 0
  · subst e
    exact lv_astore_nN C.1 C.2.1 d hz (lvh_has c) (C.2.2.1 ▸ hn) rfl k1
  · rw [rv_ref e] at k1 ⊢
    exact lv_astore_n C.1 C.2.1 d hz (lvh_has c) (C.2.2.1 ▸ hn) rfl k1
theorem r_astore (C : Cx G Γ y cc nL rt) (i : Nat) {x : Nat} (hq : pc + 2 = q) (d : decode cc pc = .ok (.astore i, 2)) (hn : i < nL) (ho : okst lv i = true) (kk : wX G Γ Q k n h q (lv.set i (some (rv x))) st) : wX G Γ Q k n h pc lv (rv x :: st) := by
  subst hq
  intro H locs ls a b c
  have k1 := fun ls' h' => kk H locs ls' a b (lvh_of1 (nL := Γ.c.maxLocals) ho h')
  by_cases e : x = 0
  · subst e
    exact lv_astoreN C.1 C.2.1 d (lvh_has c) (C.2.2.1 ▸ hn) rfl k1
  · rw [rv_ref e] at k1 ⊢
    exact lv_astore C.1 C.2.1 d (lvh_has c) (C.2.2.1 ▸ hn) rfl k1
theorem r_iinc (C : Cx G Γ y cc nL rt) (i : Nat) {z : Int} {x v : Int32} (hq : pc + 3 = q) (d : decode cc pc = .ok (.iinc i z, 3)) (hl : lv[i]? = some (some (.int x))) (hz : Int32.ofInt z = v) (hn : i < nL) (ho : okst lv i = true) (kk : wX G Γ Q k n h q (lv.set i (some (.int (x + v)))) st) : wX G Γ Q k n h pc lv st := by
  subst hq
  subst hz
  intro H locs ls a b c
  obtain ⟨j, hj⟩ := List.getElem?_of_mem (lvp_mem.mpr hl)
  exact lv_iinc C.1 C.2.1 d (lvh_has c) hj rfl (C.2.2.1 ▸ hn) rfl (fun ls' h' => kk H locs ls' a b (lvh_of1 ho h'))
theorem r_iadd (C : Cx G Γ y cc nL rt) {x z : Int32} (hq : pc + 1 = q) (d : decode cc pc = .ok (.iadd, 1))  (kk : wX G Γ Q k n h q lv (.int (x + z) :: st)) : wX G Γ Q k n h pc lv (.int z :: .int x :: st) := by
  subst hq
  exact fun H locs ls a b c => lv_iadd C.1 C.2.1 d (kk H locs ls a b c)
theorem r_isub (C : Cx G Γ y cc nL rt) {x z : Int32} (hq : pc + 1 = q) (d : decode cc pc = .ok (.isub, 1))  (kk : wX G Γ Q k n h q lv (.int (x - z) :: st)) : wX G Γ Q k n h pc lv (.int z :: .int x :: st) := by
  subst hq
  exact fun H locs ls a b c => lv_isub C.1 C.2.1 d (kk H locs ls a b c)
theorem r_imul (C : Cx G Γ y cc nL rt) {x z : Int32} (hq : pc + 1 = q) (d : decode cc pc = .ok (.imul, 1))  (kk : wX G Γ Q k n h q lv (.int (x * z) :: st)) : wX G Γ Q k n h pc lv (.int z :: .int x :: st) := by
  subst hq
  exact fun H locs ls a b c => lv_imul C.1 C.2.1 d (kk H locs ls a b c)
theorem r_iand (C : Cx G Γ y cc nL rt) {x z : Int32} (hq : pc + 1 = q) (d : decode cc pc = .ok (.iand, 1))  (kk : wX G Γ Q k n h q lv (.int (x &&& z) :: st)) : wX G Γ Q k n h pc lv (.int z :: .int x :: st) := by
  subst hq
  exact fun H locs ls a b c => lv_iand C.1 C.2.1 d (kk H locs ls a b c)
theorem r_ior (C : Cx G Γ y cc nL rt) {x z : Int32} (hq : pc + 1 = q) (d : decode cc pc = .ok (.ior, 1))  (kk : wX G Γ Q k n h q lv (.int (x ||| z) :: st)) : wX G Γ Q k n h pc lv (.int z :: .int x :: st) := by
  subst hq
  exact fun H locs ls a b c => lv_ior C.1 C.2.1 d (kk H locs ls a b c)
theorem r_ixor (C : Cx G Γ y cc nL rt) {x z : Int32} (hq : pc + 1 = q) (d : decode cc pc = .ok (.ixor, 1))  (kk : wX G Γ Q k n h q lv (.int (x ^^^ z) :: st)) : wX G Γ Q k n h pc lv (.int z :: .int x :: st) := by
  subst hq
  exact fun H locs ls a b c => lv_ixor C.1 C.2.1 d (kk H locs ls a b c)
theorem r_idiv (C : Cx G Γ y cc nL rt) {x z : Int32} (hq : pc + 1 = q) (d : decode cc pc = .ok (.idiv, 1)) (hz : ¬ z = 0) (kk : wX G Γ Q k n h q lv (.int (x / z) :: st)) : wX G Γ Q k n h pc lv (.int z :: .int x :: st) := by
  subst hq
  exact fun H locs ls a b c => lv_idiv C.1 C.2.1 d hz (kk H locs ls a b c)
theorem r_irem (C : Cx G Γ y cc nL rt) {x z : Int32} (hq : pc + 1 = q) (d : decode cc pc = .ok (.irem, 1)) (hz : ¬ z = 0) (kk : wX G Γ Q k n h q lv (.int (x - x / z * z) :: st)) : wX G Γ Q k n h pc lv (.int z :: .int x :: st) := by
  subst hq
  exact fun H locs ls a b c => lv_irem C.1 C.2.1 d hz (kk H locs ls a b c)
theorem r_ineg (C : Cx G Γ y cc nL rt) {x : Int32} (hq : pc + 1 = q) (d : decode cc pc = .ok (.ineg, 1))  (kk : wX G Γ Q k n h q lv (.int (-x) :: st)) : wX G Γ Q k n h pc lv (.int x :: st) := by
  subst hq
  exact fun H locs ls a b c => lv_ineg C.1 C.2.1 d (kk H locs ls a b c)
theorem r_ladd (C : Cx G Γ y cc nL rt) {x z : Int64} (hq : pc + 1 = q) (d : decode cc pc = .ok (.ladd, 1))  (kk : wX G Γ Q k n h q lv (.long (x + z) :: st)) : wX G Γ Q k n h pc lv (.long z :: .long x :: st) := by
  subst hq
  exact fun H locs ls a b c => lv_ladd C.1 C.2.1 d (kk H locs ls a b c)
theorem r_lsub (C : Cx G Γ y cc nL rt) {x z : Int64} (hq : pc + 1 = q) (d : decode cc pc = .ok (.lsub, 1))  (kk : wX G Γ Q k n h q lv (.long (x - z) :: st)) : wX G Γ Q k n h pc lv (.long z :: .long x :: st) := by
  subst hq
  exact fun H locs ls a b c => lv_lsub C.1 C.2.1 d (kk H locs ls a b c)
theorem r_lmul (C : Cx G Γ y cc nL rt) {x z : Int64} (hq : pc + 1 = q) (d : decode cc pc = .ok (.lmul, 1))  (kk : wX G Γ Q k n h q lv (.long (x * z) :: st)) : wX G Γ Q k n h pc lv (.long z :: .long x :: st) := by
  subst hq
  exact fun H locs ls a b c => lv_lmul C.1 C.2.1 d (kk H locs ls a b c)
theorem r_land (C : Cx G Γ y cc nL rt) {x z : Int64} (hq : pc + 1 = q) (d : decode cc pc = .ok (.land, 1))  (kk : wX G Γ Q k n h q lv (.long (x &&& z) :: st)) : wX G Γ Q k n h pc lv (.long z :: .long x :: st) := by
  subst hq
  exact fun H locs ls a b c => lv_land C.1 C.2.1 d (kk H locs ls a b c)
theorem r_lor (C : Cx G Γ y cc nL rt) {x z : Int64} (hq : pc + 1 = q) (d : decode cc pc = .ok (.lor, 1))  (kk : wX G Γ Q k n h q lv (.long (x ||| z) :: st)) : wX G Γ Q k n h pc lv (.long z :: .long x :: st) := by
  subst hq
  exact fun H locs ls a b c => lv_lor C.1 C.2.1 d (kk H locs ls a b c)
theorem r_ldiv (C : Cx G Γ y cc nL rt) {x z : Int64} (hq : pc + 1 = q) (d : decode cc pc = .ok (.ldiv, 1)) (hz : ¬ z = 0) (kk : wX G Γ Q k n h q lv (.long (x / z) :: st)) : wX G Γ Q k n h pc lv (.long z :: .long x :: st) := by
  subst hq
  exact fun H locs ls a b c => lv_ldiv C.1 C.2.1 d hz (kk H locs ls a b c)
theorem r_lrem (C : Cx G Γ y cc nL rt) {x z : Int64} (hq : pc + 1 = q) (d : decode cc pc = .ok (.lrem, 1)) (hz : ¬ z = 0) (kk : wX G Γ Q k n h q lv (.long (x - x / z * z) :: st)) : wX G Γ Q k n h pc lv (.long z :: .long x :: st) := by
  subst hq
  exact fun H locs ls a b c => lv_lrem C.1 C.2.1 d hz (kk H locs ls a b c)
theorem r_ishl (C : Cx G Γ y cc nL rt) {x z : Int32} (hq : pc + 1 = q) (d : decode cc pc = .ok (.ishl, 1))  (kk : wX G Γ Q k n h q lv (.int (x <<< (z &&& 31)) :: st)) : wX G Γ Q k n h pc lv (.int z :: .int x :: st) := by
  subst hq
  exact fun H locs ls a b c => lv_ishl C.1 C.2.1 d (kk H locs ls a b c)
theorem r_ishr (C : Cx G Γ y cc nL rt) {x z : Int32} (hq : pc + 1 = q) (d : decode cc pc = .ok (.ishr, 1))  (kk : wX G Γ Q k n h q lv (.int (x >>> (z &&& 31)) :: st)) : wX G Γ Q k n h pc lv (.int z :: .int x :: st) := by
  subst hq
  exact fun H locs ls a b c => lv_ishr C.1 C.2.1 d (kk H locs ls a b c)
theorem r_iushr (C : Cx G Γ y cc nL rt) {x z : Int32} (hq : pc + 1 = q) (d : decode cc pc = .ok (.iushr, 1))  (kk : wX G Γ Q k n h q lv (.int (x.toUInt32 >>> (z.toUInt32 &&& Int32.toUInt32 31)).toInt32 :: st)) : wX G Γ Q k n h pc lv (.int z :: .int x :: st) := by
  subst hq
  exact fun H locs ls a b c => lv_iushr C.1 C.2.1 d rfl (kk H locs ls a b c)
theorem r_lshl (C : Cx G Γ y cc nL rt) {x : Int64} {z : Int32} (hq : pc + 1 = q) (d : decode cc pc = .ok (.lshl, 1))  (kk : wX G Γ Q k n h q lv (.long (x <<< (z.toInt64 &&& 63)) :: st)) : wX G Γ Q k n h pc lv (.int z :: .long x :: st) := by
  subst hq
  exact fun H locs ls a b c => lv_lshl C.1 C.2.1 d rfl (kk H locs ls a b c)
theorem r_lshr (C : Cx G Γ y cc nL rt) {x : Int64} {z : Int32} (hq : pc + 1 = q) (d : decode cc pc = .ok (.lshr, 1))  (kk : wX G Γ Q k n h q lv (.long (x >>> (z.toInt64 &&& 63)) :: st)) : wX G Γ Q k n h pc lv (.int z :: .long x :: st) := by
  subst hq
  exact fun H locs ls a b c => lv_lshr C.1 C.2.1 d rfl (kk H locs ls a b c)
theorem r_lushr (C : Cx G Γ y cc nL rt) {x : Int64} {z : Int32} (hq : pc + 1 = q) (d : decode cc pc = .ok (.lushr, 1))  (kk : wX G Γ Q k n h q lv (.long (x.toUInt64 >>> (z.toInt64.toUInt64 &&& Int64.toUInt64 63)).toInt64 :: st)) : wX G Γ Q k n h pc lv (.int z :: .long x :: st) := by
  subst hq
  exact fun H locs ls a b c => lv_lushr C.1 C.2.1 d rfl (kk H locs ls a b c)
theorem r_i2l (C : Cx G Γ y cc nL rt) {x : Int32} (hq : pc + 1 = q) (d : decode cc pc = .ok (.i2l, 1))  (kk : wX G Γ Q k n h q lv (.long x.toInt64 :: st)) : wX G Γ Q k n h pc lv (.int x :: st) := by
  subst hq
  exact fun H locs ls a b c => lv_i2l C.1 C.2.1 d rfl (kk H locs ls a b c)
theorem r_l2i (C : Cx G Γ y cc nL rt) {x : Int64} (hq : pc + 1 = q) (d : decode cc pc = .ok (.l2i, 1))  (kk : wX G Γ Q k n h q lv (.int x.toInt32 :: st)) : wX G Γ Q k n h pc lv (.long x :: st) := by
  subst hq
  exact fun H locs ls a b c => lv_l2i C.1 C.2.1 d rfl (kk H locs ls a b c)
theorem r_i2b (C : Cx G Γ y cc nL rt) {x : Int32} (hq : pc + 1 = q) (d : decode cc pc = .ok (.i2b, 1))  (kk : wX G Γ Q k n h q lv (.int x.toInt8.toInt32 :: st)) : wX G Γ Q k n h pc lv (.int x :: st) := by
  subst hq
  exact fun H locs ls a b c => lv_i2b C.1 C.2.1 d rfl (kk H locs ls a b c)
theorem r_i2c (C : Cx G Γ y cc nL rt) {x : Int32} (hq : pc + 1 = q) (d : decode cc pc = .ok (.i2c, 1))  (kk : wX G Γ Q k n h q lv (.int (x.toUInt32 % 65536).toInt32 :: st)) : wX G Γ Q k n h pc lv (.int x :: st) := by
  subst hq
  exact fun H locs ls a b c => lv_i2c C.1 C.2.1 d rfl (kk H locs ls a b c)
theorem r_lcmp (C : Cx G Γ y cc nL rt) {x z : Int64} (hq : pc + 1 = q) (d : decode cc pc = .ok (.lcmp, 1))  (kk : wX G Γ Q k n h q lv (.int (lg_cmp x z) :: st)) : wX G Γ Q k n h pc lv (.long z :: .long x :: st) := by
  subst hq
  exact fun H locs ls a b c => W.lcmp C.1 C.2.1 d (kk H locs ls a b c)
theorem r_dup (C : Cx G Γ y cc nL rt) {va : Value} (hq : pc + 1 = q) (d : decode cc pc = .ok (.dup, 1)) (hva : va.category = 1) (kk : wX G Γ Q k n h q lv (va :: va :: st)) : wX G Γ Q k n h pc lv (va :: st) := by
  subst hq
  exact fun H locs ls a b c => lv_dup C.1 C.2.1 d hva (kk H locs ls a b c)
theorem r_pop (C : Cx G Γ y cc nL rt) {va : Value} (hq : pc + 1 = q) (d : decode cc pc = .ok (.pop, 1)) (hva : va.category = 1) (kk : wX G Γ Q k n h q lv st) : wX G Γ Q k n h pc lv (va :: st) := by
  subst hq
  exact fun H locs ls a b c => lv_pop C.1 C.2.1 d hva (kk H locs ls a b c)
theorem r_dup_x1 (C : Cx G Γ y cc nL rt) {va vb : Value} (hq : pc + 1 = q) (d : decode cc pc = .ok (.dup_x1, 1)) (hva : va.category = 1) (hvb : vb.category = 1) (kk : wX G Γ Q k n h q lv (va :: vb :: va :: st)) : wX G Γ Q k n h pc lv (va :: vb :: st) := by
  subst hq
  exact fun H locs ls a b c => lv_dup_x1 C.1 C.2.1 d hva hvb (kk H locs ls a b c)
theorem r_dup2 (C : Cx G Γ y cc nL rt) {va vb : Value} (hq : pc + 1 = q) (d : decode cc pc = .ok (.dup2, 1)) (hva : va.category = 1) (hvb : vb.category = 1) (kk : wX G Γ Q k n h q lv (va :: vb :: va :: vb :: st)) : wX G Γ Q k n h pc lv (va :: vb :: st) := by
  subst hq
  exact fun H locs ls a b c => lv_dup2_11 C.1 C.2.1 d hva hvb (kk H locs ls a b c)
theorem r_null (C : Cx G Γ y cc nL rt)  (hq : pc + 1 = q) (d : decode cc pc = .ok (.aconst_null, 1))  (kk : wX G Γ Q k n h q lv (rv 0 :: st)) : wX G Γ Q k n h pc lv st := by
  subst hq
  exact fun H locs ls a b c => lv_null C.1 C.2.1 d (kk H locs ls a b c)
theorem r_if_eq (C : Cx G Γ y cc nL rt) {x : Int32} {off : Int} {tgt : Nat} (hq : pc + 3 = q) (d : decode cc pc = .ok (.ifCond .eq off, 3)) (ht : (pc : Int) + off = (tgt : Int)) (kt : x = 0 → wX G Γ Q k n h tgt lv st) (kf : ¬ (x = 0) → wX G Γ Q k n h q lv st) : wX G Γ Q k n h pc lv (.int x :: st) := by
  subst hq
  exact fun H locs ls a b c => lv_if_eq C.1 C.2.1 d ht (fun e => kt e H locs ls a b c) (fun e => kf e H locs ls a b c)
theorem r_icmp_eq (C : Cx G Γ y cc nL rt) {x z : Int32} {off : Int} {tgt : Nat} (hq : pc + 3 = q) (d : decode cc pc = .ok (.if_icmp .eq off, 3)) (ht : (pc : Int) + off = (tgt : Int)) (kt : x = z → wX G Γ Q k n h tgt lv st) (kf : ¬ (x = z) → wX G Γ Q k n h q lv st) : wX G Γ Q k n h pc lv (.int z :: .int x :: st) := by
  subst hq
  exact fun H locs ls a b c => lv_icmp_eq C.1 C.2.1 d ht (fun e => kt e H locs ls a b c) (fun e => kf e H locs ls a b c)
theorem r_if_ne (C : Cx G Γ y cc nL rt) {x : Int32} {off : Int} {tgt : Nat} (hq : pc + 3 = q) (d : decode cc pc = .ok (.ifCond .ne off, 3)) (ht : (pc : Int) + off = (tgt : Int)) (kt : ¬ x = 0 → wX G Γ Q k n h tgt lv st) (kf : x = 0 → wX G Γ Q k n h q lv st) : wX G Γ Q k n h pc lv (.int x :: st) := by
  subst hq
  exact fun H locs ls a b c => lv_if_ne C.1 C.2.1 d ht (fun e => kt e H locs ls a b c) (fun e => kf e H locs ls a b c)
theorem r_icmp_ne (C : Cx G Γ y cc nL rt) {x z : Int32} {off : Int} {tgt : Nat} (hq : pc + 3 = q) (d : decode cc pc = .ok (.if_icmp .ne off, 3)) (ht : (pc : Int) + off = (tgt : Int)) (kt : ¬ x = z → wX G Γ Q k n h tgt lv st) (kf : x = z → wX G Γ Q k n h q lv st) : wX G Γ Q k n h pc lv (.int z :: .int x :: st) := by
  subst hq
  exact fun H locs ls a b c => lv_icmp_ne C.1 C.2.1 d ht (fun e => kt e H locs ls a b c) (fun e => kf e H locs ls a b c)
theorem r_if_lt (C : Cx G Γ y cc nL rt) {x : Int32} {off : Int} {tgt : Nat} (hq : pc + 3 = q) (d : decode cc pc = .ok (.ifCond .lt off, 3)) (ht : (pc : Int) + off = (tgt : Int)) (kt : x < 0 → wX G Γ Q k n h tgt lv st) (kf : ¬ (x < 0) → wX G Γ Q k n h q lv st) : wX G Γ Q k n h pc lv (.int x :: st) := by
  subst hq
  exact fun H locs ls a b c => lv_if_lt C.1 C.2.1 d ht (fun e => kt e H locs ls a b c) (fun e => kf e H locs ls a b c)
theorem r_icmp_lt (C : Cx G Γ y cc nL rt) {x z : Int32} {off : Int} {tgt : Nat} (hq : pc + 3 = q) (d : decode cc pc = .ok (.if_icmp .lt off, 3)) (ht : (pc : Int) + off = (tgt : Int)) (kt : x < z → wX G Γ Q k n h tgt lv st) (kf : ¬ (x < z) → wX G Γ Q k n h q lv st) : wX G Γ Q k n h pc lv (.int z :: .int x :: st) := by
  subst hq
  exact fun H locs ls a b c => lv_icmp_lt C.1 C.2.1 d ht (fun e => kt e H locs ls a b c) (fun e => kf e H locs ls a b c)
theorem r_if_ge (C : Cx G Γ y cc nL rt) {x : Int32} {off : Int} {tgt : Nat} (hq : pc + 3 = q) (d : decode cc pc = .ok (.ifCond .ge off, 3)) (ht : (pc : Int) + off = (tgt : Int)) (kt : 0 ≤ x → wX G Γ Q k n h tgt lv st) (kf : ¬ (0 ≤ x) → wX G Γ Q k n h q lv st) : wX G Γ Q k n h pc lv (.int x :: st) := by
  subst hq
  exact fun H locs ls a b c => lv_if_ge C.1 C.2.1 d ht (fun e => kt e H locs ls a b c) (fun e => kf e H locs ls a b c)
theorem r_icmp_ge (C : Cx G Γ y cc nL rt) {x z : Int32} {off : Int} {tgt : Nat} (hq : pc + 3 = q) (d : decode cc pc = .ok (.if_icmp .ge off, 3)) (ht : (pc : Int) + off = (tgt : Int)) (kt : z ≤ x → wX G Γ Q k n h tgt lv st) (kf : ¬ (z ≤ x) → wX G Γ Q k n h q lv st) : wX G Γ Q k n h pc lv (.int z :: .int x :: st) := by
  subst hq
  exact fun H locs ls a b c => lv_icmp_ge C.1 C.2.1 d ht (fun e => kt e H locs ls a b c) (fun e => kf e H locs ls a b c)
theorem r_if_gt (C : Cx G Γ y cc nL rt) {x : Int32} {off : Int} {tgt : Nat} (hq : pc + 3 = q) (d : decode cc pc = .ok (.ifCond .gt off, 3)) (ht : (pc : Int) + off = (tgt : Int)) (kt : 0 < x → wX G Γ Q k n h tgt lv st) (kf : ¬ (0 < x) → wX G Γ Q k n h q lv st) : wX G Γ Q k n h pc lv (.int x :: st) := by
  subst hq
  exact fun H locs ls a b c => lv_if_gt C.1 C.2.1 d ht (fun e => kt e H locs ls a b c) (fun e => kf e H locs ls a b c)
theorem r_icmp_gt (C : Cx G Γ y cc nL rt) {x z : Int32} {off : Int} {tgt : Nat} (hq : pc + 3 = q) (d : decode cc pc = .ok (.if_icmp .gt off, 3)) (ht : (pc : Int) + off = (tgt : Int)) (kt : z < x → wX G Γ Q k n h tgt lv st) (kf : ¬ (z < x) → wX G Γ Q k n h q lv st) : wX G Γ Q k n h pc lv (.int z :: .int x :: st) := by
  subst hq
  exact fun H locs ls a b c => lv_icmp_gt C.1 C.2.1 d ht (fun e => kt e H locs ls a b c) (fun e => kf e H locs ls a b c)
theorem r_if_le (C : Cx G Γ y cc nL rt) {x : Int32} {off : Int} {tgt : Nat} (hq : pc + 3 = q) (d : decode cc pc = .ok (.ifCond .le off, 3)) (ht : (pc : Int) + off = (tgt : Int)) (kt : x ≤ 0 → wX G Γ Q k n h tgt lv st) (kf : ¬ (x ≤ 0) → wX G Γ Q k n h q lv st) : wX G Γ Q k n h pc lv (.int x :: st) := by
  subst hq
  exact fun H locs ls a b c => lv_if_le C.1 C.2.1 d ht (fun e => kt e H locs ls a b c) (fun e => kf e H locs ls a b c)
theorem r_icmp_le (C : Cx G Γ y cc nL rt) {x z : Int32} {off : Int} {tgt : Nat} (hq : pc + 3 = q) (d : decode cc pc = .ok (.if_icmp .le off, 3)) (ht : (pc : Int) + off = (tgt : Int)) (kt : x ≤ z → wX G Γ Q k n h tgt lv st) (kf : ¬ (x ≤ z) → wX G Γ Q k n h q lv st) : wX G Γ Q k n h pc lv (.int z :: .int x :: st) := by
  subst hq
  exact fun H locs ls a b c => lv_icmp_le C.1 C.2.1 d ht (fun e => kt e H locs ls a b c) (fun e => kf e H locs ls a b c)
theorem r_goto (C : Cx G Γ y cc nL rt) {off : Int} {tgt : Nat} (d : decode cc pc = .ok (.goto off, 3)) (ht : (pc : Int) + off = (tgt : Int)) (kk : wX G Γ Q k n h tgt lv st) : wX G Γ Q k n h pc lv st :=
  fun H locs ls a b c => lv_goto C.1 C.2.1 d ht (kk H locs ls a b c)
theorem r_ifnull (C : Cx G Γ y cc nL rt) {x : Nat} {off : Int} {tgt : Nat} (hq : pc + 3 = q) (d : decode cc pc = .ok (.ifnull off, 3)) (ht : (pc : Int) + off = (tgt : Int)) (kt : x = 0 → wX G Γ Q k n h tgt lv st) (kf : ¬ x = 0 → wX G Γ Q k n h q lv st) : wX G Γ Q k n h pc lv (rv x :: st) := by
  subst hq
  intro H locs ls a b c
  by_cases e : x = 0
  · have k1 := kt e H locs ls a b c
    subst e
    exact lv_ifnullN C.1 C.2.1 d ht k1
  · have k1 := kf e H locs ls a b c
    rw [rv_ref e]
    exact lv_ifnull C.1 C.2.1 d k1
theorem r_ifnonnull (C : Cx G Γ y cc nL rt) {x : Nat} {off : Int} {tgt : Nat} (hq : pc + 3 = q) (d : decode cc pc = .ok (.ifnonnull off, 3)) (ht : (pc : Int) + off = (tgt : Int)) (kt : ¬ x = 0 → wX G Γ Q k n h tgt lv st) (kf : x = 0 → wX G Γ Q k n h q lv st) : wX G Γ Q k n h pc lv (rv x :: st) := by
  subst hq
  intro H locs ls a b c
  by_cases e : x = 0
  · have k1 := kf e H locs ls a b c
    subst e
    exact lv_ifnonnullN C.1 C.2.1 d k1
  · have k1 := kt e H locs ls a b c
    rw [rv_ref e]
    exact lv_ifnonnull C.1 C.2.1 d ht k1
theorem op_inj {a b : Nat} (h : op a = op b) : a = b := by
  unfold op at h
  split at h <;> split at h
  · omega
  · cases h
  · cases h
  · exact Option.some.inj h
theorem r_acmp_eq (C : Cx G Γ y cc nL rt) {x z : Nat} {off : Int} {tgt : Nat} (hq : pc + 3 = q) (d : decode cc pc = .ok (.if_acmp .eq off, 3)) (ht : (pc : Int) + off = (tgt : Int)) (kt : x = z → wX G Γ Q k n h tgt lv st) (kf : ¬ x = z → wX G Γ Q k n h q lv st) : wX G Γ Q k n h pc lv (rv z :: rv x :: st) := by
  subst hq
  rw [← va_rf_op x, ← va_rf_op z]
  exact fun H locs ls a b c => lv_acmp_eq C.1 C.2.1 d ht (fun e => kt (op_inj e) H locs ls a b c) (fun e => kf (fun e' => e (by rw [e'])) H locs ls a b c)
theorem r_acmp_ne (C : Cx G Γ y cc nL rt) {x z : Nat} {off : Int} {tgt : Nat} (hq : pc + 3 = q) (d : decode cc pc = .ok (.if_acmp .ne off, 3)) (ht : (pc : Int) + off = (tgt : Int)) (kt : ¬ x = z → wX G Γ Q k n h tgt lv st) (kf : x = z → wX G Γ Q k n h q lv st) : wX G Γ Q k n h pc lv (rv z :: rv x :: st) := by
  subst hq
  rw [← va_rf_op x, ← va_rf_op z]
  refine fun H locs ls a b c => lv_acmp_ne C.1 C.2.1 d ht (fun e => kt (fun e' => e (by rw [e'])) H locs ls a b c) (fun e => kf (by first | exact op_inj e | exact op_inj (Classical.not_not.mp e)) H locs ls a b c)
theorem r_lookup (C : Cx G Γ y cc nL rt) {dflt : Int} {ps : Array (Int × Int)} {len : Nat} {x : Int32} {off : Int} {tgt : Nat} (d : decode cc pc = .ok (.lookupswitch dflt ps, len)) (hp : (ps.toList.zip (ps.toList.drop 1)).all (fun (a, next) => a.1 < next.1) = true) (ho : Op.lookupswitch.offset ps.toList dflt x.toInt = off) (ht : (pc : Int) + off = (tgt : Int)) (kk : wX G Γ Q k n h tgt lv st) : wX G Γ Q k n h pc lv (.int x :: st) :=
  fun H locs ls a b c => lv_lookup C.1 C.2.1 d hp ho ht (kk H locs ls a b c)
theorem r_tableOut (C : Cx G Γ y cc nL rt) {dflt lo hi : Int} {offs : Array Int} {len : Nat} {x : Int32} {tgt : Nat} (d : decode cc pc = .ok (.tableswitch dflt lo hi offs, len)) (h1 : x.toInt < lo ∨ hi < x.toInt) (ht : (pc : Int) + dflt = (tgt : Int)) (kk : wX G Γ Q k n h tgt lv st) : wX G Γ Q k n h pc lv (.int x :: st) :=
  fun H locs ls a b c => lv_tableOut C.1 C.2.1 d h1 ht (kk H locs ls a b c)
theorem r_tableIn (C : Cx G Γ y cc nL rt) {dflt lo hi : Int} {offs : Array Int} {len : Nat} {x : Int32} {off : Int} {tgt : Nat} (d : decode cc pc = .ok (.tableswitch dflt lo hi offs, len)) (h1 : ¬ x.toInt < lo) (h2 : ¬ hi < x.toInt) (ho : offs[(x.toInt - lo).toNat]? = some off) (ht : (pc : Int) + off = (tgt : Int)) (kk : wX G Γ Q k n h tgt lv st) : wX G Γ Q k n h pc lv (.int x :: st) :=
  fun H locs ls a b c => lv_tableIn C.1 C.2.1 d h1 h2 ho ht (kk H locs ls a b c)
/-! fields -/
theorem r_getI (C : Cx G Γ y cc nL rt) (c s0 g : Nat) {a : Nat} {Cn ref : String} {T : u_T} {N i : Nat} (hq : pc + 3 = q) (d : decode cc pc = .ok (.getfield i, 3)) (hcl : vwCl[c]? = some (Cn, T, N)) (hs : s0 < N) (hf : (ftab c)[s0]? = some (false, g)) (hr : (T s0).1 = ref) (hw : Cond.fieldLink y.cls i ref (T s0).2.1 (T s0).2.2.1 ∈ WS) (hin : ∀ w ∈ u_ws Cn T N, w ∈ WS)
    (hk : h.kd a = (0, c)) (kk : wX G Γ Q k n h q lv (.int (h.fi g a) :: st)) : wX G Γ Q k n h pc lv (rv a :: st) := by
  subst hq
  subst hr
  intro H locs ls aa b cl
  have h0 := Rl.ne0 aa C.2.2.2.2.2.2.2.2.2.2.2 hk (show (0 : Nat) ≠ 99 by decide)
  obtain ⟨la, q0, -, hP, -, h4, -⟩ := Rl.in aa hk (show (0 : Nat) ≠ 99 by decide)
  rw [kE_obj hk] at h4
  rw [rv_ref h0]
  exact va_get (Ts := WS) C.1 C.2.1 C.2.2.2.2.1 hin C.2.2.2.1 C.2.2.2.2.2.2.2.2.1.1 hP q0 h4 hcl s0 hs (C.2.2.2.2.1 _ hw) (fun _ h => h) (v := .int (h.fi g a)) (by rw [List.getElem?_map, hf]; rfl) d (kk H locs ls aa b cl)
theorem r_getR (C : Cx G Γ y cc nL rt) (c s0 g : Nat) {a : Nat} {Cn ref : String} {T : u_T} {N i : Nat} (hq : pc + 3 = q) (d : decode cc pc = .ok (.getfield i, 3)) (hcl : vwCl[c]? = some (Cn, T, N)) (hs : s0 < N) (hf : (ftab c)[s0]? = some (true, g)) (hr : (T s0).1 = ref) (hw : Cond.fieldLink y.cls i ref (T s0).2.1 (T s0).2.2.1 ∈ WS) (hin : ∀ w ∈ u_ws Cn T N, w ∈ WS)
    (hk : h.kd a = (0, c)) (kk : wX G Γ Q k n h q lv (rv (h.fr g a) :: st)) : wX G Γ Q k n h pc lv (rv a :: st) := by
  subst hq
  subst hr
  intro H locs ls aa b cl
  have h0 := Rl.ne0 aa C.2.2.2.2.2.2.2.2.2.2.2 hk (show (0 : Nat) ≠ 99 by decide)
  obtain ⟨la, q0, -, hP, -, h4, -⟩ := Rl.in aa hk (show (0 : Nat) ≠ 99 by decide)
  rw [kE_obj hk] at h4
  rw [rv_ref h0]
  exact va_get (Ts := WS) C.1 C.2.1 C.2.2.2.2.1 hin C.2.2.2.1 C.2.2.2.2.2.2.2.2.1.1 hP q0 h4 hcl s0 hs (C.2.2.2.2.1 _ hw) (fun _ h => h) (v := rv (h.fr g a)) (by rw [List.getElem?_map, hf]; rfl) d (kk H locs ls aa b cl)
theorem fv_setI {h : HP} {a g : Nat} {v : Int32} {q : Bool × Nat} (hq : q.2 ≠ g) : fv (h.setI g a v) a q = fv h a q := by
  unfold fv
  have : (h.setI g a v).fi q.2 a = h.fi q.2 a := if_neg (fun e => hq e.1)
  rw [this]
  rfl
theorem fv_setR {h : HP} {a g v : Nat} {q : Bool × Nat} (hq : q.2 ≠ g) : fv (h.setR g a v) a q = fv h a q := by
  unfold fv
  have : (h.setR g a v).fr q.2 a = h.fr q.2 a := if_neg (fun e => hq e.1)
  rw [this]
  rfl
theorem map_setI {h : HP} {a g : Nat} {v : Int32} : ∀ (l : List (Bool × Nat)) (s0 : Nat), l[s0]? = some (false, g) → va_nd (l.map (·.2)) = true → (l.map (fv h a)).set s0 (.int v) = l.map (fv (h.setI g a v) a)
  | [], s0, hf, _ => by simp at hf
  | x :: l, s0, hf, hn => by
    simp only [List.map_cons, va_nd, Bool.and_eq_true, decide_eq_true_eq] at hn
    cases s0 with
    | zero =>
      cases hf
      have e1 : fv (h.setI g a v) a (false, g) = .int v := by
        show Value.int (if g = g ∧ a = a then v else h.fi g a) = .int v
        rw [if_pos ⟨rfl, rfl⟩]
      have e2 : l.map (fv (h.setI g a v) a) = l.map (fv h a) := List.map_congr_left fun z hz => fv_setI (fun e => hn.1 (by rw [← e]; exact List.mem_map.mpr ⟨z, hz, rfl⟩))
      rw [List.map_cons, List.map_cons, List.set_cons_zero, e1, e2]
    | succ s0 =>
      rw [List.getElem?_cons_succ] at hf
      have e1 : fv (h.setI g a v) a x = fv h a x := fv_setI (fun e => hn.1 (by rw [e]; exact List.mem_map.mpr ⟨_, List.mem_of_getElem? hf, rfl⟩))
      rw [List.map_cons, List.map_cons, List.set_cons_succ, e1, map_setI l s0 hf hn.2]
theorem map_setR {h : HP} {a g v : Nat} : ∀ (l : List (Bool × Nat)) (s0 : Nat), l[s0]? = some (true, g) → va_nd (l.map (·.2)) = true → (l.map (fv h a)).set s0 (rv v) = l.map (fv (h.setR g a v) a)
  | [], s0, hf, _ => by simp at hf
  | x :: l, s0, hf, hn => by
    simp only [List.map_cons, va_nd, Bool.and_eq_true, decide_eq_true_eq] at hn
    cases s0 with
    | zero =>
      cases hf
      have e1 : fv (h.setR g a v) a (true, g) = rv v := by
        show rv (if g = g ∧ a = a then v else h.fr g a) = rv v
        rw [if_pos ⟨rfl, rfl⟩]
      have e2 : l.map (fv (h.setR g a v) a) = l.map (fv h a) := List.map_congr_left fun z hz => fv_setR (fun e => hn.1 (by rw [← e]; exact List.mem_map.mpr ⟨z, hz, rfl⟩))
      rw [List.map_cons, List.map_cons, List.set_cons_zero, e1, e2]
    | succ s0 =>
      rw [List.getElem?_cons_succ] at hf
      have e1 : fv (h.setR g a v) a x = fv h a x := fv_setR (fun e => hn.1 (by rw [e]; exact List.mem_map.mpr ⟨_, List.mem_of_getElem? hf, rfl⟩))
      rw [List.map_cons, List.map_cons, List.set_cons_succ, e1, map_setR l s0 hf hn.2]
theorem kE_setI_ne {ca : Nat → ClassId} {h : HP} {a b g : Nat} {v : Int32} (hb : b ≠ a) : kE ca (h.setI g a v) b = kE ca h b := kE_congr rfl (fun g' => if_neg (fun e => hb e.2)) (fun _ => rfl) rfl rfl rfl
theorem kE_setR_ne {ca : Nat → ClassId} {h : HP} {a b g v : Nat} (hb : b ≠ a) : kE ca (h.setR g a v) b = kE ca h b := kE_congr rfl (fun _ => rfl) (fun g' => if_neg (fun e => hb e.2)) rfl rfl rfl
theorem r_putI (C : Cx G Γ y cc nL rt) (c s0 g : Nat) {a : Nat} {Cn ref : String} {T : u_T} {N i : Nat} {v : Int32} {ty : FieldType} (hq : pc + 3 = q) (d : decode cc pc = .ok (.putfield i, 3)) (hcl : vwCl[c]? = some (Cn, T, N)) (hs : s0 < N) (hf : (ftab c)[s0]? = some (false, g)) (hr : (T s0).1 = ref) (hw : Cond.fieldLink y.cls i ref (T s0).2.1 (T s0).2.2.1 ∈ WS) (hin : ∀ w ∈ u_ws Cn T N, w ∈ WS)
    (ty0 : Nat → FieldType) (hty : ∀ k, k < N → parseFieldDescriptor (T k).2.2.1 = some (ty0 k)) (hnm : ∀ a, a < N → ∀ b, b < N → a ≠ b → (T a).2.1 ≠ (T b).2.1) (hfin : (T s0).2.2.2 = false) (hd : parseFieldDescriptor (T s0).2.2.1 = some ty) (hl : (ftab c).length = N) (hnd : va_nd ((ftab c).map (·.2)) = true)
    (hn : narrow ty (.int v) = .int v) (hfit : fits ty (.int v) = true) (hk : h.kd a = (0, c)) (kk : wX G Γ Q k n (h.setI g a v) q lv st) : wX G Γ Q k n h pc lv (.int v :: rv a :: st) := by
  subst hq
  subst hr
  intro H locs ls aa b cl
  have h0 := Rl.ne0 aa C.2.2.2.2.2.2.2.2.2.2.2 hk (show (0 : Nat) ≠ 99 by decide)
  obtain ⟨la, q0, h1, hP, hD, h4, hm⟩ := Rl.in aa hk (show (0 : Nat) ≠ 99 by decide)
  have h4' := h4
  rw [kE_obj hk] at h4'
  rw [rv_ref h0]
  refine va_put (Ts := WS) C.1 C.2.1 C.2.2.2.2.1 hin ty0 hty hnm C.2.2.2.1 C.2.2.2.2.2.2.2.2.1.1 hP hD b q0 h4' hcl s0 hs (C.2.2.2.2.1 _ hw) (fun _ h => h) hfin hd hn hfit (by rw [List.length_map, hl]; exact hs) d (fun H1 locs1 hP1 hD1 hS1 => ?_)
  have e : (Sum.inr (c, ((ftab c).map (fv h a)).set s0 (.int v)) : va_E) = kE G.ca (h.setI g a v) a := by rw [kE_obj (h := h.setI g a v) hk, map_setI _ _ hf hnd]
  rw [e] at hP1 hD1
  exact kk H1 locs1 ls (Rl.upd h1 hD h4 hm rfl (fun b hb => kE_setI_ne hb) hP1 hD1) hS1 cl
theorem r_putIF (C : Cx G Γ y cc nL rt) (c s0 g : Nat) {a : Nat} {Cn ref : String} {T : u_T} {N i : Nat} {v : Int32} {ty : FieldType} (hq : pc + 3 = q) (d : decode cc pc = .ok (.putfield i, 3)) (hcl : vwCl[c]? = some (Cn, T, N)) (hs : s0 < N) (hf : (ftab c)[s0]? = some (false, g)) (hr : (T s0).1 = ref) (hw : Cond.fieldLink y.cls i ref (T s0).2.1 (T s0).2.2.1 ∈ WS) (hin : ∀ w ∈ u_ws Cn T N, w ∈ WS)
    (ty0 : Nat → FieldType) (hty : ∀ k, k < N → parseFieldDescriptor (T k).2.2.1 = some (ty0 k)) (hnm : ∀ a, a < N → ∀ b, b < N → a ≠ b → (T a).2.1 ≠ (T b).2.1) (hfin : (T s0).2.2.2 = true) (hnm0 : y.name = "<init>") (hdecl : (T s0).1 = y.cls) (hd : parseFieldDescriptor (T s0).2.2.1 = some ty) (hl : (ftab c).length = N) (hnd : va_nd ((ftab c).map (·.2)) = true)
    (hn : narrow ty (.int v) = .int v) (hfit : fits ty (.int v) = true) (hk : h.kd a = (0, c)) (kk : wX G Γ Q k n (h.setI g a v) q lv st) : wX G Γ Q k n h pc lv (.int v :: rv a :: st) := by
  subst hq
  subst hr
  intro H locs ls aa b cl
  have h0 := Rl.ne0 aa C.2.2.2.2.2.2.2.2.2.2.2 hk (show (0 : Nat) ≠ 99 by decide)
  obtain ⟨la, q0, h1, hP, hD, h4, hm⟩ := Rl.in aa hk (show (0 : Nat) ≠ 99 by decide)
  have h4' := h4
  rw [kE_obj hk] at h4'
  rw [rv_ref h0]
  refine va_putF (Ts := WS) C.1 C.2.1 C.2.2.2.2.1 hin ty0 hty hnm C.2.2.2.1 C.2.2.2.2.2.2.2.2.1.1 hP hD b q0 h4' hcl s0 hs (C.2.2.2.2.1 _ hw) (fun _ h => h) hfin (C.2.2.2.2.2.2.2.1.trans hnm0) hdecl hd hn hfit (by rw [List.length_map, hl]; exact hs) d (fun H1 locs1 hP1 hD1 hS1 => ?_)
  have e : (Sum.inr (c, ((ftab c).map (fv h a)).set s0 (.int v)) : va_E) = kE G.ca (h.setI g a v) a := by rw [kE_obj (h := h.setI g a v) hk, map_setI _ _ hf hnd]
  rw [e] at hP1 hD1
  exact kk H1 locs1 ls (Rl.upd h1 hD h4 hm rfl (fun b hb => kE_setI_ne hb) hP1 hD1) hS1 cl
theorem r_putR (C : Cx G Γ y cc nL rt) (c s0 g : Nat) {a : Nat} {Cn ref : String} {T : u_T} {N i : Nat} {v : Nat} {ty : FieldType} (hq : pc + 3 = q) (d : decode cc pc = .ok (.putfield i, 3)) (hcl : vwCl[c]? = some (Cn, T, N)) (hs : s0 < N) (hf : (ftab c)[s0]? = some (true, g)) (hr : (T s0).1 = ref) (hw : Cond.fieldLink y.cls i ref (T s0).2.1 (T s0).2.2.1 ∈ WS) (hin : ∀ w ∈ u_ws Cn T N, w ∈ WS)
    (ty0 : Nat → FieldType) (hty : ∀ k, k < N → parseFieldDescriptor (T k).2.2.1 = some (ty0 k)) (hnm : ∀ a, a < N → ∀ b, b < N → a ≠ b → (T a).2.1 ≠ (T b).2.1) (hfin : (T s0).2.2.2 = false) (hd : parseFieldDescriptor (T s0).2.2.1 = some ty) (hl : (ftab c).length = N) (hnd : va_nd ((ftab c).map (·.2)) = true)
    (hn : narrow ty (rv v) = rv v) (hfit : fits ty (rv v) = true) (hk : h.kd a = (0, c)) (kk : wX G Γ Q k n (h.setR g a v) q lv st) : wX G Γ Q k n h pc lv (rv v :: rv a :: st) := by
  subst hq
  subst hr
  intro H locs ls aa b cl
  have h0 := Rl.ne0 aa C.2.2.2.2.2.2.2.2.2.2.2 hk (show (0 : Nat) ≠ 99 by decide)
  obtain ⟨la, q0, h1, hP, hD, h4, hm⟩ := Rl.in aa hk (show (0 : Nat) ≠ 99 by decide)
  have h4' := h4
  rw [kE_obj hk] at h4'
  rw [rv_ref h0]
  refine va_put (Ts := WS) C.1 C.2.1 C.2.2.2.2.1 hin ty0 hty hnm C.2.2.2.1 C.2.2.2.2.2.2.2.2.1.1 hP hD b q0 h4' hcl s0 hs (C.2.2.2.2.1 _ hw) (fun _ h => h) hfin hd hn hfit (by rw [List.length_map, hl]; exact hs) d (fun H1 locs1 hP1 hD1 hS1 => ?_)
  have e : (Sum.inr (c, ((ftab c).map (fv h a)).set s0 (rv v)) : va_E) = kE G.ca (h.setR g a v) a := by rw [kE_obj (h := h.setR g a v) hk, map_setR _ _ hf hnd]
  rw [e] at hP1 hD1
  exact kk H1 locs1 ls (Rl.upd h1 hD h4 hm rfl (fun b hb => kE_setR_ne hb) hP1 hD1) hS1 cl
theorem r_putRF (C : Cx G Γ y cc nL rt) (c s0 g : Nat) {a : Nat} {Cn ref : String} {T : u_T} {N i : Nat} {v : Nat} {ty : FieldType} (hq : pc + 3 = q) (d : decode cc pc = .ok (.putfield i, 3)) (hcl : vwCl[c]? = some (Cn, T, N)) (hs : s0 < N) (hf : (ftab c)[s0]? = some (true, g)) (hr : (T s0).1 = ref) (hw : Cond.fieldLink y.cls i ref (T s0).2.1 (T s0).2.2.1 ∈ WS) (hin : ∀ w ∈ u_ws Cn T N, w ∈ WS)
    (ty0 : Nat → FieldType) (hty : ∀ k, k < N → parseFieldDescriptor (T k).2.2.1 = some (ty0 k)) (hnm : ∀ a, a < N → ∀ b, b < N → a ≠ b → (T a).2.1 ≠ (T b).2.1) (hfin : (T s0).2.2.2 = true) (hnm0 : y.name = "<init>") (hdecl : (T s0).1 = y.cls) (hd : parseFieldDescriptor (T s0).2.2.1 = some ty) (hl : (ftab c).length = N) (hnd : va_nd ((ftab c).map (·.2)) = true)
    (hn : narrow ty (rv v) = rv v) (hfit : fits ty (rv v) = true) (hk : h.kd a = (0, c)) (kk : wX G Γ Q k n (h.setR g a v) q lv st) : wX G Γ Q k n h pc lv (rv v :: rv a :: st) := by
  subst hq
  subst hr
  intro H locs ls aa b cl
  have h0 := Rl.ne0 aa C.2.2.2.2.2.2.2.2.2.2.2 hk (show (0 : Nat) ≠ 99 by decide)
  obtain ⟨la, q0, h1, hP, hD, h4, hm⟩ := Rl.in aa hk (show (0 : Nat) ≠ 99 by decide)
  have h4' := h4
  rw [kE_obj hk] at h4'
  rw [rv_ref h0]
  refine va_putF (Ts := WS) C.1 C.2.1 C.2.2.2.2.1 hin ty0 hty hnm C.2.2.2.1 C.2.2.2.2.2.2.2.2.1.1 hP hD b q0 h4' hcl s0 hs (C.2.2.2.2.1 _ hw) (fun _ h => h) hfin (C.2.2.2.2.2.2.2.1.trans hnm0) hdecl hd hn hfit (by rw [List.length_map, hl]; exact hs) d (fun H1 locs1 hP1 hD1 hS1 => ?_)
  have e : (Sum.inr (c, ((ftab c).map (fv h a)).set s0 (rv v)) : va_E) = kE G.ca (h.setR g a v) a := by rw [kE_obj (h := h.setR g a v) hk, map_setR _ _ hf hnd]
  rw [e] at hP1 hD1
  exact kk H1 locs1 ls (Rl.upd h1 hD h4 hm rfl (fun b hb => kE_setR_ne hb) hP1 hD1) hS1 cl
/-! arrays -/
theorem kE_stI_ne {ca : Nat → ClassId} {h : HP} {a b i : Nat} {v : Int32} (hb : b ≠ a) : kE ca (h.stI a i v) b = kE ca h b := kE_congr rfl (fun _ => rfl) (fun _ => rfl) (funext fun j => if_neg (fun e => hb e.1)) rfl rfl
theorem kE_stL_ne {ca : Nat → ClassId} {h : HP} {a b i : Nat} {v : Int64} (hb : b ≠ a) : kE ca (h.stL a i v) b = kE ca h b := kE_congr rfl (fun _ => rfl) (fun _ => rfl) rfl (funext fun j => if_neg (fun e => hb e.1)) rfl
theorem kE_stR_ne {ca : Nat → ClassId} {h : HP} {a b i v : Nat} (hb : b ≠ a) : kE ca (h.stR a i v) b = kE ca h b := kE_congr rfl (fun _ => rfl) (fun _ => rfl) rfl rfl (funext fun j => if_neg (fun e => hb e.1))
theorem ai_stI {h : HP} {a i : Nat} {v : Int32} : upd (h.ai a) i v = (h.stI a i v).ai a := by
  funext j
  show upd (h.ai a) i v j = if a = a ∧ j = i then v else h.ai a j
  unfold upd
  by_cases e : j = i <;> simp [e]
theorem al_stL {h : HP} {a i : Nat} {v : Int64} : vp_updL (h.al a) i v = (h.stL a i v).al a := by
  funext j
  show vp_updL (h.al a) i v j = if a = a ∧ j = i then v else h.al a j
  unfold vp_updL
  by_cases e : j = i <;> simp [e]
theorem ar_stR {h : HP} {a i v : Nat} (hv : v ≠ 0) : va_up (fun j => op (h.ar a j)) i (some v) = fun j => op ((h.stR a i v).ar a j) := by
  funext j
  show va_up (fun j => op (h.ar a j)) i (some v) j = op (if a = a ∧ j = i then v else h.ar a j)
  unfold va_up
  by_cases e : j = i
  · simp [e, op, hv]
  · simp [e]
theorem r_iald (C : Cx G Γ y cc nL rt) {a z : Nat} {i : Int32} (hq : pc + 1 = q) (d : decode cc pc = .ok (.iaload, 1)) (hk : h.kd a = (9, z)) (hi : vp_in i z) (kk : wX G Γ Q k n h q lv (.int (h.ai a i.toNatClampNeg) :: st)) : wX G Γ Q k n h pc lv (.int i :: rv a :: st) := by
  subst hq
  intro H locs ls aa b cl
  have h0 := Rl.ne0 aa C.2.2.2.2.2.2.2.2.2.2.2 hk (show (9 : Nat) ≠ 99 by decide)
  obtain ⟨la, q0, -, hP, -, h4, -⟩ := Rl.in aa hk (show (9 : Nat) ≠ 99 by decide)
  rw [kE_i hk] at h4
  rw [rv_ref h0]
  exact va_iald C.1 C.2.1 C.2.2.2.2.2.2.2.2.1.1 hP q0 1 h4 rfl hi d (kk H locs ls aa b cl)
theorem r_zald (C : Cx G Γ y cc nL rt) {a z : Nat} {i : Int32} (hq : pc + 1 = q) (d : decode cc pc = .ok (.baload, 1)) (hk : h.kd a = (11, z)) (hi : vp_in i z) (kk : wX G Γ Q k n h q lv (.int (h.ai a i.toNatClampNeg) :: st)) : wX G Γ Q k n h pc lv (.int i :: rv a :: st) := by
  subst hq
  intro H locs ls aa b cl
  have h0 := Rl.ne0 aa C.2.2.2.2.2.2.2.2.2.2.2 hk (show (11 : Nat) ≠ 99 by decide)
  obtain ⟨la, q0, -, hP, -, h4, -⟩ := Rl.in aa hk (show (11 : Nat) ≠ 99 by decide)
  rw [kE_z hk] at h4
  rw [rv_ref h0]
  exact va_zald C.1 C.2.1 C.2.2.2.2.2.2.2.2.1.1 hP q0 3 h4 rfl hi d (kk H locs ls aa b cl)
theorem r_bald (C : Cx G Γ y cc nL rt) {a z : Nat} {i : Int32} (hq : pc + 1 = q) (d : decode cc pc = .ok (.baload, 1)) (hk : h.kd a = (8, z)) (hi : vp_in i z) (kk : wX G Γ Q k n h q lv (.int (h.ai a i.toNatClampNeg) :: st)) : wX G Γ Q k n h pc lv (.int i :: rv a :: st) := by
  subst hq
  intro H locs ls aa b cl
  have h0 := Rl.ne0 aa C.2.2.2.2.2.2.2.2.2.2.2 hk (show (8 : Nat) ≠ 99 by decide)
  obtain ⟨la, q0, -, hP, -, h4, -⟩ := Rl.in aa hk (show (8 : Nat) ≠ 99 by decide)
  rw [kE_b hk] at h4
  rw [rv_ref h0]
  exact va_bald C.1 C.2.1 C.2.2.2.2.2.2.2.2.1.1 hP q0 0 h4 rfl hi d (kk H locs ls aa b cl)
theorem r_lald (C : Cx G Γ y cc nL rt) {a z : Nat} {i : Int32} (hq : pc + 1 = q) (d : decode cc pc = .ok (.laload, 1)) (hk : h.kd a = (10, z)) (hi : vp_in i z) (kk : wX G Γ Q k n h q lv (.long (h.al a i.toNatClampNeg) :: st)) : wX G Γ Q k n h pc lv (.int i :: rv a :: st) := by
  subst hq
  intro H locs ls aa b cl
  have h0 := Rl.ne0 aa C.2.2.2.2.2.2.2.2.2.2.2 hk (show (10 : Nat) ≠ 99 by decide)
  obtain ⟨la, q0, -, hP, -, h4, -⟩ := Rl.in aa hk (show (10 : Nat) ≠ 99 by decide)
  rw [kE_l hk] at h4
  rw [rv_ref h0]
  exact va_lald C.1 C.2.1 C.2.2.2.2.2.2.2.2.1.1 hP q0 2 h4 rfl hi d (kk H locs ls aa b cl)
theorem r_aald (C : Cx G Γ y cc nL rt) {a z : Nat} {i : Int32} (hq : pc + 1 = q) (d : decode cc pc = .ok (.aaload, 1)) (hk : h.kd a = (12, z)) (hi : vp_in i z) (kk : wX G Γ Q k n h q lv (rv (h.ar a i.toNatClampNeg) :: st)) : wX G Γ Q k n h pc lv (.int i :: rv a :: st) := by
  subst hq
  intro H locs ls aa b cl
  have h0 := Rl.ne0 aa C.2.2.2.2.2.2.2.2.2.2.2 hk (show (12 : Nat) ≠ 99 by decide)
  obtain ⟨la, q0, -, hP, -, h4, -⟩ := Rl.in aa hk (show (12 : Nat) ≠ 99 by decide)
  rw [kE_r hk] at h4
  rw [rv_ref h0]
  have k1 := kk H locs ls aa b cl
  rw [← va_rf_op] at k1
  exact va_aldq C.1 C.2.1 C.2.2.2.2.2.2.2.2.1.1 hP q0 4 h4 rfl hi d k1
theorem r_iast (C : Cx G Γ y cc nL rt) {a z : Nat} {i v w : Int32} (hq : pc + 1 = q) (d : decode cc pc = .ok (.iastore, 1)) (hw : v = w) (hk : h.kd a = (9, z)) (hi : vp_in i z) (kk : wX G Γ Q k n (h.stI a i.toNatClampNeg w) q lv st) : wX G Γ Q k n h pc lv (.int v :: .int i :: rv a :: st) := by
  subst hq
  subst hw
  intro H locs ls aa b cl
  have h0 := Rl.ne0 aa C.2.2.2.2.2.2.2.2.2.2.2 hk (show (9 : Nat) ≠ 99 by decide)
  obtain ⟨la, q0, h1, hP, hD, h4, hm⟩ := Rl.in aa hk (show (9 : Nat) ≠ 99 by decide)
  have h4' := h4
  rw [kE_i hk] at h4'
  rw [rv_ref h0]
  refine va_iast C.1 C.2.1 C.2.2.2.2.2.2.2.2.1.1 hP hD b q0 1 h4' rfl hi d (fun H1 locs1 hP1 hD1 hS1 => ?_)
  have e : (Sum.inl (G.ca 9, z, Sum.inl (upd (h.ai a) i.toNatClampNeg v)) : va_E) = kE G.ca (h.stI a i.toNatClampNeg v) a := by rw [kE_i (h := h.stI a i.toNatClampNeg v) hk, ai_stI]
  rw [e] at hP1 hD1
  exact kk H1 locs1 ls (Rl.upd h1 hD h4 hm rfl (fun b hb => kE_stI_ne hb) hP1 hD1) hS1 cl
theorem r_zast (C : Cx G Γ y cc nL rt) {a z : Nat} {i v w : Int32} (hq : pc + 1 = q) (d : decode cc pc = .ok (.bastore, 1)) (hw : (vp_nar .boolean v) = w) (hk : h.kd a = (11, z)) (hi : vp_in i z) (kk : wX G Γ Q k n (h.stI a i.toNatClampNeg w) q lv st) : wX G Γ Q k n h pc lv (.int v :: .int i :: rv a :: st) := by
  subst hq
  subst hw
  intro H locs ls aa b cl
  have h0 := Rl.ne0 aa C.2.2.2.2.2.2.2.2.2.2.2 hk (show (11 : Nat) ≠ 99 by decide)
  obtain ⟨la, q0, h1, hP, hD, h4, hm⟩ := Rl.in aa hk (show (11 : Nat) ≠ 99 by decide)
  have h4' := h4
  rw [kE_z hk] at h4'
  rw [rv_ref h0]
  refine va_zast C.1 C.2.1 C.2.2.2.2.2.2.2.2.1.1 hP hD b q0 3 h4' rfl hi d (fun H1 locs1 hP1 hD1 hS1 => ?_)
  have e : (Sum.inl (G.ca 11, z, Sum.inl (upd (h.ai a) i.toNatClampNeg (vp_nar .boolean v))) : va_E) = kE G.ca (h.stI a i.toNatClampNeg (vp_nar .boolean v)) a := by rw [kE_z (h := h.stI a i.toNatClampNeg (vp_nar .boolean v)) hk, ai_stI]
  rw [e] at hP1 hD1
  exact kk H1 locs1 ls (Rl.upd h1 hD h4 hm rfl (fun b hb => kE_stI_ne hb) hP1 hD1) hS1 cl
theorem r_bast (C : Cx G Γ y cc nL rt) {a z : Nat} {i v w : Int32} (hq : pc + 1 = q) (d : decode cc pc = .ok (.bastore, 1)) (hw : (vp_nar .byte v) = w) (hk : h.kd a = (8, z)) (hi : vp_in i z) (kk : wX G Γ Q k n (h.stI a i.toNatClampNeg w) q lv st) : wX G Γ Q k n h pc lv (.int v :: .int i :: rv a :: st) := by
  subst hq
  subst hw
  intro H locs ls aa b cl
  have h0 := Rl.ne0 aa C.2.2.2.2.2.2.2.2.2.2.2 hk (show (8 : Nat) ≠ 99 by decide)
  obtain ⟨la, q0, h1, hP, hD, h4, hm⟩ := Rl.in aa hk (show (8 : Nat) ≠ 99 by decide)
  have h4' := h4
  rw [kE_b hk] at h4'
  rw [rv_ref h0]
  refine va_bast C.1 C.2.1 C.2.2.2.2.2.2.2.2.1.1 hP hD b q0 0 h4' rfl hi d (fun H1 locs1 hP1 hD1 hS1 => ?_)
  have e : (Sum.inl (G.ca 8, z, Sum.inl (upd (h.ai a) i.toNatClampNeg (vp_nar .byte v))) : va_E) = kE G.ca (h.stI a i.toNatClampNeg (vp_nar .byte v)) a := by rw [kE_b (h := h.stI a i.toNatClampNeg (vp_nar .byte v)) hk, ai_stI]
  rw [e] at hP1 hD1
  exact kk H1 locs1 ls (Rl.upd h1 hD h4 hm rfl (fun b hb => kE_stI_ne hb) hP1 hD1) hS1 cl
theorem r_last (C : Cx G Γ y cc nL rt) {a z : Nat} {i : Int32} {v : Int64} (hq : pc + 1 = q) (d : decode cc pc = .ok (.lastore, 1)) (hk : h.kd a = (10, z)) (hi : vp_in i z) (kk : wX G Γ Q k n (h.stL a i.toNatClampNeg v) q lv st) : wX G Γ Q k n h pc lv (.long v :: .int i :: rv a :: st) := by
  subst hq
  intro H locs ls aa b cl
  have h0 := Rl.ne0 aa C.2.2.2.2.2.2.2.2.2.2.2 hk (show (10 : Nat) ≠ 99 by decide)
  obtain ⟨la, q0, h1, hP, hD, h4, hm⟩ := Rl.in aa hk (show (10 : Nat) ≠ 99 by decide)
  have h4' := h4
  rw [kE_l hk] at h4'
  rw [rv_ref h0]
  refine va_last C.1 C.2.1 C.2.2.2.2.2.2.2.2.1.1 hP hD b q0 2 h4' rfl hi d (fun H1 locs1 hP1 hD1 hS1 => ?_)
  have e : (Sum.inl (G.ca 10, z, Sum.inr (Sum.inl (vp_updL (h.al a) i.toNatClampNeg v))) : va_E) = kE G.ca (h.stL a i.toNatClampNeg v) a := by rw [kE_l (h := h.stL a i.toNatClampNeg v) hk, al_stL]
  rw [e] at hP1 hD1
  exact kk H1 locs1 ls (Rl.upd h1 hD h4 hm rfl (fun b hb => kE_stL_ne hb) hP1 hD1) hS1 cl
theorem r_aast (C : Cx G Γ y cc nL rt) {a z v : Nat} {i : Int32} (hq : pc + 1 = q) (d : decode cc pc = .ok (.aastore, 1)) (hk : h.kd a = (12, z)) (hkv : h.kd v = (0, 3)) (hi : vp_in i z) (kk : wX G Γ Q k n (h.stR a i.toNatClampNeg v) q lv st) : wX G Γ Q k n h pc lv (rv v :: .int i :: rv a :: st) := by
  subst hq
  intro H locs ls aa b cl
  have h0 := Rl.ne0 aa C.2.2.2.2.2.2.2.2.2.2.2 hk (show (12 : Nat) ≠ 99 by decide)
  have hv0 := Rl.ne0 aa C.2.2.2.2.2.2.2.2.2.2.2 hkv (show (0 : Nat) ≠ 99 by decide)
  obtain ⟨la, q0, h1, hP, hD, h4, hm⟩ := Rl.in aa hk (show (12 : Nat) ≠ 99 by decide)
  obtain ⟨qv, hqv⟩ := va_pl_get (X := []) (f := kE G.ca h) ((h1 v).mpr (by rw [hkv]; decide))
  have h4' := h4
  rw [kE_r hk] at h4'
  rw [kE_obj hkv] at hqv
  rw [rv_ref h0, rv_ref hv0]
  refine va_astq C.1 C.2.1 C.2.2.2.2.2.2.2.2.1.1 hP hD b q0 4 qv 3 (r := (RX3, TX3, 12)) h4' rfl hqv rfl hi d (fun H1 locs1 hP1 hD1 hS1 => ?_)
  have e : (Sum.inl (G.ca 12, z, Sum.inr (Sum.inr (Sum.inr (Sum.inr (va_up (fun j => op (h.ar a j)) i.toNatClampNeg (some v)))))) : va_E) = kE G.ca (h.stR a i.toNatClampNeg v) a := by rw [kE_r (h := h.stR a i.toNatClampNeg v) hk, ar_stR hv0]
  rw [e] at hP1 hD1
  exact kk H1 locs1 ls (Rl.upd h1 hD h4 hm rfl (fun b hb => kE_stR_ne hb) hP1 hD1) hS1 cl
theorem r_alen (C : Cx G Γ y cc nL rt) {a t z : Nat} (hq : pc + 1 = q) (d : decode cc pc = .ok (.arraylength, 1)) (hk : h.kd a = (t, z)) (ht : t = 9 ∨ t = 8) (kk : wX G Γ Q k n h q lv (.int (Int32.ofNat z) :: st)) : wX G Γ Q k n h pc lv (rv a :: st) := by
  subst hq
  intro H locs ls aa b cl
  have h0 := Rl.ne0 aa C.2.2.2.2.2.2.2.2.2.2.2 hk (by rcases ht with rfl | rfl; exact (show (9 : Nat) ≠ 99 by decide); exact (show (8 : Nat) ≠ 99 by decide))
  obtain ⟨la, q0, -, hP, -, h4, -⟩ := Rl.in aa hk (by rcases ht with rfl | rfl; exact (show (9 : Nat) ≠ 99 by decide); exact (show (8 : Nat) ≠ 99 by decide))
  rw [rv_ref h0]
  rcases ht with rfl | rfl
  · rw [kE_i hk] at h4
    exact va_alen C.1 C.2.1 C.2.2.2.2.2.2.2.2.1.1 hP q0 1 h4 rfl rfl d (kk H locs ls aa b cl)
  · rw [kE_b hk] at h4
    exact va_alen C.1 C.2.1 C.2.2.2.2.2.2.2.2.1.1 hP q0 0 h4 rfl rfl d (kk H locs ls aa b cl)
end ROWS
