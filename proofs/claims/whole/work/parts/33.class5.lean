/-! ===== rent, lit, layAll: the class ===== -/
def ahK (r : Nat → Nat) (h k : Nat) : Nat := cnt (fun j => decide (r h < r j ∨ (r j = r h ∧ j < h))) k
theorem ahK_y {r : Nat → Nat} {h k : Nat} (e : r h < r k ∨ (r k = r h ∧ k < h)) : ahK r h (k + 1) = ahK r h k + 1 := by unfold ahK; simp only [cnt]; rw [if_pos (decide_eq_true e)]
theorem ahK_n {r : Nat → Nat} {h k : Nat} (e : ¬ (r h < r k ∨ (r k = r h ∧ k < h))) : ahK r h (k + 1) = ahK r h k := by unfold ahK; simp only [cnt]; rw [if_neg (by simpa using e)]; rfl
theorem frst_ex (σ : SG) (r : Nat) : ∃ q, frst σ r q := by
  by_cases e : ∃ q, q < 240 ∧ σ.fit r q
  · obtain ⟨q, h1, h2⟩ := pk_least (fun q => q < 240 ∧ σ.fit r q) e
    exact ⟨q, by omega, fun _ => h1.2, fun j hj hf => h2 j hj ⟨by omega, hf⟩⟩
  · exact ⟨240, Nat.le_refl _, fun h => absurd h (by decide), fun j hj hf => e ⟨j, hj, hf⟩⟩
theorem WF.lay2 {σ : SG} (h : WF σ) {r : Nat} (hr : r < σ.n) : WF (lay2 σ r) := by
  obtain ⟨q, hq⟩ := frst_ex σ r
  show WF (σ.li_ (upN σ.li r (fstP σ r)))
  rw [fstP_eq hq]
  exact h.li_up hr hq.1 (fun e => (hq.2.1 e).1.1)
theorem drop_c {α : Type} {L : List α} {k : Nat} {r : α} (h : L[k]? = some r) : L.drop k = r :: L.drop (k + 1) := by
  obtain ⟨hk, e⟩ := List.getElem?_eq_some_iff.mp h
  rw [List.drop_eq_getElem_cons hk, e]
theorem dkT_nd {σ : SG} {L : List Nat} {l k : Nat} (h : L.Nodup) : (dkT σ L l k).Nodup := by
  unfold dkT
  have h1 : (L.take k).Nodup := h.sublist (List.take_sublist k L)
  have h2 : (L.take k).reverse.Nodup := List.pairwise_reverse.mpr (List.Pairwise.imp (fun h => Ne.symm h) h1)
  exact h2.filter _
theorem dkT_mem {σ : SG} {L : List Nat} {l k j : Nat} : j ∈ dkT σ L l k ↔ j ∈ L.take k ∧ σ.on l j = true := by unfold dkT; rw [List.mem_filter, List.mem_reverse]
theorem drk_sub {σ : SG} {B : Nat} : ∀ {D : List Nat} {j : Nat}, j ∈ drk σ B D → j ∈ D
  | [], _, h => h
  | a :: t, j, h => by
    unfold drk at h
    split at h
    · exact List.mem_cons_of_mem _ (drk_sub h)
    · exact h
theorem drk_le {σ : SG} {B : Nat} {D : List Nat} (h : pwS σ D ≤ B) : drk σ B D = D := by
  cases D with
  | nil => rfl
  | cons a t => unfold drk; rw [if_neg (by omega)]

theorem c_X6_rent {G : GT} {h : HP} {g : Nat} {σ : SG} {p : Nat → Nat} {L : List Nat} {be sh : Nat → Nat} {ra : Nat} {x : Int32} (hL : LCl h.kd h.gl h.fr h.ar g σ.n p L) (R0 : CRr σ h.fi h.fr g p) (W : WF σ) (Mb : CBm be sh ra h g) : Con G 3 0 0 yX6_rent cX6_rent 9 (some .int) [rv g, .int x] h (PI (fun v h' => cif (0 ≤ x ∧ x ≤ 2) (nI (rnV (rentN σ ra σ.n) sh x.toNatClampNeg)) (-1) = v ∧ h = h')) := by
  refine Con.of (lv := [some (rv g), some (.int x), none, none, none, none, none, none, none]) (by decide) (by simp only [lvE_r, lvE_i, lvE_l, lvE_s, lvE_0]; rfl) (by simp only [lgl_r, lgl_i, lgl_l, lgl_s, lgl_0]; decide) (fun Γ C R => ?_)
  generalize hPP : (PI (fun v h' => cif (0 ≤ x ∧ x ≤ 2) (nI (rnV (rentN σ ra σ.n) sh x.toNatClampNeg)) (-1) = v ∧ h = h')) = PP
  have r10 := W.n10
  have s0 := Mb.2.1 0 (by decide)
  have s1 := Mb.2.1 1 (by decide)
  have s2 := Mb.2.1 2 (by decide)
  have hA : 0 < A3 sh ∧ A3 sh ≤ 3000 := by unfold A3; omega
  have hle := rent_le W Mb.2.2.2 σ.n (Nat.le_refl _)
  have hs : rentN σ ra σ.n ≤ 160000 := by omega
  have hsk : ∀ k, k < 3 → rentN σ ra σ.n * sh k ≤ 160000000 := fun k hk => Nat.mul_le_mul hs (Mb.2.1 k hk).2.2
  have hrl : ∀ k, rN (rentN σ ra σ.n) sh k < 3000 := fun k => by have := Nat.mod_lt (rentN σ ra σ.n * sh k) hA.1; unfold rN; omega
  refine r_aload_n (q := 1) (z := 0) C 0 rfl (by decide +kernel) rfl rfl ?_
  refine r_getR (q := 4) C 6 12 396 rfl (by decide +kernel) rfl (by decide) rfl rfl wf_X6_70 win6 hL.kf ?_
  refine r_iconst (q := 5) (z := 0) (v := 0) C rfl (by decide +kernel) (by decide) ?_
  refine r_iald (q := 6) C rfl (by decide +kernel) hL.k396 (vp_in_nI (n := 0) (by decide) (by decide)) ?_
  rw [show (0 : Int32).toNatClampNeg = 0 from rfl, (Mb.2.1 0 (by decide)).1]
  refine r_aload_n (q := 7) (z := 0) C 0 rfl (by decide +kernel) rfl rfl ?_
  refine r_getR (q := 10) C 6 12 396 rfl (by decide +kernel) rfl (by decide) rfl rfl wf_X6_70 win6 hL.kf ?_
  refine r_iconst (q := 11) (z := 1) (v := 1) C rfl (by decide +kernel) (by decide) ?_
  refine r_iald (q := 12) C rfl (by decide +kernel) hL.k396 (vp_in_nI (n := 1) (by decide) (by decide)) ?_
  rw [show (1 : Int32).toNatClampNeg = 1 from rfl, (Mb.2.1 1 (by decide)).1]
  refine r_iadd (q := 13) C rfl (by decide +kernel) ?_
  rw [nI_add]
  refine r_aload_n (q := 14) (z := 0) C 0 rfl (by decide +kernel) rfl rfl ?_
  refine r_getR (q := 17) C 6 12 396 rfl (by decide +kernel) rfl (by decide) rfl rfl wf_X6_70 win6 hL.kf ?_
  refine r_iconst (q := 18) (z := 2) (v := 2) C rfl (by decide +kernel) (by decide) ?_
  refine r_iald (q := 19) C rfl (by decide +kernel) hL.k396 (vp_in_nI (n := 2) (by decide) (by decide)) ?_
  rw [show (2 : Int32).toNatClampNeg = 2 from rfl, (Mb.2.1 2 (by decide)).1]
  refine r_iadd (q := 20) C rfl (by decide +kernel) ?_
  rw [nI_add, show sh 0 + sh 1 + sh 2 = A3 sh from rfl]
  refine r_istore_n (q := 21) (z := 2) C 2 rfl (by decide +kernel) rfl (by decide) (by first | rfl | exact okst_rv rfl) ?_
  dsimp only [List.set]
  refine r_iload_n (q := 22) (z := 1) C 1 rfl (by decide +kernel) rfl rfl ?_
  refine r_iconst (q := 23) (z := 0) (v := 0) C rfl (by decide +kernel) (by decide) ?_
  refine r_iconst (q := 24) (z := 2) (v := 2) C rfl (by decide +kernel) (by decide) ?_
  refine cS3I (q := 27) C R rfl (by decide +kernel) lk_X6_105 (c_X6_isWithin ) (by decide) (by decide) (by decide) rfl (by first | exact Nat.le_of_ble_eq_true rfl | (simp only [List.map_cons, List.map_nil, List.sum_cons, List.sum_nil, rv_cat]; exact Nat.le_of_ble_eq_true rfl))  ?_
  rintro _ _ ⟨rfl, rfl⟩
  refine r_if_eq (q := 30) (off := 7) (tgt := 34) C rfl (by decide +kernel) (by decide) (fun c27 => ?_) (fun c27 => ?_)
  · have hn := of_decide_eq_false ((b2i_0 _).mp c27)
    refine r_iconst (q := 35) (z := (-1)) (v := (-1)) C rfl (by decide +kernel) (by decide) ?_
    exact r_iret C (by decide +kernel) rfl (by decide) (by decide) (eqP hPP ⟨_, rfl, ⟨by rw [cif_f hn], rfl⟩⟩)
  · have hy := of_decide_eq_true ((b2i_n0 _).mp c27)
    obtain ⟨x1, x2, x3⟩ := nI_rng2 (a := 0) (b := 2) (by decide) hy.1 hy.2 (by decide)
    obtain ⟨r, hr⟩ : ∃ r, r = x.toNatClampNeg := ⟨_, rfl⟩
    rw [← hr] at x2 x3
    rw [← hr] at hPP
    clear hr
    subst x3
    have hkr := hsk r (by omega)
    have hlr := hrl r
    refine r_iload_n (q := 31) (z := 2) C 2 rfl (by decide +kernel) rfl rfl ?_
    refine r_if_gt (q := 34) (off := 5) (tgt := 36) C rfl (by decide +kernel) (by decide) (fun c31 => ?_) (fun c31 => ?_)
    · refine r_aload_n (q := 37) (z := 0) C 0 rfl (by decide +kernel) rfl rfl ?_
      refine cV0I (q := 40) C R rfl (by decide +kernel) lk_X6_199 (c_X6_allRents hL R0 W Mb) (by decide) (by decide) (by decide) rfl (by first | exact Nat.le_of_ble_eq_true rfl | (simp only [List.map_cons, List.map_nil, List.sum_cons, List.sum_nil, rv_cat]; exact Nat.le_of_ble_eq_true rfl)) rfl hL.kf ?_
      rintro _ _ ⟨rfl, rfl⟩
      refine r_istore_n (q := 41) (z := 3) C 3 rfl (by decide +kernel) rfl (by decide) (by first | rfl | exact okst_rv rfl) ?_
      dsimp only [List.set]
      refine r_iload_n (q := 42) (z := 3) C 3 rfl (by decide +kernel) rfl rfl ?_
      refine r_aload_n (q := 43) (z := 0) C 0 rfl (by decide +kernel) rfl rfl ?_
      refine r_getR (q := 46) C 6 12 396 rfl (by decide +kernel) rfl (by decide) rfl rfl wf_X6_70 win6 hL.kf ?_
      refine r_iload_n (q := 47) (z := 1) C 1 rfl (by decide +kernel) rfl rfl ?_
      refine r_iald (q := 48) C rfl (by decide +kernel) hL.k396 (vp_in_nI (by omega) (by decide)) ?_
      rw [nI_clamp (by omega), (Mb.2.1 r (by omega)).1]
      refine r_imul (q := 49) C rfl (by decide +kernel) ?_
      rw [pk_mul]
      refine r_iload_n (q := 50) (z := 2) C 2 rfl (by decide +kernel) rfl rfl ?_
      refine r_irem (q := 51) C rfl (by decide +kernel) (nI_ne0 hA.1 (by omega)) ?_
      rw [pk_rem (by omega) hA.1 (by omega), show (rentN σ ra σ.n) * sh r % A3 sh = rN (rentN σ ra σ.n) sh r from rfl]
      refine r_istore (q := 53) C 4 rfl (by decide +kernel) (by decide) (by first | rfl | exact okst_rv rfl) ?_
      dsimp only [List.set]
      refine r_iload_n (q := 54) (z := 3) C 3 rfl (by decide +kernel) rfl rfl ?_
      refine r_istore (q := 56) C 5 rfl (by decide +kernel) (by decide) (by first | rfl | exact okst_rv rfl) ?_
      dsimp only [List.set]
      refine r_iconst (q := 57) (z := 0) (v := 0) C rfl (by decide +kernel) (by decide) ?_
      refine r_istore (q := 59) C 6 rfl (by decide +kernel) (by decide) (by first | rfl | exact okst_rv rfl) ?_
      dsimp only [List.set]
      refine r_iconst (q := 60) (z := 0) (v := 0) C rfl (by decide +kernel) (by decide) ?_
      refine r_istore (q := 62) C 7 rfl (by decide +kernel) (by decide) (by first | rfl | exact okst_rv rfl) ?_
      dsimp only [List.set]
      have L62 : ∀ (fuel62 : Nat) (k : Nat), 3 - k < fuel62 → (k ≤ 3) → wX G Γ (qM G Γ PP 0 0) 0 0 (h) 62 [some (rv g), some (.int (nI r)), some (.int (nI (A3 sh))), some (.int (nI (rentN σ ra σ.n))), some (.int (nI (rN (rentN σ ra σ.n) sh r))), some (.int (nI ((rentN σ ra σ.n) - sumq (rentN σ ra σ.n) sh k))), some (.int (nI (ahK (rN (rentN σ ra σ.n) sh) r k))), some (.int (nI k)), none] [] := by
        intro fuel62
        induction fuel62 with
        | zero =>
          intro k hm62
          exact absurd hm62 (Nat.not_lt_zero _)
        | succ fuel62 ih62 =>
          intro k hm62 hk
          refine r_iload (q := 64) C 7 rfl (by decide +kernel) rfl ?_
          refine r_iconst (q := 65) (z := 3) (v := 3) C rfl (by decide +kernel) (by decide) ?_
          refine r_icmp_ge (q := 68) (off := 61) (tgt := 126) C rfl (by decide +kernel) (by decide) (fun c65 => ?_) (fun c65 => ?_)
          · have ek : k = 3 := by have := (nI_leI (a := 3) (by omega) (by omega)).mp c65; omega
            subst ek
            refine r_iload_n (q := 127) (z := 3) C 3 rfl (by decide +kernel) rfl rfl ?_
            refine r_aload_n (q := 128) (z := 0) C 0 rfl (by decide +kernel) rfl rfl ?_
            refine r_getR (q := 131) C 6 12 396 rfl (by decide +kernel) rfl (by decide) rfl rfl wf_X6_70 win6 hL.kf ?_
            refine r_iload_n (q := 132) (z := 1) C 1 rfl (by decide +kernel) rfl rfl ?_
            refine r_iald (q := 133) C rfl (by decide +kernel) hL.k396 (vp_in_nI (by omega) (by decide)) ?_
            rw [nI_clamp (by omega), (Mb.2.1 r (by omega)).1]
            refine r_imul (q := 134) C rfl (by decide +kernel) ?_
            rw [pk_mul]
            refine r_iload_n (q := 135) (z := 2) C 2 rfl (by decide +kernel) rfl rfl ?_
            refine r_idiv (q := 136) C rfl (by decide +kernel) (nI_ne0 hA.1 (by omega)) ?_
            rw [pk_div (by omega) hA.1 (by omega), show (rentN σ ra σ.n) * sh r / A3 sh = qN (rentN σ ra σ.n) sh r from rfl]
            have hah : ahK (rN (rentN σ ra σ.n) sh) r 3 ≤ 3 := cnt_le _ _
            refine r_iload (q := 138) C 6 rfl (by decide +kernel) rfl ?_
            refine r_iload (q := 140) C 5 rfl (by decide +kernel) rfl ?_
            refine r_icmp_ge (q := 143) (off := 7) (tgt := 147) C rfl (by decide +kernel) (by decide) (fun c140 => ?_) (fun c140 => ?_)
            · have e148 : nI (qN (rentN σ ra σ.n) sh r) + 0 = nI (rnV (rentN σ ra σ.n) sh r) := by rw [rnV, if_neg (show ¬ ahN (rN (rentN σ ra σ.n) sh) r < lfN (rentN σ ra σ.n) sh from Nat.not_lt.mpr (by have := (nI_leI (by omega) (by omega)).mp c140; rw [sumq_3] at this; exact this))]; exact nI_add _ 0
              refine r_iconst (q := 148) (z := 0) (v := 0) C rfl (by decide +kernel) (by decide) ?_
              refine r_iadd (q := 149) C rfl (by decide +kernel) ?_
              rw [e148]
              exact r_iret C (by decide +kernel) rfl (by decide) (by decide) (eqP hPP ⟨_, rfl, ⟨by rw [cif_t hy], rfl⟩⟩)
            · have e148 : nI (qN (rentN σ ra σ.n) sh r) + 1 = nI (rnV (rentN σ ra σ.n) sh r) := by rw [rnV, if_pos (show ahN (rN (rentN σ ra σ.n) sh) r < lfN (rentN σ ra σ.n) sh from Nat.lt_of_not_le (fun e => c140 (nI_le (by rw [sumq_3]; exact e) (by omega))))]; exact nI_1 _
              refine r_iconst (q := 144) (z := 1) (v := 1) C rfl (by decide +kernel) (by decide) ?_
              refine r_goto (off := 4) (tgt := 148) C (by decide +kernel) (by decide) ?_
              refine r_iadd (q := 149) C rfl (by decide +kernel) ?_
              rw [e148]
              exact r_iret C (by decide +kernel) rfl (by decide) (by decide) (eqP hPP ⟨_, rfl, ⟨by rw [cif_t hy], rfl⟩⟩)
          · have hlt : k < 3 := Nat.lt_of_not_le (fun e => c65 (nI_le (a := 3) e (by omega)))
            have hkk := hsk k hlt
            have hlk := hrl k
            refine r_iload (q := 70) C 5 rfl (by decide +kernel) rfl ?_
            refine r_iload_n (q := 71) (z := 3) C 3 rfl (by decide +kernel) rfl rfl ?_
            refine r_aload_n (q := 72) (z := 0) C 0 rfl (by decide +kernel) rfl rfl ?_
            refine r_getR (q := 75) C 6 12 396 rfl (by decide +kernel) rfl (by decide) rfl rfl wf_X6_70 win6 hL.kf ?_
            refine r_iload (q := 77) C 7 rfl (by decide +kernel) rfl ?_
            refine r_iald (q := 78) C rfl (by decide +kernel) hL.k396 (vp_in_nI (by omega) (by decide)) ?_
            rw [nI_clamp (by omega), (Mb.2.1 k hlt).1]
            refine r_imul (q := 79) C rfl (by decide +kernel) ?_
            rw [pk_mul]
            refine r_iload_n (q := 80) (z := 2) C 2 rfl (by decide +kernel) rfl rfl ?_
            refine r_idiv (q := 81) C rfl (by decide +kernel) (nI_ne0 hA.1 (by omega)) ?_
            rw [pk_div (by omega) hA.1 (by omega), show (rentN σ ra σ.n) * sh k / A3 sh = qN (rentN σ ra σ.n) sh k from rfl]
            refine r_isub (q := 82) C rfl (by decide +kernel) ?_
            have hq9 := sumq_le (s := (rentN σ ra σ.n)) hA.1 (k := k + 1) (by omega)
            rw [sumq] at hq9
            rw [pk_sub (by omega), show (rentN σ ra σ.n) - sumq (rentN σ ra σ.n) sh k - qN (rentN σ ra σ.n) sh k = (rentN σ ra σ.n) - sumq (rentN σ ra σ.n) sh (k + 1) by rw [sumq]; omega]
            refine r_istore (q := 84) C 5 rfl (by decide +kernel) (by decide) (by first | rfl | exact okst_rv rfl) ?_
            dsimp only [List.set]
            refine r_iload_n (q := 85) (z := 3) C 3 rfl (by decide +kernel) rfl rfl ?_
            refine r_aload_n (q := 86) (z := 0) C 0 rfl (by decide +kernel) rfl rfl ?_
            refine r_getR (q := 89) C 6 12 396 rfl (by decide +kernel) rfl (by decide) rfl rfl wf_X6_70 win6 hL.kf ?_
            refine r_iload (q := 91) C 7 rfl (by decide +kernel) rfl ?_
            refine r_iald (q := 92) C rfl (by decide +kernel) hL.k396 (vp_in_nI (by omega) (by decide)) ?_
            rw [nI_clamp (by omega), (Mb.2.1 k hlt).1]
            refine r_imul (q := 93) C rfl (by decide +kernel) ?_
            rw [pk_mul]
            refine r_iload_n (q := 94) (z := 2) C 2 rfl (by decide +kernel) rfl rfl ?_
            refine r_irem (q := 95) C rfl (by decide +kernel) (nI_ne0 hA.1 (by omega)) ?_
            rw [pk_rem (by omega) hA.1 (by omega), show (rentN σ ra σ.n) * sh k % A3 sh = rN (rentN σ ra σ.n) sh k from rfl]
            refine r_istore (q := 97) C 8 rfl (by decide +kernel) (by decide) (by first | rfl | exact okst_rv rfl) ?_
            dsimp only [List.set]
            have J117 : (rN (rentN σ ra σ.n) sh r < rN (rentN σ ra σ.n) sh k ∨ (rN (rentN σ ra σ.n) sh k = rN (rentN σ ra σ.n) sh r ∧ k < r)) → wX G Γ (qM G Γ PP 0 0) 0 0 (h) 117 [some (rv g), some (.int (nI r)), some (.int (nI (A3 sh))), some (.int (nI (rentN σ ra σ.n))), some (.int (nI (rN (rentN σ ra σ.n) sh r))), some (.int (nI ((rentN σ ra σ.n) - sumq (rentN σ ra σ.n) sh (k + 1)))), some (.int (nI (ahK (rN (rentN σ ra σ.n) sh) r k))), some (.int (nI k)), none] [] := by
              intro  hya
              refine r_iinc (q := 120) (z := 1) (v := 1) C 6 rfl (by decide +kernel) rfl (by decide) (by decide) (by first | rfl | exact okst_rv rfl) ?_
              dsimp only [List.set]
              rw [nI_1, ← ahK_y hya]
              refine r_iinc (q := 123) (z := 1) (v := 1) C 7 rfl (by decide +kernel) rfl (by decide) (by decide) (by first | rfl | exact okst_rv rfl) ?_
              dsimp only [List.set]
              rw [nI_1]
              refine r_goto (off := -61) (tgt := 62) C (by decide +kernel) (by decide) ?_
              exact wX.sub (lsub_s (lsub_s (lsub_s (lsub_s (lsub_s (lsub_s (lsub_s (lsub_s (lsub_n (lsub_nil)))))))))) (ih62 (k + 1) (by omega) (by omega))
            refine r_iload (q := 99) C 8 rfl (by decide +kernel) rfl ?_
            refine r_iload (q := 101) C 4 rfl (by decide +kernel) rfl ?_
            refine r_icmp_gt (q := 104) (off := 16) (tgt := 117) C rfl (by decide +kernel) (by decide) (fun c101 => ?_) (fun c101 => ?_)
            · exact wX.sub (lsub_s (lsub_s (lsub_s (lsub_s (lsub_s (lsub_s (lsub_s (lsub_s (lsub_n (lsub_nil)))))))))) (J117 (Or.inl ((nI_ltI (by omega) (by omega)).mp c101)))
            · refine r_iload (q := 106) C 8 rfl (by decide +kernel) rfl ?_
              refine r_iload (q := 108) C 4 rfl (by decide +kernel) rfl ?_
              refine r_icmp_ne (q := 111) (off := 12) (tgt := 120) C rfl (by decide +kernel) (by decide) (fun c108 => ?_) (fun c108 => ?_)
              · rw [show ahK (rN (rentN σ ra σ.n) sh) r k = ahK (rN (rentN σ ra σ.n) sh) r (k + 1) from (ahK_n (fun e => e.elim (fun q => c101 (nI_lt q (by omega))) (fun q => c108 (by rw [q.1])))).symm]
                refine r_iinc (q := 123) (z := 1) (v := 1) C 7 rfl (by decide +kernel) rfl (by decide) (by decide) (by first | rfl | exact okst_rv rfl) ?_
                dsimp only [List.set]
                rw [nI_1]
                refine r_goto (off := -61) (tgt := 62) C (by decide +kernel) (by decide) ?_
                exact wX.sub (lsub_s (lsub_s (lsub_s (lsub_s (lsub_s (lsub_s (lsub_s (lsub_s (lsub_n (lsub_nil)))))))))) (ih62 (k + 1) (by omega) (by omega))
              · refine r_iload (q := 113) C 7 rfl (by decide +kernel) rfl ?_
                refine r_iload_n (q := 114) (z := 1) C 1 rfl (by decide +kernel) rfl rfl ?_
                refine r_icmp_ge (q := 117) (off := 6) (tgt := 120) C rfl (by decide +kernel) (by decide) (fun c114 => ?_) (fun c114 => ?_)
                · rw [show ahK (rN (rentN σ ra σ.n) sh) r k = ahK (rN (rentN σ ra σ.n) sh) r (k + 1) from (ahK_n (fun e => e.elim (fun q => c101 (nI_lt q (by omega))) (fun q => absurd ((nI_leI (by omega) (by omega)).mp c114) (by omega)))).symm]
                  refine r_iinc (q := 123) (z := 1) (v := 1) C 7 rfl (by decide +kernel) rfl (by decide) (by decide) (by first | rfl | exact okst_rv rfl) ?_
                  dsimp only [List.set]
                  rw [nI_1]
                  refine r_goto (off := -61) (tgt := 62) C (by decide +kernel) (by decide) ?_
                  exact wX.sub (lsub_s (lsub_s (lsub_s (lsub_s (lsub_s (lsub_s (lsub_s (lsub_s (lsub_n (lsub_nil)))))))))) (ih62 (k + 1) (by omega) (by omega))
                · exact wX.sub (lsub_s (lsub_s (lsub_s (lsub_s (lsub_s (lsub_s (lsub_s (lsub_s (lsub_n (lsub_nil)))))))))) (J117 (Or.inr ⟨(nI_eq (by omega) (by omega)).mp c108, Nat.lt_of_not_le (fun e => c114 (nI_le e (by omega)))⟩))
      exact wX.sub (lsub_s (lsub_s (lsub_s (lsub_s (lsub_s (lsub_s (lsub_s (lsub_s (lsub_n (lsub_nil)))))))))) (L62 4 0 (by omega) (by omega))
    · exact absurd (nI_lt (a := 0) hA.1 (by omega)) c31
theorem c_X6_lit {G : GT} {h : HP} {g : Nat} {σ : SG} {p : Nat → Nat} {L : List Nat} {be sh : Nat → Nat} {ra : Nat} {x : Int32} (hL : LCl h.kd h.gl h.fr h.ar g σ.n p L) (R0 : CRr σ h.fi h.fr g p) (W : WF σ) (Mb : CBm be sh ra h g) (hS : Srt σ L) : Con G 4 0 0 yX6_lit cX6_lit 6 (some .int) [rv g, .int x] h (PI (fun v h' => cif (ltP σ x) (ltV σ be L x.toNatClampNeg) (-1) = v ∧ h = h')) := by
  refine Con.of (lv := [some (rv g), some (.int x), none, none, none, none]) (by decide) (by simp only [lvE_r, lvE_i, lvE_l, lvE_s, lvE_0]; rfl) (by simp only [lgl_r, lgl_i, lgl_l, lgl_s, lgl_0]; decide) (fun Γ C R => ?_)
  generalize hPP : (PI (fun v h' => cif (ltP σ x) (ltV σ be L x.toNatClampNeg) (-1) = v ∧ h = h')) = PP
  have r10 := W.n10
  have hnd := Srt.nd hS.1
  refine r_aload_n (q := 1) (z := 0) C 0 rfl (by decide +kernel) rfl rfl ?_
  refine r_iload_n (q := 2) (z := 1) C 1 rfl (by decide +kernel) rfl rfl ?_
  refine cV1R (q := 5) C R rfl (by decide +kernel) lk_X6_118 (c_X6_find hL R0 r10) (by decide) (by decide) (by decide) rfl (by first | exact Nat.le_of_ble_eq_true rfl | (simp only [List.map_cons, List.map_nil, List.sum_cons, List.sum_nil, rv_cat]; exact Nat.le_of_ble_eq_true rfl)) rfl hL.kf ?_
  rintro _ _ ⟨rfl, rfl⟩
  refine wX_k0 C (fun hk0 => ?_)
  refine r_astore_n (q := 6) (z := 2) C 2 rfl (by decide +kernel) rfl (by decide) (by first | rfl | exact okst_rv rfl) ?_
  dsimp only [List.set]
  refine r_aload_n (q := 7) (z := 2) C 2 rfl (by decide +kernel) rfl rfl ?_
  refine r_ifnull (q := 10) (off := 10) (tgt := 17) C rfl (by decide +kernel) (by decide) (fun c7 => ?_) (fun c7 => ?_)
  · have hno : ¬ (0 ≤ x ∧ x < nI σ.n) := (rdA_0 hL hk0 r10).mp c7
    have hn : ¬ ltP σ x := fun e => hno e.1
    refine r_iconst (q := 18) (z := (-1)) (v := (-1)) C rfl (by decide +kernel) (by decide) ?_
    exact r_iret C (by decide +kernel) rfl (by decide) (by decide) (eqP hPP ⟨_, rfl, ⟨by rw [cif_f hn], rfl⟩⟩)
  · have hyr : 0 ≤ x ∧ x < nI σ.n := Classical.not_not.mp (mt (rdA_0 hL hk0 r10).mpr c7)
    obtain ⟨r, hlt, rfl⟩ := ride_of r10 hyr
    rw [rdA_in r10 hlt]
    refine r_aload_n (q := 11) (z := 2) C 2 rfl (by decide +kernel) rfl rfl ?_
    refine r_getI (q := 14) C 3 7 199 rfl (by decide +kernel) rfl (by decide) rfl rfl wf_X6_122 win3 (hL.kp hlt) ?_
    rw [R0.lie hlt]
    refine r_if_ne (q := 17) (off := 5) (tgt := 19) C rfl (by decide +kernel) (by decide) (fun c14 => ?_) (fun c14 => ?_)
    · have hl := of_decide_eq_true ((b2i_n0 _).mp c14)
      have hxy := W.dxy hlt hl
      have hl3 := ln_lt (σ := σ) (r := r)
      have hbe := Mb.1 (σ.ln r) hl3
      have hyl : ltP σ (nI r) := ⟨hyr, by rw [nI_clamp (by omega)]; exact hl⟩
      refine r_aload_n (q := 20) (z := 2) C 2 rfl (by decide +kernel) rfl rfl ?_
      refine cV0I (q := 23) C R rfl (by decide +kernel) lk_X6_189 (c_X3_powerLine (hL.kp hlt) (hL.ks hlt)) (by decide) (by decide) (by decide) rfl (by first | exact Nat.le_of_ble_eq_true rfl | (simp only [List.map_cons, List.map_nil, List.sum_cons, List.sum_nil, rv_cat]; exact Nat.le_of_ble_eq_true rfl)) rfl (hL.kp hlt) ?_
      rintro _ _ ⟨rfl, rfl⟩
      rw [R0.dx W hlt hl, show nI (σ.dX r) / 4 = nI (σ.dX r / 4) from pk_div (d := 4) (by omega) (by decide) (by decide), ← ln_x W hlt hl]
      refine r_istore_n (q := 24) (z := 3) C 3 rfl (by decide +kernel) rfl (by decide) (by first | rfl | exact okst_rv rfl) ?_
      dsimp only [List.set]
      refine r_iload_n (q := 25) (z := 3) C 3 rfl (by decide +kernel) rfl rfl ?_
      refine r_iconst (q := 26) (z := 0) (v := 0) C rfl (by decide +kernel) (by decide) ?_
      refine r_iconst (q := 27) (z := 2) (v := 2) C rfl (by decide +kernel) (by decide) ?_
      refine cS3I (q := 30) C R rfl (by decide +kernel) lk_X6_105 (c_X6_isWithin ) (by decide) (by decide) (by decide) rfl (by first | exact Nat.le_of_ble_eq_true rfl | (simp only [List.map_cons, List.map_nil, List.sum_cons, List.sum_nil, rv_cat]; exact Nat.le_of_ble_eq_true rfl))  ?_
      rintro _ _ ⟨rfl, rfl⟩
      refine r_if_ne (q := 33) (off := 5) (tgt := 35) C rfl (by decide +kernel) (by decide) (fun c30 => ?_) (fun c30 => ?_)
      · refine r_aload_n (q := 36) (z := 0) C 0 rfl (by decide +kernel) rfl rfl ?_
        refine r_iload_n (q := 37) (z := 3) C 3 rfl (by decide +kernel) rfl rfl ?_
        refine cV1I (q := 40) C R rfl (by decide +kernel) lk_X6_192 (c_X6_powerWanted hL R0 W hl3) (by decide) (by decide) (by decide) rfl (by first | exact Nat.le_of_ble_eq_true rfl | (simp only [List.map_cons, List.map_nil, List.sum_cons, List.sum_nil, rv_cat]; exact Nat.le_of_ble_eq_true rfl)) rfl hL.kf ?_
        rintro _ _ ⟨rfl, rfl⟩
        rw [sumP_list (n := σ.n) (dkL σ L (σ.ln r)) (σ.on (σ.ln r)) (by rw [← dkT_n]; exact dkT_nd hnd) (fun j hj => (dkL_mem hS |>.mp hj).1) (fun j hj => by rw [dkL_mem hS]; exact ⟨fun e => ⟨hj, e⟩, fun e => e.2⟩), ← dkT_n, hL.ln]
        refine r_istore (q := 42) C 4 rfl (by decide +kernel) (by decide) (by first | rfl | exact okst_rv rfl) ?_
        dsimp only [List.set]
        refine r_aload_n (q := 43) (z := 0) C 0 rfl (by decide +kernel) rfl rfl ?_
        refine r_getI (q := 46) C 6 3 387 rfl (by decide +kernel) rfl (by decide) rfl rfl wf_X6_25 win6 hL.kf ?_
        rw [R0.1]
        refine r_iconst (q := 47) (z := 1) (v := 1) C rfl (by decide +kernel) (by decide) ?_
        refine r_isub (q := 48) C rfl (by decide +kernel) ?_
        refine r_istore (q := 50) C 5 rfl (by decide +kernel) (by decide) (by first | rfl | exact okst_rv rfl) ?_
        dsimp only [List.set]
        have L50 : ∀ (fuel50 : Nat) (k : Nat), k < fuel50 → (k ≤ σ.n) → (drk σ (be (σ.ln r)) (dkT σ L (σ.ln r) k) = drk σ (be (σ.ln r)) (dkL σ L (σ.ln r))) → (r ∈ L.take k) → wX G Γ (qM G Γ PP 0 0) 0 0 (h) 50 [some (rv g), some (.int (nI r)), some (rv (p r)), some (.int (nI (σ.ln r))), some (.int (nI (pwS σ (dkT σ L (σ.ln r) k)))), some (.int (nI k - 1))] [] := by
          intro fuel50
          induction fuel50 with
          | zero =>
            intro k hm50
            exact absurd hm50 (Nat.not_lt_zero _)
          | succ fuel50 ih50 =>
            intro k hm50 hk hT hin
            have hp9 := pwS_le W (dkT_nd (σ := σ) (l := σ.ln r) (k := k) hnd) (fun j hj => (hS.2 j).mp (List.mem_of_mem_take (dkT_mem.mp hj).1))
            refine r_iload (q := 52) C 5 rfl (by decide +kernel) rfl ?_
            refine r_if_lt (q := 55) (off := 75) (tgt := 127) C rfl (by decide +kernel) (by decide) (fun c52 => ?_) (fun c52 => ?_)
            · exact absurd hin (by rw [show k = 0 by rcases Nat.eq_zero_or_pos k with e | e; exact e; rw [m1x k e] at c52; exact absurd c52 (nI_pos (by omega))]; simp)
            · have hk0 : 0 < k := by
                rcases Nat.eq_zero_or_pos k with e | e
                · rw [e] at hin; simp at hin
                · exact e
              obtain ⟨k, rfl⟩ : ∃ t, k = t + 1 := ⟨k - 1, by omega⟩
              rw [nI_pred]
              obtain ⟨b, hb⟩ : ∃ b, L[k]? = some b := ⟨_, List.getElem?_eq_getElem (by rw [hL.ln]; omega)⟩
              have hbn : b < σ.n := (hS.2 b).mp (List.mem_of_getElem? hb)
              have hD := dkT_s (σ := σ) (l := σ.ln r) hb
              refine r_iload (q := 57) C 4 rfl (by decide +kernel) rfl ?_
              refine r_aload_n (q := 58) (z := 0) C 0 rfl (by decide +kernel) rfl rfl ?_
              refine r_getR (q := 61) C 6 11 395 rfl (by decide +kernel) rfl (by decide) rfl rfl wf_X6_67 win6 hL.kf ?_
              refine r_iload_n (q := 62) (z := 3) C 3 rfl (by decide +kernel) rfl rfl ?_
              refine r_iald (q := 63) C rfl (by decide +kernel) hL.k395 (vp_in_nI (by omega) (by decide)) ?_
              rw [nI_clamp (by omega), hbe.1]
              have hbl := hbe.2
              refine r_icmp_le (q := 66) (off := 64) (tgt := 127) C rfl (by decide +kernel) (by decide) (fun c63 => ?_) (fun c63 => ?_)
              · have c63 := (nI_leI (by omega) (by omega)).mp c63
                have hres : r ∈ drk σ (be (σ.ln r)) (dkL σ L (σ.ln r)) := by rw [← hT, drk_le c63]; exact dkT_mem.mpr ⟨hin, by unfold SG.on; rw [decide_eq_true hl, decide_eq_true rfl]; rfl⟩
                refine r_iconst (q := 128) (z := 1) (v := 1) C rfl (by decide +kernel) (by decide) ?_
                exact r_iret C (by decide +kernel) rfl (by decide) (by decide) (eqP hPP ⟨_, rfl, ⟨by rw [cif_t hyl, nI_clamp (by omega), ltV, if_pos hres], rfl⟩⟩)
              · have c63 : be (σ.ln r) < pwS σ (dkT σ L (σ.ln r) (k + 1)) := Nat.lt_of_not_le (fun e => c63 (nI_le e (by omega)))
                refine r_aload_n (q := 67) (z := 0) C 0 rfl (by decide +kernel) rfl rfl ?_
                refine r_getR (q := 70) C 6 2 386 rfl (by decide +kernel) rfl (by decide) rfl rfl wf_X6_22 win6 hL.kf ?_
                refine r_iload (q := 72) C 5 rfl (by decide +kernel) rfl ?_
                refine r_aald (q := 73) C rfl (by decide +kernel) hL.k386 (vp_in_nI (by omega) (by decide)) ?_
                rw [nI_clamp (by omega), hL.rk _ _ hb]
                refine r_aload_n (q := 74) (z := 2) C 2 rfl (by decide +kernel) rfl rfl ?_
                refine r_acmp_ne (q := 77) (off := 5) (tgt := 79) C rfl (by decide +kernel) (by decide) (fun c74 => ?_) (fun c74 => ?_)
                · have hne : b ≠ r := fun e => c74 (by rw [e])
                  have hin2 : r ∈ L.take k := by
                    rw [List.take_succ, hb, Option.toList_some, List.mem_append, List.mem_singleton] at hin
                    exact hin.resolve_right (fun e => hne e.symm)
                  refine r_aload_n (q := 80) (z := 0) C 0 rfl (by decide +kernel) rfl rfl ?_
                  refine r_getR (q := 83) C 6 2 386 rfl (by decide +kernel) rfl (by decide) rfl rfl wf_X6_22 win6 hL.kf ?_
                  refine r_iload (q := 85) C 5 rfl (by decide +kernel) rfl ?_
                  refine r_aald (q := 86) C rfl (by decide +kernel) hL.k386 (vp_in_nI (by omega) (by decide)) ?_
                  rw [nI_clamp (by omega), hL.rk _ _ hb]
                  refine r_getI (q := 89) C 3 7 199 rfl (by decide +kernel) rfl (by decide) rfl rfl wf_X6_122 win3 (hL.kp hbn) ?_
                  rw [R0.lie hbn]
                  refine r_if_eq (q := 92) (off := 32) (tgt := 121) C rfl (by decide +kernel) (by decide) (fun c89 => ?_) (fun c89 => ?_)
                  · have hoff : σ.on (σ.ln r) b = false := by unfold SG.on; rw [decide_eq_false (of_decide_eq_false ((b2i_0 _).mp c89))]; rfl
                    rw [hoff] at hD
                    simp only [Bool.false_eq_true, if_false] at hD
                    rw [hD]
                    have hT2 : drk σ (be (σ.ln r)) (dkT σ L (σ.ln r) k) = drk σ (be (σ.ln r)) (dkL σ L (σ.ln r)) := by rw [← hD]; exact hT
                    refine r_iinc (q := 124) (z := (-1)) (v := (-1)) C 5 rfl (by decide +kernel) rfl (by decide) (by decide) (by first | rfl | exact okst_rv rfl) ?_
                    dsimp only [List.set]
                    rw [show nI k + -1 = nI k - 1 from (Int32.sub_eq_add_neg _ _).symm]
                    refine r_goto (off := -74) (tgt := 50) C (by decide +kernel) (by decide) ?_
                    exact ih50 k (by omega) (by omega) hT2 hin2
                  · have hlb := of_decide_eq_true ((b2i_n0 _).mp c89)
                    have hxb := W.dxy hbn hlb
                    have hb3 := ln_lt (σ := σ) (r := b)
                    refine r_aload_n (q := 93) (z := 0) C 0 rfl (by decide +kernel) rfl rfl ?_
                    refine r_getR (q := 96) C 6 2 386 rfl (by decide +kernel) rfl (by decide) rfl rfl wf_X6_22 win6 hL.kf ?_
                    refine r_iload (q := 98) C 5 rfl (by decide +kernel) rfl ?_
                    refine r_aald (q := 99) C rfl (by decide +kernel) hL.k386 (vp_in_nI (by omega) (by decide)) ?_
                    rw [nI_clamp (by omega), hL.rk _ _ hb]
                    refine cV0I (q := 102) C R rfl (by decide +kernel) lk_X6_189 (c_X3_powerLine (hL.kp hbn) (hL.ks hbn)) (by decide) (by decide) (by decide) rfl (by first | exact Nat.le_of_ble_eq_true rfl | (simp only [List.map_cons, List.map_nil, List.sum_cons, List.sum_nil, rv_cat]; exact Nat.le_of_ble_eq_true rfl)) rfl (hL.kp hbn) ?_
                    rintro _ _ ⟨rfl, rfl⟩
                    rw [R0.dx W hbn hlb, show nI (σ.dX b) / 4 = nI (σ.dX b / 4) from pk_div (d := 4) (by omega) (by decide) (by decide), ← ln_x W hbn hlb]
                    refine r_iload_n (q := 103) (z := 3) C 3 rfl (by decide +kernel) rfl rfl ?_
                    refine r_icmp_ne (q := 106) (off := 18) (tgt := 121) C rfl (by decide +kernel) (by decide) (fun c103 => ?_) (fun c103 => ?_)
                    · have hoff : σ.on (σ.ln r) b = false := by
                        cases e : σ.on (σ.ln r) b with
                        | false => rfl
                        | true => unfold SG.on at e; rw [Bool.and_eq_true, decide_eq_true_eq, decide_eq_true_eq] at e; exact absurd (by rw [e.2]) c103
                      rw [hoff] at hD
                      simp only [Bool.false_eq_true, if_false] at hD
                      rw [hD]
                      have hT2 : drk σ (be (σ.ln r)) (dkT σ L (σ.ln r) k) = drk σ (be (σ.ln r)) (dkL σ L (σ.ln r)) := by rw [← hD]; exact hT
                      refine r_iinc (q := 124) (z := (-1)) (v := (-1)) C 5 rfl (by decide +kernel) rfl (by decide) (by decide) (by first | rfl | exact okst_rv rfl) ?_
                      dsimp only [List.set]
                      rw [show nI k + -1 = nI k - 1 from (Int32.sub_eq_add_neg _ _).symm]
                      refine r_goto (off := -74) (tgt := 50) C (by decide +kernel) (by decide) ?_
                      exact ih50 k (by omega) (by omega) hT2 hin2
                    · have hon : σ.on (σ.ln r) b = true := by unfold SG.on; rw [decide_eq_true hlb, decide_eq_true ((nI_eq (by omega) (by omega)).mp c103)]; rfl
                      rw [if_pos hon] at hD
                      have hT2 : drk σ (be (σ.ln r)) (dkT σ L (σ.ln r) k) = drk σ (be (σ.ln r)) (dkL σ L (σ.ln r)) := by rw [← hT, hD, drk, if_pos (by rw [← hD]; exact c63)]
                      refine r_iload (q := 108) C 4 rfl (by decide +kernel) rfl ?_
                      refine r_aload_n (q := 109) (z := 0) C 0 rfl (by decide +kernel) rfl rfl ?_
                      refine r_getR (q := 112) C 6 2 386 rfl (by decide +kernel) rfl (by decide) rfl rfl wf_X6_22 win6 hL.kf ?_
                      refine r_iload (q := 114) C 5 rfl (by decide +kernel) rfl ?_
                      refine r_aald (q := 115) C rfl (by decide +kernel) hL.k386 (vp_in_nI (by omega) (by decide)) ?_
                      rw [nI_clamp (by omega), hL.rk _ _ hb]
                      refine r_getI (q := 118) C 3 3 195 rfl (by decide +kernel) rfl (by decide) rfl rfl wf_X6_196 win3 (hL.kp hbn) ?_
                      rw [R0.pw hbn]
                      refine r_isub (q := 119) C rfl (by decide +kernel) ?_
                      rw [pk_sub (by rw [hD, pwS]; omega), show pwS σ (dkT σ L (σ.ln r) (k + 1)) - σ.pw b = pwS σ (dkT σ L (σ.ln r) k) by rw [hD, pwS]; omega]
                      refine r_istore (q := 121) C 4 rfl (by decide +kernel) (by decide) (by first | rfl | exact okst_rv rfl) ?_
                      dsimp only [List.set]
                      refine r_iinc (q := 124) (z := (-1)) (v := (-1)) C 5 rfl (by decide +kernel) rfl (by decide) (by decide) (by first | rfl | exact okst_rv rfl) ?_
                      dsimp only [List.set]
                      rw [show nI k + -1 = nI k - 1 from (Int32.sub_eq_add_neg _ _).symm]
                      refine r_goto (off := -74) (tgt := 50) C (by decide +kernel) (by decide) ?_
                      exact ih50 k (by omega) (by omega) hT2 hin2
                · have ebr : b = r := by have h1 := hL.gp hbn; have h2 := hL.gp hlt; rw [c74] at h1; omega
                  have hres : ¬ r ∈ drk σ (be (σ.ln r)) (dkL σ L (σ.ln r)) := fun e => by
                    have hon : σ.on (σ.ln r) b = true := by unfold SG.on; rw [ebr, decide_eq_true hl, decide_eq_true rfl]; rfl
                    rw [if_pos hon] at hD
                    have hndk := dkT_nd (σ := σ) (l := σ.ln r) (k := k + 1) hnd
                    rw [hD, List.nodup_cons] at hndk
                    rw [← hT, hD, drk, if_pos (by rw [← hD]; exact c63)] at e
                    exact hndk.1 (by rw [ebr]; exact drk_sub e)
                  refine r_iconst (q := 78) (z := 0) (v := 0) C rfl (by decide +kernel) (by decide) ?_
                  exact r_iret C (by decide +kernel) rfl (by decide) (by decide) (eqP hPP ⟨_, rfl, ⟨by rw [cif_t hyl, nI_clamp (by omega), ltV, if_neg hres], rfl⟩⟩)
        exact L50 (σ.n + 1) σ.n (by omega) (Nat.le_refl _) (by rw [← hL.ln, dkT_n]) (by rw [← hL.ln, List.take_length]; exact (hS.2 r).mpr hlt)
      · exact absurd ⟨nI_pos' (by omega), nI_le (b := 2) (by omega) (by decide)⟩ (of_decide_eq_false ((b2i_0 _).mp c30))
    · have hn : ¬ ltP σ (nI r) := fun e => of_decide_eq_false ((b2i_0 _).mp c14) (by have := e.2; rw [nI_clamp (by omega)] at this; exact this)
      refine r_iconst (q := 18) (z := (-1)) (v := (-1)) C rfl (by decide +kernel) (by decide) ?_
      exact r_iret C (by decide +kernel) rfl (by decide) (by decide) (eqP hPP ⟨_, rfl, ⟨by rw [cif_f hn], rfl⟩⟩)
theorem c_X6_layAll {G : GT} {h : HP} {g : Nat} {σ : SG} {p : Nat → Nat} {L : List Nat}  (hL : LCl h.kd h.gl h.fr h.ar g σ.n p L) (R0 : CRr σ h.fi h.fr g p) (Rc : CRc σ h g) (W : WF σ) (hS : Srt σ L) : Con G 9 0 0 yX6_layAll cX6_layAll 3 (some .int) [rv g] h (PI (fun v h' => nI (σ.n - lyN (p2 (p1 σ L) L) σ.n) = v ∧ CRr (p2 (p1 σ L) L) h'.fi h'.fr g p ∧ CRc (p2 (p1 σ L) L) h' g ∧ WF (p2 (p1 σ L) L) ∧ Fm [1, 2, 3] [3, 199, 256, 257, 258, 259, 260] h h')) := by
  refine Con.of (lv := [some (rv g), none, none]) (by decide) (by simp only [lvE_r, lvE_i, lvE_l, lvE_s, lvE_0]; rfl) (by simp only [lgl_r, lgl_i, lgl_l, lgl_s, lgl_0]; decide) (fun Γ C R => ?_)
  generalize hPP : (PI (fun v h' => nI (σ.n - lyN (p2 (p1 σ L) L) σ.n) = v ∧ CRr (p2 (p1 σ L) L) h'.fi h'.fr g p ∧ CRc (p2 (p1 σ L) L) h' g ∧ WF (p2 (p1 σ L) L) ∧ Fm [1, 2, 3] [3, 199, 256, 257, 258, 259, 260] h h')) = PP
  have r10 := W.n10
  have hL0 := hL
  have L65 : ∀ (fuel65 : Nat) (h2 : HP) (σ2 : SG) (k : Nat), σ.n - k < fuel65 → (Fm [1, 2, 3] [3, 199, 256, 257, 258, 259, 260] h h2) → (CRr σ2 h2.fi h2.fr g p) → (CRc σ2 h2 g) → (WF σ2) → (σ2 = σ.li_ σ2.li) → (k ≤ σ.n) → ((L.drop k).foldl (fun σ r => if ask2 σ r then lay2 σ r else σ) σ2 = p2 (p1 σ L) L) → wX G Γ (qM G Γ PP 0 0) 0 0 (h2) 65 [some (rv g), some (.int (nI k)), none] [] := by
    intro fuel65
    induction fuel65 with
    | zero =>
      intro h2 σ2 k hm65
      exact absurd hm65 (Nat.not_lt_zero _)
    | succ fuel65 ih65 =>
      intro h2 σ2 k hm65 F2 R2 Rc2 W2 e2 hk hT
      have hL : LCl h2.kd h2.gl h2.fr h2.ar g σ.n p L := LCl.fm F2 hL0
      have en : σ2.n = σ.n := by rw [e2]; rfl
      refine r_iload_n (q := 66) (z := 1) C 1 rfl (by decide +kernel) rfl rfl ?_
      refine r_aload_n (q := 67) (z := 0) C 0 rfl (by decide +kernel) rfl rfl ?_
      refine r_getI (q := 70) C 6 3 387 rfl (by decide +kernel) rfl (by decide) rfl rfl wf_X6_25 win6 hL.kf ?_
      rw [R2.1, en]
      refine r_icmp_ge (q := 73) (off := 31) (tgt := 101) C rfl (by decide +kernel) (by decide) (fun c70 => ?_) (fun c70 => ?_)
      · have ek : k = σ.n := by have := (nI_leI (by omega) (by omega)).mp c70; omega
        subst ek
        have hp2 : σ2 = p2 (p1 σ L) L := by rw [← hT, ← hL.ln, List.drop_length]; rfl
        refine r_aload_n (q := 102) (z := 0) C 0 rfl (by decide +kernel) rfl rfl ?_
        refine r_getI (q := 105) C 6 3 387 rfl (by decide +kernel) rfl (by decide) rfl rfl wf_X6_25 win6 hL.kf ?_
        rw [R2.1, en]
        refine r_aload_n (q := 106) (z := 0) C 0 rfl (by decide +kernel) rfl rfl ?_
        refine cV0I (q := 109) C R rfl (by decide +kernel) lk_X6_95 (c_X6_countLying (σ := σ2) (L := L) (by rw [en]; exact hL) R2 (by rw [en]; exact r10)) (by decide) (by decide) (by decide) rfl (by first | exact Nat.le_of_ble_eq_true rfl | (simp only [List.map_cons, List.map_nil, List.sum_cons, List.sum_nil, rv_cat]; exact Nat.le_of_ble_eq_true rfl)) rfl hL.kf ?_
        rintro _ _ ⟨rfl, rfl⟩
        rw [en]
        refine r_isub (q := 110) C rfl (by decide +kernel) ?_
        rw [pk_sub (by have := lyN_le σ2 σ.n; omega)]
        exact r_iret C (by decide +kernel) rfl (by decide) (by decide) (eqP hPP ⟨_, rfl, ⟨by rw [hp2], by rw [← hp2]; exact R2, by rw [← hp2]; exact Rc2, by rw [← hp2]; exact W2, F2⟩⟩)
      · have hlt : k < σ.n := Nat.lt_of_not_le (fun e => c70 (nI_le e (by omega)))
        obtain ⟨b, hb⟩ : ∃ b, L[k]? = some b := ⟨_, List.getElem?_eq_getElem (by rw [hL.ln]; omega)⟩
        have hbn : b < σ.n := (hS.2 b).mp (List.mem_of_getElem? hb)
        have hb2 : b < σ2.n := by rw [en]; exact hbn
        rw [drop_c hb, List.foldl_cons] at hT
        have J95 : ∀ (h3 : HP) (σ3 : SG), (Fm [1, 2, 3] [3, 199, 256, 257, 258, 259, 260] h h3) → (CRr σ3 h3.fi h3.fr g p) → (CRc σ3 h3 g) → (WF σ3) → (σ3 = σ.li_ σ3.li) → ((L.drop (k + 1)).foldl (fun σ r => if ask2 σ r then lay2 σ r else σ) σ3 = p2 (p1 σ L) L) → wX G Γ (qM G Γ PP 0 0) 0 0 (h3) 95 [some (rv g), some (.int (nI k)), none] [] := by
          intro h3 σ3 F3 R3 Rc3 W3 e3 hT3
          refine r_iinc (q := 98) (z := 1) (v := 1) C 1 rfl (by decide +kernel) rfl (by decide) (by decide) (by first | rfl | exact okst_rv rfl) ?_
          dsimp only [List.set]
          rw [nI_1]
          refine r_goto (off := -33) (tgt := 65) C (by decide +kernel) (by decide) ?_
          exact wX.sub (lsub_s (lsub_s (lsub_n (lsub_nil)))) (ih65 h3 σ3 (k + 1) (by omega) F3 R3 Rc3 W3 e3 (by omega) hT3)
        refine r_aload_n (q := 74) (z := 0) C 0 rfl (by decide +kernel) rfl rfl ?_
        refine r_getR (q := 77) C 6 2 386 rfl (by decide +kernel) rfl (by decide) rfl rfl wf_X6_22 win6 hL.kf ?_
        refine r_iload_n (q := 78) (z := 1) C 1 rfl (by decide +kernel) rfl rfl ?_
        refine r_aald (q := 79) C rfl (by decide +kernel) hL.k386 (vp_in_nI (by omega) (by decide)) ?_
        rw [nI_clamp (by omega), hL.rk _ _ hb]
        refine r_getI (q := 82) C 3 7 199 rfl (by decide +kernel) rfl (by decide) rfl rfl wf_X6_122 win3 (hL.kp hbn) ?_
        rw [R2.lie hb2]
        refine r_if_ne (q := 85) (off := 13) (tgt := 95) C rfl (by decide +kernel) (by decide) (fun c82 => ?_) (fun c82 => ?_)
        · have hl := of_decide_eq_true ((b2i_n0 _).mp c82)
          have hTn : (L.drop (k + 1)).foldl (fun σ r => if ask2 σ r then lay2 σ r else σ) σ2 = p2 (p1 σ L) L := by
            have e : ask2 σ2 b = false := by unfold ask2; simp [hl]
            rw [e] at hT; exact hT
          exact wX.sub (lsub_s (lsub_s (lsub_n (lsub_nil)))) (J95 h2 σ2 F2 R2 Rc2 W2 e2 hTn)
        · have hl := of_decide_eq_false ((b2i_0 _).mp c82)
          have hL2 : LCl h2.kd h2.gl h2.fr h2.ar g σ2.n p L := by rw [en]; exact hL
          have e9 : ∀ X, σ2.li_ X = σ.li_ X := fun X => by rw [e2]; rfl
          have hT92 : (L.drop (k + 1)).foldl (fun σ r => if ask2 σ r then lay2 σ r else σ) (lay2 σ2 b) = p2 (p1 σ L) L := by
            have e : ask2 σ2 b = true := by unfold ask2; simp [hl]
            rw [e] at hT; exact hT
          refine r_aload_n (q := 86) (z := 0) C 0 rfl (by decide +kernel) rfl rfl ?_
          refine r_aload_n (q := 87) (z := 0) C 0 rfl (by decide +kernel) rfl rfl ?_
          refine r_getR (q := 90) C 6 2 386 rfl (by decide +kernel) rfl (by decide) rfl rfl wf_X6_22 win6 hL.kf ?_
          refine r_iload_n (q := 91) (z := 1) C 1 rfl (by decide +kernel) rfl rfl ?_
          refine r_aald (q := 92) C rfl (by decide +kernel) hL.k386 (vp_in_nI (by omega) (by decide)) ?_
          rw [nI_clamp (by omega), hL.rk _ _ hb]
          refine cV1V (q := 95) C R rfl (by decide +kernel) lk_X6_153 (c_X6_layAtFirstPlace (σ := σ2) (L := L) hL2 R2 Rc2 W2 hb2 hl) (by decide) (by decide) (by decide) rfl (by first | exact Nat.le_of_ble_eq_true rfl | (simp only [List.map_cons, List.map_nil, List.sum_cons, List.sum_nil, rv_cat]; exact Nat.le_of_ble_eq_true rfl)) rfl hL.kf ?_
          rintro h92 ⟨R92, Rc92, F92⟩
          exact wX.sub (lsub_s (lsub_s (lsub_n (lsub_nil)))) (J95 h92 _ (F2.tr F92) R92 Rc92 (W2.lay2 hb2) ((lay2_form σ2 b).1.trans (e9 _)) hT92)
  refine r_iconst (q := 1) (z := 0) (v := 0) C rfl (by decide +kernel) (by decide) ?_
  refine r_istore_n (q := 2) (z := 1) C 1 rfl (by decide +kernel) rfl (by decide) (by first | rfl | exact okst_rv rfl) ?_
  dsimp only [List.set]
  have L2 : ∀ (fuel2 : Nat) (h2 : HP) (σ2 : SG) (k : Nat), σ.n - k < fuel2 → (Fm [1, 2, 3] [3, 199, 256, 257, 258, 259, 260] h h2) → (CRr σ2 h2.fi h2.fr g p) → (CRc σ2 h2 g) → (WF σ2) → (σ2 = σ.li_ σ2.li) → (k ≤ σ.n) → ((L.drop k).foldl (fun σ r => if ask1 σ r then lay1 σ r else σ) σ2 = p1 σ L) → wX G Γ (qM G Γ PP 0 0) 0 0 (h2) 2 [some (rv g), some (.int (nI k)), none] [] := by
    intro fuel2
    induction fuel2 with
    | zero =>
      intro h2 σ2 k hm2
      exact absurd hm2 (Nat.not_lt_zero _)
    | succ fuel2 ih2 =>
      intro h2 σ2 k hm2 F2 R2 Rc2 W2 e2 hk hT
      have hL : LCl h2.kd h2.gl h2.fr h2.ar g σ.n p L := LCl.fm F2 hL0
      have en : σ2.n = σ.n := by rw [e2]; rfl
      refine r_iload_n (q := 3) (z := 1) C 1 rfl (by decide +kernel) rfl rfl ?_
      refine r_aload_n (q := 4) (z := 0) C 0 rfl (by decide +kernel) rfl rfl ?_
      refine r_getI (q := 7) C 6 3 387 rfl (by decide +kernel) rfl (by decide) rfl rfl wf_X6_25 win6 hL.kf ?_
      rw [R2.1, en]
      refine r_icmp_ge (q := 10) (off := 56) (tgt := 63) C rfl (by decide +kernel) (by decide) (fun c7 => ?_) (fun c7 => ?_)
      · have ek : k = σ.n := by have := (nI_leI (by omega) (by omega)).mp c7; omega
        subst ek
        have hp1 : σ2 = p1 σ L := by rw [← hT, ← hL.ln, List.drop_length]; rfl
        refine r_iconst (q := 64) (z := 0) (v := 0) C rfl (by decide +kernel) (by decide) ?_
        refine r_istore_n (q := 65) (z := 1) C 1 rfl (by decide +kernel) rfl (by decide) (by first | rfl | exact okst_rv rfl) ?_
        dsimp only [List.set]
        exact wX.sub (lsub_s (lsub_s (lsub_n (lsub_nil)))) (L65 (σ.n + 1) h2 σ2 0 (by omega) F2 R2 Rc2 W2 e2 (by omega) (by rw [hp1]; rfl))
      · have hlt : k < σ.n := Nat.lt_of_not_le (fun e => c7 (nI_le e (by omega)))
        obtain ⟨b, hb⟩ : ∃ b, L[k]? = some b := ⟨_, List.getElem?_eq_getElem (by rw [hL.ln]; omega)⟩
        have hbn : b < σ.n := (hS.2 b).mp (List.mem_of_getElem? hb)
        have hb2 : b < σ2.n := by rw [en]; exact hbn
        rw [drop_c hb, List.foldl_cons] at hT
        have J57 : ∀ (h3 : HP) (σ3 : SG), (Fm [1, 2, 3] [3, 199, 256, 257, 258, 259, 260] h h3) → (CRr σ3 h3.fi h3.fr g p) → (CRc σ3 h3 g) → (WF σ3) → (σ3 = σ.li_ σ3.li) → ((L.drop (k + 1)).foldl (fun σ r => if ask1 σ r then lay1 σ r else σ) σ3 = p1 σ L) → wX G Γ (qM G Γ PP 0 0) 0 0 (h3) 57 [some (rv g), some (.int (nI k)), none] [] := by
          intro h3 σ3 F3 R3 Rc3 W3 e3 hT3
          refine r_iinc (q := 60) (z := 1) (v := 1) C 1 rfl (by decide +kernel) rfl (by decide) (by decide) (by first | rfl | exact okst_rv rfl) ?_
          dsimp only [List.set]
          rw [nI_1]
          refine r_goto (off := -58) (tgt := 2) C (by decide +kernel) (by decide) ?_
          exact wX.sub (lsub_s (lsub_s (lsub_n (lsub_nil)))) (ih2 h3 σ3 (k + 1) (by omega) F3 R3 Rc3 W3 e3 (by omega) hT3)
        refine r_aload_n (q := 11) (z := 0) C 0 rfl (by decide +kernel) rfl rfl ?_
        refine r_getR (q := 14) C 6 2 386 rfl (by decide +kernel) rfl (by decide) rfl rfl wf_X6_22 win6 hL.kf ?_
        refine r_iload_n (q := 15) (z := 1) C 1 rfl (by decide +kernel) rfl rfl ?_
        refine r_aald (q := 16) C rfl (by decide +kernel) hL.k386 (vp_in_nI (by omega) (by decide)) ?_
        rw [nI_clamp (by omega), hL.rk _ _ hb]
        refine r_astore_n (q := 17) (z := 2) C 2 rfl (by decide +kernel) rfl (by decide) (by first | rfl | exact okst_rv rfl) ?_
        dsimp only [List.set]
        refine r_aload_n (q := 18) (z := 2) C 2 rfl (by decide +kernel) rfl rfl ?_
        refine r_getI (q := 21) C 3 7 199 rfl (by decide +kernel) rfl (by decide) rfl rfl wf_X6_122 win3 (hL.kp hbn) ?_
        rw [R2.lie hb2]
        refine r_if_ne (q := 24) (off := 36) (tgt := 57) C rfl (by decide +kernel) (by decide) (fun c21 => ?_) (fun c21 => ?_)
        · have hl := of_decide_eq_true ((b2i_n0 _).mp c21)
          have hTn : (L.drop (k + 1)).foldl (fun σ r => if ask1 σ r then lay1 σ r else σ) σ2 = p1 σ L := by
            have e : ask1 σ2 b = false := by unfold ask1; simp [hl]
            rw [e] at hT; exact hT
          exact wX.sub (lsub_s (lsub_s (lsub_n (lsub_nil)))) (J57 h2 σ2 F2 R2 Rc2 W2 e2 hTn)
        · have hl := of_decide_eq_false ((b2i_0 _).mp c21)
          refine r_aload_n (q := 25) (z := 2) C 2 rfl (by decide +kernel) rfl rfl ?_
          refine r_getI (q := 28) C 3 9 201 rfl (by decide +kernel) rfl (by decide) rfl rfl wf_X6_147 win3 (hL.kp hbn) ?_
          rw [R2.rt hb2]
          refine r_iconst (q := 29) (z := (-1)) (v := (-1)) C rfl (by decide +kernel) (by decide) ?_
          refine r_icmp_eq (q := 32) (off := 28) (tgt := 57) C rfl (by decide +kernel) (by decide) (fun c29 => ?_) (fun c29 => ?_)
          · have hrt := pl_m1.mp c29
            have hTn : (L.drop (k + 1)).foldl (fun σ r => if ask1 σ r then lay1 σ r else σ) σ2 = p1 σ L := by
              have e : ask1 σ2 b = false := by unfold ask1; simp [hrt]
              rw [e] at hT; exact hT
            exact wX.sub (lsub_s (lsub_s (lsub_n (lsub_nil)))) (J57 h2 σ2 F2 R2 Rc2 W2 e2 hTn)
          · have hrt : σ2.rt b < 240 := Classical.not_not.mp (mt pl_m1.mpr c29)
            obtain ⟨x1, x2, x3⟩ := pap hrt
            obtain ⟨hC, hpq⟩ := plc_q hrt
            refine r_aload_n (q := 33) (z := 0) C 0 rfl (by decide +kernel) rfl rfl ?_
            refine r_getR (q := 36) C 6 5 389 rfl (by decide +kernel) rfl (by decide) rfl rfl wf_X6_35 win6 hL.kf ?_
            refine r_aload_n (q := 37) (z := 2) C 2 rfl (by decide +kernel) rfl rfl ?_
            refine r_getI (q := 40) C 3 1 193 rfl (by decide +kernel) rfl (by decide) rfl rfl wf_X6_126 win3 (hL.kp hbn) ?_
            rw [R2.wd hb2]
            refine r_aload_n (q := 41) (z := 2) C 2 rfl (by decide +kernel) rfl rfl ?_
            refine r_getI (q := 44) C 3 2 194 rfl (by decide +kernel) rfl (by decide) rfl rfl wf_X6_129 win3 (hL.kp hbn) ?_
            rw [R2.hg hb2]
            refine r_aload_n (q := 45) (z := 2) C 2 rfl (by decide +kernel) rfl rfl ?_
            refine r_getI (q := 48) C 3 9 201 rfl (by decide +kernel) rfl (by decide) rfl rfl wf_X6_147 win3 (hL.kp hbn) ?_
            rw [R2.rt hb2, pl_in hrt]
            refine cV3V (q := 51) C R rfl (by decide +kernel) lk_X6_150 (c_X4_putAtPlace hL.k389) (by decide) (by decide) (by decide) rfl (by first | exact Nat.le_of_ble_eq_true rfl | (simp only [List.map_cons, List.map_nil, List.sum_cons, List.sum_nil, rv_cat]; exact Nat.le_of_ble_eq_true rfl)) rfl hL.k389 ?_
            rintro _ rfl
            rw [x1, x2, x3]
            have hL2 : LCl h2.kd h2.gl h2.fr h2.ar g σ2.n p L := by rw [en]; exact hL
            obtain ⟨T1, T2, T3⟩ := tri (x := nI (px (σ2.rt b))) (y := nI (py (σ2.rt b))) (t := decide (σ2.rt b % 2 = 1)) hL2 R2 W2 hb2
            refine r_aload_n (q := 52) (z := 0) C 0 rfl (by decide +kernel) rfl rfl ?_
            refine r_aload_n (q := 53) (z := 2) C 2 rfl (by decide +kernel) rfl rfl ?_
            refine cV1I (q := 56) C R rfl (by decide +kernel) lk_X6_139 (c_X6_layIfItFits (σ := σ2) (L := L) (x := nI (px (σ2.rt b))) (y := nI (py (σ2.rt b))) (t := decide (σ2.rt b % 2 = 1)) hL2 T1 Rc2 W2 hb2 hl T2 T3) (by decide) (by decide) (by decide) rfl (by first | exact Nat.le_of_ble_eq_true rfl | (simp only [List.map_cons, List.map_nil, List.sum_cons, List.sum_nil, rv_cat]; exact Nat.le_of_ble_eq_true rfl)) rfl hL.kf ?_
            rintro _ h53 ⟨b53, rfl, hb53, R53, Rc53, F53⟩
            rw [hpq] at hb53 R53 Rc53
            have F53t : Fm [1, 2, 3] [3, 199, 256, 257, 258, 259, 260] h h53 := F2.tr ((Fm.spPut.mono (by decide) (by decide)).tr F53)
            have el : lyS b53 σ2 b (σ2.rt b) = lay1 σ2 b := by
              unfold lyS lay1
              cases b53 with
              | true => rw [cif_t (hb53.mp rfl).2]; rfl
              | false => rw [cif_f (fun e => by cases hb53.mpr ⟨hC, e⟩)]; rfl
            rw [el] at R53 Rc53
            have W53 := W2.lay1 hb2
            have e53 : lay1 σ2 b = σ.li_ (lay1 σ2 b).li := by
              have e9 : ∀ X, σ2.li_ X = σ.li_ X := fun X => by rw [e2]; rfl
              exact (lay1_form σ2 b).1.trans (e9 _)
            have hT53 : (L.drop (k + 1)).foldl (fun σ r => if ask1 σ r then lay1 σ r else σ) (lay1 σ2 b) = p1 σ L := by
              have e : ask1 σ2 b = true := by unfold ask1; simp [hl, hrt]
              rw [e] at hT; exact hT
            refine r_pop (q := 57) C rfl (by decide +kernel) (by first | rfl | exact rv_cat _) ?_
            exact wX.sub (lsub_s (lsub_s (lsub_n (lsub_nil)))) (J57 h53 _ F53t R53 Rc53 W53 e53 hT53)
  exact wX.sub (lsub_s (lsub_s (lsub_n (lsub_nil)))) (L2 (σ.n + 1) h σ 0 (by omega) Fm.rf R0 Rc W rfl (by omega) rfl)
