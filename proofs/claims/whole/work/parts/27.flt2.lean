theorem aF_id (σ : S9) (k : Nat) : aF σ k (gF σ k) = σ := by
  refine S9ext (fun _ => rfl) (fun _ => rfl) (fun j => ?_) (fun _ => rfl)
  by_cases e : j = k
  · subst e; rw [gF_aF_eq]
  · rw [gF_aF_ne e]
theorem aI_id (σ : S9) (k : Nat) : aI σ k (gI σ k) = σ := by
  refine S9ext (fun j => ?_) (fun _ => rfl) (fun _ => rfl) (fun _ => rfl)
  by_cases e : j = k
  · subst e; rw [gI_aI_eq]
  · rw [gI_aI_ne e]
theorem aL_id (σ : S9) (k : Nat) : aL σ k (gL σ k) = σ := by
  refine S9ext (fun _ => rfl) (fun j => ?_) (fun _ => rfl) (fun _ => rfl)
  by_cases e : j = k
  · subst e; rw [gL_aL_eq]
  · rw [gL_aL_ne e]
section
variable {d : Nat} {n R : Int} {lf rg : Int → List Int} {wt lev : Int → Int} {stt : Int} {ap : Int → UInt32} {str : List Int} {σ : S9}
theorem SyC.apk (c : SyC σ 1 n R lf rg wt lev stt ap str) (v : Va n R lf rg wt lev stt ap str) : ∀ x, 0 ≤ x → x < 8 → apOK (gF σ 15 x) := fun x a b => by
  rw [show gF σ 15 x = ap x from (c.2.2.2.2.2 x a b).2.2]
  exact (v.2.2.2.1 x a b).2.2
theorem c_X9_improve {k : Int} {P : Int → S9 → Prop} (v : Va n R lf rg wt lev stt ap str) (c : SyC σ 1 n R lf rg wt lev stt ap str) (hk : (-2147483648 ≤ k ∧ k < 2147483648)) (h1 : ¬ (1 ≤ k ∧ k ≤ 100) → P (-1) σ) (h2 : 1 ≤ k ∧ k ≤ 100 → P (wide9 (bl9 lf rg) n (imN (bl9 lf rg) n R (gF σ 15) k.toNat) R.toNat) (aF σ 15 (imN (bl9 lf rg) n R (gF σ 15) k.toNat))) : Cc (d + 1) mX9_improve [.ref 0, .int (iI k)] σ (QI P) := by
  have hn := v.1
  have hR := v.2.1
  refine Cc_of (by decide +kernel) (fun _ => Nat.le_of_ble_eq_true rfl) rfl (lv := [_, _, _, _]) ?_
  have hb : ∀ s x : Int, 0 ≤ s → s < R → -6 ≤ bl9 lf rg s x ∧ bl9 lf rg s x ≤ 6 := fun s x a b => v.bal ⟨a, b⟩ x
  have ok := imN_ok (bl := bl9 lf rg) (n := n) (R := R) (c.apk v) (by omega) hb
  have K3 : ∀ g : Int → UInt32, (1 ≤ k ∧ k ≤ 100) → g = imN (bl9 lf rg) n R (gF σ 15) k.toNat → ∀ (m : Nat) (r : Int), 0 ≤ r → r + m = R → Vv (d + 1) mX9_improve 71 [.ref 0, .int (iI k), .int (iI (wide9 (bl9 lf rg) n g r.toNat)), .int (iI r)] [] (aF σ 15 g) (QI P) := by
    intro g hk2 hg m
    induction m with
    | zero =>
      intro r hr hm
      refine v_iload_n dX9_improve_71 rfl ?_
      refine v_aload_n dX9_improve_72 rfl ?_
      refine v_getR (k1 := 1) dX9_improve_73 s_0 fX9_14 rfl ?_
      refine v_getI (ji := 1) dX9_improve_76 s_1 fX9_93 rfl ?_
      rw [gI_aF, c.2.1]
      refine v_icmp_ge (tgt := 105) dX9_improve_79 (by decide) (by omega) (fun q79 => ?_) (fun q79 => absurd q79 (by omega))
      refine v_iload_n dX9_improve_105 rfl ?_
      exact v_ireturn dX9_improve_106 rfl (by rw [show r.toNat = R.toNat by omega, hg]; exact h2 hk2)
    | succ m ih =>
      intro r hr hm
      have ih := ih (r + 1) (by omega) (by omega)
      rw [show (r + 1).toNat = r.toNat + 1 by omega, wide9, show ((r.toNat : Nat) : Int) = r by omega] at ih
      refine v_iload_n dX9_improve_71 rfl ?_
      refine v_aload_n dX9_improve_72 rfl ?_
      refine v_getR (k1 := 1) dX9_improve_73 s_0 fX9_14 rfl ?_
      refine v_getI (ji := 1) dX9_improve_76 s_1 fX9_93 rfl ?_
      rw [gI_aF, c.2.1]
      refine v_icmp_ge (tgt := 105) dX9_improve_79 (by decide) (by omega) (fun q79 => absurd q79 (by omega)) (fun q79 => ?_)
      refine v_aload_n dX9_improve_82 rfl ?_
      refine v_getR (k1 := 1) dX9_improve_83 s_0 fX9_14 rfl ?_
      refine v_iload_n dX9_improve_86 rfl ?_
      refine v_callVf1 dX9_improve_87 kX9_225 s_1 (Nat.le_of_ble_eq_true rfl) (c_X5_marginOf (lf := lf) (rg := rg) (R := R) hn (by omega) (by rw [gI_aF]; exact c.1) (fun x a b => by rw [gI_aF]; exact c.b (by omega) (by omega)) (fun a ha => ?_))
      refine v_ldcf dX9_improve_90 wX9_229 ?_
      have hc := al32_cmp ha 1056964608
      rw [gF_aF_eq] at hc
      refine v_fcmp_lt (tgt := 99) dX9_improve_92 dX9_improve_93 (by decide) (fun q92 => ?_) (fun q92 => ?_)
      · refine v_iinc (lv' := [_, _, _, _]) dX9_improve_99 rfl (Nat.le_of_ble_eq_true rfl) rfl rfl ?_
        refine v_goto (tgt := 71) dX9_improve_102 (by decide) ?_
        rw [hc] at q92
        first
        | (rw [if_pos (Classical.byContradiction (fun z => q92 (cvl.mpr ⟨fun y => z (Or.inl y), fun y => z (Or.inr y)⟩)))] at ih; exact ih)
        | (rw [if_neg (fun z => z.elim (cvl.mp q92).1 (cvl.mp q92).2), Int.add_zero] at ih; exact ih)
      · refine v_iinc (lv' := [_, _, _, _]) dX9_improve_96 rfl (Nat.le_of_ble_eq_true rfl) rfl rfl ?_
        refine v_iinc (lv' := [_, _, _, _]) dX9_improve_99 rfl (Nat.le_of_ble_eq_true rfl) rfl rfl ?_
        refine v_goto (tgt := 71) dX9_improve_102 (by decide) ?_
        rw [hc] at q92
        first
        | (rw [if_pos (Classical.byContradiction (fun z => q92 (cvl.mpr ⟨fun y => z (Or.inl y), fun y => z (Or.inr y)⟩)))] at ih; exact ih)
        | (rw [if_neg (fun z => z.elim (cvl.mp q92).1 (cvl.mp q92).2), Int.add_zero] at ih; exact ih)
  have K2 : ∀ (j : Nat) (m : Nat) (r : Int), 0 ≤ r → r + m = R → (∀ l3, Vv (d + 1) mX9_improve 61 [.ref 0, .int (iI k), .int (iI j), l3] [] (aF σ 15 (imN (bl9 lf rg) n R (gF σ 15) (j + 1))) (QI P)) → Vv (d + 1) mX9_improve 22 [.ref 0, .int (iI k), .int (iI j), .int (iI r)] [] (aF σ 15 (im1 (bl9 lf rg) n (imN (bl9 lf rg) n R (gF σ 15) j) r.toNat)) (QI P) := by
    intro j m
    induction m with
    | zero =>
      intro r hr hm hend
      refine v_iload_n dX9_improve_22 rfl ?_
      refine v_aload_n dX9_improve_23 rfl ?_
      refine v_getR (k1 := 1) dX9_improve_24 s_0 fX9_14 rfl ?_
      refine v_getI (ji := 1) dX9_improve_27 s_1 fX9_93 rfl ?_
      rw [gI_aF, c.2.1]
      refine v_icmp_ge (tgt := 61) dX9_improve_30 (by decide) (by omega) (fun q30 => ?_) (fun q30 => absurd q30 (by omega))
      have h := hend (.int (iI r))
      rw [imN, show R.toNat = r.toNat by omega] at h
      exact h
    | succ m ih =>
      intro r hr hm hend
      have ih := ih (r + 1) (by omega) (by omega) hend
      have ok1 := im1_ok (bl := bl9 lf rg) (n := n) (ok j) (by omega) r.toNat (fun s x a b => hb s x a (by omega))
      rw [show (r + 1).toNat = r.toNat + 1 by omega, im1, show ((r.toNat : Nat) : Int) = r by omega] at ih
      refine v_iload_n dX9_improve_22 rfl ?_
      refine v_aload_n dX9_improve_23 rfl ?_
      refine v_getR (k1 := 1) dX9_improve_24 s_0 fX9_14 rfl ?_
      refine v_getI (ji := 1) dX9_improve_27 s_1 fX9_93 rfl ?_
      rw [gI_aF, c.2.1]
      refine v_icmp_ge (tgt := 61) dX9_improve_30 (by decide) (by omega) (fun q30 => absurd q30 (by omega)) (fun q30 => ?_)
      refine v_aload_n dX9_improve_33 rfl ?_
      refine v_getR (k1 := 1) dX9_improve_34 s_0 fX9_14 rfl ?_
      refine v_iload_n dX9_improve_37 rfl ?_
      refine v_callVf1 dX9_improve_38 kX9_225 s_1 (Nat.le_of_ble_eq_true rfl) (c_X5_marginOf (lf := lf) (rg := rg) (R := R) hn (by omega) (by rw [gI_aF]; exact c.1) (fun x a b => by rw [gI_aF]; exact c.b (by omega) (by omega)) (fun a ha => ?_))
      refine v_ldcf dX9_improve_41 wX9_229 ?_
      have hc := al32_cmp ha 1056964608
      rw [gF_aF_eq] at hc
      refine v_fcmp_ge (tgt := 55) dX9_improve_43 dX9_improve_44 (by decide) (fun q43 => ?_) (fun q43 => ?_)
      · refine v_iinc (lv' := [_, _, _, _]) dX9_improve_55 rfl (Nat.le_of_ble_eq_true rfl) rfl rfl ?_
        refine v_goto (tgt := 22) dX9_improve_58 (by decide) ?_
        rw [hc] at q43
        first
        | (rw [if_neg (cvg.mp q43)] at ih; exact ih)
        | (rw [if_pos (Classical.byContradiction (fun z => q43 (cvg.mpr z)))] at ih; exact ih)
      · refine v_aload_n dX9_improve_47 rfl ?_
        refine v_getR (k1 := 1) dX9_improve_48 s_0 fX9_14 rfl ?_
        refine v_iload_n dX9_improve_51 rfl ?_
        refine v_callVv1 dX9_improve_52 kX9_230 s_1 (Nat.le_of_ble_eq_true rfl) (c_X5_widenMargin (lf := lf) (rg := rg) (R := R) hn (by omega) (by rw [gI_aF]; exact c.1) (fun x a b => by rw [gI_aF]; exact c.b (by omega) (by omega)) (fun x => hb r x hr (by omega)) (fun x a b => by rw [gF_aF_eq]; exact ok1 x a b) ?_)
        rw [gF_aF_eq, aF_aF]
        refine v_iinc (lv' := [_, _, _, _]) dX9_improve_55 rfl (Nat.le_of_ble_eq_true rfl) rfl rfl ?_
        refine v_goto (tgt := 22) dX9_improve_58 (by decide) ?_
        rw [hc] at q43
        first
        | (rw [if_neg (cvg.mp q43)] at ih; exact ih)
        | (rw [if_pos (Classical.byContradiction (fun z => q43 (cvg.mpr z)))] at ih; exact ih)
  have K1 : (1 ≤ k ∧ k ≤ 100) → ∀ (m : Nat) (j : Nat), (j : Int) + m = k → ∀ l3, Vv (d + 1) mX9_improve 15 [.ref 0, .int (iI k), .int (iI j), l3] [] (aF σ 15 (imN (bl9 lf rg) n R (gF σ 15) j)) (QI P) := by
    intro hk2 m
    induction m with
    | zero =>
      intro j hj l3
      refine v_iload_n dX9_improve_15 rfl ?_
      refine v_iload_n dX9_improve_16 rfl ?_
      refine v_icmp_ge (tgt := 67) dX9_improve_17 (by decide) (by omega) (fun q17 => ?_) (fun q17 => absurd q17 (by omega))
      refine v_iconst dX9_improve_67 ?_
      refine v_istore_n (lv' := [_, _, _, _]) dX9_improve_68 (Nat.le_of_ble_eq_true rfl) rfl rfl ?_
      refine v_iconst dX9_improve_69 ?_
      refine v_istore_n (lv' := [_, _, _, _]) dX9_improve_70 (Nat.le_of_ble_eq_true rfl) rfl rfl ?_
      have h := K3 _ hk2 rfl R.toNat 0 (by omega) (by omega)
      rw [show k.toNat = j by omega] at h
      exact h
    | succ m ih =>
      intro j hj l3
      refine v_iload_n dX9_improve_15 rfl ?_
      refine v_iload_n dX9_improve_16 rfl ?_
      refine v_icmp_ge (tgt := 67) dX9_improve_17 (by decide) (by omega) (fun q17 => absurd q17 (by omega)) (fun q17 => ?_)
      refine v_iconst dX9_improve_20 ?_
      refine v_istore_n (lv' := [_, _, _, _]) dX9_improve_21 (Nat.le_of_ble_eq_true rfl) rfl rfl ?_
      refine K2 j R.toNat 0 (by omega) (by omega) (fun l3 => ?_)
      refine v_iinc (lv' := [_, _, _, _]) dX9_improve_61 rfl (Nat.le_of_ble_eq_true rfl) rfl rfl ?_
      refine v_goto (tgt := 15) dX9_improve_64 (by decide) ?_
      exact ih (j + 1) (by omega) l3
  refine v_iload_n dX9_improve_0 rfl ?_
  refine v_iconst dX9_improve_1 ?_
  refine v_icmp_lt (tgt := 11) dX9_improve_2 (by decide) (by omega) (fun q2 => ?_) (fun q2 => ?_)
  · refine v_iconst dX9_improve_11 ?_
    exact v_ireturn dX9_improve_12 rfl (h1 (by omega))
  · refine v_iload_n dX9_improve_5 rfl ?_
    refine v_bipush dX9_improve_6 (by decide) ?_
    refine v_icmp_le (tgt := 13) dX9_improve_8 (by decide) (by omega) (fun q8 => ?_) (fun q8 => ?_)
    · refine v_iconst dX9_improve_13 ?_
      refine v_istore_n (lv' := [_, _, _, _]) dX9_improve_14 (Nat.le_of_ble_eq_true rfl) rfl rfl ?_
      have h := K1 (by omega) k.toNat 0 (by omega) .null
      rw [imN, aF_id] at h
      exact h
    · refine v_iconst dX9_improve_11 ?_
      exact v_ireturn dX9_improve_12 rfl (h1 (by omega))
theorem i2f_nn {z : Int} (h1 : 0 ≤ z) (h2 : z ≤ 1000000) : isNaN32 (FP.i2f (iI z)) = false ∧ FP.Core.FInt z (FP.i2f (iI z)) := by
  have h := FP.Core.i2f_int (a := iI z) (by rw [iI_toInt (by omega) (by omega)]; omega)
  rw [iI_toInt (by omega) (by omega)] at h
  exact ⟨nn32.mpr ((FP.Core.notNaN_iff32 _).mpr (FP.Core.FInt_ne_nan h)), h⟩
theorem i2f_fin {z : Int} (h1 : 0 ≤ z) (h2 : z ≤ 1000000) : ∃ c q, FP.Core.val32 (FP.i2f (iI z)) = .fin false c q ∧ (c = 0 ↔ z = 0) := by
  have h := (i2f_nn h1 h2).2
  have hs : FP.Core.sgn (FP.Core.val32 (FP.i2f (iI z))) = false := by
    have e : FP.Core.val32 (FP.i2f (iI z)) = FP.Core.round FP.Core.b32 (FP.Core.ofInt (iI z).toInt) := FP.Core.val32_i2f (iI z)
    rw [e, iI_toInt (by omega) (by omega)]
    exact (FP.Core.sgn_roundRatio _ _ _ _ _).trans (decide_eq_false (by omega))
  unfold FP.Core.FInt at h
  cases e : FP.Core.val32 (FP.i2f (iI z)) with
  | nan => rw [e] at h; exact h.elim
  | inf s => rw [e] at h; exact h.elim
  | fin s c q =>
    rw [e] at h hs
    have hs2 : s = false := hs
    subst hs2
    exact ⟨c, q, rfl, FP.Core.whole_zero h⟩
theorem quo9 {a b : Int} (ha : 0 ≤ a ∧ a ≤ 1000000) (hb : 1 ≤ b ∧ b ≤ 1000000) : apOK (FP.fdiv (FP.i2f (iI a)) (FP.i2f (iI b))) := by
  obtain ⟨c, q, e1, z1⟩ := i2f_fin ha.1 ha.2
  obtain ⟨c2, q2, e2, z2⟩ := i2f_fin (z := b) (by omega) hb.2
  have hd : c2 ≠ 0 := fun y => absurd (z2.mp y) (by omega)
  have nn := FP.Core.fdiv_out (a := FP.i2f (iI a)) (b := FP.i2f (iI b)) (nn32.mp (i2f_nn ha.1 ha.2).1) ⟨_, _, _, e2⟩ (fun ⟨s, q3, h⟩ => by rw [e2] at h; injection h with _ h4 _; exact hd h4)
  have hv : FP.Core.val32 (FP.fdiv (FP.i2f (iI a)) (FP.i2f (iI b))) = FP.Core.roundRatio FP.Core.b32 (false != false) c c2 (q - q2) := by
    have e : FP.Core.val32 (FP.fdiv (FP.i2f (iI a)) (FP.i2f (iI b))) = FP.Core.quotient FP.Core.b32 (FP.Core.val32 (FP.i2f (iI a))) (FP.Core.val32 (FP.i2f (iI b))) := FP.Core.val32_fdiv _ _
    rw [e, e1, e2]
    exact if_neg hd
  refine ⟨nn32.mpr nn, fun h => ?_⟩
  have h2 := (FP.Core.fcmp_lt.mp h).2.2
  rw [FP.Core.zval32_zero] at h2
  unfold FP.Core.zval at h2
  rw [hv, FP.Core.sgn_roundRatio] at h2
  have : ∀ m : Nat, ¬ FP.Core.signed (false != false) m < 0 := fun m => by show ¬ ((m : Int) < 0); omega
  exact this _ h2
theorem c_X9_setApproximateWeight {x a b : Int} {P : Int → S9 → Prop} (v : Va n R lf rg wt lev stt ap str) (c : SyC σ 1 n R lf rg wt lev stt ap str) (hx : (-2147483648 ≤ x ∧ x < 2147483648)) (ha : (-2147483648 ≤ a ∧ a < 2147483648)) (hb : (-2147483648 ≤ b ∧ b < 2147483648)) (h1 : ¬ (0 ≤ x ∧ x < n) → P (-2) σ) (h2 : 0 ≤ x ∧ x < n → ¬ ((0 ≤ a ∧ a ≤ 1000000) ∧ 1 ≤ b ∧ b ≤ 1000000) → P (-1) σ) (h3 : 0 ≤ x ∧ x < n → ((0 ≤ a ∧ a ≤ 1000000) ∧ 1 ≤ b ∧ b ≤ 1000000) → P (if FP.fcmp (FP.fdiv (FP.i2f (iI a)) (FP.i2f (iI b))) (gF σ 15 x) = some .eq then 0 else 1) (sF σ 15 x (FP.fdiv (FP.i2f (iI a)) (FP.i2f (iI b))))) : Cc (d + 1) mX9_setApproximateWeight [.ref 0, .int (iI x), .int (iI a), .int (iI b)] σ (QI P) := by
  have hn := v.1
  have hR := v.2.1
  refine Cc_of (by decide +kernel) (fun _ => Nat.le_of_ble_eq_true rfl) rfl (lv := [_, _, _, _, _]) ?_
  refine v_aload_n dX9_setApproximateWeight_0 rfl ?_
  refine v_getR (k1 := 1) dX9_setApproximateWeight_1 s_0 fX9_14 rfl ?_
  refine v_iload_n dX9_setApproximateWeight_4 rfl ?_
  refine v_callVi1 dX9_setApproximateWeight_5 kX9_128 s_1 (Nat.le_of_ble_eq_true rfl) (c_X5_hasLetter c.1 (by omega) hx (fun z => ?_) (fun z => ?_))
  · refine v_if_ne (tgt := 14) dX9_setApproximateWeight_8 (by decide) (by decide) (fun q8 => ?_) (fun q8 => absurd q8 (by decide))
    refine v_iload_n dX9_setApproximateWeight_14 rfl ?_
    refine v_if_lt (tgt := 35) dX9_setApproximateWeight_15 (by decide) (by omega) (fun q15 => ?_) (fun q15 => ?_)
    · refine v_iconst dX9_setApproximateWeight_35 ?_
      exact v_ireturn dX9_setApproximateWeight_36 rfl (h2 z (by omega))
    · refine v_iload_n dX9_setApproximateWeight_18 rfl ?_
      refine v_ldc dX9_setApproximateWeight_19 wX9_233 ?_
      refine v_icmp_gt (tgt := 35) dX9_setApproximateWeight_21 (by decide) (by omega) (fun q21 => ?_) (fun q21 => ?_)
      · refine v_iconst dX9_setApproximateWeight_35 ?_
        exact v_ireturn dX9_setApproximateWeight_36 rfl (h2 z (by omega))
      · refine v_iload_n dX9_setApproximateWeight_24 rfl ?_
        refine v_iconst dX9_setApproximateWeight_25 ?_
        refine v_icmp_lt (tgt := 35) dX9_setApproximateWeight_26 (by decide) (by omega) (fun q26 => ?_) (fun q26 => ?_)
        · refine v_iconst dX9_setApproximateWeight_35 ?_
          exact v_ireturn dX9_setApproximateWeight_36 rfl (h2 z (by omega))
        · refine v_iload_n dX9_setApproximateWeight_29 rfl ?_
          refine v_ldc dX9_setApproximateWeight_30 wX9_233 ?_
          refine v_icmp_le (tgt := 37) dX9_setApproximateWeight_32 (by decide) (by omega) (fun q32 => ?_) (fun q32 => ?_)
          · refine v_aload_n dX9_setApproximateWeight_37 rfl ?_
            refine v_getR (k1 := 1) dX9_setApproximateWeight_38 s_0 fX9_14 rfl ?_
            refine v_getR (k1 := 15) dX9_setApproximateWeight_41 s_1 fX9_234 rfl ?_
            refine v_iload_n dX9_setApproximateWeight_44 rfl ?_
            refine v_faload dX9_setApproximateWeight_45 s_15 (by omega) ?_
            refine v_fstore (lv' := [_, _, _, _, _]) dX9_setApproximateWeight_46 (Nat.le_of_ble_eq_true rfl) rfl rfl ?_
            refine v_aload_n dX9_setApproximateWeight_48 rfl ?_
            refine v_getR (k1 := 1) dX9_setApproximateWeight_49 s_0 fX9_14 rfl ?_
            refine v_getR (k1 := 15) dX9_setApproximateWeight_52 s_1 fX9_234 rfl ?_
            refine v_iload_n dX9_setApproximateWeight_55 rfl ?_
            refine v_iload_n dX9_setApproximateWeight_56 rfl ?_
            refine v_i2f dX9_setApproximateWeight_57 ?_
            refine v_iload_n dX9_setApproximateWeight_58 rfl ?_
            refine v_i2f dX9_setApproximateWeight_59 ?_
            refine v_fdiv dX9_setApproximateWeight_60 (fun r60 hr60 => ?_)
            have e60 := al32 hr60 (quo9 (by omega) (by omega)).1
            subst e60
            refine v_fastore dX9_setApproximateWeight_61 s_15 (by omega) ?_
            refine v_aload_n dX9_setApproximateWeight_62 rfl ?_
            refine v_getR (k1 := 1) dX9_setApproximateWeight_63 s_0 fX9_14 rfl ?_
            refine v_getR (k1 := 15) dX9_setApproximateWeight_66 s_1 fX9_234 rfl ?_
            refine v_iload_n dX9_setApproximateWeight_69 rfl ?_
            refine v_faload dX9_setApproximateWeight_70 s_15 (by omega) ?_
            refine v_fload dX9_setApproximateWeight_71 rfl ?_
            rw [gF_aF_eq, up9_eq]
            refine v_fcmp_eq (tgt := 81) dX9_setApproximateWeight_73 dX9_setApproximateWeight_74 (by decide) (fun q73 => ?_) (fun q73 => ?_)
            · refine v_iconst dX9_setApproximateWeight_81 ?_
              exact v_ireturn dX9_setApproximateWeight_82 rfl (by have h := h3 z (by omega); first | (rw [if_pos (cv0.mp q73)] at h; exact h) | (rw [if_neg (fun y => q73 (cv0.mpr y))] at h; exact h))
            · refine v_iconst dX9_setApproximateWeight_77 ?_
              refine v_goto (tgt := 82) dX9_setApproximateWeight_78 (by decide) ?_
              exact v_ireturn dX9_setApproximateWeight_82 rfl (by have h := h3 z (by omega); first | (rw [if_pos (cv0.mp q73)] at h; exact h) | (rw [if_neg (fun y => q73 (cv0.mpr y))] at h; exact h))
          · refine v_iconst dX9_setApproximateWeight_35 ?_
            exact v_ireturn dX9_setApproximateWeight_36 rfl (h2 z (by omega))
  · refine v_if_ne (tgt := 14) dX9_setApproximateWeight_8 (by decide) (by decide) (fun q8 => absurd q8 (by decide)) (fun q8 => ?_)
    refine v_bipush dX9_setApproximateWeight_11 (by decide) ?_
    exact v_ireturn dX9_setApproximateWeight_13 rfl (h1 z)
/-- millionths of a float -/
def ml9 (a : UInt32) : Int := (FP.d2l (FP.dmul (FP.f2d a) 4696837146684686336)).toInt
theorem ml9_al {a b : UInt32} (h : alike32 a b = true) : ml9 a = ml9 b := by
  unfold ml9
  rw [al64_d2l (al64_mul (al_f2d h))]
theorem c_X9_millionths {a : UInt32} {P : Int → S9 → Prop} (h : P (ml9 a) σ) : Cc d mX9_millionths [.float a] σ (QL P) := by
  refine Cc_of (by decide +kernel) (fun _ => Nat.le_of_ble_eq_true rfl) rfl (lv := [_]) ?_
  refine v_fload_n dX9_millionths_0 rfl ?_
  refine v_f2d dX9_millionths_1 (fun r1 hr1 => ?_)
  refine v_ldc2d dX9_millionths_2 wX9_304 ?_
  refine v_dmul dX9_millionths_5 (fun r5 hr5 => ?_)
  refine v_d2l dX9_millionths_6 ((show _ = lI (ml9 a) by unfold ml9; rw [lI_of]; exact al64_d2l (al64_tr hr5 (al64_mul hr1)))) ?_
  exact v_lreturn dX9_millionths_7 rfl (h)
theorem c_X9_approximateWeight {x : Int} {P : Int → S9 → Prop} (v : Va n R lf rg wt lev stt ap str) (c : SyC σ 1 n R lf rg wt lev stt ap str) (hx : (-2147483648 ≤ x ∧ x < 2147483648)) (h1 : ¬ (0 ≤ x ∧ x < n) → P (-9223372036854775808) σ) (h2 : 0 ≤ x ∧ x < n → P (ml9 (gF σ 15 x)) σ) : Cc (d + 1) mX9_approximateWeight [.ref 0, .int (iI x)] σ (QL P) := by
  have hn := v.1
  have hR := v.2.1
  refine Cc_of (by decide +kernel) (fun _ => Nat.le_of_ble_eq_true rfl) rfl (lv := [_, _]) ?_
  refine v_aload_n dX9_approximateWeight_0 rfl ?_
  refine v_getR (k1 := 1) dX9_approximateWeight_1 s_0 fX9_14 rfl ?_
  refine v_iload_n dX9_approximateWeight_4 rfl ?_
  refine v_callVi1 dX9_approximateWeight_5 kX9_128 s_1 (Nat.le_of_ble_eq_true rfl) (c_X5_hasLetter c.1 (by omega) hx (fun z => ?_) (fun z => ?_))
  · refine v_if_eq (tgt := 26) dX9_approximateWeight_8 (by decide) (by decide) (fun q8 => absurd q8 (by decide)) (fun q8 => ?_)
    refine v_aload_n dX9_approximateWeight_11 rfl ?_
    refine v_getR (k1 := 1) dX9_approximateWeight_12 s_0 fX9_14 rfl ?_
    refine v_getR (k1 := 15) dX9_approximateWeight_15 s_1 fX9_234 rfl ?_
    refine v_iload_n dX9_approximateWeight_18 rfl ?_
    refine v_faload dX9_approximateWeight_19 s_15 (by omega) ?_
    refine v_callSl1 dX9_approximateWeight_20 kX9_238 (Nat.le_of_ble_eq_true rfl) (c_X9_millionths ?_)
    refine v_goto (tgt := 29) dX9_approximateWeight_23 (by decide) ?_
    exact v_lreturn dX9_approximateWeight_29 rfl (by first | exact h2 z | exact h1 z)
  · refine v_if_eq (tgt := 26) dX9_approximateWeight_8 (by decide) (by decide) (fun q8 => ?_) (fun q8 => absurd q8 (by decide))
    refine v_ldc2 dX9_approximateWeight_26 wX9_242 ?_
    exact v_lreturn dX9_approximateWeight_29 rfl (by first | exact h2 z | exact h1 z)
theorem c_X9_margin {r : Int} {P : Int → S9 → Prop} (v : Va n R lf rg wt lev stt ap str) (c : SyC σ 1 n R lf rg wt lev stt ap str) (hr : (-2147483648 ≤ r ∧ r < 2147483648)) (h1 : ¬ (0 ≤ r ∧ r < R) → P (-9223372036854775808) σ) (h2 : 0 ≤ r ∧ r < R → P (ml9 (mg9 (bl9 lf rg r) (gF σ 15) n.toNat)) σ) : Cc (d + 1) mX9_margin [.ref 0, .int (iI r)] σ (QL P) := by
  have hn := v.1
  have hR := v.2.1
  refine Cc_of (by decide +kernel) (fun _ => Nat.le_of_ble_eq_true rfl) rfl (lv := [_, _]) ?_
  refine v_aload_n dX9_margin_0 rfl ?_
  refine v_getR (k1 := 1) dX9_margin_1 s_0 fX9_14 rfl ?_
  refine v_iload_n dX9_margin_4 rfl ?_
  refine v_callVi1 dX9_margin_5 kX9_110 s_1 (Nat.le_of_ble_eq_true rfl) (c_X5_hasRule c.2.1 (by omega) hr (fun z => ?_) (fun z => ?_))
  · refine v_if_eq (tgt := 25) dX9_margin_8 (by decide) (by decide) (fun q8 => absurd q8 (by decide)) (fun q8 => ?_)
    refine v_aload_n dX9_margin_11 rfl ?_
    refine v_getR (k1 := 1) dX9_margin_12 s_0 fX9_14 rfl ?_
    refine v_iload_n dX9_margin_15 rfl ?_
    refine v_callVf1 dX9_margin_16 kX9_225 s_1 (Nat.le_of_ble_eq_true rfl) (c_X5_marginOf (lf := lf) (rg := rg) (R := R) hn (by omega) c.1 (fun x a b => c.b (by omega) (by omega)) (fun a ha => ?_))
    refine v_callSl1 dX9_margin_19 kX9_238 (Nat.le_of_ble_eq_true rfl) (c_X9_millionths ?_)
    refine v_goto (tgt := 28) dX9_margin_22 (by decide) ?_
    exact v_lreturn dX9_margin_28 rfl (by first | (rw [ml9_al ha]; exact h2 z) | exact h1 z)
  · refine v_if_eq (tgt := 25) dX9_margin_8 (by decide) (by decide) (fun q8 => ?_) (fun q8 => absurd q8 (by decide))
    refine v_ldc2 dX9_margin_25 wX9_242 ?_
    exact v_lreturn dX9_margin_28 rfl (by first | (rw [ml9_al ha]; exact h2 z) | exact h1 z)
end
