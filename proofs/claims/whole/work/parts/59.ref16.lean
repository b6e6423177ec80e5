section
variable {d : Nat} {n R : Int} {lf rg : Int → List Int} {wt lev : Int → Int} {stt : Int} {ap : Int → UInt32} {str : List Int} {σ : S9}
theorem SyM.apk (c : SyMn σ n R lf rg wt lev stt ap str) (v : Va n R lf rg wt lev stt ap str) : ∀ x, 0 ≤ x → x < 6 → apOK (gF σ 102 x) := fun x a b => by rw [c.a9 ⟨a, b⟩]; exact (v.2.2.2.1 x a (by omega)).2.2
theorem c_X10_marginOf {r : Int} {P : UInt32 → S9 → Prop} (v : Va n R lf rg wt lev stt ap str) (c : SyMn σ n R lf rg wt lev stt ap str) (hr : 0 ≤ r ∧ r < R) (h : ∀ a, alike32 a (mg9 (bl9 lf rg r) (gF σ 102) n.toNat) = true → P a σ) : Cc (d + 2) mX10_marginOf [.ref 97, .int (iI r)] σ (QF P) := by
  have hn := v.1
  have hR := v.2.1
  refine Cc_of (by decide +kernel) (fun _ => Nat.le_of_ble_eq_true rfl) rfl (lv := [_, _, _, _]) ?_
  have K : ∀ (m : Nat) (x : Int) (s : UInt32), 0 ≤ x → x + m = n → alike32 s (mg9 (bl9 lf rg r) (gF σ 102) x.toNat) = true → Vv (d + 2) mX10_marginOf 4 [.ref 97, .int (iI r), .float s, .int (iI x)] [] σ (QF P) := by
    intro m
    induction m with
    | zero =>
      intro x s hx hm hs
      refine v_iload_n dX10_marginOf_4 rfl ?_
      refine v_aload_n dX10_marginOf_5 rfl ?_
      refine v_getI (ji := 0) dX10_marginOf_6 s_97 fX10_9 rfl ?_
      rw [c.1]
      refine v_icmp_ge (tgt := 35) dX10_marginOf_9 (by decide) (by omega) (fun q9 => ?_) (fun q9 => absurd q9 (by omega))
      refine v_fload_n dX10_marginOf_35 rfl ?_
      exact v_freturn dX10_marginOf_36 rfl (h s (by rw [show n.toNat = x.toNat by omega]; exact hs))
    | succ m ih =>
      intro x s hx hm hs
      refine v_iload_n dX10_marginOf_4 rfl ?_
      refine v_aload_n dX10_marginOf_5 rfl ?_
      refine v_getI (ji := 0) dX10_marginOf_6 s_97 fX10_9 rfl ?_
      rw [c.1]
      refine v_icmp_ge (tgt := 35) dX10_marginOf_9 (by decide) (by omega) (fun q9 => absurd q9 (by omega)) (fun q9 => ?_)
      refine v_fload_n dX10_marginOf_12 rfl ?_
      refine v_aload_n dX10_marginOf_13 rfl ?_
      refine v_iload_n dX10_marginOf_14 rfl ?_
      refine v_iload_n dX10_marginOf_15 rfl ?_
      refine v_callVi2 dX10_marginOf_16 kX10_159 s_97 (Nat.le_of_ble_eq_true rfl) (c_X10_balanceOf v c hr (by omega) ?_)
      refine v_i2f dX10_marginOf_19 ?_
      refine v_aload_n dX10_marginOf_20 rfl ?_
      refine v_getR (k1 := 102) dX10_marginOf_21 s_97 fX10_28 rfl ?_
      refine v_iload_n dX10_marginOf_24 rfl ?_
      refine v_faload dX10_marginOf_25 s_102 (by omega) ?_
      refine v_fmul dX10_marginOf_26 (fun r26 hr26 => ?_)
      refine v_fadd dX10_marginOf_27 (fun r27 hr27 => ?_)
      refine v_fstore_n (lv' := [_, _, _, _]) dX10_marginOf_28 (Nat.le_of_ble_eq_true rfl) rfl rfl ?_
      refine v_iinc (lv' := [_, _, _, _]) dX10_marginOf_29 rfl (Nat.le_of_ble_eq_true rfl) rfl rfl ?_
      refine v_goto (tgt := 4) dX10_marginOf_32 (by decide) ?_
      refine ih (x + 1) _ (by omega) (by omega) ?_
      rw [show (x + 1).toNat = x.toNat + 1 by omega, mg9, show ((x.toNat : Nat) : Int) = x by omega]
      exact al32_tr hr27 (al32_add hs hr26)
  refine v_fconst0 dX10_marginOf_0 ?_
  refine v_fstore_n (lv' := [_, _, _, _]) dX10_marginOf_1 (Nat.le_of_ble_eq_true rfl) rfl rfl ?_
  refine v_iconst dX10_marginOf_2 ?_
  refine v_istore_n (lv' := [_, _, _, _]) dX10_marginOf_3 (Nat.le_of_ble_eq_true rfl) rfl rfl ?_
  exact K n.toNat 0 _ (by omega) (by omega) (alike32_refl _)
theorem c_X10_setApproximateWeight {x a b : Int} {P : Int → S9 → Prop} (v : Va n R lf rg wt lev stt ap str) (c : SyMn σ n R lf rg wt lev stt ap str) (hx : (-2147483648 ≤ x ∧ x < 2147483648)) (ha : (-2147483648 ≤ a ∧ a < 2147483648)) (hb : (-2147483648 ≤ b ∧ b < 2147483648)) (h1 : ¬ (0 ≤ x ∧ x < n) → P (-2) σ) (h2 : 0 ≤ x ∧ x < n → ¬ ((0 ≤ a ∧ a ≤ 1000000) ∧ 1 ≤ b ∧ b ≤ 1000000) → P (-1) σ) (h3 : 0 ≤ x ∧ x < n → ((0 ≤ a ∧ a ≤ 1000000) ∧ 1 ≤ b ∧ b ≤ 1000000) → P (if FP.fcmp (FP.fdiv (FP.i2f (iI a)) (FP.i2f (iI b))) (gF σ 102 x) = some .eq then 0 else 1) (sF σ 102 x (FP.fdiv (FP.i2f (iI a)) (FP.i2f (iI b))))) : Cc (d + 2) mX10_setApproximateWeight [.ref 97, .int (iI x), .int (iI a), .int (iI b)] σ (QI P) := by
  have hn := v.1
  have hR := v.2.1
  refine Cc_of (by decide +kernel) (fun _ => Nat.le_of_ble_eq_true rfl) rfl (lv := [_, _, _, _, _, _]) ?_
  refine v_aload_n dX10_setApproximateWeight_0 rfl ?_
  refine v_iload_n dX10_setApproximateWeight_1 rfl ?_
  refine v_callVi1 dX10_setApproximateWeight_2 kX10_140 s_97 (Nat.le_of_ble_eq_true rfl) (c_X10_isLetter c.1 (by omega) hx (fun z => ?_) (fun z => ?_))
  · refine v_if_ne (tgt := 11) dX10_setApproximateWeight_5 (by decide) (by decide) (fun q5 => ?_) (fun q5 => absurd q5 (by decide))
    refine v_iload_n dX10_setApproximateWeight_11 rfl ?_
    refine v_i2l dX10_setApproximateWeight_12 (by omega) ?_
    refine v_lconst0 dX10_setApproximateWeight_13 ?_
    refine v_ldc2 dX10_setApproximateWeight_14 wX10_259 ?_
    refine v_callSi3 dX10_setApproximateWeight_17 kX10_115 (Nat.le_of_ble_eq_true rfl) (c_X10_in (by omega) (by omega) (by omega) (fun y => ?_) (fun y => ?_))
    · refine v_if_eq (tgt := 35) dX10_setApproximateWeight_20 (by decide) (by decide) (fun q20 => absurd q20 (by decide)) (fun q20 => ?_)
      refine v_iload_n dX10_setApproximateWeight_23 rfl ?_
      refine v_i2l dX10_setApproximateWeight_24 (by omega) ?_
      refine v_lconst1 dX10_setApproximateWeight_25 ?_
      refine v_ldc2 dX10_setApproximateWeight_26 wX10_259 ?_
      refine v_callSi3 dX10_setApproximateWeight_29 kX10_115 (Nat.le_of_ble_eq_true rfl) (c_X10_in (by omega) (by omega) (by omega) (fun w => ?_) (fun w => ?_))
      · refine v_if_ne (tgt := 37) dX10_setApproximateWeight_32 (by decide) (by decide) (fun q32 => ?_) (fun q32 => absurd q32 (by decide))
        refine v_iload_n dX10_setApproximateWeight_37 rfl ?_
        refine v_i2f dX10_setApproximateWeight_38 ?_
        refine v_iload_n dX10_setApproximateWeight_39 rfl ?_
        refine v_i2f dX10_setApproximateWeight_40 ?_
        refine v_fdiv dX10_setApproximateWeight_41 (fun r41 hr41 => ?_)
        have e41 := al32 hr41 (quo9 (by omega) (by omega)).1
        subst e41
        refine v_fstore (lv' := [_, _, _, _, _, _]) dX10_setApproximateWeight_42 (Nat.le_of_ble_eq_true rfl) rfl rfl ?_
        refine v_fload dX10_setApproximateWeight_44 rfl ?_
        refine v_aload_n dX10_setApproximateWeight_46 rfl ?_
        refine v_getR (k1 := 102) dX10_setApproximateWeight_47 s_97 fX10_28 rfl ?_
        refine v_iload_n dX10_setApproximateWeight_50 rfl ?_
        refine v_faload dX10_setApproximateWeight_51 s_102 (by omega) ?_
        refine v_fcmp_eq (tgt := 60) dX10_setApproximateWeight_52 dX10_setApproximateWeight_53 (by decide) (fun q52 => ?_) (fun q52 => ?_)
        · refine v_iconst dX10_setApproximateWeight_60 ?_
          refine v_istore (lv' := [_, _, _, _, _, _]) dX10_setApproximateWeight_61 (Nat.le_of_ble_eq_true rfl) rfl rfl ?_
          refine v_aload_n dX10_setApproximateWeight_63 rfl ?_
          refine v_getR (k1 := 102) dX10_setApproximateWeight_64 s_97 fX10_28 rfl ?_
          refine v_iload_n dX10_setApproximateWeight_67 rfl ?_
          refine v_fload dX10_setApproximateWeight_68 rfl ?_
          refine v_fastore dX10_setApproximateWeight_70 s_102 (by omega) ?_
          refine v_iload dX10_setApproximateWeight_71 rfl ?_
          exact v_ireturn dX10_setApproximateWeight_73 rfl (by have h := h3 z (by omega); first | (rw [if_pos (cv0.mp q52)] at h; exact h) | (rw [if_neg (fun y => q52 (cv0.mpr y))] at h; exact h))
        · refine v_iconst dX10_setApproximateWeight_56 ?_
          refine v_goto (tgt := 61) dX10_setApproximateWeight_57 (by decide) ?_
          refine v_istore (lv' := [_, _, _, _, _, _]) dX10_setApproximateWeight_61 (Nat.le_of_ble_eq_true rfl) rfl rfl ?_
          refine v_aload_n dX10_setApproximateWeight_63 rfl ?_
          refine v_getR (k1 := 102) dX10_setApproximateWeight_64 s_97 fX10_28 rfl ?_
          refine v_iload_n dX10_setApproximateWeight_67 rfl ?_
          refine v_fload dX10_setApproximateWeight_68 rfl ?_
          refine v_fastore dX10_setApproximateWeight_70 s_102 (by omega) ?_
          refine v_iload dX10_setApproximateWeight_71 rfl ?_
          exact v_ireturn dX10_setApproximateWeight_73 rfl (by have h := h3 z (by omega); first | (rw [if_pos (cv0.mp q52)] at h; exact h) | (rw [if_neg (fun y => q52 (cv0.mpr y))] at h; exact h))
      · refine v_if_ne (tgt := 37) dX10_setApproximateWeight_32 (by decide) (by decide) (fun q32 => absurd q32 (by decide)) (fun q32 => ?_)
        refine v_iconst dX10_setApproximateWeight_35 ?_
        exact v_ireturn dX10_setApproximateWeight_36 rfl (h2 z (by omega))
    · refine v_if_eq (tgt := 35) dX10_setApproximateWeight_20 (by decide) (by decide) (fun q20 => ?_) (fun q20 => absurd q20 (by decide))
      refine v_iconst dX10_setApproximateWeight_35 ?_
      exact v_ireturn dX10_setApproximateWeight_36 rfl (h2 z (by omega))
  · refine v_if_ne (tgt := 11) dX10_setApproximateWeight_5 (by decide) (by decide) (fun q5 => absurd q5 (by decide)) (fun q5 => ?_)
    refine v_bipush dX10_setApproximateWeight_8 (by decide) ?_
    exact v_ireturn dX10_setApproximateWeight_10 rfl (h1 z)
theorem c_X10_approximateWeight {x : Int} {P : Int → S9 → Prop} (v : Va n R lf rg wt lev stt ap str) (c : SyMn σ n R lf rg wt lev stt ap str) (hx : (-2147483648 ≤ x ∧ x < 2147483648)) (h1 : ¬ (0 ≤ x ∧ x < n) → P (-9223372036854775808) σ) (h2 : 0 ≤ x ∧ x < n → P (ml9 (gF σ 102 x)) σ) : Cc (d + 2) mX10_approximateWeight [.ref 97, .int (iI x)] σ (QL P) := by
  have hn := v.1
  have hR := v.2.1
  refine Cc_of (by decide +kernel) (fun _ => Nat.le_of_ble_eq_true rfl) rfl (lv := [_, _]) ?_
  refine v_aload_n dX10_approximateWeight_0 rfl ?_
  refine v_iload_n dX10_approximateWeight_1 rfl ?_
  refine v_callVi1 dX10_approximateWeight_2 kX10_140 s_97 (Nat.le_of_ble_eq_true rfl) (c_X10_isLetter c.1 (by omega) hx (fun z => ?_) (fun z => ?_))
  · refine v_if_eq (tgt := 23) dX10_approximateWeight_5 (by decide) (by decide) (fun q5 => absurd q5 (by decide)) (fun q5 => ?_)
    refine v_aload_n dX10_approximateWeight_8 rfl ?_
    refine v_getR (k1 := 102) dX10_approximateWeight_9 s_97 fX10_28 rfl ?_
    refine v_iload_n dX10_approximateWeight_12 rfl ?_
    refine v_faload dX10_approximateWeight_13 s_102 (by omega) ?_
    refine v_f2d dX10_approximateWeight_14 (fun r14 hr14 => ?_)
    refine v_ldc2d dX10_approximateWeight_15 wX10_261 ?_
    refine v_dmul dX10_approximateWeight_18 (fun r18 hr18 => ?_)
    refine v_d2l dX10_approximateWeight_19 ((show _ = lI (ml9 (gF σ 102 x)) by unfold ml9; rw [lI_of]; exact al64_d2l (al64_tr hr18 (al64_mul hr14)))) ?_
    refine v_goto (tgt := 26) dX10_approximateWeight_20 (by decide) ?_
    exact v_lreturn dX10_approximateWeight_26 rfl (by first | exact h2 z | exact h1 z)
  · refine v_if_eq (tgt := 23) dX10_approximateWeight_5 (by decide) (by decide) (fun q5 => ?_) (fun q5 => absurd q5 (by decide))
    refine v_ldc2 dX10_approximateWeight_23 wX10_263 ?_
    exact v_lreturn dX10_approximateWeight_26 rfl (by first | exact h2 z | exact h1 z)
theorem c_X10_margin {r : Int} {P : Int → S9 → Prop} (v : Va n R lf rg wt lev stt ap str) (c : SyMn σ n R lf rg wt lev stt ap str) (hr : (-2147483648 ≤ r ∧ r < 2147483648)) (h1 : ¬ (0 ≤ r ∧ r < R) → P (-9223372036854775808) σ) (h2 : 0 ≤ r ∧ r < R → P (ml9 (mg9 (bl9 lf rg r) (gF σ 102) n.toNat)) σ) : Cc (d + 3) mX10_margin [.ref 97, .int (iI r)] σ (QL P) := by
  have hn := v.1
  have hR := v.2.1
  refine Cc_of (by decide +kernel) (fun _ => Nat.le_of_ble_eq_true rfl) rfl (lv := [_, _]) ?_
  refine v_aload_n dX10_margin_0 rfl ?_
  refine v_iload_n dX10_margin_1 rfl ?_
  refine v_callVi1 dX10_margin_2 kX10_152 s_97 (Nat.le_of_ble_eq_true rfl) (c_X10_isRule c.2.1 (by omega) hr (fun z => ?_) (fun z => ?_))
  · refine v_if_eq (tgt := 22) dX10_margin_5 (by decide) (by decide) (fun q5 => absurd q5 (by decide)) (fun q5 => ?_)
    refine v_aload_n dX10_margin_8 rfl ?_
    refine v_iload_n dX10_margin_9 rfl ?_
    refine v_callVf1 dX10_margin_10 kX10_253 s_97 (Nat.le_of_ble_eq_true rfl) (c_X10_marginOf v c z (fun a ha => ?_))
    refine v_f2d dX10_margin_13 (fun r13 hr13 => ?_)
    refine v_ldc2d dX10_margin_14 wX10_261 ?_
    refine v_dmul dX10_margin_17 (fun r17 hr17 => ?_)
    refine v_d2l dX10_margin_18 ((show _ = lI (ml9 a) by unfold ml9; rw [lI_of]; exact al64_d2l (al64_tr hr17 (al64_mul hr13)))) ?_
    refine v_goto (tgt := 25) dX10_margin_19 (by decide) ?_
    exact v_lreturn dX10_margin_25 rfl (by first | (rw [ml9_al ha]; exact h2 z) | exact h1 z)
  · refine v_if_eq (tgt := 22) dX10_margin_5 (by decide) (by decide) (fun q5 => ?_) (fun q5 => absurd q5 (by decide))
    refine v_ldc2 dX10_margin_22 wX10_263 ?_
    exact v_lreturn dX10_margin_25 rfl (by first | (rw [ml9_al ha]; exact h2 z) | exact h1 z)
end
