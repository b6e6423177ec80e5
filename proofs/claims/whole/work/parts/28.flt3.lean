theorem idiv9 {a b : Int} (ha : 0 ≤ a ∧ a < 2147483648) (hb : 0 < b ∧ b < 2147483648) : iI a / iI b = iI (a / b) := by
  refine Int32.toInt.inj ?_
  have h1 : 0 ≤ a / b := Int.ediv_nonneg ha.1 (by omega)
  have h2 : a / b ≤ a := Int.ediv_le_self _ ha.1
  rw [Int32.toInt_div, iI_toInt (by omega) (by omega), iI_toInt (by omega) (by omega), iI_toInt (by omega) (by omega), Int.tdiv_eq_ediv_of_nonneg ha.1, Int.bmod_eq_of_le (by omega) (by omega)]
theorem irem9 {a b : Int} (ha : 0 ≤ a ∧ a < 2147483648) (hb : 0 < b ∧ b < 2147483648) : iI a - iI a / iI b * iI b = iI (a % b) := by
  rw [idiv9 ha hb, ← iI_mul, ← iI_sub, Int.emod_def, Int.mul_comm]
theorem ine9 {b : Int} (hb : 0 < b ∧ b < 2147483648) : ¬ iI b = 0 := fun h => by
  have h2 : iI b = iI 0 := h
  rw [iI_eq (by omega)] at h2
  omega
/-- a weight, rounded as the class does -/
def rw9 (v : UInt64) : Int := if FP.dcmp v 4636666922610458624 = some .gt ∨ FP.dcmp v 4636666922610458624 = some .eq then 99 else (if FP.dcmp (FP.dsub v (FP.i2d (FP.d2i v))) 4602678819172646912 = some .gt ∨ (FP.dcmp (FP.dsub v (FP.i2d (FP.d2i v))) 4602678819172646912 = some .eq ∧ (FP.d2i v).toInt % 2 = 1) then (FP.d2i v).toInt + 1 else (FP.d2i v).toInt)
/-- the weights of all letters, rounded -/
def rwA (fa k : Int) (ap : Int → UInt32) (wt : Int → Int) : Int → Int := fun x => if 0 ≤ x ∧ x < k then rw9 (FP.dmul (FP.f2d (ap x)) (FP.i2d (iI fa))) else wt x
/-- rules whose left side weighs more -/
def dec9 (lf rg : Int → List Int) (w : Int → Int) : Nat → Int
  | 0 => 0
  | r + 1 => dec9 lf rg w r + (if wt9 w (rg r) < wt9 w (lf r) then 1 else 0)
section
variable {d : Nat} {n R : Int} {lf rg : Int → List Int} {wt lev : Int → Int} {stt : Int} {ap : Int → UInt32} {str : List Int} {σ : S9}
theorem c_X9_roundedWeight {a : UInt64} {P : Int → S9 → Prop} (h0 : 0 ≤ (FP.d2i a).toInt) (h : P (rw9 a) σ) : Cc d mX9_roundedWeight [.double a] σ (QI P) := by
  have hb1 := Int32.le_toInt (FP.d2i a)
  have hb2 := Int32.toInt_lt (FP.d2i a)
  have hm := Int.emod_nonneg (FP.d2i a).toInt (show (2 : Int) ≠ 0 by decide)
  have hm2 := Int.emod_lt_of_pos (FP.d2i a).toInt (show (0 : Int) < 2 by decide)
  refine Cc_of (by decide +kernel) (fun _ => Nat.le_of_ble_eq_true rfl) rfl (lv := [_, _, _, _, _, _]) ?_
  refine v_dload_n dX9_roundedWeight_0 rfl ?_
  refine v_ldc2d dX9_roundedWeight_1 wX9_306 ?_
  refine v_dcmp_lt (tgt := 11) dX9_roundedWeight_4 dX9_roundedWeight_5 (by decide) (fun q4 => ?_) (fun q4 => ?_)
  · refine v_dload_n dX9_roundedWeight_11 rfl ?_
    refine v_d2i dX9_roundedWeight_12 ((iI_of _).symm) ?_
    have nh : ¬ (FP.dcmp a 4636666922610458624 = some .gt ∨ FP.dcmp a 4636666922610458624 = some .eq) := fun z => z.elim (cvl.mp q4).1 (cvl.mp q4).2
    unfold rw9 at h
    rw [if_neg nh] at h
    refine v_istore_n (lv' := [_, _, _, _, _, _]) dX9_roundedWeight_13 (Nat.le_of_ble_eq_true rfl) rfl rfl ?_
    refine v_dload_n dX9_roundedWeight_14 rfl ?_
    refine v_iload_n dX9_roundedWeight_15 rfl ?_
    refine v_i2d dX9_roundedWeight_16 ?_
    refine v_dsub dX9_roundedWeight_17 (fun r17 hr17 => ?_)
    have hc := al64_cmp hr17 4602678819172646912
    rw [iI_of] at hc
    have hpos : (FP.dcmp (FP.dsub a (FP.i2d (FP.d2i a))) 4602678819172646912 = some .gt ∨ (FP.dcmp (FP.dsub a (FP.i2d (FP.d2i a))) 4602678819172646912 = some .eq ∧ (FP.d2i a).toInt % 2 = 1)) → P ((FP.d2i a).toInt + 1) σ := fun z => by rw [if_pos z] at h; exact h
    have hneg : ¬ (FP.dcmp (FP.dsub a (FP.i2d (FP.d2i a))) 4602678819172646912 = some .gt ∨ (FP.dcmp (FP.dsub a (FP.i2d (FP.d2i a))) 4602678819172646912 = some .eq ∧ (FP.d2i a).toInt % 2 = 1)) → P (FP.d2i a).toInt σ := fun z => by rw [if_neg z] at h; exact h
    rw [← hc] at hpos hneg
    refine v_dstore_n (lv' := [_, _, _, _, _, _]) dX9_roundedWeight_18 (Nat.le_of_ble_eq_true rfl) rfl rfl ?_
    refine v_dload_n dX9_roundedWeight_19 rfl ?_
    refine v_ldc2d dX9_roundedWeight_20 wX9_308 ?_
    refine v_dcmp_gt (tgt := 42) dX9_roundedWeight_23 dX9_roundedWeight_24 (by decide) (fun q23 => ?_) (fun q23 => ?_)
    · refine v_iconst dX9_roundedWeight_42 ?_
      refine v_goto (tgt := 47) dX9_roundedWeight_43 (by decide) ?_
      refine v_istore (lv' := [_, _, _, _, _, _]) dX9_roundedWeight_47 (Nat.le_of_ble_eq_true rfl) rfl rfl ?_
      refine v_iload dX9_roundedWeight_49 rfl ?_
      refine v_if_eq (tgt := 60) dX9_roundedWeight_51 (by decide) (by omega) (fun q51 => ?_) (fun q51 => ?_)
      · refine v_iload_n dX9_roundedWeight_60 rfl ?_
        exact v_ireturn dX9_roundedWeight_61 rfl (by first
      | exact absurd q51 (by decide)
      | exact hpos (Or.inl (cvgt.mp q23))
      | exact hpos (Or.inr ⟨cv0.mp q31, q39⟩)
      | exact hneg (fun z => z.elim (fun y => q23 (cvgt.mpr y)) (fun y => q31 (cv0.mpr y.1)))
      | exact hneg (fun z => z.elim (fun y => q23 (cvgt.mpr y)) (fun y => q39 y.2)))
      · refine v_iload_n dX9_roundedWeight_54 rfl ?_
        refine v_iconst dX9_roundedWeight_55 ?_
        refine v_iadd dX9_roundedWeight_56 ?_
        refine v_goto (tgt := 61) dX9_roundedWeight_57 (by decide) ?_
        exact v_ireturn dX9_roundedWeight_61 rfl (by first
      | exact absurd q51 (by decide)
      | exact hpos (Or.inl (cvgt.mp q23))
      | exact hpos (Or.inr ⟨cv0.mp q31, q39⟩)
      | exact hneg (fun z => z.elim (fun y => q23 (cvgt.mpr y)) (fun y => q31 (cv0.mpr y.1)))
      | exact hneg (fun z => z.elim (fun y => q23 (cvgt.mpr y)) (fun y => q39 y.2)))
    · refine v_dload_n dX9_roundedWeight_27 rfl ?_
      refine v_ldc2d dX9_roundedWeight_28 wX9_308 ?_
      refine v_dcmp_ne (tgt := 46) dX9_roundedWeight_31 dX9_roundedWeight_32 (by decide) (fun q31 => ?_) (fun q31 => ?_)
      · refine v_iconst dX9_roundedWeight_46 ?_
        refine v_istore (lv' := [_, _, _, _, _, _]) dX9_roundedWeight_47 (Nat.le_of_ble_eq_true rfl) rfl rfl ?_
        refine v_iload dX9_roundedWeight_49 rfl ?_
        refine v_if_eq (tgt := 60) dX9_roundedWeight_51 (by decide) (by omega) (fun q51 => ?_) (fun q51 => ?_)
        · refine v_iload_n dX9_roundedWeight_60 rfl ?_
          exact v_ireturn dX9_roundedWeight_61 rfl (by first
      | exact absurd q51 (by decide)
      | exact hpos (Or.inl (cvgt.mp q23))
      | exact hpos (Or.inr ⟨cv0.mp q31, q39⟩)
      | exact hneg (fun z => z.elim (fun y => q23 (cvgt.mpr y)) (fun y => q31 (cv0.mpr y.1)))
      | exact hneg (fun z => z.elim (fun y => q23 (cvgt.mpr y)) (fun y => q39 y.2)))
        · refine v_iload_n dX9_roundedWeight_54 rfl ?_
          refine v_iconst dX9_roundedWeight_55 ?_
          refine v_iadd dX9_roundedWeight_56 ?_
          refine v_goto (tgt := 61) dX9_roundedWeight_57 (by decide) ?_
          exact v_ireturn dX9_roundedWeight_61 rfl (by first
      | exact absurd q51 (by decide)
      | exact hpos (Or.inl (cvgt.mp q23))
      | exact hpos (Or.inr ⟨cv0.mp q31, q39⟩)
      | exact hneg (fun z => z.elim (fun y => q23 (cvgt.mpr y)) (fun y => q31 (cv0.mpr y.1)))
      | exact hneg (fun z => z.elim (fun y => q23 (cvgt.mpr y)) (fun y => q39 y.2)))
      · refine v_iload_n dX9_roundedWeight_35 rfl ?_
        refine v_iconst dX9_roundedWeight_36 ?_
        refine v_irem dX9_roundedWeight_37 (ine9 (by decide)) (irem9 (by omega) (by decide)) ?_
        refine v_iconst dX9_roundedWeight_38 ?_
        refine v_icmp_ne (tgt := 46) dX9_roundedWeight_39 (by decide) (by omega) (fun q39 => ?_) (fun q39 => ?_)
        · refine v_iconst dX9_roundedWeight_46 ?_
          refine v_istore (lv' := [_, _, _, _, _, _]) dX9_roundedWeight_47 (Nat.le_of_ble_eq_true rfl) rfl rfl ?_
          refine v_iload dX9_roundedWeight_49 rfl ?_
          refine v_if_eq (tgt := 60) dX9_roundedWeight_51 (by decide) (by omega) (fun q51 => ?_) (fun q51 => ?_)
          · refine v_iload_n dX9_roundedWeight_60 rfl ?_
            exact v_ireturn dX9_roundedWeight_61 rfl (by first
      | exact absurd q51 (by decide)
      | exact hpos (Or.inl (cvgt.mp q23))
      | exact hpos (Or.inr ⟨cv0.mp q31, q39⟩)
      | exact hneg (fun z => z.elim (fun y => q23 (cvgt.mpr y)) (fun y => q31 (cv0.mpr y.1)))
      | exact hneg (fun z => z.elim (fun y => q23 (cvgt.mpr y)) (fun y => q39 y.2)))
          · refine v_iload_n dX9_roundedWeight_54 rfl ?_
            refine v_iconst dX9_roundedWeight_55 ?_
            refine v_iadd dX9_roundedWeight_56 ?_
            refine v_goto (tgt := 61) dX9_roundedWeight_57 (by decide) ?_
            exact v_ireturn dX9_roundedWeight_61 rfl (by first
      | exact absurd q51 (by decide)
      | exact hpos (Or.inl (cvgt.mp q23))
      | exact hpos (Or.inr ⟨cv0.mp q31, q39⟩)
      | exact hneg (fun z => z.elim (fun y => q23 (cvgt.mpr y)) (fun y => q31 (cv0.mpr y.1)))
      | exact hneg (fun z => z.elim (fun y => q23 (cvgt.mpr y)) (fun y => q39 y.2)))
        · refine v_iconst dX9_roundedWeight_42 ?_
          refine v_goto (tgt := 47) dX9_roundedWeight_43 (by decide) ?_
          refine v_istore (lv' := [_, _, _, _, _, _]) dX9_roundedWeight_47 (Nat.le_of_ble_eq_true rfl) rfl rfl ?_
          refine v_iload dX9_roundedWeight_49 rfl ?_
          refine v_if_eq (tgt := 60) dX9_roundedWeight_51 (by decide) (by omega) (fun q51 => ?_) (fun q51 => ?_)
          · refine v_iload_n dX9_roundedWeight_60 rfl ?_
            exact v_ireturn dX9_roundedWeight_61 rfl (by first
      | exact absurd q51 (by decide)
      | exact hpos (Or.inl (cvgt.mp q23))
      | exact hpos (Or.inr ⟨cv0.mp q31, q39⟩)
      | exact hneg (fun z => z.elim (fun y => q23 (cvgt.mpr y)) (fun y => q31 (cv0.mpr y.1)))
      | exact hneg (fun z => z.elim (fun y => q23 (cvgt.mpr y)) (fun y => q39 y.2)))
          · refine v_iload_n dX9_roundedWeight_54 rfl ?_
            refine v_iconst dX9_roundedWeight_55 ?_
            refine v_iadd dX9_roundedWeight_56 ?_
            refine v_goto (tgt := 61) dX9_roundedWeight_57 (by decide) ?_
            exact v_ireturn dX9_roundedWeight_61 rfl (by first
      | exact absurd q51 (by decide)
      | exact hpos (Or.inl (cvgt.mp q23))
      | exact hpos (Or.inr ⟨cv0.mp q31, q39⟩)
      | exact hneg (fun z => z.elim (fun y => q23 (cvgt.mpr y)) (fun y => q31 (cv0.mpr y.1)))
      | exact hneg (fun z => z.elim (fun y => q23 (cvgt.mpr y)) (fun y => q39 y.2)))
  · refine v_bipush dX9_roundedWeight_8 (by decide) ?_
    exact v_ireturn dX9_roundedWeight_10 rfl (by unfold rw9 at h; rw [if_pos (Classical.byContradiction (fun z => q4 (cvl.mpr ⟨fun y => z (Or.inl y), fun y => z (Or.inr y)⟩)))] at h; exact h)
theorem c_X9_roundWeights {k : Int} {P : Int → S9 → Prop} (v : Va n R lf rg wt lev stt ap str) (c : SyC σ 1 n R lf rg wt lev stt ap str) (hk : (-2147483648 ≤ k ∧ k < 2147483648)) (hnn : ∀ x, 0 ≤ x → x < n → ∀ fa, 1 ≤ fa → fa ≤ 100 → isNaN64 (FP.dmul (FP.f2d (gF σ 15 x)) (FP.i2d (iI fa))) = false ∧ isNaN64 (FP.f2d (gF σ 15 x)) = false ∧ 0 ≤ (FP.d2i (FP.dmul (FP.f2d (gF σ 15 x)) (FP.i2d (iI fa)))).toInt ∧ 0 ≤ rw9 (FP.dmul (FP.f2d (gF σ 15 x)) (FP.i2d (iI fa))) ∧ rw9 (FP.dmul (FP.f2d (gF σ 15 x)) (FP.i2d (iI fa))) ≤ 99) (h1 : ¬ (1 ≤ k ∧ k ≤ 100) → P (-1) σ) (h2 : 1 ≤ k ∧ k ≤ 100 → P (dec9 lf rg (rwA k n (gF σ 15) (gI σ 13)) R.toNat) (aI σ 13 (rwA k n (gF σ 15) (gI σ 13)))) : Cc (d + 3) mX9_roundWeights [.ref 0, .int (iI k)] σ (QI P) := by
  have hn := v.1
  have hR := v.2.1
  refine Cc_of (by decide +kernel) (fun _ => Nat.le_of_ble_eq_true rfl) rfl (lv := [_, _, _, _]) ?_
  have hw : 1 ≤ k ∧ k ≤ 100 → ∀ xs : List Int, (∀ x ∈ xs, 0 ≤ x ∧ x < n) → xs.length ≤ 6 → 0 ≤ wt9 (rwA k n (gF σ 15) (gI σ 13)) xs ∧ wt9 (rwA k n (gF σ 15) (gI σ 13)) xs ≤ 594 := fun hk xs hx hl => by
    have := wt9_bd (f := rwA k n (gF σ 15) (gI σ 13)) (xs := xs) (fun x h => by
      unfold rwA
      rw [if_pos (hx x h)]
      exact (hnn x (hx x h).1 (hx x h).2 k hk.1 hk.2).2.2.2)
    omega
  have K2 : 1 ≤ k ∧ k ≤ 100 → ∀ (m : Nat) (r : Int), 0 ≤ r → r + m = R → Vv (d + 3) mX9_roundWeights 61 [.ref 0, .int (iI k), .int (iI (dec9 lf rg (rwA k n (gF σ 15) (gI σ 13)) r.toNat)), .int (iI r)] [] (aI σ 13 (rwA k n (gF σ 15) (gI σ 13))) (QI P) := by
    intro hk2 m
    induction m with
    | zero =>
      intro r hr hm
      refine v_iload_n dX9_roundWeights_61 rfl ?_
      refine v_aload_n dX9_roundWeights_62 rfl ?_
      refine v_getR (k1 := 1) dX9_roundWeights_63 s_0 fX9_14 rfl ?_
      refine v_getI (ji := 1) dX9_roundWeights_66 s_1 fX9_93 rfl ?_
      rw [gI_aI_ne (by decide), c.2.1]
      refine v_icmp_ge (tgt := 116) dX9_roundWeights_69 (by decide) (by omega) (fun q69 => ?_) (fun q69 => absurd q69 (by omega))
      refine v_iload_n dX9_roundWeights_116 rfl ?_
      exact v_ireturn dX9_roundWeights_117 rfl (by rw [show r.toNat = R.toNat by omega]; exact h2 hk2)
    | succ m ih =>
      intro r hr hm
      have z : 0 ≤ r ∧ r < R := by omega
      have wl := hw hk2 (lf r) (v.2.2.1 r z.1 z.2).1.1 (v.2.2.1 r z.1 z.2).1.2
      have wr := hw hk2 (rg r) (v.2.2.1 r z.1 z.2).2.2.1 (v.2.2.1 r z.1 z.2).2.2.2
      have ih := ih (r + 1) (by omega) (by omega)
      rw [show (r + 1).toNat = r.toNat + 1 by omega, dec9, show ((r.toNat : Nat) : Int) = r by omega] at ih
      refine v_iload_n dX9_roundWeights_61 rfl ?_
      refine v_aload_n dX9_roundWeights_62 rfl ?_
      refine v_getR (k1 := 1) dX9_roundWeights_63 s_0 fX9_14 rfl ?_
      refine v_getI (ji := 1) dX9_roundWeights_66 s_1 fX9_93 rfl ?_
      rw [gI_aI_ne (by decide), c.2.1]
      refine v_icmp_ge (tgt := 116) dX9_roundWeights_69 (by decide) (by omega) (fun q69 => absurd q69 (by omega)) (fun q69 => ?_)
      refine v_aload_n dX9_roundWeights_72 rfl ?_
      refine v_getR (k1 := 1) dX9_roundWeights_73 s_0 fX9_14 rfl ?_
      refine v_aload_n dX9_roundWeights_76 rfl ?_
      refine v_getR (k1 := 1) dX9_roundWeights_77 s_0 fX9_14 rfl ?_
      refine v_getR (k1 := 2) dX9_roundWeights_80 s_1 fX9_117 rfl ?_
      refine v_iload_n dX9_roundWeights_83 rfl ?_
      refine v_laload dX9_roundWeights_84 s_2 (by omega) ?_
      rw [gL_aI, c.l z]
      refine v_callVi1 dX9_roundWeights_85 kX9_197 s_1 (Nat.le_of_ble_eq_true rfl) (c_X5_weightOf (v.sl z) ?_)
      refine v_aload_n dX9_roundWeights_88 rfl ?_
      refine v_getR (k1 := 1) dX9_roundWeights_89 s_0 fX9_14 rfl ?_
      refine v_aload_n dX9_roundWeights_92 rfl ?_
      refine v_getR (k1 := 1) dX9_roundWeights_93 s_0 fX9_14 rfl ?_
      refine v_getR (k1 := 3) dX9_roundWeights_96 s_1 fX9_121 rfl ?_
      refine v_iload_n dX9_roundWeights_99 rfl ?_
      refine v_laload dX9_roundWeights_100 s_3 (by omega) ?_
      rw [gL_aI, c.r z]
      refine v_callVi1 dX9_roundWeights_101 kX9_197 s_1 (Nat.le_of_ble_eq_true rfl) (c_X5_weightOf (v.sr z) ?_)
      rw [gI_aI_eq]
      refine v_icmp_le (tgt := 110) dX9_roundWeights_104 (by decide) (by omega) (fun q104 => ?_) (fun q104 => ?_)
      · refine v_iinc (lv' := [_, _, _, _]) dX9_roundWeights_110 rfl (Nat.le_of_ble_eq_true rfl) rfl rfl ?_
        refine v_goto (tgt := 61) dX9_roundWeights_113 (by decide) ?_
        first
        | (rw [if_pos (by omega)] at ih; exact ih)
        | (rw [if_neg (by omega), Int.add_zero] at ih; exact ih)
      · refine v_iinc (lv' := [_, _, _, _]) dX9_roundWeights_107 rfl (Nat.le_of_ble_eq_true rfl) rfl rfl ?_
        refine v_iinc (lv' := [_, _, _, _]) dX9_roundWeights_110 rfl (Nat.le_of_ble_eq_true rfl) rfl rfl ?_
        refine v_goto (tgt := 61) dX9_roundWeights_113 (by decide) ?_
        first
        | (rw [if_pos (by omega)] at ih; exact ih)
        | (rw [if_neg (by omega), Int.add_zero] at ih; exact ih)
  have K1 : 1 ≤ k ∧ k ≤ 100 → ∀ (m : Nat) (x : Int), 0 ≤ x → x + m = n → Vv (d + 3) mX9_roundWeights 15 [.ref 0, .int (iI k), .int (iI x), .null] [] (aI σ 13 (rwA k x (gF σ 15) (gI σ 13))) (QI P) := by
    intro hk2 m
    induction m with
    | zero =>
      intro x hx hm
      refine v_iload_n dX9_roundWeights_15 rfl ?_
      refine v_aload_n dX9_roundWeights_16 rfl ?_
      refine v_getR (k1 := 1) dX9_roundWeights_17 s_0 fX9_14 rfl ?_
      refine v_getI (ji := 0) dX9_roundWeights_20 s_1 fX9_71 rfl ?_
      rw [gI_aI_ne (by decide), c.1]
      refine v_icmp_ge (tgt := 57) dX9_roundWeights_23 (by decide) (by omega) (fun q23 => ?_) (fun q23 => absurd q23 (by omega))
      refine v_iconst dX9_roundWeights_57 ?_
      refine v_istore_n (lv' := [_, _, _, _]) dX9_roundWeights_58 (Nat.le_of_ble_eq_true rfl) rfl rfl ?_
      refine v_iconst dX9_roundWeights_59 ?_
      refine v_istore_n (lv' := [_, _, _, _]) dX9_roundWeights_60 (Nat.le_of_ble_eq_true rfl) rfl rfl ?_
      have h := K2 hk2 R.toNat 0 (by omega) (by omega)
      rw [show n = x by omega] at h
      exact h
    | succ m ih =>
      intro x hx hm
      have nn := hnn x hx (by omega) k hk2.1 hk2.2
      have es : sI (aI σ 13 (rwA k x (gF σ 15) (gI σ 13))) 13 x (rw9 (FP.dmul (FP.f2d (gF σ 15 x)) (FP.i2d (iI k)))) = aI σ 13 (rwA k (x + 1) (gF σ 15) (gI σ 13)) := by
        refine S9ext (fun k2 => ?_) (fun _ => rfl) (fun _ => rfl) (fun _ => rfl)
        by_cases e : k2 = 13
        · subst e
          rw [gI_aI_eq, gI_aI_eq, gI_aI_eq]
          funext y
          by_cases e2 : y = x
          · subst e2
            rw [up9_eq]
            exact (if_pos (by omega)).symm
          · rw [up9_ne e2]
            unfold rwA
            by_cases e3 : 0 ≤ y ∧ y < x
            · rw [if_pos e3, if_pos (by omega)]
            · rw [if_neg e3, if_neg (by omega)]
        · rw [gI_aI_ne e, gI_aI_ne e, gI_aI_ne e]
      refine v_iload_n dX9_roundWeights_15 rfl ?_
      refine v_aload_n dX9_roundWeights_16 rfl ?_
      refine v_getR (k1 := 1) dX9_roundWeights_17 s_0 fX9_14 rfl ?_
      refine v_getI (ji := 0) dX9_roundWeights_20 s_1 fX9_71 rfl ?_
      rw [gI_aI_ne (by decide), c.1]
      refine v_icmp_ge (tgt := 57) dX9_roundWeights_23 (by decide) (by omega) (fun q23 => absurd q23 (by omega)) (fun q23 => ?_)
      refine v_aload_n dX9_roundWeights_26 rfl ?_
      refine v_getR (k1 := 1) dX9_roundWeights_27 s_0 fX9_14 rfl ?_
      refine v_getR (k1 := 13) dX9_roundWeights_30 s_1 fX9_135 rfl ?_
      refine v_iload_n dX9_roundWeights_33 rfl ?_
      refine v_aload_n dX9_roundWeights_34 rfl ?_
      refine v_getR (k1 := 1) dX9_roundWeights_35 s_0 fX9_14 rfl ?_
      refine v_getR (k1 := 15) dX9_roundWeights_38 s_1 fX9_234 rfl ?_
      refine v_iload_n dX9_roundWeights_41 rfl ?_
      refine v_faload dX9_roundWeights_42 s_15 (by omega) ?_
      refine v_f2d dX9_roundWeights_43 (fun r43 hr43 => ?_)
      rw [gF_aI] at hr43
      have e43 := al64 hr43 nn.2.1
      subst e43
      refine v_iload_n dX9_roundWeights_44 rfl ?_
      refine v_i2d dX9_roundWeights_45 ?_
      refine v_dmul dX9_roundWeights_46 (fun r46 hr46 => ?_)
      have e46 := al64 hr46 nn.1
      subst e46
      refine v_callSi1 dX9_roundWeights_47 kX9_244 (Nat.le_of_ble_eq_true rfl) (c_X9_roundedWeight nn.2.2.1 ?_)
      refine v_iastore dX9_roundWeights_50 s_13 (by omega) ?_
      refine v_iinc (lv' := [_, _, _, _]) dX9_roundWeights_51 rfl (Nat.le_of_ble_eq_true rfl) rfl rfl ?_
      refine v_goto (tgt := 15) dX9_roundWeights_54 (by decide) ?_
      rw [es]
      exact ih (x + 1) (by omega) (by omega)
  have z0 : aI σ 13 (rwA k 0 (gF σ 15) (gI σ 13)) = σ := by
    have e : rwA k 0 (gF σ 15) (gI σ 13) = gI σ 13 := by funext y; exact if_neg (by omega)
    rw [e, aI_id]
  refine v_iload_n dX9_roundWeights_0 rfl ?_
  refine v_iconst dX9_roundWeights_1 ?_
  refine v_icmp_lt (tgt := 11) dX9_roundWeights_2 (by decide) (by omega) (fun q2 => ?_) (fun q2 => ?_)
  · refine v_iconst dX9_roundWeights_11 ?_
    exact v_ireturn dX9_roundWeights_12 rfl (h1 (by omega))
  · refine v_iload_n dX9_roundWeights_5 rfl ?_
    refine v_bipush dX9_roundWeights_6 (by decide) ?_
    refine v_icmp_le (tgt := 13) dX9_roundWeights_8 (by decide) (by omega) (fun q8 => ?_) (fun q8 => ?_)
    · refine v_iconst dX9_roundWeights_13 ?_
      refine v_istore_n (lv' := [_, _, _, _]) dX9_roundWeights_14 (Nat.le_of_ble_eq_true rfl) rfl rfl ?_
      have h := K1 (by omega) n.toNat 0 (by omega) (by omega)
      rw [z0] at h
      exact h
    · refine v_iconst dX9_roundWeights_11 ?_
      exact v_ireturn dX9_roundWeights_12 rfl (h1 (by omega))
end
