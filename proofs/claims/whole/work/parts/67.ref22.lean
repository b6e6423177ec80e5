theorem sm9_ind {f w : Int → Int} {y : Int} : ∀ k : Nat, sm9 (fun x => f x + (if x = y then 1 else 0)) w k = sm9 f w k + (if 0 ≤ y ∧ y < k then w y else 0)
  | 0 => by unfold sm9; rw [if_neg (by omega)]; rfl
  | k + 1 => by
    unfold sm9
    rw [sm9_ind k]
    by_cases e : (k : Int) = y
    · rw [if_pos e, if_neg (by omega), if_pos (by omega), Int.add_mul, e]
      omega
    · rw [if_neg e, Int.add_zero]
      by_cases e2 : 0 ≤ y ∧ y < k
      · rw [if_pos e2, if_pos (by omega)]; omega
      · rw [if_neg e2, if_neg (by omega)]; omega
theorem sm9_zero {w : Int → Int} : ∀ k : Nat, sm9 (fun _ => 0) w k = 0
  | 0 => rfl
  | k + 1 => by unfold sm9; rw [sm9_zero k]; omega
theorem sm9_neg {f g : Int → Int} : ∀ k : Nat, sm9 f (fun x => - g x) k = - sm9 f g k
  | 0 => rfl
  | k + 1 => by unfold sm9; rw [sm9_neg k, Int.mul_neg]; omega
theorem cvlle {o : Option Ordering} : Op.cmpValue o CmpOp.l ≤ 0 ↔ o ≠ some .gt := by
  cases o with
  | none => exact ⟨fun _ h => (by cases h), fun _ => by decide⟩
  | some x => cases x <;> first | exact ⟨fun _ h => (by cases h), fun _ => by decide⟩ | exact ⟨fun h => absurd h (by decide), fun h => absurd rfl h⟩
/-! ===== Math.rint ===== -/
theorem msk9 {v : UInt64} (h : v.toNat < 9223372036854775808) : v &&& 9223372036854775807 = v := by
  refine UInt64.toNat.inj ?_
  have h2 := FP.Core.mask_toNat v
  rw [Nat.mod_eq_of_lt (show v.toNat < 2 ^ 63 from h)] at h2
  exact h2
theorem shr9 {v : UInt64} (h : v.toNat < 9223372036854775808) : (v >>> 63 == 1) = false := by
  have e : v >>> 63 = 0 := by
    refine UInt64.toNat.inj ?_
    rw [UInt64.toNat_shiftRight]
    show v.toNat >>> 63 = 0
    rw [Nat.shiftRight_eq_div_pow]
    exact Nat.div_eq_of_lt h
  rw [e]
  rfl
theorem pos9 {v : UInt64} (hn : FP.Core.val64 v ≠ .nan) (h0 : 0 ≤ zv9 v) : v.toNat < 9223372036854775808 ∨ v = 9223372036854775808 := by
  by_cases h : v.toNat < 9223372036854775808
  · exact Or.inl h
  · have h1 : zv9 v ≤ 0 := FP.Core.zval_nonpos hn (show 2 ^ 63 ≤ v.toNat by omega)
    have h2 := (FP.Core.zval_eq_zero hn).mp (show zv9 v = 0 by omega)
    have h3 : v.toNat < 18446744073709551616 := v.toNat_lt
    refine Or.inr (UInt64.toNat.inj ?_)
    have h4 : v.toNat % 9223372036854775808 = 0 := h2
    show v.toNat = 9223372036854775808
    omega
def absRow9 : NativeRow := (NativeRow.find? Native.java_lang_Math.nans.rows "java/lang/Math" "abs" "(D)D").get (by decide +kernel)
def sgnRow9 : NativeRow := (NativeRow.find? Native.java_lang_Math.nans.rows "java/lang/Math" "copySign" "(DD)D").get (by decide +kernel)
set_option maxRecDepth 100000 in
theorem abs_row9 (p : Program) : NativeRow.find? p.tables.natives "java/lang/Math" "abs" "(D)D" = some absRow9 := by
  cases p <;> rfl
set_option maxRecDepth 100000 in
theorem sgn_row9 (p : Program) : NativeRow.find? p.tables.natives "java/lang/Math" "copySign" "(DD)D" = some sgnRow9 := by
  cases p <;> rfl
theorem abs_run9 {v r : UInt64} (hr : v &&& 0x7fffffffffffffff = r) (hn : r &&& 0x7fffffffffffffff ≤ 0x7ff0000000000000) (e : Env) (S : State) : wpRun (absRow9.sem #[.double v]) (fun w s₂ _ => w = some (.double r) ∧ s₂ = S) (fun _ _ _ => False) e S := by
  have hs : absRow9.sem #[.double v] = (do
      let r ← anyNaN64 (v &&& 0x7fffffffffffffff)
      mark "nat.java_lang_Math.abs"
      Pure.pure (some (.double r))) := rfl
  rw [hs, hr]
  simp [jvm, wpRun, anyNaN64, hn]
theorem sgn_run9 {v w : UInt64} (hn : FP.dIsNaN w = false) (e : Env) (S : State) : wpRun (sgnRow9.sem #[.double v, .double w]) (fun x s₂ _ => x = some (.double ((v &&& 0x7fffffffffffffff) ||| (if w >>> 63 == 1 then 0x8000000000000000 else 0))) ∧ s₂ = S) (fun _ _ _ => False) e S := by
  have hs : sgnRow9.sem #[.double v, .double w] = (do
      let b ← Native.java_lang_Math.nans.signOf (FP.dIsNaN w) (w >>> 63 == 1)
      mark "nat.java_lang_Math.copySign"
      Pure.pure (some (.double ((v &&& 0x7fffffffffffffff) ||| (if b then 0x8000000000000000 else 0))))) := rfl
  rw [hs, hn]
  simp [jvm, wpRun, Native.java_lang_Math.nans.signOf]
section
variable {d : Nat} {n R : Int} {lf rg : Int → List Int} {wt lev : Int → Int} {stt : Int} {ap : Int → UInt32} {str : List Int} {σ : S9}
theorem c_J9_abs_294c1 {v : UInt64} {P : UInt64 → S9 → Prop} (hv : v.toNat < 9223372036854775808) (hn : FP.Core.val64 v ≠ .nan) (h : P v σ) : Cc d mJ9_abs_294c1 [.double v] σ (QD P) :=
  Cc_ov (row := absRow9) (ps := [.double]) (r := v) kJxfc994_98.2.1 (by decide) (fun p => abs_row9 p) rfl (by decide +kernel) (fun _ => gb9_D v) (fun _ e S => abs_run9 (msk9 hv) (nanmask (vnn hn)) e S) h
theorem c_J9_absz {P : UInt64 → S9 → Prop} (h : P 0 σ) : Cc d mJ9_abs_294c1 [.double 9223372036854775808] σ (QD P) :=
  Cc_ov (row := absRow9) (ps := [.double]) (r := 0) kJxfc994_98.2.1 (by decide) (fun p => abs_row9 p) rfl (by decide +kernel) (fun _ => gb9_D _) (fun _ e S => abs_run9 (by decide) (by decide) e S) h
theorem c_J9_copySign_eb370 {v : UInt64} {P : UInt64 → S9 → Prop} (hv : v.toNat < 9223372036854775808) (hn : FP.Core.val64 v ≠ .nan) (h : P 4607182418800017408 σ) : Cc d mJ9_copySign_eb370 [.double 4607182418800017408, .double v] σ (QD P) := by
  refine Cc_ov (row := sgnRow9) (ps := [.double, .double]) kJxfc994_95.2.1 (by decide) (fun p => sgn_row9 p) rfl (by decide +kernel) (fun _ => gb9_DD _ v) (fun _ e S => sgn_run9 (nn64.mp (vnn hn)) e S) ?_
  rw [shr9 hv]
  exact h
theorem c_J9_copySignz {P : UInt64 → S9 → Prop} (h : P 13830554455654793216 σ) : Cc d mJ9_copySign_eb370 [.double 4607182418800017408, .double 9223372036854775808] σ (QD P) :=
  Cc_ov (row := sgnRow9) (ps := [.double, .double]) kJxfc994_95.2.1 (by decide) (fun p => sgn_row9 p) rfl (by decide +kernel) (fun _ => gb9_DD _ _) (fun _ e S => sgn_run9 (by decide +kernel) e S) h
theorem c_Jxfc994_rint_294c1 {v : UInt64} {P : UInt64 → S9 → Prop} (hn : FP.Core.val64 v ≠ .nan) (h0 : 0 ≤ zv9 v) (h : ∀ w, RT9 v w → P w σ) : Cc (d + 2) mJxfc994_rint_294c1 [.double v] σ (QD P) := by
  have hU := U_pos
  refine Cc_of (by decide +kernel) (fun _ => Nat.le_of_ble_eq_true rfl) rfl (lv := [_, _, _, _, _, _]) ?_
  rcases pos9 hn h0 with hv | hv
  · by_cases hb : zv9 v < 4503599627370496 * (FP.Core.one64 : Int)
    · have hlt : FP.dcmp v 4841369599423283200 = some .lt := FP.Core.dcmp_lt.mpr ⟨hn, by decide +kernel, by
        show zv9 v < zv9 4841369599423283200
        rw [zv9_52]; exact hb⟩
      have A : isNaN64 (FP.dadd 4841369599423283200 v) = false ∧ isNaN64 (FP.dsub (FP.dadd 4841369599423283200 v) 4841369599423283200) = false ∧ RT9 v (FP.dsub (FP.dadd 4841369599423283200 v) 4841369599423283200) := by
        by_cases hl : zv9 v < 99 * (FP.Core.one64 : Int)
        · have a1 := add9 rfl hn h0 hl
          have hN := N9_le h0 hl
          have d52 : FP.Core.DInt 4503599627370496 4841369599423283200 := by
            have h := FP.Core.l2d_int (a := 4503599627370496) (by decide)
            rw [show FP.Core.l2d 4503599627370496 = 4841369599423283200 by decide +kernel] at h
            exact h
          have a2 := FP.Core.dsub_int a1 d52 (by omega)
          rw [show ((4503599627370496 + N9 v : Nat) : Int) - 4503599627370496 = (N9 v : Nat) by omega] at a2
          exact ⟨vnn (FP.Core.DInt_ne_nan a1), vnn (FP.Core.DInt_ne_nan a2), vnn (FP.Core.DInt_ne_nan a2), fun _ => a2, fun z => by omega⟩
        · have a1 := addhi9 rfl hn (by omega) hb
          exact ⟨a1.1, a1.2.1, a1.2.1, fun z => by omega, fun _ => a1.2.2⟩
      have n3 : isNaN64 (FP.dmul 4607182418800017408 (FP.dsub (FP.dadd 4841369599423283200 v) 4841369599423283200)) = false := by
        have h := FP.Core.one_dmul (nn64.mp A.2.1)
        have h : FP.dmul 4607182418800017408 (FP.dsub (FP.dadd 4841369599423283200 v) 4841369599423283200) = FP.dsub (FP.dadd 4841369599423283200 v) 4841369599423283200 := h
        rw [h]; exact A.2.1
      have e3 : FP.dmul 4607182418800017408 (FP.dsub (FP.dadd 4841369599423283200 v) 4841369599423283200) = FP.dsub (FP.dadd 4841369599423283200 v) 4841369599423283200 := FP.Core.one_dmul (nn64.mp A.2.1)
      refine v_ldc2d dJxfc994_rint_294c1_0 wJxfc994_93 ?_
      refine v_dstore_n (lv' := [_, _, _, _, _, _]) dJxfc994_rint_294c1_3 (Nat.le_of_ble_eq_true rfl) rfl rfl ?_
      refine v_dconst1 dJxfc994_rint_294c1_4 ?_
      refine v_dload_n dJxfc994_rint_294c1_5 rfl ?_
      refine v_callSd2 dJxfc994_rint_294c1_6 kJxfc994_95 (Nat.le_of_ble_eq_true rfl) (c_J9_copySign_eb370 hv hn ?_)
      refine v_dstore (lv' := [_, _, _, _, _, _]) dJxfc994_rint_294c1_9 (Nat.le_of_ble_eq_true rfl) rfl rfl ?_
      refine v_dload_n dJxfc994_rint_294c1_11 rfl ?_
      refine v_callSd1 dJxfc994_rint_294c1_12 kJxfc994_98 (Nat.le_of_ble_eq_true rfl) (c_J9_abs_294c1 hv hn ?_)
      refine v_dstore_n (lv' := [_, _, _, _, _, _]) dJxfc994_rint_294c1_15 (Nat.le_of_ble_eq_true rfl) rfl rfl ?_
      refine v_dload_n dJxfc994_rint_294c1_16 rfl ?_
      refine v_dload_n dJxfc994_rint_294c1_17 rfl ?_
      refine v_dcmp_ge (tgt := 28) dJxfc994_rint_294c1_18 dJxfc994_rint_294c1_19 (by decide) (fun q18 => absurd hlt (cvg.mp q18)) (fun q18 => ?_)
      refine v_dload_n dJxfc994_rint_294c1_22 rfl ?_
      refine v_dload_n dJxfc994_rint_294c1_23 rfl ?_
      refine v_dadd dJxfc994_rint_294c1_24 (fun r24 hr24 => ?_)
      obtain rfl := al64 hr24 A.1
      refine v_dload_n dJxfc994_rint_294c1_25 rfl ?_
      refine v_dsub dJxfc994_rint_294c1_26 (fun r26 hr26 => ?_)
      obtain rfl := al64 hr26 A.2.1
      refine v_dstore_n (lv' := [_, _, _, _, _, _]) dJxfc994_rint_294c1_27 (Nat.le_of_ble_eq_true rfl) rfl rfl ?_
      refine v_dload dJxfc994_rint_294c1_28 rfl ?_
      refine v_dload_n dJxfc994_rint_294c1_30 rfl ?_
      refine v_dmul dJxfc994_rint_294c1_31 (fun r31 hr31 => ?_)
      obtain rfl := al64 hr31 n3
      rw [e3]
      exact v_dreturn dJxfc994_rint_294c1_32 rfl (h _ A.2.2)
    · have hge : FP.dcmp v 4841369599423283200 ≠ some .lt := fun z => by
        have z2 : zv9 v < zv9 4841369599423283200 := (FP.Core.dcmp_lt.mp z).2.2
        rw [zv9_52] at z2
        omega
      have e3 : FP.dmul 4607182418800017408 v = v := FP.Core.one_dmul (nn64.mp (vnn hn))
      refine v_ldc2d dJxfc994_rint_294c1_0 wJxfc994_93 ?_
      refine v_dstore_n (lv' := [_, _, _, _, _, _]) dJxfc994_rint_294c1_3 (Nat.le_of_ble_eq_true rfl) rfl rfl ?_
      refine v_dconst1 dJxfc994_rint_294c1_4 ?_
      refine v_dload_n dJxfc994_rint_294c1_5 rfl ?_
      refine v_callSd2 dJxfc994_rint_294c1_6 kJxfc994_95 (Nat.le_of_ble_eq_true rfl) (c_J9_copySign_eb370 hv hn ?_)
      refine v_dstore (lv' := [_, _, _, _, _, _]) dJxfc994_rint_294c1_9 (Nat.le_of_ble_eq_true rfl) rfl rfl ?_
      refine v_dload_n dJxfc994_rint_294c1_11 rfl ?_
      refine v_callSd1 dJxfc994_rint_294c1_12 kJxfc994_98 (Nat.le_of_ble_eq_true rfl) (c_J9_abs_294c1 hv hn ?_)
      refine v_dstore_n (lv' := [_, _, _, _, _, _]) dJxfc994_rint_294c1_15 (Nat.le_of_ble_eq_true rfl) rfl rfl ?_
      refine v_dload_n dJxfc994_rint_294c1_16 rfl ?_
      refine v_dload_n dJxfc994_rint_294c1_17 rfl ?_
      refine v_dcmp_ge (tgt := 28) dJxfc994_rint_294c1_18 dJxfc994_rint_294c1_19 (by decide) (fun q18 => ?_) (fun q18 => absurd (cvg.mpr hge) q18)
      refine v_dload dJxfc994_rint_294c1_28 rfl ?_
      refine v_dload_n dJxfc994_rint_294c1_30 rfl ?_
      refine v_dmul dJxfc994_rint_294c1_31 (fun r31 hr31 => ?_)
      obtain rfl := al64 hr31 (by rw [e3]; exact vnn hn)
      rw [e3]
      exact v_dreturn dJxfc994_rint_294c1_32 rfl (h _ ⟨vnn hn, fun z => by omega, fun z => z⟩)
  · subst hv
    have e1 : FP.dadd 4841369599423283200 0 = 4841369599423283200 := by decide +kernel
    have e2 : FP.dsub 4841369599423283200 4841369599423283200 = 0 := by decide +kernel
    have e3 : FP.dmul 13830554455654793216 0 = 9223372036854775808 := by decide +kernel
    have hz : zv9 9223372036854775808 = 0 := by unfold zv9; decide +kernel
    have hN : N9 9223372036854775808 = 0 := by unfold N9; rw [hz]; decide +kernel
    have hD : FP.Core.DInt 0 9223372036854775808 := by
      unfold FP.Core.DInt
      rw [show FP.Core.val64 9223372036854775808 = .fin true 0 FP.Core.b64.qmin by decide +kernel]
      show FP.Core.signed true (0 * 2 ^ FP.Core.b64.qmin.toNat) = 0 * _
      rw [Nat.zero_mul, Int.zero_mul]
      rfl
    have hr : RT9 9223372036854775808 9223372036854775808 := ⟨by decide, fun _ => by rw [hN]; exact hD, fun z => by rw [hz] at z; omega⟩
    refine v_ldc2d dJxfc994_rint_294c1_0 wJxfc994_93 ?_
    refine v_dstore_n (lv' := [_, _, _, _, _, _]) dJxfc994_rint_294c1_3 (Nat.le_of_ble_eq_true rfl) rfl rfl ?_
    refine v_dconst1 dJxfc994_rint_294c1_4 ?_
    refine v_dload_n dJxfc994_rint_294c1_5 rfl ?_
    refine v_callSd2 dJxfc994_rint_294c1_6 kJxfc994_95 (Nat.le_of_ble_eq_true rfl) (c_J9_copySignz ?_)
    refine v_dstore (lv' := [_, _, _, _, _, _]) dJxfc994_rint_294c1_9 (Nat.le_of_ble_eq_true rfl) rfl rfl ?_
    refine v_dload_n dJxfc994_rint_294c1_11 rfl ?_
    refine v_callSd1 dJxfc994_rint_294c1_12 kJxfc994_98 (Nat.le_of_ble_eq_true rfl) (c_J9_absz ?_)
    refine v_dstore_n (lv' := [_, _, _, _, _, _]) dJxfc994_rint_294c1_15 (Nat.le_of_ble_eq_true rfl) rfl rfl ?_
    refine v_dload_n dJxfc994_rint_294c1_16 rfl ?_
    refine v_dload_n dJxfc994_rint_294c1_17 rfl ?_
    refine v_dcmp_ge (tgt := 28) dJxfc994_rint_294c1_18 dJxfc994_rint_294c1_19 (by decide) (fun q18 => absurd (show FP.dcmp 0 4841369599423283200 = some .lt by decide +kernel) (cvg.mp q18)) (fun q18 => ?_)
    refine v_dload_n dJxfc994_rint_294c1_22 rfl ?_
    refine v_dload_n dJxfc994_rint_294c1_23 rfl ?_
    refine v_dadd dJxfc994_rint_294c1_24 (fun r24 hr24 => ?_)
    obtain rfl := al64 hr24 (by rw [e1]; decide)
    rw [e1]
    refine v_dload_n dJxfc994_rint_294c1_25 rfl ?_
    refine v_dsub dJxfc994_rint_294c1_26 (fun r26 hr26 => ?_)
    obtain rfl := al64 hr26 (by rw [e2]; decide)
    rw [e2]
    refine v_dstore_n (lv' := [_, _, _, _, _, _]) dJxfc994_rint_294c1_27 (Nat.le_of_ble_eq_true rfl) rfl rfl ?_
    refine v_dload dJxfc994_rint_294c1_28 rfl ?_
    refine v_dload_n dJxfc994_rint_294c1_30 rfl ?_
    refine v_dmul dJxfc994_rint_294c1_31 (fun r31 hr31 => ?_)
    obtain rfl := al64 hr31 (by rw [e3]; decide)
    rw [e3]
    exact v_dreturn dJxfc994_rint_294c1_32 rfl (h _ hr)
theorem c_J9_rint_294c1 {v : UInt64} {P : UInt64 → S9 → Prop} (hn : FP.Core.val64 v ≠ .nan) (h0 : 0 ≤ zv9 v) (h : ∀ w, RT9 v w → P w σ) : Cc (d + 4) mJ9_rint_294c1 [.double v] σ (QD P) := Cc_rint (c_Jxfc994_rint_294c1 (d := 0) hn h0 (fun w hw => ⟨hw.1, h w hw⟩))
theorem c_X10_roundWeights {k : Int} {P : Int → S9 → Prop} (v : Va n R lf rg wt lev stt ap str) (c : SyMn σ n R lf rg wt lev stt ap str) (hk : (-2147483648 ≤ k ∧ k < 2147483648)) (h1 : ¬ (1 ≤ k ∧ k ≤ 100) → P (-1) σ) (h2 : 1 ≤ k ∧ k ≤ 100 → P (dec9 lf rg (rwA k n (gF σ 102) (gI σ 100)) R.toNat) (aI σ 100 (rwA k n (gF σ 102) (gI σ 100)))) : Cc (d + 5) mX10_roundWeights [.ref 97, .int (iI k)] σ (QI P) := by
  have hn := v.1
  have hR := v.2.1
  have hap := c.apk v
  have hnn : ∀ x, 0 ≤ x → x < n → ∀ fa, 1 ≤ fa → fa ≤ 100 → 0 ≤ rw9 (FP.dmul (FP.f2d (gF σ 102 x)) (FP.i2d (iI fa))) ∧ rw9 (FP.dmul (FP.f2d (gF σ 102 x)) (FP.i2d (iI fa))) ≤ 99 := fun x a b fa f1 f2 => (hnn9 (hap x a (by omega)) fa f1 f2).2.2.2
  refine Cc_of (by decide +kernel) (fun _ => Nat.le_of_ble_eq_true rfl) rfl (lv := [_, _, _, _, _, _]) ?_
  have K2 : 1 ≤ k ∧ k ≤ 100 → ∀ (m : Nat) (r : Int), 0 ≤ r → r + m = R → ∀ l4 l5, Vv (d + 5) mX10_roundWeights 69 [.ref 97, .int (iI k), .int (iI (dec9 lf rg (rwA k n (gF σ 102) (gI σ 100)) r.toNat)), .int (iI r), l4, l5] [] (aI σ 100 (rwA k n (gF σ 102) (gI σ 100))) (QI P) := by
    intro hk2 m
    obtain ⟨W, eW⟩ : ∃ W, rwA k n (gF σ 102) (gI σ 100) = W := ⟨_, rfl⟩
    have hW : ∀ x, 0 ≤ x → x < n → 0 ≤ W x ∧ W x ≤ 99 := fun x a b => by
      rw [← eW]
      unfold rwA
      rw [if_pos ⟨a, b⟩]
      exact hnn x a b k hk2.1 hk2.2
    have h2 := h2 hk2
    rw [eW] at h2
    rw [eW]
    have c2 : SyMn (aI σ 100 W) n R lf rg (fun x => if 0 ≤ x ∧ x < n then W x else wt x) lev stt ap str := by
      obtain ⟨c1, c2, c3, c4, c5, c6, c7⟩ := c
      refine ⟨c1, c2, c3, c4, c5, fun x a b => ⟨?_, (c6 x a b).2.1, (c6 x a b).2.2⟩, c7⟩
      rw [gI_aI_eq]
      show W x = if 0 ≤ x ∧ x < n then W x else wt x
      by_cases q : 0 ≤ x ∧ x < n
      · rw [if_pos q]
      · rw [if_neg q, ← eW]
        unfold rwA
        rw [if_neg q]
        exact (c6 x a b).1
    have v2 : Va n R lf rg (fun x => if 0 ≤ x ∧ x < n then W x else wt x) lev stt ap str := ⟨v.1, v.2.1, v.2.2.1, fun x a b => ⟨by
      show 0 ≤ (if 0 ≤ x ∧ x < n then W x else wt x) ∧ (if 0 ≤ x ∧ x < n then W x else wt x) ≤ 99
      by_cases q : 0 ≤ x ∧ x < n
      · rw [if_pos q]; exact hW x q.1 q.2
      · rw [if_neg q]; exact (v.2.2.2.1 x a b).1, (v.2.2.2.1 x a b).2.1, (v.2.2.2.1 x a b).2.2⟩, v.2.2.2.2.1, v.2.2.2.2.2⟩
    induction m with
    | zero =>
      intro r hr hm l4 l5
      refine v_iload_n dX10_roundWeights_69 rfl ?_
      refine v_aload_n dX10_roundWeights_70 rfl ?_
      refine v_getI (ji := 1) dX10_roundWeights_71 s_97 fX10_119 rfl ?_
      rw [gI_aI_ne (by decide), c.2.1]
      refine v_icmp_ge (tgt := 137) dX10_roundWeights_74 (by decide) (by omega) (fun q74 => ?_) (fun q74 => absurd q74 (by omega))
      refine v_iload_n dX10_roundWeights_137 rfl ?_
      exact v_ireturn dX10_roundWeights_138 rfl (by rw [show r.toNat = R.toNat by omega]; exact h2)
    | succ m ih =>
      intro r hr hm l4 l5
      have z : 0 ≤ r ∧ r < R := by omega
      have ih := ih (r + 1) (by omega) (by omega)
      rw [show (r + 1).toNat = r.toNat + 1 by omega, dec9, show ((r.toNat : Nat) : Int) = r by omega] at ih
      have es : sm9 (fun x => bal9 (lf r) (rg r) x) W n.toNat = wt9 W (lf r) - wt9 W (rg r) := (sm9_comm _ _ _).trans (sm9_bal (f := W) (n := n) (v.2.2.1 r z.1 z.2).1.1 (v.2.2.1 r z.1 z.2).2.2.1)
      have eb := sm9_bd (f := fun x => bal9 (lf r) (rg r) x) (g := W) (B := 6) (C := 99) (by decide) (by decide) n.toNat (fun x a b => ⟨v.bal z x, by have := hW x a (by omega); omega⟩)
      have K3 : ∀ (q : Nat) (x : Int), 0 ≤ x → x + q = n → Vv (d + 5) mX10_roundWeights 83 [.ref 97, .int (iI k), .int (iI (dec9 lf rg W r.toNat)), .int (iI r), .int (iI (sm9 (fun x => bal9 (lf r) (rg r) x) W x.toNat)), .int (iI x)] [] (aI σ 100 W) (QI P) := by
        intro q
        induction q with
        | zero =>
          intro x hx hq
          have en : x.toNat = n.toNat := by omega
          rw [en, es]
          rw [es] at eb
          refine v_iload dX10_roundWeights_83 rfl ?_
          refine v_aload_n dX10_roundWeights_85 rfl ?_
          refine v_getI (ji := 0) dX10_roundWeights_86 s_97 fX10_9 rfl ?_
          rw [gI_aI_ne (by decide), c.1]
          refine v_icmp_ge (tgt := 118) dX10_roundWeights_89 (by decide) (by omega) (fun q89 => ?_) (fun q89 => absurd q89 (by omega))
          refine v_iload_n dX10_roundWeights_118 rfl ?_
          refine v_iload dX10_roundWeights_119 rfl ?_
          refine v_if_le (tgt := 128) dX10_roundWeights_121 (by decide) (by omega) (fun q121 => ?_) (fun q121 => ?_)
          · refine v_iconst dX10_roundWeights_128 ?_
            refine v_iadd dX10_roundWeights_129 ?_
            refine v_istore_n (lv' := [_, _, _, _, _, _]) dX10_roundWeights_130 (Nat.le_of_ble_eq_true rfl) rfl rfl ?_
            refine v_iinc (lv' := [_, _, _, _, _, _]) dX10_roundWeights_131 rfl (Nat.le_of_ble_eq_true rfl) rfl rfl ?_
            refine v_goto (tgt := 69) dX10_roundWeights_134 (by decide) ?_
            first
            | (rw [if_pos (by omega)] at ih; exact ih _ _)
            | (rw [if_neg (by omega)] at ih; exact ih _ _)
          · refine v_iconst dX10_roundWeights_124 ?_
            refine v_goto (tgt := 129) dX10_roundWeights_125 (by decide) ?_
            refine v_iadd dX10_roundWeights_129 ?_
            refine v_istore_n (lv' := [_, _, _, _, _, _]) dX10_roundWeights_130 (Nat.le_of_ble_eq_true rfl) rfl rfl ?_
            refine v_iinc (lv' := [_, _, _, _, _, _]) dX10_roundWeights_131 rfl (Nat.le_of_ble_eq_true rfl) rfl rfl ?_
            refine v_goto (tgt := 69) dX10_roundWeights_134 (by decide) ?_
            first
            | (rw [if_pos (by omega)] at ih; exact ih _ _)
            | (rw [if_neg (by omega)] at ih; exact ih _ _)
        | succ q ih3 =>
          intro x hx hq
          have ih3 := ih3 (x + 1) (by omega) (by omega)
          rw [show (x + 1).toNat = x.toNat + 1 by omega, sm9, show ((x.toNat : Nat) : Int) = x by omega] at ih3
          refine v_iload dX10_roundWeights_83 rfl ?_
          refine v_aload_n dX10_roundWeights_85 rfl ?_
          refine v_getI (ji := 0) dX10_roundWeights_86 s_97 fX10_9 rfl ?_
          rw [gI_aI_ne (by decide), c.1]
          refine v_icmp_ge (tgt := 118) dX10_roundWeights_89 (by decide) (by omega) (fun q89 => absurd q89 (by omega)) (fun q89 => ?_)
          refine v_iload dX10_roundWeights_92 rfl ?_
          refine v_aload_n dX10_roundWeights_94 rfl ?_
          refine v_iload_n dX10_roundWeights_95 rfl ?_
          refine v_iload dX10_roundWeights_96 rfl ?_
          refine v_callVi2 dX10_roundWeights_98 kX10_159 s_97 (Nat.le_of_ble_eq_true rfl) (c_X10_balanceOf v2 c2 z (by omega) ?_)
          refine v_aload_n dX10_roundWeights_101 rfl ?_
          refine v_getR (k1 := 100) dX10_roundWeights_102 s_97 fX10_22 rfl ?_
          refine v_iload dX10_roundWeights_105 rfl ?_
          refine v_iaload dX10_roundWeights_107 s_100 (by omega) ?_
          rw [gI_aI_eq]
          refine v_imul dX10_roundWeights_108 ?_
          refine v_iadd dX10_roundWeights_109 ?_
          refine v_istore (lv' := [_, _, _, _, _, _]) dX10_roundWeights_110 (Nat.le_of_ble_eq_true rfl) rfl rfl ?_
          refine v_iinc (lv' := [_, _, _, _, _, _]) dX10_roundWeights_112 rfl (Nat.le_of_ble_eq_true rfl) rfl rfl ?_
          refine v_goto (tgt := 83) dX10_roundWeights_115 (by decide) ?_
          exact ih3
      refine v_iload_n dX10_roundWeights_69 rfl ?_
      refine v_aload_n dX10_roundWeights_70 rfl ?_
      refine v_getI (ji := 1) dX10_roundWeights_71 s_97 fX10_119 rfl ?_
      rw [gI_aI_ne (by decide), c.2.1]
      refine v_icmp_ge (tgt := 137) dX10_roundWeights_74 (by decide) (by omega) (fun q74 => absurd q74 (by omega)) (fun q74 => ?_)
      refine v_iconst dX10_roundWeights_77 ?_
      refine v_istore (lv' := [_, _, _, _, _, _]) dX10_roundWeights_78 (Nat.le_of_ble_eq_true rfl) rfl rfl ?_
      refine v_iconst dX10_roundWeights_80 ?_
      refine v_istore (lv' := [_, _, _, _, _, _]) dX10_roundWeights_81 (Nat.le_of_ble_eq_true rfl) rfl rfl ?_
      exact K3 n.toNat 0 (by omega) (by omega)
  have K1 : 1 ≤ k ∧ k ≤ 100 → ∀ (m : Nat) (x : Int), 0 ≤ x → x + m = n → ∀ l3 l4 l5, Vv (d + 5) mX10_roundWeights 16 [.ref 97, .int (iI k), .int (iI x), l3, l4, l5] [] (aI σ 100 (rwA k x (gF σ 102) (gI σ 100))) (QI P) := by
    intro hk2 m
    induction m with
    | zero =>
      intro x hx hm l3 l4 l5
      refine v_iload_n dX10_roundWeights_16 rfl ?_
      refine v_aload_n dX10_roundWeights_17 rfl ?_
      refine v_getI (ji := 0) dX10_roundWeights_18 s_97 fX10_9 rfl ?_
      rw [gI_aI_ne (by decide), c.1]
      refine v_icmp_ge (tgt := 65) dX10_roundWeights_21 (by decide) (by omega) (fun q21 => ?_) (fun q21 => absurd q21 (by omega))
      refine v_iconst dX10_roundWeights_65 ?_
      refine v_istore_n (lv' := [_, _, _, _, _, _]) dX10_roundWeights_66 (Nat.le_of_ble_eq_true rfl) rfl rfl ?_
      refine v_iconst dX10_roundWeights_67 ?_
      refine v_istore_n (lv' := [_, _, _, _, _, _]) dX10_roundWeights_68 (Nat.le_of_ble_eq_true rfl) rfl rfl ?_
      have h := K2 hk2 R.toNat 0 (by omega) (by omega)
      rw [show n = x by omega] at h
      exact h _ _
    | succ m ih =>
      intro x hx hm l3 l4 l5
      obtain ⟨n1, n2, hz⟩ := apv9 (hap x hx (by omega)) hk2.1 hk2.2
      have es : sI (aI σ 100 (rwA k x (gF σ 102) (gI σ 100))) 100 x (rw9 (FP.dmul (FP.f2d (gF σ 102 x)) (FP.i2d (iI k)))) = aI σ 100 (rwA k (x + 1) (gF σ 102) (gI σ 100)) := by
        refine S9ext (fun k2 => ?_) (fun _ => rfl) (fun _ => rfl) (fun _ => rfl)
        by_cases e : k2 = 100
        · subst e
          rw [gI_aI_eq, gI_aI_eq, gI_aI_eq]
          funext y
          by_cases e2 : y = x
          · subst e2
            rw [up9_eq]
            exact (if_pos (by omega)).symm
          · rw [up9_ne e2]
            unfold rwA
            by_cases e3 : 0 ≤ y ∧ y < x
            · rw [if_pos e3, if_pos (by omega)]
            · rw [if_neg e3, if_neg (by omega)]
        · rw [gI_aI_ne e, gI_aI_ne e, gI_aI_ne e]
      have ih := ih (x + 1) (by omega) (by omega)
      rw [← es] at ih
      refine v_iload_n dX10_roundWeights_16 rfl ?_
      refine v_aload_n dX10_roundWeights_17 rfl ?_
      refine v_getI (ji := 0) dX10_roundWeights_18 s_97 fX10_9 rfl ?_
      rw [gI_aI_ne (by decide), c.1]
      refine v_icmp_ge (tgt := 65) dX10_roundWeights_21 (by decide) (by omega) (fun q21 => absurd q21 (by omega)) (fun q21 => ?_)
      refine v_aload_n dX10_roundWeights_24 rfl ?_
      refine v_getR (k1 := 102) dX10_roundWeights_25 s_97 fX10_28 rfl ?_
      refine v_iload_n dX10_roundWeights_28 rfl ?_
      refine v_faload dX10_roundWeights_29 s_102 (by omega) ?_
      rw [gF_aI]
      refine v_f2d dX10_roundWeights_30 (fun r30 hr30 => ?_)
      obtain rfl := al64 hr30 n1
      refine v_iload_n dX10_roundWeights_31 rfl ?_
      refine v_i2d dX10_roundWeights_32 ?_
      refine v_dmul dX10_roundWeights_33 (fun r33 hr33 => ?_)
      obtain rfl := al64 hr33 n2
      refine v_callSd1 dX10_roundWeights_34 kX10_265 (Nat.le_of_ble_eq_true rfl) (c_J9_rint_294c1 (nnv n2) hz (fun w hw => ?_))
      refine v_dstore_n (lv' := [_, _, _, _, _, _]) dX10_roundWeights_37 (Nat.le_of_ble_eq_true rfl) rfl rfl ?_
      refine v_aload_n dX10_roundWeights_38 rfl ?_
      refine v_getR (k1 := 100) dX10_roundWeights_39 s_97 fX10_22 rfl ?_
      refine v_iload_n dX10_roundWeights_42 rfl ?_
      refine v_dload_n dX10_roundWeights_43 rfl ?_
      refine v_ldc2d dX10_roundWeights_44 wX10_271 ?_
      refine v_dcmp_le (tgt := 56) dX10_roundWeights_47 dX10_roundWeights_48 (by decide) (fun q47 => ?_) (fun q47 => ?_)
      · refine v_dload_n dX10_roundWeights_56 rfl ?_
        refine v_d2i dX10_roundWeights_57 ((hw.ans (nnv n2) hz).2 (cvlle.mp q47)) ?_
        refine v_iastore dX10_roundWeights_58 s_100 (by omega) ?_
        refine v_iinc (lv' := [_, _, _, _, _, _]) dX10_roundWeights_59 rfl (Nat.le_of_ble_eq_true rfl) rfl rfl ?_
        refine v_goto (tgt := 16) dX10_roundWeights_62 (by decide) ?_
        first
        | exact ih _ _ _
        | (rw [(hw.ans (nnv n2) hz).1 (Classical.byContradiction (fun y => q47 (cvlle.mpr y)))] at ih; exact ih _ _ _)
      · refine v_bipush dX10_roundWeights_51 (by decide) ?_
        refine v_goto (tgt := 58) dX10_roundWeights_53 (by decide) ?_
        refine v_iastore dX10_roundWeights_58 s_100 (by omega) ?_
        refine v_iinc (lv' := [_, _, _, _, _, _]) dX10_roundWeights_59 rfl (Nat.le_of_ble_eq_true rfl) rfl rfl ?_
        refine v_goto (tgt := 16) dX10_roundWeights_62 (by decide) ?_
        first
        | exact ih _ _ _
        | (rw [(hw.ans (nnv n2) hz).1 (Classical.byContradiction (fun y => q47 (cvlle.mpr y)))] at ih; exact ih _ _ _)
  have z0 : rwA k 0 (gF σ 102) (gI σ 100) = gI σ 100 := by
    funext y
    exact if_neg (by omega)
  refine v_iload_n dX10_roundWeights_0 rfl ?_
  refine v_i2l dX10_roundWeights_1 (by omega) ?_
  refine v_lconst1 dX10_roundWeights_2 ?_
  refine v_ldc2 dX10_roundWeights_3 wX10_251 ?_
  refine v_callSi3 dX10_roundWeights_6 kX10_115 (Nat.le_of_ble_eq_true rfl) (c_X10_in (by omega) (by omega) (by omega) (fun z => ?_) (fun z => ?_))
  · refine v_if_ne (tgt := 14) dX10_roundWeights_9 (by decide) (by decide) (fun q9 => ?_) (fun q9 => absurd q9 (by decide))
    refine v_iconst dX10_roundWeights_14 ?_
    refine v_istore_n (lv' := [_, _, _, _, _, _]) dX10_roundWeights_15 (Nat.le_of_ble_eq_true rfl) rfl rfl ?_
    have h := K1 (by omega) n.toNat 0 (by omega) (by omega) .null .null .null
    rw [z0, aI_id] at h
    exact h
  · refine v_if_ne (tgt := 14) dX10_roundWeights_9 (by decide) (by decide) (fun q9 => absurd q9 (by decide)) (fun q9 => ?_)
    refine v_iconst dX10_roundWeights_12 ?_
    exact v_ireturn dX10_roundWeights_13 rfl (h1 (by omega))
end
