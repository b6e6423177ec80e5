section
variable {d : Nat} {σ : S9}
theorem c_X9_allocate {P : Int → S9 → Prop} {s ty sz : Int} (hs : (-2147483648 ≤ s ∧ s < 2147483648)) (ht : (-2147483648 ≤ ty ∧ ty < 2147483648)) (hz : (-2147483648 ≤ sz ∧ sz < 2147483648)) (h1 : ¬ ((0 ≤ s ∧ s < 4) ∧ (0 ≤ ty ∧ ty ≤ 3) ∧ sz ≤ 40) → P (-1) σ) (h2 : (0 ≤ s ∧ s < 4) ∧ (0 ≤ ty ∧ ty ≤ 3) ∧ sz ≤ 40 → sz < 0 → P (-14) σ) (h3 : (0 ≤ s ∧ s < 4) ∧ (0 ≤ ty ∧ ty ≤ 3) ∧ sz ≤ 40 → 0 ≤ sz → ∀ σ', eq9 (fun k => ¬ (81 + 4 * s.toNat ≤ k ∧ k ≤ 84 + 4 * s.toNat)) σ σ' → gI σ' (81 + 4 * s.toNat) 0 = ty → gI σ' (81 + 4 * s.toNat) 1 = sz → (∀ j, 0 ≤ j → j < 40 → gL σ' (82 + 4 * s.toNat) j = 0 ∧ gF σ' (83 + 4 * s.toNat) j = 0 ∧ gD σ' (84 + 4 * s.toNat) j = 0) → P sz σ') : Cc (d + 1) mX9_allocate [.ref 0, .int (iI s), .int (iI ty), .int (iI sz)] σ (QI P) := by
  refine Cc_of (by decide +kernel) (fun _ => Nat.le_of_ble_eq_true rfl) rfl (lv := [_, _, _, _]) ?_
  refine v_iload_n dX9_allocate_0 rfl ?_
  refine v_callSi1 dX9_allocate_1 kX9_248 (Nat.le_of_ble_eq_true rfl) (c_X9_isSlot hs (fun zs => ?_) (fun zs => ?_))
  · refine v_if_eq (tgt := 22) dX9_allocate_4 (by decide) (by decide) (fun q4 => absurd q4 (by decide)) (fun q4 => ?_)
    refine v_iload_n dX9_allocate_7 rfl ?_
    refine v_if_lt (tgt := 22) dX9_allocate_8 (by decide) (by omega) (fun q8 => ?_) (fun q8 => ?_)
    · refine v_iconst dX9_allocate_22 ?_
      exact v_ireturn dX9_allocate_23 rfl (h1 (by omega))
    · refine v_iload_n dX9_allocate_11 rfl ?_
      refine v_iconst dX9_allocate_12 ?_
      refine v_icmp_gt (tgt := 22) dX9_allocate_13 (by decide) (by omega) (fun q13 => ?_) (fun q13 => ?_)
      · refine v_iconst dX9_allocate_22 ?_
        exact v_ireturn dX9_allocate_23 rfl (h1 (by omega))
      · refine v_iload_n dX9_allocate_16 rfl ?_
        refine v_bipush dX9_allocate_17 (by decide) ?_
        refine v_icmp_le (tgt := 24) dX9_allocate_19 (by decide) (by omega) (fun q19 => ?_) (fun q19 => ?_)
        · refine v_iload_n dX9_allocate_24 rfl ?_
          refine v_if_ge (tgt := 31) dX9_allocate_25 (by decide) (by omega) (fun q25 => ?_) (fun q25 => ?_)
          · refine v_aload_n dX9_allocate_31 rfl ?_
            refine v_getR (k1 := 80) dX9_allocate_32 s_0 fX9_66 rfl ?_
            refine v_iload_n dX9_allocate_35 rfl ?_
            refine v_aaloadS (k1 := 81 + 4 * s.toNat) dX9_allocate_36 s_80 (by omega) (rfSl (by omega)) ?_
            refine v_iload_n dX9_allocate_37 rfl ?_
            refine v_iload_n dX9_allocate_38 rfl ?_
            refine v_callVv2 dX9_allocate_39 kX9_251 (shO (i := s.toNat) (by omega)) (Nat.le_of_ble_eq_true rfl) (c_X7_fill (i := s.toNat) (by omega) (fun σ' f1 f2 f3 f4 => ?_))
            refine v_iload_n dX9_allocate_42 rfl ?_
            exact v_ireturn dX9_allocate_43 rfl (h3 (by omega) (by omega) _ f1 f2 f3 f4)
          · refine v_bipush dX9_allocate_28 (by decide) ?_
            exact v_ireturn dX9_allocate_30 rfl (h2 (by omega) (by omega))
        · refine v_iconst dX9_allocate_22 ?_
          exact v_ireturn dX9_allocate_23 rfl (h1 (by omega))
  · refine v_if_eq (tgt := 22) dX9_allocate_4 (by decide) (by decide) (fun q4 => ?_) (fun q4 => absurd q4 (by decide))
    refine v_iconst dX9_allocate_22 ?_
    exact v_ireturn dX9_allocate_23 rfl (h1 (by omega))
theorem c_X9_release {P : Int → S9 → Prop} {s : Int} (hsl : ∀ i : Nat, i < 4 → (-1 ≤ gI σ (81 + 4 * i) 0 ∧ gI σ (81 + 4 * i) 0 ≤ 3) ∧ (0 ≤ gI σ (81 + 4 * i) 1 ∧ gI σ (81 + 4 * i) 1 ≤ 40)) (hs : (-2147483648 ≤ s ∧ s < 2147483648)) (h1 : ¬ (0 ≤ s ∧ s < 4) → P (-1) σ) (h2 : (0 ≤ s ∧ s < 4) → gI σ (81 + 4 * s.toNat) 0 = -1 → ∀ σ', eq9 (fun k => ¬ (81 + 4 * s.toNat ≤ k ∧ k ≤ 84 + 4 * s.toNat)) σ σ' → gI σ' (81 + 4 * s.toNat) 0 = -1 → gI σ' (81 + 4 * s.toNat) 1 = 0 → (∀ j, 0 ≤ j → j < 40 → gL σ' (82 + 4 * s.toNat) j = 0 ∧ gF σ' (83 + 4 * s.toNat) j = 0 ∧ gD σ' (84 + 4 * s.toNat) j = 0) → P 0 σ') (h3 : (0 ≤ s ∧ s < 4) → gI σ (81 + 4 * s.toNat) 0 ≠ -1 → ∀ σ', eq9 (fun k => ¬ (81 + 4 * s.toNat ≤ k ∧ k ≤ 84 + 4 * s.toNat)) σ σ' → gI σ' (81 + 4 * s.toNat) 0 = -1 → gI σ' (81 + 4 * s.toNat) 1 = 0 → (∀ j, 0 ≤ j → j < 40 → gL σ' (82 + 4 * s.toNat) j = 0 ∧ gF σ' (83 + 4 * s.toNat) j = 0 ∧ gD σ' (84 + 4 * s.toNat) j = 0) → P 1 σ') : Cc (d + 1) mX9_release [.ref 0, .int (iI s)] σ (QI P) := by
  refine Cc_of (by decide +kernel) (fun _ => Nat.le_of_ble_eq_true rfl) rfl (lv := [_, _, _]) ?_
  refine v_iload_n dX9_release_0 rfl ?_
  refine v_callSi1 dX9_release_1 kX9_248 (Nat.le_of_ble_eq_true rfl) (c_X9_isSlot hs (fun zs => ?_) (fun zs => ?_))
  · refine v_if_ne (tgt := 9) dX9_release_4 (by decide) (by decide) (fun q4 => ?_) (fun q4 => absurd q4 (by decide))
    refine v_aload_n dX9_release_9 rfl ?_
    refine v_getR (k1 := 80) dX9_release_10 s_0 fX9_66 rfl ?_
    refine v_iload_n dX9_release_13 rfl ?_
    refine v_aaloadS (k1 := 81 + 4 * s.toNat) dX9_release_14 s_80 (by omega) (rfSl (by omega)) ?_
    refine v_callVi0 dX9_release_15 kX9_255 (shO (i := s.toNat) (by omega)) (Nat.le_of_ble_eq_true rfl) (c_X7_isFree (i := s.toNat) (by omega) (hsl s.toNat (by omega)).1 (fun zf => ?_) (fun zf => ?_))
    · refine v_if_ne (tgt := 25) dX9_release_18 (by decide) (by decide) (fun q18 => ?_) (fun q18 => absurd q18 (by decide))
      refine v_iconst dX9_release_25 ?_
      refine v_istore_n (lv' := [_, _, _]) dX9_release_26 (Nat.le_of_ble_eq_true rfl) rfl rfl ?_
      refine v_aload_n dX9_release_27 rfl ?_
      refine v_getR (k1 := 80) dX9_release_28 s_0 fX9_66 rfl ?_
      refine v_iload_n dX9_release_31 rfl ?_
      refine v_aaloadS (k1 := 81 + 4 * s.toNat) dX9_release_32 s_80 (by omega) (rfSl (by omega)) ?_
      refine v_iconst dX9_release_33 ?_
      refine v_iconst dX9_release_34 ?_
      refine v_callVv2 dX9_release_35 kX9_251 (shO (i := s.toNat) (by omega)) (Nat.le_of_ble_eq_true rfl) (c_X7_fill (i := s.toNat) (by omega) (fun σ' f1 f2 f3 f4 => ?_))
      refine v_iload_n dX9_release_38 rfl ?_
      refine v_if_eq (tgt := 46) dX9_release_39 (by decide) (by decide) (fun q39 => ?_) (fun q39 => absurd rfl q39)
      refine v_iconst dX9_release_46 ?_
      exact v_ireturn dX9_release_47 rfl (by first | exact h2 zs zf _ f1 f2 f3 f4 | exact h3 zs zf _ f1 f2 f3 f4)
    · refine v_if_ne (tgt := 25) dX9_release_18 (by decide) (by decide) (fun q18 => absurd q18 (by decide)) (fun q18 => ?_)
      refine v_iconst dX9_release_21 ?_
      refine v_goto (tgt := 26) dX9_release_22 (by decide) ?_
      refine v_istore_n (lv' := [_, _, _]) dX9_release_26 (Nat.le_of_ble_eq_true rfl) rfl rfl ?_
      refine v_aload_n dX9_release_27 rfl ?_
      refine v_getR (k1 := 80) dX9_release_28 s_0 fX9_66 rfl ?_
      refine v_iload_n dX9_release_31 rfl ?_
      refine v_aaloadS (k1 := 81 + 4 * s.toNat) dX9_release_32 s_80 (by omega) (rfSl (by omega)) ?_
      refine v_iconst dX9_release_33 ?_
      refine v_iconst dX9_release_34 ?_
      refine v_callVv2 dX9_release_35 kX9_251 (shO (i := s.toNat) (by omega)) (Nat.le_of_ble_eq_true rfl) (c_X7_fill (i := s.toNat) (by omega) (fun σ' f1 f2 f3 f4 => ?_))
      refine v_iload_n dX9_release_38 rfl ?_
      refine v_if_eq (tgt := 46) dX9_release_39 (by decide) (by decide) (fun q39 => absurd q39 (by decide)) (fun q39 => ?_)
      refine v_iconst dX9_release_42 ?_
      refine v_goto (tgt := 47) dX9_release_43 (by decide) ?_
      exact v_ireturn dX9_release_47 rfl (by first | exact h2 zs zf _ f1 f2 f3 f4 | exact h3 zs zf _ f1 f2 f3 f4)
  · refine v_if_ne (tgt := 9) dX9_release_4 (by decide) (by decide) (fun q4 => absurd q4 (by decide)) (fun q4 => ?_)
    refine v_iconst dX9_release_7 ?_
    exact v_ireturn dX9_release_8 rfl (h1 zs)
theorem c_X9_putElement {P : Int → S9 → Prop} {s x y : Int} (hsl : ∀ i : Nat, i < 4 → (-1 ≤ gI σ (81 + 4 * i) 0 ∧ gI σ (81 + 4 * i) 0 ≤ 3) ∧ (0 ≤ gI σ (81 + 4 * i) 1 ∧ gI σ (81 + 4 * i) 1 ≤ 40)) (hs : (-2147483648 ≤ s ∧ s < 2147483648)) (hx : (-2147483648 ≤ x ∧ x < 2147483648)) (h1 : ¬ (0 ≤ s ∧ s < 4) → P (-1) σ) (h2 : (0 ≤ s ∧ s < 4) → gI σ (81 + 4 * s.toNat) 0 = -1 → P (-11) σ) (h3 : (0 ≤ s ∧ s < 4) → gI σ (81 + 4 * s.toNat) 0 ≠ -1 → ¬ (0 ≤ x ∧ x < gI σ (81 + 4 * s.toNat) 1) → P (-13) σ)
    (h4 : (0 ≤ s ∧ s < 4) → (0 ≤ x ∧ x < gI σ (81 + 4 * s.toNat) 1) → (gI σ (81 + 4 * s.toNat) 0 = 0 → P 1 (sL σ (82 + 4 * s.toNat) x (iI y).toInt)) ∧ (gI σ (81 + 4 * s.toNat) 0 = 1 → P 1 (sL σ (82 + 4 * s.toNat) x y)) ∧ (gI σ (81 + 4 * s.toNat) 0 = 2 → P 1 (sF σ (83 + 4 * s.toNat) x (FP.l2f (lI y)))) ∧ (gI σ (81 + 4 * s.toNat) 0 = 3 → P 1 (sD σ (84 + 4 * s.toNat) x (FP.l2d (lI y))))) : Cc (d + 1) mX9_putElement [.ref 0, .int (iI s), .int (iI x), .long (lI y)] σ (QI P) := by
  refine Cc_of (by decide +kernel) (fun _ => Nat.le_of_ble_eq_true rfl) rfl (lv := [_, _, _, _, _]) ?_
  refine v_iload_n dX9_putElement_0 rfl ?_
  refine v_callSi1 dX9_putElement_1 kX9_248 (Nat.le_of_ble_eq_true rfl) (c_X9_isSlot hs (fun zs => ?_) (fun zs => ?_))
  · refine v_if_ne (tgt := 9) dX9_putElement_4 (by decide) (by decide) (fun q4 => ?_) (fun q4 => absurd q4 (by decide))
    refine v_aload_n dX9_putElement_9 rfl ?_
    refine v_getR (k1 := 80) dX9_putElement_10 s_0 fX9_66 rfl ?_
    refine v_iload_n dX9_putElement_13 rfl ?_
    refine v_aaloadS (k1 := 81 + 4 * s.toNat) dX9_putElement_14 s_80 (by omega) (rfSl (by omega)) ?_
    refine v_callVi0 dX9_putElement_15 kX9_255 (shO (i := s.toNat) (by omega)) (Nat.le_of_ble_eq_true rfl) (c_X7_isFree (i := s.toNat) (by omega) (hsl s.toNat (by omega)).1 (fun zf => ?_) (fun zf => ?_))
    · refine v_if_eq (tgt := 24) dX9_putElement_18 (by decide) (by decide) (fun q18 => absurd q18 (by decide)) (fun q18 => ?_)
      refine v_bipush dX9_putElement_21 (by decide) ?_
      exact v_ireturn dX9_putElement_23 rfl (h2 zs zf)
    · refine v_if_eq (tgt := 24) dX9_putElement_18 (by decide) (by decide) (fun q18 => ?_) (fun q18 => absurd q18 (by decide))
      refine v_aload_n dX9_putElement_24 rfl ?_
      refine v_getR (k1 := 80) dX9_putElement_25 s_0 fX9_66 rfl ?_
      refine v_iload_n dX9_putElement_28 rfl ?_
      refine v_aaloadS (k1 := 81 + 4 * s.toNat) dX9_putElement_29 s_80 (by omega) (rfSl (by omega)) ?_
      refine v_iload_n dX9_putElement_30 rfl ?_
      refine v_callVi1 dX9_putElement_31 kX9_258 (shO (i := s.toNat) (by omega)) (Nat.le_of_ble_eq_true rfl) (c_X7_hasIndex (i := s.toNat) (by omega) (hsl s.toNat (by omega)).2 hx (fun zi => ?_) (fun zi => ?_))
      · refine v_if_ne (tgt := 40) dX9_putElement_34 (by decide) (by decide) (fun q34 => ?_) (fun q34 => absurd q34 (by decide))
        refine v_aload_n dX9_putElement_40 rfl ?_
        refine v_getR (k1 := 80) dX9_putElement_41 s_0 fX9_66 rfl ?_
        refine v_iload_n dX9_putElement_44 rfl ?_
        refine v_aaloadS (k1 := 81 + 4 * s.toNat) dX9_putElement_45 s_80 (by omega) (rfSl (by omega)) ?_
        refine v_iload_n dX9_putElement_46 rfl ?_
        refine v_lload_n dX9_putElement_47 rfl ?_
        refine v_callVv2 dX9_putElement_48 kX9_261 (shO (i := s.toNat) (by omega)) (Nat.le_of_ble_eq_true rfl) (c_X7_put (i := s.toNat) (by omega) (by have := (hsl s.toNat (by omega)).1; omega) (by have := (hsl s.toNat (by omega)).2; omega) (fun e => ?_) (fun e => ?_) (fun e => ?_) (fun e => ?_))
        · refine v_iconst dX9_putElement_51 ?_
          exact v_ireturn dX9_putElement_52 rfl ((h4 zs zi).1 e)
        · refine v_iconst dX9_putElement_51 ?_
          exact v_ireturn dX9_putElement_52 rfl ((h4 zs zi).2.1 e)
        · refine v_iconst dX9_putElement_51 ?_
          exact v_ireturn dX9_putElement_52 rfl ((h4 zs zi).2.2.1 e)
        · refine v_iconst dX9_putElement_51 ?_
          exact v_ireturn dX9_putElement_52 rfl ((h4 zs zi).2.2.2 e)
      · refine v_if_ne (tgt := 40) dX9_putElement_34 (by decide) (by decide) (fun q34 => absurd q34 (by decide)) (fun q34 => ?_)
        refine v_bipush dX9_putElement_37 (by decide) ?_
        exact v_ireturn dX9_putElement_39 rfl (h3 zs zf zi)
  · refine v_if_ne (tgt := 9) dX9_putElement_4 (by decide) (by decide) (fun q4 => absurd q4 (by decide)) (fun q4 => ?_)
    refine v_iconst dX9_putElement_7 ?_
    exact v_ireturn dX9_putElement_8 rfl (h1 zs)
theorem c_X9_divideElement {P : Int → S9 → Prop} {s x y : Int} (hsl : ∀ i : Nat, i < 4 → (-1 ≤ gI σ (81 + 4 * i) 0 ∧ gI σ (81 + 4 * i) 0 ≤ 3) ∧ (0 ≤ gI σ (81 + 4 * i) 1 ∧ gI σ (81 + 4 * i) 1 ≤ 40)) (hs : (-2147483648 ≤ s ∧ s < 2147483648)) (hx : (-2147483648 ≤ x ∧ x < 2147483648)) (hy : (-2147483648 ≤ y ∧ y < 2147483648)) (h1 : ¬ (0 ≤ s ∧ s < 4) → P (-1) σ) (h2 : (0 ≤ s ∧ s < 4) → gI σ (81 + 4 * s.toNat) 0 = -1 → P (-11) σ) (h3 : (0 ≤ s ∧ s < 4) → (gI σ (81 + 4 * s.toNat) 0 = 0 ∨ gI σ (81 + 4 * s.toNat) 0 = 1) → P (-12) σ) (h4 : (0 ≤ s ∧ s < 4) → 2 ≤ gI σ (81 + 4 * s.toNat) 0 → ¬ (0 ≤ x ∧ x < gI σ (81 + 4 * s.toNat) 1) → P (-13) σ)
    (h5 : (0 ≤ s ∧ s < 4) → (0 ≤ x ∧ x < gI σ (81 + 4 * s.toNat) 1) → (gI σ (81 + 4 * s.toNat) 0 = 2 → (FP.fcmp (gF σ (83 + 4 * s.toNat) x) 0 = some .eq → P 1 σ) ∧ (FP.fcmp (gF σ (83 + 4 * s.toNat) x) 0 ≠ some .eq → ∀ r, alike32 r (FP.fdiv (gF σ (83 + 4 * s.toNat) x) (FP.i2f (iI y))) = true → P 1 (sF σ (83 + 4 * s.toNat) x r))) ∧ (gI σ (81 + 4 * s.toNat) 0 = 3 → (FP.dcmp (gD σ (84 + 4 * s.toNat) x) 0 = some .eq → P 1 σ) ∧ (FP.dcmp (gD σ (84 + 4 * s.toNat) x) 0 ≠ some .eq → ∀ r, alike64 r (FP.ddiv (gD σ (84 + 4 * s.toNat) x) (FP.i2d (iI y))) = true → P 1 (sD σ (84 + 4 * s.toNat) x r)))) : Cc (d + 1) mX9_divideElement [.ref 0, .int (iI s), .int (iI x), .int (iI y)] σ (QI P) := by
  refine Cc_of (by decide +kernel) (fun _ => Nat.le_of_ble_eq_true rfl) rfl (lv := [_, _, _, _]) ?_
  refine v_iload_n dX9_divideElement_0 rfl ?_
  refine v_callSi1 dX9_divideElement_1 kX9_248 (Nat.le_of_ble_eq_true rfl) (c_X9_isSlot hs (fun zs => ?_) (fun zs => ?_))
  · refine v_if_ne (tgt := 9) dX9_divideElement_4 (by decide) (by decide) (fun q4 => ?_) (fun q4 => absurd q4 (by decide))
    refine v_aload_n dX9_divideElement_9 rfl ?_
    refine v_getR (k1 := 80) dX9_divideElement_10 s_0 fX9_66 rfl ?_
    refine v_iload_n dX9_divideElement_13 rfl ?_
    refine v_aaloadS (k1 := 81 + 4 * s.toNat) dX9_divideElement_14 s_80 (by omega) (rfSl (by omega)) ?_
    refine v_callVi0 dX9_divideElement_15 kX9_255 (shO (i := s.toNat) (by omega)) (Nat.le_of_ble_eq_true rfl) (c_X7_isFree (i := s.toNat) (by omega) (hsl s.toNat (by omega)).1 (fun zf => ?_) (fun zf => ?_))
    · refine v_if_eq (tgt := 24) dX9_divideElement_18 (by decide) (by decide) (fun q18 => absurd q18 (by decide)) (fun q18 => ?_)
      refine v_bipush dX9_divideElement_21 (by decide) ?_
      exact v_ireturn dX9_divideElement_23 rfl (h2 zs zf)
    · refine v_if_eq (tgt := 24) dX9_divideElement_18 (by decide) (by decide) (fun q18 => ?_) (fun q18 => absurd q18 (by decide))
      refine v_aload_n dX9_divideElement_24 rfl ?_
      refine v_getR (k1 := 80) dX9_divideElement_25 s_0 fX9_66 rfl ?_
      refine v_iload_n dX9_divideElement_28 rfl ?_
      refine v_aaloadS (k1 := 81 + 4 * s.toNat) dX9_divideElement_29 s_80 (by omega) (rfSl (by omega)) ?_
      refine v_getI (ji := 0) dX9_divideElement_30 (shO (i := s.toNat) (by omega)) fX9_264 rfl ?_
      refine v_iconst dX9_divideElement_33 ?_
      refine v_icmp_ge (tgt := 40) dX9_divideElement_34 (by decide) (by have := (hsl s.toNat (by omega)).1; omega) (fun q34 => ?_) (fun q34 => ?_)
      · refine v_aload_n dX9_divideElement_40 rfl ?_
        refine v_getR (k1 := 80) dX9_divideElement_41 s_0 fX9_66 rfl ?_
        refine v_iload_n dX9_divideElement_44 rfl ?_
        refine v_aaloadS (k1 := 81 + 4 * s.toNat) dX9_divideElement_45 s_80 (by omega) (rfSl (by omega)) ?_
        refine v_iload_n dX9_divideElement_46 rfl ?_
        refine v_callVi1 dX9_divideElement_47 kX9_258 (shO (i := s.toNat) (by omega)) (Nat.le_of_ble_eq_true rfl) (c_X7_hasIndex (i := s.toNat) (by omega) (hsl s.toNat (by omega)).2 hx (fun zi => ?_) (fun zi => ?_))
        · refine v_if_ne (tgt := 56) dX9_divideElement_50 (by decide) (by decide) (fun q50 => ?_) (fun q50 => absurd q50 (by decide))
          refine v_aload_n dX9_divideElement_56 rfl ?_
          refine v_getR (k1 := 80) dX9_divideElement_57 s_0 fX9_66 rfl ?_
          refine v_iload_n dX9_divideElement_60 rfl ?_
          refine v_aaloadS (k1 := 81 + 4 * s.toNat) dX9_divideElement_61 s_80 (by omega) (rfSl (by omega)) ?_
          refine v_iload_n dX9_divideElement_62 rfl ?_
          refine v_iload_n dX9_divideElement_63 rfl ?_
          refine v_callVv2 dX9_divideElement_64 kX9_267 (shO (i := s.toNat) (by omega)) (Nat.le_of_ble_eq_true rfl) (c_X7_divide (i := s.toNat) (by omega) (by have := (hsl s.toNat (by omega)).1; omega) (by have := (hsl s.toNat (by omega)).2; omega) (fun e1 e2 => ?_) (fun e1 e2 r e3 => ?_) (fun e1 e2 => ?_) (fun e1 e2 r e3 => ?_))
          · refine v_iconst dX9_divideElement_67 ?_
            exact v_ireturn dX9_divideElement_68 rfl (((h5 zs zi).1 e1).1 e2)
          · refine v_iconst dX9_divideElement_67 ?_
            exact v_ireturn dX9_divideElement_68 rfl (((h5 zs zi).1 e1).2 e2 r e3)
          · refine v_iconst dX9_divideElement_67 ?_
            exact v_ireturn dX9_divideElement_68 rfl (((h5 zs zi).2 e1).1 e2)
          · refine v_iconst dX9_divideElement_67 ?_
            exact v_ireturn dX9_divideElement_68 rfl (((h5 zs zi).2 e1).2 e2 r e3)
        · refine v_if_ne (tgt := 56) dX9_divideElement_50 (by decide) (by decide) (fun q50 => absurd q50 (by decide)) (fun q50 => ?_)
          refine v_bipush dX9_divideElement_53 (by decide) ?_
          exact v_ireturn dX9_divideElement_55 rfl (h4 zs (by omega) zi)
      · refine v_bipush dX9_divideElement_37 (by decide) ?_
        exact v_ireturn dX9_divideElement_39 rfl (h3 zs (by have := (hsl s.toNat (by omega)).1; omega))
  · refine v_if_ne (tgt := 9) dX9_divideElement_4 (by decide) (by decide) (fun q4 => absurd q4 (by decide)) (fun q4 => ?_)
    refine v_iconst dX9_divideElement_7 ?_
    exact v_ireturn dX9_divideElement_8 rfl (h1 zs)
theorem c_X9_element {P : Int → S9 → Prop} {s x : Int} (hsl : ∀ i : Nat, i < 4 → (-1 ≤ gI σ (81 + 4 * i) 0 ∧ gI σ (81 + 4 * i) 0 ≤ 3) ∧ (0 ≤ gI σ (81 + 4 * i) 1 ∧ gI σ (81 + 4 * i) 1 ≤ 40)) (hs : (-2147483648 ≤ s ∧ s < 2147483648)) (hx : (-2147483648 ≤ x ∧ x < 2147483648)) (hfr : ∀ i : Nat, i < 4 → gI σ (81 + 4 * i) 0 = -1 → gI σ (81 + 4 * i) 1 = 0) (h1 : ¬ ((0 ≤ s ∧ s < 4) ∧ 0 ≤ x ∧ x < gI σ (81 + 4 * s.toNat) 1) → P (-9223372036854775808) σ) (h2 : (0 ≤ s ∧ s < 4) → (0 ≤ x ∧ x < gI σ (81 + 4 * s.toNat) 1) → (gI σ (81 + 4 * s.toNat) 0 < 2 → P (gL σ (82 + 4 * s.toNat) x) σ) ∧ (gI σ (81 + 4 * s.toNat) 0 = 2 → P (FP.f2l (gF σ (83 + 4 * s.toNat) x)).toInt σ) ∧ (gI σ (81 + 4 * s.toNat) 0 = 3 → P (FP.d2l (gD σ (84 + 4 * s.toNat) x)).toInt σ)) : Cc (d + 1) mX9_element [.ref 0, .int (iI s), .int (iI x)] σ (QL P) := by
  refine Cc_of (by decide +kernel) (fun _ => Nat.le_of_ble_eq_true rfl) rfl (lv := [_, _, _]) ?_
  refine v_iload_n dX9_element_0 rfl ?_
  refine v_callSi1 dX9_element_1 kX9_248 (Nat.le_of_ble_eq_true rfl) (c_X9_isSlot hs (fun zs => ?_) (fun zs => ?_))
  · refine v_if_eq (tgt := 33) dX9_element_4 (by decide) (by decide) (fun q4 => absurd q4 (by decide)) (fun q4 => ?_)
    refine v_aload_n dX9_element_7 rfl ?_
    refine v_getR (k1 := 80) dX9_element_8 s_0 fX9_66 rfl ?_
    refine v_iload_n dX9_element_11 rfl ?_
    refine v_aaloadS (k1 := 81 + 4 * s.toNat) dX9_element_12 s_80 (by omega) (rfSl (by omega)) ?_
    refine v_iload_n dX9_element_13 rfl ?_
    refine v_callVi1 dX9_element_14 kX9_258 (shO (i := s.toNat) (by omega)) (Nat.le_of_ble_eq_true rfl) (c_X7_hasIndex (i := s.toNat) (by omega) (hsl s.toNat (by omega)).2 hx (fun zi => ?_) (fun zi => ?_))
    · refine v_if_eq (tgt := 33) dX9_element_17 (by decide) (by decide) (fun q17 => absurd q17 (by decide)) (fun q17 => ?_)
      refine v_aload_n dX9_element_20 rfl ?_
      refine v_getR (k1 := 80) dX9_element_21 s_0 fX9_66 rfl ?_
      refine v_iload_n dX9_element_24 rfl ?_
      refine v_aaloadS (k1 := 81 + 4 * s.toNat) dX9_element_25 s_80 (by omega) (rfSl (by omega)) ?_
      refine v_iload_n dX9_element_26 rfl ?_
      refine v_callVl1 dX9_element_27 kX9_270 (shO (i := s.toNat) (by omega)) (Nat.le_of_ble_eq_true rfl) (c_X7_asLong (i := s.toNat) (by omega) (by have h8 := hsl s.toNat (by omega); have h9 := hfr s.toNat (by omega); omega) (by have := (hsl s.toNat (by omega)).2; omega) (fun e => ?_) (fun e => ?_) (fun e => ?_))
      · refine v_goto (tgt := 36) dX9_element_30 (by decide) ?_
        exact v_lreturn dX9_element_36 rfl ((h2 zs zi).1 e)
      · refine v_goto (tgt := 36) dX9_element_30 (by decide) ?_
        exact v_lreturn dX9_element_36 rfl ((h2 zs zi).2.1 e)
      · refine v_goto (tgt := 36) dX9_element_30 (by decide) ?_
        exact v_lreturn dX9_element_36 rfl ((h2 zs zi).2.2 e)
    · refine v_if_eq (tgt := 33) dX9_element_17 (by decide) (by decide) (fun q17 => ?_) (fun q17 => absurd q17 (by decide))
      refine v_ldc2 dX9_element_33 wX9_242 ?_
      exact v_lreturn dX9_element_36 rfl (h1 (by omega))
  · refine v_if_eq (tgt := 33) dX9_element_4 (by decide) (by decide) (fun q4 => ?_) (fun q4 => absurd q4 (by decide))
    refine v_ldc2 dX9_element_33 wX9_242 ?_
    exact v_lreturn dX9_element_36 rfl (h1 (by omega))
theorem c_X9_copyElements {P : Int → S9 → Prop} {s a u b m : Int} (hsl : ∀ i : Nat, i < 4 → (-1 ≤ gI σ (81 + 4 * i) 0 ∧ gI σ (81 + 4 * i) 0 ≤ 3) ∧ (0 ≤ gI σ (81 + 4 * i) 1 ∧ gI σ (81 + 4 * i) 1 ≤ 40)) (hs : (-2147483648 ≤ s ∧ s < 2147483648)) (ha : (-2147483648 ≤ a ∧ a < 2147483648)) (hu : (-2147483648 ≤ u ∧ u < 2147483648)) (hb : (-2147483648 ≤ b ∧ b < 2147483648)) (hm : (-2147483648 ≤ m ∧ m < 2147483648)) (h1 : ¬ ((0 ≤ s ∧ s < 4) ∧ 0 ≤ u ∧ u < 4) → P (-1) σ) (h2 : (0 ≤ s ∧ s < 4) ∧ (0 ≤ u ∧ u < 4) → (gI σ (81 + 4 * s.toNat) 0 = -1 ∨ gI σ (81 + 4 * u.toNat) 0 = -1) → P (-11) σ) (h3 : (0 ≤ s ∧ s < 4) ∧ (0 ≤ u ∧ u < 4) → gI σ (81 + 4 * s.toNat) 0 ≠ -1 → gI σ (81 + 4 * u.toNat) 0 ≠ -1 → gI σ (81 + 4 * s.toNat) 0 ≠ gI σ (81 + 4 * u.toNat) 0 → P (-12) σ)
    (h4 : (0 ≤ s ∧ s < 4) ∧ (0 ≤ u ∧ u < 4) → gI σ (81 + 4 * s.toNat) 0 ≠ -1 → gI σ (81 + 4 * s.toNat) 0 = gI σ (81 + 4 * u.toNat) 0 → ¬ ((0 ≤ a ∧ 0 ≤ m ∧ a + m ≤ gI σ (81 + 4 * s.toNat) 1) ∧ 0 ≤ b ∧ 0 ≤ m ∧ b + m ≤ gI σ (81 + 4 * u.toNat) 1) → P (-13) σ)
    (h5 : (0 ≤ s ∧ s < 4) ∧ (0 ≤ u ∧ u < 4) → gI σ (81 + 4 * s.toNat) 0 ≠ -1 → gI σ (81 + 4 * s.toNat) 0 = gI σ (81 + 4 * u.toNat) 0 → ((0 ≤ a ∧ 0 ≤ m ∧ a + m ≤ gI σ (81 + 4 * s.toNat) 1) ∧ 0 ≤ b ∧ 0 ≤ m ∧ b + m ≤ gI σ (81 + 4 * u.toNat) 1) → P m (aD (aF (aL σ (82 + 4 * u.toNat) (cpy9 (gL σ (82 + 4 * s.toNat)) (gL σ (82 + 4 * u.toNat)) a b m)) (83 + 4 * u.toNat) (cpy9 (gF σ (83 + 4 * s.toNat)) (gF σ (83 + 4 * u.toNat)) a b m)) (84 + 4 * u.toNat) (cpy9 (gD σ (84 + 4 * s.toNat)) (gD σ (84 + 4 * u.toNat)) a b m))) : Cc (d + 2) mX9_copyElements [.ref 0, .int (iI s), .int (iI a), .int (iI u), .int (iI b), .int (iI m)] σ (QI P) := by
  refine Cc_of (by decide +kernel) (fun _ => Nat.le_of_ble_eq_true rfl) rfl (lv := [_, _, _, _, _, _]) ?_
  refine v_iload_n dX9_copyElements_0 rfl ?_
  refine v_callSi1 dX9_copyElements_1 kX9_248 (Nat.le_of_ble_eq_true rfl) (c_X9_isSlot hs (fun zs => ?_) (fun zs => ?_))
  · refine v_if_eq (tgt := 14) dX9_copyElements_4 (by decide) (by decide) (fun q4 => absurd q4 (by decide)) (fun q4 => ?_)
    refine v_iload_n dX9_copyElements_7 rfl ?_
    refine v_callSi1 dX9_copyElements_8 kX9_248 (Nat.le_of_ble_eq_true rfl) (c_X9_isSlot hu (fun zu => ?_) (fun zu => ?_))
    · refine v_if_ne (tgt := 16) dX9_copyElements_11 (by decide) (by decide) (fun q11 => ?_) (fun q11 => absurd q11 (by decide))
      refine v_aload_n dX9_copyElements_16 rfl ?_
      refine v_getR (k1 := 80) dX9_copyElements_17 s_0 fX9_66 rfl ?_
      refine v_iload_n dX9_copyElements_20 rfl ?_
      refine v_aaloadS (k1 := 81 + 4 * s.toNat) dX9_copyElements_21 s_80 (by omega) (rfSl (by omega)) ?_
      refine v_callVi0 dX9_copyElements_22 kX9_255 (shO (i := s.toNat) (by omega)) (Nat.le_of_ble_eq_true rfl) (c_X7_isFree (i := s.toNat) (by omega) (hsl s.toNat (by omega)).1 (fun zf => ?_) (fun zf => ?_))
      · refine v_if_ne (tgt := 40) dX9_copyElements_25 (by decide) (by decide) (fun q25 => ?_) (fun q25 => absurd q25 (by decide))
        refine v_bipush dX9_copyElements_40 (by decide) ?_
        exact v_ireturn dX9_copyElements_42 rfl (h2 ⟨zs, zu⟩ (by first | exact Or.inl zf | exact Or.inr zg))
      · refine v_if_ne (tgt := 40) dX9_copyElements_25 (by decide) (by decide) (fun q25 => absurd q25 (by decide)) (fun q25 => ?_)
        refine v_aload_n dX9_copyElements_28 rfl ?_
        refine v_getR (k1 := 80) dX9_copyElements_29 s_0 fX9_66 rfl ?_
        refine v_iload_n dX9_copyElements_32 rfl ?_
        refine v_aaloadS (k1 := 81 + 4 * u.toNat) dX9_copyElements_33 s_80 (by omega) (rfSl (by omega)) ?_
        refine v_callVi0 dX9_copyElements_34 kX9_255 (shO (i := u.toNat) (by omega)) (Nat.le_of_ble_eq_true rfl) (c_X7_isFree (i := u.toNat) (by omega) (hsl u.toNat (by omega)).1 (fun zg => ?_) (fun zg => ?_))
        · refine v_if_eq (tgt := 43) dX9_copyElements_37 (by decide) (by decide) (fun q37 => absurd q37 (by decide)) (fun q37 => ?_)
          refine v_bipush dX9_copyElements_40 (by decide) ?_
          exact v_ireturn dX9_copyElements_42 rfl (h2 ⟨zs, zu⟩ (by first | exact Or.inl zf | exact Or.inr zg))
        · refine v_if_eq (tgt := 43) dX9_copyElements_37 (by decide) (by decide) (fun q37 => ?_) (fun q37 => absurd q37 (by decide))
          refine v_aload_n dX9_copyElements_43 rfl ?_
          refine v_getR (k1 := 80) dX9_copyElements_44 s_0 fX9_66 rfl ?_
          refine v_iload_n dX9_copyElements_47 rfl ?_
          refine v_aaloadS (k1 := 81 + 4 * s.toNat) dX9_copyElements_48 s_80 (by omega) (rfSl (by omega)) ?_
          refine v_getI (ji := 0) dX9_copyElements_49 (shO (i := s.toNat) (by omega)) fX9_264 rfl ?_
          refine v_aload_n dX9_copyElements_52 rfl ?_
          refine v_getR (k1 := 80) dX9_copyElements_53 s_0 fX9_66 rfl ?_
          refine v_iload_n dX9_copyElements_56 rfl ?_
          refine v_aaloadS (k1 := 81 + 4 * u.toNat) dX9_copyElements_57 s_80 (by omega) (rfSl (by omega)) ?_
          refine v_getI (ji := 0) dX9_copyElements_58 (shO (i := u.toNat) (by omega)) fX9_264 rfl ?_
          refine v_icmp_eq (tgt := 67) dX9_copyElements_61 (by decide) (by have h8 := (hsl s.toNat (by omega)).1; have h9 := (hsl u.toNat (by omega)).1; omega) (fun q61 => ?_) (fun q61 => ?_)
          · refine v_aload_n dX9_copyElements_67 rfl ?_
            refine v_getR (k1 := 80) dX9_copyElements_68 s_0 fX9_66 rfl ?_
            refine v_iload_n dX9_copyElements_71 rfl ?_
            refine v_aaloadS (k1 := 81 + 4 * s.toNat) dX9_copyElements_72 s_80 (by omega) (rfSl (by omega)) ?_
            refine v_iload_n dX9_copyElements_73 rfl ?_
            refine v_iload dX9_copyElements_74 rfl ?_
            refine v_callVi2 dX9_copyElements_76 kX9_274 (shO (i := s.toNat) (by omega)) (Nat.le_of_ble_eq_true rfl) (c_X7_hasRange (i := s.toNat) (by omega) (hsl s.toNat (by omega)).2 ha hm (fun za => ?_) (fun za => ?_))
            · refine v_if_eq (tgt := 98) dX9_copyElements_79 (by decide) (by decide) (fun q79 => absurd q79 (by decide)) (fun q79 => ?_)
              refine v_aload_n dX9_copyElements_82 rfl ?_
              refine v_getR (k1 := 80) dX9_copyElements_83 s_0 fX9_66 rfl ?_
              refine v_iload_n dX9_copyElements_86 rfl ?_
              refine v_aaloadS (k1 := 81 + 4 * u.toNat) dX9_copyElements_87 s_80 (by omega) (rfSl (by omega)) ?_
              refine v_iload dX9_copyElements_88 rfl ?_
              refine v_iload dX9_copyElements_90 rfl ?_
              refine v_callVi2 dX9_copyElements_92 kX9_274 (shO (i := u.toNat) (by omega)) (Nat.le_of_ble_eq_true rfl) (c_X7_hasRange (i := u.toNat) (by omega) (hsl u.toNat (by omega)).2 hb hm (fun zb => ?_) (fun zb => ?_))
              · refine v_if_ne (tgt := 101) dX9_copyElements_95 (by decide) (by decide) (fun q95 => ?_) (fun q95 => absurd q95 (by decide))
                refine v_aload_n dX9_copyElements_101 rfl ?_
                refine v_getR (k1 := 80) dX9_copyElements_102 s_0 fX9_66 rfl ?_
                refine v_iload_n dX9_copyElements_105 rfl ?_
                refine v_aaloadS (k1 := 81 + 4 * u.toNat) dX9_copyElements_106 s_80 (by omega) (rfSl (by omega)) ?_
                refine v_aload_n dX9_copyElements_107 rfl ?_
                refine v_getR (k1 := 80) dX9_copyElements_108 s_0 fX9_66 rfl ?_
                refine v_iload_n dX9_copyElements_111 rfl ?_
                refine v_aaloadS (k1 := 81 + 4 * s.toNat) dX9_copyElements_112 s_80 (by omega) (rfSl (by omega)) ?_
                refine v_iload_n dX9_copyElements_113 rfl ?_
                refine v_iload dX9_copyElements_114 rfl ?_
                refine v_iload dX9_copyElements_116 rfl ?_
                refine v_callVv4 dX9_copyElements_118 kX9_277 (shO (i := u.toNat) (by omega)) (Nat.le_of_ble_eq_true rfl) (c_X7_copyFrom (i := u.toNat) (j := s.toNat) (by omega) (by omega) (by have h8 := (hsl s.toNat (by omega)).2; have h9 := (hsl u.toNat (by omega)).2; omega) ?_)
                refine v_iload dX9_copyElements_121 rfl ?_
                exact v_ireturn dX9_copyElements_123 rfl (h5 ⟨zs, zu⟩ zf q61 ⟨za, zb⟩)
              · refine v_if_ne (tgt := 101) dX9_copyElements_95 (by decide) (by decide) (fun q95 => absurd q95 (by decide)) (fun q95 => ?_)
                refine v_bipush dX9_copyElements_98 (by decide) ?_
                exact v_ireturn dX9_copyElements_100 rfl (h4 ⟨zs, zu⟩ zf q61 (by first | (intro z; exact za z.1) | (intro z; exact zb z.2)))
            · refine v_if_eq (tgt := 98) dX9_copyElements_79 (by decide) (by decide) (fun q79 => ?_) (fun q79 => absurd q79 (by decide))
              refine v_bipush dX9_copyElements_98 (by decide) ?_
              exact v_ireturn dX9_copyElements_100 rfl (h4 ⟨zs, zu⟩ zf q61 (by first | (intro z; exact za z.1) | (intro z; exact zb z.2)))
          · refine v_bipush dX9_copyElements_64 (by decide) ?_
            exact v_ireturn dX9_copyElements_66 rfl (h3 ⟨zs, zu⟩ zf zg q61)
    · refine v_if_ne (tgt := 16) dX9_copyElements_11 (by decide) (by decide) (fun q11 => absurd q11 (by decide)) (fun q11 => ?_)
      refine v_iconst dX9_copyElements_14 ?_
      exact v_ireturn dX9_copyElements_15 rfl (h1 (by omega))
  · refine v_if_eq (tgt := 14) dX9_copyElements_4 (by decide) (by decide) (fun q4 => ?_) (fun q4 => absurd q4 (by decide))
    refine v_iconst dX9_copyElements_14 ?_
    exact v_ireturn dX9_copyElements_15 rfl (h1 (by omega))
/-- the sum of the products of two rows' first places -/
def sm9 (f g : Int → Int) : Nat → Int
  | 0 => 0
  | k + 1 => sm9 f g k + f k * g k
theorem sm9_bd {f g : Int → Int} {B C : Int} (hB : 0 ≤ B) (hC : 0 ≤ C) : ∀ (k : Nat), (∀ x : Int, 0 ≤ x → x < k → (-B ≤ f x ∧ f x ≤ B) ∧ (-C ≤ g x ∧ g x ≤ C)) → -(k * (B * C)) ≤ sm9 f g k ∧ sm9 f g k ≤ k * (B * C)
  | 0, _ => by unfold sm9; omega
  | k + 1, h => by
    have ih := sm9_bd hB hC k (fun x a b => h x a (by omega))
    have hk := h k (by omega) (by omega)
    have m1 : f k * g k ≤ B * C := by
      have : (f k * g k).natAbs ≤ (B * C).natAbs := by rw [Int.natAbs_mul, Int.natAbs_mul]; exact Nat.mul_le_mul (by omega) (by omega)
      have h2 : 0 ≤ B * C := Int.mul_nonneg hB hC
      omega
    have m2 : -(B * C) ≤ f k * g k := by
      have : (f k * g k).natAbs ≤ (B * C).natAbs := by rw [Int.natAbs_mul, Int.natAbs_mul]; exact Nat.mul_le_mul (by omega) (by omega)
      have h2 : 0 ≤ B * C := Int.mul_nonneg hB hC
      omega
    unfold sm9
    rw [show ((k + 1 : Nat) : Int) * (B * C) = k * (B * C) + B * C by rw [show ((k + 1 : Nat) : Int) = (k : Int) + 1 by omega, Int.add_mul, Int.one_mul]]
    omega
theorem sm9_congr {f f' g g' : Int → Int} : ∀ (k : Nat), (∀ x : Int, 0 ≤ x → x < k → f x = f' x ∧ g x = g' x) → sm9 f g k = sm9 f' g' k
  | 0, _ => rfl
  | k + 1, h => by
    unfold sm9
    rw [sm9_congr k (fun x a b => h x a (by omega)), (h k (by omega) (by omega)).1, (h k (by omega) (by omega)).2]
/-- numbers that are a certificate against weights -/
def crt9 (f : Int → Int) (bl : Int → Int → Int) (n R : Int) : Prop := (∀ r, 0 ≤ r → r < R → 0 ≤ f r) ∧ (∃ r, 0 ≤ r ∧ r < R ∧ f r ≠ 0) ∧ ∀ x, 0 ≤ x → x < n → sm9 f (fun r => bl r x) R.toNat ≤ 0
end
