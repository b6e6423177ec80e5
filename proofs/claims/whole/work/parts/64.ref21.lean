/-! ===== the reference's slots ===== -/
theorem cpy9_up {α : Type} (f : Int → α) {a b i : Int} (hi : 0 ≤ i) {x : α} (hx : x = f (a + i)) : up9 (cpy9 f f a b i) (b + i) x = cpy9 f f a b (i + 1) := by
  funext j
  show (if j = b + i then x else if b ≤ j ∧ j < b + i then f (a + (j - b)) else f j) = if b ≤ j ∧ j < b + (i + 1) then f (a + (j - b)) else f j
  by_cases h : j = b + i
  · rw [if_pos h, if_pos (by omega), hx, h, show a + (b + i - b) = a + i by omega]
  · rw [if_neg h]
    by_cases h2 : b ≤ j ∧ j < b + i
    · rw [if_pos h2, if_pos (by omega)]
    · rw [if_neg h2, if_neg (by omega)]
theorem cpy9_dn {α : Type} (f : Int → α) {a b i : Int} {x : α} (hi : 0 ≤ i) (hx : x = f (a - 1)) : up9 (cpy9 f f a b i) (b - 1) x = cpy9 f f (a - 1) (b - 1) (i + 1) := by
  funext j
  show (if j = b - 1 then x else if b ≤ j ∧ j < b + i then f (a + (j - b)) else f j) = if b - 1 ≤ j ∧ j < b - 1 + (i + 1) then f (a - 1 + (j - (b - 1))) else f j
  by_cases h : j = b - 1
  · rw [if_pos h, if_pos (by omega), hx, h, show a - 1 + (b - 1 - (b - 1)) = a - 1 by omega]
  · rw [if_neg h]
    by_cases h2 : b ≤ j ∧ j < b + i
    · rw [if_pos h2, if_pos (by omega), show a + (j - b) = a - 1 + (j - (b - 1)) by omega]
    · rw [if_neg h2, if_neg (by omega)]
theorem cpy9_out {α : Type} {f g : Int → α} {a b i j : Int} (h : ¬ (b ≤ j ∧ j < b + i)) : cpy9 f g a b i j = g j := if_neg h
theorem cpy9_0 {α : Type} {f g : Int → α} {a b : Int} : cpy9 f g a b 0 = g := by
  funext j
  exact if_neg (by omega)
def Ex9 (f : Int → Int) (r : Int) : Prop := ∃ s, 0 ≤ s ∧ s < r ∧ f s ≠ 0
def Al9 (f : Int → Int) (r : Int) : Prop := ∀ s, 0 ≤ s → s < r → 0 ≤ f s
def Ml9 (f : Int → Int) (bl : Int → Int → Int) (R x : Int) : Prop := Al9 f R ∧ ∀ y, 0 ≤ y → y < x → sm9 f (fun r => bl r y) R.toNat ≤ 0
section
variable {d : Nat} {n R : Int} {lf rg : Int → List Int} {wt lev : Int → Int} {stt : Int} {ap : Int → UInt32} {str : List Int} {σ : S9}
theorem c_X10_isSlot {s : Int} {P : Int → S9 → Prop} (hs : (-2147483648 ≤ s ∧ s < 2147483648)) (h1 : 0 ≤ s ∧ s < 4 → P 1 σ) (h0 : ¬ (0 ≤ s ∧ s < 4) → P 0 σ) : Cc (d + 1) mX10_isSlot [.int (iI s)] σ (QI P) := by
  refine Cc_of (by decide +kernel) (fun _ => Nat.le_of_ble_eq_true rfl) rfl (lv := [_]) ?_
  refine v_iload_n dX10_isSlot_0 rfl ?_
  refine v_i2l dX10_isSlot_1 (by omega) ?_
  refine v_lconst0 dX10_isSlot_2 ?_
  refine v_ldc2 dX10_isSlot_3 wX10_273 ?_
  refine v_callSi3 dX10_isSlot_6 kX10_115 (Nat.le_of_ble_eq_true rfl) (c_X10_in (by omega) (by omega) (by omega) (fun z => ?_) (fun z => ?_))
  · exact v_zreturn dX10_isSlot_9 rfl (by decide) (by first | exact h1 (by omega) | exact h0 (by omega))
  · exact v_zreturn dX10_isSlot_9 rfl (by decide) (by first | exact h1 (by omega) | exact h0 (by omega))
theorem c_X10_isPlace {s x : Int} {P : Int → S9 → Prop} (hs : 0 ≤ s ∧ s < 4) (hl : 0 ≤ gI σ 108 s ∧ gI σ 108 s ≤ 40) (hx : (-2147483648 ≤ x ∧ x < 2147483648)) (h1 : 0 ≤ x ∧ x < gI σ 108 s → P 1 σ) (h0 : ¬ (0 ≤ x ∧ x < gI σ 108 s) → P 0 σ) : Cc (d + 1) mX10_isPlace [.ref 97, .int (iI s), .int (iI x)] σ (QI P) := by
  refine Cc_of (by decide +kernel) (fun _ => Nat.le_of_ble_eq_true rfl) rfl (lv := [_, _, _]) ?_
  refine v_iload_n dX10_isPlace_0 rfl ?_
  refine v_i2l dX10_isPlace_1 (by omega) ?_
  refine v_lconst0 dX10_isPlace_2 ?_
  refine v_aload_n dX10_isPlace_3 rfl ?_
  refine v_getR (k1 := 108) dX10_isPlace_4 s_97 fX10_47 rfl ?_
  refine v_iload_n dX10_isPlace_7 rfl ?_
  refine v_iaload dX10_isPlace_8 s_108 (by omega) ?_
  refine v_iconst dX10_isPlace_9 ?_
  refine v_isub dX10_isPlace_10 ?_
  refine v_i2l dX10_isPlace_11 (by omega) ?_
  refine v_callSi3 dX10_isPlace_12 kX10_115 (Nat.le_of_ble_eq_true rfl) (c_X10_in (by omega) (by omega) (by omega) (fun z => ?_) (fun z => ?_))
  · exact v_zreturn dX10_isPlace_15 rfl (by decide) (by first | exact h1 (by omega) | exact h0 (by omega))
  · exact v_zreturn dX10_isPlace_15 rfl (by decide) (by first | exact h1 (by omega) | exact h0 (by omega))
theorem c_X10_allocate {P : Int → S9 → Prop} {s ty sz : Int} (hs : (-2147483648 ≤ s ∧ s < 2147483648)) (ht : (-2147483648 ≤ ty ∧ ty < 2147483648)) (hz : (-2147483648 ≤ sz ∧ sz < 2147483648)) (h1 : ¬ ((0 ≤ s ∧ s < 4) ∧ (0 ≤ ty ∧ ty ≤ 3) ∧ sz ≤ 40) → P (-1) σ) (h2 : (0 ≤ s ∧ s < 4) ∧ (0 ≤ ty ∧ ty ≤ 3) ∧ sz ≤ 40 → sz < 0 → P (-14) σ) (h3 : (0 ≤ s ∧ s < 4) ∧ (0 ≤ ty ∧ ty ≤ 3) ∧ sz ≤ 40 → 0 ≤ sz → ∀ τ, eq9 (fun k => k ≠ 107 ∧ k ≠ 108 ∧ k ≠ 109 ∧ k ≠ 110 ∧ k ≠ 111) σ τ → gI τ 107 = up9 (gI σ 107) s ty → gI τ 108 = up9 (gI σ 108) s sz → gL τ 109 = fil9 (gL σ 109) (40 * s) 40 0 → gF τ 110 = fil9 (gF σ 110) (40 * s) 40 0 → gD τ 111 = fil9 (gD σ 111) (40 * s) 40 0 → P sz τ) : Cc (d + 2) mX10_allocate [.ref 97, .int (iI s), .int (iI ty), .int (iI sz)] σ (QI P) := by
  refine Cc_of (by decide +kernel) (fun _ => Nat.le_of_ble_eq_true rfl) rfl (lv := [_, _, _, _, _]) ?_
  have K : (0 ≤ s ∧ s < 4) ∧ (0 ≤ ty ∧ ty ≤ 3) ∧ sz ≤ 40 → 0 ≤ sz → ∀ (m : Nat) (j : Int) (τ : S9), 0 ≤ j → j + m = 40 → eq9 (fun k => k ≠ 107 ∧ k ≠ 108 ∧ k ≠ 109 ∧ k ≠ 110 ∧ k ≠ 111) σ τ → gI τ 107 = up9 (gI σ 107) s ty → gI τ 108 = up9 (gI σ 108) s sz → gL τ 109 = fil9 (gL σ 109) (40 * s) j 0 → gF τ 110 = fil9 (gF σ 110) (40 * s) j 0 → gD τ 111 = fil9 (gD σ 111) (40 * s) j 0 → Vv (d + 2) mX10_allocate 51 [.ref 97, .int (iI s), .int (iI ty), .int (iI sz), .int (iI j)] [] τ (QI P) := by
    intro hc hc2 m
    induction m with
    | zero =>
      intro j τ hj hm e1 e2 e3 e4 e5 e6
      refine v_iload dX10_allocate_51 rfl ?_
      refine v_bipush dX10_allocate_53 (by decide) ?_
      refine v_icmp_ge (tgt := 103) dX10_allocate_55 (by decide) (by omega) (fun q55 => ?_) (fun q55 => absurd q55 (by omega))
      refine v_iload_n dX10_allocate_103 rfl ?_
      exact v_ireturn dX10_allocate_104 rfl (by rw [show j = 40 by omega] at e4 e5 e6; exact h3 hc hc2 τ e1 e2 e3 e4 e5 e6)
    | succ m ih =>
      intro j τ hj hm e1 e2 e3 e4 e5 e6
      refine v_iload dX10_allocate_51 rfl ?_
      refine v_bipush dX10_allocate_53 (by decide) ?_
      refine v_icmp_ge (tgt := 103) dX10_allocate_55 (by decide) (by omega) (fun q55 => absurd q55 (by omega)) (fun q55 => ?_)
      refine v_aload_n dX10_allocate_58 rfl ?_
      refine v_getR (k1 := 109) dX10_allocate_59 s_97 fX10_50 rfl ?_
      refine v_bipush dX10_allocate_62 (by decide) ?_
      refine v_iload_n dX10_allocate_64 rfl ?_
      refine v_imul dX10_allocate_65 ?_
      refine v_iload dX10_allocate_66 rfl ?_
      refine v_iadd dX10_allocate_68 ?_
      refine v_lconst0 dX10_allocate_69 ?_
      refine v_lastore dX10_allocate_70 s_109 (by omega) ?_
      refine v_aload_n dX10_allocate_71 rfl ?_
      refine v_getR (k1 := 110) dX10_allocate_72 s_97 fX10_54 rfl ?_
      refine v_bipush dX10_allocate_75 (by decide) ?_
      refine v_iload_n dX10_allocate_77 rfl ?_
      refine v_imul dX10_allocate_78 ?_
      refine v_iload dX10_allocate_79 rfl ?_
      refine v_iadd dX10_allocate_81 ?_
      refine v_fconst0 dX10_allocate_82 ?_
      refine v_fastore dX10_allocate_83 s_110 (by omega) ?_
      refine v_aload_n dX10_allocate_84 rfl ?_
      refine v_getR (k1 := 111) dX10_allocate_85 s_97 fX10_57 rfl ?_
      refine v_bipush dX10_allocate_88 (by decide) ?_
      refine v_iload_n dX10_allocate_90 rfl ?_
      refine v_imul dX10_allocate_91 ?_
      refine v_iload dX10_allocate_92 rfl ?_
      refine v_iadd dX10_allocate_94 ?_
      refine v_dconst0 dX10_allocate_95 ?_
      refine v_dastore dX10_allocate_96 s_111 (by omega) ?_
      refine v_iinc (lv' := [_, _, _, _, _]) dX10_allocate_97 rfl (Nat.le_of_ble_eq_true rfl) rfl rfl ?_
      refine v_goto (tgt := 51) dX10_allocate_100 (by decide) ?_
      refine ih (j + 1) _ (by omega) (by omega) (((e1.tr (eq9.aL (fun z => z.2.2.1 rfl))).tr (eq9.aF (fun z => z.2.2.2.1 rfl))).tr (eq9.aD (fun z => z.2.2.2.2 rfl))) e2 e3 ?_ ?_ ?_
      · show gL (sL τ 109 (40 * s + j) 0) 109 = _
        rw [gL_aL_eq, e4, fil9_s _ _ hj]
      · show gF (sF τ 110 (40 * s + j) 0) 110 = _
        rw [gF_aF_eq, e5, fil9_s _ _ hj]
      · show gD (sD τ 111 (40 * s + j) 0) 111 = _
        rw [gD_aD_eq, e6, fil9_s _ _ hj]
  refine v_iload_n dX10_allocate_0 rfl ?_
  refine v_callSi1 dX10_allocate_1 kX10_275 (Nat.le_of_ble_eq_true rfl) (c_X10_isSlot hs (fun zs => ?_) (fun zs => ?_))
  · refine v_if_eq (tgt := 25) dX10_allocate_4 (by decide) (by decide) (fun q4 => absurd q4 (by decide)) (fun q4 => ?_)
    refine v_iload_n dX10_allocate_7 rfl ?_
    refine v_i2l dX10_allocate_8 (by omega) ?_
    refine v_lconst0 dX10_allocate_9 ?_
    refine v_ldc2 dX10_allocate_10 wX10_273 ?_
    refine v_callSi3 dX10_allocate_13 kX10_115 (Nat.le_of_ble_eq_true rfl) (c_X10_in (by omega) (by omega) (by omega) (fun zt => ?_) (fun zt => ?_))
    · refine v_if_eq (tgt := 25) dX10_allocate_16 (by decide) (by decide) (fun q16 => absurd q16 (by decide)) (fun q16 => ?_)
      refine v_iload_n dX10_allocate_19 rfl ?_
      refine v_bipush dX10_allocate_20 (by decide) ?_
      refine v_icmp_le (tgt := 27) dX10_allocate_22 (by decide) (by omega) (fun q22 => ?_) (fun q22 => ?_)
      · refine v_iload_n dX10_allocate_27 rfl ?_
        refine v_if_ge (tgt := 34) dX10_allocate_28 (by decide) (by omega) (fun q28 => ?_) (fun q28 => ?_)
        · refine v_aload_n dX10_allocate_34 rfl ?_
          refine v_getR (k1 := 107) dX10_allocate_35 s_97 fX10_44 rfl ?_
          refine v_iload_n dX10_allocate_38 rfl ?_
          refine v_iload_n dX10_allocate_39 rfl ?_
          refine v_iastore dX10_allocate_40 s_107 (by omega) ?_
          refine v_aload_n dX10_allocate_41 rfl ?_
          refine v_getR (k1 := 108) dX10_allocate_42 s_97 fX10_47 rfl ?_
          refine v_iload_n dX10_allocate_45 rfl ?_
          refine v_iload_n dX10_allocate_46 rfl ?_
          refine v_iastore dX10_allocate_47 s_108 (by omega) ?_
          refine v_iconst dX10_allocate_48 ?_
          refine v_istore (lv' := [_, _, _, _, _]) dX10_allocate_49 (Nat.le_of_ble_eq_true rfl) rfl rfl ?_
          refine K (by omega) (by omega) 40 0 _ (by omega) (by omega) ((eq9.aI (fun z => z.1 rfl)).tr (eq9.aI (fun z => z.2.1 rfl))) ?_ ?_ (fil9_0 _ _ _).symm (fil9_0 _ _ _).symm (fil9_0 _ _ _).symm
          · rw [gI_aI_ne (by decide), gI_aI_eq]
          · rw [gI_aI_eq, gI_aI_ne (by decide)]
        · refine v_bipush dX10_allocate_31 (by decide) ?_
          exact v_ireturn dX10_allocate_33 rfl (h2 (by omega) (by omega))
      · refine v_iconst dX10_allocate_25 ?_
        exact v_ireturn dX10_allocate_26 rfl (h1 (by omega))
    · refine v_if_eq (tgt := 25) dX10_allocate_16 (by decide) (by decide) (fun q16 => ?_) (fun q16 => absurd q16 (by decide))
      refine v_iconst dX10_allocate_25 ?_
      exact v_ireturn dX10_allocate_26 rfl (h1 (by omega))
  · refine v_if_eq (tgt := 25) dX10_allocate_4 (by decide) (by decide) (fun q4 => ?_) (fun q4 => absurd q4 (by decide))
    refine v_iconst dX10_allocate_25 ?_
    exact v_ireturn dX10_allocate_26 rfl (h1 (by omega))
theorem c_X10_release {P : Int → S9 → Prop} {s : Int} (hT : ∀ i, 0 ≤ i → i < 4 → (-1 ≤ gI σ 107 i ∧ gI σ 107 i ≤ 3)) (hL : ∀ i, 0 ≤ i → i < 4 → gI σ 107 i ≠ -1 → (0 ≤ gI σ 108 i ∧ gI σ 108 i ≤ 40)) (hs : (-2147483648 ≤ s ∧ s < 2147483648)) (h1 : ¬ (0 ≤ s ∧ s < 4) → P (-1) σ) (h2 : (0 ≤ s ∧ s < 4) → gI σ 107 s = -1 → P 0 (sI σ 107 s (-1))) (h3 : (0 ≤ s ∧ s < 4) → gI σ 107 s ≠ -1 → P 1 (sI σ 107 s (-1))) : Cc (d + 2) mX10_release [.ref 97, .int (iI s)] σ (QI P) := by
  refine Cc_of (by decide +kernel) (fun _ => Nat.le_of_ble_eq_true rfl) rfl (lv := [_, _, _]) ?_
  refine v_iload_n dX10_release_0 rfl ?_
  refine v_callSi1 dX10_release_1 kX10_275 (Nat.le_of_ble_eq_true rfl) (c_X10_isSlot hs (fun zs => ?_) (fun zs => ?_))
  · refine v_if_ne (tgt := 9) dX10_release_4 (by decide) (by decide) (fun q4 => ?_) (fun q4 => absurd q4 (by decide))
    refine v_aload_n dX10_release_9 rfl ?_
    refine v_getR (k1 := 107) dX10_release_10 s_97 fX10_44 rfl ?_
    refine v_iload_n dX10_release_13 rfl ?_
    refine v_iaload dX10_release_14 s_107 (by omega) ?_
    refine v_iconst dX10_release_15 ?_
    refine v_icmp_ne (tgt := 23) dX10_release_16 (by decide) (by have := hT s zs.1 zs.2; omega) (fun q16 => ?_) (fun q16 => ?_)
    · refine v_iconst dX10_release_23 ?_
      refine v_istore_n (lv' := [_, _, _]) dX10_release_24 (Nat.le_of_ble_eq_true rfl) rfl rfl ?_
      refine v_aload_n dX10_release_25 rfl ?_
      refine v_getR (k1 := 107) dX10_release_26 s_97 fX10_44 rfl ?_
      refine v_iload_n dX10_release_29 rfl ?_
      refine v_iconst dX10_release_30 ?_
      refine v_iastore dX10_release_31 s_107 (by omega) ?_
      refine v_iload_n dX10_release_32 rfl ?_
      exact v_ireturn dX10_release_33 rfl (by first | exact h2 zs (by omega) | exact h3 zs (by omega))
    · refine v_iconst dX10_release_19 ?_
      refine v_goto (tgt := 24) dX10_release_20 (by decide) ?_
      refine v_istore_n (lv' := [_, _, _]) dX10_release_24 (Nat.le_of_ble_eq_true rfl) rfl rfl ?_
      refine v_aload_n dX10_release_25 rfl ?_
      refine v_getR (k1 := 107) dX10_release_26 s_97 fX10_44 rfl ?_
      refine v_iload_n dX10_release_29 rfl ?_
      refine v_iconst dX10_release_30 ?_
      refine v_iastore dX10_release_31 s_107 (by omega) ?_
      refine v_iload_n dX10_release_32 rfl ?_
      exact v_ireturn dX10_release_33 rfl (by first | exact h2 zs (by omega) | exact h3 zs (by omega))
  · refine v_if_ne (tgt := 9) dX10_release_4 (by decide) (by decide) (fun q4 => absurd q4 (by decide)) (fun q4 => ?_)
    refine v_iconst dX10_release_7 ?_
    exact v_ireturn dX10_release_8 rfl (h1 zs)
theorem c_X10_putElement {P : Int → S9 → Prop} {s x y : Int} (hT : ∀ i, 0 ≤ i → i < 4 → (-1 ≤ gI σ 107 i ∧ gI σ 107 i ≤ 3)) (hL : ∀ i, 0 ≤ i → i < 4 → gI σ 107 i ≠ -1 → (0 ≤ gI σ 108 i ∧ gI σ 108 i ≤ 40)) (hs : (-2147483648 ≤ s ∧ s < 2147483648)) (hx : (-2147483648 ≤ x ∧ x < 2147483648)) (h1 : ¬ (0 ≤ s ∧ s < 4) → P (-1) σ) (h2 : (0 ≤ s ∧ s < 4) → gI σ 107 s = -1 → P (-11) σ) (h3 : (0 ≤ s ∧ s < 4) → gI σ 107 s ≠ -1 → ¬ (0 ≤ x ∧ x < gI σ 108 s) → P (-13) σ) (h4 : (0 ≤ s ∧ s < 4) → gI σ 107 s ≠ -1 → (0 ≤ x ∧ x < gI σ 108 s) → ∀ z, (gI σ 107 s = 0 → z = (iI y).toInt) → (gI σ 107 s ≠ 0 → z = y) → P 1 (sD (sF (sL σ 109 (40 * s + x) z) 110 (40 * s + x) (FP.l2f (lI y))) 111 (40 * s + x) (FP.l2d (lI y)))) : Cc (d + 2) mX10_putElement [.ref 97, .int (iI s), .int (iI x), .long (lI y)] σ (QI P) := by
  refine Cc_of (by decide +kernel) (fun _ => Nat.le_of_ble_eq_true rfl) rfl (lv := [_, _, _, _, _, _]) ?_
  refine v_iload_n dX10_putElement_0 rfl ?_
  refine v_callSi1 dX10_putElement_1 kX10_275 (Nat.le_of_ble_eq_true rfl) (c_X10_isSlot hs (fun zs => ?_) (fun zs => ?_))
  · refine v_if_ne (tgt := 9) dX10_putElement_4 (by decide) (by decide) (fun q4 => ?_) (fun q4 => absurd q4 (by decide))
    refine v_aload_n dX10_putElement_9 rfl ?_
    refine v_getR (k1 := 107) dX10_putElement_10 s_97 fX10_44 rfl ?_
    refine v_iload_n dX10_putElement_13 rfl ?_
    refine v_iaload dX10_putElement_14 s_107 (by omega) ?_
    refine v_iconst dX10_putElement_15 ?_
    refine v_icmp_ne (tgt := 22) dX10_putElement_16 (by decide) (by have := hT s zs.1 zs.2; omega) (fun q16 => ?_) (fun q16 => ?_)
    · refine v_aload_n dX10_putElement_22 rfl ?_
      refine v_iload_n dX10_putElement_23 rfl ?_
      refine v_iload_n dX10_putElement_24 rfl ?_
      refine v_callVi2 dX10_putElement_25 kX10_278 s_97 (Nat.le_of_ble_eq_true rfl) (c_X10_isPlace zs (hL s zs.1 zs.2 q16) hx (fun zi => ?_) (fun zi => ?_))
      · refine v_if_ne (tgt := 34) dX10_putElement_28 (by decide) (by decide) (fun q28 => ?_) (fun q28 => absurd q28 (by decide))
        refine v_bipush dX10_putElement_34 (by decide) ?_
        refine v_iload_n dX10_putElement_36 rfl ?_
        refine v_imul dX10_putElement_37 ?_
        refine v_iload_n dX10_putElement_38 rfl ?_
        refine v_iadd dX10_putElement_39 ?_
        refine v_istore (lv' := [_, _, _, _, _, _]) dX10_putElement_40 (Nat.le_of_ble_eq_true rfl) rfl rfl ?_
        refine v_aload_n dX10_putElement_42 rfl ?_
        refine v_getR (k1 := 109) dX10_putElement_43 s_97 fX10_50 rfl ?_
        refine v_iload dX10_putElement_46 rfl ?_
        refine v_aload_n dX10_putElement_48 rfl ?_
        refine v_getR (k1 := 107) dX10_putElement_49 s_97 fX10_44 rfl ?_
        refine v_iload_n dX10_putElement_52 rfl ?_
        refine v_iaload dX10_putElement_53 s_107 (by omega) ?_
        refine v_if_ne (tgt := 63) dX10_putElement_54 (by decide) (by have := hT s zs.1 zs.2; omega) (fun q54 => ?_) (fun q54 => ?_)
        · refine v_lload_n dX10_putElement_63 rfl ?_
          refine v_lastore dX10_putElement_64 s_109 (by have := hL s zs.1 zs.2 q16; omega) ?_
          refine v_aload_n dX10_putElement_65 rfl ?_
          refine v_getR (k1 := 110) dX10_putElement_66 s_97 fX10_54 rfl ?_
          refine v_iload dX10_putElement_69 rfl ?_
          refine v_lload_n dX10_putElement_71 rfl ?_
          refine v_l2f dX10_putElement_72 ?_
          refine v_fastore dX10_putElement_73 s_110 (by have := hL s zs.1 zs.2 q16; omega) ?_
          refine v_aload_n dX10_putElement_74 rfl ?_
          refine v_getR (k1 := 111) dX10_putElement_75 s_97 fX10_57 rfl ?_
          refine v_iload dX10_putElement_78 rfl ?_
          refine v_lload_n dX10_putElement_80 rfl ?_
          refine v_l2d dX10_putElement_81 ?_
          refine v_dastore dX10_putElement_82 s_111 (by have := hL s zs.1 zs.2 q16; omega) ?_
          refine v_iconst dX10_putElement_83 ?_
          exact v_ireturn dX10_putElement_84 rfl (by first | exact h4 zs q16 zi _ (fun _ => rfl) (fun z => absurd q54 z) | exact h4 zs q16 zi _ (fun z => absurd z q54) (fun _ => rfl))
        · refine v_lload_n dX10_putElement_57 rfl ?_
          refine v_l2i dX10_putElement_58 ?_
          rw [← iI_of (iI y)]
          have hb1 := Int32.le_toInt (iI y)
          have hb2 := Int32.toInt_lt (iI y)
          refine v_i2l dX10_putElement_59 (by omega) ?_
          refine v_goto (tgt := 64) dX10_putElement_60 (by decide) ?_
          refine v_lastore dX10_putElement_64 s_109 (by have := hL s zs.1 zs.2 q16; omega) ?_
          refine v_aload_n dX10_putElement_65 rfl ?_
          refine v_getR (k1 := 110) dX10_putElement_66 s_97 fX10_54 rfl ?_
          refine v_iload dX10_putElement_69 rfl ?_
          refine v_lload_n dX10_putElement_71 rfl ?_
          refine v_l2f dX10_putElement_72 ?_
          refine v_fastore dX10_putElement_73 s_110 (by have := hL s zs.1 zs.2 q16; omega) ?_
          refine v_aload_n dX10_putElement_74 rfl ?_
          refine v_getR (k1 := 111) dX10_putElement_75 s_97 fX10_57 rfl ?_
          refine v_iload dX10_putElement_78 rfl ?_
          refine v_lload_n dX10_putElement_80 rfl ?_
          refine v_l2d dX10_putElement_81 ?_
          refine v_dastore dX10_putElement_82 s_111 (by have := hL s zs.1 zs.2 q16; omega) ?_
          refine v_iconst dX10_putElement_83 ?_
          exact v_ireturn dX10_putElement_84 rfl (by first | exact h4 zs q16 zi _ (fun _ => rfl) (fun z => absurd q54 z) | exact h4 zs q16 zi _ (fun z => absurd z q54) (fun _ => rfl))
      · refine v_if_ne (tgt := 34) dX10_putElement_28 (by decide) (by decide) (fun q28 => absurd q28 (by decide)) (fun q28 => ?_)
        refine v_bipush dX10_putElement_31 (by decide) ?_
        exact v_ireturn dX10_putElement_33 rfl (h3 zs q16 zi)
    · refine v_bipush dX10_putElement_19 (by decide) ?_
      exact v_ireturn dX10_putElement_21 rfl (h2 zs q16)
  · refine v_if_ne (tgt := 9) dX10_putElement_4 (by decide) (by decide) (fun q4 => absurd q4 (by decide)) (fun q4 => ?_)
    refine v_iconst dX10_putElement_7 ?_
    exact v_ireturn dX10_putElement_8 rfl (h1 zs)
theorem c_X10_divideElement {P : Int → S9 → Prop} {s x y : Int} (hT : ∀ i, 0 ≤ i → i < 4 → (-1 ≤ gI σ 107 i ∧ gI σ 107 i ≤ 3)) (hL : ∀ i, 0 ≤ i → i < 4 → gI σ 107 i ≠ -1 → (0 ≤ gI σ 108 i ∧ gI σ 108 i ≤ 40)) (hs : (-2147483648 ≤ s ∧ s < 2147483648)) (hx : (-2147483648 ≤ x ∧ x < 2147483648)) (h1 : ¬ (0 ≤ s ∧ s < 4) → P (-1) σ) (h2 : (0 ≤ s ∧ s < 4) → gI σ 107 s = -1 → P (-11) σ) (h3 : (0 ≤ s ∧ s < 4) → (gI σ 107 s = 0 ∨ gI σ 107 s = 1) → P (-12) σ) (h4 : (0 ≤ s ∧ s < 4) → 2 ≤ gI σ 107 s → ¬ (0 ≤ x ∧ x < gI σ 108 s) → P (-13) σ) (h5 : (0 ≤ s ∧ s < 4) → 2 ≤ gI σ 107 s → (0 ≤ x ∧ x < gI σ 108 s) → ∀ a b, alike32 a (FP.fdiv (gF σ 110 (40 * s + x)) (FP.i2f (iI y))) = true → alike64 b (FP.ddiv (gD σ 111 (40 * s + x)) (FP.i2d (iI y))) = true → P 1 (sD (sF σ 110 (40 * s + x) a) 111 (40 * s + x) b)) : Cc (d + 2) mX10_divideElement [.ref 97, .int (iI s), .int (iI x), .int (iI y)] σ (QI P) := by
  refine Cc_of (by decide +kernel) (fun _ => Nat.le_of_ble_eq_true rfl) rfl (lv := [_, _, _, _, _]) ?_
  refine v_iload_n dX10_divideElement_0 rfl ?_
  refine v_callSi1 dX10_divideElement_1 kX10_275 (Nat.le_of_ble_eq_true rfl) (c_X10_isSlot hs (fun zs => ?_) (fun zs => ?_))
  · refine v_if_ne (tgt := 9) dX10_divideElement_4 (by decide) (by decide) (fun q4 => ?_) (fun q4 => absurd q4 (by decide))
    refine v_aload_n dX10_divideElement_9 rfl ?_
    refine v_getR (k1 := 107) dX10_divideElement_10 s_97 fX10_44 rfl ?_
    refine v_iload_n dX10_divideElement_13 rfl ?_
    refine v_iaload dX10_divideElement_14 s_107 (by omega) ?_
    refine v_iconst dX10_divideElement_15 ?_
    refine v_icmp_ne (tgt := 22) dX10_divideElement_16 (by decide) (by have := hT s zs.1 zs.2; omega) (fun q16 => ?_) (fun q16 => ?_)
    · refine v_aload_n dX10_divideElement_22 rfl ?_
      refine v_getR (k1 := 107) dX10_divideElement_23 s_97 fX10_44 rfl ?_
      refine v_iload_n dX10_divideElement_26 rfl ?_
      refine v_iaload dX10_divideElement_27 s_107 (by omega) ?_
      refine v_iconst dX10_divideElement_28 ?_
      refine v_icmp_ge (tgt := 35) dX10_divideElement_29 (by decide) (by have := hT s zs.1 zs.2; omega) (fun q29 => ?_) (fun q29 => ?_)
      · refine v_aload_n dX10_divideElement_35 rfl ?_
        refine v_iload_n dX10_divideElement_36 rfl ?_
        refine v_iload_n dX10_divideElement_37 rfl ?_
        refine v_callVi2 dX10_divideElement_38 kX10_278 s_97 (Nat.le_of_ble_eq_true rfl) (c_X10_isPlace zs (hL s zs.1 zs.2 q16) hx (fun zi => ?_) (fun zi => ?_))
        · refine v_if_ne (tgt := 47) dX10_divideElement_41 (by decide) (by decide) (fun q41 => ?_) (fun q41 => absurd q41 (by decide))
          refine v_bipush dX10_divideElement_47 (by decide) ?_
          refine v_iload_n dX10_divideElement_49 rfl ?_
          refine v_imul dX10_divideElement_50 ?_
          refine v_iload_n dX10_divideElement_51 rfl ?_
          refine v_iadd dX10_divideElement_52 ?_
          refine v_istore (lv' := [_, _, _, _, _]) dX10_divideElement_53 (Nat.le_of_ble_eq_true rfl) rfl rfl ?_
          refine v_aload_n dX10_divideElement_55 rfl ?_
          refine v_getR (k1 := 110) dX10_divideElement_56 s_97 fX10_54 rfl ?_
          refine v_iload dX10_divideElement_59 rfl ?_
          refine v_aload_n dX10_divideElement_61 rfl ?_
          refine v_getR (k1 := 110) dX10_divideElement_62 s_97 fX10_54 rfl ?_
          refine v_iload dX10_divideElement_65 rfl ?_
          refine v_faload dX10_divideElement_67 s_110 (by have := hL s zs.1 zs.2 q16; omega) ?_
          refine v_iload_n dX10_divideElement_68 rfl ?_
          refine v_i2f dX10_divideElement_69 ?_
          refine v_fdiv dX10_divideElement_70 (fun r70 hr70 => ?_)
          refine v_fastore dX10_divideElement_71 s_110 (by have := hL s zs.1 zs.2 q16; omega) ?_
          refine v_aload_n dX10_divideElement_72 rfl ?_
          refine v_getR (k1 := 111) dX10_divideElement_73 s_97 fX10_57 rfl ?_
          refine v_iload dX10_divideElement_76 rfl ?_
          refine v_aload_n dX10_divideElement_78 rfl ?_
          refine v_getR (k1 := 111) dX10_divideElement_79 s_97 fX10_57 rfl ?_
          refine v_iload dX10_divideElement_82 rfl ?_
          refine v_daload dX10_divideElement_84 s_111 (by have := hL s zs.1 zs.2 q16; omega) ?_
          refine v_iload_n dX10_divideElement_85 rfl ?_
          refine v_i2d dX10_divideElement_86 ?_
          refine v_ddiv dX10_divideElement_87 (fun r87 hr87 => ?_)
          refine v_dastore dX10_divideElement_88 s_111 (by have := hL s zs.1 zs.2 q16; omega) ?_
          refine v_iconst dX10_divideElement_89 ?_
          exact v_ireturn dX10_divideElement_90 rfl (h5 zs q29 zi _ _ hr70 hr87)
        · refine v_if_ne (tgt := 47) dX10_divideElement_41 (by decide) (by decide) (fun q41 => absurd q41 (by decide)) (fun q41 => ?_)
          refine v_bipush dX10_divideElement_44 (by decide) ?_
          exact v_ireturn dX10_divideElement_46 rfl (h4 zs q29 zi)
      · refine v_bipush dX10_divideElement_32 (by decide) ?_
        exact v_ireturn dX10_divideElement_34 rfl (h3 zs (by have := hT s zs.1 zs.2; omega))
    · refine v_bipush dX10_divideElement_19 (by decide) ?_
      exact v_ireturn dX10_divideElement_21 rfl (h2 zs q16)
  · refine v_if_ne (tgt := 9) dX10_divideElement_4 (by decide) (by decide) (fun q4 => absurd q4 (by decide)) (fun q4 => ?_)
    refine v_iconst dX10_divideElement_7 ?_
    exact v_ireturn dX10_divideElement_8 rfl (h1 zs)
theorem c_X10_element {P : Int → S9 → Prop} {s x : Int} (hT : ∀ i, 0 ≤ i → i < 4 → (-1 ≤ gI σ 107 i ∧ gI σ 107 i ≤ 3)) (hL : ∀ i, 0 ≤ i → i < 4 → gI σ 107 i ≠ -1 → (0 ≤ gI σ 108 i ∧ gI σ 108 i ≤ 40)) (hs : (-2147483648 ≤ s ∧ s < 2147483648)) (hx : (-2147483648 ≤ x ∧ x < 2147483648)) (h1 : ¬ ((0 ≤ s ∧ s < 4) ∧ gI σ 107 s ≠ -1 ∧ 0 ≤ x ∧ x < gI σ 108 s) → P (-9223372036854775808) σ) (h2 : (0 ≤ s ∧ s < 4) → gI σ 107 s ≠ -1 → (0 ≤ x ∧ x < gI σ 108 s) → (gI σ 107 s < 2 → P (gL σ 109 (40 * s + x)) σ) ∧ (gI σ 107 s = 2 → P (FP.f2l (gF σ 110 (40 * s + x))).toInt σ) ∧ (gI σ 107 s = 3 → P (FP.d2l (gD σ 111 (40 * s + x))).toInt σ)) : Cc (d + 2) mX10_element [.ref 97, .int (iI s), .int (iI x)] σ (QL P) := by
  refine Cc_of (by decide +kernel) (fun _ => Nat.le_of_ble_eq_true rfl) rfl (lv := [_, _, _, _]) ?_
  refine v_iload_n dX10_element_0 rfl ?_
  refine v_callSi1 dX10_element_1 kX10_275 (Nat.le_of_ble_eq_true rfl) (c_X10_isSlot hs (fun zs => ?_) (fun zs => ?_))
  · refine v_if_eq (tgt := 26) dX10_element_4 (by decide) (by decide) (fun q4 => absurd q4 (by decide)) (fun q4 => ?_)
    refine v_aload_n dX10_element_7 rfl ?_
    refine v_getR (k1 := 107) dX10_element_8 s_97 fX10_44 rfl ?_
    refine v_iload_n dX10_element_11 rfl ?_
    refine v_iaload dX10_element_12 s_107 (by omega) ?_
    refine v_iconst dX10_element_13 ?_
    refine v_icmp_eq (tgt := 26) dX10_element_14 (by decide) (by have := hT s zs.1 zs.2; omega) (fun q14 => ?_) (fun q14 => ?_)
    · refine v_ldc2 dX10_element_26 wX10_263 ?_
      exact v_lreturn dX10_element_29 rfl (h1 (by omega))
    · refine v_aload_n dX10_element_17 rfl ?_
      refine v_iload_n dX10_element_18 rfl ?_
      refine v_iload_n dX10_element_19 rfl ?_
      refine v_callVi2 dX10_element_20 kX10_278 s_97 (Nat.le_of_ble_eq_true rfl) (c_X10_isPlace zs (hL s zs.1 zs.2 q14) hx (fun zi => ?_) (fun zi => ?_))
      · refine v_if_ne (tgt := 30) dX10_element_23 (by decide) (by decide) (fun q23 => ?_) (fun q23 => absurd q23 (by decide))
        refine v_bipush dX10_element_30 (by decide) ?_
        refine v_iload_n dX10_element_32 rfl ?_
        refine v_imul dX10_element_33 ?_
        refine v_iload_n dX10_element_34 rfl ?_
        refine v_iadd dX10_element_35 ?_
        refine v_istore_n (lv' := [_, _, _, _]) dX10_element_36 (Nat.le_of_ble_eq_true rfl) rfl rfl ?_
        refine v_aload_n dX10_element_37 rfl ?_
        refine v_getR (k1 := 107) dX10_element_38 s_97 fX10_44 rfl ?_
        refine v_iload_n dX10_element_41 rfl ?_
        refine v_iaload dX10_element_42 s_107 (by omega) ?_
        refine v_iconst dX10_element_43 ?_
        refine v_icmp_ge (tgt := 56) dX10_element_44 (by decide) (by have := hT s zs.1 zs.2; omega) (fun q44 => ?_) (fun q44 => ?_)
        · refine v_aload_n dX10_element_56 rfl ?_
          refine v_getR (k1 := 107) dX10_element_57 s_97 fX10_44 rfl ?_
          refine v_iload_n dX10_element_60 rfl ?_
          refine v_iaload dX10_element_61 s_107 (by omega) ?_
          refine v_iconst dX10_element_62 ?_
          refine v_icmp_ne (tgt := 76) dX10_element_63 (by decide) (by have := hT s zs.1 zs.2; omega) (fun q63 => ?_) (fun q63 => ?_)
          · refine v_aload_n dX10_element_76 rfl ?_
            refine v_getR (k1 := 111) dX10_element_77 s_97 fX10_57 rfl ?_
            refine v_iload_n dX10_element_80 rfl ?_
            refine v_daload dX10_element_81 s_111 (by have := hL s zs.1 zs.2 q14; omega) ?_
            refine v_d2l dX10_element_82 ((lI_of _).symm) ?_
            exact v_lreturn dX10_element_83 rfl (by have := hT s zs.1 zs.2; first | exact (h2 zs q14 zi).1 (by omega) | exact (h2 zs q14 zi).2.1 (by omega) | exact (h2 zs q14 zi).2.2 (by omega))
          · refine v_aload_n dX10_element_66 rfl ?_
            refine v_getR (k1 := 110) dX10_element_67 s_97 fX10_54 rfl ?_
            refine v_iload_n dX10_element_70 rfl ?_
            refine v_faload dX10_element_71 s_110 (by have := hL s zs.1 zs.2 q14; omega) ?_
            refine v_f2l dX10_element_72 ((lI_of _).symm) ?_
            refine v_goto (tgt := 83) dX10_element_73 (by decide) ?_
            exact v_lreturn dX10_element_83 rfl (by have := hT s zs.1 zs.2; first | exact (h2 zs q14 zi).1 (by omega) | exact (h2 zs q14 zi).2.1 (by omega) | exact (h2 zs q14 zi).2.2 (by omega))
        · refine v_aload_n dX10_element_47 rfl ?_
          refine v_getR (k1 := 109) dX10_element_48 s_97 fX10_50 rfl ?_
          refine v_iload_n dX10_element_51 rfl ?_
          refine v_laload dX10_element_52 s_109 (by have := hL s zs.1 zs.2 q14; omega) ?_
          refine v_goto (tgt := 83) dX10_element_53 (by decide) ?_
          exact v_lreturn dX10_element_83 rfl (by have := hT s zs.1 zs.2; first | exact (h2 zs q14 zi).1 (by omega) | exact (h2 zs q14 zi).2.1 (by omega) | exact (h2 zs q14 zi).2.2 (by omega))
      · refine v_if_ne (tgt := 30) dX10_element_23 (by decide) (by decide) (fun q23 => absurd q23 (by decide)) (fun q23 => ?_)
        refine v_ldc2 dX10_element_26 wX10_263 ?_
        exact v_lreturn dX10_element_29 rfl (h1 (by omega))
  · refine v_if_eq (tgt := 26) dX10_element_4 (by decide) (by decide) (fun q4 => ?_) (fun q4 => absurd q4 (by decide))
    refine v_ldc2 dX10_element_26 wX10_263 ?_
    exact v_lreturn dX10_element_29 rfl (h1 (by omega))
theorem c_X10_copyElements {P : Int → S9 → Prop} {s a u b m : Int} (hT : ∀ i, 0 ≤ i → i < 4 → (-1 ≤ gI σ 107 i ∧ gI σ 107 i ≤ 3)) (hL : ∀ i, 0 ≤ i → i < 4 → gI σ 107 i ≠ -1 → (0 ≤ gI σ 108 i ∧ gI σ 108 i ≤ 40)) (hs : (-2147483648 ≤ s ∧ s < 2147483648)) (ha : (-2147483648 ≤ a ∧ a < 2147483648)) (hu : (-2147483648 ≤ u ∧ u < 2147483648)) (hb : (-2147483648 ≤ b ∧ b < 2147483648)) (hm : (-2147483648 ≤ m ∧ m < 2147483648)) (h1 : ¬ ((0 ≤ s ∧ s < 4) ∧ 0 ≤ u ∧ u < 4) → P (-1) σ) (h2 : (0 ≤ s ∧ s < 4) ∧ (0 ≤ u ∧ u < 4) → (gI σ 107 s = -1 ∨ gI σ 107 u = -1) → P (-11) σ) (h3 : (0 ≤ s ∧ s < 4) ∧ (0 ≤ u ∧ u < 4) → gI σ 107 s ≠ -1 → gI σ 107 u ≠ -1 → gI σ 107 s ≠ gI σ 107 u → P (-12) σ)
    (h4 : (0 ≤ s ∧ s < 4) ∧ (0 ≤ u ∧ u < 4) → gI σ 107 s ≠ -1 → gI σ 107 s = gI σ 107 u → ¬ ((0 ≤ a ∧ 0 ≤ m ∧ a + m ≤ gI σ 108 s) ∧ 0 ≤ b ∧ 0 ≤ m ∧ b + m ≤ gI σ 108 u) → P (-13) σ)
    (h5 : (0 ≤ s ∧ s < 4) ∧ (0 ≤ u ∧ u < 4) → gI σ 107 s ≠ -1 → gI σ 107 s = gI σ 107 u → ((0 ≤ a ∧ 0 ≤ m ∧ a + m ≤ gI σ 108 s) ∧ 0 ≤ b ∧ 0 ≤ m ∧ b + m ≤ gI σ 108 u) → ∀ τ, eq9 (fun k => k ≠ 109 ∧ k ≠ 110 ∧ k ≠ 111) σ τ → gL τ 109 = cpy9 (gL σ 109) (gL σ 109) (40 * s + a) (40 * u + b) m → gF τ 110 = cpy9 (gF σ 110) (gF σ 110) (40 * s + a) (40 * u + b) m → gD τ 111 = cpy9 (gD σ 111) (gD σ 111) (40 * s + a) (40 * u + b) m → P m τ) : Cc (d + 2) mX10_copyElements [.ref 97, .int (iI s), .int (iI a), .int (iI u), .int (iI b), .int (iI m)] σ (QI P) := by
  refine Cc_of (by decide +kernel) (fun _ => Nat.le_of_ble_eq_true rfl) rfl (lv := [_, _, _, _, _, _, _, _, _, _, _]) ?_
  have K : (0 ≤ s ∧ s < 4) ∧ (0 ≤ u ∧ u < 4) → gI σ 107 s ≠ -1 → gI σ 107 s = gI σ 107 u → ((0 ≤ a ∧ 0 ≤ m ∧ a + m ≤ gI σ 108 s) ∧ 0 ≤ b ∧ 0 ≤ m ∧ b + m ≤ gI σ 108 u) → Vv (d + 2) mX10_copyElements 141 [.ref 97, .int (iI s), .int (iI a), .int (iI u), .int (iI b), .int (iI m), .int (iI 1), .int (iI (40 * s + a)), .int (iI (40 * u + b)), .int (iI 0), .null] [] σ (QI P) := by
    intro hc hc1 hc2 hc3
    have h5 := h5 hc hc1 hc2 hc3
    have hls := hL s hc.1.1 hc.1.2 hc1
    have hlu := hL u hc.2.1 hc.2.2 (by rw [← hc2]; exact hc1)
    obtain ⟨A, eA⟩ : ∃ A, 40 * s + a = A := ⟨_, rfl⟩
    obtain ⟨B, eB⟩ : ∃ B, 40 * u + b = B := ⟨_, rfl⟩
    rw [eA, eB] at h5
    rw [eA, eB]
    by_cases hab : A < B
    · have KD : ∀ (q : Nat) (i : Int) (τ : S9), 0 ≤ i → i + q = m → eq9 (fun k => k ≠ 109 ∧ k ≠ 110 ∧ k ≠ 111) σ τ → gL τ 109 = cpy9 (gL σ 109) (gL σ 109) (A + (m - i)) (B + (m - i)) i → gF τ 110 = cpy9 (gF σ 110) (gF σ 110) (A + (m - i)) (B + (m - i)) i → gD τ 111 = cpy9 (gD σ 111) (gD σ 111) (A + (m - i)) (B + (m - i)) i → ∀ l10, Vv (d + 2) mX10_copyElements 141 [.ref 97, .int (iI s), .int (iI a), .int (iI u), .int (iI b), .int (iI m), .int (iI 1), .int (iI A), .int (iI B), .int (iI i), l10] [] τ (QI P) := by
        intro q
        induction q with
        | zero =>
          intro i τ hi hq e1 e2 e3 e4 l10
          refine v_iload dX10_copyElements_141 rfl ?_
          refine v_iload dX10_copyElements_143 rfl ?_
          refine v_icmp_ge (tgt := 235) dX10_copyElements_145 (by decide) (by omega) (fun q145 => ?_) (fun q145 => absurd q145 (by omega))
          refine v_iload dX10_copyElements_235 rfl ?_
          exact v_ireturn dX10_copyElements_237 rfl (by rw [show i = m by omega, show A + (m - m) = A by omega, show B + (m - m) = B by omega] at e2 e3 e4; exact h5 τ e1 e2 e3 e4)
        | succ q ih =>
          intro i τ hi hq e1 e2 e3 e4 l10
          refine v_iload dX10_copyElements_141 rfl ?_
          refine v_iload dX10_copyElements_143 rfl ?_
          refine v_icmp_ge (tgt := 235) dX10_copyElements_145 (by decide) (by omega) (fun q145 => absurd q145 (by omega)) (fun q145 => ?_)
          refine v_iload dX10_copyElements_148 rfl ?_
          refine v_iload dX10_copyElements_150 rfl ?_
          refine v_icmp_ge (tgt := 165) dX10_copyElements_152 (by decide) (by omega) (fun q152 => absurd q152 (by omega)) (fun q152 => ?_)
          refine v_iload dX10_copyElements_155 rfl ?_
          refine v_iconst dX10_copyElements_157 ?_
          refine v_isub dX10_copyElements_158 ?_
          refine v_iload dX10_copyElements_159 rfl ?_
          refine v_isub dX10_copyElements_161 ?_
          refine v_goto (tgt := 167) dX10_copyElements_162 (by decide) ?_
          refine v_istore (lv' := [_, _, _, _, _, _, _, _, _, _, _]) dX10_copyElements_167 (Nat.le_of_ble_eq_true rfl) rfl rfl ?_
          refine v_aload_n dX10_copyElements_169 rfl ?_
          refine v_getR (k1 := 109) dX10_copyElements_170 s_97 fX10_50 rfl ?_
          refine v_iload dX10_copyElements_173 rfl ?_
          refine v_iload dX10_copyElements_175 rfl ?_
          refine v_iadd dX10_copyElements_177 ?_
          refine v_aload_n dX10_copyElements_178 rfl ?_
          refine v_getR (k1 := 109) dX10_copyElements_179 s_97 fX10_50 rfl ?_
          refine v_iload dX10_copyElements_182 rfl ?_
          refine v_iload dX10_copyElements_184 rfl ?_
          refine v_iadd dX10_copyElements_186 ?_
          refine v_laload dX10_copyElements_187 s_109 (by omega) ?_
          refine v_lastore dX10_copyElements_188 s_109 (by omega) ?_
          refine v_aload_n dX10_copyElements_189 rfl ?_
          refine v_getR (k1 := 110) dX10_copyElements_190 s_97 fX10_54 rfl ?_
          refine v_iload dX10_copyElements_193 rfl ?_
          refine v_iload dX10_copyElements_195 rfl ?_
          refine v_iadd dX10_copyElements_197 ?_
          refine v_aload_n dX10_copyElements_198 rfl ?_
          refine v_getR (k1 := 110) dX10_copyElements_199 s_97 fX10_54 rfl ?_
          refine v_iload dX10_copyElements_202 rfl ?_
          refine v_iload dX10_copyElements_204 rfl ?_
          refine v_iadd dX10_copyElements_206 ?_
          refine v_faload dX10_copyElements_207 s_110 (by omega) ?_
          refine v_fastore dX10_copyElements_208 s_110 (by omega) ?_
          refine v_aload_n dX10_copyElements_209 rfl ?_
          refine v_getR (k1 := 111) dX10_copyElements_210 s_97 fX10_57 rfl ?_
          refine v_iload dX10_copyElements_213 rfl ?_
          refine v_iload dX10_copyElements_215 rfl ?_
          refine v_iadd dX10_copyElements_217 ?_
          refine v_aload_n dX10_copyElements_218 rfl ?_
          refine v_getR (k1 := 111) dX10_copyElements_219 s_97 fX10_57 rfl ?_
          refine v_iload dX10_copyElements_222 rfl ?_
          refine v_iload dX10_copyElements_224 rfl ?_
          refine v_iadd dX10_copyElements_226 ?_
          refine v_daload dX10_copyElements_227 s_111 (by omega) ?_
          refine v_dastore dX10_copyElements_228 s_111 (by omega) ?_
          refine v_iinc (lv' := [_, _, _, _, _, _, _, _, _, _, _]) dX10_copyElements_229 rfl (Nat.le_of_ble_eq_true rfl) rfl rfl ?_
          refine v_goto (tgt := 141) dX10_copyElements_232 (by decide) ?_
          refine ih (i + 1) _ (by omega) (by omega) (((e1.tr (eq9.aL (fun z => z.1 rfl))).tr (eq9.aF (fun z => z.2.1 rfl))).tr (eq9.aD (fun z => z.2.2 rfl))) ?_ ?_ ?_ _
          · show gL (sL τ 109 (B + (m - 1 - i)) (gL τ 109 (A + (m - 1 - i)))) 109 = _
            rw [gL_aL_eq, e2, show A + (m - (i + 1)) = A + (m - i) - 1 by omega, show B + (m - (i + 1)) = B + (m - i) - 1 by omega, show B + (m - 1 - i) = B + (m - i) - 1 by omega, show A + (m - 1 - i) = A + (m - i) - 1 by omega]
            exact cpy9_dn _ hi (cpy9_out (by omega))
          · show gF (sF τ 110 (B + (m - 1 - i)) (gF τ 110 (A + (m - 1 - i)))) 110 = _
            rw [gF_aF_eq, e3, show A + (m - (i + 1)) = A + (m - i) - 1 by omega, show B + (m - (i + 1)) = B + (m - i) - 1 by omega, show B + (m - 1 - i) = B + (m - i) - 1 by omega, show A + (m - 1 - i) = A + (m - i) - 1 by omega]
            exact cpy9_dn _ hi (cpy9_out (by omega))
          · show gD (sD τ 111 (B + (m - 1 - i)) (gD τ 111 (A + (m - 1 - i)))) 111 = _
            rw [gD_aD_eq, e4, show A + (m - (i + 1)) = A + (m - i) - 1 by omega, show B + (m - (i + 1)) = B + (m - i) - 1 by omega, show B + (m - 1 - i) = B + (m - i) - 1 by omega, show A + (m - 1 - i) = A + (m - i) - 1 by omega]
            exact cpy9_dn _ hi (cpy9_out (by omega))
      exact KD m.toNat 0 σ (by omega) (by omega) eq9.rf cpy9_0.symm cpy9_0.symm cpy9_0.symm _
    · have KU : ∀ (q : Nat) (i : Int) (τ : S9), 0 ≤ i → i + q = m → eq9 (fun k => k ≠ 109 ∧ k ≠ 110 ∧ k ≠ 111) σ τ → gL τ 109 = cpy9 (gL σ 109) (gL σ 109) A B i → gF τ 110 = cpy9 (gF σ 110) (gF σ 110) A B i → gD τ 111 = cpy9 (gD σ 111) (gD σ 111) A B i → ∀ l10, Vv (d + 2) mX10_copyElements 141 [.ref 97, .int (iI s), .int (iI a), .int (iI u), .int (iI b), .int (iI m), .int (iI 1), .int (iI A), .int (iI B), .int (iI i), l10] [] τ (QI P) := by
        intro q
        induction q with
        | zero =>
          intro i τ hi hq e1 e2 e3 e4 l10
          refine v_iload dX10_copyElements_141 rfl ?_
          refine v_iload dX10_copyElements_143 rfl ?_
          refine v_icmp_ge (tgt := 235) dX10_copyElements_145 (by decide) (by omega) (fun q145 => ?_) (fun q145 => absurd q145 (by omega))
          refine v_iload dX10_copyElements_235 rfl ?_
          exact v_ireturn dX10_copyElements_237 rfl (by rw [show i = m by omega] at e2 e3 e4; exact h5 τ e1 e2 e3 e4)
        | succ q ih =>
          intro i τ hi hq e1 e2 e3 e4 l10
          refine v_iload dX10_copyElements_141 rfl ?_
          refine v_iload dX10_copyElements_143 rfl ?_
          refine v_icmp_ge (tgt := 235) dX10_copyElements_145 (by decide) (by omega) (fun q145 => absurd q145 (by omega)) (fun q145 => ?_)
          refine v_iload dX10_copyElements_148 rfl ?_
          refine v_iload dX10_copyElements_150 rfl ?_
          refine v_icmp_ge (tgt := 165) dX10_copyElements_152 (by decide) (by omega) (fun q152 => ?_) (fun q152 => absurd q152 (by omega))
          refine v_iload dX10_copyElements_165 rfl ?_
          refine v_istore (lv' := [_, _, _, _, _, _, _, _, _, _, _]) dX10_copyElements_167 (Nat.le_of_ble_eq_true rfl) rfl rfl ?_
          refine v_aload_n dX10_copyElements_169 rfl ?_
          refine v_getR (k1 := 109) dX10_copyElements_170 s_97 fX10_50 rfl ?_
          refine v_iload dX10_copyElements_173 rfl ?_
          refine v_iload dX10_copyElements_175 rfl ?_
          refine v_iadd dX10_copyElements_177 ?_
          refine v_aload_n dX10_copyElements_178 rfl ?_
          refine v_getR (k1 := 109) dX10_copyElements_179 s_97 fX10_50 rfl ?_
          refine v_iload dX10_copyElements_182 rfl ?_
          refine v_iload dX10_copyElements_184 rfl ?_
          refine v_iadd dX10_copyElements_186 ?_
          refine v_laload dX10_copyElements_187 s_109 (by omega) ?_
          refine v_lastore dX10_copyElements_188 s_109 (by omega) ?_
          refine v_aload_n dX10_copyElements_189 rfl ?_
          refine v_getR (k1 := 110) dX10_copyElements_190 s_97 fX10_54 rfl ?_
          refine v_iload dX10_copyElements_193 rfl ?_
          refine v_iload dX10_copyElements_195 rfl ?_
          refine v_iadd dX10_copyElements_197 ?_
          refine v_aload_n dX10_copyElements_198 rfl ?_
          refine v_getR (k1 := 110) dX10_copyElements_199 s_97 fX10_54 rfl ?_
          refine v_iload dX10_copyElements_202 rfl ?_
          refine v_iload dX10_copyElements_204 rfl ?_
          refine v_iadd dX10_copyElements_206 ?_
          refine v_faload dX10_copyElements_207 s_110 (by omega) ?_
          refine v_fastore dX10_copyElements_208 s_110 (by omega) ?_
          refine v_aload_n dX10_copyElements_209 rfl ?_
          refine v_getR (k1 := 111) dX10_copyElements_210 s_97 fX10_57 rfl ?_
          refine v_iload dX10_copyElements_213 rfl ?_
          refine v_iload dX10_copyElements_215 rfl ?_
          refine v_iadd dX10_copyElements_217 ?_
          refine v_aload_n dX10_copyElements_218 rfl ?_
          refine v_getR (k1 := 111) dX10_copyElements_219 s_97 fX10_57 rfl ?_
          refine v_iload dX10_copyElements_222 rfl ?_
          refine v_iload dX10_copyElements_224 rfl ?_
          refine v_iadd dX10_copyElements_226 ?_
          refine v_daload dX10_copyElements_227 s_111 (by omega) ?_
          refine v_dastore dX10_copyElements_228 s_111 (by omega) ?_
          refine v_iinc (lv' := [_, _, _, _, _, _, _, _, _, _, _]) dX10_copyElements_229 rfl (Nat.le_of_ble_eq_true rfl) rfl rfl ?_
          refine v_goto (tgt := 141) dX10_copyElements_232 (by decide) ?_
          refine ih (i + 1) _ (by omega) (by omega) (((e1.tr (eq9.aL (fun z => z.1 rfl))).tr (eq9.aF (fun z => z.2.1 rfl))).tr (eq9.aD (fun z => z.2.2 rfl))) ?_ ?_ ?_ _
          · show gL (sL τ 109 (B + i) (gL τ 109 (A + i))) 109 = _
            rw [gL_aL_eq, e2]
            exact cpy9_up _ hi (cpy9_out (by omega))
          · show gF (sF τ 110 (B + i) (gF τ 110 (A + i))) 110 = _
            rw [gF_aF_eq, e3]
            exact cpy9_up _ hi (cpy9_out (by omega))
          · show gD (sD τ 111 (B + i) (gD τ 111 (A + i))) 111 = _
            rw [gD_aD_eq, e4]
            exact cpy9_up _ hi (cpy9_out (by omega))
      exact KU m.toNat 0 σ (by omega) (by omega) eq9.rf cpy9_0.symm cpy9_0.symm cpy9_0.symm _
  refine v_iload_n dX10_copyElements_0 rfl ?_
  refine v_callSi1 dX10_copyElements_1 kX10_275 (Nat.le_of_ble_eq_true rfl) (c_X10_isSlot hs (fun zs => ?_) (fun zs => ?_))
  · refine v_if_eq (tgt := 14) dX10_copyElements_4 (by decide) (by decide) (fun q4 => absurd q4 (by decide)) (fun q4 => ?_)
    refine v_iload_n dX10_copyElements_7 rfl ?_
    refine v_callSi1 dX10_copyElements_8 kX10_275 (Nat.le_of_ble_eq_true rfl) (c_X10_isSlot hu (fun zu => ?_) (fun zu => ?_))
    · refine v_if_ne (tgt := 16) dX10_copyElements_11 (by decide) (by decide) (fun q11 => ?_) (fun q11 => absurd q11 (by decide))
      refine v_aload_n dX10_copyElements_16 rfl ?_
      refine v_getR (k1 := 107) dX10_copyElements_17 s_97 fX10_44 rfl ?_
      refine v_iload_n dX10_copyElements_20 rfl ?_
      refine v_iaload dX10_copyElements_21 s_107 (by omega) ?_
      refine v_iconst dX10_copyElements_22 ?_
      refine v_icmp_eq (tgt := 36) dX10_copyElements_23 (by decide) (by have := hT s zs.1 zs.2; omega) (fun q23 => ?_) (fun q23 => ?_)
      · refine v_bipush dX10_copyElements_36 (by decide) ?_
        exact v_ireturn dX10_copyElements_38 rfl (h2 ⟨zs, zu⟩ (by omega))
      · refine v_aload_n dX10_copyElements_26 rfl ?_
        refine v_getR (k1 := 107) dX10_copyElements_27 s_97 fX10_44 rfl ?_
        refine v_iload_n dX10_copyElements_30 rfl ?_
        refine v_iaload dX10_copyElements_31 s_107 (by omega) ?_
        refine v_iconst dX10_copyElements_32 ?_
        refine v_icmp_ne (tgt := 39) dX10_copyElements_33 (by decide) (by have := hT u zu.1 zu.2; omega) (fun q33 => ?_) (fun q33 => ?_)
        · refine v_aload_n dX10_copyElements_39 rfl ?_
          refine v_getR (k1 := 107) dX10_copyElements_40 s_97 fX10_44 rfl ?_
          refine v_iload_n dX10_copyElements_43 rfl ?_
          refine v_iaload dX10_copyElements_44 s_107 (by omega) ?_
          refine v_aload_n dX10_copyElements_45 rfl ?_
          refine v_getR (k1 := 107) dX10_copyElements_46 s_97 fX10_44 rfl ?_
          refine v_iload_n dX10_copyElements_49 rfl ?_
          refine v_iaload dX10_copyElements_50 s_107 (by omega) ?_
          refine v_icmp_eq (tgt := 57) dX10_copyElements_51 (by decide) (by have := hT s zs.1 zs.2; have := hT u zu.1 zu.2; omega) (fun q51 => ?_) (fun q51 => ?_)
          · refine v_iload_n dX10_copyElements_57 rfl ?_
            refine v_if_lt (tgt := 75) dX10_copyElements_58 (by decide) (by omega) (fun q58 => ?_) (fun q58 => ?_)
            · refine v_iconst dX10_copyElements_75 ?_
              refine v_istore (lv' := [_, _, _, _, _, _, _, _, _, _, _]) dX10_copyElements_76 (Nat.le_of_ble_eq_true rfl) rfl rfl ?_
              refine v_iload dX10_copyElements_78 rfl ?_
              refine v_if_eq (tgt := 118) dX10_copyElements_80 (by decide) (by omega) (fun q80 => ?_) (fun q80 => ?_)
              · refine v_bipush dX10_copyElements_118 (by decide) ?_
                exact v_ireturn dX10_copyElements_120 rfl (h4 ⟨zs, zu⟩ q23 q51 (by omega))
              · refine v_iload_n dX10_copyElements_83 rfl ?_
                refine v_i2l dX10_copyElements_84 (by omega) ?_
                refine v_iload dX10_copyElements_85 rfl ?_
                refine v_i2l dX10_copyElements_87 (by omega) ?_
                refine v_ladd dX10_copyElements_88 ?_
                refine v_aload_n dX10_copyElements_89 rfl ?_
                refine v_getR (k1 := 108) dX10_copyElements_90 s_97 fX10_47 rfl ?_
                refine v_iload_n dX10_copyElements_93 rfl ?_
                refine v_iaload dX10_copyElements_94 s_108 (by omega) ?_
                refine v_i2l dX10_copyElements_95 (by have := hL s zs.1 zs.2 q23; omega) ?_
                refine v_lcmp_gt (tgt := 118) dX10_copyElements_96 dX10_copyElements_97 (by decide) (by have := hL s zs.1 zs.2 q23; omega) (fun q96 => ?_) (fun q96 => ?_)
                · refine v_bipush dX10_copyElements_118 (by decide) ?_
                  exact v_ireturn dX10_copyElements_120 rfl (h4 ⟨zs, zu⟩ q23 q51 (by omega))
                · refine v_iload dX10_copyElements_100 rfl ?_
                  refine v_i2l dX10_copyElements_102 (by omega) ?_
                  refine v_iload dX10_copyElements_103 rfl ?_
                  refine v_i2l dX10_copyElements_105 (by omega) ?_
                  refine v_ladd dX10_copyElements_106 ?_
                  refine v_aload_n dX10_copyElements_107 rfl ?_
                  refine v_getR (k1 := 108) dX10_copyElements_108 s_97 fX10_47 rfl ?_
                  refine v_iload_n dX10_copyElements_111 rfl ?_
                  refine v_iaload dX10_copyElements_112 s_108 (by omega) ?_
                  refine v_i2l dX10_copyElements_113 (by have := hL u zu.1 zu.2 q33; omega) ?_
                  refine v_lcmp_le (tgt := 121) dX10_copyElements_114 dX10_copyElements_115 (by decide) (by have := hL u zu.1 zu.2 q33; omega) (fun q114 => ?_) (fun q114 => ?_)
                  · refine v_bipush dX10_copyElements_121 (by decide) ?_
                    refine v_iload_n dX10_copyElements_123 rfl ?_
                    refine v_imul dX10_copyElements_124 ?_
                    refine v_iload_n dX10_copyElements_125 rfl ?_
                    refine v_iadd dX10_copyElements_126 ?_
                    refine v_istore (lv' := [_, _, _, _, _, _, _, _, _, _, _]) dX10_copyElements_127 (Nat.le_of_ble_eq_true rfl) rfl rfl ?_
                    refine v_bipush dX10_copyElements_129 (by decide) ?_
                    refine v_iload_n dX10_copyElements_131 rfl ?_
                    refine v_imul dX10_copyElements_132 ?_
                    refine v_iload dX10_copyElements_133 rfl ?_
                    refine v_iadd dX10_copyElements_135 ?_
                    refine v_istore (lv' := [_, _, _, _, _, _, _, _, _, _, _]) dX10_copyElements_136 (Nat.le_of_ble_eq_true rfl) rfl rfl ?_
                    refine v_iconst dX10_copyElements_138 ?_
                    refine v_istore (lv' := [_, _, _, _, _, _, _, _, _, _, _]) dX10_copyElements_139 (Nat.le_of_ble_eq_true rfl) rfl rfl ?_
                    first
                    | exact K ⟨zs, zu⟩ q23 q51 (by omega)
                    | exact absurd rfl q80
                  · refine v_bipush dX10_copyElements_118 (by decide) ?_
                    exact v_ireturn dX10_copyElements_120 rfl (h4 ⟨zs, zu⟩ q23 q51 (by omega))
            · refine v_iload dX10_copyElements_61 rfl ?_
              refine v_if_lt (tgt := 75) dX10_copyElements_63 (by decide) (by omega) (fun q63 => ?_) (fun q63 => ?_)
              · refine v_iconst dX10_copyElements_75 ?_
                refine v_istore (lv' := [_, _, _, _, _, _, _, _, _, _, _]) dX10_copyElements_76 (Nat.le_of_ble_eq_true rfl) rfl rfl ?_
                refine v_iload dX10_copyElements_78 rfl ?_
                refine v_if_eq (tgt := 118) dX10_copyElements_80 (by decide) (by omega) (fun q80 => ?_) (fun q80 => ?_)
                · refine v_bipush dX10_copyElements_118 (by decide) ?_
                  exact v_ireturn dX10_copyElements_120 rfl (h4 ⟨zs, zu⟩ q23 q51 (by omega))
                · refine v_iload_n dX10_copyElements_83 rfl ?_
                  refine v_i2l dX10_copyElements_84 (by omega) ?_
                  refine v_iload dX10_copyElements_85 rfl ?_
                  refine v_i2l dX10_copyElements_87 (by omega) ?_
                  refine v_ladd dX10_copyElements_88 ?_
                  refine v_aload_n dX10_copyElements_89 rfl ?_
                  refine v_getR (k1 := 108) dX10_copyElements_90 s_97 fX10_47 rfl ?_
                  refine v_iload_n dX10_copyElements_93 rfl ?_
                  refine v_iaload dX10_copyElements_94 s_108 (by omega) ?_
                  refine v_i2l dX10_copyElements_95 (by have := hL s zs.1 zs.2 q23; omega) ?_
                  refine v_lcmp_gt (tgt := 118) dX10_copyElements_96 dX10_copyElements_97 (by decide) (by have := hL s zs.1 zs.2 q23; omega) (fun q96 => ?_) (fun q96 => ?_)
                  · refine v_bipush dX10_copyElements_118 (by decide) ?_
                    exact v_ireturn dX10_copyElements_120 rfl (h4 ⟨zs, zu⟩ q23 q51 (by omega))
                  · refine v_iload dX10_copyElements_100 rfl ?_
                    refine v_i2l dX10_copyElements_102 (by omega) ?_
                    refine v_iload dX10_copyElements_103 rfl ?_
                    refine v_i2l dX10_copyElements_105 (by omega) ?_
                    refine v_ladd dX10_copyElements_106 ?_
                    refine v_aload_n dX10_copyElements_107 rfl ?_
                    refine v_getR (k1 := 108) dX10_copyElements_108 s_97 fX10_47 rfl ?_
                    refine v_iload_n dX10_copyElements_111 rfl ?_
                    refine v_iaload dX10_copyElements_112 s_108 (by omega) ?_
                    refine v_i2l dX10_copyElements_113 (by have := hL u zu.1 zu.2 q33; omega) ?_
                    refine v_lcmp_le (tgt := 121) dX10_copyElements_114 dX10_copyElements_115 (by decide) (by have := hL u zu.1 zu.2 q33; omega) (fun q114 => ?_) (fun q114 => ?_)
                    · refine v_bipush dX10_copyElements_121 (by decide) ?_
                      refine v_iload_n dX10_copyElements_123 rfl ?_
                      refine v_imul dX10_copyElements_124 ?_
                      refine v_iload_n dX10_copyElements_125 rfl ?_
                      refine v_iadd dX10_copyElements_126 ?_
                      refine v_istore (lv' := [_, _, _, _, _, _, _, _, _, _, _]) dX10_copyElements_127 (Nat.le_of_ble_eq_true rfl) rfl rfl ?_
                      refine v_bipush dX10_copyElements_129 (by decide) ?_
                      refine v_iload_n dX10_copyElements_131 rfl ?_
                      refine v_imul dX10_copyElements_132 ?_
                      refine v_iload dX10_copyElements_133 rfl ?_
                      refine v_iadd dX10_copyElements_135 ?_
                      refine v_istore (lv' := [_, _, _, _, _, _, _, _, _, _, _]) dX10_copyElements_136 (Nat.le_of_ble_eq_true rfl) rfl rfl ?_
                      refine v_iconst dX10_copyElements_138 ?_
                      refine v_istore (lv' := [_, _, _, _, _, _, _, _, _, _, _]) dX10_copyElements_139 (Nat.le_of_ble_eq_true rfl) rfl rfl ?_
                      first
                      | exact K ⟨zs, zu⟩ q23 q51 (by omega)
                      | exact absurd rfl q80
                    · refine v_bipush dX10_copyElements_118 (by decide) ?_
                      exact v_ireturn dX10_copyElements_120 rfl (h4 ⟨zs, zu⟩ q23 q51 (by omega))
              · refine v_iload dX10_copyElements_66 rfl ?_
                refine v_if_lt (tgt := 75) dX10_copyElements_68 (by decide) (by omega) (fun q68 => ?_) (fun q68 => ?_)
                · refine v_iconst dX10_copyElements_75 ?_
                  refine v_istore (lv' := [_, _, _, _, _, _, _, _, _, _, _]) dX10_copyElements_76 (Nat.le_of_ble_eq_true rfl) rfl rfl ?_
                  refine v_iload dX10_copyElements_78 rfl ?_
                  refine v_if_eq (tgt := 118) dX10_copyElements_80 (by decide) (by omega) (fun q80 => ?_) (fun q80 => ?_)
                  · refine v_bipush dX10_copyElements_118 (by decide) ?_
                    exact v_ireturn dX10_copyElements_120 rfl (h4 ⟨zs, zu⟩ q23 q51 (by omega))
                  · refine v_iload_n dX10_copyElements_83 rfl ?_
                    refine v_i2l dX10_copyElements_84 (by omega) ?_
                    refine v_iload dX10_copyElements_85 rfl ?_
                    refine v_i2l dX10_copyElements_87 (by omega) ?_
                    refine v_ladd dX10_copyElements_88 ?_
                    refine v_aload_n dX10_copyElements_89 rfl ?_
                    refine v_getR (k1 := 108) dX10_copyElements_90 s_97 fX10_47 rfl ?_
                    refine v_iload_n dX10_copyElements_93 rfl ?_
                    refine v_iaload dX10_copyElements_94 s_108 (by omega) ?_
                    refine v_i2l dX10_copyElements_95 (by have := hL s zs.1 zs.2 q23; omega) ?_
                    refine v_lcmp_gt (tgt := 118) dX10_copyElements_96 dX10_copyElements_97 (by decide) (by have := hL s zs.1 zs.2 q23; omega) (fun q96 => ?_) (fun q96 => ?_)
                    · refine v_bipush dX10_copyElements_118 (by decide) ?_
                      exact v_ireturn dX10_copyElements_120 rfl (h4 ⟨zs, zu⟩ q23 q51 (by omega))
                    · refine v_iload dX10_copyElements_100 rfl ?_
                      refine v_i2l dX10_copyElements_102 (by omega) ?_
                      refine v_iload dX10_copyElements_103 rfl ?_
                      refine v_i2l dX10_copyElements_105 (by omega) ?_
                      refine v_ladd dX10_copyElements_106 ?_
                      refine v_aload_n dX10_copyElements_107 rfl ?_
                      refine v_getR (k1 := 108) dX10_copyElements_108 s_97 fX10_47 rfl ?_
                      refine v_iload_n dX10_copyElements_111 rfl ?_
                      refine v_iaload dX10_copyElements_112 s_108 (by omega) ?_
                      refine v_i2l dX10_copyElements_113 (by have := hL u zu.1 zu.2 q33; omega) ?_
                      refine v_lcmp_le (tgt := 121) dX10_copyElements_114 dX10_copyElements_115 (by decide) (by have := hL u zu.1 zu.2 q33; omega) (fun q114 => ?_) (fun q114 => ?_)
                      · refine v_bipush dX10_copyElements_121 (by decide) ?_
                        refine v_iload_n dX10_copyElements_123 rfl ?_
                        refine v_imul dX10_copyElements_124 ?_
                        refine v_iload_n dX10_copyElements_125 rfl ?_
                        refine v_iadd dX10_copyElements_126 ?_
                        refine v_istore (lv' := [_, _, _, _, _, _, _, _, _, _, _]) dX10_copyElements_127 (Nat.le_of_ble_eq_true rfl) rfl rfl ?_
                        refine v_bipush dX10_copyElements_129 (by decide) ?_
                        refine v_iload_n dX10_copyElements_131 rfl ?_
                        refine v_imul dX10_copyElements_132 ?_
                        refine v_iload dX10_copyElements_133 rfl ?_
                        refine v_iadd dX10_copyElements_135 ?_
                        refine v_istore (lv' := [_, _, _, _, _, _, _, _, _, _, _]) dX10_copyElements_136 (Nat.le_of_ble_eq_true rfl) rfl rfl ?_
                        refine v_iconst dX10_copyElements_138 ?_
                        refine v_istore (lv' := [_, _, _, _, _, _, _, _, _, _, _]) dX10_copyElements_139 (Nat.le_of_ble_eq_true rfl) rfl rfl ?_
                        first
                        | exact K ⟨zs, zu⟩ q23 q51 (by omega)
                        | exact absurd rfl q80
                      · refine v_bipush dX10_copyElements_118 (by decide) ?_
                        exact v_ireturn dX10_copyElements_120 rfl (h4 ⟨zs, zu⟩ q23 q51 (by omega))
                · refine v_iconst dX10_copyElements_71 ?_
                  refine v_goto (tgt := 76) dX10_copyElements_72 (by decide) ?_
                  refine v_istore (lv' := [_, _, _, _, _, _, _, _, _, _, _]) dX10_copyElements_76 (Nat.le_of_ble_eq_true rfl) rfl rfl ?_
                  refine v_iload dX10_copyElements_78 rfl ?_
                  refine v_if_eq (tgt := 118) dX10_copyElements_80 (by decide) (by omega) (fun q80 => ?_) (fun q80 => ?_)
                  · refine v_bipush dX10_copyElements_118 (by decide) ?_
                    exact v_ireturn dX10_copyElements_120 rfl (h4 ⟨zs, zu⟩ q23 q51 (by omega))
                  · refine v_iload_n dX10_copyElements_83 rfl ?_
                    refine v_i2l dX10_copyElements_84 (by omega) ?_
                    refine v_iload dX10_copyElements_85 rfl ?_
                    refine v_i2l dX10_copyElements_87 (by omega) ?_
                    refine v_ladd dX10_copyElements_88 ?_
                    refine v_aload_n dX10_copyElements_89 rfl ?_
                    refine v_getR (k1 := 108) dX10_copyElements_90 s_97 fX10_47 rfl ?_
                    refine v_iload_n dX10_copyElements_93 rfl ?_
                    refine v_iaload dX10_copyElements_94 s_108 (by omega) ?_
                    refine v_i2l dX10_copyElements_95 (by have := hL s zs.1 zs.2 q23; omega) ?_
                    refine v_lcmp_gt (tgt := 118) dX10_copyElements_96 dX10_copyElements_97 (by decide) (by have := hL s zs.1 zs.2 q23; omega) (fun q96 => ?_) (fun q96 => ?_)
                    · refine v_bipush dX10_copyElements_118 (by decide) ?_
                      exact v_ireturn dX10_copyElements_120 rfl (h4 ⟨zs, zu⟩ q23 q51 (by omega))
                    · refine v_iload dX10_copyElements_100 rfl ?_
                      refine v_i2l dX10_copyElements_102 (by omega) ?_
                      refine v_iload dX10_copyElements_103 rfl ?_
                      refine v_i2l dX10_copyElements_105 (by omega) ?_
                      refine v_ladd dX10_copyElements_106 ?_
                      refine v_aload_n dX10_copyElements_107 rfl ?_
                      refine v_getR (k1 := 108) dX10_copyElements_108 s_97 fX10_47 rfl ?_
                      refine v_iload_n dX10_copyElements_111 rfl ?_
                      refine v_iaload dX10_copyElements_112 s_108 (by omega) ?_
                      refine v_i2l dX10_copyElements_113 (by have := hL u zu.1 zu.2 q33; omega) ?_
                      refine v_lcmp_le (tgt := 121) dX10_copyElements_114 dX10_copyElements_115 (by decide) (by have := hL u zu.1 zu.2 q33; omega) (fun q114 => ?_) (fun q114 => ?_)
                      · refine v_bipush dX10_copyElements_121 (by decide) ?_
                        refine v_iload_n dX10_copyElements_123 rfl ?_
                        refine v_imul dX10_copyElements_124 ?_
                        refine v_iload_n dX10_copyElements_125 rfl ?_
                        refine v_iadd dX10_copyElements_126 ?_
                        refine v_istore (lv' := [_, _, _, _, _, _, _, _, _, _, _]) dX10_copyElements_127 (Nat.le_of_ble_eq_true rfl) rfl rfl ?_
                        refine v_bipush dX10_copyElements_129 (by decide) ?_
                        refine v_iload_n dX10_copyElements_131 rfl ?_
                        refine v_imul dX10_copyElements_132 ?_
                        refine v_iload dX10_copyElements_133 rfl ?_
                        refine v_iadd dX10_copyElements_135 ?_
                        refine v_istore (lv' := [_, _, _, _, _, _, _, _, _, _, _]) dX10_copyElements_136 (Nat.le_of_ble_eq_true rfl) rfl rfl ?_
                        refine v_iconst dX10_copyElements_138 ?_
                        refine v_istore (lv' := [_, _, _, _, _, _, _, _, _, _, _]) dX10_copyElements_139 (Nat.le_of_ble_eq_true rfl) rfl rfl ?_
                        first
                        | exact K ⟨zs, zu⟩ q23 q51 (by omega)
                        | exact absurd rfl q80
                      · refine v_bipush dX10_copyElements_118 (by decide) ?_
                        exact v_ireturn dX10_copyElements_120 rfl (h4 ⟨zs, zu⟩ q23 q51 (by omega))
          · refine v_bipush dX10_copyElements_54 (by decide) ?_
            exact v_ireturn dX10_copyElements_56 rfl (h3 ⟨zs, zu⟩ q23 q33 q51)
        · refine v_bipush dX10_copyElements_36 (by decide) ?_
          exact v_ireturn dX10_copyElements_38 rfl (h2 ⟨zs, zu⟩ (by omega))
    · refine v_if_ne (tgt := 16) dX10_copyElements_11 (by decide) (by decide) (fun q11 => absurd q11 (by decide)) (fun q11 => ?_)
      refine v_iconst dX10_copyElements_14 ?_
      exact v_ireturn dX10_copyElements_15 rfl (h1 (by omega))
  · refine v_if_eq (tgt := 14) dX10_copyElements_4 (by decide) (by decide) (fun q4 => ?_) (fun q4 => absurd q4 (by decide))
    refine v_iconst dX10_copyElements_14 ?_
    exact v_ireturn dX10_copyElements_15 rfl (h1 (by omega))
theorem c_X10_checkCertificate {P : Int → S9 → Prop} {s : Int} (v : Va n R lf rg wt lev stt ap str) (c : SyMn σ n R lf rg wt lev stt ap str) (hT : ∀ i, 0 ≤ i → i < 4 → (-1 ≤ gI σ 107 i ∧ gI σ 107 i ≤ 3)) (hL : ∀ i, 0 ≤ i → i < 4 → gI σ 107 i ≠ -1 → (0 ≤ gI σ 108 i ∧ gI σ 108 i ≤ 40)) (hf : ∀ i, 0 ≤ i → i < 4 → gI σ 107 i = 0 → ∀ j, 0 ≤ j → j < 40 → -2147483648 ≤ gL σ 109 (40 * i + j) ∧ gL σ 109 (40 * i + j) < 2147483648) (hs : (-2147483648 ≤ s ∧ s < 2147483648)) (h1 : ¬ (0 ≤ s ∧ s < 4) → P (-1) σ) (h2 : (0 ≤ s ∧ s < 4) → gI σ 107 s = -1 → P (-11) σ) (h3 : (0 ≤ s ∧ s < 4) → gI σ 107 s ≠ -1 → gI σ 107 s ≠ 0 → P (-12) σ) (h4 : (0 ≤ s ∧ s < 4) → gI σ 107 s = 0 → gI σ 108 s < R → P (-13) σ) (h5 : (0 ≤ s ∧ s < 4) → gI σ 107 s = 0 → R ≤ gI σ 108 s → (crt9 (fun r => gL σ 109 (40 * s + r)) (fun r x => bal9 (lf r) (rg r) x) n R → P 1 σ) ∧ (¬ crt9 (fun r => gL σ 109 (40 * s + r)) (fun r x => bal9 (lf r) (rg r) x) n R → P 0 σ)) : Cc (d + 2) mX10_checkCertificate [.ref 97, .int (iI s)] σ (QI P) := by
  have hn := v.1
  have hR := v.2.1
  refine Cc_of (by decide +kernel) (fun _ => Nat.le_of_ble_eq_true rfl) rfl (lv := [_, _, _, _, _, _, _, _]) ?_
  have KK : (0 ≤ s ∧ s < 4) → gI σ 107 s = 0 → R ≤ gI σ 108 s → Vv (d + 2) mX10_checkCertificate 57 [.ref 97, .int (iI s), .int (iI 0), .int (iI 1), .int (iI 0), .null, .null, .null] [] σ (QI P) := by
    intro zs ht hl
    have h5 := h5 zs ht hl
    have hf := hf s zs.1 zs.2 ht
    have hl2 := hL s zs.1 zs.2 (by omega)
    obtain ⟨F, eF⟩ : ∃ F : Int → Int, (fun r => gL σ 109 (40 * s + r)) = F := ⟨_, rfl⟩
    rw [eF] at h5
    have eF : ∀ r, gL σ 109 (40 * s + r) = F r := fun r => by rw [← eF]
    have hf : ∀ r, 0 ≤ r → r < R → -2147483648 ≤ F r ∧ F r < 2147483648 := fun r a b => by rw [← eF]; exact hf r a (by omega)
    have sb : ∀ (k : Nat) (x : Int), (k : Int) ≤ R → -103079215104 ≤ sm9 F (fun r => bal9 (lf r) (rg r) x) k ∧ sm9 F (fun r => bal9 (lf r) (rg r) x) k ≤ 103079215104 := fun k x hk => by
      have := sm9_bd (f := F) (g := fun r => bal9 (lf r) (rg r) x) (B := 2147483648) (C := 6) (by decide) (by decide) k (fun y a b => ⟨by have := hf y a (by omega); omega, by have := v.bal (r := y) (by omega) x; omega⟩)
      omega
    have K2 : ∀ (m : Nat) (x so go : Int), 0 ≤ x → x + m = n → (so = 0 ∨ so = 1) → (so = 1 ↔ Ex9 F R) → (go = 0 ∨ go = 1) → (go = 1 ↔ Ml9 F (fun r x => bal9 (lf r) (rg r) x) R x) → ∀ l5 l6 l7, Vv (d + 2) mX10_checkCertificate 129 [.ref 97, .int (iI s), .int (iI so), .int (iI go), .int (iI x), l5, l6, l7] [] σ (QI P) := by
      intro m
      induction m with
      | zero =>
        intro x so go hx hm s1 s2 g1 g2 l5 l6 l7
        have hxn : x = n := by omega
        rw [hxn] at g2
        have key1 : so = 1 → go = 1 → crt9 F (fun r x => bal9 (lf r) (rg r) x) n R := fun a b => ⟨(g2.mp b).1, s2.mp a, (g2.mp b).2⟩
        have key2 : crt9 F (fun r x => bal9 (lf r) (rg r) x) n R → so = 1 ∧ go = 1 := fun z => ⟨s2.mpr z.2.1, g2.mpr ⟨z.1, z.2.2⟩⟩
        clear s2 g2
        refine v_iload dX10_checkCertificate_129 rfl ?_
        refine v_aload_n dX10_checkCertificate_131 rfl ?_
        refine v_getI (ji := 0) dX10_checkCertificate_132 s_97 fX10_9 rfl ?_
        rw [c.1]
        refine v_icmp_ge (tgt := 209) dX10_checkCertificate_135 (by decide) (by omega) (fun q135 => ?_) (fun q135 => absurd q135 (by omega))
        refine v_iload_n dX10_checkCertificate_209 rfl ?_
        refine v_if_eq (tgt := 221) dX10_checkCertificate_210 (by decide) (by omega) (fun q210 => ?_) (fun q210 => ?_)
        · refine v_iconst dX10_checkCertificate_221 ?_
          exact v_ireturn dX10_checkCertificate_222 rfl (by first | exact h5.1 (key1 (by omega) (by omega)) | exact h5.2 (fun z => by have := key2 z; omega))
        · refine v_iload_n dX10_checkCertificate_213 rfl ?_
          refine v_if_eq (tgt := 221) dX10_checkCertificate_214 (by decide) (by omega) (fun q214 => ?_) (fun q214 => ?_)
          · refine v_iconst dX10_checkCertificate_221 ?_
            exact v_ireturn dX10_checkCertificate_222 rfl (by first | exact h5.1 (key1 (by omega) (by omega)) | exact h5.2 (fun z => by have := key2 z; omega))
          · refine v_iconst dX10_checkCertificate_217 ?_
            refine v_goto (tgt := 222) dX10_checkCertificate_218 (by decide) ?_
            exact v_ireturn dX10_checkCertificate_222 rfl (by first | exact h5.1 (key1 (by omega) (by omega)) | exact h5.2 (fun z => by have := key2 z; omega))
      | succ m ih =>
        intro x so go hx hm s1 s2 g1 g2 l5 l6 l7
        have K3 : ∀ (k : Nat) (r : Int), 0 ≤ r → r + k = R → Vv (d + 2) mX10_checkCertificate 144 [.ref 97, .int (iI s), .int (iI so), .int (iI go), .int (iI x), .long (lI (sm9 F (fun r => bal9 (lf r) (rg r) x) r.toNat)), .null, .int (iI r)] [] σ (QI P) := by
          intro k
          induction k with
          | zero =>
            intro r hr hk
            have sbr := sb r.toNat x (by omega)
            have er : r.toNat = R.toNat := by omega
            rw [er] at sbr ⊢
            have K4 : ∀ go', (go' = 1 ∧ go = 1 ∧ sm9 F (fun r => bal9 (lf r) (rg r) x) R.toNat ≤ 0 ∨ go' = 0 ∧ (go = 0 ∨ 0 < sm9 F (fun r => bal9 (lf r) (rg r) x) R.toNat)) → ∀ l5 l6 l7, Vv (d + 2) mX10_checkCertificate 129 [.ref 97, .int (iI s), .int (iI so), .int (iI go'), .int (iI (x + 1)), l5, l6, l7] [] σ (QI P) := by
              intro go' hgo l5 l6 l7
              refine ih (x + 1) so go' (by omega) (by omega) s1 s2 (by omega) ⟨fun z => ?_, fun z => ?_⟩ _ _ _
              · rcases hgo with ⟨_, a, b⟩ | ⟨a, _⟩
                · refine ⟨(g2.mp a).1, fun y y0 y1 => ?_⟩
                  by_cases e : y = x
                  · rw [e]; exact b
                  · exact (g2.mp a).2 y y0 (by omega)
                · omega
              · rcases hgo with ⟨a, _, _⟩ | ⟨_, b⟩
                · exact a
                · have h1 := z.2 x hx (by omega)
                  have h2 := g2.mpr ⟨z.1, fun y y0 y1 => z.2 y y0 (by omega)⟩
                  exfalso
                  rcases b with b | b
                  · omega
                  · exact absurd b (Int.not_lt.mpr h1)
            clear s2 g2
            refine v_iload dX10_checkCertificate_144 rfl ?_
            refine v_aload_n dX10_checkCertificate_146 rfl ?_
            refine v_getI (ji := 1) dX10_checkCertificate_147 s_97 fX10_119 rfl ?_
            rw [c.2.1]
            refine v_icmp_ge (tgt := 186) dX10_checkCertificate_150 (by decide) (by omega) (fun q150 => ?_) (fun q150 => absurd q150 (by omega))
            refine v_iload_n dX10_checkCertificate_186 rfl ?_
            refine v_if_eq (tgt := 201) dX10_checkCertificate_187 (by decide) (by omega) (fun q187 => ?_) (fun q187 => ?_)
            · refine v_iconst dX10_checkCertificate_201 ?_
              refine v_istore_n (lv' := [_, _, _, _, _, _, _, _]) dX10_checkCertificate_202 (Nat.le_of_ble_eq_true rfl) rfl rfl ?_
              refine v_iinc (lv' := [_, _, _, _, _, _, _, _]) dX10_checkCertificate_203 rfl (Nat.le_of_ble_eq_true rfl) rfl rfl ?_
              refine v_goto (tgt := 129) dX10_checkCertificate_206 (by decide) ?_
              exact K4 _ (by omega) _ _ _
            · refine v_lload dX10_checkCertificate_190 rfl ?_
              refine v_lconst0 dX10_checkCertificate_192 ?_
              refine v_lcmp_gt (tgt := 201) dX10_checkCertificate_193 dX10_checkCertificate_194 (by decide) (by omega) (fun q193 => ?_) (fun q193 => ?_)
              · refine v_iconst dX10_checkCertificate_201 ?_
                refine v_istore_n (lv' := [_, _, _, _, _, _, _, _]) dX10_checkCertificate_202 (Nat.le_of_ble_eq_true rfl) rfl rfl ?_
                refine v_iinc (lv' := [_, _, _, _, _, _, _, _]) dX10_checkCertificate_203 rfl (Nat.le_of_ble_eq_true rfl) rfl rfl ?_
                refine v_goto (tgt := 129) dX10_checkCertificate_206 (by decide) ?_
                exact K4 _ (by omega) _ _ _
              · refine v_iconst dX10_checkCertificate_197 ?_
                refine v_goto (tgt := 202) dX10_checkCertificate_198 (by decide) ?_
                refine v_istore_n (lv' := [_, _, _, _, _, _, _, _]) dX10_checkCertificate_202 (Nat.le_of_ble_eq_true rfl) rfl rfl ?_
                refine v_iinc (lv' := [_, _, _, _, _, _, _, _]) dX10_checkCertificate_203 rfl (Nat.le_of_ble_eq_true rfl) rfl rfl ?_
                refine v_goto (tgt := 129) dX10_checkCertificate_206 (by decide) ?_
                exact K4 _ (by omega) _ _ _
          | succ k ih3 =>
            intro r hr hk
            have bb := v.bal (r := r) (by omega) x
            have ih3 := ih3 (r + 1) (by omega) (by omega)
            rw [show (r + 1).toNat = r.toNat + 1 by omega, sm9, show ((r.toNat : Nat) : Int) = r by omega] at ih3
            clear s2 g2
            refine v_iload dX10_checkCertificate_144 rfl ?_
            refine v_aload_n dX10_checkCertificate_146 rfl ?_
            refine v_getI (ji := 1) dX10_checkCertificate_147 s_97 fX10_119 rfl ?_
            rw [c.2.1]
            refine v_icmp_ge (tgt := 186) dX10_checkCertificate_150 (by decide) (by omega) (fun q150 => absurd q150 (by omega)) (fun q150 => ?_)
            refine v_lload dX10_checkCertificate_153 rfl ?_
            refine v_aload_n dX10_checkCertificate_155 rfl ?_
            refine v_getR (k1 := 109) dX10_checkCertificate_156 s_97 fX10_50 rfl ?_
            refine v_bipush dX10_checkCertificate_159 (by decide) ?_
            refine v_iload_n dX10_checkCertificate_161 rfl ?_
            refine v_imul dX10_checkCertificate_162 ?_
            refine v_iload dX10_checkCertificate_163 rfl ?_
            refine v_iadd dX10_checkCertificate_165 ?_
            refine v_laload dX10_checkCertificate_166 s_109 (by omega) ?_
            rw [eF]
            refine v_aload_n dX10_checkCertificate_167 rfl ?_
            refine v_iload dX10_checkCertificate_168 rfl ?_
            refine v_iload dX10_checkCertificate_170 rfl ?_
            refine v_callVi2 dX10_checkCertificate_172 kX10_159 s_97 (Nat.le_of_ble_eq_true rfl) (c_X10_balanceOf v c (by omega) (by omega) ?_)
            refine v_i2l dX10_checkCertificate_175 (by omega) ?_
            refine v_lmul dX10_checkCertificate_176 ?_
            refine v_ladd dX10_checkCertificate_177 ?_
            refine v_lstore (lv' := [_, _, _, _, _, _, _, _]) dX10_checkCertificate_178 (Nat.le_of_ble_eq_true rfl) rfl rfl ?_
            refine v_iinc (lv' := [_, _, _, _, _, _, _, _]) dX10_checkCertificate_180 rfl (Nat.le_of_ble_eq_true rfl) rfl rfl ?_
            refine v_goto (tgt := 144) dX10_checkCertificate_183 (by decide) ?_
            exact ih3
        clear s2 g2
        refine v_iload dX10_checkCertificate_129 rfl ?_
        refine v_aload_n dX10_checkCertificate_131 rfl ?_
        refine v_getI (ji := 0) dX10_checkCertificate_132 s_97 fX10_9 rfl ?_
        rw [c.1]
        refine v_icmp_ge (tgt := 209) dX10_checkCertificate_135 (by decide) (by omega) (fun q135 => absurd q135 (by omega)) (fun q135 => ?_)
        refine v_lconst0 dX10_checkCertificate_138 ?_
        refine v_lstore (lv' := [_, _, _, _, _, _, _, _]) dX10_checkCertificate_139 (Nat.le_of_ble_eq_true rfl) rfl rfl ?_
        refine v_iconst dX10_checkCertificate_141 ?_
        refine v_istore (lv' := [_, _, _, _, _, _, _, _]) dX10_checkCertificate_142 (Nat.le_of_ble_eq_true rfl) rfl rfl ?_
        exact K3 R.toNat 0 (by omega) (by omega)
    have K1 : ∀ (m : Nat) (r so go : Int), 0 ≤ r → r + m = R → (so = 0 ∨ so = 1) → (so = 1 ↔ Ex9 F r) → (go = 0 ∨ go = 1) → (go = 1 ↔ Al9 F r) → Vv (d + 2) mX10_checkCertificate 57 [.ref 97, .int (iI s), .int (iI so), .int (iI go), .int (iI r), .null, .null, .null] [] σ (QI P) := by
      intro m
      induction m with
      | zero =>
        intro r so go hr hm s1 s2 g1 g2
        rw [show r = R by omega] at s2 g2
        have h9 := K2 n.toNat 0 so go (by omega) (by omega) s1 s2 g1 ⟨fun z => ⟨g2.mp z, fun y a b => by omega⟩, fun z => g2.mpr z.1⟩
        clear s2 g2
        refine v_iload dX10_checkCertificate_57 rfl ?_
        refine v_aload_n dX10_checkCertificate_59 rfl ?_
        refine v_getI (ji := 1) dX10_checkCertificate_60 s_97 fX10_119 rfl ?_
        rw [c.2.1]
        refine v_icmp_ge (tgt := 126) dX10_checkCertificate_63 (by decide) (by omega) (fun q63 => ?_) (fun q63 => absurd q63 (by omega))
        refine v_iconst dX10_checkCertificate_126 ?_
        refine v_istore (lv' := [_, _, _, _, _, _, _, _]) dX10_checkCertificate_127 (Nat.le_of_ble_eq_true rfl) rfl rfl ?_
        exact h9 _ _ _
      | succ m ih =>
        intro r so go hr hm s1 s2 g1 g2
        have hfr := hf r hr (by omega)
        have K4 : ∀ so' go', (so' = 1 ∧ (so = 1 ∨ F r ≠ 0) ∨ so' = 0 ∧ so = 0 ∧ F r = 0) → (go' = 1 ∧ go = 1 ∧ 0 ≤ F r ∨ go' = 0 ∧ (go = 0 ∨ F r < 0)) → Vv (d + 2) mX10_checkCertificate 57 [.ref 97, .int (iI s), .int (iI so'), .int (iI go'), .int (iI (r + 1)), .null, .null, .null] [] σ (QI P) := by
          intro so' go' ho hg
          refine ih (r + 1) so' go' (by omega) (by omega) (by omega) ⟨fun z => ?_, fun z => ?_⟩ (by omega) ⟨fun z => ?_, fun z => ?_⟩
          · rcases ho with ⟨_, a | a⟩ | ⟨a, _⟩
            · obtain ⟨q, q0, q1, q2⟩ := s2.mp a
              exact ⟨q, q0, by omega, q2⟩
            · exact ⟨r, hr, by omega, a⟩
            · omega
          · obtain ⟨q, q0, q1, q2⟩ := z
            rcases ho with ⟨a, _⟩ | ⟨_, a, b⟩
            · exact a
            · exfalso
              by_cases e : q = r
              · rw [e] at q2; exact q2 b
              · have := s2.mpr ⟨q, q0, by omega, q2⟩
                omega
          · rcases hg with ⟨_, a, b⟩ | ⟨a, _⟩
            · intro y y0 y1
              by_cases e : y = r
              · rw [e]; exact b
              · exact g2.mp a y y0 (by omega)
            · omega
          · rcases hg with ⟨a, _⟩ | ⟨_, a | a⟩
            · exact a
            · have := g2.mpr (fun y y0 y1 => z y y0 (by omega))
              omega
            · have := z r hr (by omega)
              omega
        clear s2 g2
        refine v_iload dX10_checkCertificate_57 rfl ?_
        refine v_aload_n dX10_checkCertificate_59 rfl ?_
        refine v_getI (ji := 1) dX10_checkCertificate_60 s_97 fX10_119 rfl ?_
        rw [c.2.1]
        refine v_icmp_ge (tgt := 126) dX10_checkCertificate_63 (by decide) (by omega) (fun q63 => absurd q63 (by omega)) (fun q63 => ?_)
        refine v_iload_n dX10_checkCertificate_66 rfl ?_
        refine v_if_ne (tgt := 87) dX10_checkCertificate_67 (by decide) (by omega) (fun q67 => ?_) (fun q67 => ?_)
        · refine v_iconst dX10_checkCertificate_87 ?_
          refine v_goto (tgt := 92) dX10_checkCertificate_88 (by decide) ?_
          refine v_istore_n (lv' := [_, _, _, _, _, _, _, _]) dX10_checkCertificate_92 (Nat.le_of_ble_eq_true rfl) rfl rfl ?_
          refine v_iload_n dX10_checkCertificate_93 rfl ?_
          refine v_if_eq (tgt := 118) dX10_checkCertificate_94 (by decide) (by omega) (fun q94 => ?_) (fun q94 => ?_)
          · refine v_iconst dX10_checkCertificate_118 ?_
            refine v_istore_n (lv' := [_, _, _, _, _, _, _, _]) dX10_checkCertificate_119 (Nat.le_of_ble_eq_true rfl) rfl rfl ?_
            refine v_iinc (lv' := [_, _, _, _, _, _, _, _]) dX10_checkCertificate_120 rfl (Nat.le_of_ble_eq_true rfl) rfl rfl ?_
            refine v_goto (tgt := 57) dX10_checkCertificate_123 (by decide) ?_
            exact K4 _ _ (by omega) (by omega)
          · refine v_aload_n dX10_checkCertificate_97 rfl ?_
            refine v_getR (k1 := 109) dX10_checkCertificate_98 s_97 fX10_50 rfl ?_
            refine v_bipush dX10_checkCertificate_101 (by decide) ?_
            refine v_iload_n dX10_checkCertificate_103 rfl ?_
            refine v_imul dX10_checkCertificate_104 ?_
            refine v_iload dX10_checkCertificate_105 rfl ?_
            refine v_iadd dX10_checkCertificate_107 ?_
            refine v_laload dX10_checkCertificate_108 s_109 (by omega) ?_
            rw [eF]
            refine v_lconst0 dX10_checkCertificate_109 ?_
            refine v_lcmp_lt (tgt := 118) dX10_checkCertificate_110 dX10_checkCertificate_111 (by decide) (by omega) (fun q110 => ?_) (fun q110 => ?_)
            · refine v_iconst dX10_checkCertificate_118 ?_
              refine v_istore_n (lv' := [_, _, _, _, _, _, _, _]) dX10_checkCertificate_119 (Nat.le_of_ble_eq_true rfl) rfl rfl ?_
              refine v_iinc (lv' := [_, _, _, _, _, _, _, _]) dX10_checkCertificate_120 rfl (Nat.le_of_ble_eq_true rfl) rfl rfl ?_
              refine v_goto (tgt := 57) dX10_checkCertificate_123 (by decide) ?_
              exact K4 _ _ (by omega) (by omega)
            · refine v_iconst dX10_checkCertificate_114 ?_
              refine v_goto (tgt := 119) dX10_checkCertificate_115 (by decide) ?_
              refine v_istore_n (lv' := [_, _, _, _, _, _, _, _]) dX10_checkCertificate_119 (Nat.le_of_ble_eq_true rfl) rfl rfl ?_
              refine v_iinc (lv' := [_, _, _, _, _, _, _, _]) dX10_checkCertificate_120 rfl (Nat.le_of_ble_eq_true rfl) rfl rfl ?_
              refine v_goto (tgt := 57) dX10_checkCertificate_123 (by decide) ?_
              exact K4 _ _ (by omega) (by omega)
        · refine v_aload_n dX10_checkCertificate_70 rfl ?_
          refine v_getR (k1 := 109) dX10_checkCertificate_71 s_97 fX10_50 rfl ?_
          refine v_bipush dX10_checkCertificate_74 (by decide) ?_
          refine v_iload_n dX10_checkCertificate_76 rfl ?_
          refine v_imul dX10_checkCertificate_77 ?_
          refine v_iload dX10_checkCertificate_78 rfl ?_
          refine v_iadd dX10_checkCertificate_80 ?_
          refine v_laload dX10_checkCertificate_81 s_109 (by omega) ?_
          rw [eF]
          refine v_lconst0 dX10_checkCertificate_82 ?_
          refine v_lcmp_eq (tgt := 91) dX10_checkCertificate_83 dX10_checkCertificate_84 (by decide) (by omega) (fun q83 => ?_) (fun q83 => ?_)
          · refine v_iconst dX10_checkCertificate_91 ?_
            refine v_istore_n (lv' := [_, _, _, _, _, _, _, _]) dX10_checkCertificate_92 (Nat.le_of_ble_eq_true rfl) rfl rfl ?_
            refine v_iload_n dX10_checkCertificate_93 rfl ?_
            refine v_if_eq (tgt := 118) dX10_checkCertificate_94 (by decide) (by omega) (fun q94 => ?_) (fun q94 => ?_)
            · refine v_iconst dX10_checkCertificate_118 ?_
              refine v_istore_n (lv' := [_, _, _, _, _, _, _, _]) dX10_checkCertificate_119 (Nat.le_of_ble_eq_true rfl) rfl rfl ?_
              refine v_iinc (lv' := [_, _, _, _, _, _, _, _]) dX10_checkCertificate_120 rfl (Nat.le_of_ble_eq_true rfl) rfl rfl ?_
              refine v_goto (tgt := 57) dX10_checkCertificate_123 (by decide) ?_
              exact K4 _ _ (by omega) (by omega)
            · refine v_aload_n dX10_checkCertificate_97 rfl ?_
              refine v_getR (k1 := 109) dX10_checkCertificate_98 s_97 fX10_50 rfl ?_
              refine v_bipush dX10_checkCertificate_101 (by decide) ?_
              refine v_iload_n dX10_checkCertificate_103 rfl ?_
              refine v_imul dX10_checkCertificate_104 ?_
              refine v_iload dX10_checkCertificate_105 rfl ?_
              refine v_iadd dX10_checkCertificate_107 ?_
              refine v_laload dX10_checkCertificate_108 s_109 (by omega) ?_
              rw [eF]
              refine v_lconst0 dX10_checkCertificate_109 ?_
              refine v_lcmp_lt (tgt := 118) dX10_checkCertificate_110 dX10_checkCertificate_111 (by decide) (by omega) (fun q110 => ?_) (fun q110 => ?_)
              · refine v_iconst dX10_checkCertificate_118 ?_
                refine v_istore_n (lv' := [_, _, _, _, _, _, _, _]) dX10_checkCertificate_119 (Nat.le_of_ble_eq_true rfl) rfl rfl ?_
                refine v_iinc (lv' := [_, _, _, _, _, _, _, _]) dX10_checkCertificate_120 rfl (Nat.le_of_ble_eq_true rfl) rfl rfl ?_
                refine v_goto (tgt := 57) dX10_checkCertificate_123 (by decide) ?_
                exact K4 _ _ (by omega) (by omega)
              · refine v_iconst dX10_checkCertificate_114 ?_
                refine v_goto (tgt := 119) dX10_checkCertificate_115 (by decide) ?_
                refine v_istore_n (lv' := [_, _, _, _, _, _, _, _]) dX10_checkCertificate_119 (Nat.le_of_ble_eq_true rfl) rfl rfl ?_
                refine v_iinc (lv' := [_, _, _, _, _, _, _, _]) dX10_checkCertificate_120 rfl (Nat.le_of_ble_eq_true rfl) rfl rfl ?_
                refine v_goto (tgt := 57) dX10_checkCertificate_123 (by decide) ?_
                exact K4 _ _ (by omega) (by omega)
          · refine v_iconst dX10_checkCertificate_87 ?_
            refine v_goto (tgt := 92) dX10_checkCertificate_88 (by decide) ?_
            refine v_istore_n (lv' := [_, _, _, _, _, _, _, _]) dX10_checkCertificate_92 (Nat.le_of_ble_eq_true rfl) rfl rfl ?_
            refine v_iload_n dX10_checkCertificate_93 rfl ?_
            refine v_if_eq (tgt := 118) dX10_checkCertificate_94 (by decide) (by omega) (fun q94 => ?_) (fun q94 => ?_)
            · refine v_iconst dX10_checkCertificate_118 ?_
              refine v_istore_n (lv' := [_, _, _, _, _, _, _, _]) dX10_checkCertificate_119 (Nat.le_of_ble_eq_true rfl) rfl rfl ?_
              refine v_iinc (lv' := [_, _, _, _, _, _, _, _]) dX10_checkCertificate_120 rfl (Nat.le_of_ble_eq_true rfl) rfl rfl ?_
              refine v_goto (tgt := 57) dX10_checkCertificate_123 (by decide) ?_
              exact K4 _ _ (by omega) (by omega)
            · refine v_aload_n dX10_checkCertificate_97 rfl ?_
              refine v_getR (k1 := 109) dX10_checkCertificate_98 s_97 fX10_50 rfl ?_
              refine v_bipush dX10_checkCertificate_101 (by decide) ?_
              refine v_iload_n dX10_checkCertificate_103 rfl ?_
              refine v_imul dX10_checkCertificate_104 ?_
              refine v_iload dX10_checkCertificate_105 rfl ?_
              refine v_iadd dX10_checkCertificate_107 ?_
              refine v_laload dX10_checkCertificate_108 s_109 (by omega) ?_
              rw [eF]
              refine v_lconst0 dX10_checkCertificate_109 ?_
              refine v_lcmp_lt (tgt := 118) dX10_checkCertificate_110 dX10_checkCertificate_111 (by decide) (by omega) (fun q110 => ?_) (fun q110 => ?_)
              · refine v_iconst dX10_checkCertificate_118 ?_
                refine v_istore_n (lv' := [_, _, _, _, _, _, _, _]) dX10_checkCertificate_119 (Nat.le_of_ble_eq_true rfl) rfl rfl ?_
                refine v_iinc (lv' := [_, _, _, _, _, _, _, _]) dX10_checkCertificate_120 rfl (Nat.le_of_ble_eq_true rfl) rfl rfl ?_
                refine v_goto (tgt := 57) dX10_checkCertificate_123 (by decide) ?_
                exact K4 _ _ (by omega) (by omega)
              · refine v_iconst dX10_checkCertificate_114 ?_
                refine v_goto (tgt := 119) dX10_checkCertificate_115 (by decide) ?_
                refine v_istore_n (lv' := [_, _, _, _, _, _, _, _]) dX10_checkCertificate_119 (Nat.le_of_ble_eq_true rfl) rfl rfl ?_
                refine v_iinc (lv' := [_, _, _, _, _, _, _, _]) dX10_checkCertificate_120 rfl (Nat.le_of_ble_eq_true rfl) rfl rfl ?_
                refine v_goto (tgt := 57) dX10_checkCertificate_123 (by decide) ?_
                exact K4 _ _ (by omega) (by omega)
    exact K1 R.toNat 0 0 1 (by omega) (by omega) (Or.inl rfl) ⟨fun z => absurd z (by decide), fun ⟨q, q0, q1, _⟩ => by omega⟩ (Or.inr rfl) ⟨fun _ y y0 y1 => by omega, fun _ => rfl⟩
  refine v_iload_n dX10_checkCertificate_0 rfl ?_
  refine v_callSi1 dX10_checkCertificate_1 kX10_275 (Nat.le_of_ble_eq_true rfl) (c_X10_isSlot hs (fun zs => ?_) (fun zs => ?_))
  · refine v_if_ne (tgt := 9) dX10_checkCertificate_4 (by decide) (by decide) (fun q4 => ?_) (fun q4 => absurd q4 (by decide))
    refine v_aload_n dX10_checkCertificate_9 rfl ?_
    refine v_getR (k1 := 107) dX10_checkCertificate_10 s_97 fX10_44 rfl ?_
    refine v_iload_n dX10_checkCertificate_13 rfl ?_
    refine v_iaload dX10_checkCertificate_14 s_107 (by omega) ?_
    refine v_iconst dX10_checkCertificate_15 ?_
    refine v_icmp_ne (tgt := 22) dX10_checkCertificate_16 (by decide) (by have := hT s zs.1 zs.2; omega) (fun q16 => ?_) (fun q16 => ?_)
    · refine v_aload_n dX10_checkCertificate_22 rfl ?_
      refine v_getR (k1 := 107) dX10_checkCertificate_23 s_97 fX10_44 rfl ?_
      refine v_iload_n dX10_checkCertificate_26 rfl ?_
      refine v_iaload dX10_checkCertificate_27 s_107 (by omega) ?_
      refine v_if_eq (tgt := 34) dX10_checkCertificate_28 (by decide) (by have := hT s zs.1 zs.2; omega) (fun q28 => ?_) (fun q28 => ?_)
      · refine v_aload_n dX10_checkCertificate_34 rfl ?_
        refine v_getR (k1 := 108) dX10_checkCertificate_35 s_97 fX10_47 rfl ?_
        refine v_iload_n dX10_checkCertificate_38 rfl ?_
        refine v_iaload dX10_checkCertificate_39 s_108 (by omega) ?_
        refine v_aload_n dX10_checkCertificate_40 rfl ?_
        refine v_getI (ji := 1) dX10_checkCertificate_41 s_97 fX10_119 rfl ?_
        rw [c.2.1]
        refine v_icmp_ge (tgt := 50) dX10_checkCertificate_44 (by decide) (by have := hL s zs.1 zs.2 q16; omega) (fun q44 => ?_) (fun q44 => ?_)
        · refine v_iconst dX10_checkCertificate_50 ?_
          refine v_istore_n (lv' := [_, _, _, _, _, _, _, _]) dX10_checkCertificate_51 (Nat.le_of_ble_eq_true rfl) rfl rfl ?_
          refine v_iconst dX10_checkCertificate_52 ?_
          refine v_istore_n (lv' := [_, _, _, _, _, _, _, _]) dX10_checkCertificate_53 (Nat.le_of_ble_eq_true rfl) rfl rfl ?_
          refine v_iconst dX10_checkCertificate_54 ?_
          refine v_istore (lv' := [_, _, _, _, _, _, _, _]) dX10_checkCertificate_55 (Nat.le_of_ble_eq_true rfl) rfl rfl ?_
          exact KK zs q28 (by omega)
        · refine v_bipush dX10_checkCertificate_47 (by decide) ?_
          exact v_ireturn dX10_checkCertificate_49 rfl (h4 zs q28 (by omega))
      · refine v_bipush dX10_checkCertificate_31 (by decide) ?_
        exact v_ireturn dX10_checkCertificate_33 rfl (h3 zs q16 q28)
    · refine v_bipush dX10_checkCertificate_19 (by decide) ?_
      exact v_ireturn dX10_checkCertificate_21 rfl (h2 zs q16)
  · refine v_if_ne (tgt := 9) dX10_checkCertificate_4 (by decide) (by decide) (fun q4 => absurd q4 (by decide)) (fun q4 => ?_)
    refine v_iconst dX10_checkCertificate_7 ?_
    exact v_ireturn dX10_checkCertificate_8 rfl (h1 zs)
end
