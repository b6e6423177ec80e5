section
variable {d : Nat} {n R : Int} {lf rg : Int → List Int} {wt lev : Int → Int} {stt : Int} {ap : Int → UInt32} {str : List Int} {σ : S9}
theorem OkL.mono12 {xs : List Int} (h : OkL 6 6 xs) : OkL 6 12 xs := ⟨h.1, by have := h.2; omega⟩
theorem c_X10_sidesOf {r : Int} {P : Int → S9 → Prop} (hR8 : 0 ≤ R ∧ R ≤ 8) (g1 : gI σ 97 1 = R) (hll : ∀ r, 0 ≤ r → r < R → gI σ 98 (2 * r) = (lf r).length ∧ ∀ k : Int, 0 ≤ k → k < (lf r).length → gI σ 99 (12 * r + k) = at9 (lf r) k) (hrr : ∀ r, 0 ≤ r → r < R → gI σ 98 (2 * r + 1) = (rg r).length ∧ ∀ k : Int, 0 ≤ k → k < (rg r).length → gI σ 99 (12 * r + 6 + k) = at9 (rg r) k) (hol : ∀ r, 0 ≤ r → r < R → OkL 6 6 (lf r)) (hor : ∀ r, 0 ≤ r → r < R → OkL 6 6 (rg r)) (hs : 0 ≤ gI σ 97 6 ∧ gI σ 97 6 ≤ 1) (hwb : ∀ x, 0 ≤ x → x < 6 → 0 ≤ gI σ 100 x ∧ gI σ 100 x ≤ 99) (hvb : ∀ x, 0 ≤ x → x < 6 → 0 ≤ gI σ 101 x ∧ gI σ 101 x ≤ 9) (hr : 0 ≤ r ∧ r < R) (h : ∀ τ, eq9 (fun k => k ≠ 118 ∧ k ≠ 119) σ τ → P (cmp9 (gI σ 100) (gI σ 101) (gI σ 97 6) (lf r) (rg r)) τ) : Cc (d + 1) mX10_sidesOf [.ref 97, .int (iI r)] σ (QI P) := by
  have hl := (hol r hr.1 hr.2).2
  have hl2 := (hor r hr.1 hr.2).2
  have hLL := hll r hr.1 hr.2
  have hRR := hrr r hr.1 hr.2
  refine Cc_of (by decide +kernel) (fun _ => Nat.le_of_ble_eq_true rfl) rfl (lv := [_, _, _]) ?_
  have K : ∀ (m : Nat) (k : Int) (τ : S9), 0 ≤ k → k + m = 6 → eq9 (fun k => k ≠ 118 ∧ k ≠ 119) σ τ → (∀ j, 0 ≤ j → j < k → gI τ 118 j = gI σ 99 (12 * r + j) ∧ gI τ 119 j = gI σ 99 (12 * r + 6 + j)) → Vv (d + 1) mX10_sidesOf 2 [.ref 97, .int (iI r), .int (iI k)] [] τ (QI P) := by
    intro m
    induction m with
    | zero =>
      intro k τ hk hm he hI
      have f98 : gI τ 98 = gI σ 98 := (he 98 (by decide)).1
      have f97 : gI τ 97 = gI σ 97 := (he 97 (by decide)).1
      have f100 : gI τ 100 = gI σ 100 := (he 100 (by decide)).1
      have f101 : gI τ 101 = gI σ 101 := (he 101 (by decide)).1
      refine v_iload_n dX10_sidesOf_2 rfl ?_
      refine v_bipush dX10_sidesOf_3 (by decide) ?_
      refine v_icmp_ge (tgt := 51) dX10_sidesOf_5 (by decide) (by omega) (fun q5 => ?_) (fun q5 => absurd q5 (by omega))
      refine v_aload_n dX10_sidesOf_51 rfl ?_
      refine v_aload_n dX10_sidesOf_52 rfl ?_
      refine v_getR (k1 := 98) dX10_sidesOf_53 s_97 fX10_15 rfl ?_
      refine v_iconst dX10_sidesOf_56 ?_
      refine v_iload_n dX10_sidesOf_57 rfl ?_
      refine v_imul dX10_sidesOf_58 ?_
      refine v_iaload dX10_sidesOf_59 s_98 (by omega) ?_
      rw [f98, hLL.1]
      refine v_aload_n dX10_sidesOf_60 rfl ?_
      refine v_getR (k1 := 98) dX10_sidesOf_61 s_97 fX10_15 rfl ?_
      refine v_iconst dX10_sidesOf_64 ?_
      refine v_iload_n dX10_sidesOf_65 rfl ?_
      refine v_imul dX10_sidesOf_66 ?_
      refine v_iconst dX10_sidesOf_67 ?_
      refine v_iadd dX10_sidesOf_68 ?_
      refine v_iaload dX10_sidesOf_69 s_98 (by omega) ?_
      rw [f98, hRR.1]
      refine v_callVi2 dX10_sidesOf_70 kX10_171 s_97 (Nat.le_of_ble_eq_true rfl) (c_X10_compared (hol r hr.1 hr.2).mono12 (hor r hr.1 hr.2).mono12 (fun j a b => by rw [(hI j a (by omega)).1]; exact hLL.2 j a b) (fun j a b => by rw [(hI j a (by omega)).2]; exact hRR.2 j a b) (by rw [f97]; exact hs) (by rw [f100]; exact hwb) (by rw [f101]; exact hvb) ?_)
      exact v_ireturn dX10_sidesOf_73 rfl (by rw [f97, f100, f101]; exact h τ he)
    | succ m ih =>
      intro k τ hk hm he hI
      have f99 : gI τ 99 = gI σ 99 := (he 99 (by decide)).1
      refine v_iload_n dX10_sidesOf_2 rfl ?_
      refine v_bipush dX10_sidesOf_3 (by decide) ?_
      refine v_icmp_ge (tgt := 51) dX10_sidesOf_5 (by decide) (by omega) (fun q5 => absurd q5 (by omega)) (fun q5 => ?_)
      refine v_aload_n dX10_sidesOf_8 rfl ?_
      refine v_getR (k1 := 118) dX10_sidesOf_9 s_97 fX10_79 rfl ?_
      refine v_iload_n dX10_sidesOf_12 rfl ?_
      refine v_aload_n dX10_sidesOf_13 rfl ?_
      refine v_getR (k1 := 99) dX10_sidesOf_14 s_97 fX10_19 rfl ?_
      refine v_bipush dX10_sidesOf_17 (by decide) ?_
      refine v_iload_n dX10_sidesOf_19 rfl ?_
      refine v_imul dX10_sidesOf_20 ?_
      refine v_iload_n dX10_sidesOf_21 rfl ?_
      refine v_iadd dX10_sidesOf_22 ?_
      refine v_iaload dX10_sidesOf_23 s_99 (by omega) ?_
      rw [f99]
      refine v_iastore dX10_sidesOf_24 s_118 (by omega) ?_
      refine v_aload_n dX10_sidesOf_25 rfl ?_
      refine v_getR (k1 := 119) dX10_sidesOf_26 s_97 fX10_82 rfl ?_
      refine v_iload_n dX10_sidesOf_29 rfl ?_
      refine v_aload_n dX10_sidesOf_30 rfl ?_
      refine v_getR (k1 := 99) dX10_sidesOf_31 s_97 fX10_19 rfl ?_
      refine v_bipush dX10_sidesOf_34 (by decide) ?_
      refine v_iload_n dX10_sidesOf_36 rfl ?_
      refine v_imul dX10_sidesOf_37 ?_
      refine v_bipush dX10_sidesOf_38 (by decide) ?_
      refine v_iadd dX10_sidesOf_40 ?_
      refine v_iload_n dX10_sidesOf_41 rfl ?_
      refine v_iadd dX10_sidesOf_42 ?_
      refine v_iaload dX10_sidesOf_43 s_99 (by omega) ?_
      rw [gI_aI_ne (by decide), f99]
      refine v_iastore dX10_sidesOf_44 s_119 (by omega) ?_
      refine v_iinc (lv' := [_, _, _]) dX10_sidesOf_45 rfl (Nat.le_of_ble_eq_true rfl) rfl rfl ?_
      refine v_goto (tgt := 2) dX10_sidesOf_48 (by decide) ?_
      refine ih (k + 1) _ (by omega) (by omega) (he.tr ((eq9.aI (by decide)).tr (eq9.aI (by decide)))) (fun j a b => ?_)
      rw [gI_aI_ne (by decide), gI_aI_eq, gI_aI_eq, gI_aI_ne (by decide)]
      by_cases e : j = k
      · rw [e, up9_eq, up9_eq]; exact ⟨rfl, rfl⟩
      · rw [up9_ne e, up9_ne e]; exact hI j a (by omega)
  refine v_iconst dX10_sidesOf_0 ?_
  refine v_istore_n (lv' := [_, _, _]) dX10_sidesOf_1 (Nat.le_of_ble_eq_true rfl) rfl rfl ?_
  exact K 6 0 σ (by omega) (by omega) eq9.rf (fun j a b => by omega)
theorem c_X10_compareSides {r : Int} {P : Int → S9 → Prop} (hR8 : 0 ≤ R ∧ R ≤ 8) (g1 : gI σ 97 1 = R) (hll : ∀ r, 0 ≤ r → r < R → gI σ 98 (2 * r) = (lf r).length ∧ ∀ k : Int, 0 ≤ k → k < (lf r).length → gI σ 99 (12 * r + k) = at9 (lf r) k) (hrr : ∀ r, 0 ≤ r → r < R → gI σ 98 (2 * r + 1) = (rg r).length ∧ ∀ k : Int, 0 ≤ k → k < (rg r).length → gI σ 99 (12 * r + 6 + k) = at9 (rg r) k) (hol : ∀ r, 0 ≤ r → r < R → OkL 6 6 (lf r)) (hor : ∀ r, 0 ≤ r → r < R → OkL 6 6 (rg r)) (hs : 0 ≤ gI σ 97 6 ∧ gI σ 97 6 ≤ 1) (hwb : ∀ x, 0 ≤ x → x < 6 → 0 ≤ gI σ 100 x ∧ gI σ 100 x ≤ 99) (hvb : ∀ x, 0 ≤ x → x < 6 → 0 ≤ gI σ 101 x ∧ gI σ 101 x ≤ 9) (hr : (-2147483648 ≤ r ∧ r < 2147483648)) (h1 : ¬ (0 ≤ r ∧ r < R) → P (-3) σ) (h2 : 0 ≤ r ∧ r < R → ∀ τ, eq9 (fun k => k ≠ 118 ∧ k ≠ 119) σ τ → P (cmp9 (gI σ 100) (gI σ 101) (gI σ 97 6) (lf r) (rg r)) τ) : Cc (d + 2) mX10_compareSides [.ref 97, .int (iI r)] σ (QI P) := by
  refine Cc_of (by decide +kernel) (fun _ => Nat.le_of_ble_eq_true rfl) rfl (lv := [_, _]) ?_
  refine v_aload_n dX10_compareSides_0 rfl ?_
  refine v_iload_n dX10_compareSides_1 rfl ?_
  refine v_callVi1 dX10_compareSides_2 kX10_152 s_97 (Nat.le_of_ble_eq_true rfl) (c_X10_isRule g1 hR8 hr (fun z => ?_) (fun z => ?_))
  · refine v_if_eq (tgt := 16) dX10_compareSides_5 (by decide) (by decide) (fun q5 => absurd q5 (by decide)) (fun q5 => ?_)
    refine v_aload_n dX10_compareSides_8 rfl ?_
    refine v_iload_n dX10_compareSides_9 rfl ?_
    refine v_callVi1 dX10_compareSides_10 kX10_174 s_97 (Nat.le_of_ble_eq_true rfl) (c_X10_sidesOf hR8 g1 hll hrr hol hor hs hwb hvb z (fun τ e => ?_))
    refine v_goto (tgt := 18) dX10_compareSides_13 (by decide) ?_
    exact v_ireturn dX10_compareSides_18 rfl (by first | exact h2 z τ e | exact h1 z)
  · refine v_if_eq (tgt := 16) dX10_compareSides_5 (by decide) (by decide) (fun q5 => ?_) (fun q5 => absurd q5 (by decide))
    refine v_bipush dX10_compareSides_16 (by decide) ?_
    exact v_ireturn dX10_compareSides_18 rfl (by first | exact h2 z τ e | exact h1 z)
theorem c_X10_firstUnoriented {P : Int → S9 → Prop} (hR8 : 0 ≤ R ∧ R ≤ 8) (g1 : gI σ 97 1 = R) (hll : ∀ r, 0 ≤ r → r < R → gI σ 98 (2 * r) = (lf r).length ∧ ∀ k : Int, 0 ≤ k → k < (lf r).length → gI σ 99 (12 * r + k) = at9 (lf r) k) (hrr : ∀ r, 0 ≤ r → r < R → gI σ 98 (2 * r + 1) = (rg r).length ∧ ∀ k : Int, 0 ≤ k → k < (rg r).length → gI σ 99 (12 * r + 6 + k) = at9 (rg r) k) (hol : ∀ r, 0 ≤ r → r < R → OkL 6 6 (lf r)) (hor : ∀ r, 0 ≤ r → r < R → OkL 6 6 (rg r)) (hs : 0 ≤ gI σ 97 6 ∧ gI σ 97 6 ≤ 1) (hwb : ∀ x, 0 ≤ x → x < 6 → 0 ≤ gI σ 100 x ∧ gI σ 100 x ≤ 99) (hvb : ∀ x, 0 ≤ x → x < 6 → 0 ≤ gI σ 101 x ∧ gI σ 101 x ≤ 9) (h1 : ∀ r, 0 ≤ r → r < R → cmp9 (gI σ 100) (gI σ 101) (gI σ 97 6) (lf r) (rg r) ≠ 2 → (∀ s, 0 ≤ s → s < r → cmp9 (gI σ 100) (gI σ 101) (gI σ 97 6) (lf s) (rg s) = 2) → ∀ τ, eq9 (fun k => k ≠ 118 ∧ k ≠ 119) σ τ → P r τ) (h0 : (∀ s, 0 ≤ s → s < R → cmp9 (gI σ 100) (gI σ 101) (gI σ 97 6) (lf s) (rg s) = 2) → ∀ τ, eq9 (fun k => k ≠ 118 ∧ k ≠ 119) σ τ → P (-6) τ) : Cc (d + 2) mX10_firstUnoriented [.ref 97] σ (QI P) := by
  have cb : ∀ a b : List Int, 0 ≤ cmp9 (gI σ 100) (gI σ 101) (gI σ 97 6) a b ∧ cmp9 (gI σ 100) (gI σ 101) (gI σ 97 6) a b ≤ 2 := fun a b => by
    unfold cmp9 sgn9
    split
    · omega
    · split <;> omega
  refine Cc_of (by decide +kernel) (fun _ => Nat.le_of_ble_eq_true rfl) rfl (lv := [_, _]) ?_
  have K : ∀ (m : Nat) (r : Int) (τ : S9), 0 ≤ r → r + m = R → eq9 (fun k => k ≠ 118 ∧ k ≠ 119) σ τ → (∀ s, 0 ≤ s → s < r → cmp9 (gI σ 100) (gI σ 101) (gI σ 97 6) (lf s) (rg s) = 2) → Vv (d + 2) mX10_firstUnoriented 2 [.ref 97, .int (iI r)] [] τ (QI P) := by
    intro m
    induction m with
    | zero =>
      intro r τ hr hm he hI
      have f97 : gI τ 97 = gI σ 97 := (he 97 (by decide)).1
      refine v_iload_n dX10_firstUnoriented_2 rfl ?_
      refine v_aload_n dX10_firstUnoriented_3 rfl ?_
      refine v_getI (ji := 1) dX10_firstUnoriented_4 s_97 fX10_119 rfl ?_
      rw [f97, g1]
      refine v_icmp_ge (tgt := 27) dX10_firstUnoriented_7 (by decide) (by omega) (fun q7 => ?_) (fun q7 => absurd q7 (by omega))
      refine v_bipush dX10_firstUnoriented_27 (by decide) ?_
      exact v_ireturn dX10_firstUnoriented_29 rfl (h0 (fun s a b => hI s a (by omega)) τ he)
    | succ m ih =>
      intro r τ hr hm he hI
      have f97 : gI τ 97 = gI σ 97 := (he 97 (by decide)).1
      have f98 : gI τ 98 = gI σ 98 := (he 98 (by decide)).1
      have f99 : gI τ 99 = gI σ 99 := (he 99 (by decide)).1
      have f100 : gI τ 100 = gI σ 100 := (he 100 (by decide)).1
      have f101 : gI τ 101 = gI σ 101 := (he 101 (by decide)).1
      have cbr := cb (lf r) (rg r)
      refine v_iload_n dX10_firstUnoriented_2 rfl ?_
      refine v_aload_n dX10_firstUnoriented_3 rfl ?_
      refine v_getI (ji := 1) dX10_firstUnoriented_4 s_97 fX10_119 rfl ?_
      rw [f97, g1]
      refine v_icmp_ge (tgt := 27) dX10_firstUnoriented_7 (by decide) (by omega) (fun q7 => absurd q7 (by omega)) (fun q7 => ?_)
      refine v_aload_n dX10_firstUnoriented_10 rfl ?_
      refine v_iload_n dX10_firstUnoriented_11 rfl ?_
      refine v_callVi1 dX10_firstUnoriented_12 kX10_174 s_97 (Nat.le_of_ble_eq_true rfl) (c_X10_sidesOf (lf := lf) (rg := rg) hR8 (by rw [f97]; exact g1) (by rw [f98, f99]; exact hll) (by rw [f98, f99]; exact hrr) hol hor (by rw [f97]; exact hs) (by rw [f100]; exact hwb) (by rw [f101]; exact hvb) ⟨hr, by omega⟩ (fun υ e => ?_))
      rw [f97, f100, f101]
      refine v_iconst dX10_firstUnoriented_15 ?_
      refine v_icmp_eq (tgt := 21) dX10_firstUnoriented_16 (by decide) (by omega) (fun q16 => ?_) (fun q16 => ?_)
      · refine v_iinc (lv' := [_, _]) dX10_firstUnoriented_21 rfl (Nat.le_of_ble_eq_true rfl) rfl rfl ?_
        refine v_goto (tgt := 2) dX10_firstUnoriented_24 (by decide) ?_
        exact ih (r + 1) υ (by omega) (by omega) (he.tr e) (fun s a b => if q : s = r then (by rw [q]; exact q16) else hI s a (by omega))
      · refine v_iload_n dX10_firstUnoriented_19 rfl ?_
        exact v_ireturn dX10_firstUnoriented_20 rfl (h1 r hr (by omega) q16 hI υ (he.tr e))
  refine v_iconst dX10_firstUnoriented_0 ?_
  refine v_istore_n (lv' := [_, _]) dX10_firstUnoriented_1 (Nat.le_of_ble_eq_true rfl) rfl rfl ?_
  exact K R.toNat 0 σ (by omega) (by omega) eq9.rf (fun s a b => by omega)
theorem at_seg {f : Int → Int} {k : Int} {m : Nat} (h : 0 ≤ k ∧ k < m) (a : Int) : at9 (seg9 f a m) k = f (a + k) - 97 := by
  unfold at9 seg9
  rw [List.getD_eq_getElem?_getD, List.getElem?_map, List.getElem?_range (by omega)]
  show f (a + ((k.toNat : Nat) : Int)) - 97 = _
  rw [Int.toNat_of_nonneg h.1]
theorem c_X10_compareWithInput {P : Int → S9 → Prop} {k : Int} {f : Int → Int} (v : Va n R lf rg wt lev stt ap str) (c : SyMn σ n R lf rg wt lev stt ap str) (hi : InM σ k f) (hf : InV k f) (h1 : isT k f n → ∀ τ, eq9 (fun k => k ≠ 97 ∧ k ≠ 118 ∧ k ≠ 119) σ τ → gI τ 97 = up9 (gI σ 97) 9 0 → P (cmp9 (gI σ 100) (gI σ 101) (gI σ 97 6) str (seg9 f 0 k.toNat)) τ) (h0 : ¬ isT k f n → P (-5) (sI σ 97 9 0)) : Cc (d + 4) mX10_compareWithInput [.ref 97] σ (QI P) := by
  have hn := v.1
  have hR := v.2.1
  have hk := hf.1
  have ostr := v.2.2.2.2.2
  have lstr := ostr.2
  have hwb : ∀ x, 0 ≤ x → x < 6 → 0 ≤ gI σ 100 x ∧ gI σ 100 x ≤ 99 := fun x a b => by rw [c.w9 ⟨a, b⟩]; exact (v.2.2.2.1 x a (by omega)).1
  have hvb : ∀ x, 0 ≤ x → x < 6 → 0 ≤ gI σ 101 x ∧ gI σ 101 x ≤ 9 := fun x a b => by rw [c.v9 ⟨a, b⟩]; exact (v.2.2.2.1 x a (by omega)).2.1
  refine Cc_of (by decide +kernel) (fun _ => Nat.le_of_ble_eq_true rfl) rfl (lv := [_, _, _]) ?_
  have K2 : isT k f n → ∀ (m : Nat) (j : Int) (τ : S9), 0 ≤ j → j + m = k → eq9 (fun k => k ≠ 97 ∧ k ≠ 118 ∧ k ≠ 119) σ τ → gI τ 97 = up9 (gI σ 97) 9 0 → (∀ i : Int, 0 ≤ i → i < str.length → gI τ 118 i = at9 str i) → (∀ i, 0 ≤ i → i < j → gI τ 119 i = f i - 97) → Vv (d + 4) mX10_compareWithInput 43 [.ref 97, .int (iI k), .int (iI j)] [] τ (QI P) := by
    intro hT m
    have hT1 := hT.1
    induction m with
    | zero =>
      intro j τ hj hm he h97 h118 h119
      have z11 : gI τ 97 11 = str.length := by rw [h97, up9_ne (by decide)]; exact c.2.2.2.1
      have z6 : gI τ 97 6 = gI σ 97 6 := by rw [h97, up9_ne (by decide)]
      have f100 : gI τ 100 = gI σ 100 := (he 100 (by decide)).1
      have f101 : gI τ 101 = gI σ 101 := (he 101 (by decide)).1
      have ls : ((seg9 f 0 k.toNat).length : Int) = k := by rw [seg9_len]; omega
      refine v_iload_n dX10_compareWithInput_43 rfl ?_
      refine v_iload_n dX10_compareWithInput_44 rfl ?_
      refine v_icmp_ge (tgt := 69) dX10_compareWithInput_45 (by decide) (by omega) (fun q45 => ?_) (fun q45 => absurd q45 (by omega))
      refine v_aload_n dX10_compareWithInput_69 rfl ?_
      refine v_aload_n dX10_compareWithInput_70 rfl ?_
      refine v_getI (ji := 11) dX10_compareWithInput_71 s_97 fX10_124 rfl ?_
      refine v_iload_n dX10_compareWithInput_74 rfl ?_
      rw [z11, ← ls]
      refine v_callVi2 dX10_compareWithInput_75 kX10_171 s_97 (Nat.le_of_ble_eq_true rfl) (c_X10_compared (xs := str) (ys := seg9 f 0 k.toNat) ⟨fun x hx => by have := ostr.1 x hx; omega, ostr.2⟩ ⟨fun x hx => by have := (isT_ok hT hk.1).1 x hx; omega, (isT_ok hT hk.1).2⟩ h118 (fun i a b => by rw [h119 i a (by omega), at_seg (by omega) 0, Int.zero_add]) (by rw [z6, c.2.2.1]; exact v.2.2.2.2.1) (by rw [f100]; exact hwb) (by rw [f101]; exact hvb) ?_)
      exact v_ireturn dX10_compareWithInput_78 rfl (by rw [z6, f100, f101]; exact h1 hT τ he h97)
    | succ m ih =>
      intro j τ hj hm he h97 h118 h119
      have f103 : gI τ 103 j = f j := by rw [(he 103 (by decide)).1]; exact hi.2 j hj (by omega)
      refine v_iload_n dX10_compareWithInput_43 rfl ?_
      refine v_iload_n dX10_compareWithInput_44 rfl ?_
      refine v_icmp_ge (tgt := 69) dX10_compareWithInput_45 (by decide) (by omega) (fun q45 => absurd q45 (by omega)) (fun q45 => ?_)
      refine v_aload_n dX10_compareWithInput_48 rfl ?_
      refine v_getR (k1 := 119) dX10_compareWithInput_49 s_97 fX10_82 rfl ?_
      refine v_iload_n dX10_compareWithInput_52 rfl ?_
      refine v_aload_n dX10_compareWithInput_53 rfl ?_
      refine v_getR (k1 := 103) dX10_compareWithInput_54 s_97 fX10_32 rfl ?_
      refine v_iload_n dX10_compareWithInput_57 rfl ?_
      refine v_iaload dX10_compareWithInput_58 s_103 (by omega) ?_
      rw [f103]
      refine v_bipush dX10_compareWithInput_59 (by decide) ?_
      refine v_isub dX10_compareWithInput_61 ?_
      refine v_iastore dX10_compareWithInput_62 s_119 (by omega) ?_
      refine v_iinc (lv' := [_, _, _]) dX10_compareWithInput_63 rfl (Nat.le_of_ble_eq_true rfl) rfl rfl ?_
      refine v_goto (tgt := 43) dX10_compareWithInput_66 (by decide) ?_
      refine ih (j + 1) _ (by omega) (by omega) (he.tr (eq9.aI (by decide))) (by rw [gI_aI_ne (by decide)]; exact h97) (by rw [gI_aI_ne (by decide)]; exact h118) (fun i a b => ?_)
      rw [gI_aI_eq]
      by_cases e : i = j
      · rw [e, up9_eq]
      · rw [up9_ne e]; exact h119 i a (by omega)
  have K1 : isT k f n → ∀ (m : Nat) (j : Int) (τ : S9), 0 ≤ j → j + m = str.length → eq9 (fun k => k ≠ 97 ∧ k ≠ 118 ∧ k ≠ 119) σ τ → gI τ 97 = up9 (gI σ 97) 9 0 → (∀ i : Int, 0 ≤ i → i < j → gI τ 118 i = at9 str i) → Vv (d + 4) mX10_compareWithInput 15 [.ref 97, .int (iI k), .int (iI j)] [] τ (QI P) := by
    intro hT m
    induction m with
    | zero =>
      intro j τ hj hm he h97 h118
      have z11 : gI τ 97 11 = str.length := by rw [h97, up9_ne (by decide)]; exact c.2.2.2.1
      refine v_iload_n dX10_compareWithInput_15 rfl ?_
      refine v_aload_n dX10_compareWithInput_16 rfl ?_
      refine v_getI (ji := 11) dX10_compareWithInput_17 s_97 fX10_124 rfl ?_
      rw [z11]
      refine v_icmp_ge (tgt := 41) dX10_compareWithInput_20 (by decide) (by omega) (fun q20 => ?_) (fun q20 => absurd q20 (by omega))
      refine v_iconst dX10_compareWithInput_41 ?_
      refine v_istore_n (lv' := [_, _, _]) dX10_compareWithInput_42 (Nat.le_of_ble_eq_true rfl) rfl rfl ?_
      exact K2 hT k.toNat 0 τ (by omega) (by omega) he h97 (fun i a b => h118 i a (by omega)) (fun i a b => by omega)
    | succ m ih =>
      intro j τ hj hm he h97 h118
      have z11 : gI τ 97 11 = str.length := by rw [h97, up9_ne (by decide)]; exact c.2.2.2.1
      have f104 : gI τ 104 j = at9 str j := by rw [(he 104 (by decide)).1]; exact c.tt j hj (by omega)
      refine v_iload_n dX10_compareWithInput_15 rfl ?_
      refine v_aload_n dX10_compareWithInput_16 rfl ?_
      refine v_getI (ji := 11) dX10_compareWithInput_17 s_97 fX10_124 rfl ?_
      rw [z11]
      refine v_icmp_ge (tgt := 41) dX10_compareWithInput_20 (by decide) (by omega) (fun q20 => absurd q20 (by omega)) (fun q20 => ?_)
      refine v_aload_n dX10_compareWithInput_23 rfl ?_
      refine v_getR (k1 := 118) dX10_compareWithInput_24 s_97 fX10_79 rfl ?_
      refine v_iload_n dX10_compareWithInput_27 rfl ?_
      refine v_aload_n dX10_compareWithInput_28 rfl ?_
      refine v_getR (k1 := 104) dX10_compareWithInput_29 s_97 fX10_35 rfl ?_
      refine v_iload_n dX10_compareWithInput_32 rfl ?_
      refine v_iaload dX10_compareWithInput_33 s_104 (by omega) ?_
      rw [f104]
      refine v_iastore dX10_compareWithInput_34 s_118 (by omega) ?_
      refine v_iinc (lv' := [_, _, _]) dX10_compareWithInput_35 rfl (Nat.le_of_ble_eq_true rfl) rfl rfl ?_
      refine v_goto (tgt := 15) dX10_compareWithInput_38 (by decide) ?_
      refine ih (j + 1) _ (by omega) (by omega) (he.tr (eq9.aI (by decide))) (by rw [gI_aI_ne (by decide)]; exact h97) (fun i a b => ?_)
      rw [gI_aI_eq]
      by_cases e : i = j
      · rw [e, up9_eq]
      · rw [up9_ne e]; exact h118 i a (by omega)
  refine v_aload_n dX10_compareWithInput_0 rfl ?_
  refine v_callVi0 dX10_compareWithInput_1 kX10_177 s_97 (Nat.le_of_ble_eq_true rfl) (c_X10_taken c.1 (by omega) hi hf (fun z => ?_) (fun z => ?_))
  · refine v_istore_n (lv' := [_, _, _]) dX10_compareWithInput_4 (Nat.le_of_ble_eq_true rfl) rfl rfl ?_
    refine v_iload_n dX10_compareWithInput_5 rfl ?_
    refine v_iconst dX10_compareWithInput_6 ?_
    refine v_icmp_ne (tgt := 13) dX10_compareWithInput_7 (by decide) (by omega) (fun q7 => ?_) (fun q7 => absurd q7 (by omega))
    refine v_iconst dX10_compareWithInput_13 ?_
    refine v_istore_n (lv' := [_, _, _]) dX10_compareWithInput_14 (Nat.le_of_ble_eq_true rfl) rfl rfl ?_
    exact K1 z str.length 0 _ (by omega) (by omega) (eq9.aI (by decide)) (gI_aI_eq _ _ _) (fun i a b => by omega)
  · refine v_istore_n (lv' := [_, _, _]) dX10_compareWithInput_4 (Nat.le_of_ble_eq_true rfl) rfl rfl ?_
    refine v_iload_n dX10_compareWithInput_5 rfl ?_
    refine v_iconst dX10_compareWithInput_6 ?_
    refine v_icmp_ne (tgt := 13) dX10_compareWithInput_7 (by decide) (by decide) (fun q7 => absurd rfl q7) (fun q7 => ?_)
    refine v_bipush dX10_compareWithInput_10 (by decide) ?_
    exact v_ireturn dX10_compareWithInput_12 rfl (h0 z)
theorem c_X10_setString {P : Int → S9 → Prop} {k : Int} {f : Int → Int} (v : Va n R lf rg wt lev stt ap str) (c : SyMn σ n R lf rg wt lev stt ap str) (hi : InM σ k f) (hf : InV k f) (h1 : isT k f n → ∀ τ, eq9 (fun k => k ≠ 97 ∧ k ≠ 104) σ τ → gI τ 97 = up9 (up9 (gI σ 97) 9 0) 11 k → (∀ i, 0 ≤ i → i < k → gI τ 104 i = f i - 97) → P k τ) (h0 : ¬ isT k f n → P (-5) (sI σ 97 9 0)) : Cc (d + 4) mX10_setString [.ref 97] σ (QI P) := by
  have hn := v.1
  have hR := v.2.1
  have hk := hf.1
  refine Cc_of (by decide +kernel) (fun _ => Nat.le_of_ble_eq_true rfl) rfl (lv := [_, _, _]) ?_
  have K1 : isT k f n → ∀ (m : Nat) (j : Int) (τ : S9), 0 ≤ j → j + m = k → eq9 (fun k => k ≠ 97 ∧ k ≠ 104) σ τ → gI τ 97 = up9 (gI σ 97) 9 0 → (∀ i : Int, 0 ≤ i → i < j → gI τ 104 i = f i - 97) → Vv (d + 4) mX10_setString 15 [.ref 97, .int (iI k), .int (iI j)] [] τ (QI P) := by
    intro hT m
    have hT1 := hT.1
    induction m with
    | zero =>
      intro j τ hj hm he h97 h104
      refine v_iload_n dX10_setString_15 rfl ?_
      refine v_iload_n dX10_setString_16 rfl ?_
      refine v_icmp_ge (tgt := 41) dX10_setString_17 (by decide) (by omega) (fun q17 => ?_) (fun q17 => absurd q17 (by omega))
      refine v_aload_n dX10_setString_41 rfl ?_
      refine v_iload_n dX10_setString_42 rfl ?_
      refine v_putI (ji := 11) dX10_setString_43 s_97 pfX10_124 rfl ?_
      refine v_aload_n dX10_setString_46 rfl ?_
      refine v_getI (ji := 11) dX10_setString_47 s_97 fX10_124 rfl ?_
      rw [gI_aI_eq, up9_eq]
      exact v_ireturn dX10_setString_50 rfl (h1 hT _ (he.tr (eq9.aI (by decide))) (by rw [gI_aI_eq, h97]) (fun i a b => by rw [gI_aI_ne (by decide)]; exact h104 i a (by omega)))
    | succ m ih =>
      intro j τ hj hm he h97 h104
      have f103 : gI τ 103 j = f j := by rw [(he 103 (by decide)).1]; exact hi.2 j hj (by omega)
      refine v_iload_n dX10_setString_15 rfl ?_
      refine v_iload_n dX10_setString_16 rfl ?_
      refine v_icmp_ge (tgt := 41) dX10_setString_17 (by decide) (by omega) (fun q17 => absurd q17 (by omega)) (fun q17 => ?_)
      refine v_aload_n dX10_setString_20 rfl ?_
      refine v_getR (k1 := 104) dX10_setString_21 s_97 fX10_35 rfl ?_
      refine v_iload_n dX10_setString_24 rfl ?_
      refine v_aload_n dX10_setString_25 rfl ?_
      refine v_getR (k1 := 103) dX10_setString_26 s_97 fX10_32 rfl ?_
      refine v_iload_n dX10_setString_29 rfl ?_
      refine v_iaload dX10_setString_30 s_103 (by omega) ?_
      rw [f103]
      refine v_bipush dX10_setString_31 (by decide) ?_
      refine v_isub dX10_setString_33 ?_
      refine v_iastore dX10_setString_34 s_104 (by omega) ?_
      refine v_iinc (lv' := [_, _, _]) dX10_setString_35 rfl (Nat.le_of_ble_eq_true rfl) rfl rfl ?_
      refine v_goto (tgt := 15) dX10_setString_38 (by decide) ?_
      refine ih (j + 1) _ (by omega) (by omega) (he.tr (eq9.aI (by decide))) (by rw [gI_aI_ne (by decide)]; exact h97) (fun i a b => ?_)
      rw [gI_aI_eq]
      by_cases e : i = j
      · rw [e, up9_eq]
      · rw [up9_ne e]; exact h104 i a (by omega)
  refine v_aload_n dX10_setString_0 rfl ?_
  refine v_callVi0 dX10_setString_1 kX10_177 s_97 (Nat.le_of_ble_eq_true rfl) (c_X10_taken c.1 (by omega) hi hf (fun z => ?_) (fun z => ?_))
  · refine v_istore_n (lv' := [_, _, _]) dX10_setString_4 (Nat.le_of_ble_eq_true rfl) rfl rfl ?_
    refine v_iload_n dX10_setString_5 rfl ?_
    refine v_iconst dX10_setString_6 ?_
    refine v_icmp_ne (tgt := 13) dX10_setString_7 (by decide) (by omega) (fun q7 => ?_) (fun q7 => absurd q7 (by omega))
    refine v_iconst dX10_setString_13 ?_
    refine v_istore_n (lv' := [_, _, _]) dX10_setString_14 (Nat.le_of_ble_eq_true rfl) rfl rfl ?_
    exact K1 z k.toNat 0 _ (by omega) (by omega) (eq9.aI (by decide)) (gI_aI_eq _ _ _) (fun i a b => by omega)
  · refine v_istore_n (lv' := [_, _, _]) dX10_setString_4 (Nat.le_of_ble_eq_true rfl) rfl rfl ?_
    refine v_iload_n dX10_setString_5 rfl ?_
    refine v_iconst dX10_setString_6 ?_
    refine v_icmp_ne (tgt := 13) dX10_setString_7 (by decide) (by decide) (fun q7 => absurd rfl q7) (fun q7 => ?_)
    refine v_bipush dX10_setString_10 (by decide) ?_
    exact v_ireturn dX10_setString_12 rfl (h0 z)
end
