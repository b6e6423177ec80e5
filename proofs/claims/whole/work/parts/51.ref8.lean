section
variable {d : Nat} {n R : Int} {lf rg : Int → List Int} {wt lev : Int → Int} {stt : Int} {ap : Int → UInt32} {str : List Int} {σ : S9}
theorem O6.app {a b : List Int} (ha : O6 a) (hb : ∀ x ∈ b, 0 ≤ x ∧ x < 6) (h : a.length + b.length ≤ 12) : O6 (a ++ b) := ⟨fun x hx => (List.mem_append.mp hx).elim (ha.1 x) (hb x), by rw [List.length_append]; exact h⟩
theorem c_X10_stepped {w l rr : List Int} {r p : Int} {P : Int → S9 → Prop} (hw : O6 w) (hl : OkL 6 6 l) (hrr : OkL 6 6 rr) (hr : 0 ≤ r ∧ r < 8) (hp : (-2147483648 ≤ p ∧ p < 2147483648)) (e1 : gI σ 98 (2 * r) = l.length) (e2 : ∀ k : Int, 0 ≤ k → k < l.length → gI σ 99 (12 * r + k) = at9 l k) (f1 : gI σ 98 (2 * r + 1) = rr.length) (f2 : ∀ k : Int, 0 ≤ k → k < rr.length → gI σ 99 (12 * r + 6 + k) = at9 rr k) (h1 : ∀ ys, stp9 l rr w p = some ys → P (em9 ys) σ) (h0 : stp9 l rr w p = none → P (-1) σ) : Cc (d + 2) mX10_stepped [.ref 97, .long (lI (em9 w)), .int (iI r), .int (iI p)] σ (QL P) := by
  have hl6 := hl.2
  have hr6 := hrr.2
  have hw12 := hw.2
  refine Cc_of (by decide +kernel) (fun _ => Nat.le_of_ble_eq_true rfl) rfl (lv := [_, _, _, _, _, _, _, _, _, _, _]) ?_
  have main : occ9 l w p → (w.length : Int) - l.length + rr.length ≤ 12 → Vv (d + 2) mX10_stepped 64 [.ref 97, .long (lI (em9 w)), .null, .int (iI r), .int (iI p), .int (iI w.length), .int (iI l.length), .int (iI rr.length), .long (lI (em9 [])), .null, .int (iI 0)] [] σ (QL P) := by
    intro ho hlen
    have fin := h1 _ (stp9_some ho hlen)
    obtain ⟨ho1, ho2, ho3⟩ := ho
    have hdl : (w.drop (p.toNat + l.length)).length = ((w.length : Int) - l.length - p).toNat := by rw [List.length_drop]; omega
    have K3 : ∀ (m : Nat) (j : Nat), j + m = (w.drop (p.toNat + l.length)).length → Vv (d + 2) mX10_stepped 137 [.ref 97, .long (lI (em9 w)), .null, .int (iI r), .int (iI p), .int (iI w.length), .int (iI l.length), .int (iI rr.length), .long (lI (em9 (w.take p.toNat ++ rr ++ (w.drop (p.toNat + l.length)).take j))), .null, .int (iI (p + l.length + j))] [] σ (QL P) := by
      intro m
      induction m with
      | zero =>
        intro j hj
        rw [show (w.drop (p.toNat + l.length)).take j = w.drop (p.toNat + l.length) from List.take_of_length_le (by omega)]
        refine v_iload dX10_stepped_137 rfl ?_
        refine v_iload dX10_stepped_139 rfl ?_
        refine v_icmp_ge (tgt := 165) dX10_stepped_141 (by decide) (by omega) (fun q141 => ?_) (fun q141 => absurd q141 (by omega))
        refine v_lload dX10_stepped_165 rfl ?_
        exact v_lreturn dX10_stepped_167 rfl (fin)
      | succ m ih =>
        intro j hj
        have ha := hw.1 _ (at9_mem (xs := w) (p := p + l.length + j) (by omega))
        have ih := ih (j + 1) (by omega)
        have et : (w.drop (p.toNat + l.length)).take (j + 1) = (w.drop (p.toNat + l.length)).take j ++ [at9 w (p + l.length + j)] := by
          have := at9_take (xs := w.drop (p.toNat + l.length)) (k := j) (by omega)
          rw [show ((j : Int) + 1).toNat = j + 1 by omega, Int.toNat_natCast] at this
          rw [this]
          congr 2
          unfold at9
          rw [List.getD_eq_getElem?_getD, List.getD_eq_getElem?_getD, List.getElem?_drop, show (p + (l.length : Int) + (j : Int)).toNat = p.toNat + l.length + (j : Int).toNat by omega]
        rw [et, ← List.append_assoc, show ((j + 1 : Nat) : Int) = (j : Int) + 1 by omega, ← Int.add_assoc] at ih
        refine v_iload dX10_stepped_137 rfl ?_
        refine v_iload dX10_stepped_139 rfl ?_
        refine v_icmp_ge (tgt := 165) dX10_stepped_141 (by decide) (by omega) (fun q141 => absurd q141 (by omega)) (fun q141 => ?_)
        refine v_lload dX10_stepped_144 rfl ?_
        refine v_lload_n dX10_stepped_146 rfl ?_
        refine v_iload dX10_stepped_147 rfl ?_
        refine v_iload dX10_stepped_149 rfl ?_
        refine v_callSi3 dX10_stepped_151 kX10_200 (Nat.le_of_ble_eq_true rfl) (c_X10_letterOf hw (by omega) ?_)
        refine v_callSl2 dX10_stepped_154 kX10_214 (Nat.le_of_ble_eq_true rfl) (c_X10_with ha ?_)
        refine v_lstore (lv' := [_, _, _, _, _, _, _, _, _, _, _]) dX10_stepped_157 (Nat.le_of_ble_eq_true rfl) rfl rfl ?_
        refine v_iinc (lv' := [_, _, _, _, _, _, _, _, _, _, _]) dX10_stepped_159 rfl (Nat.le_of_ble_eq_true rfl) rfl rfl ?_
        refine v_goto (tgt := 137) dX10_stepped_162 (by decide) ?_
        exact ih
    have K2 : ∀ (m : Nat) (k : Int), 0 ≤ k → k + m = rr.length → Vv (d + 2) mX10_stepped 95 [.ref 97, .long (lI (em9 w)), .null, .int (iI r), .int (iI p), .int (iI w.length), .int (iI l.length), .int (iI rr.length), .long (lI (em9 (w.take p.toNat ++ rr.take k.toNat))), .null, .int (iI k)] [] σ (QL P) := by
      intro m
      induction m with
      | zero =>
        intro k hk hm
        rw [show rr.take k.toNat = rr from List.take_of_length_le (by omega)]
        refine v_iload dX10_stepped_95 rfl ?_
        refine v_iload dX10_stepped_97 rfl ?_
        refine v_icmp_ge (tgt := 130) dX10_stepped_99 (by decide) (by omega) (fun q99 => ?_) (fun q99 => absurd q99 (by omega))
        refine v_iload dX10_stepped_130 rfl ?_
        refine v_iload dX10_stepped_132 rfl ?_
        refine v_iadd dX10_stepped_134 ?_
        refine v_istore (lv' := [_, _, _, _, _, _, _, _, _, _, _]) dX10_stepped_135 (Nat.le_of_ble_eq_true rfl) rfl rfl ?_
        have h8 := K3 (w.drop (p.toNat + l.length)).length 0 (by omega)
        rw [List.take_zero, List.append_nil, show p + (l.length : Int) + ((0 : Nat) : Int) = p + l.length by omega] at h8
        exact h8
      | succ m ih =>
        intro k hk hm
        have ha := hrr.1 _ (at9_mem (xs := rr) (p := k) (by omega))
        have ih := ih (k + 1) (by omega) (by omega)
        rw [at9_take (by omega), ← List.append_assoc] at ih
        refine v_iload dX10_stepped_95 rfl ?_
        refine v_iload dX10_stepped_97 rfl ?_
        refine v_icmp_ge (tgt := 130) dX10_stepped_99 (by decide) (by omega) (fun q99 => absurd q99 (by omega)) (fun q99 => ?_)
        refine v_lload dX10_stepped_102 rfl ?_
        refine v_aload_n dX10_stepped_104 rfl ?_
        refine v_getR (k1 := 99) dX10_stepped_105 s_97 fX10_19 rfl ?_
        refine v_bipush dX10_stepped_108 (by decide) ?_
        refine v_iload_n dX10_stepped_110 rfl ?_
        refine v_imul dX10_stepped_111 ?_
        refine v_bipush dX10_stepped_112 (by decide) ?_
        refine v_iadd dX10_stepped_114 ?_
        refine v_iload dX10_stepped_115 rfl ?_
        refine v_iadd dX10_stepped_117 ?_
        refine v_iaload dX10_stepped_118 s_99 (by omega) ?_
        rw [f2 k hk (by omega)]
        refine v_callSl2 dX10_stepped_119 kX10_214 (Nat.le_of_ble_eq_true rfl) (c_X10_with ha ?_)
        refine v_lstore (lv' := [_, _, _, _, _, _, _, _, _, _, _]) dX10_stepped_122 (Nat.le_of_ble_eq_true rfl) rfl rfl ?_
        refine v_iinc (lv' := [_, _, _, _, _, _, _, _, _, _, _]) dX10_stepped_124 rfl (Nat.le_of_ble_eq_true rfl) rfl rfl ?_
        refine v_goto (tgt := 95) dX10_stepped_127 (by decide) ?_
        exact ih
    have K1 : ∀ (m : Nat) (k : Int), 0 ≤ k → k + m = p → Vv (d + 2) mX10_stepped 64 [.ref 97, .long (lI (em9 w)), .null, .int (iI r), .int (iI p), .int (iI w.length), .int (iI l.length), .int (iI rr.length), .long (lI (em9 (w.take k.toNat))), .null, .int (iI k)] [] σ (QL P) := by
      intro m
      induction m with
      | zero =>
        intro k hk hm
        refine v_iload dX10_stepped_64 rfl ?_
        refine v_iload dX10_stepped_66 rfl ?_
        refine v_icmp_ge (tgt := 92) dX10_stepped_68 (by decide) (by omega) (fun q68 => ?_) (fun q68 => absurd q68 (by omega))
        refine v_iconst dX10_stepped_92 ?_
        refine v_istore (lv' := [_, _, _, _, _, _, _, _, _, _, _]) dX10_stepped_93 (Nat.le_of_ble_eq_true rfl) rfl rfl ?_
        have h8 := K2 rr.length 0 (by omega) (by omega)
        rw [show rr.take (0 : Int).toNat = [] from rfl, List.append_nil] at h8
        rw [show k = p by omega]
        exact h8
      | succ m ih =>
        intro k hk hm
        have ha := hw.1 _ (at9_mem (xs := w) (p := k) (by omega))
        have ih := ih (k + 1) (by omega) (by omega)
        rw [at9_take (by omega)] at ih
        refine v_iload dX10_stepped_64 rfl ?_
        refine v_iload dX10_stepped_66 rfl ?_
        refine v_icmp_ge (tgt := 92) dX10_stepped_68 (by decide) (by omega) (fun q68 => absurd q68 (by omega)) (fun q68 => ?_)
        refine v_lload dX10_stepped_71 rfl ?_
        refine v_lload_n dX10_stepped_73 rfl ?_
        refine v_iload dX10_stepped_74 rfl ?_
        refine v_iload dX10_stepped_76 rfl ?_
        refine v_callSi3 dX10_stepped_78 kX10_200 (Nat.le_of_ble_eq_true rfl) (c_X10_letterOf hw (by omega) ?_)
        refine v_callSl2 dX10_stepped_81 kX10_214 (Nat.le_of_ble_eq_true rfl) (c_X10_with ha ?_)
        refine v_lstore (lv' := [_, _, _, _, _, _, _, _, _, _, _]) dX10_stepped_84 (Nat.le_of_ble_eq_true rfl) rfl rfl ?_
        refine v_iinc (lv' := [_, _, _, _, _, _, _, _, _, _, _]) dX10_stepped_86 rfl (Nat.le_of_ble_eq_true rfl) rfl rfl ?_
        refine v_goto (tgt := 64) dX10_stepped_89 (by decide) ?_
        exact ih
    exact K1 p.toNat 0 (by omega) (by omega)
  refine v_lload_n dX10_stepped_0 rfl ?_
  refine v_callSi1 dX10_stepped_1 kX10_204 (Nat.le_of_ble_eq_true rfl) (c_X10_sizeOf hw ?_)
  refine v_istore (lv' := [_, _, _, _, _, _, _, _, _, _, _]) dX10_stepped_4 (Nat.le_of_ble_eq_true rfl) rfl rfl ?_
  refine v_aload_n dX10_stepped_6 rfl ?_
  refine v_getR (k1 := 98) dX10_stepped_7 s_97 fX10_15 rfl ?_
  refine v_iconst dX10_stepped_10 ?_
  refine v_iload_n dX10_stepped_11 rfl ?_
  refine v_imul dX10_stepped_12 ?_
  refine v_iaload dX10_stepped_13 s_98 (by omega) ?_
  rw [e1]
  refine v_istore (lv' := [_, _, _, _, _, _, _, _, _, _, _]) dX10_stepped_14 (Nat.le_of_ble_eq_true rfl) rfl rfl ?_
  refine v_aload_n dX10_stepped_16 rfl ?_
  refine v_getR (k1 := 98) dX10_stepped_17 s_97 fX10_15 rfl ?_
  refine v_iconst dX10_stepped_20 ?_
  refine v_iload_n dX10_stepped_21 rfl ?_
  refine v_imul dX10_stepped_22 ?_
  refine v_iconst dX10_stepped_23 ?_
  refine v_iadd dX10_stepped_24 ?_
  refine v_iaload dX10_stepped_25 s_98 (by omega) ?_
  rw [f1]
  refine v_istore (lv' := [_, _, _, _, _, _, _, _, _, _, _]) dX10_stepped_26 (Nat.le_of_ble_eq_true rfl) rfl rfl ?_
  refine v_aload_n dX10_stepped_28 rfl ?_
  refine v_lload_n dX10_stepped_29 rfl ?_
  refine v_iload dX10_stepped_30 rfl ?_
  refine v_iload_n dX10_stepped_32 rfl ?_
  refine v_iload dX10_stepped_33 rfl ?_
  refine v_callVi4 dX10_stepped_35 kX10_208 s_97 (Nat.le_of_ble_eq_true rfl) (c_X10_stands hw hl hr hp e1 e2 (fun z => ?_) (fun z => ?_))
  · refine v_if_eq (tgt := 54) dX10_stepped_38 (by decide) (by decide) (fun q38 => absurd q38 (by decide)) (fun q38 => ?_)
    refine v_iload dX10_stepped_41 rfl ?_
    refine v_iload dX10_stepped_43 rfl ?_
    refine v_isub dX10_stepped_45 ?_
    refine v_iload dX10_stepped_46 rfl ?_
    refine v_iadd dX10_stepped_48 ?_
    refine v_bipush dX10_stepped_49 (by decide) ?_
    refine v_icmp_le (tgt := 58) dX10_stepped_51 (by decide) (by omega) (fun q51 => ?_) (fun q51 => ?_)
    · refine v_lconst0 dX10_stepped_58 ?_
      refine v_lstore (lv' := [_, _, _, _, _, _, _, _, _, _, _]) dX10_stepped_59 (Nat.le_of_ble_eq_true rfl) rfl rfl ?_
      refine v_iconst dX10_stepped_61 ?_
      refine v_istore (lv' := [_, _, _, _, _, _, _, _, _, _, _]) dX10_stepped_62 (Nat.le_of_ble_eq_true rfl) rfl rfl ?_
      exact main z (by omega)
    · refine v_ldc2 dX10_stepped_54 wX10_212 ?_
      exact v_lreturn dX10_stepped_57 rfl (by first | exact h0 (stp9_no z) | exact h0 (stp9_long (by omega)))
  · refine v_if_eq (tgt := 54) dX10_stepped_38 (by decide) (by decide) (fun q38 => ?_) (fun q38 => absurd q38 (by decide))
    refine v_ldc2 dX10_stepped_54 wX10_212 ?_
    exact v_lreturn dX10_stepped_57 rfl (by first | exact h0 (stp9_no z) | exact h0 (stp9_long (by omega)))
theorem Va.o6 (v : Va n R lf rg wt lev stt ap str) {xs : List Int} (h : OkL n 12 xs) : O6 xs := ⟨fun x hx => by have := h.1 x hx; have := v.1; omega, h.2⟩
theorem c_X10_step9 {w : List Int} {r p : Int} {P : Int → S9 → Prop} (v : Va n R lf rg wt lev stt ap str) (c : SyMn σ n R lf rg wt lev stt ap str) (hw : O6 w) (hr : 0 ≤ r ∧ r < R) (hp : (-2147483648 ≤ p ∧ p < 2147483648)) (h1 : ∀ ys, stp9 (lf r) (rg r) w p = some ys → P (em9 ys) σ) (h0 : stp9 (lf r) (rg r) w p = none → P (-1) σ) : Cc (d + 2) mX10_stepped [.ref 97, .long (lI (em9 w)), .int (iI r), .int (iI p)] σ (QL P) := by
  have hR := v.2.1
  exact c_X10_stepped hw (v.ol hr) (v.or hr) (by omega) hp (c.ll hr).1 (c.ll hr).2 (c.rr hr).1 (c.rr hr).2 h1 h0
theorem c_X10_current {P : Int → S9 → Prop} (v : Va n R lf rg wt lev stt ap str) (c : SyMn σ n R lf rg wt lev stt ap str) (h : P (em9 str) σ) : Cc (d + 1) mX10_current [.ref 97] σ (QL P) := by
  have hn := v.1
  have ostr := v.2.2.2.2.2
  have lstr := ostr.2
  refine Cc_of (by decide +kernel) (fun _ => Nat.le_of_ble_eq_true rfl) rfl (lv := [_, _, _, _]) ?_
  have K : ∀ (m : Nat) (k : Int), 0 ≤ k → k + m = str.length → Vv (d + 1) mX10_current 4 [.ref 97, .long (lI (em9 (str.take k.toNat))), .null, .int (iI k)] [] σ (QL P) := by
    intro m
    induction m with
    | zero =>
      intro k hk hm
      rw [List.take_of_length_le (by omega)]
      refine v_iload_n dX10_current_4 rfl ?_
      refine v_aload_n dX10_current_5 rfl ?_
      refine v_getI (ji := 11) dX10_current_6 s_97 fX10_124 rfl ?_
      rw [c.2.2.2.1]
      refine v_icmp_ge (tgt := 29) dX10_current_9 (by decide) (by omega) (fun q9 => ?_) (fun q9 => absurd q9 (by omega))
      refine v_lload_n dX10_current_29 rfl ?_
      exact v_lreturn dX10_current_30 rfl (h)
    | succ m ih =>
      intro k hk hm
      have ha := ostr.1 _ (at9_mem (xs := str) (p := k) (by omega))
      have ih := ih (k + 1) (by omega) (by omega)
      rw [at9_take (by omega)] at ih
      refine v_iload_n dX10_current_4 rfl ?_
      refine v_aload_n dX10_current_5 rfl ?_
      refine v_getI (ji := 11) dX10_current_6 s_97 fX10_124 rfl ?_
      rw [c.2.2.2.1]
      refine v_icmp_ge (tgt := 29) dX10_current_9 (by decide) (by omega) (fun q9 => absurd q9 (by omega)) (fun q9 => ?_)
      refine v_lload_n dX10_current_12 rfl ?_
      refine v_aload_n dX10_current_13 rfl ?_
      refine v_getR (k1 := 104) dX10_current_14 s_97 fX10_35 rfl ?_
      refine v_iload_n dX10_current_17 rfl ?_
      refine v_iaload dX10_current_18 s_104 (by omega) ?_
      rw [c.tt k hk (by omega)]
      refine v_callSl2 dX10_current_19 kX10_214 (Nat.le_of_ble_eq_true rfl) (c_X10_with (by omega) ?_)
      refine v_lstore_n (lv' := [_, _, _, _]) dX10_current_22 (Nat.le_of_ble_eq_true rfl) rfl rfl ?_
      refine v_iinc (lv' := [_, _, _, _]) dX10_current_23 rfl (Nat.le_of_ble_eq_true rfl) rfl rfl ?_
      refine v_goto (tgt := 4) dX10_current_26 (by decide) ?_
      exact ih
  refine v_lconst0 dX10_current_0 ?_
  refine v_lstore_n (lv' := [_, _, _, _]) dX10_current_1 (Nat.le_of_ble_eq_true rfl) rfl rfl ?_
  refine v_iconst dX10_current_2 ?_
  refine v_istore_n (lv' := [_, _, _, _]) dX10_current_3 (Nat.le_of_ble_eq_true rfl) rfl rfl ?_
  exact K str.length 0 (by omega) (by omega)
theorem c_X10_becomes {ys : List Int} {P : S9 → Prop} (hy : O6 ys) (h : ∀ τ, eq9 (fun k => k ≠ 97 ∧ k ≠ 104) σ τ → gI τ 97 = up9 (gI σ 97) 11 ys.length → (∀ i : Int, 0 ≤ i → i < ys.length → gI τ 104 i = at9 ys i) → P τ) : Cc (d + 1) mX10_becomes [.ref 97, .long (lI (em9 ys))] σ (QV P) := by
  have hl := hy.2
  refine Cc_of (by decide +kernel) (fun _ => Nat.le_of_ble_eq_true rfl) rfl (lv := [_, _, _, _]) ?_
  have K : ∀ (m : Nat) (k : Int) (τ : S9), 0 ≤ k → k + m = ys.length → eq9 (fun k => k ≠ 97 ∧ k ≠ 104) σ τ → gI τ 97 = up9 (gI σ 97) 11 ys.length → (∀ i : Int, 0 ≤ i → i < k → gI τ 104 i = at9 ys i) → Vv (d + 1) mX10_becomes 10 [.ref 97, .long (lI (em9 ys)), .null, .int (iI k)] [] τ (QV P) := by
    intro m
    induction m with
    | zero =>
      intro k τ hk hm he hg hI
      have z : gI τ 97 11 = ys.length := by rw [hg, up9_eq]
      refine v_iload_n dX10_becomes_10 rfl ?_
      refine v_aload_n dX10_becomes_11 rfl ?_
      refine v_getI (ji := 11) dX10_becomes_12 s_97 fX10_124 rfl ?_
      rw [z]
      refine v_icmp_ge (tgt := 39) dX10_becomes_15 (by decide) (by omega) (fun q15 => ?_) (fun q15 => absurd q15 (by omega))
      exact v_return dX10_becomes_39 rfl (h τ he hg (fun i a b => hI i a (by omega)))
    | succ m ih =>
      intro k τ hk hm he hg hI
      have z : gI τ 97 11 = ys.length := by rw [hg, up9_eq]
      refine v_iload_n dX10_becomes_10 rfl ?_
      refine v_aload_n dX10_becomes_11 rfl ?_
      refine v_getI (ji := 11) dX10_becomes_12 s_97 fX10_124 rfl ?_
      rw [z]
      refine v_icmp_ge (tgt := 39) dX10_becomes_15 (by decide) (by omega) (fun q15 => absurd q15 (by omega)) (fun q15 => ?_)
      refine v_aload_n dX10_becomes_18 rfl ?_
      refine v_getR (k1 := 104) dX10_becomes_19 s_97 fX10_35 rfl ?_
      refine v_iload_n dX10_becomes_22 rfl ?_
      refine v_lload_n dX10_becomes_23 rfl ?_
      refine v_aload_n dX10_becomes_24 rfl ?_
      refine v_getI (ji := 11) dX10_becomes_25 s_97 fX10_124 rfl ?_
      rw [z]
      refine v_iload_n dX10_becomes_28 rfl ?_
      refine v_callSi3 dX10_becomes_29 kX10_200 (Nat.le_of_ble_eq_true rfl) (c_X10_letterOf hy (by omega) ?_)
      refine v_iastore dX10_becomes_32 s_104 (by omega) ?_
      refine v_iinc (lv' := [_, _, _, _]) dX10_becomes_33 rfl (Nat.le_of_ble_eq_true rfl) rfl rfl ?_
      refine v_goto (tgt := 10) dX10_becomes_36 (by decide) ?_
      refine ih (k + 1) _ (by omega) (by omega) (he.tr (eq9.aI (by decide))) (by rw [gI_aI_ne (by decide)]; exact hg) (fun i a b => ?_)
      rw [gI_aI_eq]
      by_cases e : i = k
      · rw [e, up9_eq]
      · rw [up9_ne e]; exact hI i a (by omega)
  refine v_aload_n dX10_becomes_0 rfl ?_
  refine v_lload_n dX10_becomes_1 rfl ?_
  refine v_callSi1 dX10_becomes_2 kX10_204 (Nat.le_of_ble_eq_true rfl) (c_X10_sizeOf hy ?_)
  refine v_putI (ji := 11) dX10_becomes_5 s_97 pfX10_124 rfl ?_
  refine v_iconst dX10_becomes_8 ?_
  refine v_istore_n (lv' := [_, _, _, _]) dX10_becomes_9 (Nat.le_of_ble_eq_true rfl) rfl rfl ?_
  exact K ys.length 0 _ (by omega) (by omega) (eq9.aI (by decide)) (gI_aI_eq _ _ _) (fun i a b => by omega)
theorem stp9_ok (v : Va n R lf rg wt lev stt ap str) {w ys : List Int} {r p : Int} (hr : 0 ≤ r ∧ r < R) (hw : OkL n 12 w) (h : stp9 (lf r) (rg r) w p = some ys) : OkL n 12 ys := ⟨fun x hx => by have := stp9_mem h hx; rcases this with q | q; exact hw.1 x q; exact (v.2.2.1 r hr.1 hr.2).2.2.1 x q, (stp9_St (hw.st (by have := v.1; omega) (by decide)) (v.sr hr) h).2⟩
theorem c_X10_rewrite {P : Int → S9 → Prop} {r p : Int} (v : Va n R lf rg wt lev stt ap str) (c : SyMn σ n R lf rg wt lev stt ap str) (hr : (-2147483648 ≤ r ∧ r < 2147483648)) (hp : (-2147483648 ≤ p ∧ p < 2147483648)) (h1 : ¬ (0 ≤ r ∧ r < R) → P (-3) σ) (h2 : (0 ≤ r ∧ r < R) → stp9 (lf r) (rg r) str p = none → P (-9) σ) (h3 : (0 ≤ r ∧ r < R) → ∀ ys, stp9 (lf r) (rg r) str p = some ys → ∀ τ, eq9 (fun k => k ≠ 97 ∧ k ≠ 104) σ τ → gI τ 97 = up9 (gI σ 97) 11 ys.length → (∀ i : Int, 0 ≤ i → i < ys.length → gI τ 104 i = at9 ys i) → P ys.length τ) : Cc (d + 3) mX10_rewrite [.ref 97, .int (iI r), .int (iI p)] σ (QI P) := by
  have hn := v.1
  have hR := v.2.1
  have ostr := v.2.2.2.2.2
  refine Cc_of (by decide +kernel) (fun _ => Nat.le_of_ble_eq_true rfl) rfl (lv := [_, _, _, _, _]) ?_
  refine v_aload_n dX10_rewrite_0 rfl ?_
  refine v_iload_n dX10_rewrite_1 rfl ?_
  refine v_callVi1 dX10_rewrite_2 kX10_152 s_97 (Nat.le_of_ble_eq_true rfl) (c_X10_isRule c.2.1 (by omega) hr (fun z => ?_) (fun z => ?_))
  · refine v_if_ne (tgt := 11) dX10_rewrite_5 (by decide) (by decide) (fun q5 => ?_) (fun q5 => absurd q5 (by decide))
    refine v_aload_n dX10_rewrite_11 rfl ?_
    refine v_aload_n dX10_rewrite_12 rfl ?_
    refine v_callVl0 dX10_rewrite_13 kX10_218 s_97 (Nat.le_of_ble_eq_true rfl) (c_X10_current v c ?_)
    refine v_iload_n dX10_rewrite_16 rfl ?_
    refine v_iload_n dX10_rewrite_17 rfl ?_
    refine v_callVl3 dX10_rewrite_18 kX10_222 s_97 (Nat.le_of_ble_eq_true rfl) (c_X10_step9 v c (v.o6 ostr) z hp (fun ys hs => ?_) (fun hs => ?_))
    · have oy := v.o6 (stp9_ok v z ostr hs)
      have by2 := oy.bd
      refine v_lstore_n (lv' := [_, _, _, _, _]) dX10_rewrite_21 (Nat.le_of_ble_eq_true rfl) rfl rfl ?_
      refine v_lload_n dX10_rewrite_22 rfl ?_
      refine v_ldc2 dX10_rewrite_23 wX10_212 ?_
      refine v_lcmp_ne (tgt := 33) dX10_rewrite_26 dX10_rewrite_27 (by decide) (by omega) (fun q26 => ?_) (fun q26 => absurd q26 (by omega))
      refine v_aload_n dX10_rewrite_33 rfl ?_
      refine v_lload_n dX10_rewrite_34 rfl ?_
      refine v_callVv1 dX10_rewrite_35 kX10_226 s_97 (Nat.le_of_ble_eq_true rfl) (c_X10_becomes oy (fun τ e1 e2 e3 => ?_))
      refine v_aload_n dX10_rewrite_38 rfl ?_
      refine v_getI (ji := 11) dX10_rewrite_39 s_97 fX10_124 rfl ?_
      rw [e2, up9_eq]
      exact v_ireturn dX10_rewrite_42 rfl (h3 z ys hs τ e1 e2 e3)
    · refine v_lstore_n (lv' := [_, _, _, _, _]) dX10_rewrite_21 (Nat.le_of_ble_eq_true rfl) rfl rfl ?_
      refine v_lload_n dX10_rewrite_22 rfl ?_
      refine v_ldc2 dX10_rewrite_23 wX10_212 ?_
      refine v_lcmp_ne (tgt := 33) dX10_rewrite_26 dX10_rewrite_27 (by decide) (by decide) (fun q26 => absurd rfl q26) (fun q26 => ?_)
      refine v_bipush dX10_rewrite_30 (by decide) ?_
      exact v_ireturn dX10_rewrite_32 rfl (h2 z hs)
  · refine v_if_ne (tgt := 11) dX10_rewrite_5 (by decide) (by decide) (fun q5 => absurd q5 (by decide)) (fun q5 => ?_)
    refine v_bipush dX10_rewrite_8 (by decide) ?_
    exact v_ireturn dX10_rewrite_10 rfl (h1 z)
end
