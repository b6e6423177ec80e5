section
variable {d : Nat} {n R : Int} {lf rg : Int → List Int} {wt lev : Int → Int} {stt : Int} {ap : Int → UInt32} {str : List Int} {σ : S9}
theorem SyM.w9 (c : SyMn σ n R lf rg wt lev stt ap str) {x : Int} (h : 0 ≤ x ∧ x < 6) : gI σ 100 x = wt x := (c.2.2.2.2.2.1 x h.1 h.2).1
theorem SyM.v9 (c : SyMn σ n R lf rg wt lev stt ap str) {x : Int} (h : 0 ≤ x ∧ x < 6) : gI σ 101 x = lev x := (c.2.2.2.2.2.1 x h.1 h.2).2.1
theorem SyM.a9 (c : SyMn σ n R lf rg wt lev stt ap str) {x : Int} (h : 0 ≤ x ∧ x < 6) : gF σ 102 x = ap x := (c.2.2.2.2.2.1 x h.1 h.2).2.2
theorem SyM.ll (c : SyMn σ n R lf rg wt lev stt ap str) {r : Int} (h : 0 ≤ r ∧ r < R) : gI σ 98 (2 * r) = (lf r).length ∧ ∀ k : Int, 0 ≤ k → k < (lf r).length → gI σ 99 (12 * r + k) = at9 (lf r) k := ⟨(c.2.2.2.2.1 r h.1 h.2).1, fun k a b => by have := (c.2.2.2.2.1 r h.1 h.2).2.2.1 k.toNat (by omega) (by omega); rw [Int.toNat_of_nonneg a] at this; exact this⟩
theorem SyM.rr (c : SyMn σ n R lf rg wt lev stt ap str) {r : Int} (h : 0 ≤ r ∧ r < R) : gI σ 98 (2 * r + 1) = (rg r).length ∧ ∀ k : Int, 0 ≤ k → k < (rg r).length → gI σ 99 (12 * r + 6 + k) = at9 (rg r) k := ⟨(c.2.2.2.2.1 r h.1 h.2).2.1, fun k a b => by have := (c.2.2.2.2.1 r h.1 h.2).2.2.2 k.toNat (by omega) (by omega); rw [Int.toNat_of_nonneg a] at this; exact this⟩
theorem SyM.tt (c : SyMn σ n R lf rg wt lev stt ap str) : ∀ k : Int, 0 ≤ k → k < str.length → gI σ 104 k = at9 str k := fun k a b => by have := c.2.2.2.2.2.2 k.toNat (by omega) (by omega); rw [Int.toNat_of_nonneg a] at this; exact this
theorem c_X10_lettersFrom {k a : Int} {f : Int → Int} {P : Int → S9 → Prop} (g0 : gI σ 97 0 = n) (hn : 0 ≤ n ∧ n ≤ 6) (hi : InM σ k f) (hf : InV k f) (ha : 0 ≤ a ∧ a ≤ 41) (h : ∀ b, a ≤ b → (b ≤ k ∨ b = a) → (∀ j, a ≤ j → j < b → 0 ≤ f j - 97 ∧ f j - 97 < n) → (k ≤ b ∨ ¬ (0 ≤ f b - 97 ∧ f b - 97 < n)) → P (b - a) σ) : Cc (d + 2) mX10_lettersFrom [.ref 97, .int (iI a)] σ (QI P) := by
  have hk := hf.1
  refine Cc_of (by decide +kernel) (fun _ => Nat.le_of_ble_eq_true rfl) rfl (lv := [_, _, _]) ?_
  have K : ∀ (m : Nat) (b : Int), a ≤ b → (b ≤ k ∨ b = a) → (k - b).toNat = m → (∀ j, a ≤ j → j < b → 0 ≤ f j - 97 ∧ f j - 97 < n) → Vv (d + 2) mX10_lettersFrom 2 [.ref 97, .int (iI a), .int (iI b)] [] σ (QI P) := by
    intro m
    induction m with
    | zero =>
      intro b h1 h2 hm hI
      refine v_iload_n dX10_lettersFrom_2 rfl ?_
      refine v_aload_n dX10_lettersFrom_3 rfl ?_
      refine v_getI (ji := 9) dX10_lettersFrom_4 s_97 fX10_137 rfl ?_
      rw [hi.1]
      refine v_icmp_ge (tgt := 32) dX10_lettersFrom_7 (by decide) (by omega) (fun q7 => ?_) (fun q7 => absurd q7 (by omega))
      refine v_iload_n dX10_lettersFrom_32 rfl ?_
      refine v_iload_n dX10_lettersFrom_33 rfl ?_
      refine v_isub dX10_lettersFrom_34 ?_
      exact v_ireturn dX10_lettersFrom_35 rfl (h b h1 h2 hI (Or.inl (by omega)))
    | succ m ih =>
      intro b h1 h2 hm hI
      have hfb := hf.2 b (by omega) (by omega)
      have eb := hi.2 b (by omega) (by omega)
      refine v_iload_n dX10_lettersFrom_2 rfl ?_
      refine v_aload_n dX10_lettersFrom_3 rfl ?_
      refine v_getI (ji := 9) dX10_lettersFrom_4 s_97 fX10_137 rfl ?_
      rw [hi.1]
      refine v_icmp_ge (tgt := 32) dX10_lettersFrom_7 (by decide) (by omega) (fun q7 => absurd q7 (by omega)) (fun q7 => ?_)
      refine v_aload_n dX10_lettersFrom_10 rfl ?_
      refine v_aload_n dX10_lettersFrom_11 rfl ?_
      refine v_getR (k1 := 103) dX10_lettersFrom_12 s_97 fX10_32 rfl ?_
      refine v_iload_n dX10_lettersFrom_15 rfl ?_
      refine v_iaload dX10_lettersFrom_16 s_103 (by omega) ?_
      rw [eb]
      refine v_bipush dX10_lettersFrom_17 (by decide) ?_
      refine v_isub dX10_lettersFrom_19 ?_
      refine v_callVi1 dX10_lettersFrom_20 kX10_140 s_97 (Nat.le_of_ble_eq_true rfl) (c_X10_isLetter g0 hn (by omega) (fun z => ?_) (fun z => ?_))
      · refine v_if_eq (tgt := 32) dX10_lettersFrom_23 (by decide) (by decide) (fun q23 => absurd q23 (by decide)) (fun q23 => ?_)
        refine v_iinc (lv' := [_, _, _]) dX10_lettersFrom_26 rfl (Nat.le_of_ble_eq_true rfl) rfl rfl ?_
        refine v_goto (tgt := 2) dX10_lettersFrom_29 (by decide) ?_
        exact ih (b + 1) (by omega) (by omega) (by omega) (fun j x y => if e : j = b then (by rw [e]; exact z) else hI j x (by omega))
      · refine v_if_eq (tgt := 32) dX10_lettersFrom_23 (by decide) (by decide) (fun q23 => ?_) (fun q23 => absurd q23 (by decide))
        refine v_iload_n dX10_lettersFrom_32 rfl ?_
        refine v_iload_n dX10_lettersFrom_33 rfl ?_
        refine v_isub dX10_lettersFrom_34 ?_
        exact v_ireturn dX10_lettersFrom_35 rfl (h b h1 h2 hI (Or.inr z))
  refine v_iload_n dX10_lettersFrom_0 rfl ?_
  refine v_istore_n (lv' := [_, _, _]) dX10_lettersFrom_1 (Nat.le_of_ble_eq_true rfl) rfl rfl ?_
  exact K _ a (by omega) (Or.inr rfl) rfl (fun j x y => by omega)
theorem c_X10_taken {k : Int} {f : Int → Int} {P : Int → S9 → Prop} (g0 : gI σ 97 0 = n) (hn : 0 ≤ n ∧ n ≤ 6) (hi : InM σ k f) (hf : InV k f) (h1 : isT k f n → P k (sI σ 97 9 0)) (h0 : ¬ isT k f n → P (-1) (sI σ 97 9 0)) : Cc (d + 3) mX10_taken [.ref 97] σ (QI P) := by
  have hk := hf.1
  refine Cc_of (by decide +kernel) (fun _ => Nat.le_of_ble_eq_true rfl) rfl (lv := [_, _, _]) ?_
  refine v_aload_n dX10_taken_0 rfl ?_
  refine v_getI (ji := 9) dX10_taken_1 s_97 fX10_137 rfl ?_
  rw [hi.1]
  refine v_istore_n (lv' := [_, _, _]) dX10_taken_4 (Nat.le_of_ble_eq_true rfl) rfl rfl ?_
  refine v_aload_n dX10_taken_5 rfl ?_
  refine v_iconst dX10_taken_6 ?_
  refine v_callVi1 dX10_taken_7 kX10_148 s_97 (Nat.le_of_ble_eq_true rfl) (c_X10_lettersFrom g0 hn hi hf (by omega) (fun b b0 b1 b2 b3 => ?_))
  refine v_aload_n dX10_taken_10 rfl ?_
  refine v_getI (ji := 9) dX10_taken_11 s_97 fX10_137 rfl ?_
  rw [hi.1]
  refine v_icmp_ne (tgt := 30) dX10_taken_14 (by decide) (by omega) (fun q14 => ?_) (fun q14 => ?_)
  · refine v_iconst dX10_taken_30 ?_
    refine v_istore_n (lv' := [_, _, _]) dX10_taken_31 (Nat.le_of_ble_eq_true rfl) rfl rfl ?_
    refine v_aload_n dX10_taken_32 rfl ?_
    refine v_iconst dX10_taken_33 ?_
    refine v_putI (ji := 9) dX10_taken_34 s_97 pfX10_137 rfl ?_
    refine v_iload_n dX10_taken_37 rfl ?_
    refine v_if_eq (tgt := 45) dX10_taken_38 (by decide) (by omega) (fun q38 => ?_) (fun q38 => ?_)
    · refine v_iconst dX10_taken_45 ?_
      exact v_ireturn dX10_taken_46 rfl (by first
    | exact absurd q38 (by decide)
    | exact h1 ⟨by omega, fun j x y => b2 j x (by omega)⟩
    | exact h0 (fun z => by have := z.1; omega)
    | exact h0 (fun z => by omega)
    | exact h0 (fun z => by rcases b3 with b3 | b3; (omega); (exact b3 (z.2 b (by omega) (by omega)))))
    · refine v_iload_n dX10_taken_41 rfl ?_
      refine v_goto (tgt := 46) dX10_taken_42 (by decide) ?_
      exact v_ireturn dX10_taken_46 rfl (by first
    | exact absurd q38 (by decide)
    | exact h1 ⟨by omega, fun j x y => b2 j x (by omega)⟩
    | exact h0 (fun z => by have := z.1; omega)
    | exact h0 (fun z => by omega)
    | exact h0 (fun z => by rcases b3 with b3 | b3; (omega); (exact b3 (z.2 b (by omega) (by omega)))))
  · refine v_aload_n dX10_taken_17 rfl ?_
    refine v_getI (ji := 9) dX10_taken_18 s_97 fX10_137 rfl ?_
    rw [hi.1]
    refine v_bipush dX10_taken_21 (by decide) ?_
    refine v_icmp_gt (tgt := 30) dX10_taken_23 (by decide) (by omega) (fun q23 => ?_) (fun q23 => ?_)
    · refine v_iconst dX10_taken_30 ?_
      refine v_istore_n (lv' := [_, _, _]) dX10_taken_31 (Nat.le_of_ble_eq_true rfl) rfl rfl ?_
      refine v_aload_n dX10_taken_32 rfl ?_
      refine v_iconst dX10_taken_33 ?_
      refine v_putI (ji := 9) dX10_taken_34 s_97 pfX10_137 rfl ?_
      refine v_iload_n dX10_taken_37 rfl ?_
      refine v_if_eq (tgt := 45) dX10_taken_38 (by decide) (by omega) (fun q38 => ?_) (fun q38 => ?_)
      · refine v_iconst dX10_taken_45 ?_
        exact v_ireturn dX10_taken_46 rfl (by first
    | exact absurd q38 (by decide)
    | exact h1 ⟨by omega, fun j x y => b2 j x (by omega)⟩
    | exact h0 (fun z => by have := z.1; omega)
    | exact h0 (fun z => by omega)
    | exact h0 (fun z => by rcases b3 with b3 | b3; (omega); (exact b3 (z.2 b (by omega) (by omega)))))
      · refine v_iload_n dX10_taken_41 rfl ?_
        refine v_goto (tgt := 46) dX10_taken_42 (by decide) ?_
        exact v_ireturn dX10_taken_46 rfl (by first
    | exact absurd q38 (by decide)
    | exact h1 ⟨by omega, fun j x y => b2 j x (by omega)⟩
    | exact h0 (fun z => by have := z.1; omega)
    | exact h0 (fun z => by omega)
    | exact h0 (fun z => by rcases b3 with b3 | b3; (omega); (exact b3 (z.2 b (by omega) (by omega)))))
    · refine v_iconst dX10_taken_26 ?_
      refine v_goto (tgt := 31) dX10_taken_27 (by decide) ?_
      refine v_istore_n (lv' := [_, _, _]) dX10_taken_31 (Nat.le_of_ble_eq_true rfl) rfl rfl ?_
      refine v_aload_n dX10_taken_32 rfl ?_
      refine v_iconst dX10_taken_33 ?_
      refine v_putI (ji := 9) dX10_taken_34 s_97 pfX10_137 rfl ?_
      refine v_iload_n dX10_taken_37 rfl ?_
      refine v_if_eq (tgt := 45) dX10_taken_38 (by decide) (by omega) (fun q38 => ?_) (fun q38 => ?_)
      · refine v_iconst dX10_taken_45 ?_
        exact v_ireturn dX10_taken_46 rfl (by first
    | exact absurd q38 (by decide)
    | exact h1 ⟨by omega, fun j x y => b2 j x (by omega)⟩
    | exact h0 (fun z => by have := z.1; omega)
    | exact h0 (fun z => by omega)
    | exact h0 (fun z => by rcases b3 with b3 | b3; (omega); (exact b3 (z.2 b (by omega) (by omega)))))
      · refine v_iload_n dX10_taken_41 rfl ?_
        refine v_goto (tgt := 46) dX10_taken_42 (by decide) ?_
        exact v_ireturn dX10_taken_46 rfl (by first
    | exact absurd q38 (by decide)
    | exact h1 ⟨by omega, fun j x y => b2 j x (by omega)⟩
    | exact h0 (fun z => by have := z.1; omega)
    | exact h0 (fun z => by omega)
    | exact h0 (fun z => by rcases b3 with b3 | b3; (omega); (exact b3 (z.2 b (by omega) (by omega)))))
theorem c_X10_occurs {r s x : Int} {w : List Int} {P : Int → S9 → Prop} (hr : 0 ≤ r ∧ r < 8) (hs : 0 ≤ s ∧ s ≤ 1) (hx : (-2147483648 ≤ x ∧ x < 2147483648)) (hw : OkL 6 6 w) (e1 : gI σ 98 (2 * r + s) = w.length) (e2 : ∀ k : Int, 0 ≤ k → k < w.length → gI σ 99 (12 * r + 6 * s + k) = at9 w k) (h : P (cnt9 x w) σ) : Cc d mX10_occurs [.ref 97, .int (iI r), .int (iI s), .int (iI x)] σ (QI P) := by
  have hl := hw.2
  refine Cc_of (by decide +kernel) (fun _ => Nat.le_of_ble_eq_true rfl) rfl (lv := [_, _, _, _, _, _]) ?_
  have K : ∀ (m : Nat) (k : Int), 0 ≤ k → k + m = w.length → Vv d mX10_occurs 6 [.ref 97, .int (iI r), .int (iI s), .int (iI x), .int (iI (cnt9 x (w.take k.toNat))), .int (iI k)] [] σ (QI P) := by
    intro m
    induction m with
    | zero =>
      intro k hk hm
      refine v_iload dX10_occurs_6 rfl ?_
      refine v_aload_n dX10_occurs_8 rfl ?_
      refine v_getR (k1 := 98) dX10_occurs_9 s_97 fX10_15 rfl ?_
      refine v_iconst dX10_occurs_12 ?_
      refine v_iload_n dX10_occurs_13 rfl ?_
      refine v_imul dX10_occurs_14 ?_
      refine v_iload_n dX10_occurs_15 rfl ?_
      refine v_iadd dX10_occurs_16 ?_
      refine v_iaload dX10_occurs_17 s_98 (by omega) ?_
      rw [e1]
      refine v_icmp_ge (tgt := 58) dX10_occurs_18 (by decide) (by omega) (fun q18 => ?_) (fun q18 => absurd q18 (by omega))
      refine v_iload dX10_occurs_58 rfl ?_
      exact v_ireturn dX10_occurs_60 rfl (by rw [List.take_of_length_le (by omega)]; exact h)
    | succ m ih =>
      intro k hk hm
      have ha := hw.1 _ (at9_mem (xs := w) (p := k) (by omega))
      have ih := ih (k + 1) (by omega) (by omega)
      rw [at9_take (by omega), cnt9_s] at ih
      refine v_iload dX10_occurs_6 rfl ?_
      refine v_aload_n dX10_occurs_8 rfl ?_
      refine v_getR (k1 := 98) dX10_occurs_9 s_97 fX10_15 rfl ?_
      refine v_iconst dX10_occurs_12 ?_
      refine v_iload_n dX10_occurs_13 rfl ?_
      refine v_imul dX10_occurs_14 ?_
      refine v_iload_n dX10_occurs_15 rfl ?_
      refine v_iadd dX10_occurs_16 ?_
      refine v_iaload dX10_occurs_17 s_98 (by omega) ?_
      rw [e1]
      refine v_icmp_ge (tgt := 58) dX10_occurs_18 (by decide) (by omega) (fun q18 => absurd q18 (by omega)) (fun q18 => ?_)
      refine v_iload dX10_occurs_21 rfl ?_
      refine v_aload_n dX10_occurs_23 rfl ?_
      refine v_getR (k1 := 99) dX10_occurs_24 s_97 fX10_19 rfl ?_
      refine v_bipush dX10_occurs_27 (by decide) ?_
      refine v_iload_n dX10_occurs_29 rfl ?_
      refine v_imul dX10_occurs_30 ?_
      refine v_bipush dX10_occurs_31 (by decide) ?_
      refine v_iload_n dX10_occurs_33 rfl ?_
      refine v_imul dX10_occurs_34 ?_
      refine v_iadd dX10_occurs_35 ?_
      refine v_iload dX10_occurs_36 rfl ?_
      refine v_iadd dX10_occurs_38 ?_
      refine v_iaload dX10_occurs_39 s_99 (by omega) ?_
      rw [e2 k hk (by omega)]
      refine v_iload_n dX10_occurs_40 rfl ?_
      refine v_icmp_ne (tgt := 48) dX10_occurs_41 (by decide) (by omega) (fun q41 => ?_) (fun q41 => ?_)
      · refine v_iconst dX10_occurs_48 ?_
        refine v_iadd dX10_occurs_49 ?_
        refine v_istore (lv' := [_, _, _, _, _, _]) dX10_occurs_50 (Nat.le_of_ble_eq_true rfl) rfl rfl ?_
        refine v_iinc (lv' := [_, _, _, _, _, _]) dX10_occurs_52 rfl (Nat.le_of_ble_eq_true rfl) rfl rfl ?_
        refine v_goto (tgt := 6) dX10_occurs_55 (by decide) ?_
        first
        | (rw [if_pos (by omega)] at ih; exact ih)
        | (rw [if_neg (by omega)] at ih; exact ih)
      · refine v_iconst dX10_occurs_44 ?_
        refine v_goto (tgt := 49) dX10_occurs_45 (by decide) ?_
        refine v_iadd dX10_occurs_49 ?_
        refine v_istore (lv' := [_, _, _, _, _, _]) dX10_occurs_50 (Nat.le_of_ble_eq_true rfl) rfl rfl ?_
        refine v_iinc (lv' := [_, _, _, _, _, _]) dX10_occurs_52 rfl (Nat.le_of_ble_eq_true rfl) rfl rfl ?_
        refine v_goto (tgt := 6) dX10_occurs_55 (by decide) ?_
        first
        | (rw [if_pos (by omega)] at ih; exact ih)
        | (rw [if_neg (by omega)] at ih; exact ih)
  refine v_iconst dX10_occurs_0 ?_
  refine v_istore (lv' := [_, _, _, _, _, _]) dX10_occurs_1 (Nat.le_of_ble_eq_true rfl) rfl rfl ?_
  refine v_iconst dX10_occurs_3 ?_
  refine v_istore (lv' := [_, _, _, _, _, _]) dX10_occurs_4 (Nat.le_of_ble_eq_true rfl) rfl rfl ?_
  exact K w.length 0 (by omega) (by omega)
theorem Va.ol (v : Va n R lf rg wt lev stt ap str) {r : Int} (h : 0 ≤ r ∧ r < R) : OkL 6 6 (lf r) := ⟨fun x hx => by have := (v.2.2.1 r h.1 h.2).1.1 x hx; have := v.1; omega, (v.2.2.1 r h.1 h.2).1.2⟩
theorem Va.or (v : Va n R lf rg wt lev stt ap str) {r : Int} (h : 0 ≤ r ∧ r < R) : OkL 6 6 (rg r) := ⟨fun x hx => by have := (v.2.2.1 r h.1 h.2).2.2.1 x hx; have := v.1; omega, (v.2.2.1 r h.1 h.2).2.2.2⟩
theorem c_X10_occ0 {r x : Int} {P : Int → S9 → Prop} (v : Va n R lf rg wt lev stt ap str) (c : SyMn σ n R lf rg wt lev stt ap str) (hr : 0 ≤ r ∧ r < R) (hx : (-2147483648 ≤ x ∧ x < 2147483648)) (h : P (cnt9 x (lf r)) σ) : Cc d mX10_occurs [.ref 97, .int (iI r), .int (iI 0), .int (iI x)] σ (QI P) := by
  have hR := v.2.1
  have hc := c.ll hr
  exact c_X10_occurs (by omega) (by decide) hx (v.ol hr) (by rw [Int.add_zero]; exact hc.1) (fun k a b => by rw [show 12 * r + 6 * 0 + k = 12 * r + k by omega]; exact hc.2 k a b) h
theorem c_X10_occ1 {r x : Int} {P : Int → S9 → Prop} (v : Va n R lf rg wt lev stt ap str) (c : SyMn σ n R lf rg wt lev stt ap str) (hr : 0 ≤ r ∧ r < R) (hx : (-2147483648 ≤ x ∧ x < 2147483648)) (h : P (cnt9 x (rg r)) σ) : Cc d mX10_occurs [.ref 97, .int (iI r), .int (iI 1), .int (iI x)] σ (QI P) := by
  have hR := v.2.1
  have hc := c.rr hr
  exact c_X10_occurs (by omega) (by decide) hx (v.or hr) hc.1 (fun k a b => by rw [show 12 * r + 6 * 1 + k = 12 * r + 6 + k by omega]; exact hc.2 k a b) h
theorem c_X10_balanceOf {r x : Int} {P : Int → S9 → Prop} (v : Va n R lf rg wt lev stt ap str) (c : SyMn σ n R lf rg wt lev stt ap str) (hr : 0 ≤ r ∧ r < R) (hx : (-2147483648 ≤ x ∧ x < 2147483648)) (h : P (bal9 (lf r) (rg r) x) σ) : Cc (d + 1) mX10_balanceOf [.ref 97, .int (iI r), .int (iI x)] σ (QI P) := by
  refine Cc_of (by decide +kernel) (fun _ => Nat.le_of_ble_eq_true rfl) rfl (lv := [_, _, _]) ?_
  refine v_aload_n dX10_balanceOf_0 rfl ?_
  refine v_iload_n dX10_balanceOf_1 rfl ?_
  refine v_iconst dX10_balanceOf_2 ?_
  refine v_iload_n dX10_balanceOf_3 rfl ?_
  refine v_callVi3 dX10_balanceOf_4 kX10_155 s_97 (Nat.le_of_ble_eq_true rfl) (c_X10_occ0 v c hr hx ?_)
  refine v_aload_n dX10_balanceOf_7 rfl ?_
  refine v_iload_n dX10_balanceOf_8 rfl ?_
  refine v_iconst dX10_balanceOf_9 ?_
  refine v_iload_n dX10_balanceOf_10 rfl ?_
  refine v_callVi3 dX10_balanceOf_11 kX10_155 s_97 (Nat.le_of_ble_eq_true rfl) (c_X10_occ1 v c hr hx ?_)
  refine v_isub dX10_balanceOf_14 ?_
  exact v_ireturn dX10_balanceOf_15 rfl (h)
theorem c_X10_balance {r x : Int} {P : Int → S9 → Prop} (v : Va n R lf rg wt lev stt ap str) (c : SyMn σ n R lf rg wt lev stt ap str) (hr : (-2147483648 ≤ r ∧ r < 2147483648)) (hx : (-2147483648 ≤ x ∧ x < 2147483648)) (h1 : ¬ (0 ≤ r ∧ r < R) → P (-3) σ) (h2 : (0 ≤ r ∧ r < R) → ¬ (0 ≤ x ∧ x < n) → P (-2) σ) (h3 : (0 ≤ r ∧ r < R) → (0 ≤ x ∧ x < n) → P (bal9 (lf r) (rg r) x + 100) σ) : Cc (d + 2) mX10_balance [.ref 97, .int (iI r), .int (iI x)] σ (QI P) := by
  have hn := v.1
  have hR := v.2.1
  refine Cc_of (by decide +kernel) (fun _ => Nat.le_of_ble_eq_true rfl) rfl (lv := [_, _, _]) ?_
  refine v_aload_n dX10_balance_0 rfl ?_
  refine v_iload_n dX10_balance_1 rfl ?_
  refine v_callVi1 dX10_balance_2 kX10_152 s_97 (Nat.le_of_ble_eq_true rfl) (c_X10_isRule c.2.1 (by omega) hr (fun z => ?_) (fun z => ?_))
  · refine v_if_ne (tgt := 11) dX10_balance_5 (by decide) (by decide) (fun q5 => ?_) (fun q5 => absurd q5 (by decide))
    refine v_aload_n dX10_balance_11 rfl ?_
    refine v_iload_n dX10_balance_12 rfl ?_
    refine v_callVi1 dX10_balance_13 kX10_140 s_97 (Nat.le_of_ble_eq_true rfl) (c_X10_isLetter c.1 (by omega) hx (fun y => ?_) (fun y => ?_))
    · refine v_if_eq (tgt := 31) dX10_balance_16 (by decide) (by decide) (fun q16 => absurd q16 (by decide)) (fun q16 => ?_)
      refine v_aload_n dX10_balance_19 rfl ?_
      refine v_iload_n dX10_balance_20 rfl ?_
      refine v_iload_n dX10_balance_21 rfl ?_
      refine v_callVi2 dX10_balance_22 kX10_159 s_97 (Nat.le_of_ble_eq_true rfl) (c_X10_balanceOf v c z hx ?_)
      refine v_bipush dX10_balance_25 (by decide) ?_
      refine v_iadd dX10_balance_27 ?_
      refine v_goto (tgt := 33) dX10_balance_28 (by decide) ?_
      exact v_ireturn dX10_balance_33 rfl (by first | exact h3 z y | exact h2 z y)
    · refine v_if_eq (tgt := 31) dX10_balance_16 (by decide) (by decide) (fun q16 => ?_) (fun q16 => absurd q16 (by decide))
      refine v_bipush dX10_balance_31 (by decide) ?_
      exact v_ireturn dX10_balance_33 rfl (by first | exact h3 z y | exact h2 z y)
  · refine v_if_ne (tgt := 11) dX10_balance_5 (by decide) (by decide) (fun q5 => absurd q5 (by decide)) (fun q5 => ?_)
    refine v_bipush dX10_balance_8 (by decide) ?_
    exact v_ireturn dX10_balance_10 rfl (h1 z)
theorem c_X10_ruleLetter {P : Int → S9 → Prop} {r s p : Int} (v : Va n R lf rg wt lev stt ap str) (c : SyMn σ n R lf rg wt lev stt ap str) (hr : (-2147483648 ≤ r ∧ r < 2147483648)) (hs : (-2147483648 ≤ s ∧ s < 2147483648)) (hp : (-2147483648 ≤ p ∧ p < 2147483648)) (h1 : ¬ (0 ≤ r ∧ r < R) → P (-3) σ) (h2 : (0 ≤ r ∧ r < R) → ¬ (0 ≤ s ∧ s ≤ 1) → P (-1) σ) (h3 : (0 ≤ r ∧ r < R) → (0 ≤ s ∧ s ≤ 1) → ∀ w, w = (if s = 0 then lf r else rg r) → (0 ≤ p ∧ p < w.length → P (at9 w p) σ) ∧ (¬ (0 ≤ p ∧ p < w.length) → P (-6) σ)) : Cc (d + 2) mX10_ruleLetter [.ref 97, .int (iI r), .int (iI s), .int (iI p)] σ (QI P) := by
  have hn := v.1
  have hR := v.2.1
  have hw : (0 ≤ r ∧ r < R) → (0 ≤ s ∧ s ≤ 1) → ∃ w, w = (if s = 0 then lf r else rg r) ∧ gI σ 98 (2 * r + s) = w.length ∧ w.length ≤ 6 ∧ ∀ k : Int, 0 ≤ k → k < w.length → gI σ 99 (12 * r + 6 * s + k) = at9 w k := fun z y => by
    by_cases e : s = 0
    · refine ⟨lf r, (if_pos e).symm, ?_, (v.ol z).2, fun k a b => ?_⟩
      · rw [e, Int.add_zero]; exact (c.ll z).1
      · rw [e, show 12 * r + 6 * 0 + k = 12 * r + k by omega]; exact (c.ll z).2 k a b
    · refine ⟨rg r, (if_neg e).symm, ?_, (v.or z).2, fun k a b => ?_⟩
      · rw [show s = 1 by omega]; exact (c.rr z).1
      · rw [show s = 1 by omega, show 12 * r + 6 * 1 + k = 12 * r + 6 + k by omega]; exact (c.rr z).2 k a b
  refine Cc_of (by decide +kernel) (fun _ => Nat.le_of_ble_eq_true rfl) rfl (lv := [_, _, _, _]) ?_
  refine v_aload_n dX10_ruleLetter_0 rfl ?_
  refine v_iload_n dX10_ruleLetter_1 rfl ?_
  refine v_callVi1 dX10_ruleLetter_2 kX10_152 s_97 (Nat.le_of_ble_eq_true rfl) (c_X10_isRule c.2.1 (by omega) hr (fun z => ?_) (fun z => ?_))
  · refine v_if_ne (tgt := 11) dX10_ruleLetter_5 (by decide) (by decide) (fun q5 => ?_) (fun q5 => absurd q5 (by decide))
    refine v_iload_n dX10_ruleLetter_11 rfl ?_
    refine v_i2l dX10_ruleLetter_12 (by omega) ?_
    refine v_lconst0 dX10_ruleLetter_13 ?_
    refine v_lconst1 dX10_ruleLetter_14 ?_
    refine v_callSi3 dX10_ruleLetter_15 kX10_115 (Nat.le_of_ble_eq_true rfl) (c_X10_in (by omega) (by omega) (by omega) (fun y => ?_) (fun y => ?_))
    · refine v_if_ne (tgt := 23) dX10_ruleLetter_18 (by decide) (by decide) (fun q18 => ?_) (fun q18 => absurd q18 (by decide))
      refine v_iload_n dX10_ruleLetter_23 rfl ?_
      refine v_i2l dX10_ruleLetter_24 (by omega) ?_
      refine v_lconst0 dX10_ruleLetter_25 ?_
      refine v_aload_n dX10_ruleLetter_26 rfl ?_
      refine v_getR (k1 := 98) dX10_ruleLetter_27 s_97 fX10_15 rfl ?_
      refine v_iconst dX10_ruleLetter_30 ?_
      refine v_iload_n dX10_ruleLetter_31 rfl ?_
      refine v_imul dX10_ruleLetter_32 ?_
      refine v_iload_n dX10_ruleLetter_33 rfl ?_
      refine v_iadd dX10_ruleLetter_34 ?_
      obtain ⟨w, w1, w2, w3, w4⟩ := hw z y
      refine v_iaload dX10_ruleLetter_35 s_98 (by omega) ?_
      rw [w2]
      refine v_iconst dX10_ruleLetter_36 ?_
      refine v_isub dX10_ruleLetter_37 ?_
      refine v_i2l dX10_ruleLetter_38 (by omega) ?_
      refine v_callSi3 dX10_ruleLetter_39 kX10_115 (Nat.le_of_ble_eq_true rfl) (c_X10_in (by omega) (by omega) (by omega) (fun x => ?_) (fun x => ?_))
      · refine v_if_eq (tgt := 64) dX10_ruleLetter_42 (by decide) (by decide) (fun q42 => absurd q42 (by decide)) (fun q42 => ?_)
        refine v_aload_n dX10_ruleLetter_45 rfl ?_
        refine v_getR (k1 := 99) dX10_ruleLetter_46 s_97 fX10_19 rfl ?_
        refine v_bipush dX10_ruleLetter_49 (by decide) ?_
        refine v_iload_n dX10_ruleLetter_51 rfl ?_
        refine v_imul dX10_ruleLetter_52 ?_
        refine v_bipush dX10_ruleLetter_53 (by decide) ?_
        refine v_iload_n dX10_ruleLetter_55 rfl ?_
        refine v_imul dX10_ruleLetter_56 ?_
        refine v_iadd dX10_ruleLetter_57 ?_
        refine v_iload_n dX10_ruleLetter_58 rfl ?_
        refine v_iadd dX10_ruleLetter_59 ?_
        refine v_iaload dX10_ruleLetter_60 s_99 (by omega) ?_
        rw [w4 p (by omega) (by omega)]
        refine v_goto (tgt := 66) dX10_ruleLetter_61 (by decide) ?_
        exact v_ireturn dX10_ruleLetter_66 rfl (by first | exact (h3 z y w w1).1 (by omega) | exact (h3 z y w w1).2 (by omega))
      · refine v_if_eq (tgt := 64) dX10_ruleLetter_42 (by decide) (by decide) (fun q42 => ?_) (fun q42 => absurd q42 (by decide))
        refine v_bipush dX10_ruleLetter_64 (by decide) ?_
        exact v_ireturn dX10_ruleLetter_66 rfl (by first | exact (h3 z y w w1).1 (by omega) | exact (h3 z y w w1).2 (by omega))
    · refine v_if_ne (tgt := 23) dX10_ruleLetter_18 (by decide) (by decide) (fun q18 => absurd q18 (by decide)) (fun q18 => ?_)
      refine v_iconst dX10_ruleLetter_21 ?_
      exact v_ireturn dX10_ruleLetter_22 rfl (h2 z (by omega))
  · refine v_if_ne (tgt := 11) dX10_ruleLetter_5 (by decide) (by decide) (fun q5 => absurd q5 (by decide)) (fun q5 => ?_)
    refine v_bipush dX10_ruleLetter_8 (by decide) ?_
    exact v_ireturn dX10_ruleLetter_10 rfl (h1 z)
theorem c_X10_weight {P : Int → S9 → Prop} {x : Int} (v : Va n R lf rg wt lev stt ap str) (c : SyMn σ n R lf rg wt lev stt ap str) (hx : (-2147483648 ≤ x ∧ x < 2147483648)) (h1 : ¬ (0 ≤ x ∧ x < n) → P (-2) σ) (h2 : (0 ≤ x ∧ x < n) → P (wt x) σ) : Cc (d + 2) mX10_weight [.ref 97, .int (iI x)] σ (QI P) := by
  have hn := v.1
  have hR := v.2.1
  refine Cc_of (by decide +kernel) (fun _ => Nat.le_of_ble_eq_true rfl) rfl (lv := [_, _]) ?_
  refine v_aload_n dX10_weight_0 rfl ?_
  refine v_iload_n dX10_weight_1 rfl ?_
  refine v_callVi1 dX10_weight_2 kX10_140 s_97 (Nat.le_of_ble_eq_true rfl) (c_X10_isLetter c.1 (by omega) hx (fun z => ?_) (fun z => ?_))
  · refine v_if_eq (tgt := 17) dX10_weight_5 (by decide) (by decide) (fun q5 => absurd q5 (by decide)) (fun q5 => ?_)
    refine v_aload_n dX10_weight_8 rfl ?_
    refine v_getR (k1 := 100) dX10_weight_9 s_97 fX10_22 rfl ?_
    refine v_iload_n dX10_weight_12 rfl ?_
    refine v_iaload dX10_weight_13 s_100 (by omega) ?_
    rw [c.w9 (by omega)]
    refine v_goto (tgt := 19) dX10_weight_14 (by decide) ?_
    exact v_ireturn dX10_weight_19 rfl (by first | exact h2 z | exact h1 z)
  · refine v_if_eq (tgt := 17) dX10_weight_5 (by decide) (by decide) (fun q5 => ?_) (fun q5 => absurd q5 (by decide))
    refine v_bipush dX10_weight_17 (by decide) ?_
    exact v_ireturn dX10_weight_19 rfl (by first | exact h2 z | exact h1 z)
theorem c_X10_setWeight {P : Int → S9 → Prop} {x y : Int} (v : Va n R lf rg wt lev stt ap str) (c : SyMn σ n R lf rg wt lev stt ap str) (hx : (-2147483648 ≤ x ∧ x < 2147483648)) (hy : (-2147483648 ≤ y ∧ y < 2147483648)) (h1 : ¬ (0 ≤ x ∧ x < n) → P (-2) σ) (h2 : (0 ≤ x ∧ x < n) → ¬ (0 ≤ y ∧ y ≤ 99) → P (-1) σ) (h3 : (0 ≤ x ∧ x < n) → (0 ≤ y ∧ y ≤ 99) → P (wt x) (sI σ 100 x y)) : Cc (d + 2) mX10_setWeight [.ref 97, .int (iI x), .int (iI y)] σ (QI P) := by
  have hn := v.1
  have hR := v.2.1
  refine Cc_of (by decide +kernel) (fun _ => Nat.le_of_ble_eq_true rfl) rfl (lv := [_, _, _, _]) ?_
  refine v_aload_n dX10_setWeight_0 rfl ?_
  refine v_iload_n dX10_setWeight_1 rfl ?_
  refine v_callVi1 dX10_setWeight_2 kX10_140 s_97 (Nat.le_of_ble_eq_true rfl) (c_X10_isLetter c.1 (by omega) hx (fun z => ?_) (fun z => ?_))
  · refine v_if_ne (tgt := 11) dX10_setWeight_5 (by decide) (by decide) (fun q5 => ?_) (fun q5 => absurd q5 (by decide))
    refine v_iload_n dX10_setWeight_11 rfl ?_
    refine v_i2l dX10_setWeight_12 (by omega) ?_
    refine v_lconst0 dX10_setWeight_13 ?_
    refine v_ldc2 dX10_setWeight_14 wX10_163 ?_
    refine v_callSi3 dX10_setWeight_17 kX10_115 (Nat.le_of_ble_eq_true rfl) (c_X10_in (by omega) (by omega) (by omega) (fun u => ?_) (fun u => ?_))
    · refine v_if_ne (tgt := 25) dX10_setWeight_20 (by decide) (by decide) (fun q20 => ?_) (fun q20 => absurd q20 (by decide))
      refine v_aload_n dX10_setWeight_25 rfl ?_
      refine v_getR (k1 := 100) dX10_setWeight_26 s_97 fX10_22 rfl ?_
      refine v_iload_n dX10_setWeight_29 rfl ?_
      refine v_iaload dX10_setWeight_30 s_100 (by omega) ?_
      rw [c.w9 (by omega)]
      refine v_istore_n (lv' := [_, _, _, _]) dX10_setWeight_31 (Nat.le_of_ble_eq_true rfl) rfl rfl ?_
      refine v_aload_n dX10_setWeight_32 rfl ?_
      refine v_getR (k1 := 100) dX10_setWeight_33 s_97 fX10_22 rfl ?_
      refine v_iload_n dX10_setWeight_36 rfl ?_
      refine v_iload_n dX10_setWeight_37 rfl ?_
      refine v_iastore dX10_setWeight_38 s_100 (by omega) ?_
      refine v_iload_n dX10_setWeight_39 rfl ?_
      exact v_ireturn dX10_setWeight_40 rfl (h3 z (by omega))
    · refine v_if_ne (tgt := 25) dX10_setWeight_20 (by decide) (by decide) (fun q20 => absurd q20 (by decide)) (fun q20 => ?_)
      refine v_iconst dX10_setWeight_23 ?_
      exact v_ireturn dX10_setWeight_24 rfl (h2 z (by omega))
  · refine v_if_ne (tgt := 11) dX10_setWeight_5 (by decide) (by decide) (fun q5 => absurd q5 (by decide)) (fun q5 => ?_)
    refine v_bipush dX10_setWeight_8 (by decide) ?_
    exact v_ireturn dX10_setWeight_10 rfl (h1 z)
theorem c_X10_level {P : Int → S9 → Prop} {x : Int} (v : Va n R lf rg wt lev stt ap str) (c : SyMn σ n R lf rg wt lev stt ap str) (hx : (-2147483648 ≤ x ∧ x < 2147483648)) (h1 : ¬ (0 ≤ x ∧ x < n) → P (-2) σ) (h2 : (0 ≤ x ∧ x < n) → P (lev x) σ) : Cc (d + 2) mX10_level [.ref 97, .int (iI x)] σ (QI P) := by
  have hn := v.1
  have hR := v.2.1
  refine Cc_of (by decide +kernel) (fun _ => Nat.le_of_ble_eq_true rfl) rfl (lv := [_, _]) ?_
  refine v_aload_n dX10_level_0 rfl ?_
  refine v_iload_n dX10_level_1 rfl ?_
  refine v_callVi1 dX10_level_2 kX10_140 s_97 (Nat.le_of_ble_eq_true rfl) (c_X10_isLetter c.1 (by omega) hx (fun z => ?_) (fun z => ?_))
  · refine v_if_eq (tgt := 17) dX10_level_5 (by decide) (by decide) (fun q5 => absurd q5 (by decide)) (fun q5 => ?_)
    refine v_aload_n dX10_level_8 rfl ?_
    refine v_getR (k1 := 101) dX10_level_9 s_97 fX10_25 rfl ?_
    refine v_iload_n dX10_level_12 rfl ?_
    refine v_iaload dX10_level_13 s_101 (by omega) ?_
    rw [c.v9 (by omega)]
    refine v_goto (tgt := 19) dX10_level_14 (by decide) ?_
    exact v_ireturn dX10_level_19 rfl (by first | exact h2 z | exact h1 z)
  · refine v_if_eq (tgt := 17) dX10_level_5 (by decide) (by decide) (fun q5 => ?_) (fun q5 => absurd q5 (by decide))
    refine v_bipush dX10_level_17 (by decide) ?_
    exact v_ireturn dX10_level_19 rfl (by first | exact h2 z | exact h1 z)
theorem c_X10_setLevel {P : Int → S9 → Prop} {x y : Int} (v : Va n R lf rg wt lev stt ap str) (c : SyMn σ n R lf rg wt lev stt ap str) (hx : (-2147483648 ≤ x ∧ x < 2147483648)) (hy : (-2147483648 ≤ y ∧ y < 2147483648)) (h1 : ¬ (0 ≤ x ∧ x < n) → P (-2) σ) (h2 : (0 ≤ x ∧ x < n) → ¬ (0 ≤ y ∧ y ≤ 9) → P (-1) σ) (h3 : (0 ≤ x ∧ x < n) → (0 ≤ y ∧ y ≤ 9) → P (lev x) (sI σ 101 x y)) : Cc (d + 2) mX10_setLevel [.ref 97, .int (iI x), .int (iI y)] σ (QI P) := by
  have hn := v.1
  have hR := v.2.1
  refine Cc_of (by decide +kernel) (fun _ => Nat.le_of_ble_eq_true rfl) rfl (lv := [_, _, _, _]) ?_
  refine v_aload_n dX10_setLevel_0 rfl ?_
  refine v_iload_n dX10_setLevel_1 rfl ?_
  refine v_callVi1 dX10_setLevel_2 kX10_140 s_97 (Nat.le_of_ble_eq_true rfl) (c_X10_isLetter c.1 (by omega) hx (fun z => ?_) (fun z => ?_))
  · refine v_if_ne (tgt := 11) dX10_setLevel_5 (by decide) (by decide) (fun q5 => ?_) (fun q5 => absurd q5 (by decide))
    refine v_iload_n dX10_setLevel_11 rfl ?_
    refine v_i2l dX10_setLevel_12 (by omega) ?_
    refine v_lconst0 dX10_setLevel_13 ?_
    refine v_ldc2 dX10_setLevel_14 wX10_165 ?_
    refine v_callSi3 dX10_setLevel_17 kX10_115 (Nat.le_of_ble_eq_true rfl) (c_X10_in (by omega) (by omega) (by omega) (fun u => ?_) (fun u => ?_))
    · refine v_if_ne (tgt := 25) dX10_setLevel_20 (by decide) (by decide) (fun q20 => ?_) (fun q20 => absurd q20 (by decide))
      refine v_aload_n dX10_setLevel_25 rfl ?_
      refine v_getR (k1 := 101) dX10_setLevel_26 s_97 fX10_25 rfl ?_
      refine v_iload_n dX10_setLevel_29 rfl ?_
      refine v_iaload dX10_setLevel_30 s_101 (by omega) ?_
      rw [c.v9 (by omega)]
      refine v_istore_n (lv' := [_, _, _, _]) dX10_setLevel_31 (Nat.le_of_ble_eq_true rfl) rfl rfl ?_
      refine v_aload_n dX10_setLevel_32 rfl ?_
      refine v_getR (k1 := 101) dX10_setLevel_33 s_97 fX10_25 rfl ?_
      refine v_iload_n dX10_setLevel_36 rfl ?_
      refine v_iload_n dX10_setLevel_37 rfl ?_
      refine v_iastore dX10_setLevel_38 s_101 (by omega) ?_
      refine v_iload_n dX10_setLevel_39 rfl ?_
      exact v_ireturn dX10_setLevel_40 rfl (h3 z (by omega))
    · refine v_if_ne (tgt := 25) dX10_setLevel_20 (by decide) (by decide) (fun q20 => absurd q20 (by decide)) (fun q20 => ?_)
      refine v_iconst dX10_setLevel_23 ?_
      exact v_ireturn dX10_setLevel_24 rfl (h2 z (by omega))
  · refine v_if_ne (tgt := 11) dX10_setLevel_5 (by decide) (by decide) (fun q5 => absurd q5 (by decide)) (fun q5 => ?_)
    refine v_bipush dX10_setLevel_8 (by decide) ?_
    exact v_ireturn dX10_setLevel_10 rfl (h1 z)
theorem c_X10_setStatus {P : Int → S9 → Prop} {x : Int} (c : SyMn σ n R lf rg wt lev stt ap str) (hx : (-2147483648 ≤ x ∧ x < 2147483648)) (h1 : ¬ (0 ≤ x ∧ x ≤ 1) → P (-1) σ) (h2 : (0 ≤ x ∧ x ≤ 1) → P stt (sI σ 97 6 x)) : Cc (d + 1) mX10_setStatus [.ref 97, .int (iI x)] σ (QI P) := by
  refine Cc_of (by decide +kernel) (fun _ => Nat.le_of_ble_eq_true rfl) rfl (lv := [_, _, _]) ?_
  refine v_iload_n dX10_setStatus_0 rfl ?_
  refine v_i2l dX10_setStatus_1 (by omega) ?_
  refine v_lconst0 dX10_setStatus_2 ?_
  refine v_lconst1 dX10_setStatus_3 ?_
  refine v_callSi3 dX10_setStatus_4 kX10_115 (Nat.le_of_ble_eq_true rfl) (c_X10_in (by omega) (by omega) (by omega) (fun z => ?_) (fun z => ?_))
  · refine v_if_ne (tgt := 12) dX10_setStatus_7 (by decide) (by decide) (fun q7 => ?_) (fun q7 => absurd q7 (by decide))
    refine v_aload_n dX10_setStatus_12 rfl ?_
    refine v_getI (ji := 6) dX10_setStatus_13 s_97 fX10_130 rfl ?_
    rw [c.2.2.1]
    refine v_istore_n (lv' := [_, _, _]) dX10_setStatus_16 (Nat.le_of_ble_eq_true rfl) rfl rfl ?_
    refine v_aload_n dX10_setStatus_17 rfl ?_
    refine v_iload_n dX10_setStatus_18 rfl ?_
    refine v_putI (ji := 6) dX10_setStatus_19 s_97 pfX10_130 rfl ?_
    refine v_iload_n dX10_setStatus_22 rfl ?_
    exact v_ireturn dX10_setStatus_23 rfl (h2 (by omega))
  · refine v_if_ne (tgt := 12) dX10_setStatus_7 (by decide) (by decide) (fun q7 => absurd q7 (by decide)) (fun q7 => ?_)
    refine v_iconst dX10_setStatus_10 ?_
    exact v_ireturn dX10_setStatus_11 rfl (h1 (by omega))
end
