theorem cpy9_ite {α : Type} (f g : Int → α) (n x : Int) : cpy9 f g 0 0 n x = if 0 ≤ x ∧ x < n then f x else g x := by
  unfold cpy9
  by_cases h : 0 ≤ x ∧ x < n
  · rw [if_pos (by omega), if_pos h, show 0 + (x - 0) = x by omega]
  · rw [if_neg (by omega), if_neg h]
/-- levels as one number -/
def tl9 (g : Int → Int) (n : Int) : Nat → Int
  | 0 => 0
  | j + 1 => 10 * tl9 g n j + g (n - (j + 1))
/-- the weights that a number stands for -/
def tw9 (n v : Int) : Int → Int := fun x => v / 3 ^ (n - 1 - x).toNat % 3
theorem tw9_bd (n v x : Int) : 0 ≤ tw9 n v x ∧ tw9 n v x ≤ 2 := by
  unfold tw9
  have h1 := Int.emod_nonneg (v / 3 ^ (n - 1 - x).toNat) (show (3 : Int) ≠ 0 by decide)
  have h2 := Int.emod_lt_of_pos (v / 3 ^ (n - 1 - x).toNat) (show (0 : Int) < 3 by decide)
  omega
section
variable {d : Nat} {n R : Int} {lf rg : Int → List Int} {wt lev : Int → Int} {stt : Int} {ap : Int → UInt32} {str : List Int} {σ : S9}
theorem c_X9_takeFoundLevels {P : S9 → Prop} (hn : 1 ≤ n ∧ n ≤ 6) (g1 : gI σ 1 0 = n) (h : P (aI σ 14 (cpy9 (gI σ 76) (gI σ 14) 0 0 n))) : Cc (d + 1) mX9_takeFoundLevels [.ref 0] σ (QV P) := by
  refine Cc_of (by decide +kernel) (fun _ => Nat.le_of_ble_eq_true rfl) rfl (lv := [_]) ?_
  refine v_aload_n dX9_takeFoundLevels_0 rfl ?_
  refine v_getR (k1 := 75) dX9_takeFoundLevels_1 s_0 fX9_56 rfl ?_
  refine v_getR (k1 := 76) dX9_takeFoundLevels_4 s_75 fX9_297 rfl ?_
  refine v_iconst dX9_takeFoundLevels_7 ?_
  refine v_aload_n dX9_takeFoundLevels_8 rfl ?_
  refine v_getR (k1 := 1) dX9_takeFoundLevels_9 s_0 fX9_14 rfl ?_
  refine v_getR (k1 := 14) dX9_takeFoundLevels_12 s_1 fX9_138 rfl ?_
  refine v_iconst dX9_takeFoundLevels_15 ?_
  refine v_aload_n dX9_takeFoundLevels_16 rfl ?_
  refine v_getR (k1 := 1) dX9_takeFoundLevels_17 s_0 fX9_14 rfl ?_
  refine v_getI (ji := 0) dX9_takeFoundLevels_20 s_1 fX9_71 rfl ?_
  rw [g1]
  refine v_copyI dX9_takeFoundLevels_23 acX9_298 s_76 s_14 (by omega) (Nat.le_of_ble_eq_true rfl) ?_
  exact v_return dX9_takeFoundLevels_26 rfl (h)
theorem c_X9_findLevels {P : Int → S9 → Prop} (v : Va n R lf rg wt lev stt ap str) (c : SyC σ 1 n R lf rg wt lev stt ap str) (h1 : All9 n n.toNat (FV9 wt stt n R lf rg) → ∀ τ, eq9 (fun k => k < 75 ∨ 78 < k) σ τ → P (-6) τ) (h2 : ∀ g, Fst9 n n.toNat (FV9 wt stt n R lf rg) g → ∀ τ, eq9 (fun k => (k < 75 ∧ k ≠ 14) ∨ 78 < k) σ τ → (∀ x, gI τ 14 x = if 0 ≤ x ∧ x < n then g x else gI σ 14 x) → P (tl9 g n n.toNat) τ) : Cc (d + 7) mX9_findLevels [.ref 0] σ (QI P) := by
  have hn := v.1
  have hR := v.2.1
  refine Cc_of (by decide +kernel) (fun _ => Nat.le_of_ble_eq_true rfl) rfl (lv := [_, _, _]) ?_
  have K : ∀ (τ : S9) (g : Int → Int), (∀ x, gI τ 14 x = if 0 ≤ x ∧ x < n then g x else gI σ 14 x) → (P (tl9 g n n.toNat) τ) → ∀ (m : Nat) (j : Nat), j + m = n.toNat → Vv (d + 7) mX9_findLevels 57 [.ref 0, .int (iI (tl9 g n j)), .int (iI (n - 1 - j))] [] τ (QI P) := by
    intro τ g hg hP m
    induction m with
    | zero =>
      intro j hj
      refine v_iload_n dX9_findLevels_57 rfl ?_
      refine v_if_lt (tgt := 82) dX9_findLevels_58 (by decide) (by omega) (fun q58 => ?_) (fun q58 => absurd q58 (by omega))
      refine v_iload_n dX9_findLevels_82 rfl ?_
      exact v_ireturn dX9_findLevels_83 rfl (by rw [show j = n.toNat by omega]; exact hP)
    | succ m ih =>
      intro j hj
      have eg : gI τ 14 (n - 1 - j) = g (n - 1 - j) := by rw [hg, if_pos (by omega)]
      refine v_iload_n dX9_findLevels_57 rfl ?_
      refine v_if_lt (tgt := 82) dX9_findLevels_58 (by decide) (by omega) (fun q58 => absurd q58 (by omega)) (fun q58 => ?_)
      refine v_bipush dX9_findLevels_61 (by decide) ?_
      refine v_iload_n dX9_findLevels_63 rfl ?_
      refine v_imul dX9_findLevels_64 ?_
      refine v_aload_n dX9_findLevels_65 rfl ?_
      refine v_getR (k1 := 1) dX9_findLevels_66 s_0 fX9_14 rfl ?_
      refine v_getR (k1 := 14) dX9_findLevels_69 s_1 fX9_138 rfl ?_
      refine v_iload_n dX9_findLevels_72 rfl ?_
      refine v_iaload dX9_findLevels_73 s_14 (by omega) ?_
      rw [eg]
      refine v_iadd dX9_findLevels_74 ?_
      refine v_istore_n (lv' := [_, _, _]) dX9_findLevels_75 (Nat.le_of_ble_eq_true rfl) rfl rfl ?_
      refine v_iinc (lv' := [_, _, _]) dX9_findLevels_76 rfl (Nat.le_of_ble_eq_true rfl) rfl rfl ?_
      refine v_goto (tgt := 57) dX9_findLevels_79 (by decide) ?_
      have := ih (j + 1) (by omega)
      rw [tl9, show n - ((j : Int) + 1) = n - 1 - j by omega, show n - 1 - ((j + 1 : Nat) : Int) = n - 1 - j - 1 by omega] at this
      exact this
  have hw : ∀ x, 0 ≤ x → x < n → gI σ 13 x = wt x ∧ 0 ≤ wt x ∧ wt x ≤ 99 := fun x a b => ⟨(c.2.2.2.2.2 x a (by omega)).1, (v.2.2.2.1 x a (by omega)).1⟩
  refine v_aload_n dX9_findLevels_0 rfl ?_
  refine v_getR (k1 := 75) dX9_findLevels_1 s_0 fX9_56 rfl ?_
  refine v_aload_n dX9_findLevels_4 rfl ?_
  refine v_getR (k1 := 1) dX9_findLevels_5 s_0 fX9_14 rfl ?_
  refine v_aload_n dX9_findLevels_8 rfl ?_
  refine v_getR (k1 := 1) dX9_findLevels_9 s_0 fX9_14 rfl ?_
  refine v_getR (k1 := 13) dX9_findLevels_12 s_1 fX9_135 rfl ?_
  refine v_callVi2 dX9_findLevels_15 kX9_172 s_75 (Nat.le_of_ble_eq_true rfl) (c_X2_prepare (wc := 13) (wt' := wt) v c s_13 (by decide) hw (fun hA τ e1 => ?_) (fun τ T wl ix e1 L => ?_))
  · refine v_if_eq (tgt := 38) dX9_findLevels_18 (by decide) (by decide) (fun q18 => ?_) (fun q18 => absurd q18 (by decide))
    refine v_bipush dX9_findLevels_38 (by decide) ?_
    exact v_ireturn dX9_findLevels_40 rfl (h1 (fun e _ => hA stt e) τ (e1.mono (fun k hk => by omega)))
  · refine v_if_eq (tgt := 38) dX9_findLevels_18 (by decide) (by decide) (fun q18 => absurd q18 (by decide)) (fun q18 => ?_)
    refine v_aload_n dX9_findLevels_21 rfl ?_
    refine v_getR (k1 := 75) dX9_findLevels_22 s_0 fX9_56 rfl ?_
    refine v_aload_n dX9_findLevels_25 rfl ?_
    refine v_getR (k1 := 1) dX9_findLevels_26 s_0 fX9_14 rfl ?_
    refine v_getI (ji := 7) dX9_findLevels_29 s_1 fX9_141 rfl ?_
    rw [(e1 1 (by omega)).1, c.2.2.1]
    refine v_callVi1 dX9_findLevels_32 kX9_176 s_75 (Nat.le_of_ble_eq_true rfl) (c_X2_findFor v v.2.2.2.2.1 L (fun hA υ e2 _ => ?_) (fun υ hF e2 => ?_))
    · have e3 : eq9 (fun k => k < 75 ∨ 78 < k) σ υ := (e1.mono (fun k hk => by omega)).tr (e2.mono (fun k hk => by omega))
      refine v_if_ne (tgt := 41) dX9_findLevels_35 (by decide) (by decide) (fun q35 => absurd q35 (by decide)) (fun q35 => ?_)
      refine v_bipush dX9_findLevels_38 (by decide) ?_
      exact v_ireturn dX9_findLevels_40 rfl (h1 hA υ e3)
    · have e3 : eq9 (fun k => k < 75 ∨ 78 < k) σ υ := (e1.mono (fun k hk => by omega)).tr (e2.mono (fun k hk => by omega))
      have u1 : gI υ 1 0 = n := by rw [(e3 1 (by omega)).1]; exact c.1
      have u14 : gI υ 14 = gI σ 14 := (e3 14 (by omega)).1
      have eA : ∀ x, gI (aI υ 14 (cpy9 (gI υ 76) (gI υ 14) 0 0 n)) 14 x = if 0 ≤ x ∧ x < n then gI υ 76 x else gI σ 14 x := fun x => by rw [gI_aI_eq, cpy9_ite, u14]
      refine v_if_ne (tgt := 41) dX9_findLevels_35 (by decide) (by decide) (fun q35 => ?_) (fun q35 => absurd q35 (by decide))
      refine v_aload_n dX9_findLevels_41 rfl ?_
      refine v_callVv0 dX9_findLevels_42 kX9_179 s_0 (Nat.le_of_ble_eq_true rfl) (c_X9_takeFoundLevels hn u1 ?_)
      refine v_iconst dX9_findLevels_45 ?_
      refine v_istore_n (lv' := [_, _, _]) dX9_findLevels_46 (Nat.le_of_ble_eq_true rfl) rfl rfl ?_
      refine v_aload_n dX9_findLevels_47 rfl ?_
      refine v_getR (k1 := 1) dX9_findLevels_48 s_0 fX9_14 rfl ?_
      refine v_getI (ji := 0) dX9_findLevels_51 s_1 fX9_71 rfl ?_
      refine v_iconst dX9_findLevels_54 ?_
      rw [gI_aI_ne (by decide), u1]
      refine v_isub dX9_findLevels_55 ?_
      refine v_istore_n (lv' := [_, _, _]) dX9_findLevels_56 (Nat.le_of_ble_eq_true rfl) rfl rfl ?_
      have h8 := K _ (gI υ 76) eA (h2 _ hF _ ((e3.mono (fun k hk => by omega)).tr (eq9.aI (by omega))) eA) n.toNat 0 (by omega)
      rw [show n - 1 - ((0 : Nat) : Int) = n - 1 by omega] at h8
      exact h8
theorem c_X9_writeTriedWeights {w : Int} {P : S9 → Prop} (hn : 1 ≤ n ∧ n ≤ 6) (g1 : gI σ 1 0 = n) (hw : 0 ≤ w ∧ w < 1000) (h : ∀ τ, eq9 (fun k => k ≠ 79) σ τ → (∀ x, 0 ≤ x → x < n → gI τ 79 x = tw9 n w x) → P τ) : Cc d mX9_writeTriedWeights [.ref 0, .int (iI w)] σ (QV P) := by
  refine Cc_of (by decide +kernel) (fun _ => Nat.le_of_ble_eq_true rfl) rfl (lv := [_, _, _, _]) ?_
  have K : ∀ (m : Nat) (j : Nat) (τ : S9), j + m = n.toNat → eq9 (fun k => k ≠ 79) σ τ → (∀ x, n - 1 - j < x → x < n → gI τ 79 x = tw9 n w x) → Vv d mX9_writeTriedWeights 12 [.ref 0, .int (iI w), .int (iI (w / 3 ^ j)), .int (iI (n - 1 - j))] [] τ (QV P) := by
    intro m
    induction m with
    | zero =>
      intro j τ hj he hx
      refine v_iload_n dX9_writeTriedWeights_12 rfl ?_
      refine v_if_lt (tgt := 35) dX9_writeTriedWeights_13 (by decide) (by omega) (fun q13 => ?_) (fun q13 => absurd q13 (by omega))
      exact v_return dX9_writeTriedWeights_35 rfl (h τ he (fun x a b => hx x (by omega) b))
    | succ m ih =>
      intro j τ hj he hx
      have h3 := pow9 (b := 3) (by decide) j
      have q1 : 0 ≤ w / 3 ^ j := Int.ediv_nonneg hw.1 (by omega)
      have q2 : w / 3 ^ j ≤ w := Int.ediv_le_self _ hw.1
      have e3 : w / 3 ^ j / 3 = w / 3 ^ (j + 1) := by rw [Int.ediv_ediv, if_neg (by omega), Int.sub_zero, Int.pow_succ]
      refine v_iload_n dX9_writeTriedWeights_12 rfl ?_
      refine v_if_lt (tgt := 35) dX9_writeTriedWeights_13 (by decide) (by omega) (fun q13 => absurd q13 (by omega)) (fun q13 => ?_)
      refine v_aload_n dX9_writeTriedWeights_16 rfl ?_
      refine v_getR (k1 := 79) dX9_writeTriedWeights_17 s_0 fX9_60 rfl ?_
      refine v_iload_n dX9_writeTriedWeights_20 rfl ?_
      refine v_iload_n dX9_writeTriedWeights_21 rfl ?_
      refine v_iconst dX9_writeTriedWeights_22 ?_
      refine v_irem dX9_writeTriedWeights_23 (ine9 (by decide)) (irem9 (by omega) (by decide)) ?_
      refine v_iastore dX9_writeTriedWeights_24 s_79 (by omega) ?_
      refine v_iload_n dX9_writeTriedWeights_25 rfl ?_
      refine v_iconst dX9_writeTriedWeights_26 ?_
      refine v_idiv dX9_writeTriedWeights_27 (ine9 (by decide)) (idiv9 (by omega) (by decide)) ?_
      refine v_istore_n (lv' := [_, _, _, _]) dX9_writeTriedWeights_28 (Nat.le_of_ble_eq_true rfl) rfl rfl ?_
      refine v_iinc (lv' := [_, _, _, _]) dX9_writeTriedWeights_29 rfl (Nat.le_of_ble_eq_true rfl) rfl rfl ?_
      refine v_goto (tgt := 12) dX9_writeTriedWeights_32 (by decide) ?_
      rw [e3, show n - 1 - (j : Int) + -1 = n - 1 - ((j + 1 : Nat) : Int) by omega]
      refine ih (j + 1) _ (by omega) (he.tr (eq9.aI (by omega))) (fun x a b => ?_)
      rw [gI_aI_eq]
      by_cases e : x = n - 1 - j
      · rw [e, up9_eq]; unfold tw9; rw [show (n - 1 - (n - 1 - (j : Int))).toNat = j by omega]
      · rw [up9_ne e]; exact hx x (by omega) b
  refine v_iload_n dX9_writeTriedWeights_0 rfl ?_
  refine v_istore_n (lv' := [_, _, _, _]) dX9_writeTriedWeights_1 (Nat.le_of_ble_eq_true rfl) rfl rfl ?_
  refine v_aload_n dX9_writeTriedWeights_2 rfl ?_
  refine v_getR (k1 := 1) dX9_writeTriedWeights_3 s_0 fX9_14 rfl ?_
  refine v_getI (ji := 0) dX9_writeTriedWeights_6 s_1 fX9_71 rfl ?_
  refine v_iconst dX9_writeTriedWeights_9 ?_
  rw [g1]
  refine v_isub dX9_writeTriedWeights_10 ?_
  refine v_istore_n (lv' := [_, _, _, _]) dX9_writeTriedWeights_11 (Nat.le_of_ble_eq_true rfl) rfl rfl ?_
  have h8 := K n.toNat 0 σ (by omega) eq9.rf (fun x a b => by omega)
  rw [Int.pow_zero, Int.ediv_one, show n - 1 - ((0 : Nat) : Int) = n - 1 by omega] at h8
  exact h8
theorem c_X9_takeFoundOrder {s w : Int} {σ0 : S9} {P : S9 → Prop} (hn : 1 ≤ n ∧ n ≤ 6) (g1 : gI σ 1 0 = n) (e : eq9 (fun k => k < 75 ∨ 79 < k) σ0 σ) (h79 : ∀ x, 0 ≤ x → x < n → gI σ 79 x = tw9 n w x) (h : ∀ τ, eq9 (fun k => (k < 75 ∧ k ≠ 1 ∧ k ≠ 13 ∧ k ≠ 14) ∨ 79 < k) σ0 τ → gI τ 1 = up9 (gI σ0 1) 7 s → gL τ 1 = gL σ0 1 → (∀ x, gI τ 13 x = if 0 ≤ x ∧ x < n then tw9 n w x else gI σ0 13 x) → (∀ x, gI τ 14 x = if 0 ≤ x ∧ x < n then gI σ 76 x else gI σ0 14 x) → P τ) : Cc (d + 2) mX9_takeFoundOrder [.ref 0, .int (iI s)] σ (QV P) := by
  refine Cc_of (by decide +kernel) (fun _ => Nat.le_of_ble_eq_true rfl) rfl (lv := [_, _]) ?_
  refine v_aload_n dX9_takeFoundOrder_0 rfl ?_
  refine v_getR (k1 := 79) dX9_takeFoundOrder_1 s_0 fX9_60 rfl ?_
  refine v_iconst dX9_takeFoundOrder_4 ?_
  refine v_aload_n dX9_takeFoundOrder_5 rfl ?_
  refine v_getR (k1 := 1) dX9_takeFoundOrder_6 s_0 fX9_14 rfl ?_
  refine v_getR (k1 := 13) dX9_takeFoundOrder_9 s_1 fX9_135 rfl ?_
  refine v_iconst dX9_takeFoundOrder_12 ?_
  refine v_aload_n dX9_takeFoundOrder_13 rfl ?_
  refine v_getR (k1 := 1) dX9_takeFoundOrder_14 s_0 fX9_14 rfl ?_
  refine v_getI (ji := 0) dX9_takeFoundOrder_17 s_1 fX9_71 rfl ?_
  rw [g1]
  refine v_copyI dX9_takeFoundOrder_20 acX9_298 s_79 s_13 (by omega) (Nat.le_of_ble_eq_true rfl) ?_
  refine v_aload_n dX9_takeFoundOrder_23 rfl ?_
  refine v_getR (k1 := 1) dX9_takeFoundOrder_24 s_0 fX9_14 rfl ?_
  refine v_iload_n dX9_takeFoundOrder_27 rfl ?_
  refine v_putI (ji := 7) dX9_takeFoundOrder_28 s_1 pfX9_141 rfl ?_
  refine v_aload_n dX9_takeFoundOrder_31 rfl ?_
  refine v_callVv0 dX9_takeFoundOrder_32 kX9_179 s_0 (Nat.le_of_ble_eq_true rfl) (c_X9_takeFoundLevels hn (by rw [gI_aI_eq, up9_ne (by decide), gI_aI_ne (by decide)]; exact g1) ?_)
  refine v_return dX9_takeFoundOrder_35 rfl (by
    refine h _ ?_ ?_ ?_ (fun x => ?_) (fun x => ?_)
    · exact (((e.mono (fun k hk => by omega)).tr (eq9.aI (by omega))).tr (eq9.aI (by omega))).tr (eq9.aI (by omega))
    · rw [gI_aI_ne (by decide), gI_aI_eq, gI_aI_ne (by decide), (e 1 (by omega)).1]
    · exact (e 1 (by omega)).2.1
    · rw [gI_aI_ne (by decide), gI_aI_ne (by decide), gI_aI_eq, cpy9_ite, (e 13 (by omega)).1]
      by_cases q : 0 ≤ x ∧ x < n
      · rw [if_pos q, if_pos q, h79 x q.1 q.2]
      · rw [if_neg q, if_neg q]
    · rw [gI_aI_eq, cpy9_ite, gI_aI_ne (by decide), gI_aI_ne (by decide), gI_aI_ne (by decide), gI_aI_ne (by decide), (e 14 (by omega)).1])
theorem c_X9_findOrder {P : Int → S9 → Prop} (v : Va n R lf rg wt lev stt ap str) (c : SyC σ 1 n R lf rg wt lev stt ap str) (h1 : 4 < n → P (-8) σ) (h2 : n ≤ 4 → (∀ w s, 0 ≤ w → w < 3 ^ n.toNat → 0 ≤ s → s ≤ 1 → All9 n n.toNat (FV9 (tw9 n w) s n R lf rg)) → ∀ τ, eq9 (fun k => k < 75 ∨ 79 < k) σ τ → P (-6) τ)
    (h3 : n ≤ 4 → ∀ w s g, 0 ≤ w → w < 3 ^ n.toNat → 0 ≤ s → s ≤ 1 → (∀ w' s', 0 ≤ w' → w' < w → 0 ≤ s' → s' ≤ 1 → All9 n n.toNat (FV9 (tw9 n w') s' n R lf rg)) → (∀ s', 0 ≤ s' → s' < s → All9 n n.toNat (FV9 (tw9 n w) s' n R lf rg)) → Fst9 n n.toNat (FV9 (tw9 n w) s n R lf rg) g → ∀ τ, eq9 (fun k => (k < 75 ∧ k ≠ 1 ∧ k ≠ 13 ∧ k ≠ 14) ∨ 79 < k) σ τ → gI τ 1 = up9 (gI σ 1) 7 s → gL τ 1 = gL σ 1 → (∀ x, gI τ 13 x = if 0 ≤ x ∧ x < n then tw9 n w x else gI σ 13 x) → (∀ x, gI τ 14 x = if 0 ≤ x ∧ x < n then g x else gI σ 14 x) → P 1 τ) : Cc (d + 7) mX9_findOrder [.ref 0] σ (QI P) := by
  have hn := v.1
  have hR := v.2.1
  refine Cc_of (by decide +kernel) (fun _ => Nat.le_of_ble_eq_true rfl) rfl (lv := [_, _, _, _, _]) ?_
  have K2 : n ≤ 4 → ∀ (w : Int), 0 ≤ w → w < 3 ^ n.toNat → (∀ w' s', 0 ≤ w' → w' < w → 0 ≤ s' → s' ≤ 1 → All9 n n.toNat (FV9 (tw9 n w') s' n R lf rg)) → ((∀ s', 0 ≤ s' → s' ≤ 1 → All9 n n.toNat (FV9 (tw9 n w) s' n R lf rg)) → ∀ τ, eq9 (fun k => k < 75 ∨ 79 < k) σ τ → ∀ l3 l4, Vv (d + 7) mX9_findOrder 106 [.ref 0, .int (iI (3 ^ n.toNat)), .int (iI w), l3, l4] [] τ (QI P)) → ∀ (m : Nat) (s : Int) (τ : S9) (T wl : Int) (ix : Int → Int), 0 ≤ s → s + m = 2 → eq9 (fun k => k < 75 ∨ 79 < k) σ τ → (∀ x, 0 ≤ x → x < n → gI τ 79 x = tw9 n w x) → (∀ s', 0 ≤ s' → s' < s → All9 n n.toNat (FV9 (tw9 n w) s' n R lf rg)) → Lev9 τ (tw9 n w) n R lf rg T wl ix → Vv (d + 7) mX9_findOrder 70 [.ref 0, .int (iI (3 ^ n.toNat)), .int (iI w), .int (iI 1), .int (iI s)] [] τ (QI P) := by
    intro hn4 w hw0 hw1 hprev hend m
    induction m with
    | zero =>
      intro s τ T wl ix hs hm he h79 hS L
      refine v_iload dX9_findOrder_70 rfl ?_
      refine v_iconst dX9_findOrder_72 ?_
      refine v_icmp_gt (tgt := 106) dX9_findOrder_73 (by decide) (by omega) (fun q73 => ?_) (fun q73 => absurd q73 (by omega))
      exact hend (fun s2 a b => hS s2 a (by omega)) τ he _ _
    | succ m ih =>
      intro s τ T wl ix hs hm he h79 hS L
      refine v_iload dX9_findOrder_70 rfl ?_
      refine v_iconst dX9_findOrder_72 ?_
      refine v_icmp_gt (tgt := 106) dX9_findOrder_73 (by decide) (by omega) (fun q73 => absurd q73 (by omega)) (fun q73 => ?_)
      refine v_iload_n dX9_findOrder_76 rfl ?_
      refine v_if_eq (tgt := 106) dX9_findOrder_77 (by decide) (by decide) (fun q77 => absurd q77 (by decide)) (fun q77 => ?_)
      refine v_aload_n dX9_findOrder_80 rfl ?_
      refine v_getR (k1 := 75) dX9_findOrder_81 s_0 fX9_56 rfl ?_
      refine v_iload dX9_findOrder_84 rfl ?_
      refine v_callVi1 dX9_findOrder_86 kX9_176 s_75 (Nat.le_of_ble_eq_true rfl) (c_X2_findFor v (by omega) L (fun hA υ e2 L2 => ?_) (fun υ hF e2 => ?_))
      · refine v_if_eq (tgt := 100) dX9_findOrder_89 (by decide) (by decide) (fun q89 => ?_) (fun q89 => absurd q89 (by decide))
        refine v_iinc (lv' := [_, _, _, _, _]) dX9_findOrder_100 rfl (Nat.le_of_ble_eq_true rfl) rfl rfl ?_
        refine v_goto (tgt := 70) dX9_findOrder_103 (by decide) ?_
        exact ih (s + 1) υ T wl ix (by omega) (by omega) (he.tr (e2.mono (fun k hk => by omega))) (fun x a b => by rw [(e2 79 (by omega)).1]; exact h79 x a b) (fun s2 a b => if q : s2 = s then (by rw [q]; exact hA) else hS s2 a (by omega)) L2
      · have e3 : eq9 (fun k => k < 75 ∨ 79 < k) σ υ := he.tr (e2.mono (fun k hk => by omega))
        have u79 : ∀ x, 0 ≤ x → x < n → gI υ 79 x = tw9 n w x := fun x a b => by rw [(e2 79 (by omega)).1]; exact h79 x a b
        have u1 : gI υ 1 0 = n := by rw [(e3 1 (by omega)).1]; exact c.1
        refine v_if_eq (tgt := 100) dX9_findOrder_89 (by decide) (by decide) (fun q89 => absurd q89 (by decide)) (fun q89 => ?_)
        refine v_aload_n dX9_findOrder_92 rfl ?_
        refine v_iload dX9_findOrder_93 rfl ?_
        refine v_callVv1 dX9_findOrder_95 kX9_185 s_0 (Nat.le_of_ble_eq_true rfl) (c_X9_takeFoundOrder (σ0 := σ) hn u1 e3 u79 (fun τ2 z1 z2 z3 z4 z5 => ?_))
        refine v_iconst dX9_findOrder_98 ?_
        exact v_ireturn dX9_findOrder_99 rfl (h3 hn4 w s _ hw0 hw1 hs (by omega) hprev hS hF τ2 z1 z2 z3 z4 z5)
  have K1 : n ≤ 4 → ∀ (m : Nat) (w : Int) (τ : S9), 0 ≤ w → w + m = 3 ^ n.toNat → eq9 (fun k => k < 75 ∨ 79 < k) σ τ → (∀ w' s', 0 ≤ w' → w' < w → 0 ≤ s' → s' ≤ 1 → All9 n n.toNat (FV9 (tw9 n w') s' n R lf rg)) → ∀ l3 l4, Vv (d + 7) mX9_findOrder 41 [.ref 0, .int (iI (3 ^ n.toNat)), .int (iI w), l3, l4] [] τ (QI P) := by
    intro hn4 m
    have h81 : (3 : Int) ^ n.toNat ≤ 81 := by
      have : ∀ k : Fin 5, (3 : Int) ^ k.1 ≤ 81 := by decide
      exact this ⟨n.toNat, by omega⟩
    induction m with
    | zero =>
      intro w τ hw hm he hp l3 l4
      refine v_iload_n dX9_findOrder_41 rfl ?_
      refine v_iload_n dX9_findOrder_42 rfl ?_
      refine v_icmp_ge (tgt := 112) dX9_findOrder_43 (by decide) (by omega) (fun q43 => ?_) (fun q43 => absurd q43 (by omega))
      refine v_bipush dX9_findOrder_112 (by decide) ?_
      exact v_ireturn dX9_findOrder_114 rfl (h2 hn4 (fun w2 s2 a b c2 e => hp w2 s2 a (by omega) c2 e) τ he)
    | succ m ih =>
      intro w τ hw hm he hp l3 l4
      have t1 : gI τ 1 0 = n := by rw [(he 1 (by omega)).1]; exact c.1
      have hend : (∀ s', 0 ≤ s' → s' ≤ 1 → All9 n n.toNat (FV9 (tw9 n w) s' n R lf rg)) → ∀ τ, eq9 (fun k => k < 75 ∨ 79 < k) σ τ → ∀ l3 l4, Vv (d + 7) mX9_findOrder 106 [.ref 0, .int (iI (3 ^ n.toNat)), .int (iI w), l3, l4] [] τ (QI P) := by
        intro hA τ he l3 l4
        refine v_iinc (lv' := [_, _, _, _, _]) dX9_findOrder_106 rfl (Nat.le_of_ble_eq_true rfl) rfl rfl ?_
        refine v_goto (tgt := 41) dX9_findOrder_109 (by decide) ?_
        exact ih (w + 1) τ (by omega) (by omega) he (fun w2 s2 a b c2 e => if q : w2 = w then (by rw [q]; exact hA s2 c2 e) else hp w2 s2 a (by omega) c2 e) _ _
      refine v_iload_n dX9_findOrder_41 rfl ?_
      refine v_iload_n dX9_findOrder_42 rfl ?_
      refine v_icmp_ge (tgt := 112) dX9_findOrder_43 (by decide) (by omega) (fun q43 => absurd q43 (by omega)) (fun q43 => ?_)
      refine v_aload_n dX9_findOrder_46 rfl ?_
      refine v_iload_n dX9_findOrder_47 rfl ?_
      refine v_callVv1 dX9_findOrder_48 kX9_182 s_0 (Nat.le_of_ble_eq_true rfl) (c_X9_writeTriedWeights hn t1 (by omega) (fun υ e1 x79 => ?_))
      have eU : eq9 (fun k => k < 75 ∨ 79 < k) σ υ := he.tr (e1.mono (fun k hk => by omega))
      refine v_aload_n dX9_findOrder_51 rfl ?_
      refine v_getR (k1 := 75) dX9_findOrder_52 s_0 fX9_56 rfl ?_
      refine v_aload_n dX9_findOrder_55 rfl ?_
      refine v_getR (k1 := 1) dX9_findOrder_56 s_0 fX9_14 rfl ?_
      refine v_aload_n dX9_findOrder_59 rfl ?_
      refine v_getR (k1 := 79) dX9_findOrder_60 s_0 fX9_60 rfl ?_
      refine v_callVi2 dX9_findOrder_63 kX9_172 s_75 (Nat.le_of_ble_eq_true rfl) (c_X2_prepare (wc := 79) (wt' := tw9 n w) v (c.eq (by omega) (eU.mono (fun k hk => by omega))) s_79 (by decide) (fun x a b => ⟨x79 x a b, by have := tw9_bd n w x; omega⟩) (fun hA τ2 e2 => ?_) (fun τ2 T wl ix e2 L => ?_))
      · refine v_istore_n (lv' := [_, _, _, _, _]) dX9_findOrder_66 (Nat.le_of_ble_eq_true rfl) rfl rfl ?_
        refine v_iconst dX9_findOrder_67 ?_
        refine v_istore (lv' := [_, _, _, _, _]) dX9_findOrder_68 (Nat.le_of_ble_eq_true rfl) rfl rfl ?_
        refine v_iload dX9_findOrder_70 rfl ?_
        refine v_iconst dX9_findOrder_72 ?_
        refine v_icmp_gt (tgt := 106) dX9_findOrder_73 (by decide) (by decide) (fun q73 => absurd q73 (by decide)) (fun q73 => ?_)
        refine v_iload_n dX9_findOrder_76 rfl ?_
        refine v_if_eq (tgt := 106) dX9_findOrder_77 (by decide) (by decide) (fun q77 => ?_) (fun q77 => absurd rfl q77)
        exact hend (fun s2 _ _ e _ => hA s2 e) τ2 (eU.tr (e2.mono (fun k hk => by omega))) _ _
      · refine v_istore_n (lv' := [_, _, _, _, _]) dX9_findOrder_66 (Nat.le_of_ble_eq_true rfl) rfl rfl ?_
        refine v_iconst dX9_findOrder_67 ?_
        refine v_istore (lv' := [_, _, _, _, _]) dX9_findOrder_68 (Nat.le_of_ble_eq_true rfl) rfl rfl ?_
        exact K2 hn4 w hw (by omega) hp hend 2 0 τ2 T wl ix (by omega) (by omega) (eU.tr (e2.mono (fun k hk => by omega))) (fun x a b => by rw [(e2 79 (by omega)).1]; exact x79 x a b) (fun s2 a b => by omega) L
  have K0 : n ≤ 4 → ∀ (m : Nat) (k : Nat), k + m = n.toNat → Vv (d + 7) mX9_findOrder 18 [.ref 0, .int (iI (3 ^ k)), .int (iI k), .null, .null] [] σ (QI P) := by
    intro hn4 m
    induction m with
    | zero =>
      intro k hk
      refine v_iload_n dX9_findOrder_18 rfl ?_
      refine v_aload_n dX9_findOrder_19 rfl ?_
      refine v_getR (k1 := 1) dX9_findOrder_20 s_0 fX9_14 rfl ?_
      refine v_getI (ji := 0) dX9_findOrder_23 s_1 fX9_71 rfl ?_
      rw [c.1]
      refine v_icmp_ge (tgt := 39) dX9_findOrder_26 (by decide) (by omega) (fun q26 => ?_) (fun q26 => absurd q26 (by omega))
      refine v_iconst dX9_findOrder_39 ?_
      refine v_istore_n (lv' := [_, _, _, _, _]) dX9_findOrder_40 (Nat.le_of_ble_eq_true rfl) rfl rfl ?_
      rw [show k = n.toNat by omega]
      exact K1 hn4 (3 ^ n.toNat : Int).toNat 0 σ (by omega) (by have := pow9 (b := 3) (by decide) n.toNat; omega) eq9.rf (fun w2 s2 a b => by omega) _ _
    | succ m ih =>
      intro k hk
      refine v_iload_n dX9_findOrder_18 rfl ?_
      refine v_aload_n dX9_findOrder_19 rfl ?_
      refine v_getR (k1 := 1) dX9_findOrder_20 s_0 fX9_14 rfl ?_
      refine v_getI (ji := 0) dX9_findOrder_23 s_1 fX9_71 rfl ?_
      rw [c.1]
      refine v_icmp_ge (tgt := 39) dX9_findOrder_26 (by decide) (by omega) (fun q26 => absurd q26 (by omega)) (fun q26 => ?_)
      refine v_iload_n dX9_findOrder_29 rfl ?_
      refine v_iconst dX9_findOrder_30 ?_
      refine v_imul dX9_findOrder_31 ?_
      refine v_istore_n (lv' := [_, _, _, _, _]) dX9_findOrder_32 (Nat.le_of_ble_eq_true rfl) rfl rfl ?_
      refine v_iinc (lv' := [_, _, _, _, _]) dX9_findOrder_33 rfl (Nat.le_of_ble_eq_true rfl) rfl rfl ?_
      refine v_goto (tgt := 18) dX9_findOrder_36 (by decide) ?_
      have h8 := ih (k + 1) (by omega)
      rw [Int.pow_succ, show ((k + 1 : Nat) : Int) = (k : Int) + 1 by omega] at h8
      exact h8
  refine v_aload_n dX9_findOrder_0 rfl ?_
  refine v_getR (k1 := 1) dX9_findOrder_1 s_0 fX9_14 rfl ?_
  refine v_getI (ji := 0) dX9_findOrder_4 s_1 fX9_71 rfl ?_
  rw [c.1]
  refine v_iconst dX9_findOrder_7 ?_
  refine v_icmp_le (tgt := 14) dX9_findOrder_8 (by decide) (by omega) (fun q8 => ?_) (fun q8 => ?_)
  · refine v_iconst dX9_findOrder_14 ?_
    refine v_istore_n (lv' := [_, _, _, _, _]) dX9_findOrder_15 (Nat.le_of_ble_eq_true rfl) rfl rfl ?_
    refine v_iconst dX9_findOrder_16 ?_
    refine v_istore_n (lv' := [_, _, _, _, _]) dX9_findOrder_17 (Nat.le_of_ble_eq_true rfl) rfl rfl ?_
    have h8 := K0 (by omega) n.toNat 0 (by omega)
    rw [Int.pow_zero] at h8
    exact h8
  · refine v_bipush dX9_findOrder_11 (by decide) ?_
    exact v_ireturn dX9_findOrder_13 rfl (h1 (by omega))
end
