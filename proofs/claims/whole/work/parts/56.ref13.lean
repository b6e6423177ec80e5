section
variable {d : Nat} {n R : Int} {lf rg : Int → List Int} {wt lev : Int → Int} {stt : Int} {ap : Int → UInt32} {str : List Int} {σ : S9}
theorem SyM.wb (c : SyMn σ n R lf rg wt lev stt ap str) (v : Va n R lf rg wt lev stt ap str) : ∀ x, 0 ≤ x → x < 6 → 0 ≤ gI σ 100 x ∧ gI σ 100 x ≤ 99 := fun x a b => by rw [c.w9 ⟨a, b⟩]; exact (v.2.2.2.1 x a (by omega)).1
theorem SyM.vb (c : SyMn σ n R lf rg wt lev stt ap str) (v : Va n R lf rg wt lev stt ap str) : ∀ x, 0 ≤ x → x < 6 → 0 ≤ gI σ 101 x ∧ gI σ 101 x ≤ 9 := fun x a b => by rw [c.v9 ⟨a, b⟩]; exact (v.2.2.2.1 x a (by omega)).2.1
theorem c_X10_findLevels {P : Int → S9 → Prop} (v : Va n R lf rg wt lev stt ap str) (c : SyMn σ n R lf rg wt lev stt ap str) (h1 : All9 n n.toNat (FV9 (gI σ 100) stt n R lf rg) → ∀ τ, eq9 (fun k => k ≠ 101 ∧ k ≠ 118 ∧ k ≠ 119 ∧ k ≠ 120 ∧ k ≠ 121) σ τ → (∀ x, 0 ≤ x → x < 6 → gI τ 101 x = gI σ 101 x) → P (-6) τ) (h2 : ∀ g, Fst9 n n.toNat (FV9 (gI σ 100) stt n R lf rg) g → ∀ τ, eq9 (fun k => k ≠ 101 ∧ k ≠ 118 ∧ k ≠ 119 ∧ k ≠ 120 ∧ k ≠ 121) σ τ → (∀ x, 0 ≤ x → x < 6 → gI τ 101 x = if x < n then g x else gI σ 101 x) → P (tl9 g n n.toNat) τ) : Cc (d + 4) mX10_findLevels [.ref 97] σ (QI P) := by
  have hn := v.1
  have hR := v.2.1
  refine Cc_of (by decide +kernel) (fun _ => Nat.le_of_ble_eq_true rfl) rfl (lv := [_, _, _]) ?_
  have K : ∀ (τ : S9) (g : Int → Int), (∀ x, 0 ≤ x → x < n → gI τ 101 x = g x) → (P (tl9 g n n.toNat) τ) → ∀ (m : Nat) (j : Nat), j + m = n.toNat → Vv (d + 4) mX10_findLevels 19 [.ref 97, .int (iI (tl9 g n j)), .int (iI (n - 1 - j))] [] τ (QI P) := by
    intro τ g hg hP m
    induction m with
    | zero =>
      intro j hj
      refine v_iload_n dX10_findLevels_19 rfl ?_
      refine v_if_lt (tgt := 41) dX10_findLevels_20 (by decide) (by omega) (fun q20 => ?_) (fun q20 => absurd q20 (by omega))
      refine v_iload_n dX10_findLevels_41 rfl ?_
      exact v_ireturn dX10_findLevels_42 rfl (by rw [show j = n.toNat by omega]; exact hP)
    | succ m ih =>
      intro j hj
      have eg : gI τ 101 (n - 1 - j) = g (n - 1 - j) := hg _ (by omega) (by omega)
      refine v_iload_n dX10_findLevels_19 rfl ?_
      refine v_if_lt (tgt := 41) dX10_findLevels_20 (by decide) (by omega) (fun q20 => absurd q20 (by omega)) (fun q20 => ?_)
      refine v_bipush dX10_findLevels_23 (by decide) ?_
      refine v_iload_n dX10_findLevels_25 rfl ?_
      refine v_imul dX10_findLevels_26 ?_
      refine v_aload_n dX10_findLevels_27 rfl ?_
      refine v_getR (k1 := 101) dX10_findLevels_28 s_97 fX10_25 rfl ?_
      refine v_iload_n dX10_findLevels_31 rfl ?_
      refine v_iaload dX10_findLevels_32 s_101 (by omega) ?_
      rw [eg]
      refine v_iadd dX10_findLevels_33 ?_
      refine v_istore_n (lv' := [_, _, _]) dX10_findLevels_34 (Nat.le_of_ble_eq_true rfl) rfl rfl ?_
      refine v_iinc (lv' := [_, _, _]) dX10_findLevels_35 rfl (Nat.le_of_ble_eq_true rfl) rfl rfl ?_
      refine v_goto (tgt := 19) dX10_findLevels_38 (by decide) ?_
      have := ih (j + 1) (by omega)
      rw [tl9, show n - ((j : Int) + 1) = n - 1 - j by omega, show n - 1 - ((j + 1 : Nat) : Int) = n - 1 - j - 1 by omega] at this
      exact this
  have e6 := c.2.2.1
  refine v_aload_n dX10_findLevels_0 rfl ?_
  refine v_callVi0 dX10_findLevels_1 kX10_193 s_97 (Nat.le_of_ble_eq_true rfl) (c_X10_levels (lf := lf) (rg := rg) hn c.1 hR c.2.1 (fun r a b => c.ll ⟨a, b⟩) (fun r a b => c.rr ⟨a, b⟩) (fun r a b => (v.2.2.1 r a b).1) (fun r a b => (v.2.2.1 r a b).2.2) (by rw [e6]; exact v.2.2.2.2.1) (c.wb v) (c.vb v) (fun g hF τ e1 e2 => ?_) (fun hA τ e1 e2 => ?_))
  · refine v_if_ne (tgt := 10) dX10_findLevels_4 (by decide) (by decide) (fun q4 => ?_) (fun q4 => absurd q4 (by decide))
    refine v_iconst dX10_findLevels_10 ?_
    refine v_istore_n (lv' := [_, _, _]) dX10_findLevels_11 (Nat.le_of_ble_eq_true rfl) rfl rfl ?_
    refine v_aload_n dX10_findLevels_12 rfl ?_
    refine v_getI (ji := 0) dX10_findLevels_13 s_97 fX10_9 rfl ?_
    rw [(e1 97 (by decide)).1, c.1]
    refine v_iconst dX10_findLevels_16 ?_
    refine v_isub dX10_findLevels_17 ?_
    refine v_istore_n (lv' := [_, _, _]) dX10_findLevels_18 (Nat.le_of_ble_eq_true rfl) rfl rfl ?_
    have h8 := K τ g (fun x a b => by rw [e2 x a (by omega), if_pos b]) (h2 g (by rw [e6] at hF; exact hF) τ e1 e2) n.toNat 0 (by omega)
    rw [show n - 1 - ((0 : Nat) : Int) = n - 1 by omega] at h8
    exact h8
  · refine v_if_ne (tgt := 10) dX10_findLevels_4 (by decide) (by decide) (fun q4 => absurd q4 (by decide)) (fun q4 => ?_)
    refine v_bipush dX10_findLevels_7 (by decide) ?_
    exact v_ireturn dX10_findLevels_9 rfl (h1 (by rw [e6] at hA; exact hA) τ e1 e2)
end
