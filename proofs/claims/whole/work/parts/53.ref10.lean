theorem val9_zero {b : Int} {e : Int → Int} (c : Nat) : ∀ j : Nat, (∀ k : Int, c ≤ k → k < c + j → e k = 0) → val9 b e (c + j) = val9 b e c * b ^ j
  | 0, _ => by rw [Int.pow_zero, Nat.add_zero, Int.mul_one]
  | j + 1, h => by
    have ih := val9_zero (b := b) (e := e) c j (fun k a q => h k a (by omega))
    rw [show c + (j + 1) = (c + j) + 1 by omega, val9, Int.pow_succ, ← Int.mul_assoc, ← ih, h ((c + j : Nat) : Int) (by omega) (by omega), Int.add_zero]
theorem Non9.next {b : Int} {m : Nat} {F : (Int → Int) → Prop} {g : Int → Int} (hb : 0 < b) (hg : Dg9 b g m) (h : Non9 b m F (val9 b g m)) (hF : ∀ e, Dg9 b e m → (∀ k : Int, 0 ≤ k → k < m → e k = g k) → ¬ F e) : Non9 b m F (val9 b g m + 1) := fun e he hl => by
  by_cases q : val9 b e m = val9 b g m
  · exact hF e he (val9_inj hb m he hg q)
  · exact h e he (by omega)
/-- weights that fit, for the reference -/
def FR9 (n R : Int) (lf rg : Int → List Int) : (Int → Int) → Prop := fun e => ∀ r, 0 ≤ r → r < R → 0 < sm9 (bl9 lf rg r) e n.toNat
section
variable {d : Nat} {n R : Int} {lf rg : Int → List Int} {wt lev : Int → Int} {stt : Int} {ap : Int → UInt32} {str : List Int} {σ : S9}
theorem c_X10_begin {P : S9 → Prop} (h : ∀ τ, eq9 (fun k => k ≠ 120) σ τ → (∀ x, 0 ≤ x → x < 8 → gI τ 120 x = 0) → P τ) : Cc d mX10_begin [.ref 97] σ (QV P) := by
  refine Cc_of (by decide +kernel) (fun _ => Nat.le_of_ble_eq_true rfl) rfl (lv := [_, _]) ?_
  have K : ∀ (m : Nat) (k : Int) (τ : S9), 0 ≤ k → k + m = 8 → eq9 (fun k => k ≠ 120) σ τ → (∀ x, 0 ≤ x → x < k → gI τ 120 x = 0) → Vv d mX10_begin 2 [.ref 97, .int (iI k)] [] τ (QV P) := by
    intro m
    induction m with
    | zero =>
      intro k τ hk hm he hI
      refine v_iload_n dX10_begin_2 rfl ?_
      refine v_bipush dX10_begin_3 (by decide) ?_
      refine v_icmp_ge (tgt := 21) dX10_begin_5 (by decide) (by omega) (fun q5 => ?_) (fun q5 => absurd q5 (by omega))
      exact v_return dX10_begin_21 rfl (h τ he (fun x a b => hI x a (by omega)))
    | succ m ih =>
      intro k τ hk hm he hI
      refine v_iload_n dX10_begin_2 rfl ?_
      refine v_bipush dX10_begin_3 (by decide) ?_
      refine v_icmp_ge (tgt := 21) dX10_begin_5 (by decide) (by omega) (fun q5 => absurd q5 (by omega)) (fun q5 => ?_)
      refine v_aload_n dX10_begin_8 rfl ?_
      refine v_getR (k1 := 120) dX10_begin_9 s_97 fX10_85 rfl ?_
      refine v_iload_n dX10_begin_12 rfl ?_
      refine v_iconst dX10_begin_13 ?_
      refine v_iastore dX10_begin_14 s_120 (by omega) ?_
      refine v_iinc (lv' := [_, _]) dX10_begin_15 rfl (Nat.le_of_ble_eq_true rfl) rfl rfl ?_
      refine v_goto (tgt := 2) dX10_begin_18 (by decide) ?_
      refine ih (k + 1) _ (by omega) (by omega) (he.tr (eq9.aI (by omega))) (fun x a b => ?_)
      rw [gI_aI_eq]
      by_cases e : x = k
      · rw [e, up9_eq]
      · rw [up9_ne e]; exact hI x a (by omega)
  refine v_iconst dX10_begin_0 ?_
  refine v_istore_n (lv' := [_, _]) dX10_begin_1 (Nat.le_of_ble_eq_true rfl) rfl rfl ?_
  exact K 8 0 σ (by omega) (by omega) eq9.rf (fun x a b => by omega)
theorem c_X10_next {m b : Int} {P : Int → S9 → Prop} (hm : 0 ≤ m ∧ m ≤ 8) (hb : 1 ≤ b ∧ b ≤ 10) (hg : Dg9 b (gI σ 120) m.toNat) (h1 : ∀ τ, eq9 (fun k => k ≠ 120) σ τ → Dg9 b (gI τ 120) m.toNat → val9 b (gI τ 120) m.toNat = val9 b (gI σ 120) m.toNat + 1 → P 1 τ) (h0 : val9 b (gI σ 120) m.toNat + 1 = b ^ m.toNat → ∀ τ, eq9 (fun k => k ≠ 120) σ τ → P 0 τ) : Cc d mX10_next [.ref 97, .int (iI m), .int (iI b)] σ (QI P) := by
  refine Cc_of (by decide +kernel) (fun _ => Nat.le_of_ble_eq_true rfl) rfl (lv := [_, _, _, _]) ?_
  have K : ∀ (q : Nat) (k : Int) (τ : S9), k + 1 = q → k < m → eq9 (fun k => k ≠ 120) σ τ → (∀ j, k < j → j < m → gI σ 120 j = b - 1 ∧ gI τ 120 j = 0) → (∀ j, 0 ≤ j → j ≤ k → gI τ 120 j = gI σ 120 j) → Vv d mX10_next 4 [.ref 97, .int (iI m), .int (iI b), .int (iI k)] [] τ (QI P) := by
    intro q
    induction q with
    | zero =>
      intro k τ hk hkm he hI hJ
      refine v_iload_n dX10_next_4 rfl ?_
      refine v_if_lt (tgt := 33) dX10_next_5 (by decide) (by omega) (fun q5 => ?_) (fun q5 => absurd q5 (by omega))
      refine v_iload_n dX10_next_33 rfl ?_
      refine v_if_lt (tgt := 47) dX10_next_34 (by decide) (by omega) (fun q34 => ?_) (fun q34 => absurd q34 (by omega))
      refine v_iload_n dX10_next_47 rfl ?_
      refine v_if_lt (tgt := 55) dX10_next_48 (by decide) (by omega) (fun q48 => ?_) (fun q48 => absurd q48 (by omega))
      refine v_iconst dX10_next_55 ?_
      refine v_zreturn dX10_next_56 rfl (by decide) (by
        refine h0 ?_ τ he
        have := val9_top (b := b) (e := gI σ 120) 0 m.toNat (fun j a c => (hI j (by omega) (by omega)).1)
        rw [Nat.zero_add, val9, Int.zero_add, Int.one_mul] at this
        exact this)
    | succ q ih =>
      intro k τ hk hkm he hI hJ
      have ek := hJ k (by omega) (by omega)
      have dk := hg k (by omega) (by omega)
      refine v_iload_n dX10_next_4 rfl ?_
      refine v_if_lt (tgt := 33) dX10_next_5 (by decide) (by omega) (fun q5 => absurd q5 (by omega)) (fun q5 => ?_)
      refine v_aload_n dX10_next_8 rfl ?_
      refine v_getR (k1 := 120) dX10_next_9 s_97 fX10_85 rfl ?_
      refine v_iload_n dX10_next_12 rfl ?_
      refine v_iaload dX10_next_13 s_120 (by omega) ?_
      rw [ek]
      refine v_iload_n dX10_next_14 rfl ?_
      refine v_iconst dX10_next_15 ?_
      refine v_isub dX10_next_16 ?_
      refine v_icmp_ne (tgt := 33) dX10_next_17 (by decide) (by omega) (fun q17 => ?_) (fun q17 => ?_)
      · refine v_iload_n dX10_next_33 rfl ?_
        refine v_if_lt (tgt := 47) dX10_next_34 (by decide) (by omega) (fun q34 => absurd q34 (by omega)) (fun q34 => ?_)
        refine v_aload_n dX10_next_37 rfl ?_
        refine v_getR (k1 := 120) dX10_next_38 s_97 fX10_85 rfl ?_
        refine v_iload_n dX10_next_41 rfl ?_
        refine v_dup2 dX10_next_42 rfl rfl ?_
        refine v_iaload dX10_next_43 s_120 (by omega) ?_
        rw [ek]
        refine v_iconst dX10_next_44 ?_
        refine v_iadd dX10_next_45 ?_
        refine v_iastore dX10_next_46 s_120 (by omega) ?_
        refine v_iload_n dX10_next_47 rfl ?_
        refine v_if_lt (tgt := 55) dX10_next_48 (by decide) (by omega) (fun q48 => absurd q48 (by omega)) (fun q48 => ?_)
        refine v_iconst dX10_next_51 ?_
        refine v_goto (tgt := 56) dX10_next_52 (by decide) ?_
        refine v_zreturn dX10_next_56 rfl (by decide) (by
        have eD : Dg9 b (gI (sI τ 120 k (gI σ 120 k + 1)) 120) m.toNat := fun j a c => by
          rw [gI_aI_eq]
          by_cases e : j = k
          · rw [e, up9_eq]; omega
          · rw [up9_ne e]
            by_cases e2 : k < j
            · rw [(hI j e2 (by omega)).2]; omega
            · rw [hJ j a (by omega)]; exact hg j a c
        refine h1 _ (he.tr (eq9.aI (by omega))) eD ?_
        have t1 := val9_top (b := b) (e := gI σ 120) (k + 1).toNat (m - (k + 1)).toNat (fun j a c => (hI j (by omega) (by omega)).1)
        have t2 := val9_zero (b := b) (e := gI (sI τ 120 k (gI σ 120 k + 1)) 120) (k + 1).toNat (m - (k + 1)).toNat (fun j a c => by rw [gI_aI_eq, up9_ne (by omega)]; exact (hI j (by omega) (by omega)).2)
        rw [show (k + 1).toNat + (m - (k + 1)).toNat = m.toNat by omega] at t1 t2
        rw [t2, t1]
        congr 1
        rw [show (k + 1).toNat = k.toNat + 1 by omega, val9, val9, show ((k.toNat : Nat) : Int) = k by omega, gI_aI_eq, up9_eq, val9_congr (e := up9 (gI τ 120) k (gI σ 120 k + 1)) (f := gI σ 120) k.toNat (fun j a c => by rw [up9_ne (by omega)]; exact hJ j a (by omega))]
        omega)
      · refine v_aload_n dX10_next_20 rfl ?_
        refine v_getR (k1 := 120) dX10_next_21 s_97 fX10_85 rfl ?_
        refine v_iload_n dX10_next_24 rfl ?_
        refine v_iconst dX10_next_25 ?_
        refine v_iastore dX10_next_26 s_120 (by omega) ?_
        refine v_iinc (lv' := [_, _, _, _]) dX10_next_27 rfl (Nat.le_of_ble_eq_true rfl) rfl rfl ?_
        refine v_goto (tgt := 4) dX10_next_30 (by decide) ?_
        refine ih (k - 1) _ (by omega) (by omega) (he.tr (eq9.aI (by omega))) (fun j a c => ?_) (fun j a c => ?_)
        · rw [gI_aI_eq]
          by_cases e : j = k
          · rw [e, up9_eq]; exact ⟨q17, rfl⟩
          · rw [up9_ne e]; exact hI j (by omega) c
        · rw [gI_aI_eq, up9_ne (by omega)]; exact hJ j a (by omega)
  refine v_iload_n dX10_next_0 rfl ?_
  refine v_iconst dX10_next_1 ?_
  refine v_isub dX10_next_2 ?_
  refine v_istore_n (lv' := [_, _, _, _]) dX10_next_3 (Nat.le_of_ble_eq_true rfl) rfl rfl ?_
  exact K m.toNat (m - 1) σ (by omega) (by omega) eq9.rf (fun j a c => by omega) (fun j a c => rfl)
theorem SyM.sou (c : SyMn σ n R lf rg wt lev stt ap str) {τ : S9} (he : eq9 (fun k => k ≠ 120) σ τ) : SyMn τ n R lf rg wt lev stt ap str := SyM.eq c (he.mono (fun k hk => by omega))
theorem c_X10_less {r : Int} {P : Int → S9 → Prop} (v : Va n R lf rg wt lev stt ap str) (c : SyMn σ n R lf rg wt lev stt ap str) (hr : 0 ≤ r ∧ r < R) (h : P (sm9 (bl9 lf rg r) (gI σ 120) n.toNat) σ) : Cc (d + 2) mX10_less [.ref 97, .int (iI r)] σ (QI P) := by
  have hn := v.1
  have hR := v.2.1
  refine Cc_of (by decide +kernel) (fun _ => Nat.le_of_ble_eq_true rfl) rfl (lv := [_, _, _, _]) ?_
  have K : ∀ (m : Nat) (k : Int), 0 ≤ k → k + m = n → Vv (d + 2) mX10_less 4 [.ref 97, .int (iI r), .int (iI (sm9 (bl9 lf rg r) (gI σ 120) k.toNat)), .int (iI k)] [] σ (QI P) := by
    intro m
    induction m with
    | zero =>
      intro k hk hm
      refine v_iload_n dX10_less_4 rfl ?_
      refine v_aload_n dX10_less_5 rfl ?_
      refine v_getI (ji := 0) dX10_less_6 s_97 fX10_9 rfl ?_
      rw [c.1]
      refine v_icmp_ge (tgt := 34) dX10_less_9 (by decide) (by omega) (fun q9 => ?_) (fun q9 => absurd q9 (by omega))
      refine v_iload_n dX10_less_34 rfl ?_
      exact v_ireturn dX10_less_35 rfl (by rw [show k.toNat = n.toNat by omega]; exact h)
    | succ m ih =>
      intro k hk hm
      have ih := ih (k + 1) (by omega) (by omega)
      rw [show (k + 1).toNat = k.toNat + 1 by omega, sm9, show ((k.toNat : Nat) : Int) = k by omega] at ih
      refine v_iload_n dX10_less_4 rfl ?_
      refine v_aload_n dX10_less_5 rfl ?_
      refine v_getI (ji := 0) dX10_less_6 s_97 fX10_9 rfl ?_
      rw [c.1]
      refine v_icmp_ge (tgt := 34) dX10_less_9 (by decide) (by omega) (fun q9 => absurd q9 (by omega)) (fun q9 => ?_)
      refine v_iload_n dX10_less_12 rfl ?_
      refine v_aload_n dX10_less_13 rfl ?_
      refine v_iload_n dX10_less_14 rfl ?_
      refine v_iload_n dX10_less_15 rfl ?_
      refine v_callVi2 dX10_less_16 kX10_159 s_97 (Nat.le_of_ble_eq_true rfl) (c_X10_balanceOf v c hr (by omega) ?_)
      refine v_aload_n dX10_less_19 rfl ?_
      refine v_getR (k1 := 120) dX10_less_20 s_97 fX10_85 rfl ?_
      refine v_iload_n dX10_less_23 rfl ?_
      refine v_iaload dX10_less_24 s_120 (by omega) ?_
      refine v_imul dX10_less_25 ?_
      refine v_iadd dX10_less_26 ?_
      refine v_istore_n (lv' := [_, _, _, _]) dX10_less_27 (Nat.le_of_ble_eq_true rfl) rfl rfl ?_
      refine v_iinc (lv' := [_, _, _, _]) dX10_less_28 rfl (Nat.le_of_ble_eq_true rfl) rfl rfl ?_
      refine v_goto (tgt := 4) dX10_less_31 (by decide) ?_
      exact ih
  refine v_iconst dX10_less_0 ?_
  refine v_istore_n (lv' := [_, _, _, _]) dX10_less_1 (Nat.le_of_ble_eq_true rfl) rfl rfl ?_
  refine v_iconst dX10_less_2 ?_
  refine v_istore_n (lv' := [_, _, _, _]) dX10_less_3 (Nat.le_of_ble_eq_true rfl) rfl rfl ?_
  exact K n.toNat 0 (by omega) (by omega)
theorem c_X10_findWeights {lim : Int} {P : Int → S9 → Prop} (v : Va n R lf rg wt lev stt ap str) (c : SyMn σ n R lf rg wt lev stt ap str) (hl : (-2147483648 ≤ lim ∧ lim < 2147483648)) (h1 : ¬ (1 ≤ lim ∧ lim ≤ 6) → P (-1) σ) (h2 : 1 ≤ lim ∧ lim ≤ 6 → All9 (lim + 1) n.toNat (FR9 n R lf rg) → ∀ τ, eq9 (fun k => k ≠ 120) σ τ → P (-6) τ) (h3 : 1 ≤ lim ∧ lim ≤ 6 → ∀ g, Fst9 (lim + 1) n.toNat (FR9 n R lf rg) g → ∀ τ, eq9 (fun k => k ≠ 100 ∧ k ≠ 120) σ τ → (∀ x, gI τ 100 x = if 0 ≤ x ∧ x < n then g x else gI σ 100 x) → P (sm9 g (fun _ => 1) n.toNat) τ) : Cc (d + 3) mX10_findWeights [.ref 97, .int (iI lim)] σ (QI P) := by
  have hn := v.1
  have hR := v.2.1
  refine Cc_of (by decide +kernel) (fun _ => Nat.le_of_ble_eq_true rfl) rfl (lv := [_, _, _, _, _, _]) ?_
  have Kf : 1 ≤ lim ∧ lim ≤ 6 → ∀ (τ : S9) (g : Int → Int), g = gI τ 120 → Fst9 (lim + 1) n.toNat (FR9 n R lf rg) g → eq9 (fun k => k ≠ 120) σ τ → ∀ (m : Nat) (x : Int) (υ : S9), 0 ≤ x → x + m = n → υ = aI τ 100 (fun y => if 0 ≤ y ∧ y < x then g y else gI σ 100 y) → ∀ l2, Vv (d + 3) mX10_findWeights 73 [.ref 97, .int (iI lim), l2, .int (iI 1), .int (iI (sm9 g (fun _ => 1) x.toNat)), .int (iI x)] [] υ (QI P) := by
    intro hl τ g hg hF he m
    induction m with
    | zero =>
      intro x υ hx hm hu l2
      have e1 : gI υ 97 0 = n := by rw [hu, gI_aI_ne (by decide), (he 97 (by omega)).1]; exact c.1
      refine v_iload dX10_findWeights_73 rfl ?_
      refine v_aload_n dX10_findWeights_75 rfl ?_
      refine v_getI (ji := 0) dX10_findWeights_76 s_97 fX10_9 rfl ?_
      rw [e1]
      refine v_icmp_ge (tgt := 114) dX10_findWeights_79 (by decide) (by omega) (fun q79 => ?_) (fun q79 => absurd q79 (by omega))
      refine v_iload dX10_findWeights_114 rfl ?_
      refine v_ireturn dX10_findWeights_116 rfl (by
        rw [show x.toNat = n.toNat by omega]
        refine h3 hl g hF υ ?_ (fun y => ?_)
        · rw [hu]; exact (he.mono (fun k hk => by omega)).tr (eq9.aI (by omega))
        · rw [hu, gI_aI_eq, show x = n by omega])
    | succ m ih =>
      intro x υ hx hm hu l2
      have e1 : gI υ 97 0 = n := by rw [hu, gI_aI_ne (by decide), (he 97 (by omega)).1]; exact c.1
      have e2 : gI υ 120 x = g x := by rw [hu, gI_aI_ne (by decide), hg]
      have e3 : sI υ 100 x (g x) = aI τ 100 (fun y => if 0 ≤ y ∧ y < x + 1 then g y else gI σ 100 y) := by
        rw [hu]
        refine S9ext (fun k2 => ?_) (fun _ => rfl) (fun _ => rfl) (fun _ => rfl)
        by_cases e : k2 = 100
        · subst e
          rw [gI_aI_eq, gI_aI_eq, gI_aI_eq]
          funext y
          by_cases e2 : y = x
          · subst e2
            rw [up9_eq]
            exact (if_pos (by omega)).symm
          · rw [up9_ne e2]
            by_cases e3 : 0 ≤ y ∧ y < x
            · rw [if_pos e3, if_pos (by omega)]
            · rw [if_neg e3, if_neg (by omega)]
        · rw [gI_aI_ne e, gI_aI_ne e, gI_aI_ne e]
      refine v_iload dX10_findWeights_73 rfl ?_
      refine v_aload_n dX10_findWeights_75 rfl ?_
      refine v_getI (ji := 0) dX10_findWeights_76 s_97 fX10_9 rfl ?_
      rw [e1]
      refine v_icmp_ge (tgt := 114) dX10_findWeights_79 (by decide) (by omega) (fun q79 => absurd q79 (by omega)) (fun q79 => ?_)
      refine v_aload_n dX10_findWeights_82 rfl ?_
      refine v_getR (k1 := 100) dX10_findWeights_83 s_97 fX10_22 rfl ?_
      refine v_iload dX10_findWeights_86 rfl ?_
      refine v_aload_n dX10_findWeights_88 rfl ?_
      refine v_getR (k1 := 120) dX10_findWeights_89 s_97 fX10_85 rfl ?_
      refine v_iload dX10_findWeights_92 rfl ?_
      refine v_iaload dX10_findWeights_94 s_120 (by omega) ?_
      rw [e2]
      refine v_iastore dX10_findWeights_95 s_100 (by omega) ?_
      refine v_iload dX10_findWeights_96 rfl ?_
      refine v_aload_n dX10_findWeights_98 rfl ?_
      refine v_getR (k1 := 120) dX10_findWeights_99 s_97 fX10_85 rfl ?_
      refine v_iload dX10_findWeights_102 rfl ?_
      refine v_iaload dX10_findWeights_104 s_120 (by omega) ?_
      rw [gI_aI_ne (by decide), e2]
      refine v_iadd dX10_findWeights_105 ?_
      refine v_istore (lv' := [_, _, _, _, _, _]) dX10_findWeights_106 (Nat.le_of_ble_eq_true rfl) rfl rfl ?_
      refine v_iinc (lv' := [_, _, _, _, _, _]) dX10_findWeights_108 rfl (Nat.le_of_ble_eq_true rfl) rfl rfl ?_
      refine v_goto (tgt := 73) dX10_findWeights_111 (by decide) ?_
      have := ih (x + 1) _ (by omega) (by omega) e3
      rw [show (x + 1).toNat = x.toNat + 1 by omega, sm9, show ((x.toNat : Nat) : Int) = x by omega, Int.mul_one] at this
      exact this _
  have sb : ∀ (e : Int → Int) (r : Int), 0 ≤ r → r < R → 1 ≤ lim ∧ lim ≤ 6 → Dg9 (lim + 1) e n.toNat → -216 ≤ sm9 (bl9 lf rg r) e n.toNat ∧ sm9 (bl9 lf rg r) e n.toNat ≤ 216 := fun e r a b hl he => by
    have := sm9_bd (f := bl9 lf rg r) (g := e) (B := 6) (C := 6) (by decide) (by decide) n.toNat (fun x y z => ⟨v.bal ⟨a, b⟩ x, by have := he x y z; omega⟩)
    omega
  have K : 1 ≤ lim ∧ lim ≤ 6 → ∀ (fuel : Nat) (τ : S9), eq9 (fun k => k ≠ 120) σ τ → Dg9 (lim + 1) (gI τ 120) n.toNat → Non9 (lim + 1) n.toNat (FR9 n R lf rg) (val9 (lim + 1) (gI τ 120) n.toNat) → (lim + 1) ^ n.toNat - val9 (lim + 1) (gI τ 120) n.toNat ≤ fuel → ∀ l3 l4 l5, Vv (d + 3) mX10_findWeights 20 [.ref 97, .int (iI lim), .int (iI 1), l3, l4, l5] [] τ (QI P) := by
    intro hl2 fuel
    have hb : 0 < lim + 1 := by omega
    induction fuel with
    | zero =>
      intro τ he hD hN hf l3 l4 l5
      exfalso
      have := (val9_bd hb hD).2
      omega
    | succ fuel ih =>
      intro τ he hD hN hf l3 l4 l5
      have c2 := c.sou he
      have bad : ¬ FR9 n R lf rg (gI τ 120) → ∀ l4 l5, Vv (d + 3) mX10_findWeights 117 [.ref 97, .int (iI lim), .int (iI 1), .int (iI 0), l4, l5] [] τ (QI P) := by
        intro hnF l4 l5
        have hN2 := Non9.next hb hD hN (fun e he2 hk hFe => hnF (fun r a b => by rw [← sm9_congr (f := bl9 lf rg r) (f' := bl9 lf rg r) (g := e) (g' := gI τ 120) n.toNat (fun x y z => ⟨rfl, hk x y z⟩)]; exact hFe r a b))
        refine v_aload_n dX10_findWeights_117 rfl ?_
        refine v_aload_n dX10_findWeights_118 rfl ?_
        refine v_getI (ji := 0) dX10_findWeights_119 s_97 fX10_9 rfl ?_
        rw [c2.1]
        refine v_iload_n dX10_findWeights_122 rfl ?_
        refine v_iconst dX10_findWeights_123 ?_
        refine v_iadd dX10_findWeights_124 ?_
        refine v_callVi2 dX10_findWeights_125 kX10_186 s_97 (Nat.le_of_ble_eq_true rfl) (c_X10_next (by omega) (by omega) hD (fun υ u1 u2 u3 => ?_) (fun u1 υ u2 => ?_))
        · refine v_istore_n (lv' := [_, _, _, _, _, _]) dX10_findWeights_128 (Nat.le_of_ble_eq_true rfl) rfl rfl ?_
          refine v_goto (tgt := 20) dX10_findWeights_129 (by decide) ?_
          exact ih υ (he.tr u1) u2 (by rw [u3]; exact hN2) (by rw [u3]; omega) _ _ _
        · have hA : All9 (lim + 1) n.toNat (FR9 n R lf rg) := fun e he2 => hN2 e he2 (by rw [u1]; exact (val9_bd hb he2).2)
          refine v_istore_n (lv' := [_, _, _, _, _, _]) dX10_findWeights_128 (Nat.le_of_ble_eq_true rfl) rfl rfl ?_
          refine v_goto (tgt := 20) dX10_findWeights_129 (by decide) ?_
          refine v_iload_n dX10_findWeights_20 rfl ?_
          refine v_if_eq (tgt := 132) dX10_findWeights_21 (by decide) (by decide) (fun q21 => ?_) (fun q21 => absurd rfl q21)
          refine v_bipush dX10_findWeights_132 (by decide) ?_
          exact v_ireturn dX10_findWeights_134 rfl (h2 hl2 hA υ (he.tr u2))
      have KB : ∀ (r : Int), 0 ≤ r → r ≤ R → ¬ FR9 n R lf rg (gI τ 120) → ∀ l5, Vv (d + 3) mX10_findWeights 29 [.ref 97, .int (iI lim), .int (iI 1), .int (iI 0), .int (iI r), l5] [] τ (QI P) := by
        intro r hr hrR hnF l5
        refine v_iload dX10_findWeights_29 rfl ?_
        refine v_aload_n dX10_findWeights_31 rfl ?_
        refine v_getI (ji := 1) dX10_findWeights_32 s_97 fX10_119 rfl ?_
        rw [c2.2.1]
        refine v_icmp_ge (tgt := 63) dX10_findWeights_35 (by decide) (by omega) (fun q35 => ?_) (fun q35 => ?_)
        · refine v_iload_n dX10_findWeights_63 rfl ?_
          refine v_if_eq (tgt := 117) dX10_findWeights_64 (by decide) (by decide) (fun q64 => ?_) (fun q64 => absurd rfl q64)
          exact bad hnF _ _
        · refine v_iload_n dX10_findWeights_38 rfl ?_
          refine v_if_eq (tgt := 63) dX10_findWeights_39 (by decide) (by decide) (fun q39 => ?_) (fun q39 => absurd rfl q39)
          refine v_iload_n dX10_findWeights_63 rfl ?_
          refine v_if_eq (tgt := 117) dX10_findWeights_64 (by decide) (by decide) (fun q64 => ?_) (fun q64 => absurd rfl q64)
          exact bad hnF _ _
      have K2 : ∀ (m : Nat) (r : Int), 0 ≤ r → r + m = R → (∀ s, 0 ≤ s → s < r → 0 < sm9 (bl9 lf rg s) (gI τ 120) n.toNat) → ∀ l5, Vv (d + 3) mX10_findWeights 29 [.ref 97, .int (iI lim), .int (iI 1), .int (iI 1), .int (iI r), l5] [] τ (QI P) := by
        intro m
        induction m with
        | zero =>
          intro r hr hm hI l5
          have e0 : τ = aI τ 100 (fun y => if 0 ≤ y ∧ y < (0 : Int) then gI τ 120 y else gI σ 100 y) := by
            have q : (fun y => if 0 ≤ y ∧ y < (0 : Int) then gI τ 120 y else gI σ 100 y) = gI τ 100 := by
              funext y; rw [if_neg (by omega), (he 100 (by omega)).1]
            rw [q, aI_id]
          refine v_iload dX10_findWeights_29 rfl ?_
          refine v_aload_n dX10_findWeights_31 rfl ?_
          refine v_getI (ji := 1) dX10_findWeights_32 s_97 fX10_119 rfl ?_
          rw [c2.2.1]
          refine v_icmp_ge (tgt := 63) dX10_findWeights_35 (by decide) (by omega) (fun q35 => ?_) (fun q35 => absurd q35 (by omega))
          refine v_iload_n dX10_findWeights_63 rfl ?_
          refine v_if_eq (tgt := 117) dX10_findWeights_64 (by decide) (by decide) (fun q64 => absurd q64 (by decide)) (fun q64 => ?_)
          refine v_iconst dX10_findWeights_67 ?_
          refine v_istore (lv' := [_, _, _, _, _, _]) dX10_findWeights_68 (Nat.le_of_ble_eq_true rfl) rfl rfl ?_
          refine v_iconst dX10_findWeights_70 ?_
          refine v_istore (lv' := [_, _, _, _, _, _]) dX10_findWeights_71 (Nat.le_of_ble_eq_true rfl) rfl rfl ?_
          exact Kf hl2 τ _ rfl ⟨hD, fun s a b => hI s a (by omega), hN⟩ he n.toNat 0 τ (by omega) (by omega) e0 _
        | succ m ih2 =>
          intro r hr hm hI l5
          have sbr := sb (gI τ 120) r hr (by omega) hl2 hD
          refine v_iload dX10_findWeights_29 rfl ?_
          refine v_aload_n dX10_findWeights_31 rfl ?_
          refine v_getI (ji := 1) dX10_findWeights_32 s_97 fX10_119 rfl ?_
          rw [c2.2.1]
          refine v_icmp_ge (tgt := 63) dX10_findWeights_35 (by decide) (by omega) (fun q35 => absurd q35 (by omega)) (fun q35 => ?_)
          refine v_iload_n dX10_findWeights_38 rfl ?_
          refine v_if_eq (tgt := 63) dX10_findWeights_39 (by decide) (by decide) (fun q39 => absurd q39 (by decide)) (fun q39 => ?_)
          refine v_aload_n dX10_findWeights_42 rfl ?_
          refine v_iload dX10_findWeights_43 rfl ?_
          refine v_callVi1 dX10_findWeights_45 kX10_183 s_97 (Nat.le_of_ble_eq_true rfl) (c_X10_less v c2 ⟨hr, by omega⟩ ?_)
          refine v_if_le (tgt := 55) dX10_findWeights_48 (by decide) (by omega) (fun q48 => ?_) (fun q48 => ?_)
          · refine v_iconst dX10_findWeights_55 ?_
            refine v_istore_n (lv' := [_, _, _, _, _, _]) dX10_findWeights_56 (Nat.le_of_ble_eq_true rfl) rfl rfl ?_
            refine v_iinc (lv' := [_, _, _, _, _, _]) dX10_findWeights_57 rfl (Nat.le_of_ble_eq_true rfl) rfl rfl ?_
            refine v_goto (tgt := 29) dX10_findWeights_60 (by decide) ?_
            first
            | exact ih2 (r + 1) (by omega) (by omega) (fun s a b => if e : s = r then (by rw [e]; exact q48) else hI s a (by omega)) _
            | exact KB (r + 1) (by omega) (by omega) (fun hF => by have := hF r hr (by omega); omega) _
          · refine v_iconst dX10_findWeights_51 ?_
            refine v_goto (tgt := 56) dX10_findWeights_52 (by decide) ?_
            refine v_istore_n (lv' := [_, _, _, _, _, _]) dX10_findWeights_56 (Nat.le_of_ble_eq_true rfl) rfl rfl ?_
            refine v_iinc (lv' := [_, _, _, _, _, _]) dX10_findWeights_57 rfl (Nat.le_of_ble_eq_true rfl) rfl rfl ?_
            refine v_goto (tgt := 29) dX10_findWeights_60 (by decide) ?_
            first
            | exact ih2 (r + 1) (by omega) (by omega) (fun s a b => if e : s = r then (by rw [e]; exact q48) else hI s a (by omega)) _
            | exact KB (r + 1) (by omega) (by omega) (fun hF => by have := hF r hr (by omega); omega) _
      refine v_iload_n dX10_findWeights_20 rfl ?_
      refine v_if_eq (tgt := 132) dX10_findWeights_21 (by decide) (by decide) (fun q21 => absurd q21 (by decide)) (fun q21 => ?_)
      refine v_iconst dX10_findWeights_24 ?_
      refine v_istore_n (lv' := [_, _, _, _, _, _]) dX10_findWeights_25 (Nat.le_of_ble_eq_true rfl) rfl rfl ?_
      refine v_iconst dX10_findWeights_26 ?_
      refine v_istore (lv' := [_, _, _, _, _, _]) dX10_findWeights_27 (Nat.le_of_ble_eq_true rfl) rfl rfl ?_
      exact K2 R.toNat 0 (by omega) (by omega) (fun s a b => by omega) _
  refine v_iload_n dX10_findWeights_0 rfl ?_
  refine v_i2l dX10_findWeights_1 (by omega) ?_
  refine v_lconst1 dX10_findWeights_2 ?_
  refine v_ldc2 dX10_findWeights_3 wX10_122 ?_
  refine v_callSi3 dX10_findWeights_6 kX10_115 (Nat.le_of_ble_eq_true rfl) (c_X10_in (by omega) (by omega) (by omega) (fun z => ?_) (fun z => ?_))
  · refine v_if_ne (tgt := 14) dX10_findWeights_9 (by decide) (by decide) (fun q9 => ?_) (fun q9 => absurd q9 (by decide))
    refine v_aload_n dX10_findWeights_14 rfl ?_
    refine v_callVv0 dX10_findWeights_15 kX10_180 s_97 (Nat.le_of_ble_eq_true rfl) (c_X10_begin (fun τ e1 e2 => ?_))
    refine v_iconst dX10_findWeights_18 ?_
    refine v_istore_n (lv' := [_, _, _, _, _, _]) dX10_findWeights_19 (Nat.le_of_ble_eq_true rfl) rfl rfl ?_
    have hb : 0 < lim + 1 := by omega
    have e0 : val9 (lim + 1) (gI τ 120) n.toNat = 0 := by
      have := val9_zero (b := lim + 1) (e := gI τ 120) 0 n.toNat (fun k a b => e2 k (by omega) (by omega))
      rw [Nat.zero_add, val9, Int.zero_mul] at this
      exact this
    exact K (by omega) ((lim + 1) ^ n.toNat).toNat τ e1 (fun k a b => by rw [e2 k a (by omega)]; omega) (fun e he hl => by rw [e0] at hl; have := val9_bd hb he; omega) (by rw [e0]; have := pow9 hb n.toNat; omega) _ _ _
  · refine v_if_ne (tgt := 14) dX10_findWeights_9 (by decide) (by decide) (fun q9 => absurd q9 (by decide)) (fun q9 => ?_)
    refine v_iconst dX10_findWeights_12 ?_
    exact v_ireturn dX10_findWeights_13 rfl (h1 (by omega))
end
