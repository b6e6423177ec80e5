section
variable {d : Nat} {n R : Int} {lf rg : Int → List Int} {wt lev : Int → Int} {stt : Int} {ap : Int → UInt32} {str : List Int} {σ : S9}
theorem c_X2_mayBeAdmissible {c wl : Int} {P : Int → S9 → Prop} (hc : 1 ≤ c ∧ c ≤ 6) (g3 : gI σ 75 3 = wl) (hwl : -1 ≤ wl ∧ wl < 6) (hD : ∀ k, 0 ≤ k → k < c → 0 ≤ gI σ 76 k ∧ gI σ 76 k ≤ 100) (h0 : 0 ≤ wl → wl < c → (∃ y, 0 ≤ y ∧ y < c ∧ y ≠ wl ∧ gI σ 76 wl ≤ gI σ 76 y) → P 0 σ) (h1 : (0 ≤ wl → wl < c → ∀ y, 0 ≤ y → y < c → y ≠ wl → gI σ 76 y < gI σ 76 wl) → P 1 σ) : Cc d mX2_mayBeAdmissible [.ref 75, .int (iI c)] σ (QI P) := by
  refine Cc_of (by decide +kernel) (fun _ => Nat.le_of_ble_eq_true rfl) rfl (lv := [_, _, _]) ?_
  have K : 0 ≤ wl → wl < c → ∀ (m : Nat) (x : Int), 0 ≤ x → x + m = c → (∀ y, 0 ≤ y → y < x → y ≠ wl → gI σ 76 y < gI σ 76 wl) → Vv d mX2_mayBeAdmissible 19 [.ref 75, .int (iI c), .int (iI x)] [] σ (QI P) := by
    intro w0 w1 m
    have hDw := hD wl w0 w1
    induction m with
    | zero =>
      intro x hx hm hy
      refine v_iload_n dX2_mayBeAdmissible_19 rfl ?_
      refine v_iload_n dX2_mayBeAdmissible_20 rfl ?_
      refine v_icmp_ge (tgt := 58) dX2_mayBeAdmissible_21 (by decide) (by omega) (fun q21 => ?_) (fun q21 => absurd q21 (by omega))
      refine v_iconst dX2_mayBeAdmissible_58 ?_
      exact v_zreturn dX2_mayBeAdmissible_59 rfl (by decide) (h1 (fun _ _ y a b => hy y a (by omega)))
    | succ m ih =>
      intro x hx hm hy
      have hDx := hD x hx (by omega)
      refine v_iload_n dX2_mayBeAdmissible_19 rfl ?_
      refine v_iload_n dX2_mayBeAdmissible_20 rfl ?_
      refine v_icmp_ge (tgt := 58) dX2_mayBeAdmissible_21 (by decide) (by omega) (fun q21 => absurd q21 (by omega)) (fun q21 => ?_)
      refine v_iload_n dX2_mayBeAdmissible_24 rfl ?_
      refine v_aload_n dX2_mayBeAdmissible_25 rfl ?_
      refine v_getI (ji := 3) dX2_mayBeAdmissible_26 s_75 fX2_41 rfl ?_
      rw [g3]
      refine v_icmp_eq (tgt := 52) dX2_mayBeAdmissible_29 (by decide) (by omega) (fun q29 => ?_) (fun q29 => ?_)
      · refine v_iinc (lv' := [_, _, _]) dX2_mayBeAdmissible_52 rfl (Nat.le_of_ble_eq_true rfl) rfl rfl ?_
        refine v_goto (tgt := 19) dX2_mayBeAdmissible_55 (by decide) ?_
        exact ih (x + 1) (by omega) (by omega) (fun y a b e => if q : y = x then (by rw [q] at e ⊢; first | exact absurd q29 e | exact q47) else hy y a (by omega) e)
      · refine v_aload_n dX2_mayBeAdmissible_32 rfl ?_
        refine v_getR (k1 := 76) dX2_mayBeAdmissible_33 s_75 fX2_59 rfl ?_
        refine v_iload_n dX2_mayBeAdmissible_36 rfl ?_
        refine v_iaload dX2_mayBeAdmissible_37 s_76 (by omega) ?_
        refine v_aload_n dX2_mayBeAdmissible_38 rfl ?_
        refine v_getR (k1 := 76) dX2_mayBeAdmissible_39 s_75 fX2_59 rfl ?_
        refine v_aload_n dX2_mayBeAdmissible_42 rfl ?_
        refine v_getI (ji := 3) dX2_mayBeAdmissible_43 s_75 fX2_41 rfl ?_
        rw [g3]
        refine v_iaload dX2_mayBeAdmissible_46 s_76 (by omega) ?_
        refine v_icmp_lt (tgt := 52) dX2_mayBeAdmissible_47 (by decide) (by omega) (fun q47 => ?_) (fun q47 => ?_)
        · refine v_iinc (lv' := [_, _, _]) dX2_mayBeAdmissible_52 rfl (Nat.le_of_ble_eq_true rfl) rfl rfl ?_
          refine v_goto (tgt := 19) dX2_mayBeAdmissible_55 (by decide) ?_
          exact ih (x + 1) (by omega) (by omega) (fun y a b e => if q : y = x then (by rw [q] at e ⊢; first | exact absurd q29 e | exact q47) else hy y a (by omega) e)
        · refine v_iconst dX2_mayBeAdmissible_50 ?_
          exact v_zreturn dX2_mayBeAdmissible_51 rfl (by decide) (h0 w0 w1 ⟨x, hx, by omega, q29, q47⟩)
  refine v_aload_n dX2_mayBeAdmissible_0 rfl ?_
  refine v_getI (ji := 3) dX2_mayBeAdmissible_1 s_75 fX2_41 rfl ?_
  rw [g3]
  refine v_if_lt (tgt := 15) dX2_mayBeAdmissible_4 (by decide) (by omega) (fun q4 => ?_) (fun q4 => ?_)
  · refine v_iconst dX2_mayBeAdmissible_15 ?_
    exact v_zreturn dX2_mayBeAdmissible_16 rfl (by decide) (h1 (fun a b => by omega))
  · refine v_aload_n dX2_mayBeAdmissible_7 rfl ?_
    refine v_getI (ji := 3) dX2_mayBeAdmissible_8 s_75 fX2_41 rfl ?_
    rw [g3]
    refine v_iload_n dX2_mayBeAdmissible_11 rfl ?_
    refine v_icmp_lt (tgt := 17) dX2_mayBeAdmissible_12 (by decide) (by omega) (fun q12 => ?_) (fun q12 => ?_)
    · refine v_iconst dX2_mayBeAdmissible_17 ?_
      refine v_istore_n (lv' := [_, _, _]) dX2_mayBeAdmissible_18 (Nat.le_of_ble_eq_true rfl) rfl rfl ?_
      exact K (by omega) (by omega) c.toNat 0 (by omega) (by omega) (fun y a b => by omega)
    · refine v_iconst dX2_mayBeAdmissible_15 ?_
      exact v_zreturn dX2_mayBeAdmissible_16 rfl (by decide) (h1 (fun a b => by omega))
theorem c_X2_mayOrient {c stt : Int} {a b : List Int} {P : Int → S9 → Prop} (hc : 1 ≤ c ∧ c ≤ 6) (hs : 0 ≤ stt ∧ stt ≤ 1) (g2 : gI σ 75 2 = stt) (ha : OkL 6 6 a) (hb : OkL 6 6 b) (hD : ∀ k, 0 ≤ k → k < c → 0 ≤ gI σ 76 k ∧ gI σ 76 k ≤ 100) (h0 : (∀ e : Int → Int, (∀ k, 0 ≤ k → k < c → e k = gI σ 76 k) → ¬ or9 e stt a b) → P 0 σ) (h1 : ((∀ x ∈ a, x < c) → (∀ x ∈ b, x < c) → or9 (gI σ 76) stt a b) → P 1 σ) : Cc (d + 2) mX2_mayOrient [.ref 75, .long (lI (encW a)), .long (lI (encW b)), .int (iI c)] σ (QI P) := by
  have sa := ha.st (by decide) (by decide)
  have sb := hb.st (by decide) (by decide)
  have la := ha.2
  have lb := hb.2
  have mn : ((min a.length b.length : Nat) : Int) = min (a.length : Int) b.length := by omega
  refine Cc_of (by decide +kernel) (fun _ => Nat.le_of_ble_eq_true rfl) rfl (lv := [_, _, _, _, _, _, _, _, _, _]) ?_
  have K : ∀ (m : Nat) (k : Int), 0 ≤ k → k + m = min (a.length : Int) b.length → (∀ e : Int → Int, (∀ k, 0 ≤ k → k < c → e k = gI σ 76 k) → dif9 e stt a b (min a.length b.length) 0 = dif9 e stt a b m k) → ∀ l8 l9, Vv (d + 2) mX2_mayOrient 16 [.ref 75, .long (lI (encW a)), .null, .long (lI (encW b)), .null, .int (iI c), .int (iI (min (a.length : Int) b.length)), .int (iI k), l8, l9] [] σ (QI P) := by
    intro m
    induction m with
    | zero =>
      intro k hk hm hI l8 l9
      refine v_iload dX2_mayOrient_16 rfl ?_
      refine v_iload dX2_mayOrient_18 rfl ?_
      refine v_icmp_ge (tgt := 119) dX2_mayOrient_20 (by decide) (by omega) (fun q20 => ?_) (fun q20 => absurd q20 (by omega))
      refine v_lload_n dX2_mayOrient_119 rfl ?_
      refine v_callSi1 dX2_mayOrient_120 kX2_63 (Nat.le_of_ble_eq_true rfl) (c_X8_sizeOf sa ?_)
      refine v_lload_n dX2_mayOrient_123 rfl ?_
      refine v_callSi1 dX2_mayOrient_124 kX2_63 (Nat.le_of_ble_eq_true rfl) (c_X8_sizeOf sb ?_)
      refine v_icmp_le (tgt := 134) dX2_mayOrient_127 (by decide) (by omega) (fun q127 => ?_) (fun q127 => ?_)
      · refine v_iconst dX2_mayOrient_134 ?_
        exact v_zreturn dX2_mayOrient_135 rfl (by decide) (by first
        | exact h0 (fun e he hF => by unfold or9 at hF; rw [hI e he, dif9, els9_z rfl] at hF; omega)
        | exact h1 (fun _ _ => by unfold or9; rw [hI _ (fun k _ _ => rfl), dif9, els9_z rfl]; omega))
      · refine v_iconst dX2_mayOrient_130 ?_
        refine v_goto (tgt := 135) dX2_mayOrient_131 (by decide) ?_
        exact v_zreturn dX2_mayOrient_135 rfl (by decide) (by first
        | exact h0 (fun e he hF => by unfold or9 at hF; rw [hI e he, dif9, els9_z rfl] at hF; omega)
        | exact h1 (fun _ _ => by unfold or9; rw [hI _ (fun k _ _ => rfl), dif9, els9_z rfl]; omega))
    | succ m ih =>
      intro k hk hm hI l8 l9
      have fa := fr9_in ha.1 stt (k := k) (by omega)
      have fb := fr9_in hb.1 stt (k := k) (by omega)
      have ma : fr9 stt a k ∈ a := by unfold fr9; split <;> exact at9_mem (by omega)
      have mb : fr9 stt b k ∈ b := by unfold fr9; split <;> exact at9_mem (by omega)
      refine v_iload dX2_mayOrient_16 rfl ?_
      refine v_iload dX2_mayOrient_18 rfl ?_
      refine v_icmp_ge (tgt := 119) dX2_mayOrient_20 (by decide) (by omega) (fun q20 => absurd q20 (by omega)) (fun q20 => ?_)
      refine v_lload_n dX2_mayOrient_23 rfl ?_
      refine v_iload dX2_mayOrient_24 rfl ?_
      refine v_aload_n dX2_mayOrient_26 rfl ?_
      refine v_getI (ji := 2) dX2_mayOrient_27 s_75 fX2_44 rfl ?_
      rw [g2]
      refine v_callSi3 dX2_mayOrient_30 kX2_75 (Nat.le_of_ble_eq_true rfl) (c_X8_letterFrom sa (by omega) hs ?_)
      refine v_istore (lv' := [_, _, _, _, _, _, _, _, _, _]) dX2_mayOrient_33 (Nat.le_of_ble_eq_true rfl) rfl rfl ?_
      refine v_lload_n dX2_mayOrient_35 rfl ?_
      refine v_iload dX2_mayOrient_36 rfl ?_
      refine v_aload_n dX2_mayOrient_38 rfl ?_
      refine v_getI (ji := 2) dX2_mayOrient_39 s_75 fX2_44 rfl ?_
      rw [g2]
      refine v_callSi3 dX2_mayOrient_42 kX2_75 (Nat.le_of_ble_eq_true rfl) (c_X8_letterFrom sb (by omega) hs ?_)
      refine v_istore (lv' := [_, _, _, _, _, _, _, _, _, _]) dX2_mayOrient_45 (Nat.le_of_ble_eq_true rfl) rfl rfl ?_
      refine v_iload dX2_mayOrient_47 rfl ?_
      refine v_iload dX2_mayOrient_49 rfl ?_
      refine v_icmp_ne (tgt := 57) dX2_mayOrient_51 (by decide) (by omega) (fun q51 => ?_) (fun q51 => ?_)
      · refine v_iload dX2_mayOrient_57 rfl ?_
        refine v_iload dX2_mayOrient_59 rfl ?_
        refine v_icmp_ge (tgt := 71) dX2_mayOrient_61 (by decide) (by omega) (fun q61 => ?_) (fun q61 => ?_)
        · refine v_iconst dX2_mayOrient_71 ?_
          exact v_zreturn dX2_mayOrient_72 rfl (by decide) (h1 (fun z1 z2 => by have y1 := z1 _ ma; have y2 := z2 _ mb; omega))
        · refine v_iload dX2_mayOrient_64 rfl ?_
          refine v_iload dX2_mayOrient_66 rfl ?_
          refine v_icmp_lt (tgt := 73) dX2_mayOrient_68 (by decide) (by omega) (fun q68 => ?_) (fun q68 => ?_)
          · have Da := hD _ fa.1 q61
            have Db := hD _ fb.1 q68
            have hstep : ∀ e : Int → Int, (∀ k, 0 ≤ k → k < c → e k = gI σ 76 k) → gI σ 76 (fr9 stt a k) ≠ gI σ 76 (fr9 stt b k) → dif9 e stt a b (min a.length b.length) 0 = gI σ 76 (fr9 stt a k) - gI σ 76 (fr9 stt b k) := fun e he hne => by rw [hI e he, dif9, he _ fa.1 q61, he _ fb.1 q68, if_pos (by omega)]
            refine v_aload_n dX2_mayOrient_73 rfl ?_
            refine v_getR (k1 := 76) dX2_mayOrient_74 s_75 fX2_59 rfl ?_
            refine v_iload dX2_mayOrient_77 rfl ?_
            refine v_iaload dX2_mayOrient_79 s_76 (by omega) ?_
            refine v_aload_n dX2_mayOrient_80 rfl ?_
            refine v_getR (k1 := 76) dX2_mayOrient_81 s_75 fX2_59 rfl ?_
            refine v_iload dX2_mayOrient_84 rfl ?_
            refine v_iaload dX2_mayOrient_86 s_76 (by omega) ?_
            refine v_icmp_eq (tgt := 113) dX2_mayOrient_87 (by decide) (by omega) (fun q87 => ?_) (fun q87 => ?_)
            · refine v_iinc (lv' := [_, _, _, _, _, _, _, _, _, _]) dX2_mayOrient_113 rfl (Nat.le_of_ble_eq_true rfl) rfl rfl ?_
              refine v_goto (tgt := 16) dX2_mayOrient_116 (by decide) ?_
              refine ih (k + 1) (by omega) (by omega) (fun e he => ?_) _ _
              rw [hI e he, dif9]
              first
              | (rw [q51]; exact if_neg (by omega))
              | (rw [he _ fa.1 q61, he _ fb.1 q68]; exact if_neg (by omega))
            · refine v_aload_n dX2_mayOrient_90 rfl ?_
              refine v_getR (k1 := 76) dX2_mayOrient_91 s_75 fX2_59 rfl ?_
              refine v_iload dX2_mayOrient_94 rfl ?_
              refine v_iaload dX2_mayOrient_96 s_76 (by omega) ?_
              refine v_aload_n dX2_mayOrient_97 rfl ?_
              refine v_getR (k1 := 76) dX2_mayOrient_98 s_75 fX2_59 rfl ?_
              refine v_iload dX2_mayOrient_101 rfl ?_
              refine v_iaload dX2_mayOrient_103 s_76 (by omega) ?_
              refine v_icmp_le (tgt := 111) dX2_mayOrient_104 (by decide) (by omega) (fun q104 => ?_) (fun q104 => ?_)
              · refine v_iconst dX2_mayOrient_111 ?_
                exact v_zreturn dX2_mayOrient_112 rfl (by decide) (by first
        | exact h0 (fun e he hF => by unfold or9 at hF; rw [hstep e he q87, els9_ne (by omega)] at hF; omega)
        | exact h1 (fun _ _ => by unfold or9; rw [hstep _ (fun k _ _ => rfl) q87, els9_ne (by omega)]; omega))
              · refine v_iconst dX2_mayOrient_107 ?_
                refine v_goto (tgt := 112) dX2_mayOrient_108 (by decide) ?_
                exact v_zreturn dX2_mayOrient_112 rfl (by decide) (by first
        | exact h0 (fun e he hF => by unfold or9 at hF; rw [hstep e he q87, els9_ne (by omega)] at hF; omega)
        | exact h1 (fun _ _ => by unfold or9; rw [hstep _ (fun k _ _ => rfl) q87, els9_ne (by omega)]; omega))
          · refine v_iconst dX2_mayOrient_71 ?_
            exact v_zreturn dX2_mayOrient_72 rfl (by decide) (h1 (fun z1 z2 => by have y1 := z1 _ ma; have y2 := z2 _ mb; omega))
      · refine v_goto (tgt := 113) dX2_mayOrient_54 (by decide) ?_
        refine v_iinc (lv' := [_, _, _, _, _, _, _, _, _, _]) dX2_mayOrient_113 rfl (Nat.le_of_ble_eq_true rfl) rfl rfl ?_
        refine v_goto (tgt := 16) dX2_mayOrient_116 (by decide) ?_
        refine ih (k + 1) (by omega) (by omega) (fun e he => ?_) _ _
        rw [hI e he, dif9]
        first
        | (rw [q51]; exact if_neg (by omega))
        | (rw [he _ fa.1 q61, he _ fb.1 q68]; exact if_neg (by omega))
  refine v_lload_n dX2_mayOrient_0 rfl ?_
  refine v_callSi1 dX2_mayOrient_1 kX2_63 (Nat.le_of_ble_eq_true rfl) (c_X8_sizeOf sa ?_)
  refine v_lload_n dX2_mayOrient_4 rfl ?_
  refine v_callSi1 dX2_mayOrient_5 kX2_63 (Nat.le_of_ble_eq_true rfl) (c_X8_sizeOf sb ?_)
  refine v_mmin dX2_mayOrient_8 mmX2_69 (by omega) (Nat.le_of_ble_eq_true rfl) ?_
  refine v_istore (lv' := [_, _, _, _, _, _, _, _, _, _]) dX2_mayOrient_11 (Nat.le_of_ble_eq_true rfl) rfl rfl ?_
  refine v_iconst dX2_mayOrient_13 ?_
  refine v_istore (lv' := [_, _, _, _, _, _, _, _, _, _]) dX2_mayOrient_14 (Nat.le_of_ble_eq_true rfl) rfl rfl ?_
  exact K (min a.length b.length) 0 (by omega) (by omega) (fun _ _ => rfl) _ _
theorem c_X2_mayFit {wt' ix : Int → Int} {T wl c s : Int} {Q : Int → S9 → Prop} (v : Va n R lf rg wt lev stt ap str) (hs : 0 ≤ s ∧ s ≤ 1) (g2 : gI σ 75 2 = s) (L : Lev9 σ wt' n R lf rg T wl ix) (hc : 1 ≤ c ∧ c ≤ n) (hD : Dg9 (n - 1 + 1) (gI σ 76) c.toNat) (h0 : (∀ e, (∀ k, 0 ≤ k → k < c → e k = gI σ 76 k) → ¬ FV9 wt' s n R lf rg e) → Q 0 σ) (h1 : (c = n → FV9 wt' s n R lf rg (gI σ 76)) → Q 1 σ) : Cc (d + 4) mX2_mayFit [.ref 75, .int (iI c)] σ (QI Q) := by
  have hn := v.1
  have hR := v.2.1
  obtain ⟨L1, L3, L4, LT, Lp, Li, Lx, Lw⟩ := L
  have hDb : ∀ k, 0 ≤ k → k < c → 0 ≤ gI σ 76 k ∧ gI σ 76 k ≤ 100 := fun k a b => by have := hD k a (by omega); omega
  have eb : ∀ r, 0 ≤ r → r < R → sm9 wt' (bl9 lf rg r) n.toNat = wt9 wt' (lf r) - wt9 wt' (rg r) := fun r a b => sm9_bal (v.2.2.1 r a b).1.1 (v.2.2.1 r a b).2.2.1
  have ok6 : ∀ xs, OkL n 6 xs → OkL 6 6 xs := fun xs h => ⟨fun x hx => by have := h.1 x hx; omega, h.2⟩
  refine Cc_of (by decide +kernel) (fun _ => Nat.le_of_ble_eq_true rfl) rfl (lv := [_, _, _]) ?_
  have K : (0 ≤ wl → wl < c → ∀ y, 0 ≤ y → y < c → y ≠ wl → gI σ 76 y < gI σ 76 wl) → ∀ (m : Nat) (i : Int), 0 ≤ i → i + m = T → (∀ j, 0 ≤ j → j < i → c = n → or9 (gI σ 76) s (lf (ix j)) (rg (ix j))) → Vv (d + 4) mX2_mayFit 12 [.ref 75, .int (iI c), .int (iI i)] [] σ (QI Q) := by
    intro hadm m
    induction m with
    | zero =>
      intro i hi hm hj
      refine v_iload_n dX2_mayFit_12 rfl ?_
      refine v_aload_n dX2_mayFit_13 rfl ?_
      refine v_getI (ji := 4) dX2_mayFit_14 s_75 fX2_25 rfl ?_
      rw [L4]
      refine v_icmp_ge (tgt := 48) dX2_mayFit_17 (by decide) (by omega) (fun q17 => ?_) (fun q17 => absurd q17 (by omega))
      refine v_iconst dX2_mayFit_48 ?_
      refine v_zreturn dX2_mayFit_49 rfl (by decide) (h1 (fun ec => by
        refine ⟨?_, fun r a b => ?_⟩
        · rcases Lw with ⟨z, _⟩ | ⟨z, z1, z2, z3⟩
          · exact Or.inl z
          · refine Or.inr ⟨z, fun x a b e y a2 b2 e2 => ?_⟩
            have := z3 x a b e
            subst this
            exact hadm z1.1 (by omega) y a2 (by omega) e2
        · by_cases e : sm9 wt' (bl9 lf rg r) n.toNat = 0
          · obtain ⟨j, j0, j1, j2⟩ := Lx r a b e
            have h9 := hj j j0 (by omega) ec
            rw [j2] at h9
            exact (cmp9_or (by rw [← eb r a b]; exact e)).mpr h9
          · exact cmp9_hi (by have := Lp r a b; rw [← eb r a b]; omega)))
    | succ m ih =>
      intro i hi hm hj
      have hL := Li i hi (by omega)
      have oa := (v.2.2.1 (ix i) hL.1.1 hL.1.2).1
      have ob := (v.2.2.1 (ix i) hL.1.1 hL.1.2).2.2
      refine v_iload_n dX2_mayFit_12 rfl ?_
      refine v_aload_n dX2_mayFit_13 rfl ?_
      refine v_getI (ji := 4) dX2_mayFit_14 s_75 fX2_25 rfl ?_
      rw [L4]
      refine v_icmp_ge (tgt := 48) dX2_mayFit_17 (by decide) (by omega) (fun q17 => absurd q17 (by omega)) (fun q17 => ?_)
      refine v_aload_n dX2_mayFit_20 rfl ?_
      refine v_aload_n dX2_mayFit_21 rfl ?_
      refine v_getR (k1 := 77) dX2_mayFit_22 s_75 fX2_9 rfl ?_
      refine v_iload_n dX2_mayFit_25 rfl ?_
      refine v_laload dX2_mayFit_26 s_77 (by omega) ?_
      rw [hL.2.2.1]
      refine v_aload_n dX2_mayFit_27 rfl ?_
      refine v_getR (k1 := 78) dX2_mayFit_28 s_75 fX2_15 rfl ?_
      refine v_iload_n dX2_mayFit_31 rfl ?_
      refine v_laload dX2_mayFit_32 s_78 (by omega) ?_
      rw [hL.2.2.2]
      refine v_iload_n dX2_mayFit_33 rfl ?_
      refine v_callVi3 dX2_mayFit_34 kX2_55 s_75 (Nat.le_of_ble_eq_true rfl) (c_X2_mayOrient (by omega) hs g2 (ok6 _ oa) (ok6 _ ob) hDb (fun z => ?_) (fun z => ?_))
      · refine v_if_ne (tgt := 42) dX2_mayFit_37 (by decide) (by decide) (fun q37 => absurd q37 (by decide)) (fun q37 => ?_)
        refine v_iconst dX2_mayFit_40 ?_
        exact v_zreturn dX2_mayFit_41 rfl (by decide) (h0 (fun e he hF => z e he ((cmp9_or (by rw [← eb _ hL.1.1 hL.1.2]; exact hL.2.1)).mp (hF.2 _ hL.1.1 hL.1.2))))
      · refine v_if_ne (tgt := 42) dX2_mayFit_37 (by decide) (by decide) (fun q37 => ?_) (fun q37 => absurd q37 (by decide))
        refine v_iinc (lv' := [_, _, _]) dX2_mayFit_42 rfl (Nat.le_of_ble_eq_true rfl) rfl rfl ?_
        refine v_goto (tgt := 12) dX2_mayFit_45 (by decide) ?_
        exact ih (i + 1) (by omega) (by omega) (fun j a b ec => if q : j = i then (by rw [q]; exact z (fun x hx => by have := oa.1 x hx; omega) (fun x hx => by have := ob.1 x hx; omega)) else hj j a (by omega) ec)
  have hwl : -1 ≤ wl ∧ wl < n := by rcases Lw with ⟨_, z⟩ | ⟨_, z, _⟩ <;> omega
  refine v_aload_n dX2_mayFit_0 rfl ?_
  refine v_iload_n dX2_mayFit_1 rfl ?_
  refine v_callVi1 dX2_mayFit_2 kX2_51 s_75 (Nat.le_of_ble_eq_true rfl) (c_X2_mayBeAdmissible (by omega) L3 (by omega) hDb (fun w0 w1 z => ?_) (fun z => ?_))
  · refine v_if_ne (tgt := 10) dX2_mayFit_5 (by decide) (by decide) (fun q5 => absurd q5 (by decide)) (fun q5 => ?_)
    refine v_iconst dX2_mayFit_8 ?_
    exact v_zreturn dX2_mayFit_9 rfl (by decide) (h0 (fun e he hF => by
      obtain ⟨y, y0, y1, y2, y3⟩ := z
      rcases Lw with ⟨_, z⟩ | ⟨z, z1, z2, _⟩
      · omega
      · rcases hF.1 with q | ⟨_, q⟩
        · omega
        · have := q wl z1.1 z1.2 z2 y y0 (by omega) y2
          rw [he y y0 y1, he wl w0 w1] at this
          omega))
  · refine v_if_ne (tgt := 10) dX2_mayFit_5 (by decide) (by decide) (fun q5 => ?_) (fun q5 => absurd q5 (by decide))
    refine v_iconst dX2_mayFit_10 ?_
    refine v_istore_n (lv' := [_, _, _]) dX2_mayFit_11 (Nat.le_of_ble_eq_true rfl) rfl rfl ?_
    exact K z T.toNat 0 (by omega) (by omega) (fun j a b => by omega)
theorem c_X2_findFor {wt' ix : Int → Int} {T wl s : Int} {P : Int → S9 → Prop} (v : Va n R lf rg wt lev stt ap str) (hs : 0 ≤ s ∧ s ≤ 1) (L : Lev9 σ wt' n R lf rg T wl ix) (h0 : All9 n n.toNat (FV9 wt' s n R lf rg) → ∀ τ, eq9 (fun k => k ≠ 75 ∧ k ≠ 76) σ τ → Lev9 τ wt' n R lf rg T wl ix → P 0 τ) (h1 : ∀ τ, Fst9 n n.toNat (FV9 wt' s n R lf rg) (gI τ 76) → eq9 (fun k => k ≠ 75 ∧ k ≠ 76) σ τ → P 1 τ) : Cc (d + 6) mX2_findFor [.ref 75, .int (iI s)] σ (QI P) := by
  have hn := v.1
  have hR := v.2.1
  have g1 : gI (sI σ 75 2 s) 75 1 = n := by rw [gI_aI_eq, up9_ne (by decide)]; exact L.1
  have L2 : ∀ τ, eq9 (fun k => k ≠ 76) (sI σ 75 2 s) τ → Lev9 τ wt' n R lf rg T wl ix ∧ gI τ 75 2 = s ∧ eq9 (fun k => k ≠ 75 ∧ k ≠ 76) σ τ := fun τ he => by
    have e75 := (he 75 (by decide)).1
    have e77 := (he 77 (by decide)).2.1
    have e78 := (he 78 (by decide)).2.1
    refine ⟨?_, by rw [e75, gI_aI_eq, up9_eq], (eq9.aI (by omega)).tr (he.mono (fun k hk => hk.2))⟩
    unfold Lev9
    rw [e75, e77, e78, gI_aI_eq, up9_ne (by decide), up9_ne (by decide), up9_ne (by decide)]
    exact L
  refine Cc_of (by decide +kernel) (fun _ => Nat.le_of_ble_eq_true rfl) rfl (lv := [_, _]) ?_
  refine v_aload_n dX2_findFor_0 rfl ?_
  refine v_iload_n dX2_findFor_1 rfl ?_
  refine v_putI (ji := 2) dX2_findFor_2 s_75 pfX2_44 rfl ?_
  refine v_aload_n dX2_findFor_5 rfl ?_
  refine v_aload_n dX2_findFor_6 rfl ?_
  refine v_getI (ji := 1) dX2_findFor_7 s_75 fX2_24 rfl ?_
  refine v_aload_n dX2_findFor_10 rfl ?_
  refine v_getI (ji := 1) dX2_findFor_11 s_75 fX2_24 rfl ?_
  rw [g1]
  refine v_iconst dX2_findFor_14 ?_
  refine v_isub dX2_findFor_15 ?_
  refine v_callUi2 dX2_findFor_16 kX2_47 s_75 (Nat.le_of_ble_eq_true rfl) (c_X6_findFirst_75 (d := d) (F := FV9 wt' s n R lf rg) (J := fun υ _ => eq9 (fun k => k ≠ 76) (sI σ 75 2 s) υ) (E := fun υ => eq9 (fun k => k ≠ 76) (sI σ 75 2 s) υ) (by omega) (by omega) (fun _ => big9 (by omega) (by omega)) (fun z => ?_) (fun _ => eq9.aI (by decide)) (fun υ c Q a b c2 J D k0 k1 => c_X2_mayFit v hs (L2 υ J).2.1 (L2 υ J).1 ⟨b, c2⟩ D (fun z => k0 υ rfl J (fun c' x _ _ => eq9.tr J (eq9.aI (by decide))) (fun e _ he => z e he)) (fun z => k1 υ rfl J (fun _ => eq9.tr J (eq9.aI (by decide))) z)) (fun υ _ hE hF => ?_) (fun υ _ hE hA => ?_))
  · exact absurd z (by omega)
  · exact v_zreturn dX2_findFor_19 rfl (by decide) (h1 υ (by rw [show n - 1 + 1 = n by omega] at hF; exact hF) (L2 υ hE).2.2)
  · exact v_zreturn dX2_findFor_19 rfl (by decide) (h0 (by rw [show n - 1 + 1 = n by omega] at hA; exact hA) υ (L2 υ hE).2.2 (L2 υ hE).1)
end
