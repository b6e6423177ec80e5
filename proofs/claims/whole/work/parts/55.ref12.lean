section
variable {d : Nat} {n R : Int} {lf rg : Int → List Int} {wt lev : Int → Int} {stt : Int} {ap : Int → UInt32} {str : List Int} {σ : S9}
theorem c_X10_levels {P : Int → S9 → Prop} (hn : 1 ≤ n ∧ n ≤ 6) (g0 : gI σ 97 0 = n) (hR8 : 0 ≤ R ∧ R ≤ 8) (g1 : gI σ 97 1 = R) (hll : ∀ r, 0 ≤ r → r < R → gI σ 98 (2 * r) = (lf r).length ∧ ∀ k : Int, 0 ≤ k → k < (lf r).length → gI σ 99 (12 * r + k) = at9 (lf r) k) (hrr : ∀ r, 0 ≤ r → r < R → gI σ 98 (2 * r + 1) = (rg r).length ∧ ∀ k : Int, 0 ≤ k → k < (rg r).length → gI σ 99 (12 * r + 6 + k) = at9 (rg r) k) (hol : ∀ r, 0 ≤ r → r < R → OkL n 6 (lf r)) (hor : ∀ r, 0 ≤ r → r < R → OkL n 6 (rg r)) (hs : 0 ≤ gI σ 97 6 ∧ gI σ 97 6 ≤ 1) (hwb : ∀ x, 0 ≤ x → x < 6 → 0 ≤ gI σ 100 x ∧ gI σ 100 x ≤ 99) (hvb : ∀ x, 0 ≤ x → x < 6 → 0 ≤ gI σ 101 x ∧ gI σ 101 x ≤ 9) (h1 : ∀ g, Fst9 n n.toNat (FV9 (gI σ 100) (gI σ 97 6) n R lf rg) g → ∀ τ, eq9 (fun k => k ≠ 101 ∧ k ≠ 118 ∧ k ≠ 119 ∧ k ≠ 120 ∧ k ≠ 121) σ τ → (∀ x, 0 ≤ x → x < 6 → gI τ 101 x = if x < n then g x else gI σ 101 x) → P 1 τ) (h0 : All9 n n.toNat (FV9 (gI σ 100) (gI σ 97 6) n R lf rg) → ∀ τ, eq9 (fun k => k ≠ 101 ∧ k ≠ 118 ∧ k ≠ 119 ∧ k ≠ 120 ∧ k ≠ 121) σ τ → (∀ x, 0 ≤ x → x < 6 → gI τ 101 x = gI σ 101 x) → P 0 τ) : Cc (d + 3) mX10_levels [.ref 97] σ (QI P) := by
  refine Cc_of (by decide +kernel) (fun _ => Nat.le_of_ble_eq_true rfl) rfl (lv := [_, _, _]) ?_
  have hb : 0 < n := by omega
  have ok6 : ∀ xs, OkL n 6 xs → OkL 6 6 xs := fun xs h => ⟨fun x hx => by have := h.1 x hx; omega, h.2⟩
  have Kend : ∀ (τ : S9), All9 n n.toNat (FV9 (gI σ 100) (gI σ 97 6) n R lf rg) → eq9 (fun k => k ≠ 101 ∧ k ≠ 118 ∧ k ≠ 119 ∧ k ≠ 120 ∧ k ≠ 121) σ τ → (∀ x, 0 ≤ x → x < 6 → gI τ 121 x = gI σ 101 x) → ∀ (m : Nat) (k : Int) (υ : S9), 0 ≤ k → k + m = 6 → eq9 (fun k => k ≠ 101) τ υ → (∀ x, 0 ≤ x → x < k → gI υ 101 x = gI σ 101 x) → Vv (d + 3) mX10_levels 100 [.ref 97, .int (iI 0), .int (iI k)] [] υ (QI P) := by
    intro τ hA he h121 m
    induction m with
    | zero =>
      intro k υ hk hm hu hI
      refine v_iload_n dX10_levels_100 rfl ?_
      refine v_bipush dX10_levels_101 (by decide) ?_
      refine v_icmp_ge (tgt := 124) dX10_levels_103 (by decide) (by omega) (fun q103 => ?_) (fun q103 => absurd q103 (by omega))
      refine v_iconst dX10_levels_124 ?_
      exact v_zreturn dX10_levels_125 rfl (by decide) (h0 hA υ (he.tr (hu.mono (fun k hk => hk.1))) (fun x a b => hI x a (by omega)))
    | succ m ih =>
      intro k υ hk hm hu hI
      have e121 : gI υ 121 k = gI σ 101 k := by rw [(hu 121 (by decide)).1]; exact h121 k hk (by omega)
      refine v_iload_n dX10_levels_100 rfl ?_
      refine v_bipush dX10_levels_101 (by decide) ?_
      refine v_icmp_ge (tgt := 124) dX10_levels_103 (by decide) (by omega) (fun q103 => absurd q103 (by omega)) (fun q103 => ?_)
      refine v_aload_n dX10_levels_106 rfl ?_
      refine v_getR (k1 := 101) dX10_levels_107 s_97 fX10_25 rfl ?_
      refine v_iload_n dX10_levels_110 rfl ?_
      refine v_aload_n dX10_levels_111 rfl ?_
      refine v_getR (k1 := 121) dX10_levels_112 s_97 fX10_88 rfl ?_
      refine v_iload_n dX10_levels_115 rfl ?_
      refine v_iaload dX10_levels_116 s_121 (by omega) ?_
      rw [e121]
      refine v_iastore dX10_levels_117 s_101 (by omega) ?_
      refine v_iinc (lv' := [_, _, _]) dX10_levels_118 rfl (Nat.le_of_ble_eq_true rfl) rfl rfl ?_
      refine v_goto (tgt := 100) dX10_levels_121 (by decide) ?_
      refine ih (k + 1) _ (by omega) (by omega) (hu.tr (eq9.aI (by omega))) (fun x a b => ?_)
      rw [gI_aI_eq]
      by_cases e : x = k
      · rw [e, up9_eq]
      · rw [up9_ne e]; exact hI x a (by omega)
  have K : ∀ (fuel : Nat) (τ : S9), eq9 (fun k => k ≠ 101 ∧ k ≠ 118 ∧ k ≠ 119 ∧ k ≠ 120 ∧ k ≠ 121) σ τ → (∀ x, 0 ≤ x → x < 6 → gI τ 121 x = gI σ 101 x) → (∀ x, n ≤ x → x < 6 → gI τ 101 x = gI σ 101 x) → Dg9 n (gI τ 120) n.toNat → Non9 n n.toNat (FV9 (gI σ 100) (gI σ 97 6) n R lf rg) (val9 n (gI τ 120) n.toNat) → n ^ n.toNat - val9 n (gI τ 120) n.toNat ≤ fuel → ∀ l2, Vv (d + 3) mX10_levels 32 [.ref 97, .int (iI 1), l2] [] τ (QI P) := by
    intro fuel
    induction fuel with
    | zero =>
      intro τ he h121 hhi hD hN hf l2
      exfalso
      have := (val9_bd hb hD).2
      omega
    | succ fuel ih =>
      intro τ he h121 hhi hD hN hf l2
      have Kb : ∀ (υ : S9), eq9 (fun k => k ≠ 101 ∧ k ≠ 118 ∧ k ≠ 119) τ υ → (∀ x, n ≤ x → x < 6 → gI υ 101 x = gI σ 101 x) → ¬ FV9 (gI σ 100) (gI σ 97 6) n R lf rg (gI τ 120) → ∀ l2, Vv (d + 3) mX10_levels 82 [.ref 97, .int (iI 1), l2] [] υ (QI P) := by
        intro υ hu huhi hnF l2
        have hu120 : gI υ 120 = gI τ 120 := (hu 120 (by decide)).1
        have hu97 : gI υ 97 = gI σ 97 := by rw [(hu 97 (by decide)).1, (he 97 (by decide)).1]
        have hN2 := Non9.next hb hD hN (fun e he2 hk hFe => hnF ⟨(adm9_congr (fun _ _ _ => rfl) (fun x a b => hk x a (by omega))).mp hFe.1, fun r a b => by
          rw [← cmp9_congr (w := gI σ 100) (v := e) (v' := gI τ 120) (fun _ _ _ => rfl) (fun x a b => hk x a (by omega)) (hol r a b).1 (hor r a b).1]
          exact hFe.2 r a b⟩)
        refine v_aload_n dX10_levels_82 rfl ?_
        refine v_aload_n dX10_levels_83 rfl ?_
        refine v_getI (ji := 0) dX10_levels_84 s_97 fX10_9 rfl ?_
        rw [hu97, g0]
        refine v_aload_n dX10_levels_87 rfl ?_
        refine v_getI (ji := 0) dX10_levels_88 s_97 fX10_9 rfl ?_
        rw [hu97, g0]
        refine v_callVi2 dX10_levels_91 kX10_186 s_97 (Nat.le_of_ble_eq_true rfl) (c_X10_next (by omega) (by omega) (by rw [hu120]; exact hD) (fun ω w1 w2 w3 => ?_) (fun w1 ω w2 => ?_))
        · refine v_istore_n (lv' := [_, _, _]) dX10_levels_94 (Nat.le_of_ble_eq_true rfl) rfl rfl ?_
          refine v_goto (tgt := 32) dX10_levels_95 (by decide) ?_
          rw [hu120] at w3
          refine ih ω (he.tr ((hu.mono (fun k hk => by omega)).tr (w1.mono (fun k hk => by omega)))) (fun x a b => ?_) (fun x a b => ?_) w2 (by rw [w3]; exact hN2) (by rw [w3]; omega) _
          · rw [(w1 121 (by decide)).1, (hu 121 (by decide)).1]; exact h121 x a b
          · rw [(w1 101 (by decide)).1]; exact huhi x a b
        · rw [hu120] at w1
          have hA : All9 n n.toNat (FV9 (gI σ 100) (gI σ 97 6) n R lf rg) := fun e he2 => hN2 e he2 (by rw [w1]; exact (val9_bd hb he2).2)
          have hE := he.tr ((hu.mono (fun k (hk : k ≠ 101 ∧ k ≠ 118 ∧ k ≠ 119 ∧ k ≠ 120 ∧ k ≠ 121) => by omega)).tr (w2.mono (fun k hk => by omega)))
          have h121w : ∀ x, 0 ≤ x → x < 6 → gI ω 121 x = gI σ 101 x := fun x a b => by rw [(w2 121 (by decide)).1, (hu 121 (by decide)).1]; exact h121 x a b
          refine v_istore_n (lv' := [_, _, _]) dX10_levels_94 (Nat.le_of_ble_eq_true rfl) rfl rfl ?_
          refine v_goto (tgt := 32) dX10_levels_95 (by decide) ?_
          have K0 : ∀ l2, Vv (d + 3) mX10_levels 32 [.ref 97, .int (iI 0), l2] [] ω (QI P) := by
            intro l2
            refine v_iload_n dX10_levels_32 rfl ?_
            refine v_if_eq (tgt := 98) dX10_levels_33 (by decide) (by decide) (fun q33 => ?_) (fun q33 => absurd rfl q33)
            refine v_iconst dX10_levels_98 ?_
            refine v_istore_n (lv' := [_, _, _]) dX10_levels_99 (Nat.le_of_ble_eq_true rfl) rfl rfl ?_
            exact Kend ω hA hE h121w 6 0 ω (by omega) (by omega) eq9.rf (fun x a b => by omega)
          exact K0 _
      have Kl : ∀ (m : Nat) (k : Int) (υ : S9), 0 ≤ k → k + m = n → eq9 (fun k => k ≠ 101) τ υ → (∀ x, n ≤ x → x < 6 → gI υ 101 x = gI σ 101 x) → (∀ x, 0 ≤ x → x < k → gI υ 101 x = gI τ 120 x) → Vv (d + 3) mX10_levels 38 [.ref 97, .int (iI 1), .int (iI k)] [] υ (QI P) := by
        intro m
        induction m with
        | zero =>
          intro k υ hk hm hu huhi hI
          have u97 : gI υ 97 = gI σ 97 := by rw [(hu 97 (by decide)).1, (he 97 (by decide)).1]
          have u98 : gI υ 98 = gI σ 98 := by rw [(hu 98 (by decide)).1, (he 98 (by decide)).1]
          have u99 : gI υ 99 = gI σ 99 := by rw [(hu 99 (by decide)).1, (he 99 (by decide)).1]
          have u100 : gI υ 100 = gI σ 100 := by rw [(hu 100 (by decide)).1, (he 100 (by decide)).1]
          have uvb : ∀ x, 0 ≤ x → x < 6 → 0 ≤ gI υ 101 x ∧ gI υ 101 x ≤ 9 := fun x a b => by
            by_cases q : x < n
            · rw [hI x a (by omega)]; have := hD x a (by omega); omega
            · rw [huhi x (by omega) b]; exact hvb x a b
          have hc : ∀ x, 0 ≤ x → x < n → gI υ 101 x = gI τ 120 x := fun x a b => hI x a (by omega)
          refine v_iload_n dX10_levels_38 rfl ?_
          refine v_aload_n dX10_levels_39 rfl ?_
          refine v_getI (ji := 0) dX10_levels_40 s_97 fX10_9 rfl ?_
          rw [u97, g0]
          refine v_icmp_ge (tgt := 64) dX10_levels_43 (by decide) (by omega) (fun q43 => ?_) (fun q43 => absurd q43 (by omega))
          refine v_aload_n dX10_levels_64 rfl ?_
          refine v_callVi0 dX10_levels_65 kX10_167 s_97 (Nat.le_of_ble_eq_true rfl) (c_X10_isGood (n := n) (by rw [u97]; exact g0) hn (by rw [u100]; exact hwb) uvb (fun zg => ?_) (fun zg => ?_))
          · refine v_if_eq (tgt := 82) dX10_levels_68 (by decide) (by decide) (fun q68 => absurd q68 (by decide)) (fun q68 => ?_)
            refine v_aload_n dX10_levels_71 rfl ?_
            refine v_callVi0 dX10_levels_72 kX10_190 s_97 (Nat.le_of_ble_eq_true rfl) (c_X10_firstUnoriented (lf := lf) (rg := rg) hR8 (by rw [u97]; exact g1) (by rw [u98, u99]; exact hll) (by rw [u98, u99]; exact hrr) (fun r a b => ok6 _ (hol r a b)) (fun r a b => ok6 _ (hor r a b)) (by rw [u97]; exact hs) (by rw [u100]; exact hwb) uvb (fun r r0 r1 hne hpre ω w1 => ?_) (fun hall ω w1 => ?_))
            · refine v_bipush dX10_levels_75 (by decide) ?_
              refine v_icmp_ne (tgt := 82) dX10_levels_77 (by decide) (by omega) (fun q77 => ?_) (fun q77 => absurd q77 (by omega))
              refine Kb ω ((hu.mono (fun k hk => hk.1)).tr (w1.mono (fun k hk => hk.2))) (fun x a b => by rw [(w1 101 (by decide)).1]; exact huhi x a b) (fun hF => hne ?_) _
              rw [u97, u100, cmp9_congr (w := gI σ 100) (w' := gI σ 100) (v := gI υ 101) (v' := gI τ 120) (fun _ _ _ => rfl) hc (hol r r0 r1).1 (hor r r0 r1).1]
              exact hF.2 r r0 r1
            · refine v_bipush dX10_levels_75 (by decide) ?_
              refine v_icmp_ne (tgt := 82) dX10_levels_77 (by decide) (by decide) (fun q77 => absurd rfl q77) (fun q77 => ?_)
              refine v_iconst dX10_levels_80 ?_
              refine v_zreturn dX10_levels_81 rfl (by decide) (by
              have hE : eq9 (fun k => k ≠ 101 ∧ k ≠ 118 ∧ k ≠ 119 ∧ k ≠ 120 ∧ k ≠ 121) σ ω := (he.tr (hu.mono (fun k hk => hk.1))).tr (w1.mono (fun k hk => by omega))
              refine h1 (gI τ 120) ⟨hD, ⟨?_, fun r a b => ?_⟩, hN⟩ ω hE (fun x a b => ?_)
              · rw [u100] at zg; exact (adm9_congr (fun _ _ _ => rfl) hc).mp zg
              · have h8 := hall r a b
                rw [u97, u100, cmp9_congr (w := gI σ 100) (w' := gI σ 100) (v := gI υ 101) (v' := gI τ 120) (fun _ _ _ => rfl) hc (hol r a b).1 (hor r a b).1] at h8
                exact h8
              · rw [(w1 101 (by decide)).1]
                by_cases q : x < n
                · rw [if_pos q]; exact hc x a q
                · rw [if_neg q]; exact huhi x (by omega) b)
          · refine v_if_eq (tgt := 82) dX10_levels_68 (by decide) (by decide) (fun q68 => ?_) (fun q68 => absurd q68 (by decide))
            exact Kb υ (hu.mono (fun k hk => hk.1)) huhi (fun hF => zg ((adm9_congr (fun x _ _ => by rw [u100]) hc).mpr hF.1)) _
        | succ m ih2 =>
          intro k υ hk hm hu huhi hI
          have u97 : gI υ 97 = gI σ 97 := by rw [(hu 97 (by decide)).1, (he 97 (by decide)).1]
          have u120 : gI υ 120 = gI τ 120 := (hu 120 (by decide)).1
          refine v_iload_n dX10_levels_38 rfl ?_
          refine v_aload_n dX10_levels_39 rfl ?_
          refine v_getI (ji := 0) dX10_levels_40 s_97 fX10_9 rfl ?_
          rw [u97, g0]
          refine v_icmp_ge (tgt := 64) dX10_levels_43 (by decide) (by omega) (fun q43 => absurd q43 (by omega)) (fun q43 => ?_)
          refine v_aload_n dX10_levels_46 rfl ?_
          refine v_getR (k1 := 101) dX10_levels_47 s_97 fX10_25 rfl ?_
          refine v_iload_n dX10_levels_50 rfl ?_
          refine v_aload_n dX10_levels_51 rfl ?_
          refine v_getR (k1 := 120) dX10_levels_52 s_97 fX10_85 rfl ?_
          refine v_iload_n dX10_levels_55 rfl ?_
          refine v_iaload dX10_levels_56 s_120 (by omega) ?_
          rw [u120]
          refine v_iastore dX10_levels_57 s_101 (by omega) ?_
          refine v_iinc (lv' := [_, _, _]) dX10_levels_58 rfl (Nat.le_of_ble_eq_true rfl) rfl rfl ?_
          refine v_goto (tgt := 38) dX10_levels_61 (by decide) ?_
          refine ih2 (k + 1) _ (by omega) (by omega) (hu.tr (eq9.aI (by omega))) (fun x a b => ?_) (fun x a b => ?_)
          · rw [gI_aI_eq, up9_ne (by omega)]; exact huhi x a b
          · rw [gI_aI_eq]
            by_cases e : x = k
            · rw [e, up9_eq]
            · rw [up9_ne e]; exact hI x a (by omega)
      refine v_iload_n dX10_levels_32 rfl ?_
      refine v_if_eq (tgt := 98) dX10_levels_33 (by decide) (by decide) (fun q33 => absurd q33 (by decide)) (fun q33 => ?_)
      refine v_iconst dX10_levels_36 ?_
      refine v_istore_n (lv' := [_, _, _]) dX10_levels_37 (Nat.le_of_ble_eq_true rfl) rfl rfl ?_
      exact Kl n.toNat 0 τ (by omega) (by omega) eq9.rf hhi (fun x a b => by omega)
  have K0 : ∀ (m : Nat) (k : Int) (τ : S9), 0 ≤ k → k + m = 6 → eq9 (fun k => k ≠ 121) σ τ → (∀ x, 0 ≤ x → x < k → gI τ 121 x = gI σ 101 x) → Vv (d + 3) mX10_levels 2 [.ref 97, .int (iI k), .null] [] τ (QI P) := by
    intro m
    induction m with
    | zero =>
      intro k τ hk hm he hI
      refine v_iload_n dX10_levels_2 rfl ?_
      refine v_bipush dX10_levels_3 (by decide) ?_
      refine v_icmp_ge (tgt := 26) dX10_levels_5 (by decide) (by omega) (fun q5 => ?_) (fun q5 => absurd q5 (by omega))
      refine v_aload_n dX10_levels_26 rfl ?_
      refine v_callVv0 dX10_levels_27 kX10_180 s_97 (Nat.le_of_ble_eq_true rfl) (c_X10_begin (fun υ e1 e2 => ?_))
      refine v_iconst dX10_levels_30 ?_
      refine v_istore_n (lv' := [_, _, _]) dX10_levels_31 (Nat.le_of_ble_eq_true rfl) rfl rfl ?_
      have e0 : val9 n (gI υ 120) n.toNat = 0 := by
        have := val9_zero (b := n) (e := gI υ 120) 0 n.toNat (fun k a b => e2 k (by omega) (by omega))
        rw [Nat.zero_add, val9, Int.zero_mul] at this
        exact this
      exact K (n ^ n.toNat).toNat υ ((he.mono (fun k hk => by omega)).tr (e1.mono (fun k hk => by omega))) (fun x a b => by rw [(e1 121 (by decide)).1]; exact hI x a (by omega)) (fun x a b => by rw [(e1 101 (by decide)).1, (he 101 (by decide)).1]) (fun k a b => by rw [e2 k a (by omega)]; omega) (fun e he hl => by rw [e0] at hl; have := val9_bd hb he; omega) (by rw [e0]; have := pow9 hb n.toNat; omega) _
    | succ m ih =>
      intro k τ hk hm he hI
      have e101 : gI τ 101 = gI σ 101 := (he 101 (by decide)).1
      refine v_iload_n dX10_levels_2 rfl ?_
      refine v_bipush dX10_levels_3 (by decide) ?_
      refine v_icmp_ge (tgt := 26) dX10_levels_5 (by decide) (by omega) (fun q5 => absurd q5 (by omega)) (fun q5 => ?_)
      refine v_aload_n dX10_levels_8 rfl ?_
      refine v_getR (k1 := 121) dX10_levels_9 s_97 fX10_88 rfl ?_
      refine v_iload_n dX10_levels_12 rfl ?_
      refine v_aload_n dX10_levels_13 rfl ?_
      refine v_getR (k1 := 101) dX10_levels_14 s_97 fX10_25 rfl ?_
      refine v_iload_n dX10_levels_17 rfl ?_
      refine v_iaload dX10_levels_18 s_101 (by omega) ?_
      rw [e101]
      refine v_iastore dX10_levels_19 s_121 (by omega) ?_
      refine v_iinc (lv' := [_, _, _]) dX10_levels_20 rfl (Nat.le_of_ble_eq_true rfl) rfl rfl ?_
      refine v_goto (tgt := 2) dX10_levels_23 (by decide) ?_
      refine ih (k + 1) _ (by omega) (by omega) (he.tr (eq9.aI (by omega))) (fun x a b => ?_)
      rw [gI_aI_eq]
      by_cases e : x = k
      · rw [e, up9_eq]
      · rw [up9_ne e]; exact hI x a (by omega)
  refine v_iconst dX10_levels_0 ?_
  refine v_istore_n (lv' := [_, _, _]) dX10_levels_1 (Nat.le_of_ble_eq_true rfl) rfl rfl ?_
  exact K0 6 0 σ (by omega) (by omega) eq9.rf (fun x a b => by omega)
end
