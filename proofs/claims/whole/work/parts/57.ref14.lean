theorem FV9_congr {w w' : Int → Int} {s n R : Int} {lf rg : Int → List Int} (hw : ∀ x, 0 ≤ x → x < n → w x = w' x) (hl : ∀ r, 0 ≤ r → r < R → (∀ x ∈ lf r, 0 ≤ x ∧ x < n) ∧ ∀ x ∈ rg r, 0 ≤ x ∧ x < n) : FV9 w s n R lf rg = FV9 w' s n R lf rg := by
  funext e
  refine propext ⟨fun h => ⟨(adm9_congr hw (fun _ _ _ => rfl)).mp h.1, fun r a b => ?_⟩, fun h => ⟨(adm9_congr hw (fun _ _ _ => rfl)).mpr h.1, fun r a b => ?_⟩⟩
  · rw [← cmp9_congr hw (fun _ _ _ => rfl) (hl r a b).1 (hl r a b).2]; exact h.2 r a b
  · rw [cmp9_congr hw (fun _ _ _ => rfl) (hl r a b).1 (hl r a b).2]; exact h.2 r a b
section
variable {d : Nat} {n R : Int} {lf rg : Int → List Int} {wt lev : Int → Int} {stt : Int} {ap : Int → UInt32} {str : List Int} {σ : S9}
theorem c_X10_findOrder {P : Int → S9 → Prop} (v : Va n R lf rg wt lev stt ap str) (c : SyMn σ n R lf rg wt lev stt ap str) (h1 : 4 < n → P (-8) σ) (h2 : n ≤ 4 → (∀ w s, 0 ≤ w → w < 3 ^ n.toNat → 0 ≤ s → s ≤ 1 → All9 n n.toNat (FV9 (tw9 n w) s n R lf rg)) → ∀ τ, eq9 (fun k => k ≠ 97 ∧ k ≠ 100 ∧ k ≠ 101 ∧ k ≠ 118 ∧ k ≠ 119 ∧ k ≠ 120 ∧ k ≠ 121 ∧ k ≠ 122) σ τ → gI τ 97 = gI σ 97 → (∀ x, 0 ≤ x → x < 6 → gI τ 100 x = gI σ 100 x) → (∀ x, 0 ≤ x → x < 6 → gI τ 101 x = gI σ 101 x) → P (-6) τ)
    (h3 : n ≤ 4 → ∀ w s g, 0 ≤ w → w < 3 ^ n.toNat → 0 ≤ s → s ≤ 1 → (∀ w' s', 0 ≤ w' → w' < w → 0 ≤ s' → s' ≤ 1 → All9 n n.toNat (FV9 (tw9 n w') s' n R lf rg)) → (∀ s', 0 ≤ s' → s' < s → All9 n n.toNat (FV9 (tw9 n w) s' n R lf rg)) → Fst9 n n.toNat (FV9 (tw9 n w) s n R lf rg) g → ∀ τ, eq9 (fun k => k ≠ 97 ∧ k ≠ 100 ∧ k ≠ 101 ∧ k ≠ 118 ∧ k ≠ 119 ∧ k ≠ 120 ∧ k ≠ 121 ∧ k ≠ 122) σ τ → gI τ 97 = up9 (gI σ 97) 6 s → (∀ x, 0 ≤ x → x < 6 → gI τ 100 x = if x < n then tw9 n w x else gI σ 100 x) → (∀ x, 0 ≤ x → x < 6 → gI τ 101 x = if x < n then g x else gI σ 101 x) → P 1 τ) : Cc (d + 4) mX10_findOrder [.ref 97] σ (QI P) := by
  have hn := v.1
  have hR := v.2.1
  have hlet : ∀ r, 0 ≤ r → r < R → (∀ x ∈ lf r, 0 ≤ x ∧ x < n) ∧ ∀ x ∈ rg r, 0 ≤ x ∧ x < n := fun r a b => ⟨(v.2.2.1 r a b).1.1, (v.2.2.1 r a b).2.2.1⟩
  have h81 : n ≤ 4 → (3 : Int) ^ n.toNat ≤ 81 := fun h4 => by
    have : ∀ k : Fin 5, (3 : Int) ^ k.1 ≤ 81 := by decide
    exact this ⟨n.toNat, by omega⟩
  refine Cc_of (by decide +kernel) (fun _ => Nat.le_of_ble_eq_true rfl) rfl (lv := [_, _, _, _, _, _]) ?_
  have Ke : n ≤ 4 → (∀ w s, 0 ≤ w → w < 3 ^ n.toNat → 0 ≤ s → s ≤ 1 → All9 n n.toNat (FV9 (tw9 n w) s n R lf rg)) → ∀ (m : Nat) (k : Int) (τ : S9), 0 ≤ k → k + m = n → eq9 (fun k => k ≠ 97 ∧ k ≠ 100 ∧ k ≠ 101 ∧ k ≠ 118 ∧ k ≠ 119 ∧ k ≠ 120 ∧ k ≠ 121 ∧ k ≠ 122) σ τ ∧ (∀ i, i ≠ 6 → gI τ 97 i = gI σ 97 i) ∧ (∀ x, 0 ≤ x → x < n → gI τ 122 x = gI σ 100 x) ∧ (∀ x, n ≤ x → x < 6 → gI τ 100 x = gI σ 100 x) ∧ (∀ x, 0 ≤ x → x < 6 → gI τ 101 x = gI σ 101 x) → gI τ 97 6 = stt → (∀ x, 0 ≤ x → x < k → gI τ 100 x = gI σ 100 x) → ∀ l1 l4 l5, Vv (d + 4) mX10_findOrder 139 [.ref 97, l1, .int (iI (3 ^ n.toNat)), .int (iI k), l4, l5] [] τ (QI P) := by
    intro hn4 hA m
    induction m with
    | zero =>
      intro k τ hk hm hS h6 hI l1 l4 l5
      have z0 : gI τ 97 0 = n := by rw [hS.2.1 0 (by decide)]; exact c.1
      refine v_iload_n dX10_findOrder_139 rfl ?_
      refine v_aload_n dX10_findOrder_140 rfl ?_
      refine v_getI (ji := 0) dX10_findOrder_141 s_97 fX10_9 rfl ?_
      rw [z0]
      refine v_icmp_ge (tgt := 165) dX10_findOrder_144 (by decide) (by omega) (fun q144 => ?_) (fun q144 => absurd q144 (by omega))
      refine v_bipush dX10_findOrder_165 (by decide) ?_
      exact v_ireturn dX10_findOrder_167 rfl (h2 hn4 hA τ hS.1 (by funext i; by_cases e : i = 6; (rw [e, h6]; exact c.2.2.1.symm); (exact hS.2.1 i e)) (fun x a b => if q : x < n then hI x a (by omega) else hS.2.2.2.1 x (by omega) b) hS.2.2.2.2)
    | succ m ih =>
      intro k τ hk hm hS h6 hI l1 l4 l5
      have z0 : gI τ 97 0 = n := by rw [hS.2.1 0 (by decide)]; exact c.1
      have z122 : gI τ 122 k = gI σ 100 k := hS.2.2.1 k hk (by omega)
      refine v_iload_n dX10_findOrder_139 rfl ?_
      refine v_aload_n dX10_findOrder_140 rfl ?_
      refine v_getI (ji := 0) dX10_findOrder_141 s_97 fX10_9 rfl ?_
      rw [z0]
      refine v_icmp_ge (tgt := 165) dX10_findOrder_144 (by decide) (by omega) (fun q144 => absurd q144 (by omega)) (fun q144 => ?_)
      refine v_aload_n dX10_findOrder_147 rfl ?_
      refine v_getR (k1 := 100) dX10_findOrder_148 s_97 fX10_22 rfl ?_
      refine v_iload_n dX10_findOrder_151 rfl ?_
      refine v_aload_n dX10_findOrder_152 rfl ?_
      refine v_getR (k1 := 122) dX10_findOrder_153 s_97 fX10_91 rfl ?_
      refine v_iload_n dX10_findOrder_156 rfl ?_
      refine v_iaload dX10_findOrder_157 s_122 (by omega) ?_
      rw [z122]
      refine v_iastore dX10_findOrder_158 s_100 (by omega) ?_
      refine v_iinc (lv' := [_, _, _, _, _, _]) dX10_findOrder_159 rfl (Nat.le_of_ble_eq_true rfl) rfl rfl ?_
      refine v_goto (tgt := 139) dX10_findOrder_162 (by decide) ?_
      refine ih (k + 1) _ (by omega) (by omega) ⟨hS.1.tr (eq9.aI (by decide)), fun i a => ?_, fun x a b => ?_, fun x a b => ?_, fun x a b => ?_⟩ ?_ (fun x a b => ?_) _ _ _
      · rw [gI_aI_ne (by decide)]; exact hS.2.1 i a
      · rw [gI_aI_ne (by decide)]; exact hS.2.2.1 x a b
      · rw [gI_aI_eq, up9_ne (by omega)]; exact hS.2.2.2.1 x a b
      · rw [gI_aI_ne (by decide)]; exact hS.2.2.2.2 x a b
      · rw [gI_aI_ne (by decide)]; exact h6
      · rw [gI_aI_eq]
        by_cases e : x = k
        · rw [e, up9_eq]
        · rw [up9_ne e]; exact hI x a (by omega)
  have K1 : n ≤ 4 → ∀ (m : Nat) (w : Int) (τ : S9), 0 ≤ w → w + m = 3 ^ n.toNat → eq9 (fun k => k ≠ 97 ∧ k ≠ 100 ∧ k ≠ 101 ∧ k ≠ 118 ∧ k ≠ 119 ∧ k ≠ 120 ∧ k ≠ 121 ∧ k ≠ 122) σ τ ∧ (∀ i, i ≠ 6 → gI τ 97 i = gI σ 97 i) ∧ (∀ x, 0 ≤ x → x < n → gI τ 122 x = gI σ 100 x) ∧ (∀ x, n ≤ x → x < 6 → gI τ 100 x = gI σ 100 x) ∧ (∀ x, 0 ≤ x → x < 6 → gI τ 101 x = gI σ 101 x) → (∀ w' s', 0 ≤ w' → w' < w → 0 ≤ s' → s' ≤ 1 → All9 n n.toNat (FV9 (tw9 n w') s' n R lf rg)) → ∀ l4 l5, Vv (d + 4) mX10_findOrder 52 [.ref 97, .int (iI stt), .int (iI (3 ^ n.toNat)), .int (iI w), l4, l5] [] τ (QI P) := by
    intro hn4 m
    have h81 := h81 hn4
    induction m with
    | zero =>
      intro w τ hw hm hS hp l4 l5
      refine v_iload_n dX10_findOrder_52 rfl ?_
      refine v_iload_n dX10_findOrder_53 rfl ?_
      refine v_icmp_ge (tgt := 132) dX10_findOrder_54 (by decide) (by omega) (fun q54 => ?_) (fun q54 => absurd q54 (by omega))
      refine v_aload_n dX10_findOrder_132 rfl ?_
      refine v_iload_n dX10_findOrder_133 rfl ?_
      refine v_putI (ji := 6) dX10_findOrder_134 s_97 pfX10_130 rfl ?_
      refine v_iconst dX10_findOrder_137 ?_
      refine v_istore_n (lv' := [_, _, _, _, _, _]) dX10_findOrder_138 (Nat.le_of_ble_eq_true rfl) rfl rfl ?_
      refine Ke hn4 (fun w2 s2 a b c2 e => hp w2 s2 a (by omega) c2 e) n.toNat 0 _ (by omega) (by omega) ⟨hS.1.tr (eq9.aI (by decide)), fun i a => ?_, fun x a b => ?_, fun x a b => ?_, fun x a b => ?_⟩ ?_ (fun x a b => by omega) _ _ _
      · rw [gI_aI_eq, up9_ne a]; exact hS.2.1 i a
      · rw [gI_aI_ne (by decide)]; exact hS.2.2.1 x a b
      · rw [gI_aI_ne (by decide)]; exact hS.2.2.2.1 x a b
      · rw [gI_aI_ne (by decide)]; exact hS.2.2.2.2 x a b
      · rw [gI_aI_eq, up9_eq]
    | succ m ih =>
      intro w τ hw hm hS hp l4 l5
      have Kn : (∀ s', 0 ≤ s' → s' ≤ 1 → All9 n n.toNat (FV9 (tw9 n w) s' n R lf rg)) → ∀ τ, (eq9 (fun k => k ≠ 97 ∧ k ≠ 100 ∧ k ≠ 101 ∧ k ≠ 118 ∧ k ≠ 119 ∧ k ≠ 120 ∧ k ≠ 121 ∧ k ≠ 122) σ τ ∧ (∀ i, i ≠ 6 → gI τ 97 i = gI σ 97 i) ∧ (∀ x, 0 ≤ x → x < n → gI τ 122 x = gI σ 100 x) ∧ (∀ x, n ≤ x → x < 6 → gI τ 100 x = gI σ 100 x) ∧ (∀ x, 0 ≤ x → x < 6 → gI τ 101 x = gI σ 101 x)) → ∀ l4 l5, Vv (d + 4) mX10_findOrder 126 [.ref 97, .int (iI stt), .int (iI (3 ^ n.toNat)), .int (iI w), l4, l5] [] τ (QI P) := by
        intro hA τ hS l4 l5
        refine v_iinc (lv' := [_, _, _, _, _, _]) dX10_findOrder_126 rfl (Nat.le_of_ble_eq_true rfl) rfl rfl ?_
        refine v_goto (tgt := 52) dX10_findOrder_129 (by decide) ?_
        exact ih (w + 1) τ (by omega) (by omega) hS (fun w2 s2 a b c2 e => if q : w2 = w then (by rw [q]; exact hA s2 c2 e) else hp w2 s2 a (by omega) c2 e) _ _
      have Ks : ∀ (q : Nat) (s : Int) (τ : S9), 0 ≤ s → s + q = 2 → (eq9 (fun k => k ≠ 97 ∧ k ≠ 100 ∧ k ≠ 101 ∧ k ≠ 118 ∧ k ≠ 119 ∧ k ≠ 120 ∧ k ≠ 121 ∧ k ≠ 122) σ τ ∧ (∀ i, i ≠ 6 → gI τ 97 i = gI σ 97 i) ∧ (∀ x, 0 ≤ x → x < n → gI τ 122 x = gI σ 100 x) ∧ (∀ x, n ≤ x → x < 6 → gI τ 100 x = gI σ 100 x) ∧ (∀ x, 0 ≤ x → x < 6 → gI τ 101 x = gI σ 101 x)) → (∀ x, 0 ≤ x → x < n → gI τ 100 x = tw9 n w x) → (∀ s', 0 ≤ s' → s' < s → All9 n n.toNat (FV9 (tw9 n w) s' n R lf rg)) → ∀ z : Int, Vv (d + 4) mX10_findOrder 99 [.ref 97, .int (iI stt), .int (iI (3 ^ n.toNat)), .int (iI w), .int (iI z), .int (iI s)] [] τ (QI P) := by
        intro q
        induction q with
        | zero =>
          intro s τ hs hq hS hW hp2 z
          refine v_iload dX10_findOrder_99 rfl ?_
          refine v_iconst dX10_findOrder_101 ?_
          refine v_icmp_ge (tgt := 126) dX10_findOrder_102 (by decide) (by omega) (fun q102 => ?_) (fun q102 => absurd q102 (by omega))
          exact Kn (fun s2 a b => hp2 s2 a (by omega)) τ hS _ _
        | succ q ihq =>
          intro s τ hs hq hS hW hp2 z
          have g6 : gI (sI τ 97 6 s) 97 6 = s := by rw [gI_aI_eq, up9_eq]
          have gx : ∀ i, i ≠ 6 → gI (sI τ 97 6 s) 97 i = gI σ 97 i := fun i a => by rw [gI_aI_eq, up9_ne a]; exact hS.2.1 i a
          have gk : ∀ k, k ≠ 97 → gI (sI τ 97 6 s) k = gI τ k := fun k a => gI_aI_ne a
          have eF : FV9 (gI (sI τ 97 6 s) 100) (gI (sI τ 97 6 s) 97 6) n R lf rg = FV9 (tw9 n w) s n R lf rg := by rw [g6, gk 100 (by decide)]; exact FV9_congr hW hlet
          have e98 : gI τ 98 = gI σ 98 := (hS.1 98 (by decide)).1
          have e99 : gI τ 99 = gI σ 99 := (hS.1 99 (by decide)).1
          refine v_iload dX10_findOrder_99 rfl ?_
          refine v_iconst dX10_findOrder_101 ?_
          refine v_icmp_ge (tgt := 126) dX10_findOrder_102 (by decide) (by omega) (fun q102 => absurd q102 (by omega)) (fun q102 => ?_)
          refine v_aload_n dX10_findOrder_105 rfl ?_
          refine v_iload dX10_findOrder_106 rfl ?_
          refine v_putI (ji := 6) dX10_findOrder_108 s_97 pfX10_130 rfl ?_
          refine v_aload_n dX10_findOrder_111 rfl ?_
          refine v_callVi0 dX10_findOrder_112 kX10_193 s_97 (Nat.le_of_ble_eq_true rfl) (c_X10_levels (n := n) (R := R) (lf := lf) (rg := rg) hn (by rw [gx 0 (by decide)]; exact c.1) hR (by rw [gx 1 (by decide)]; exact c.2.1) (by rw [gk 98 (by decide), gk 99 (by decide), e98, e99]; exact fun r a b => c.ll ⟨a, b⟩) (by rw [gk 98 (by decide), gk 99 (by decide), e98, e99]; exact fun r a b => c.rr ⟨a, b⟩) (fun r a b => (v.2.2.1 r a b).1) (fun r a b => (v.2.2.1 r a b).2.2) (by rw [g6]; omega) (by rw [gk 100 (by decide)]; exact fun x a b => if y : x < n then (by rw [hW x a y]; have := tw9_bd n w x; omega) else (by rw [hS.2.2.2.1 x (by omega) b]; exact c.wb v x a b)) (by rw [gk 101 (by decide)]; exact fun x a b => by rw [hS.2.2.2.2 x a b]; exact c.vb v x a b) (fun g hF υ u1 u2 => ?_) (fun hA υ u1 u2 => ?_))
          · refine v_if_eq (tgt := 120) dX10_findOrder_115 (by decide) (by decide) (fun q115 => absurd q115 (by decide)) (fun q115 => ?_)
            refine v_iconst dX10_findOrder_118 ?_
            refine v_ireturn dX10_findOrder_119 rfl (by
              rw [eF] at hF
              refine h3 hn4 w s g hw (by omega) hs (by omega) hp hp2 hF υ ((hS.1.tr (eq9.aI (by decide))).tr (u1.mono (fun k hk => by omega))) ?_ (fun x a b => ?_) (fun x a b => ?_)
              · rw [(u1 97 (by decide)).1]
                funext i
                by_cases e : i = 6
                · rw [e, g6, up9_eq]
                · rw [gx i e, up9_ne e]
              · rw [(u1 100 (by decide)).1, gk 100 (by decide)]
                by_cases y : x < n
                · rw [if_pos y]; exact hW x a y
                · rw [if_neg y]; exact hS.2.2.2.1 x (by omega) b
              · rw [u2 x a b, gk 101 (by decide), hS.2.2.2.2 x a b])
          · refine v_if_eq (tgt := 120) dX10_findOrder_115 (by decide) (by decide) (fun q115 => ?_) (fun q115 => absurd q115 (by decide))
            refine v_iinc (lv' := [_, _, _, _, _, _]) dX10_findOrder_120 rfl (Nat.le_of_ble_eq_true rfl) rfl rfl ?_
            refine v_goto (tgt := 99) dX10_findOrder_123 (by decide) ?_
            rw [eF] at hA
            refine ihq (s + 1) υ (by omega) (by omega) ⟨(hS.1.tr (eq9.aI (by decide))).tr (u1.mono (fun k hk => by omega)), fun i a => ?_, fun x a b => ?_, fun x a b => ?_, fun x a b => ?_⟩ (fun x a b => ?_) (fun s2 a b => if y : s2 = s then (by rw [y]; exact hA) else hp2 s2 a (by omega)) _
            · rw [(u1 97 (by decide)).1]; exact gx i a
            · rw [(u1 122 (by decide)).1, gk 122 (by decide)]; exact hS.2.2.1 x a b
            · rw [(u1 100 (by decide)).1, gk 100 (by decide)]; exact hS.2.2.2.1 x a b
            · rw [u2 x a b, gk 101 (by decide)]; exact hS.2.2.2.2 x a b
            · rw [(u1 100 (by decide)).1, gk 100 (by decide)]; exact hW x a b
      have Kw : ∀ (q : Nat) (j : Nat) (τ : S9), j + q = n.toNat → (eq9 (fun k => k ≠ 97 ∧ k ≠ 100 ∧ k ≠ 101 ∧ k ≠ 118 ∧ k ≠ 119 ∧ k ≠ 120 ∧ k ≠ 121 ∧ k ≠ 122) σ τ ∧ (∀ i, i ≠ 6 → gI τ 97 i = gI σ 97 i) ∧ (∀ x, 0 ≤ x → x < n → gI τ 122 x = gI σ 100 x) ∧ (∀ x, n ≤ x → x < 6 → gI τ 100 x = gI σ 100 x) ∧ (∀ x, 0 ≤ x → x < 6 → gI τ 101 x = gI σ 101 x)) → (∀ x, n - 1 - j < x → x < n → gI τ 100 x = tw9 n w x) → Vv (d + 4) mX10_findOrder 68 [.ref 97, .int (iI stt), .int (iI (3 ^ n.toNat)), .int (iI w), .int (iI (w / 3 ^ j)), .int (iI (n - 1 - j))] [] τ (QI P) := by
        intro q
        induction q with
        | zero =>
          intro j τ hj hS hW
          refine v_iload dX10_findOrder_68 rfl ?_
          refine v_if_lt (tgt := 96) dX10_findOrder_70 (by decide) (by omega) (fun q70 => ?_) (fun q70 => absurd q70 (by omega))
          refine v_iconst dX10_findOrder_96 ?_
          refine v_istore (lv' := [_, _, _, _, _, _]) dX10_findOrder_97 (Nat.le_of_ble_eq_true rfl) rfl rfl ?_
          exact Ks 2 0 τ (by omega) (by omega) hS (fun x a b => hW x (by omega) b) (fun s2 a b => by omega) _
        | succ q ihq =>
          intro j τ hj hS hW
          have h3 := pow9 (b := 3) (by decide) j
          have q1 : 0 ≤ w / 3 ^ j := Int.ediv_nonneg hw (by omega)
          have q2 : w / 3 ^ j ≤ w := Int.ediv_le_self _ hw
          have e3 : w / 3 ^ j / 3 = w / 3 ^ (j + 1) := by rw [Int.ediv_ediv, if_neg (by omega), Int.sub_zero, Int.pow_succ]
          refine v_iload dX10_findOrder_68 rfl ?_
          refine v_if_lt (tgt := 96) dX10_findOrder_70 (by decide) (by omega) (fun q70 => absurd q70 (by omega)) (fun q70 => ?_)
          refine v_aload_n dX10_findOrder_73 rfl ?_
          refine v_getR (k1 := 100) dX10_findOrder_74 s_97 fX10_22 rfl ?_
          refine v_iload dX10_findOrder_77 rfl ?_
          refine v_iload dX10_findOrder_79 rfl ?_
          refine v_iconst dX10_findOrder_81 ?_
          refine v_irem dX10_findOrder_82 (ine9 (by decide)) (irem9 (by omega) (by decide)) ?_
          refine v_iastore dX10_findOrder_83 s_100 (by omega) ?_
          refine v_iload dX10_findOrder_84 rfl ?_
          refine v_iconst dX10_findOrder_86 ?_
          refine v_idiv dX10_findOrder_87 (ine9 (by decide)) (idiv9 (by omega) (by decide)) ?_
          refine v_istore (lv' := [_, _, _, _, _, _]) dX10_findOrder_88 (Nat.le_of_ble_eq_true rfl) rfl rfl ?_
          refine v_iinc (lv' := [_, _, _, _, _, _]) dX10_findOrder_90 rfl (Nat.le_of_ble_eq_true rfl) rfl rfl ?_
          refine v_goto (tgt := 68) dX10_findOrder_93 (by decide) ?_
          rw [e3, show n - 1 - (j : Int) + -1 = n - 1 - ((j + 1 : Nat) : Int) by omega]
          refine ihq (j + 1) _ (by omega) ⟨hS.1.tr (eq9.aI (by decide)), fun i a => ?_, fun x a b => ?_, fun x a b => ?_, fun x a b => ?_⟩ (fun x a b => ?_)
          · rw [gI_aI_ne (by decide)]; exact hS.2.1 i a
          · rw [gI_aI_ne (by decide)]; exact hS.2.2.1 x a b
          · rw [gI_aI_eq, up9_ne (by omega)]; exact hS.2.2.2.1 x a b
          · rw [gI_aI_ne (by decide)]; exact hS.2.2.2.2 x a b
          · rw [gI_aI_eq]
            by_cases e : x = n - 1 - j
            · rw [e, up9_eq]; unfold tw9; rw [show (n - 1 - (n - 1 - (j : Int))).toNat = j by omega]
            · rw [up9_ne e]; exact hW x (by omega) b
      have z0 : gI τ 97 0 = n := by rw [hS.2.1 0 (by decide)]; exact c.1
      refine v_iload_n dX10_findOrder_52 rfl ?_
      refine v_iload_n dX10_findOrder_53 rfl ?_
      refine v_icmp_ge (tgt := 132) dX10_findOrder_54 (by decide) (by omega) (fun q54 => absurd q54 (by omega)) (fun q54 => ?_)
      refine v_iload_n dX10_findOrder_57 rfl ?_
      refine v_istore (lv' := [_, _, _, _, _, _]) dX10_findOrder_58 (Nat.le_of_ble_eq_true rfl) rfl rfl ?_
      refine v_aload_n dX10_findOrder_60 rfl ?_
      refine v_getI (ji := 0) dX10_findOrder_61 s_97 fX10_9 rfl ?_
      rw [z0]
      refine v_iconst dX10_findOrder_64 ?_
      refine v_isub dX10_findOrder_65 ?_
      refine v_istore (lv' := [_, _, _, _, _, _]) dX10_findOrder_66 (Nat.le_of_ble_eq_true rfl) rfl rfl ?_
      have h8 := Kw n.toNat 0 τ (by omega) hS (fun x a b => by omega)
      rw [Int.pow_zero, Int.ediv_one, show n - 1 - ((0 : Nat) : Int) = n - 1 by omega] at h8
      exact h8
  have K0 : n ≤ 4 → ∀ (m : Nat) (k : Nat) (τ : S9), k + m = n.toNat → eq9 (fun k => k ≠ 122) σ τ → (∀ x : Int, 0 ≤ x → x < k → gI τ 122 x = gI σ 100 x) → Vv (d + 4) mX10_findOrder 20 [.ref 97, .int (iI stt), .int (iI (3 ^ k)), .int (iI k), .null, .null] [] τ (QI P) := by
    intro hn4 m
    induction m with
    | zero =>
      intro k τ hk he hI
      have z0 : gI τ 97 0 = n := by rw [(he 97 (by decide)).1]; exact c.1
      refine v_iload_n dX10_findOrder_20 rfl ?_
      refine v_aload_n dX10_findOrder_21 rfl ?_
      refine v_getI (ji := 0) dX10_findOrder_22 s_97 fX10_9 rfl ?_
      rw [z0]
      refine v_icmp_ge (tgt := 50) dX10_findOrder_25 (by decide) (by omega) (fun q25 => ?_) (fun q25 => absurd q25 (by omega))
      refine v_iconst dX10_findOrder_50 ?_
      refine v_istore_n (lv' := [_, _, _, _, _, _]) dX10_findOrder_51 (Nat.le_of_ble_eq_true rfl) rfl rfl ?_
      rw [show k = n.toNat by omega]
      exact K1 hn4 (3 ^ n.toNat : Int).toNat 0 τ (by omega) (by have := pow9 (b := 3) (by decide) n.toNat; omega) ⟨he.mono (fun k hk => by omega), fun i _ => by rw [(he 97 (by decide)).1], fun x a b => hI x a (by omega), fun x a b => by rw [(he 100 (by decide)).1], fun x a b => by rw [(he 101 (by decide)).1]⟩ (fun w2 s2 a b => by omega) _ _
    | succ m ih =>
      intro k τ hk he hI
      have z0 : gI τ 97 0 = n := by rw [(he 97 (by decide)).1]; exact c.1
      have z100 : gI τ 100 = gI σ 100 := (he 100 (by decide)).1
      refine v_iload_n dX10_findOrder_20 rfl ?_
      refine v_aload_n dX10_findOrder_21 rfl ?_
      refine v_getI (ji := 0) dX10_findOrder_22 s_97 fX10_9 rfl ?_
      rw [z0]
      refine v_icmp_ge (tgt := 50) dX10_findOrder_25 (by decide) (by omega) (fun q25 => absurd q25 (by omega)) (fun q25 => ?_)
      refine v_aload_n dX10_findOrder_28 rfl ?_
      refine v_getR (k1 := 122) dX10_findOrder_29 s_97 fX10_91 rfl ?_
      refine v_iload_n dX10_findOrder_32 rfl ?_
      refine v_aload_n dX10_findOrder_33 rfl ?_
      refine v_getR (k1 := 100) dX10_findOrder_34 s_97 fX10_22 rfl ?_
      refine v_iload_n dX10_findOrder_37 rfl ?_
      refine v_iaload dX10_findOrder_38 s_100 (by omega) ?_
      rw [z100]
      refine v_iastore dX10_findOrder_39 s_122 (by omega) ?_
      refine v_iload_n dX10_findOrder_40 rfl ?_
      refine v_iconst dX10_findOrder_41 ?_
      refine v_imul dX10_findOrder_42 ?_
      refine v_istore_n (lv' := [_, _, _, _, _, _]) dX10_findOrder_43 (Nat.le_of_ble_eq_true rfl) rfl rfl ?_
      refine v_iinc (lv' := [_, _, _, _, _, _]) dX10_findOrder_44 rfl (Nat.le_of_ble_eq_true rfl) rfl rfl ?_
      refine v_goto (tgt := 20) dX10_findOrder_47 (by decide) ?_
      have h8 := ih (k + 1) _ (by omega) (he.tr (eq9.aI (k := 122) (f := up9 (gI τ 122) k (gI σ 100 k)) (by omega))) (fun x a b => ?_)
      · rw [Int.pow_succ, show ((k + 1 : Nat) : Int) = (k : Int) + 1 by omega] at h8
        exact h8
      · rw [gI_aI_eq]
        by_cases e : x = k
        · rw [e, up9_eq]
        · rw [up9_ne e]; exact hI x a (by omega)
  refine v_aload_n dX10_findOrder_0 rfl ?_
  refine v_getI (ji := 0) dX10_findOrder_1 s_97 fX10_9 rfl ?_
  rw [c.1]
  refine v_iconst dX10_findOrder_4 ?_
  refine v_icmp_le (tgt := 11) dX10_findOrder_5 (by decide) (by omega) (fun q5 => ?_) (fun q5 => ?_)
  · refine v_aload_n dX10_findOrder_11 rfl ?_
    refine v_getI (ji := 6) dX10_findOrder_12 s_97 fX10_130 rfl ?_
    rw [c.2.2.1]
    refine v_istore_n (lv' := [_, _, _, _, _, _]) dX10_findOrder_15 (Nat.le_of_ble_eq_true rfl) rfl rfl ?_
    refine v_iconst dX10_findOrder_16 ?_
    refine v_istore_n (lv' := [_, _, _, _, _, _]) dX10_findOrder_17 (Nat.le_of_ble_eq_true rfl) rfl rfl ?_
    refine v_iconst dX10_findOrder_18 ?_
    refine v_istore_n (lv' := [_, _, _, _, _, _]) dX10_findOrder_19 (Nat.le_of_ble_eq_true rfl) rfl rfl ?_
    have h8 := K0 (by omega) n.toNat 0 σ (by omega) eq9.rf (fun x a b => by omega)
    rw [Int.pow_zero] at h8
    exact h8
  · refine v_bipush dX10_findOrder_8 (by decide) ?_
    exact v_ireturn dX10_findOrder_10 rfl (h1 (by omega))
end
