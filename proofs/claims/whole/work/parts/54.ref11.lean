/-- factors that are a certificate, for the reference -/
def FD9 (n R : Int) (lf rg : Int → List Int) : (Int → Int) → Prop := fun e => (∀ x, 0 ≤ x → x < n → sm9 e (fun r => bl9 lf rg r x) R.toNat ≤ 0) ∧ ∃ k, 0 ≤ k ∧ k < R ∧ e k ≠ 0
section
variable {d : Nat} {n R : Int} {lf rg : Int → List Int} {wt lev : Int → Int} {stt : Int} {ap : Int → UInt32} {str : List Int} {σ : S9}
theorem c_X10_findCertificate {P : Int → S9 → Prop} (v : Va n R lf rg wt lev stt ap str) (c : SyMn σ n R lf rg wt lev stt ap str) (h2 : All9 4 R.toNat (FD9 n R lf rg) → ∀ τ, eq9 (fun k => k ≠ 120) σ τ → P (-6) τ) (h3 : ∀ g, Fst9 4 R.toNat (FD9 n R lf rg) g → ∀ τ, eq9 (fun k => k ≠ 120) σ τ → P (val9 4 g R.toNat) τ) : Cc (d + 3) mX10_findCertificate [.ref 97] σ (QI P) := by
  have hn := v.1
  have hR := v.2.1
  refine Cc_of (by decide +kernel) (fun _ => Nat.le_of_ble_eq_true rfl) rfl (lv := [_, _, _, _, _, _]) ?_
  have sb : ∀ (e : Int → Int) (x : Int) (m : Nat), (m : Int) ≤ R → Dg9 4 e m → -144 ≤ sm9 e (fun r => bl9 lf rg r x) m ∧ sm9 e (fun r => bl9 lf rg r x) m ≤ 144 := fun e x m hm he => by
    have := sm9_bd (f := e) (g := fun r => bl9 lf rg r x) (B := 3) (C := 6) (by decide) (by decide) m (fun y a b => ⟨by have := he y a b; omega, v.bal ⟨a, by omega⟩ x⟩)
    omega
  have K : ∀ (fuel : Nat) (τ : S9), eq9 (fun k => k ≠ 120) σ τ → Dg9 4 (gI τ 120) R.toNat → Non9 4 R.toNat (FD9 n R lf rg) (val9 4 (gI τ 120) R.toNat) → ¬ FD9 n R lf rg (gI τ 120) → (4 : Int) ^ R.toNat - val9 4 (gI τ 120) R.toNat ≤ fuel → ∀ l1 l2 l3 l4 l5, Vv (d + 3) mX10_findCertificate 4 [.ref 97, l1, l2, l3, l4, l5] [] τ (QI P) := by
    intro fuel
    have hb : (0 : Int) < 4 := by decide
    induction fuel with
    | zero =>
      intro τ he hD hN hnF hf l1 l2 l3 l4 l5
      exfalso
      have := (val9_bd hb hD).2
      omega
    | succ fuel ih =>
      intro τ he hD hN hnF hf l1 l2 l3 l4 l5
      have c2 := c.sou he
      have cong : ∀ (f g : Int → Int), (∀ k : Int, 0 ≤ k → k < R.toNat → f k = g k) → FD9 n R lf rg f → FD9 n R lf rg g := fun f g hk hF => ⟨fun x a b => by
        rw [← sm9_congr (f := f) (f' := g) (g := fun r => bl9 lf rg r x) (g' := fun r => bl9 lf rg r x) R.toNat (fun y c d => ⟨hk y c d, rfl⟩)]
        exact hF.1 x a b, by obtain ⟨k, a, b, q⟩ := hF.2; exact ⟨k, a, b, by rw [← hk k a (by omega)]; exact q⟩⟩
      have hN2 := Non9.next hb hD hN (fun e he2 hk hFe => hnF (cong e _ hk hFe))
      have body : ∀ υ, eq9 (fun k => k ≠ 120) σ υ → Dg9 4 (gI υ 120) R.toNat → val9 4 (gI υ 120) R.toNat = val9 4 (gI τ 120) R.toNat + 1 → ∀ l1 l2 l3 l4 l5, Vv (d + 3) mX10_findCertificate 16 [.ref 97, l1, l2, l3, l4, l5] [] υ (QI P) := by
        intro υ hu hDu hvu l1 l2 l3 l4 l5
        have c3 := c.sou hu
        have hnz : ∃ k, 0 ≤ k ∧ k < R ∧ gI υ 120 k ≠ 0 := Classical.byContradiction (fun q => by
          have h8 := val9_zero (b := 4) (e := gI υ 120) 0 R.toNat (fun k a b => Classical.byContradiction (fun q2 => q ⟨k, by omega, by omega, q2⟩))
          rw [Nat.zero_add, val9, Int.zero_mul, hvu] at h8
          have := (val9_bd hb hD).1
          omega)
        have Kv : ∀ (b : Int), (b = 0 ∨ b = 1) → (b = 1 ↔ ∀ x, 0 ≤ x → x < n → sm9 (gI υ 120) (fun r => bl9 lf rg r x) R.toNat ≤ 0) → ∀ (m : Nat) (r : Int), 0 ≤ r → r + m = R → ∀ l4 l5, Vv (d + 3) mX10_findCertificate 94 [.ref 97, .int (iI b), .int (iI (val9 4 (gI υ 120) r.toNat)), .int (iI r), l4, l5] [] υ (QI P) := by
          intro b hb01 hbI m
          induction m with
          | zero =>
            intro r hr hm l4 l5
            have er : r.toNat = R.toNat := by omega
            refine v_iload_n dX10_findCertificate_94 rfl ?_
            refine v_aload_n dX10_findCertificate_95 rfl ?_
            refine v_getI (ji := 1) dX10_findCertificate_96 s_97 fX10_119 rfl ?_
            rw [c3.2.1]
            refine v_icmp_ge (tgt := 119) dX10_findCertificate_99 (by decide) (by omega) (fun q99 => ?_) (fun q99 => absurd q99 (by omega))
            refine v_iload_n dX10_findCertificate_119 rfl ?_
            refine v_if_eq (tgt := 125) dX10_findCertificate_120 (by decide) (by omega) (fun q120 => ?_) (fun q120 => ?_)
            · refine v_goto (tgt := 4) dX10_findCertificate_125 (by decide) ?_
              exact ih υ hu hDu (by rw [hvu]; exact hN2) (fun hF => absurd (hbI.mpr hF.1) (by omega)) (by rw [hvu]; omega) _ _ _ _ _
            · refine v_iload_n dX10_findCertificate_123 rfl ?_
              exact v_ireturn dX10_findCertificate_124 rfl (by rw [er]; exact h3 _ ⟨hDu, ⟨hbI.mp (by omega), hnz⟩, by rw [hvu]; exact hN2⟩ υ hu)
          | succ m ih3 =>
            intro r hr hm l4 l5
            have ih3 := ih3 (r + 1) (by omega) (by omega)
            rw [show (r + 1).toNat = r.toNat + 1 by omega, val9, show ((r.toNat : Nat) : Int) = r by omega, Int.mul_comm] at ih3
            refine v_iload_n dX10_findCertificate_94 rfl ?_
            refine v_aload_n dX10_findCertificate_95 rfl ?_
            refine v_getI (ji := 1) dX10_findCertificate_96 s_97 fX10_119 rfl ?_
            rw [c3.2.1]
            refine v_icmp_ge (tgt := 119) dX10_findCertificate_99 (by decide) (by omega) (fun q99 => absurd q99 (by omega)) (fun q99 => ?_)
            refine v_iconst dX10_findCertificate_102 ?_
            refine v_iload_n dX10_findCertificate_103 rfl ?_
            refine v_imul dX10_findCertificate_104 ?_
            refine v_aload_n dX10_findCertificate_105 rfl ?_
            refine v_getR (k1 := 120) dX10_findCertificate_106 s_97 fX10_85 rfl ?_
            refine v_iload_n dX10_findCertificate_109 rfl ?_
            refine v_iaload dX10_findCertificate_110 s_120 (by omega) ?_
            refine v_iadd dX10_findCertificate_111 ?_
            refine v_istore_n (lv' := [_, _, _, _, _, _]) dX10_findCertificate_112 (Nat.le_of_ble_eq_true rfl) rfl rfl ?_
            refine v_iinc (lv' := [_, _, _, _, _, _]) dX10_findCertificate_113 rfl (Nat.le_of_ble_eq_true rfl) rfl rfl ?_
            refine v_goto (tgt := 94) dX10_findCertificate_116 (by decide) ?_
            exact ih3 _ _
        have Kx : ∀ (m : Nat) (x b : Int), 0 ≤ x → x + m = n → (b = 0 ∨ b = 1) → (b = 1 ↔ ∀ y, 0 ≤ y → y < x → sm9 (gI υ 120) (fun r => bl9 lf rg r y) R.toNat ≤ 0) → ∀ l4 l5, Vv (d + 3) mX10_findCertificate 22 [.ref 97, .int (iI b), .int (iI 0), .int (iI x), l4, l5] [] υ (QI P) := by
          intro m
          induction m with
          | zero =>
            intro x b hx hm hb01 hI l4 l5
            refine v_iload_n dX10_findCertificate_22 rfl ?_
            refine v_aload_n dX10_findCertificate_23 rfl ?_
            refine v_getI (ji := 0) dX10_findCertificate_24 s_97 fX10_9 rfl ?_
            rw [c3.1]
            refine v_icmp_ge (tgt := 92) dX10_findCertificate_27 (by decide) (by omega) (fun q27 => ?_) (fun q27 => absurd q27 (by omega))
            refine v_iconst dX10_findCertificate_92 ?_
            refine v_istore_n (lv' := [_, _, _, _, _, _]) dX10_findCertificate_93 (Nat.le_of_ble_eq_true rfl) rfl rfl ?_
            exact Kv b hb01 ⟨fun q y a c => hI.mp q y a (by omega), fun q => hI.mpr (fun y a c => q y a (by omega))⟩ R.toNat 0 (by omega) (by omega) _ _
          | succ m ih2 =>
            intro x b hx hm hb01 hI l4 l5
            have Kr : ∀ (q : Nat) (r : Int), 0 ≤ r → r + q = R → Vv (d + 3) mX10_findCertificate 36 [.ref 97, .int (iI b), .int (iI 0), .int (iI x), .int (iI (sm9 (gI υ 120) (fun r => bl9 lf rg r x) r.toNat)), .int (iI r)] [] υ (QI P) := by
              intro q
              induction q with
              | zero =>
                intro r hr hq
                have er : r.toNat = R.toNat := by omega
                have sbr := sb (gI υ 120) x R.toNat (by omega) hDu
                rw [er]
                refine v_iload dX10_findCertificate_36 rfl ?_
                refine v_aload_n dX10_findCertificate_38 rfl ?_
                refine v_getI (ji := 1) dX10_findCertificate_39 s_97 fX10_119 rfl ?_
                rw [c3.2.1]
                refine v_icmp_ge (tgt := 71) dX10_findCertificate_42 (by decide) (by omega) (fun q42 => ?_) (fun q42 => absurd q42 (by omega))
                refine v_iload_n dX10_findCertificate_71 rfl ?_
                refine v_if_eq (tgt := 84) dX10_findCertificate_72 (by decide) (by omega) (fun q72 => ?_) (fun q72 => ?_)
                · refine v_iconst dX10_findCertificate_84 ?_
                  refine v_istore_n (lv' := [_, _, _, _, _, _]) dX10_findCertificate_85 (Nat.le_of_ble_eq_true rfl) rfl rfl ?_
                  refine v_iinc (lv' := [_, _, _, _, _, _]) dX10_findCertificate_86 rfl (Nat.le_of_ble_eq_true rfl) rfl rfl ?_
                  refine v_goto (tgt := 22) dX10_findCertificate_89 (by decide) ?_
                  refine ih2 (x + 1) _ (by omega) (by omega) (by decide) ?_ _ _
                  first
                  | exact ⟨fun q => absurd q (by decide), fun q => absurd (hI.mpr (fun y a c => q y a (by omega))) (by omega)⟩
                  | exact ⟨fun q => absurd q (by decide), fun q => absurd (q x hx (by omega)) (by omega)⟩
                  | exact ⟨fun _ y a c => if e : y = x then (by rw [e]; exact q77) else hI.mp (by omega) y a (by omega), fun _ => rfl⟩
                · refine v_iload dX10_findCertificate_75 rfl ?_
                  refine v_if_gt (tgt := 84) dX10_findCertificate_77 (by decide) (by omega) (fun q77 => ?_) (fun q77 => ?_)
                  · refine v_iconst dX10_findCertificate_84 ?_
                    refine v_istore_n (lv' := [_, _, _, _, _, _]) dX10_findCertificate_85 (Nat.le_of_ble_eq_true rfl) rfl rfl ?_
                    refine v_iinc (lv' := [_, _, _, _, _, _]) dX10_findCertificate_86 rfl (Nat.le_of_ble_eq_true rfl) rfl rfl ?_
                    refine v_goto (tgt := 22) dX10_findCertificate_89 (by decide) ?_
                    refine ih2 (x + 1) _ (by omega) (by omega) (by decide) ?_ _ _
                    first
                    | exact ⟨fun q => absurd q (by decide), fun q => absurd (hI.mpr (fun y a c => q y a (by omega))) (by omega)⟩
                    | exact ⟨fun q => absurd q (by decide), fun q => absurd (q x hx (by omega)) (by omega)⟩
                    | exact ⟨fun _ y a c => if e : y = x then (by rw [e]; exact q77) else hI.mp (by omega) y a (by omega), fun _ => rfl⟩
                  · refine v_iconst dX10_findCertificate_80 ?_
                    refine v_goto (tgt := 85) dX10_findCertificate_81 (by decide) ?_
                    refine v_istore_n (lv' := [_, _, _, _, _, _]) dX10_findCertificate_85 (Nat.le_of_ble_eq_true rfl) rfl rfl ?_
                    refine v_iinc (lv' := [_, _, _, _, _, _]) dX10_findCertificate_86 rfl (Nat.le_of_ble_eq_true rfl) rfl rfl ?_
                    refine v_goto (tgt := 22) dX10_findCertificate_89 (by decide) ?_
                    refine ih2 (x + 1) _ (by omega) (by omega) (by decide) ?_ _ _
                    first
                    | exact ⟨fun q => absurd q (by decide), fun q => absurd (hI.mpr (fun y a c => q y a (by omega))) (by omega)⟩
                    | exact ⟨fun q => absurd q (by decide), fun q => absurd (q x hx (by omega)) (by omega)⟩
                    | exact ⟨fun _ y a c => if e : y = x then (by rw [e]; exact q77) else hI.mp (by omega) y a (by omega), fun _ => rfl⟩
              | succ q ihq =>
                intro r hr hq
                have ihq := ihq (r + 1) (by omega) (by omega)
                rw [show (r + 1).toNat = r.toNat + 1 by omega, sm9, show ((r.toNat : Nat) : Int) = r by omega] at ihq
                refine v_iload dX10_findCertificate_36 rfl ?_
                refine v_aload_n dX10_findCertificate_38 rfl ?_
                refine v_getI (ji := 1) dX10_findCertificate_39 s_97 fX10_119 rfl ?_
                rw [c3.2.1]
                refine v_icmp_ge (tgt := 71) dX10_findCertificate_42 (by decide) (by omega) (fun q42 => absurd q42 (by omega)) (fun q42 => ?_)
                refine v_iload dX10_findCertificate_45 rfl ?_
                refine v_aload_n dX10_findCertificate_47 rfl ?_
                refine v_getR (k1 := 120) dX10_findCertificate_48 s_97 fX10_85 rfl ?_
                refine v_iload dX10_findCertificate_51 rfl ?_
                refine v_iaload dX10_findCertificate_53 s_120 (by omega) ?_
                refine v_aload_n dX10_findCertificate_54 rfl ?_
                refine v_iload dX10_findCertificate_55 rfl ?_
                refine v_iload_n dX10_findCertificate_57 rfl ?_
                refine v_callVi2 dX10_findCertificate_58 kX10_159 s_97 (Nat.le_of_ble_eq_true rfl) (c_X10_balanceOf v c3 ⟨hr, by omega⟩ (by omega) ?_)
                refine v_imul dX10_findCertificate_61 ?_
                refine v_iadd dX10_findCertificate_62 ?_
                refine v_istore (lv' := [_, _, _, _, _, _]) dX10_findCertificate_63 (Nat.le_of_ble_eq_true rfl) rfl rfl ?_
                refine v_iinc (lv' := [_, _, _, _, _, _]) dX10_findCertificate_65 rfl (Nat.le_of_ble_eq_true rfl) rfl rfl ?_
                refine v_goto (tgt := 36) dX10_findCertificate_68 (by decide) ?_
                exact ihq
            refine v_iload_n dX10_findCertificate_22 rfl ?_
            refine v_aload_n dX10_findCertificate_23 rfl ?_
            refine v_getI (ji := 0) dX10_findCertificate_24 s_97 fX10_9 rfl ?_
            rw [c3.1]
            refine v_icmp_ge (tgt := 92) dX10_findCertificate_27 (by decide) (by omega) (fun q27 => absurd q27 (by omega)) (fun q27 => ?_)
            refine v_iconst dX10_findCertificate_30 ?_
            refine v_istore (lv' := [_, _, _, _, _, _]) dX10_findCertificate_31 (Nat.le_of_ble_eq_true rfl) rfl rfl ?_
            refine v_iconst dX10_findCertificate_33 ?_
            refine v_istore (lv' := [_, _, _, _, _, _]) dX10_findCertificate_34 (Nat.le_of_ble_eq_true rfl) rfl rfl ?_
            exact Kr R.toNat 0 (by omega) (by omega)
        refine v_iconst dX10_findCertificate_16 ?_
        refine v_istore_n (lv' := [_, _, _, _, _, _]) dX10_findCertificate_17 (Nat.le_of_ble_eq_true rfl) rfl rfl ?_
        refine v_iconst dX10_findCertificate_18 ?_
        refine v_istore_n (lv' := [_, _, _, _, _, _]) dX10_findCertificate_19 (Nat.le_of_ble_eq_true rfl) rfl rfl ?_
        refine v_iconst dX10_findCertificate_20 ?_
        refine v_istore_n (lv' := [_, _, _, _, _, _]) dX10_findCertificate_21 (Nat.le_of_ble_eq_true rfl) rfl rfl ?_
        exact Kx n.toNat 0 1 (by omega) (by omega) (Or.inr rfl) ⟨fun _ y a c => by omega, fun _ => rfl⟩ _ _
      refine v_aload_n dX10_findCertificate_4 rfl ?_
      refine v_aload_n dX10_findCertificate_5 rfl ?_
      refine v_getI (ji := 1) dX10_findCertificate_6 s_97 fX10_119 rfl ?_
      rw [c2.2.1]
      refine v_iconst dX10_findCertificate_9 ?_
      refine v_callVi2 dX10_findCertificate_10 kX10_186 s_97 (Nat.le_of_ble_eq_true rfl) (c_X10_next (by omega) (by omega) hD (fun υ u1 u2 u3 => ?_) (fun u1 υ u2 => ?_))
      · refine v_if_eq (tgt := 128) dX10_findCertificate_13 (by decide) (by decide) (fun q13 => absurd q13 (by decide)) (fun q13 => ?_)
        exact body υ (he.tr u1) u2 u3 _ _ _ _ _
      · refine v_if_eq (tgt := 128) dX10_findCertificate_13 (by decide) (by decide) (fun q13 => ?_) (fun q13 => absurd q13 (by decide))
        refine v_bipush dX10_findCertificate_128 (by decide) ?_
        exact v_ireturn dX10_findCertificate_130 rfl (h2 (fun e he2 => hN2 e he2 (by rw [u1]; exact (val9_bd hb he2).2)) υ (he.tr u2))
  refine v_aload_n dX10_findCertificate_0 rfl ?_
  refine v_callVv0 dX10_findCertificate_1 kX10_180 s_97 (Nat.le_of_ble_eq_true rfl) (c_X10_begin (fun τ e1 e2 => ?_))
  have e0 : val9 4 (gI τ 120) R.toNat = 0 := by
    have := val9_zero (b := 4) (e := gI τ 120) 0 R.toNat (fun k a b => e2 k (by omega) (by omega))
    rw [Nat.zero_add, val9, Int.zero_mul] at this
    exact this
  exact K ((4 : Int) ^ R.toNat).toNat τ e1 (fun k a b => by rw [e2 k a (by omega)]; omega) (fun e he hl => by rw [e0] at hl; have := val9_bd (by decide) he; omega) (fun ⟨_, k, a, b, q⟩ => q (e2 k a (by omega))) (by rw [e0]; have := pow9 (b := 4) (by decide) R.toNat; omega) _ _ _ _ _
end
