def Hit9 (l : List Int) (x : Int) (H : Nat) (k : Int) : Prop := ∃ y ∈ l, y = x ∨ (y < k ∧ H.testBit y.toNat = true)
theorem cnt9_pos {x : Int} {l : List Int} : 0 < cnt9 x l ↔ x ∈ l := by
  unfold cnt9
  rw [← List.count_pos_iff]
  omega
theorem ishr64 {a : Nat} {k : Int} (ha : a < 64) (hk : 0 ≤ k ∧ k < 6) : iI (a : Int) >>> (iI k &&& 31) = iI ((a / 2 ^ k.toNat : Nat) : Int) := by
  have : ∀ (a : Fin 64) (k : Fin 6), iI ((a.1 : Nat) : Int) >>> (iI ((k.1 : Nat) : Int) &&& 31) = iI ((a.1 / 2 ^ k.1 : Nat) : Int) := by decide +kernel
  have h := this ⟨a, ha⟩ ⟨k.toNat, by omega⟩
  rw [show (((⟨k.toNat, by omega⟩ : Fin 6).1 : Nat) : Int) = k by show ((k.toNat : Nat) : Int) = k; omega] at h
  exact h
theorem iand1 {a : Nat} : iI (a : Int) &&& iI 1 = iI ((a % 2 : Nat) : Int) := by
  have := iand9 (a := (a : Int)) (m := 1) 1 (by omega) (by decide) rfl
  rw [this]
  congr 1
theorem tb_div {a : Nat} {k : Nat} : ((a / 2 ^ k % 2 : Nat) : Int) = 1 ↔ a.testBit k = true := by
  rw [Nat.testBit_eq_decide_div_mod_eq, decide_eq_true_iff]
  omega
section
variable {d : Nat} {n R : Int} {lf rg : Int → List Int} {wt lev : Int → Int} {stt : Int} {ap : Int → UInt32} {str : List Int} {σ : S9}
theorem c_X10_reachableLetters {x : Int} {P : Int → S9 → Prop} (v : Va n R lf rg wt lev stt ap str) (c : SyMn σ n R lf rg wt lev stt ap str) (hx : (-2147483648 ≤ x ∧ x < 2147483648)) (h1 : ¬ (0 ≤ x ∧ x < n) → P (-2) σ) (h2 : 0 ≤ x ∧ x < n → ∀ S : Nat, Rch9 R lf rg x S → P S σ) : Cc (d + 2) mX10_reachableLetters [.ref 97, .int (iI x)] σ (QI P) := by
  have hn := v.1
  have hR := v.2.1
  refine Cc_of (by decide +kernel) (fun _ => Nat.le_of_ble_eq_true rfl) rfl (lv := [_, _, _, _, _, _, _, _]) ?_
  have ll : ∀ r, 0 ≤ r → r < R → (∀ y ∈ lf r, 0 ≤ y ∧ y < n) ∧ ∀ y ∈ rg r, 0 ≤ y ∧ y < n := fun r a b => ⟨(v.2.2.1 r a b).1.1, (v.2.2.1 r a b).2.2.1⟩
  have K : 0 ≤ x ∧ x < n → ∀ (fuel : Nat) (H : Nat), H < 64 → (∀ S', Clo9 R lf rg x S' → ∀ i, H.testBit i = true → S'.testBit i = true) → 7 ≤ pc9 H + fuel → ∀ l4 l5 l6 l7, Vv (d + 2) mX10_reachableLetters 15 [.ref 97, .int (iI x), .int (iI H), .int (iI 1), l4, l5, l6, l7] [] σ (QI P) := by
    intro hxn fuel
    induction fuel with
    | zero =>
      intro H hH hmin hf l4 l5 l6 l7
      exfalso
      have := pc9_le H
      omega
    | succ fuel ih =>
      intro H hH hmin hf l4 l5 l6 l7
      have Kr : ∀ (m : Nat) (r : Int) (S : Nat), 0 ≤ r → r + m = R → S < 64 → (∀ S', Clo9 R lf rg x S' → ∀ i, S.testBit i = true → S'.testBit i = true) → (∀ i, H.testBit i = true → S.testBit i = true) → (∀ s, 0 ≤ s → s < r → (∃ y ∈ lf s, y = x ∨ H.testBit y.toNat = true) → ∀ z ∈ rg s, S.testBit z.toNat = true) → ∀ l6 l7, Vv (d + 2) mX10_reachableLetters 25 [.ref 97, .int (iI x), .int (iI S), .int (iI 1), .int (iI H), .int (iI r), l6, l7] [] σ (QI P) := by
        intro m
        induction m with
        | zero =>
          intro r S hr hm hS hminS hsub hcl l6 l7
          have K0 : S = H → ∀ l4 l5 l6 l7, Vv (d + 2) mX10_reachableLetters 15 [.ref 97, .int (iI x), .int (iI S), .int (iI 0), l4, l5, l6, l7] [] σ (QI P) := by
            intro e l4 l5 l6 l7
            refine v_iload_n dX10_reachableLetters_15 rfl ?_
            refine v_if_eq (tgt := 172) dX10_reachableLetters_16 (by decide) (by decide) (fun q16 => ?_) (fun q16 => absurd rfl q16)
            refine v_iload_n dX10_reachableLetters_172 rfl ?_
            exact v_ireturn dX10_reachableLetters_173 rfl (h2 hxn S ⟨fun s a b hy => hcl s a (by omega) (by rw [← e]; exact hy), hminS⟩)
          refine v_iload dX10_reachableLetters_25 rfl ?_
          refine v_aload_n dX10_reachableLetters_27 rfl ?_
          refine v_getI (ji := 1) dX10_reachableLetters_28 s_97 fX10_119 rfl ?_
          rw [c.2.1]
          refine v_icmp_ge (tgt := 157) dX10_reachableLetters_31 (by decide) (by omega) (fun q31 => ?_) (fun q31 => absurd q31 (by omega))
          refine v_iload_n dX10_reachableLetters_157 rfl ?_
          refine v_iload dX10_reachableLetters_158 rfl ?_
          refine v_icmp_eq (tgt := 167) dX10_reachableLetters_160 (by decide) (by omega) (fun q160 => ?_) (fun q160 => ?_)
          · refine v_iconst dX10_reachableLetters_167 ?_
            refine v_istore_n (lv' := [_, _, _, _, _, _, _, _]) dX10_reachableLetters_168 (Nat.le_of_ble_eq_true rfl) rfl rfl ?_
            refine v_goto (tgt := 15) dX10_reachableLetters_169 (by decide) ?_
            first
            | exact K0 (by omega) _ _ _ _
            | exact ih S hS hminS (by have := pc9_lt hH hS (or_sub hsub) (fun q => by omega); omega) _ _ _ _
          · refine v_iconst dX10_reachableLetters_163 ?_
            refine v_goto (tgt := 168) dX10_reachableLetters_164 (by decide) ?_
            refine v_istore_n (lv' := [_, _, _, _, _, _, _, _]) dX10_reachableLetters_168 (Nat.le_of_ble_eq_true rfl) rfl rfl ?_
            refine v_goto (tgt := 15) dX10_reachableLetters_169 (by decide) ?_
            first
            | exact K0 (by omega) _ _ _ _
            | exact ih S hS hminS (by have := pc9_lt hH hS (or_sub hsub) (fun q => by omega); omega) _ _ _ _
        | succ m ih2 =>
          intro r S hr hm hS hminS hsub hcl l6 l7
          have zr : 0 ≤ r ∧ r < R := by omega
          have Kadd : ∀ (hit : ∃ y ∈ lf r, y = x ∨ H.testBit y.toNat = true) (q : Nat) (k : Int) (T : Nat), 0 ≤ k → k + q = n → T < 64 → (∀ S', Clo9 R lf rg x S' → ∀ i, T.testBit i = true → S'.testBit i = true) → (∀ i, S.testBit i = true → T.testBit i = true) → (∀ z ∈ rg r, z < k → T.testBit z.toNat = true) → Vv (d + 2) mX10_reachableLetters 108 [.ref 97, .int (iI x), .int (iI T), .int (iI 1), .int (iI H), .int (iI r), .int (iI 1), .int (iI k)] [] σ (QI P) := by
            intro hit q
            induction q with
            | zero =>
              intro k T hk hq hT hminT hsubT hz
              refine v_iload dX10_reachableLetters_108 rfl ?_
              refine v_aload_n dX10_reachableLetters_110 rfl ?_
              refine v_getI (ji := 0) dX10_reachableLetters_111 s_97 fX10_9 rfl ?_
              rw [c.1]
              refine v_icmp_ge (tgt := 151) dX10_reachableLetters_114 (by decide) (by omega) (fun q114 => ?_) (fun q114 => absurd q114 (by omega))
              refine v_iinc (lv' := [_, _, _, _, _, _, _, _]) dX10_reachableLetters_151 rfl (Nat.le_of_ble_eq_true rfl) rfl rfl ?_
              refine v_goto (tgt := 25) dX10_reachableLetters_154 (by decide) ?_
              exact ih2 (r + 1) T (by omega) (by omega) hT hminT (fun i hi => hsubT i (hsub i hi)) (fun s a b hy z hzz => if e : s = r then (by rw [e] at hzz; exact hz z hzz (by have := (ll r zr.1 zr.2).2 z hzz; omega)) else hsubT _ (hcl s a (by omega) hy z hzz)) _ _
            | succ q ihq =>
              intro k T hk hq hT hminT hsubT hz
              have cb := cnt9_bd k (rg r)
              have l6 := (v.or zr).2
              have lx : 2 ^ k.toNat < 64 := (Nat.pow_lt_pow_right (by decide) (by omega) : 2 ^ k.toNat < 2 ^ 6)
              refine v_iload dX10_reachableLetters_108 rfl ?_
              refine v_aload_n dX10_reachableLetters_110 rfl ?_
              refine v_getI (ji := 0) dX10_reachableLetters_111 s_97 fX10_9 rfl ?_
              rw [c.1]
              refine v_icmp_ge (tgt := 151) dX10_reachableLetters_114 (by decide) (by omega) (fun q114 => absurd q114 (by omega)) (fun q114 => ?_)
              refine v_iload dX10_reachableLetters_117 rfl ?_
              refine v_if_eq (tgt := 151) dX10_reachableLetters_119 (by decide) (by decide) (fun q119 => absurd q119 (by decide)) (fun q119 => ?_)
              refine v_iload_n dX10_reachableLetters_122 rfl ?_
              refine v_aload_n dX10_reachableLetters_123 rfl ?_
              refine v_iload dX10_reachableLetters_124 rfl ?_
              refine v_iconst dX10_reachableLetters_126 ?_
              refine v_iload dX10_reachableLetters_127 rfl ?_
              refine v_callVi3 dX10_reachableLetters_129 kX10_155 s_97 (Nat.le_of_ble_eq_true rfl) (c_X10_occ1 v c zr (by omega) ?_)
              refine v_if_le (tgt := 142) dX10_reachableLetters_132 (by decide) (by omega) (fun q132 => ?_) (fun q132 => ?_)
              · refine v_iconst dX10_reachableLetters_142 ?_
                first
                | skip
                | skip
                refine v_ior dX10_reachableLetters_143 (by first | exact ior64 hT lx | exact ior64 (b := 0) hT (by decide)) ?_
                refine v_istore_n (lv' := [_, _, _, _, _, _, _, _]) dX10_reachableLetters_144 (Nat.le_of_ble_eq_true rfl) rfl rfl ?_
                refine v_iinc (lv' := [_, _, _, _, _, _, _, _]) dX10_reachableLetters_145 rfl (Nat.le_of_ble_eq_true rfl) rfl rfl ?_
                refine v_goto (tgt := 108) dX10_reachableLetters_148 (by decide) ?_
                first
                | exact ihq (k + 1) (T ||| 2 ^ k.toNat) (by omega) (by omega) (or64 hT lx) (fun S2 hC i hi => by rw [Nat.testBit_or, Nat.testBit_two_pow, Bool.or_eq_true, decide_eq_true_iff] at hi; exact hi.elim (hminT S2 hC i) (fun e => by rw [← e]; obtain ⟨y, y1, y2⟩ := hit; exact hC r zr.1 zr.2 ⟨y, y1, y2.imp id (hmin S2 hC _)⟩ k (cnt9_pos.mp (by omega)))) (fun i hi => by rw [Nat.testBit_or, hsubT i hi]; rfl) (fun z hz1 hz2 => by rw [Nat.testBit_or, Nat.testBit_two_pow, Bool.or_eq_true, decide_eq_true_iff]; exact if e : z = k then Or.inr (by rw [e]) else Or.inl (hz z hz1 (by omega)))
                | (rw [show T ||| 0 = T from Nat.or_zero T]; exact ihq (k + 1) T (by omega) (by omega) hT hminT hsubT (fun z hz1 hz2 => if e : z = k then absurd (cnt9_pos.mpr (e ▸ hz1)) (by omega) else hz z hz1 (by omega)))
              · refine v_iconst dX10_reachableLetters_135 ?_
                refine v_iload dX10_reachableLetters_136 rfl ?_
                refine v_ishl dX10_reachableLetters_138 (ishl64 (by omega)) ?_
                refine v_goto (tgt := 143) dX10_reachableLetters_139 (by decide) ?_
                first
                | skip
                | skip
                refine v_ior dX10_reachableLetters_143 (by first | exact ior64 hT lx | exact ior64 (b := 0) hT (by decide)) ?_
                refine v_istore_n (lv' := [_, _, _, _, _, _, _, _]) dX10_reachableLetters_144 (Nat.le_of_ble_eq_true rfl) rfl rfl ?_
                refine v_iinc (lv' := [_, _, _, _, _, _, _, _]) dX10_reachableLetters_145 rfl (Nat.le_of_ble_eq_true rfl) rfl rfl ?_
                refine v_goto (tgt := 108) dX10_reachableLetters_148 (by decide) ?_
                first
                | exact ihq (k + 1) (T ||| 2 ^ k.toNat) (by omega) (by omega) (or64 hT lx) (fun S2 hC i hi => by rw [Nat.testBit_or, Nat.testBit_two_pow, Bool.or_eq_true, decide_eq_true_iff] at hi; exact hi.elim (hminT S2 hC i) (fun e => by rw [← e]; obtain ⟨y, y1, y2⟩ := hit; exact hC r zr.1 zr.2 ⟨y, y1, y2.imp id (hmin S2 hC _)⟩ k (cnt9_pos.mp (by omega)))) (fun i hi => by rw [Nat.testBit_or, hsubT i hi]; rfl) (fun z hz1 hz2 => by rw [Nat.testBit_or, Nat.testBit_two_pow, Bool.or_eq_true, decide_eq_true_iff]; exact if e : z = k then Or.inr (by rw [e]) else Or.inl (hz z hz1 (by omega)))
                | (rw [show T ||| 0 = T from Nat.or_zero T]; exact ihq (k + 1) T (by omega) (by omega) hT hminT hsubT (fun z hz1 hz2 => if e : z = k then absurd (cnt9_pos.mpr (e ▸ hz1)) (by omega) else hz z hz1 (by omega)))
          have Kno : ¬ (∃ y ∈ lf r, y = x ∨ H.testBit y.toNat = true) → ∀ (k : Int), k = 0 → Vv (d + 2) mX10_reachableLetters 108 [.ref 97, .int (iI x), .int (iI S), .int (iI 1), .int (iI H), .int (iI r), .int (iI 0), .int (iI k)] [] σ (QI P) := by
            intro hit k hk0
            subst hk0
            refine v_iload dX10_reachableLetters_108 rfl ?_
            refine v_aload_n dX10_reachableLetters_110 rfl ?_
            refine v_getI (ji := 0) dX10_reachableLetters_111 s_97 fX10_9 rfl ?_
            rw [c.1]
            refine v_icmp_ge (tgt := 151) dX10_reachableLetters_114 (by decide) (by omega) (fun q114 => absurd q114 (by omega)) (fun q114 => ?_)
            refine v_iload dX10_reachableLetters_117 rfl ?_
            refine v_if_eq (tgt := 151) dX10_reachableLetters_119 (by decide) (by decide) (fun q119 => ?_) (fun q119 => absurd rfl q119)
            refine v_iinc (lv' := [_, _, _, _, _, _, _, _]) dX10_reachableLetters_151 rfl (Nat.le_of_ble_eq_true rfl) rfl rfl ?_
            refine v_goto (tgt := 25) dX10_reachableLetters_154 (by decide) ?_
            exact ih2 (r + 1) S (by omega) (by omega) hS hminS hsub (fun s a b hy => if e : s = r then absurd (e ▸ hy) hit else hcl s a (by omega) hy) _ _
          have Kh : ∀ (q : Nat) (k b : Int), 0 ≤ k → k + q = n → (b = 0 ∨ b = 1) → (b = 1 ↔ Hit9 (lf r) x H k) → Vv (d + 2) mX10_reachableLetters 55 [.ref 97, .int (iI x), .int (iI S), .int (iI 1), .int (iI H), .int (iI r), .int (iI b), .int (iI k)] [] σ (QI P) := by
            intro q
            induction q with
            | zero =>
              intro k b hk hq hb hI
              have hI2 : b = 1 ↔ ∃ y ∈ lf r, y = x ∨ H.testBit y.toNat = true := hI.trans ⟨fun ⟨y, a, e⟩ => ⟨y, a, e.imp id (fun z => z.2)⟩, fun ⟨y, a, e⟩ => ⟨y, a, e.imp id (fun z => ⟨by have := (ll r zr.1 zr.2).1 y a; omega, z⟩)⟩⟩
              refine v_iload dX10_reachableLetters_55 rfl ?_
              refine v_aload_n dX10_reachableLetters_57 rfl ?_
              refine v_getI (ji := 0) dX10_reachableLetters_58 s_97 fX10_9 rfl ?_
              rw [c.1]
              refine v_icmp_ge (tgt := 105) dX10_reachableLetters_61 (by decide) (by omega) (fun q61 => ?_) (fun q61 => absurd q61 (by omega))
              refine v_iconst dX10_reachableLetters_105 ?_
              refine v_istore (lv' := [_, _, _, _, _, _, _, _]) dX10_reachableLetters_106 (Nat.le_of_ble_eq_true rfl) rfl rfl ?_
              rcases hb with rfl | rfl
              · exact Kno (fun z => absurd (hI2.mpr z) (by decide)) 0 rfl
              · exact Kadd (hI2.mp rfl) n.toNat 0 S (by omega) (by omega) hS hminS (fun i hi => hi) (fun z hz1 hz2 => by have := (ll r zr.1 zr.2).2 z hz1; omega)
            | succ q ihq =>
              intro k b hk hq hb hI
              have cb := cnt9_bd k (lf r)
              have l6 := (v.ol zr).2
              have tb := tb_div (a := H) (k := k.toNat)
              have up : Hit9 (lf r) x H (k + 1) ↔ (b = 1 ∨ (k ∈ lf r ∧ H.testBit k.toNat = true)) := by
                rw [hI]
                constructor
                · rintro ⟨y, a, e⟩
                  by_cases ey : y = k
                  · rcases e with e | e
                    · exact Or.inl ⟨y, a, Or.inl e⟩
                    · exact Or.inr ⟨ey ▸ a, ey ▸ e.2⟩
                  · exact Or.inl ⟨y, a, e.imp id (fun z => ⟨by omega, z.2⟩)⟩
                · rintro (⟨y, a, e⟩ | ⟨a, e⟩)
                  · exact ⟨y, a, e.imp id (fun z => ⟨by omega, z.2⟩)⟩
                  · exact ⟨k, a, Or.inr ⟨by omega, e⟩⟩
              refine v_iload dX10_reachableLetters_55 rfl ?_
              refine v_aload_n dX10_reachableLetters_57 rfl ?_
              refine v_getI (ji := 0) dX10_reachableLetters_58 s_97 fX10_9 rfl ?_
              rw [c.1]
              refine v_icmp_ge (tgt := 105) dX10_reachableLetters_61 (by decide) (by omega) (fun q61 => absurd q61 (by omega)) (fun q61 => ?_)
              refine v_iload dX10_reachableLetters_64 rfl ?_
              refine v_if_ne (tgt := 92) dX10_reachableLetters_66 (by decide) (by omega) (fun q66 => ?_) (fun q66 => ?_)
              · refine v_iconst dX10_reachableLetters_92 ?_
                refine v_goto (tgt := 97) dX10_reachableLetters_93 (by decide) ?_
                refine v_istore (lv' := [_, _, _, _, _, _, _, _]) dX10_reachableLetters_97 (Nat.le_of_ble_eq_true rfl) rfl rfl ?_
                refine v_iinc (lv' := [_, _, _, _, _, _, _, _]) dX10_reachableLetters_99 rfl (Nat.le_of_ble_eq_true rfl) rfl rfl ?_
                refine v_goto (tgt := 55) dX10_reachableLetters_102 (by decide) ?_
                refine ihq (k + 1) _ (by omega) (by omega) (by decide) ?_
                rw [up]
                first
                | exact ⟨fun _ => Or.inl (by omega), fun _ => rfl⟩
                | exact ⟨fun _ => Or.inr ⟨cnt9_pos.mp (by omega), tb.mp (by omega)⟩, fun _ => rfl⟩
                | exact ⟨fun y => absurd y (by decide), fun y => y.elim (fun z => by omega) (fun z => absurd (tb.mpr z.2) (by omega))⟩
                | exact ⟨fun y => absurd y (by decide), fun y => y.elim (fun z => by omega) (fun z => absurd (cnt9_pos.mpr z.1) (by omega))⟩
              · refine v_iload dX10_reachableLetters_69 rfl ?_
                refine v_iload dX10_reachableLetters_71 rfl ?_
                refine v_ishr dX10_reachableLetters_73 (ishr64 hH (by omega)) ?_
                refine v_iconst dX10_reachableLetters_74 ?_
                refine v_iand dX10_reachableLetters_75 (iand1) ?_
                refine v_iconst dX10_reachableLetters_76 ?_
                refine v_icmp_ne (tgt := 96) dX10_reachableLetters_77 (by decide) (by omega) (fun q77 => ?_) (fun q77 => ?_)
                · refine v_iconst dX10_reachableLetters_96 ?_
                  refine v_istore (lv' := [_, _, _, _, _, _, _, _]) dX10_reachableLetters_97 (Nat.le_of_ble_eq_true rfl) rfl rfl ?_
                  refine v_iinc (lv' := [_, _, _, _, _, _, _, _]) dX10_reachableLetters_99 rfl (Nat.le_of_ble_eq_true rfl) rfl rfl ?_
                  refine v_goto (tgt := 55) dX10_reachableLetters_102 (by decide) ?_
                  refine ihq (k + 1) _ (by omega) (by omega) (by decide) ?_
                  rw [up]
                  first
                  | exact ⟨fun _ => Or.inl (by omega), fun _ => rfl⟩
                  | exact ⟨fun _ => Or.inr ⟨cnt9_pos.mp (by omega), tb.mp (by omega)⟩, fun _ => rfl⟩
                  | exact ⟨fun y => absurd y (by decide), fun y => y.elim (fun z => by omega) (fun z => absurd (tb.mpr z.2) (by omega))⟩
                  | exact ⟨fun y => absurd y (by decide), fun y => y.elim (fun z => by omega) (fun z => absurd (cnt9_pos.mpr z.1) (by omega))⟩
                · refine v_aload_n dX10_reachableLetters_80 rfl ?_
                  refine v_iload dX10_reachableLetters_81 rfl ?_
                  refine v_iconst dX10_reachableLetters_83 ?_
                  refine v_iload dX10_reachableLetters_84 rfl ?_
                  refine v_callVi3 dX10_reachableLetters_86 kX10_155 s_97 (Nat.le_of_ble_eq_true rfl) (c_X10_occ0 v c zr (by omega) ?_)
                  refine v_if_le (tgt := 96) dX10_reachableLetters_89 (by decide) (by omega) (fun q89 => ?_) (fun q89 => ?_)
                  · refine v_iconst dX10_reachableLetters_96 ?_
                    refine v_istore (lv' := [_, _, _, _, _, _, _, _]) dX10_reachableLetters_97 (Nat.le_of_ble_eq_true rfl) rfl rfl ?_
                    refine v_iinc (lv' := [_, _, _, _, _, _, _, _]) dX10_reachableLetters_99 rfl (Nat.le_of_ble_eq_true rfl) rfl rfl ?_
                    refine v_goto (tgt := 55) dX10_reachableLetters_102 (by decide) ?_
                    refine ihq (k + 1) _ (by omega) (by omega) (by decide) ?_
                    rw [up]
                    first
                    | exact ⟨fun _ => Or.inl (by omega), fun _ => rfl⟩
                    | exact ⟨fun _ => Or.inr ⟨cnt9_pos.mp (by omega), tb.mp (by omega)⟩, fun _ => rfl⟩
                    | exact ⟨fun y => absurd y (by decide), fun y => y.elim (fun z => by omega) (fun z => absurd (tb.mpr z.2) (by omega))⟩
                    | exact ⟨fun y => absurd y (by decide), fun y => y.elim (fun z => by omega) (fun z => absurd (cnt9_pos.mpr z.1) (by omega))⟩
                  · refine v_iconst dX10_reachableLetters_92 ?_
                    refine v_goto (tgt := 97) dX10_reachableLetters_93 (by decide) ?_
                    refine v_istore (lv' := [_, _, _, _, _, _, _, _]) dX10_reachableLetters_97 (Nat.le_of_ble_eq_true rfl) rfl rfl ?_
                    refine v_iinc (lv' := [_, _, _, _, _, _, _, _]) dX10_reachableLetters_99 rfl (Nat.le_of_ble_eq_true rfl) rfl rfl ?_
                    refine v_goto (tgt := 55) dX10_reachableLetters_102 (by decide) ?_
                    refine ihq (k + 1) _ (by omega) (by omega) (by decide) ?_
                    rw [up]
                    first
                    | exact ⟨fun _ => Or.inl (by omega), fun _ => rfl⟩
                    | exact ⟨fun _ => Or.inr ⟨cnt9_pos.mp (by omega), tb.mp (by omega)⟩, fun _ => rfl⟩
                    | exact ⟨fun y => absurd y (by decide), fun y => y.elim (fun z => by omega) (fun z => absurd (tb.mpr z.2) (by omega))⟩
                    | exact ⟨fun y => absurd y (by decide), fun y => y.elim (fun z => by omega) (fun z => absurd (cnt9_pos.mpr z.1) (by omega))⟩
          have cbx := cnt9_bd x (lf r)
          have l6x := (v.ol zr).2
          refine v_iload dX10_reachableLetters_25 rfl ?_
          refine v_aload_n dX10_reachableLetters_27 rfl ?_
          refine v_getI (ji := 1) dX10_reachableLetters_28 s_97 fX10_119 rfl ?_
          rw [c.2.1]
          refine v_icmp_ge (tgt := 157) dX10_reachableLetters_31 (by decide) (by omega) (fun q31 => absurd q31 (by omega)) (fun q31 => ?_)
          refine v_aload_n dX10_reachableLetters_34 rfl ?_
          refine v_iload dX10_reachableLetters_35 rfl ?_
          refine v_iconst dX10_reachableLetters_37 ?_
          refine v_iload_n dX10_reachableLetters_38 rfl ?_
          refine v_callVi3 dX10_reachableLetters_39 kX10_155 s_97 (Nat.le_of_ble_eq_true rfl) (c_X10_occ0 v c zr (by omega) ?_)
          refine v_if_le (tgt := 49) dX10_reachableLetters_42 (by decide) (by omega) (fun q42 => ?_) (fun q42 => ?_)
          · refine v_iconst dX10_reachableLetters_49 ?_
            refine v_istore (lv' := [_, _, _, _, _, _, _, _]) dX10_reachableLetters_50 (Nat.le_of_ble_eq_true rfl) rfl rfl ?_
            refine v_iconst dX10_reachableLetters_52 ?_
            refine v_istore (lv' := [_, _, _, _, _, _, _, _]) dX10_reachableLetters_53 (Nat.le_of_ble_eq_true rfl) rfl rfl ?_
            refine Kh n.toNat 0 _ (by omega) (by omega) (by decide) ?_
            first
            | exact ⟨fun _ => ⟨x, cnt9_pos.mp (by omega), Or.inl rfl⟩, fun _ => rfl⟩
            | exact ⟨fun y => absurd y (by decide), fun ⟨y, a, e⟩ => e.elim (fun e => absurd (cnt9_pos.mpr (e ▸ a)) (by omega)) (fun e => by have := (ll r zr.1 zr.2).1 y a; omega)⟩
          · refine v_iconst dX10_reachableLetters_45 ?_
            refine v_goto (tgt := 50) dX10_reachableLetters_46 (by decide) ?_
            refine v_istore (lv' := [_, _, _, _, _, _, _, _]) dX10_reachableLetters_50 (Nat.le_of_ble_eq_true rfl) rfl rfl ?_
            refine v_iconst dX10_reachableLetters_52 ?_
            refine v_istore (lv' := [_, _, _, _, _, _, _, _]) dX10_reachableLetters_53 (Nat.le_of_ble_eq_true rfl) rfl rfl ?_
            refine Kh n.toNat 0 _ (by omega) (by omega) (by decide) ?_
            first
            | exact ⟨fun _ => ⟨x, cnt9_pos.mp (by omega), Or.inl rfl⟩, fun _ => rfl⟩
            | exact ⟨fun y => absurd y (by decide), fun ⟨y, a, e⟩ => e.elim (fun e => absurd (cnt9_pos.mpr (e ▸ a)) (by omega)) (fun e => by have := (ll r zr.1 zr.2).1 y a; omega)⟩
      refine v_iload_n dX10_reachableLetters_15 rfl ?_
      refine v_if_eq (tgt := 172) dX10_reachableLetters_16 (by decide) (by decide) (fun q16 => absurd q16 (by decide)) (fun q16 => ?_)
      refine v_iload_n dX10_reachableLetters_19 rfl ?_
      refine v_istore (lv' := [_, _, _, _, _, _, _, _]) dX10_reachableLetters_20 (Nat.le_of_ble_eq_true rfl) rfl rfl ?_
      refine v_iconst dX10_reachableLetters_22 ?_
      refine v_istore (lv' := [_, _, _, _, _, _, _, _]) dX10_reachableLetters_23 (Nat.le_of_ble_eq_true rfl) rfl rfl ?_
      exact Kr R.toNat 0 H (by omega) (by omega) hH hmin (fun i hi => hi) (fun s a b => by omega) _ _
  refine v_aload_n dX10_reachableLetters_0 rfl ?_
  refine v_iload_n dX10_reachableLetters_1 rfl ?_
  refine v_callVi1 dX10_reachableLetters_2 kX10_140 s_97 (Nat.le_of_ble_eq_true rfl) (c_X10_isLetter c.1 (by omega) hx (fun z => ?_) (fun z => ?_))
  · refine v_if_ne (tgt := 11) dX10_reachableLetters_5 (by decide) (by decide) (fun q5 => ?_) (fun q5 => absurd q5 (by decide))
    refine v_iconst dX10_reachableLetters_11 ?_
    refine v_istore_n (lv' := [_, _, _, _, _, _, _, _]) dX10_reachableLetters_12 (Nat.le_of_ble_eq_true rfl) rfl rfl ?_
    refine v_iconst dX10_reachableLetters_13 ?_
    refine v_istore_n (lv' := [_, _, _, _, _, _, _, _]) dX10_reachableLetters_14 (Nat.le_of_ble_eq_true rfl) rfl rfl ?_
    exact K z 7 0 (by decide) (fun _ _ i hi => by rw [Nat.zero_testBit] at hi; cases hi) (by omega) _ _ _ _
  · refine v_if_ne (tgt := 11) dX10_reachableLetters_5 (by decide) (by decide) (fun q5 => absurd q5 (by decide)) (fun q5 => ?_)
    refine v_bipush dX10_reachableLetters_8 (by decide) ?_
    exact v_ireturn dX10_reachableLetters_10 rfl (h1 z)
end
