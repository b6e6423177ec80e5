section
variable {d : Nat} {n R : Int} {lf rg : Int → List Int} {wt lev : Int → Int} {stt : Int} {ap : Int → UInt32} {str : List Int} {σ : S9}
theorem c_X10_isGood {P : Int → S9 → Prop} (g0 : gI σ 97 0 = n) (hn : 1 ≤ n ∧ n ≤ 6) (hwb : ∀ x, 0 ≤ x → x < 6 → 0 ≤ gI σ 100 x ∧ gI σ 100 x ≤ 99) (hvb : ∀ x, 0 ≤ x → x < 6 → 0 ≤ gI σ 101 x ∧ gI σ 101 x ≤ 9) (h1 : adm9 (gI σ 100) (gI σ 101) n → P 1 σ) (h0 : ¬ adm9 (gI σ 100) (gI σ 101) n → P 0 σ) : Cc d mX10_isGood [.ref 97] σ (QI P) := by
  refine Cc_of (by decide +kernel) (fun _ => Nat.le_of_ble_eq_true rfl) rfl (lv := [_, _, _, _, _]) ?_
  have K2 : ∀ (w : Int), zc9 (gI σ 100) n.toNat = 1 → (0 ≤ w ∧ w < n) → gI σ 100 w = 0 → (∀ x, 0 ≤ x → x < n → gI σ 100 x = 0 → x = w) → ∀ (m : Nat) (k b : Int), 0 ≤ k → k + m = n → (b = 0 ∨ b = 1) → (b = 1 ↔ ∀ y, 0 ≤ y → y < k → y ≠ w → gI σ 101 y < gI σ 101 w) → Vv d mX10_isGood 48 [.ref 97, .int (iI 1), .int (iI w), .int (iI b), .int (iI k)] [] σ (QI P) := by
    intro w hz hw hw0 hwu m
    have vw := hvb w (by omega) (by omega)
    induction m with
    | zero =>
      intro k b hk hm hb hI
      refine v_iload dX10_isGood_48 rfl ?_
      refine v_aload_n dX10_isGood_50 rfl ?_
      refine v_getI (ji := 0) dX10_isGood_51 s_97 fX10_9 rfl ?_
      rw [g0]
      refine v_icmp_ge (tgt := 100) dX10_isGood_54 (by decide) (by omega) (fun q54 => ?_) (fun q54 => absurd q54 (by omega))
      refine v_iload_n dX10_isGood_100 rfl ?_
      refine v_zreturn dX10_isGood_101 rfl (by omega) (by
        rcases hb with rfl | rfl
        · refine h0 (fun z => absurd (hI.mpr ?_) (by decide))
          rcases z with z | ⟨_, z⟩
          · omega
          · exact fun y a b e => z w hw.1 hw.2 hw0 y a (by omega) e
        · exact h1 (Or.inr ⟨hz, fun x a b e y c d2 e2 => by rw [hwu x a b e] at e2 ⊢; exact hI.mp rfl y c (by omega) e2⟩))
    | succ m ih =>
      intro k b hk hm hb hI
      have vk := hvb k (by omega) (by omega)
      refine v_iload dX10_isGood_48 rfl ?_
      refine v_aload_n dX10_isGood_50 rfl ?_
      refine v_getI (ji := 0) dX10_isGood_51 s_97 fX10_9 rfl ?_
      rw [g0]
      refine v_icmp_ge (tgt := 100) dX10_isGood_54 (by decide) (by omega) (fun q54 => absurd q54 (by omega)) (fun q54 => ?_)
      refine v_iload_n dX10_isGood_57 rfl ?_
      refine v_iconst dX10_isGood_58 ?_
      refine v_icmp_ne (tgt := 100) dX10_isGood_59 (by decide) (by decide) (fun q59 => absurd rfl q59) (fun q59 => ?_)
      refine v_iload_n dX10_isGood_62 rfl ?_
      refine v_if_eq (tgt := 92) dX10_isGood_63 (by decide) (by omega) (fun q63 => ?_) (fun q63 => ?_)
      · refine v_iconst dX10_isGood_92 ?_
        refine v_istore_n (lv' := [_, _, _, _, _]) dX10_isGood_93 (Nat.le_of_ble_eq_true rfl) rfl rfl ?_
        refine v_iinc (lv' := [_, _, _, _, _]) dX10_isGood_94 rfl (Nat.le_of_ble_eq_true rfl) rfl rfl ?_
        refine v_goto (tgt := 48) dX10_isGood_97 (by decide) ?_
        refine ih (k + 1) _ (by omega) (by omega) (by decide) ?_
        first
        | exact ⟨fun y => absurd y (by decide), fun y => absurd (hI.mpr (fun z a b e => y z a (by omega) e)) (by omega)⟩
        | exact ⟨fun _ y a b2 e => if q : y = k then absurd (q.trans q69) e else hI.mp (by omega) y a (by omega) e, fun _ => rfl⟩
        | exact ⟨fun y => absurd y (by decide), fun y => absurd (y k hk (by omega) q69) (by omega)⟩
        | exact ⟨fun _ y a b2 e => if q : y = k then (by rw [q]; exact q85) else hI.mp (by omega) y a (by omega) e, fun _ => rfl⟩
      · refine v_iload dX10_isGood_66 rfl ?_
        refine v_iload_n dX10_isGood_68 rfl ?_
        refine v_icmp_eq (tgt := 88) dX10_isGood_69 (by decide) (by omega) (fun q69 => ?_) (fun q69 => ?_)
        · refine v_iconst dX10_isGood_88 ?_
          refine v_goto (tgt := 93) dX10_isGood_89 (by decide) ?_
          refine v_istore_n (lv' := [_, _, _, _, _]) dX10_isGood_93 (Nat.le_of_ble_eq_true rfl) rfl rfl ?_
          refine v_iinc (lv' := [_, _, _, _, _]) dX10_isGood_94 rfl (Nat.le_of_ble_eq_true rfl) rfl rfl ?_
          refine v_goto (tgt := 48) dX10_isGood_97 (by decide) ?_
          refine ih (k + 1) _ (by omega) (by omega) (by decide) ?_
          first
          | exact ⟨fun y => absurd y (by decide), fun y => absurd (hI.mpr (fun z a b e => y z a (by omega) e)) (by omega)⟩
          | exact ⟨fun _ y a b2 e => if q : y = k then absurd (q.trans q69) e else hI.mp (by omega) y a (by omega) e, fun _ => rfl⟩
          | exact ⟨fun y => absurd y (by decide), fun y => absurd (y k hk (by omega) q69) (by omega)⟩
          | exact ⟨fun _ y a b2 e => if q : y = k then (by rw [q]; exact q85) else hI.mp (by omega) y a (by omega) e, fun _ => rfl⟩
        · refine v_aload_n dX10_isGood_72 rfl ?_
          refine v_getR (k1 := 101) dX10_isGood_73 s_97 fX10_25 rfl ?_
          refine v_iload_n dX10_isGood_76 rfl ?_
          refine v_iaload dX10_isGood_77 s_101 (by omega) ?_
          refine v_aload_n dX10_isGood_78 rfl ?_
          refine v_getR (k1 := 101) dX10_isGood_79 s_97 fX10_25 rfl ?_
          refine v_iload dX10_isGood_82 rfl ?_
          refine v_iaload dX10_isGood_84 s_101 (by omega) ?_
          refine v_icmp_le (tgt := 92) dX10_isGood_85 (by decide) (by omega) (fun q85 => ?_) (fun q85 => ?_)
          · refine v_iconst dX10_isGood_92 ?_
            refine v_istore_n (lv' := [_, _, _, _, _]) dX10_isGood_93 (Nat.le_of_ble_eq_true rfl) rfl rfl ?_
            refine v_iinc (lv' := [_, _, _, _, _]) dX10_isGood_94 rfl (Nat.le_of_ble_eq_true rfl) rfl rfl ?_
            refine v_goto (tgt := 48) dX10_isGood_97 (by decide) ?_
            refine ih (k + 1) _ (by omega) (by omega) (by decide) ?_
            first
            | exact ⟨fun y => absurd y (by decide), fun y => absurd (hI.mpr (fun z a b e => y z a (by omega) e)) (by omega)⟩
            | exact ⟨fun _ y a b2 e => if q : y = k then absurd (q.trans q69) e else hI.mp (by omega) y a (by omega) e, fun _ => rfl⟩
            | exact ⟨fun y => absurd y (by decide), fun y => absurd (y k hk (by omega) q69) (by omega)⟩
            | exact ⟨fun _ y a b2 e => if q : y = k then (by rw [q]; exact q85) else hI.mp (by omega) y a (by omega) e, fun _ => rfl⟩
          · refine v_iconst dX10_isGood_88 ?_
            refine v_goto (tgt := 93) dX10_isGood_89 (by decide) ?_
            refine v_istore_n (lv' := [_, _, _, _, _]) dX10_isGood_93 (Nat.le_of_ble_eq_true rfl) rfl rfl ?_
            refine v_iinc (lv' := [_, _, _, _, _]) dX10_isGood_94 rfl (Nat.le_of_ble_eq_true rfl) rfl rfl ?_
            refine v_goto (tgt := 48) dX10_isGood_97 (by decide) ?_
            refine ih (k + 1) _ (by omega) (by omega) (by decide) ?_
            first
            | exact ⟨fun y => absurd y (by decide), fun y => absurd (hI.mpr (fun z a b e => y z a (by omega) e)) (by omega)⟩
            | exact ⟨fun _ y a b2 e => if q : y = k then absurd (q.trans q69) e else hI.mp (by omega) y a (by omega) e, fun _ => rfl⟩
            | exact ⟨fun y => absurd y (by decide), fun y => absurd (y k hk (by omega) q69) (by omega)⟩
            | exact ⟨fun _ y a b2 e => if q : y = k then (by rw [q]; exact q85) else hI.mp (by omega) y a (by omega) e, fun _ => rfl⟩
  have K1 : ∀ (m : Nat) (k w : Int), 0 ≤ k → k + m = n → (zc9 (gI σ 100) k.toNat = 1 → (0 ≤ w ∧ w < k) ∧ gI σ 100 w = 0 ∧ ∀ x, 0 ≤ x → x < k → gI σ 100 x = 0 → x = w) → Vv d mX10_isGood 6 [.ref 97, .int (iI (zc9 (gI σ 100) k.toNat)), .int (iI w), .int (iI k), .null] [] σ (QI P) := by
    intro m
    induction m with
    | zero =>
      intro k w hk hm hI
      have ek : k.toNat = n.toNat := by omega
      have zb := zc9_bd (gI σ 100) k.toNat
      by_cases hz : zc9 (gI σ 100) k.toNat = 1
      · obtain ⟨i1, i2, i3⟩ := hI hz
        rw [hz]
        refine v_iload_n dX10_isGood_6 rfl ?_
        refine v_aload_n dX10_isGood_7 rfl ?_
        refine v_getI (ji := 0) dX10_isGood_8 s_97 fX10_9 rfl ?_
        rw [g0]
        refine v_icmp_ge (tgt := 34) dX10_isGood_11 (by decide) (by omega) (fun q11 => ?_) (fun q11 => absurd q11 (by omega))
        refine v_iload_n dX10_isGood_34 rfl ?_
        refine v_iconst dX10_isGood_35 ?_
        refine v_icmp_gt (tgt := 43) dX10_isGood_36 (by decide) (by decide) (fun q36 => absurd q36 (by decide)) (fun q36 => ?_)
        refine v_iconst dX10_isGood_39 ?_
        refine v_goto (tgt := 44) dX10_isGood_40 (by decide) ?_
        refine v_istore_n (lv' := [_, _, _, _, _]) dX10_isGood_44 (Nat.le_of_ble_eq_true rfl) rfl rfl ?_
        refine v_iconst dX10_isGood_45 ?_
        refine v_istore (lv' := [_, _, _, _, _]) dX10_isGood_46 (Nat.le_of_ble_eq_true rfl) rfl rfl ?_
        exact K2 w (by rw [← ek]; exact hz) (by omega) i2 (fun x a b => i3 x a (by omega)) n.toNat 0 1 (by omega) (by omega) (Or.inr rfl) ⟨fun _ y a b => by omega, fun _ => rfl⟩
      · have K3 : ∀ b : Int, (b = 0 ∨ b = 1) → (b = 1 ↔ zc9 (gI σ 100) k.toNat ≤ 1) → Vv d mX10_isGood 48 [.ref 97, .int (iI (zc9 (gI σ 100) k.toNat)), .int (iI w), .int (iI b), .int (iI 0)] [] σ (QI P) := by
          intro b hb hbz
          refine v_iload dX10_isGood_48 rfl ?_
          refine v_aload_n dX10_isGood_50 rfl ?_
          refine v_getI (ji := 0) dX10_isGood_51 s_97 fX10_9 rfl ?_
          rw [g0]
          refine v_icmp_ge (tgt := 100) dX10_isGood_54 (by decide) (by omega) (fun q54 => absurd q54 (by omega)) (fun q54 => ?_)
          refine v_iload_n dX10_isGood_57 rfl ?_
          refine v_iconst dX10_isGood_58 ?_
          refine v_icmp_ne (tgt := 100) dX10_isGood_59 (by decide) (by omega) (fun q59 => ?_) (fun q59 => absurd q59 (by omega))
          refine v_iload_n dX10_isGood_100 rfl ?_
          refine v_zreturn dX10_isGood_101 rfl (by omega) (by
            rcases hb with rfl | rfl
            · refine h0 (fun z => ?_)
              have : ¬ zc9 (gI σ 100) k.toNat ≤ 1 := fun q => absurd (hbz.mpr q) (by decide)
              rw [ek] at this
              rcases z with z | ⟨z, _⟩ <;> omega
            · refine h1 (Or.inl ?_)
              have := hbz.mp rfl
              rw [← ek]
              omega)
        refine v_iload_n dX10_isGood_6 rfl ?_
        refine v_aload_n dX10_isGood_7 rfl ?_
        refine v_getI (ji := 0) dX10_isGood_8 s_97 fX10_9 rfl ?_
        rw [g0]
        refine v_icmp_ge (tgt := 34) dX10_isGood_11 (by decide) (by omega) (fun q11 => ?_) (fun q11 => absurd q11 (by omega))
        refine v_iload_n dX10_isGood_34 rfl ?_
        refine v_iconst dX10_isGood_35 ?_
        refine v_icmp_gt (tgt := 43) dX10_isGood_36 (by decide) (by omega) (fun q36 => ?_) (fun q36 => ?_)
        · refine v_iconst dX10_isGood_43 ?_
          refine v_istore_n (lv' := [_, _, _, _, _]) dX10_isGood_44 (Nat.le_of_ble_eq_true rfl) rfl rfl ?_
          refine v_iconst dX10_isGood_45 ?_
          refine v_istore (lv' := [_, _, _, _, _]) dX10_isGood_46 (Nat.le_of_ble_eq_true rfl) rfl rfl ?_
          first
          | exact K3 1 (Or.inr rfl) ⟨fun _ => q36, fun _ => rfl⟩
          | exact K3 0 (Or.inl rfl) ⟨fun q => absurd q (by decide), fun q => by omega⟩
        · refine v_iconst dX10_isGood_39 ?_
          refine v_goto (tgt := 44) dX10_isGood_40 (by decide) ?_
          refine v_istore_n (lv' := [_, _, _, _, _]) dX10_isGood_44 (Nat.le_of_ble_eq_true rfl) rfl rfl ?_
          refine v_iconst dX10_isGood_45 ?_
          refine v_istore (lv' := [_, _, _, _, _]) dX10_isGood_46 (Nat.le_of_ble_eq_true rfl) rfl rfl ?_
          first
          | exact K3 1 (Or.inr rfl) ⟨fun _ => q36, fun _ => rfl⟩
          | exact K3 0 (Or.inl rfl) ⟨fun q => absurd q (by decide), fun q => by omega⟩
    | succ m ih =>
      intro k w hk hm hI
      have wk := hwb k (by omega) (by omega)
      have zb := zc9_bd (gI σ 100) k.toNat
      have ez : zc9 (gI σ 100) (k + 1).toNat = zc9 (gI σ 100) k.toNat + (if gI σ 100 k = 0 then 1 else 0) := by rw [show (k + 1).toNat = k.toNat + 1 by omega, zc9, show ((k.toNat : Nat) : Int) = k by omega]
      refine v_iload_n dX10_isGood_6 rfl ?_
      refine v_aload_n dX10_isGood_7 rfl ?_
      refine v_getI (ji := 0) dX10_isGood_8 s_97 fX10_9 rfl ?_
      rw [g0]
      refine v_icmp_ge (tgt := 34) dX10_isGood_11 (by decide) (by omega) (fun q11 => absurd q11 (by omega)) (fun q11 => ?_)
      refine v_aload_n dX10_isGood_14 rfl ?_
      refine v_getR (k1 := 100) dX10_isGood_15 s_97 fX10_22 rfl ?_
      refine v_iload_n dX10_isGood_18 rfl ?_
      refine v_iaload dX10_isGood_19 s_100 (by omega) ?_
      refine v_if_ne (tgt := 28) dX10_isGood_20 (by decide) (by omega) (fun q20 => ?_) (fun q20 => ?_)
      · refine v_iinc (lv' := [_, _, _, _, _]) dX10_isGood_28 rfl (Nat.le_of_ble_eq_true rfl) rfl rfl ?_
        refine v_goto (tgt := 6) dX10_isGood_31 (by decide) ?_
        first
        | (have h8 := ih (k + 1) k (by omega) (by omega) (fun hz => ⟨by omega, q20, fun x a b e => Classical.byContradiction (fun q => by rw [ez, if_pos q20] at hz; have := zc9_pos k.toNat x a (by omega) e; omega)⟩); rw [ez, if_pos q20] at h8; exact h8)
        | (have h8 := ih (k + 1) w (by omega) (by omega) (fun hz => by rw [ez, if_neg q20, Int.add_zero] at hz; obtain ⟨i1, i2, i3⟩ := hI hz; exact ⟨by omega, i2, fun x a b e => if q : x = k then absurd (q ▸ e) q20 else i3 x a (by omega) e⟩); rw [ez, if_neg q20, Int.add_zero] at h8; exact h8)
      · refine v_iinc (lv' := [_, _, _, _, _]) dX10_isGood_23 rfl (Nat.le_of_ble_eq_true rfl) rfl rfl ?_
        refine v_iload_n dX10_isGood_26 rfl ?_
        refine v_istore_n (lv' := [_, _, _, _, _]) dX10_isGood_27 (Nat.le_of_ble_eq_true rfl) rfl rfl ?_
        refine v_iinc (lv' := [_, _, _, _, _]) dX10_isGood_28 rfl (Nat.le_of_ble_eq_true rfl) rfl rfl ?_
        refine v_goto (tgt := 6) dX10_isGood_31 (by decide) ?_
        first
        | (have h8 := ih (k + 1) k (by omega) (by omega) (fun hz => ⟨by omega, q20, fun x a b e => Classical.byContradiction (fun q => by rw [ez, if_pos q20] at hz; have := zc9_pos k.toNat x a (by omega) e; omega)⟩); rw [ez, if_pos q20] at h8; exact h8)
        | (have h8 := ih (k + 1) w (by omega) (by omega) (fun hz => by rw [ez, if_neg q20, Int.add_zero] at hz; obtain ⟨i1, i2, i3⟩ := hI hz; exact ⟨by omega, i2, fun x a b e => if q : x = k then absurd (q ▸ e) q20 else i3 x a (by omega) e⟩); rw [ez, if_neg q20, Int.add_zero] at h8; exact h8)
  refine v_iconst dX10_isGood_0 ?_
  refine v_istore_n (lv' := [_, _, _, _, _]) dX10_isGood_1 (Nat.le_of_ble_eq_true rfl) rfl rfl ?_
  refine v_iconst dX10_isGood_2 ?_
  refine v_istore_n (lv' := [_, _, _, _, _]) dX10_isGood_3 (Nat.le_of_ble_eq_true rfl) rfl rfl ?_
  refine v_iconst dX10_isGood_4 ?_
  refine v_istore_n (lv' := [_, _, _, _, _]) dX10_isGood_5 (Nat.le_of_ble_eq_true rfl) rfl rfl ?_
  exact K1 n.toNat 0 0 (by omega) (by omega) (fun q => absurd (show (0 : Int) = 1 from q) (by decide))
theorem c_X10_isAdmissible {P : Int → S9 → Prop} (g0 : gI σ 97 0 = n) (hn : 1 ≤ n ∧ n ≤ 6) (hwb : ∀ x, 0 ≤ x → x < 6 → 0 ≤ gI σ 100 x ∧ gI σ 100 x ≤ 99) (hvb : ∀ x, 0 ≤ x → x < 6 → 0 ≤ gI σ 101 x ∧ gI σ 101 x ≤ 9) (h1 : adm9 (gI σ 100) (gI σ 101) n → P 1 σ) (h0 : ¬ adm9 (gI σ 100) (gI σ 101) n → P 0 σ) : Cc (d + 1) mX10_isAdmissible [.ref 97] σ (QI P) := by
  refine Cc_of (by decide +kernel) (fun _ => Nat.le_of_ble_eq_true rfl) rfl (lv := [_]) ?_
  refine v_aload_n dX10_isAdmissible_0 rfl ?_
  refine v_callVi0 dX10_isAdmissible_1 kX10_167 s_97 (Nat.le_of_ble_eq_true rfl) (c_X10_isGood g0 hn hwb hvb (fun z => ?_) (fun z => ?_))
  · refine v_if_eq (tgt := 11) dX10_isAdmissible_4 (by decide) (by decide) (fun q4 => absurd q4 (by decide)) (fun q4 => ?_)
    refine v_iconst dX10_isAdmissible_7 ?_
    refine v_goto (tgt := 12) dX10_isAdmissible_8 (by decide) ?_
    exact v_ireturn dX10_isAdmissible_12 rfl (by first | exact h1 z | exact h0 z)
  · refine v_if_eq (tgt := 11) dX10_isAdmissible_4 (by decide) (by decide) (fun q4 => ?_) (fun q4 => absurd q4 (by decide))
    refine v_iconst dX10_isAdmissible_11 ?_
    exact v_ireturn dX10_isAdmissible_12 rfl (by first | exact h1 z | exact h0 z)
theorem c_X10_compared {xs ys : List Int} {P : Int → S9 → Prop} (hx : OkL 6 12 xs) (hy : OkL 6 12 ys) (e1 : ∀ k : Int, 0 ≤ k → k < xs.length → gI σ 118 k = at9 xs k) (e2 : ∀ k : Int, 0 ≤ k → k < ys.length → gI σ 119 k = at9 ys k) (hs : 0 ≤ gI σ 97 6 ∧ gI σ 97 6 ≤ 1) (hwb : ∀ x, 0 ≤ x → x < 6 → 0 ≤ gI σ 100 x ∧ gI σ 100 x ≤ 99) (hvb : ∀ x, 0 ≤ x → x < 6 → 0 ≤ gI σ 101 x ∧ gI σ 101 x ≤ 9) (h : P (cmp9 (gI σ 100) (gI σ 101) (gI σ 97 6) xs ys) σ) : Cc d mX10_compared [.ref 97, .int (iI xs.length), .int (iI ys.length)] σ (QI P) := by
  have lx := hx.2
  have ly := hy.2
  have wx : ∀ k : Nat, 0 ≤ wt9 (gI σ 100) (xs.take k) ∧ wt9 (gI σ 100) (xs.take k) ≤ 1188 := fun k => by
    have := wt9_bd (f := gI σ 100) (xs := xs.take k) (fun z hz => hwb z (hx.1 z (List.mem_of_mem_take hz)).1 (hx.1 z (List.mem_of_mem_take hz)).2)
    have h2 : (xs.take k).length ≤ 12 := by rw [List.length_take]; omega
    omega
  have wy : ∀ k : Nat, 0 ≤ wt9 (gI σ 100) (ys.take k) ∧ wt9 (gI σ 100) (ys.take k) ≤ 1188 := fun k => by
    have := wt9_bd (f := gI σ 100) (xs := ys.take k) (fun z hz => hwb z (hy.1 z (List.mem_of_mem_take hz)).1 (hy.1 z (List.mem_of_mem_take hz)).2)
    have h2 : (ys.take k).length ≤ 12 := by rw [List.length_take]; omega
    omega
  refine Cc_of (by decide +kernel) (fun _ => Nat.le_of_ble_eq_true rfl) rfl (lv := [_, _, _, _, _, _, _]) ?_
  have K3 : wt9 (gI σ 100) xs - wt9 (gI σ 100) ys = 0 → ∀ (m : Nat) (k : Int), 0 ≤ k → k + m = min (xs.length : Int) ys.length → dif9 (gI σ 101) (gI σ 97 6) xs ys (min xs.length ys.length) 0 = dif9 (gI σ 101) (gI σ 97 6) xs ys m k → ∀ l5 l6, Vv d mX10_compared 79 [.ref 97, .int (iI xs.length), .int (iI ys.length), .int (iI 0), .int (iI k), l5, l6] [] σ (QI P) := by
    intro hW m
    unfold cmp9 at h
    rw [els9_z hW] at h
    induction m with
    | zero =>
      intro k hk hm hd l5 l6
      rw [hd, dif9, els9_z rfl] at h
      refine v_iload dX10_compared_79 rfl ?_
      refine v_iload_n dX10_compared_81 rfl ?_
      refine v_icmp_ge (tgt := 187) dX10_compared_82 (by decide) (by omega) (fun q82 => ?_) (fun q82 => ?_)
      · refine v_iload_n dX10_compared_187 rfl ?_
        refine v_iload_n dX10_compared_188 rfl ?_
        refine v_icmp_le (tgt := 196) dX10_compared_189 (by decide) (by omega) (fun q189 => ?_) (fun q189 => ?_)
        · refine v_iload_n dX10_compared_196 rfl ?_
          refine v_iload_n dX10_compared_197 rfl ?_
          refine v_icmp_ne (tgt := 205) dX10_compared_198 (by decide) (by omega) (fun q198 => ?_) (fun q198 => ?_)
          · refine v_iconst dX10_compared_205 ?_
            exact v_ireturn dX10_compared_206 rfl (by first
        | (exfalso; omega)
        | (rw [sgn9_p (by omega)] at h; exact h)
        | (rw [sgn9_0 (by omega)] at h; exact h)
        | (rw [sgn9_n (by omega)] at h; exact h))
          · refine v_iconst dX10_compared_201 ?_
            refine v_goto (tgt := 206) dX10_compared_202 (by decide) ?_
            exact v_ireturn dX10_compared_206 rfl (by first
        | (exfalso; omega)
        | (rw [sgn9_p (by omega)] at h; exact h)
        | (rw [sgn9_0 (by omega)] at h; exact h)
        | (rw [sgn9_n (by omega)] at h; exact h))
        · refine v_iconst dX10_compared_192 ?_
          refine v_goto (tgt := 206) dX10_compared_193 (by decide) ?_
          exact v_ireturn dX10_compared_206 rfl (by first
        | (exfalso; omega)
        | (rw [sgn9_p (by omega)] at h; exact h)
        | (rw [sgn9_0 (by omega)] at h; exact h)
        | (rw [sgn9_n (by omega)] at h; exact h))
      · refine v_iload dX10_compared_85 rfl ?_
        refine v_iload_n dX10_compared_87 rfl ?_
        refine v_icmp_ge (tgt := 187) dX10_compared_88 (by decide) (by omega) (fun q88 => ?_) (fun q88 => ?_)
        · refine v_iload_n dX10_compared_187 rfl ?_
          refine v_iload_n dX10_compared_188 rfl ?_
          refine v_icmp_le (tgt := 196) dX10_compared_189 (by decide) (by omega) (fun q189 => ?_) (fun q189 => ?_)
          · refine v_iload_n dX10_compared_196 rfl ?_
            refine v_iload_n dX10_compared_197 rfl ?_
            refine v_icmp_ne (tgt := 205) dX10_compared_198 (by decide) (by omega) (fun q198 => ?_) (fun q198 => ?_)
            · refine v_iconst dX10_compared_205 ?_
              exact v_ireturn dX10_compared_206 rfl (by first
        | (exfalso; omega)
        | (rw [sgn9_p (by omega)] at h; exact h)
        | (rw [sgn9_0 (by omega)] at h; exact h)
        | (rw [sgn9_n (by omega)] at h; exact h))
            · refine v_iconst dX10_compared_201 ?_
              refine v_goto (tgt := 206) dX10_compared_202 (by decide) ?_
              exact v_ireturn dX10_compared_206 rfl (by first
        | (exfalso; omega)
        | (rw [sgn9_p (by omega)] at h; exact h)
        | (rw [sgn9_0 (by omega)] at h; exact h)
        | (rw [sgn9_n (by omega)] at h; exact h))
          · refine v_iconst dX10_compared_192 ?_
            refine v_goto (tgt := 206) dX10_compared_193 (by decide) ?_
            exact v_ireturn dX10_compared_206 rfl (by first
        | (exfalso; omega)
        | (rw [sgn9_p (by omega)] at h; exact h)
        | (rw [sgn9_0 (by omega)] at h; exact h)
        | (rw [sgn9_n (by omega)] at h; exact h))
        · refine v_aload_n dX10_compared_91 rfl ?_
          refine v_getR (k1 := 101) dX10_compared_92 s_97 fX10_25 rfl ?_
          refine v_aload_n dX10_compared_95 rfl ?_
          refine v_getI (ji := 6) dX10_compared_96 s_97 fX10_130 rfl ?_
          refine v_if_ne (tgt := 112) dX10_compared_99 (by decide) (by omega) (fun q99 => ?_) (fun q99 => ?_)
          · refine v_aload_n dX10_compared_112 rfl ?_
            refine v_getR (k1 := 118) dX10_compared_113 s_97 fX10_79 rfl ?_
            refine v_iload_n dX10_compared_116 rfl ?_
            refine v_iconst dX10_compared_117 ?_
            refine v_isub dX10_compared_118 ?_
            refine v_iload dX10_compared_119 rfl ?_
            refine v_isub dX10_compared_121 ?_
            refine v_iaload dX10_compared_122 s_118 (by exfalso; omega) ?_
            refine v_iaload dX10_compared_123 s_101 (by exfalso; omega) ?_
            refine v_istore (lv' := [_, _, _, _, _, _, _]) dX10_compared_124 (Nat.le_of_ble_eq_true rfl) rfl rfl ?_
            refine v_aload_n dX10_compared_126 rfl ?_
            refine v_getR (k1 := 101) dX10_compared_127 s_97 fX10_25 rfl ?_
            refine v_aload_n dX10_compared_130 rfl ?_
            refine v_getI (ji := 6) dX10_compared_131 s_97 fX10_130 rfl ?_
            refine v_if_ne (tgt := 147) dX10_compared_134 (by decide) (by omega) (fun q134 => ?_) (fun q134 => ?_)
            · refine v_aload_n dX10_compared_147 rfl ?_
              refine v_getR (k1 := 119) dX10_compared_148 s_97 fX10_82 rfl ?_
              refine v_iload_n dX10_compared_151 rfl ?_
              refine v_iconst dX10_compared_152 ?_
              refine v_isub dX10_compared_153 ?_
              refine v_iload dX10_compared_154 rfl ?_
              refine v_isub dX10_compared_156 ?_
              refine v_iaload dX10_compared_157 s_119 (by exfalso; omega) ?_
              refine v_iaload dX10_compared_158 s_101 (by exfalso; omega) ?_
              refine v_istore (lv' := [_, _, _, _, _, _, _]) dX10_compared_159 (Nat.le_of_ble_eq_true rfl) rfl rfl ?_
              refine v_iload dX10_compared_161 rfl ?_
              refine v_iload dX10_compared_163 rfl ?_
              refine v_icmp_eq (tgt := 181) dX10_compared_165 (by decide) (by exfalso; omega) (fun q165 => ?_) (fun q165 => ?_)
              · refine v_iinc (lv' := [_, _, _, _, _, _, _]) dX10_compared_181 rfl (Nat.le_of_ble_eq_true rfl) rfl rfl ?_
                refine v_goto (tgt := 79) dX10_compared_184 (by decide) ?_
                exfalso; omega
              · refine v_iload dX10_compared_168 rfl ?_
                refine v_iload dX10_compared_170 rfl ?_
                refine v_icmp_le (tgt := 179) dX10_compared_172 (by decide) (by exfalso; omega) (fun q172 => ?_) (fun q172 => ?_)
                · refine v_iconst dX10_compared_179 ?_
                  exact v_ireturn dX10_compared_180 rfl (by exfalso; omega)
                · refine v_iconst dX10_compared_175 ?_
                  refine v_goto (tgt := 180) dX10_compared_176 (by decide) ?_
                  exact v_ireturn dX10_compared_180 rfl (by exfalso; omega)
            · refine v_aload_n dX10_compared_137 rfl ?_
              refine v_getR (k1 := 119) dX10_compared_138 s_97 fX10_82 rfl ?_
              refine v_iload dX10_compared_141 rfl ?_
              refine v_iaload dX10_compared_143 s_119 (by exfalso; omega) ?_
              refine v_goto (tgt := 158) dX10_compared_144 (by decide) ?_
              refine v_iaload dX10_compared_158 s_101 (by exfalso; omega) ?_
              refine v_istore (lv' := [_, _, _, _, _, _, _]) dX10_compared_159 (Nat.le_of_ble_eq_true rfl) rfl rfl ?_
              refine v_iload dX10_compared_161 rfl ?_
              refine v_iload dX10_compared_163 rfl ?_
              refine v_icmp_eq (tgt := 181) dX10_compared_165 (by decide) (by exfalso; omega) (fun q165 => ?_) (fun q165 => ?_)
              · refine v_iinc (lv' := [_, _, _, _, _, _, _]) dX10_compared_181 rfl (Nat.le_of_ble_eq_true rfl) rfl rfl ?_
                refine v_goto (tgt := 79) dX10_compared_184 (by decide) ?_
                exfalso; omega
              · refine v_iload dX10_compared_168 rfl ?_
                refine v_iload dX10_compared_170 rfl ?_
                refine v_icmp_le (tgt := 179) dX10_compared_172 (by decide) (by exfalso; omega) (fun q172 => ?_) (fun q172 => ?_)
                · refine v_iconst dX10_compared_179 ?_
                  exact v_ireturn dX10_compared_180 rfl (by exfalso; omega)
                · refine v_iconst dX10_compared_175 ?_
                  refine v_goto (tgt := 180) dX10_compared_176 (by decide) ?_
                  exact v_ireturn dX10_compared_180 rfl (by exfalso; omega)
          · refine v_aload_n dX10_compared_102 rfl ?_
            refine v_getR (k1 := 118) dX10_compared_103 s_97 fX10_79 rfl ?_
            refine v_iload dX10_compared_106 rfl ?_
            refine v_iaload dX10_compared_108 s_118 (by exfalso; omega) ?_
            refine v_goto (tgt := 123) dX10_compared_109 (by decide) ?_
            refine v_iaload dX10_compared_123 s_101 (by exfalso; omega) ?_
            refine v_istore (lv' := [_, _, _, _, _, _, _]) dX10_compared_124 (Nat.le_of_ble_eq_true rfl) rfl rfl ?_
            refine v_aload_n dX10_compared_126 rfl ?_
            refine v_getR (k1 := 101) dX10_compared_127 s_97 fX10_25 rfl ?_
            refine v_aload_n dX10_compared_130 rfl ?_
            refine v_getI (ji := 6) dX10_compared_131 s_97 fX10_130 rfl ?_
            refine v_if_ne (tgt := 147) dX10_compared_134 (by decide) (by omega) (fun q134 => ?_) (fun q134 => ?_)
            · refine v_aload_n dX10_compared_147 rfl ?_
              refine v_getR (k1 := 119) dX10_compared_148 s_97 fX10_82 rfl ?_
              refine v_iload_n dX10_compared_151 rfl ?_
              refine v_iconst dX10_compared_152 ?_
              refine v_isub dX10_compared_153 ?_
              refine v_iload dX10_compared_154 rfl ?_
              refine v_isub dX10_compared_156 ?_
              refine v_iaload dX10_compared_157 s_119 (by exfalso; omega) ?_
              refine v_iaload dX10_compared_158 s_101 (by exfalso; omega) ?_
              refine v_istore (lv' := [_, _, _, _, _, _, _]) dX10_compared_159 (Nat.le_of_ble_eq_true rfl) rfl rfl ?_
              refine v_iload dX10_compared_161 rfl ?_
              refine v_iload dX10_compared_163 rfl ?_
              refine v_icmp_eq (tgt := 181) dX10_compared_165 (by decide) (by exfalso; omega) (fun q165 => ?_) (fun q165 => ?_)
              · refine v_iinc (lv' := [_, _, _, _, _, _, _]) dX10_compared_181 rfl (Nat.le_of_ble_eq_true rfl) rfl rfl ?_
                refine v_goto (tgt := 79) dX10_compared_184 (by decide) ?_
                exfalso; omega
              · refine v_iload dX10_compared_168 rfl ?_
                refine v_iload dX10_compared_170 rfl ?_
                refine v_icmp_le (tgt := 179) dX10_compared_172 (by decide) (by exfalso; omega) (fun q172 => ?_) (fun q172 => ?_)
                · refine v_iconst dX10_compared_179 ?_
                  exact v_ireturn dX10_compared_180 rfl (by exfalso; omega)
                · refine v_iconst dX10_compared_175 ?_
                  refine v_goto (tgt := 180) dX10_compared_176 (by decide) ?_
                  exact v_ireturn dX10_compared_180 rfl (by exfalso; omega)
            · refine v_aload_n dX10_compared_137 rfl ?_
              refine v_getR (k1 := 119) dX10_compared_138 s_97 fX10_82 rfl ?_
              refine v_iload dX10_compared_141 rfl ?_
              refine v_iaload dX10_compared_143 s_119 (by exfalso; omega) ?_
              refine v_goto (tgt := 158) dX10_compared_144 (by decide) ?_
              refine v_iaload dX10_compared_158 s_101 (by exfalso; omega) ?_
              refine v_istore (lv' := [_, _, _, _, _, _, _]) dX10_compared_159 (Nat.le_of_ble_eq_true rfl) rfl rfl ?_
              refine v_iload dX10_compared_161 rfl ?_
              refine v_iload dX10_compared_163 rfl ?_
              refine v_icmp_eq (tgt := 181) dX10_compared_165 (by decide) (by exfalso; omega) (fun q165 => ?_) (fun q165 => ?_)
              · refine v_iinc (lv' := [_, _, _, _, _, _, _]) dX10_compared_181 rfl (Nat.le_of_ble_eq_true rfl) rfl rfl ?_
                refine v_goto (tgt := 79) dX10_compared_184 (by decide) ?_
                exfalso; omega
              · refine v_iload dX10_compared_168 rfl ?_
                refine v_iload dX10_compared_170 rfl ?_
                refine v_icmp_le (tgt := 179) dX10_compared_172 (by decide) (by exfalso; omega) (fun q172 => ?_) (fun q172 => ?_)
                · refine v_iconst dX10_compared_179 ?_
                  exact v_ireturn dX10_compared_180 rfl (by exfalso; omega)
                · refine v_iconst dX10_compared_175 ?_
                  refine v_goto (tgt := 180) dX10_compared_176 (by decide) ?_
                  exact v_ireturn dX10_compared_180 rfl (by exfalso; omega)
    | succ m ih =>
      intro k hk hm hd l5 l6
      have fa := fr9_in hx.1 (gI σ 97 6) (k := k) (by omega)
      have fb := fr9_in hy.1 (gI σ 97 6) (k := k) (by omega)
      have va := hvb _ fa.1 fa.2
      have vb := hvb _ fb.1 fb.2
      have c1 : gI σ 97 6 = 0 → fr9 (gI σ 97 6) xs k = gI σ 118 k ∧ fr9 (gI σ 97 6) ys k = gI σ 119 k := fun q => by unfold fr9; rw [if_pos q, if_pos q, e1 k hk (by omega), e2 k hk (by omega)]; exact ⟨rfl, rfl⟩
      have c2 : gI σ 97 6 ≠ 0 → fr9 (gI σ 97 6) xs k = gI σ 118 (xs.length - 1 - k) ∧ fr9 (gI σ 97 6) ys k = gI σ 119 (ys.length - 1 - k) := fun q => by unfold fr9; rw [if_neg q, if_neg q, e1 _ (by omega) (by omega), e2 _ (by omega) (by omega)]; exact ⟨rfl, rfl⟩
      have K4 : Vv d mX10_compared 126 [.ref 97, .int (iI xs.length), .int (iI ys.length), .int (iI 0), .int (iI k), .int (iI (gI σ 101 (fr9 (gI σ 97 6) xs k))), l6] [] σ (QI P) := by
        have K5 : Vv d mX10_compared 161 [.ref 97, .int (iI xs.length), .int (iI ys.length), .int (iI 0), .int (iI k), .int (iI (gI σ 101 (fr9 (gI σ 97 6) xs k))), .int (iI (gI σ 101 (fr9 (gI σ 97 6) ys k)))] [] σ (QI P) := by
          refine v_iload dX10_compared_161 rfl ?_
          refine v_iload dX10_compared_163 rfl ?_
          refine v_icmp_eq (tgt := 181) dX10_compared_165 (by decide) (by omega) (fun q165 => ?_) (fun q165 => ?_)
          · refine v_iinc (lv' := [_, _, _, _, _, _, _]) dX10_compared_181 rfl (Nat.le_of_ble_eq_true rfl) rfl rfl ?_
            refine v_goto (tgt := 79) dX10_compared_184 (by decide) ?_
            exact ih (k + 1) (by omega) (by omega) (by rw [hd, dif9, if_neg (by omega)]) _ _
          · refine v_iload dX10_compared_168 rfl ?_
            refine v_iload dX10_compared_170 rfl ?_
            refine v_icmp_le (tgt := 179) dX10_compared_172 (by decide) (by omega) (fun q172 => ?_) (fun q172 => ?_)
            · refine v_iconst dX10_compared_179 ?_
              exact v_ireturn dX10_compared_180 rfl (by
            rw [hd, dif9, if_pos (by omega), els9_ne (by omega)] at h
            first
            | (rw [sgn9_p (by omega)] at h; exact h)
            | (rw [sgn9_n (by omega)] at h; exact h))
            · refine v_iconst dX10_compared_175 ?_
              refine v_goto (tgt := 180) dX10_compared_176 (by decide) ?_
              exact v_ireturn dX10_compared_180 rfl (by
            rw [hd, dif9, if_pos (by omega), els9_ne (by omega)] at h
            first
            | (rw [sgn9_p (by omega)] at h; exact h)
            | (rw [sgn9_n (by omega)] at h; exact h))
        refine v_aload_n dX10_compared_126 rfl ?_
        refine v_getR (k1 := 101) dX10_compared_127 s_97 fX10_25 rfl ?_
        refine v_aload_n dX10_compared_130 rfl ?_
        refine v_getI (ji := 6) dX10_compared_131 s_97 fX10_130 rfl ?_
        refine v_if_ne (tgt := 147) dX10_compared_134 (by decide) (by omega) (fun q134 => ?_) (fun q134 => ?_)
        · refine v_aload_n dX10_compared_147 rfl ?_
          refine v_getR (k1 := 119) dX10_compared_148 s_97 fX10_82 rfl ?_
          refine v_iload_n dX10_compared_151 rfl ?_
          refine v_iconst dX10_compared_152 ?_
          refine v_isub dX10_compared_153 ?_
          refine v_iload dX10_compared_154 rfl ?_
          refine v_isub dX10_compared_156 ?_
          refine v_iaload dX10_compared_157 s_119 (by omega) ?_
          first
          | rw [← (c1 q134).2]
          | rw [← (c2 q134).2]
          refine v_iaload dX10_compared_158 s_101 (by omega) ?_
          refine v_istore (lv' := [_, _, _, _, _, _, _]) dX10_compared_159 (Nat.le_of_ble_eq_true rfl) rfl rfl ?_
          exact K5
        · refine v_aload_n dX10_compared_137 rfl ?_
          refine v_getR (k1 := 119) dX10_compared_138 s_97 fX10_82 rfl ?_
          refine v_iload dX10_compared_141 rfl ?_
          refine v_iaload dX10_compared_143 s_119 (by omega) ?_
          refine v_goto (tgt := 158) dX10_compared_144 (by decide) ?_
          first
          | rw [← (c1 q134).2]
          | rw [← (c2 q134).2]
          refine v_iaload dX10_compared_158 s_101 (by omega) ?_
          refine v_istore (lv' := [_, _, _, _, _, _, _]) dX10_compared_159 (Nat.le_of_ble_eq_true rfl) rfl rfl ?_
          exact K5
      refine v_iload dX10_compared_79 rfl ?_
      refine v_iload_n dX10_compared_81 rfl ?_
      refine v_icmp_ge (tgt := 187) dX10_compared_82 (by decide) (by omega) (fun q82 => absurd q82 (by omega)) (fun q82 => ?_)
      refine v_iload dX10_compared_85 rfl ?_
      refine v_iload_n dX10_compared_87 rfl ?_
      refine v_icmp_ge (tgt := 187) dX10_compared_88 (by decide) (by omega) (fun q88 => absurd q88 (by omega)) (fun q88 => ?_)
      refine v_aload_n dX10_compared_91 rfl ?_
      refine v_getR (k1 := 101) dX10_compared_92 s_97 fX10_25 rfl ?_
      refine v_aload_n dX10_compared_95 rfl ?_
      refine v_getI (ji := 6) dX10_compared_96 s_97 fX10_130 rfl ?_
      refine v_if_ne (tgt := 112) dX10_compared_99 (by decide) (by omega) (fun q99 => ?_) (fun q99 => ?_)
      · refine v_aload_n dX10_compared_112 rfl ?_
        refine v_getR (k1 := 118) dX10_compared_113 s_97 fX10_79 rfl ?_
        refine v_iload_n dX10_compared_116 rfl ?_
        refine v_iconst dX10_compared_117 ?_
        refine v_isub dX10_compared_118 ?_
        refine v_iload dX10_compared_119 rfl ?_
        refine v_isub dX10_compared_121 ?_
        refine v_iaload dX10_compared_122 s_118 (by omega) ?_
        first
        | rw [← (c1 q99).1]
        | rw [← (c2 q99).1]
        refine v_iaload dX10_compared_123 s_101 (by omega) ?_
        refine v_istore (lv' := [_, _, _, _, _, _, _]) dX10_compared_124 (Nat.le_of_ble_eq_true rfl) rfl rfl ?_
        exact K4
      · refine v_aload_n dX10_compared_102 rfl ?_
        refine v_getR (k1 := 118) dX10_compared_103 s_97 fX10_79 rfl ?_
        refine v_iload dX10_compared_106 rfl ?_
        refine v_iaload dX10_compared_108 s_118 (by omega) ?_
        refine v_goto (tgt := 123) dX10_compared_109 (by decide) ?_
        first
        | rw [← (c1 q99).1]
        | rw [← (c2 q99).1]
        refine v_iaload dX10_compared_123 s_101 (by omega) ?_
        refine v_istore (lv' := [_, _, _, _, _, _, _]) dX10_compared_124 (Nat.le_of_ble_eq_true rfl) rfl rfl ?_
        exact K4
  have K2 : ∀ (m : Nat) (k : Int), 0 ≤ k → k + m = ys.length → Vv d mX10_compared 35 [.ref 97, .int (iI xs.length), .int (iI ys.length), .int (iI (wt9 (gI σ 100) xs - wt9 (gI σ 100) (ys.take k.toNat))), .int (iI k), .null, .null] [] σ (QI P) := by
    intro m
    induction m with
    | zero =>
      intro k hk hm
      have hw1 := wx xs.length
      have hw2 := wy ys.length
      rw [List.take_of_length_le (by omega)] at hw1 hw2 ⊢
      refine v_iload dX10_compared_35 rfl ?_
      refine v_iload_n dX10_compared_37 rfl ?_
      refine v_icmp_ge (tgt := 62) dX10_compared_38 (by decide) (by omega) (fun q38 => ?_) (fun q38 => absurd q38 (by omega))
      refine v_iload_n dX10_compared_62 rfl ?_
      refine v_if_eq (tgt := 76) dX10_compared_63 (by decide) (by omega) (fun q63 => ?_) (fun q63 => ?_)
      · refine v_iconst dX10_compared_76 ?_
        refine v_istore (lv' := [_, _, _, _, _, _, _]) dX10_compared_77 (Nat.le_of_ble_eq_true rfl) rfl rfl ?_
        rw [q63]
        exact K3 q63 (min xs.length ys.length) 0 (by omega) (by omega) rfl _ _
      · refine v_iload_n dX10_compared_66 rfl ?_
        refine v_if_le (tgt := 74) dX10_compared_67 (by decide) (by omega) (fun q67 => ?_) (fun q67 => ?_)
        · refine v_iconst dX10_compared_74 ?_
          exact v_ireturn dX10_compared_75 rfl (by
        unfold cmp9 at h
        rw [els9_ne (by rw [els9_ne (by omega)]; omega), els9_ne (by omega)] at h
        first
        | (rw [sgn9_p (by omega)] at h; exact h)
        | (rw [sgn9_n (by omega)] at h; exact h))
        · refine v_iconst dX10_compared_70 ?_
          refine v_goto (tgt := 75) dX10_compared_71 (by decide) ?_
          exact v_ireturn dX10_compared_75 rfl (by
        unfold cmp9 at h
        rw [els9_ne (by rw [els9_ne (by omega)]; omega), els9_ne (by omega)] at h
        first
        | (rw [sgn9_p (by omega)] at h; exact h)
        | (rw [sgn9_n (by omega)] at h; exact h))
    | succ m ih =>
      intro k hk hm
      have ih := ih (k + 1) (by omega) (by omega)
      rw [at9_take (by omega), wt9_snoc, ← Int.sub_sub] at ih
      have ha := hy.1 _ (at9_mem (xs := ys) (p := k) (by omega))
      refine v_iload dX10_compared_35 rfl ?_
      refine v_iload_n dX10_compared_37 rfl ?_
      refine v_icmp_ge (tgt := 62) dX10_compared_38 (by decide) (by omega) (fun q38 => absurd q38 (by omega)) (fun q38 => ?_)
      refine v_iload_n dX10_compared_41 rfl ?_
      refine v_aload_n dX10_compared_42 rfl ?_
      refine v_getR (k1 := 100) dX10_compared_43 s_97 fX10_22 rfl ?_
      refine v_aload_n dX10_compared_46 rfl ?_
      refine v_getR (k1 := 119) dX10_compared_47 s_97 fX10_82 rfl ?_
      refine v_iload dX10_compared_50 rfl ?_
      refine v_iaload dX10_compared_52 s_119 (by omega) ?_
      rw [e2 k hk (by omega)]
      refine v_iaload dX10_compared_53 s_100 (by omega) ?_
      refine v_isub dX10_compared_54 ?_
      refine v_istore_n (lv' := [_, _, _, _, _, _, _]) dX10_compared_55 (Nat.le_of_ble_eq_true rfl) rfl rfl ?_
      refine v_iinc (lv' := [_, _, _, _, _, _, _]) dX10_compared_56 rfl (Nat.le_of_ble_eq_true rfl) rfl rfl ?_
      refine v_goto (tgt := 35) dX10_compared_59 (by decide) ?_
      exact ih
  have K1 : ∀ (m : Nat) (k : Int), 0 ≤ k → k + m = xs.length → Vv d mX10_compared 5 [.ref 97, .int (iI xs.length), .int (iI ys.length), .int (iI (wt9 (gI σ 100) (xs.take k.toNat))), .int (iI k), .null, .null] [] σ (QI P) := by
    intro m
    induction m with
    | zero =>
      intro k hk hm
      rw [List.take_of_length_le (by omega)]
      refine v_iload dX10_compared_5 rfl ?_
      refine v_iload_n dX10_compared_7 rfl ?_
      refine v_icmp_ge (tgt := 32) dX10_compared_8 (by decide) (by omega) (fun q8 => ?_) (fun q8 => absurd q8 (by omega))
      refine v_iconst dX10_compared_32 ?_
      refine v_istore (lv' := [_, _, _, _, _, _, _]) dX10_compared_33 (Nat.le_of_ble_eq_true rfl) rfl rfl ?_
      have h8 := K2 ys.length 0 (by omega) (by omega)
      rw [show wt9 (gI σ 100) (ys.take (0 : Int).toNat) = 0 from rfl, Int.sub_zero] at h8
      exact h8
    | succ m ih =>
      intro k hk hm
      have ih := ih (k + 1) (by omega) (by omega)
      rw [at9_take (by omega), wt9_snoc] at ih
      have ha := hx.1 _ (at9_mem (xs := xs) (p := k) (by omega))
      refine v_iload dX10_compared_5 rfl ?_
      refine v_iload_n dX10_compared_7 rfl ?_
      refine v_icmp_ge (tgt := 32) dX10_compared_8 (by decide) (by omega) (fun q8 => absurd q8 (by omega)) (fun q8 => ?_)
      refine v_iload_n dX10_compared_11 rfl ?_
      refine v_aload_n dX10_compared_12 rfl ?_
      refine v_getR (k1 := 100) dX10_compared_13 s_97 fX10_22 rfl ?_
      refine v_aload_n dX10_compared_16 rfl ?_
      refine v_getR (k1 := 118) dX10_compared_17 s_97 fX10_79 rfl ?_
      refine v_iload dX10_compared_20 rfl ?_
      refine v_iaload dX10_compared_22 s_118 (by omega) ?_
      rw [e1 k hk (by omega)]
      refine v_iaload dX10_compared_23 s_100 (by omega) ?_
      refine v_iadd dX10_compared_24 ?_
      refine v_istore_n (lv' := [_, _, _, _, _, _, _]) dX10_compared_25 (Nat.le_of_ble_eq_true rfl) rfl rfl ?_
      refine v_iinc (lv' := [_, _, _, _, _, _, _]) dX10_compared_26 rfl (Nat.le_of_ble_eq_true rfl) rfl rfl ?_
      refine v_goto (tgt := 5) dX10_compared_29 (by decide) ?_
      exact ih
  refine v_iconst dX10_compared_0 ?_
  refine v_istore_n (lv' := [_, _, _, _, _, _, _]) dX10_compared_1 (Nat.le_of_ble_eq_true rfl) rfl rfl ?_
  refine v_iconst dX10_compared_2 ?_
  refine v_istore (lv' := [_, _, _, _, _, _, _]) dX10_compared_3 (Nat.le_of_ble_eq_true rfl) rfl rfl ?_
  exact K1 xs.length 0 (by omega) (by omega)
end
