/-! ===== sequences of digits, and their numbers ===== -/
def val9 (b : Int) (e : Int → Int) : Nat → Int
  | 0 => 0
  | k + 1 => val9 b e k * b + e k
def Dg9 (b : Int) (e : Int → Int) (m : Nat) : Prop := ∀ k : Int, 0 ≤ k → k < m → 0 ≤ e k ∧ e k < b
theorem Dg9.mono {b : Int} {e : Int → Int} {m c : Nat} (h : Dg9 b e m) (hc : c ≤ m) : Dg9 b e c := fun k a q => h k a (by omega)
theorem val9_congr {b : Int} {e f : Int → Int} : ∀ m : Nat, (∀ k : Int, 0 ≤ k → k < m → e k = f k) → val9 b e m = val9 b f m
  | 0, _ => rfl
  | m + 1, h => by
    unfold val9
    rw [val9_congr m (fun k a q => h k a (by omega)), h m (by omega) (by omega)]
theorem pow9 {b : Int} (hb : 0 < b) (j : Nat) : 0 < b ^ j := Int.pow_pos hb
theorem val9_split {b : Int} {e : Int → Int} (hb : 0 < b) (c : Nat) : ∀ j : Nat, Dg9 b e (c + j) → val9 b e c * b ^ j ≤ val9 b e (c + j) ∧ val9 b e (c + j) < (val9 b e c + 1) * b ^ j
  | 0, _ => by
    rw [Int.pow_zero, Nat.add_zero]
    omega
  | j + 1, h => by
    have ih := val9_split hb c j (h.mono (by omega))
    have hd := h ((c + j : Nat) : Int) (by omega) (by omega)
    rw [show c + (j + 1) = (c + j) + 1 by omega, val9, Int.pow_succ, ← Int.mul_assoc, ← Int.mul_assoc]
    have h1 := Int.mul_le_mul_of_nonneg_right ih.1 (Int.le_of_lt hb)
    have h2 := Int.mul_le_mul_of_nonneg_right (show val9 b e (c + j) + 1 ≤ (val9 b e c + 1) * b ^ j by omega) (Int.le_of_lt hb)
    rw [Int.add_mul (val9 b e (c + j)), Int.one_mul] at h2
    omega
theorem val9_bd {b : Int} {e : Int → Int} (hb : 0 < b) {m : Nat} (h : Dg9 b e m) : 0 ≤ val9 b e m ∧ val9 b e m < b ^ m := by
  have := val9_split (e := e) hb 0 m (by rw [Nat.zero_add]; exact h)
  rw [Nat.zero_add, val9, Int.zero_mul, Int.zero_add, Int.one_mul] at this
  exact this
theorem val9_inj {b : Int} {e f : Int → Int} (hb : 0 < b) : ∀ m : Nat, Dg9 b e m → Dg9 b f m → val9 b e m = val9 b f m → ∀ k : Int, 0 ≤ k → k < m → e k = f k
  | 0, _, _, _ => fun k a q => by omega
  | m + 1, he, hf, h => fun k a q => by
    unfold val9 at h
    have h1 := he m (by omega) (by omega)
    have h2 := hf m (by omega) (by omega)
    have d1 : (val9 b e m * b + e m) / b = val9 b e m := by rw [Int.add_comm, Int.add_mul_ediv_right _ _ (by omega), Int.ediv_eq_zero_of_lt h1.1 h1.2, Int.zero_add]
    have d2 : (val9 b f m * b + f m) / b = val9 b f m := by rw [Int.add_comm, Int.add_mul_ediv_right _ _ (by omega), Int.ediv_eq_zero_of_lt h2.1 h2.2, Int.zero_add]
    have e1 : val9 b e m = val9 b f m := by rw [← d1, ← d2, h]
    by_cases ek : k = m
    · rw [ek]
      rw [e1] at h
      omega
    · exact val9_inj hb m (he.mono (by omega)) (hf.mono (by omega)) e1 k a (by omega)
theorem val9_top {b : Int} {e : Int → Int} (c : Nat) : ∀ j : Nat, (∀ k : Int, c ≤ k → k < c + j → e k = b - 1) → val9 b e (c + j) + 1 = (val9 b e c + 1) * b ^ j
  | 0, _ => by rw [Int.pow_zero, Nat.add_zero, Int.mul_one]
  | j + 1, h => by
    have ih := val9_top c j (fun k a q => h k a (by omega))
    rw [show c + (j + 1) = (c + j) + 1 by omega, val9, Int.pow_succ, ← Int.mul_assoc, ← ih, h ((c + j : Nat) : Int) (by omega) (by omega), Int.add_mul, Int.one_mul]
    omega
/-- no sequence below a number fits -/
def Non9 (b : Int) (m : Nat) (F : (Int → Int) → Prop) (L : Int) : Prop := ∀ e, Dg9 b e m → val9 b e m < L → ¬ F e
/-- the first sequence that fits -/
def Fst9 (b : Int) (m : Nat) (F : (Int → Int) → Prop) (g : Int → Int) : Prop := Dg9 b g m ∧ F g ∧ Non9 b m F (val9 b g m)
def All9 (b : Int) (m : Nat) (F : (Int → Int) → Prop) : Prop := ∀ e, Dg9 b e m → ¬ F e
theorem Fst9.uniq {b : Int} {m : Nat} {F G : (Int → Int) → Prop} {f g : Int → Int} (hb : 0 < b) (h1 : Fst9 b m F f) (h2 : Fst9 b m G g) (hFG : ∀ e, Dg9 b e m → (F e ↔ G e)) : ∀ k : Int, 0 ≤ k → k < m → f k = g k := by
  have h3 : ¬ val9 b f m < val9 b g m := fun h => h2.2.2 f h1.1 h ((hFG f h1.1).mp h1.2.1)
  have h4 : ¬ val9 b g m < val9 b f m := fun h => h1.2.2 g h2.1 h ((hFG g h2.1).mpr h2.2.1)
  exact val9_inj hb m h1.1 h2.1 (by omega)
theorem Non9.rej {b : Int} {m : Nat} {F : (Int → Int) → Prop} {g : Int → Int} (hb : 0 < b) {c j : Nat} (hm : c + j = m) (hg : Dg9 b g c) (h : Non9 b m F (val9 b g c * b ^ j)) (hr : ∀ e, Dg9 b e m → (∀ k : Int, 0 ≤ k → k < c → e k = g k) → ¬ F e) : Non9 b m F ((val9 b g c + 1) * b ^ j) := by
  intro e he hl
  subst hm
  have hs := val9_split hb c j he
  by_cases h1 : val9 b e c = val9 b g c
  · exact hr e he (val9_inj hb c (he.mono (by omega)) hg h1)
  · refine h e he ?_
    by_cases h2 : val9 b e c < val9 b g c
    · have := Int.mul_le_mul_of_nonneg_right (show val9 b e c + 1 ≤ val9 b g c by omega) (Int.le_of_lt (pow9 hb j))
      omega
    · exfalso
      have := Int.mul_le_mul_of_nonneg_right (show val9 b g c + 1 ≤ val9 b e c by omega) (Int.le_of_lt (pow9 hb j))
      omega
section
variable {d : Nat} {σ : S9}
theorem c_X6_advance_45 {c lim : Int} {P : Int → S9 → Prop} (hc : 0 ≤ c ∧ c ≤ 8) (hl : 0 ≤ lim ∧ lim ≤ 100) (hg : Dg9 (lim + 1) (gI σ 46) c.toNat) (h1 : ∀ p, 0 ≤ p → p < c → gI σ 46 p < lim → (∀ k, p < k → k < c → gI σ 46 k = lim) → P (p + 1) (sI σ 46 p (gI σ 46 p + 1))) (h0 : (∀ k, 0 ≤ k → k < c → gI σ 46 k = lim) → P 0 σ) : Cc d mX6_advance [.ref 45, .int (iI c), .int (iI lim)] σ (QI P) := by
  refine Cc_of (by decide +kernel) (fun _ => Nat.le_of_ble_eq_true rfl) rfl (lv := [_, _, _, _]) ?_
  have K : ∀ (m : Nat) (p : Int), p + 1 = m → p < c → (∀ k, p < k → k < c → gI σ 46 k = lim) → Vv d mX6_advance 4 [.ref 45, .int (iI c), .int (iI lim), .int (iI p)] [] σ (QI P) := by
    intro m
    induction m with
    | zero =>
      intro p hp hpc hk
      refine v_iload_n dX6_advance_4 rfl ?_
      refine v_if_lt (tgt := 38) dX6_advance_5 (by decide) (by omega) (fun q5 => ?_) (fun q5 => absurd q5 (by omega))
      refine v_iconst dX6_advance_38 ?_
      exact v_ireturn dX6_advance_39 rfl (h0 (fun k a b => hk k (by omega) b))
    | succ m ih =>
      intro p hp hpc hk
      have hd := hg p (by omega) (by omega)
      refine v_iload_n dX6_advance_4 rfl ?_
      refine v_if_lt (tgt := 38) dX6_advance_5 (by decide) (by omega) (fun q5 => absurd q5 (by omega)) (fun q5 => ?_)
      refine v_aload_n dX6_advance_8 rfl ?_
      refine v_getR (k1 := 46) dX6_advance_9 s_45 fX6_9_3 rfl ?_
      refine v_iload_n dX6_advance_12 rfl ?_
      refine v_iaload dX6_advance_13 s_46 (by omega) ?_
      refine v_iload_n dX6_advance_14 rfl ?_
      refine v_icmp_ge (tgt := 32) dX6_advance_15 (by decide) (by omega) (fun q15 => ?_) (fun q15 => ?_)
      · refine v_iinc (lv' := [_, _, _, _]) dX6_advance_32 rfl (Nat.le_of_ble_eq_true rfl) rfl rfl ?_
        refine v_goto (tgt := 4) dX6_advance_35 (by decide) ?_
        exact ih (p - 1) (by omega) (by omega) (fun k a b => if e : k = p then (by rw [e]; omega) else hk k (by omega) b)
      · refine v_aload_n dX6_advance_18 rfl ?_
        refine v_getR (k1 := 46) dX6_advance_19 s_45 fX6_9_3 rfl ?_
        refine v_iload_n dX6_advance_22 rfl ?_
        refine v_dup2 dX6_advance_23 rfl rfl ?_
        refine v_iaload dX6_advance_24 s_46 (by omega) ?_
        refine v_iconst dX6_advance_25 ?_
        refine v_iadd dX6_advance_26 ?_
        refine v_iastore dX6_advance_27 s_46 (by omega) ?_
        refine v_iload_n dX6_advance_28 rfl ?_
        refine v_iconst dX6_advance_29 ?_
        refine v_iadd dX6_advance_30 ?_
        exact v_ireturn dX6_advance_31 rfl (h1 p (by omega) hpc q15 hk)
  refine v_iload_n dX6_advance_0 rfl ?_
  refine v_iconst dX6_advance_1 ?_
  refine v_isub dX6_advance_2 ?_
  refine v_istore_n (lv' := [_, _, _, _]) dX6_advance_3 (Nat.le_of_ble_eq_true rfl) rfl rfl ?_
  exact K c.toNat (c - 1) (by omega) (by omega) (fun k a b => by omega)
theorem c_X6_findFirst_45 {pl lim : Int} {P : Int → S9 → Prop} {F : (Int → Int) → Prop} {J : S9 → Int → Prop} {E : S9 → Prop} (hp : (-2147483648 ≤ pl ∧ pl < 2147483648)) (hl : 0 ≤ lim ∧ lim ≤ 100) (hbig : (1 ≤ pl ∧ pl ≤ 8) → (lim + 1) ^ pl.toNat * pl + pl < 1000000)
    (hbad : ¬ (1 ≤ pl ∧ pl ≤ 8) → P 0 σ) (hJ1 : (1 ≤ pl ∧ pl ≤ 8) → J (sI σ 46 0 0) 1)
    (hmf : ∀ (τ : S9) (c : Int) (Q : Int → S9 → Prop), (1 ≤ pl ∧ pl ≤ 8) → 1 ≤ c → c ≤ pl → J τ c → Dg9 (lim + 1) (gI τ 46) c.toNat →
      (∀ τ', gI τ' 46 = gI τ 46 → E τ' → (∀ c' x, 1 ≤ c' → c' ≤ c → J (sI τ' 46 (c' - 1) x) c') → (∀ e, Dg9 (lim + 1) e pl.toNat → (∀ k, 0 ≤ k → k < c → e k = gI τ 46 k) → ¬ F e) → Q 0 τ') →
      (∀ τ', gI τ' 46 = gI τ 46 → E τ' → (c < pl → J (sI τ' 46 c 0) (c + 1)) → (c = pl → F (gI τ 46)) → Q 1 τ') → Cc (d + 1) mX3_mayFit [.ref 45, .int (iI c)] τ (QI Q))
    (h1 : ∀ τ, (1 ≤ pl ∧ pl ≤ 8) → E τ → Fst9 (lim + 1) pl.toNat F (gI τ 46) → P 1 τ) (h0 : ∀ τ, (1 ≤ pl ∧ pl ≤ 8) → E τ → All9 (lim + 1) pl.toNat F → P 0 τ) : Cc (d + 2) mX6_findFirst [.ref 45, .int (iI pl), .int (iI lim)] σ (QI P) := by
  refine Cc_of (by decide +kernel) (fun _ => Nat.le_of_ble_eq_true rfl) rfl (lv := [_, _, _, _, _]) ?_
  have K : (1 ≤ pl ∧ pl ≤ 8) → ∀ (fuel : Nat) (v c : Int) (τ : S9), 0 ≤ v → v < 1000000 → 0 ≤ c → c ≤ pl →
      (c = 0 → E τ ∧ All9 (lim + 1) pl.toNat F) →
      (0 < c → J τ c ∧ Dg9 (lim + 1) (gI τ 46) c.toNat ∧ Non9 (lim + 1) pl.toNat F (val9 (lim + 1) (gI τ 46) c.toNat * (lim + 1) ^ (pl - c).toNat) ∧ ((lim + 1) ^ pl.toNat - val9 (lim + 1) (gI τ 46) c.toNat * (lim + 1) ^ (pl - c).toNat) * pl + (pl - c) ≤ fuel ∧ v + fuel < 1000000) →
      Vv (d + 2) mX6_findFirst 25 [.ref 45, .int (iI pl), .int (iI lim), .int (iI c), .int (iI v)] [] τ (QI P) := by
    intro hpl fuel
    have hb : 0 < lim + 1 := by omega
    induction fuel with
    | zero =>
      intro v c τ hv hv2 hc0 hc1 hz hc
      by_cases ec : c = 0
      · subst ec
        refine v_iload dX6_findFirst_25 rfl ?_
        refine v_ldc dX6_findFirst_27 wX6_13 ?_
        refine v_icmp_ge (tgt := 80) dX6_findFirst_29 (by decide) (by omega) (fun q29 => absurd q29 (by omega)) (fun q29 => ?_)
        refine v_iload_n dX6_findFirst_32 rfl ?_
        refine v_if_le (tgt := 80) dX6_findFirst_33 (by decide) (by omega) (fun q33 => ?_) (fun q33 => absurd q33 (by omega))
        refine v_iconst dX6_findFirst_80 ?_
        exact v_zreturn dX6_findFirst_81 rfl (by omega) (h0 τ hpl (hz rfl).1 (hz rfl).2)
      · exfalso
        obtain ⟨hJ, hD, hN, hM, hV⟩ := hc (by omega)
        have h8 := val9_bd hb hD
        have h9 := Int.mul_le_mul_of_nonneg_right (show val9 (lim + 1) (gI τ 46) c.toNat + 1 ≤ (lim + 1) ^ c.toNat by omega) (Int.le_of_lt (pow9 hb (pl - c).toNat))
        rw [← Int.pow_add, show c.toNat + (pl - c).toNat = pl.toNat by omega, Int.add_mul, Int.one_mul] at h9
        have h10 := pow9 hb (pl - c).toNat
        have h11 := Int.mul_le_mul_of_nonneg_right (show 1 ≤ (lim + 1) ^ pl.toNat - val9 (lim + 1) (gI τ 46) c.toNat * (lim + 1) ^ (pl - c).toNat by omega) (show 0 ≤ pl by omega)
        omega
    | succ fuel ih =>
      intro v c τ hv hv2 hc0 hc1 hz hc
      by_cases ec : c = 0
      · subst ec
        refine v_iload dX6_findFirst_25 rfl ?_
        refine v_ldc dX6_findFirst_27 wX6_13 ?_
        refine v_icmp_ge (tgt := 80) dX6_findFirst_29 (by decide) (by omega) (fun q29 => absurd q29 (by omega)) (fun q29 => ?_)
        refine v_iload_n dX6_findFirst_32 rfl ?_
        refine v_if_le (tgt := 80) dX6_findFirst_33 (by decide) (by omega) (fun q33 => ?_) (fun q33 => absurd q33 (by omega))
        refine v_iconst dX6_findFirst_80 ?_
        exact v_zreturn dX6_findFirst_81 rfl (by omega) (h0 τ hpl (hz rfl).1 (hz rfl).2)
      · obtain ⟨hJ, hD, hN, hM, hV⟩ := hc (by omega)
        refine v_iload dX6_findFirst_25 rfl ?_
        refine v_ldc dX6_findFirst_27 wX6_13 ?_
        refine v_icmp_ge (tgt := 80) dX6_findFirst_29 (by decide) (by omega) (fun q29 => absurd q29 (by omega)) (fun q29 => ?_)
        refine v_iload_n dX6_findFirst_32 rfl ?_
        refine v_if_le (tgt := 80) dX6_findFirst_33 (by decide) (by omega) (fun q33 => absurd q33 (by omega)) (fun q33 => ?_)
        refine v_aload_n dX6_findFirst_36 rfl ?_
        refine v_iload_n dX6_findFirst_37 rfl ?_
        refine v_callUi1 dX6_findFirst_38 kX6_14_3 s_45 (Nat.le_of_ble_eq_true rfl) (hmf τ c _ hpl (by omega) hc1 hJ hD (fun τ' hg hE hJ2 hr => ?_) (fun τ' hg hE hJ2 hF => ?_))
        · have hN2 := hN.rej hb (show c.toNat + (pl - c).toNat = pl.toNat by omega) hD (fun e a b => hr e a (fun k y z => b k y (by omega)))
          refine v_if_ne (tgt := 54) dX6_findFirst_41 (by decide) (by decide) (fun q41 => absurd q41 (by decide)) (fun q41 => ?_)
          refine v_aload_n dX6_findFirst_44 rfl ?_
          refine v_iload_n dX6_findFirst_45 rfl ?_
          refine v_iload_n dX6_findFirst_46 rfl ?_
          refine v_callUi2 dX6_findFirst_47 kX6_18_3 s_45 (Nat.le_of_ble_eq_true rfl) (c_X6_advance_45 (by omega) (by omega) (by rw [hg]; exact hD) (fun p p0 p1 p2 p3 => ?_) (fun p3 => ?_))
          · refine v_istore_n (lv' := [_, _, _, _, _]) dX6_findFirst_50 (Nat.le_of_ble_eq_true rfl) rfl rfl ?_
            refine v_goto (tgt := 74) dX6_findFirst_51 (by decide) ?_
            refine v_iinc (lv' := [_, _, _, _, _]) dX6_findFirst_74 rfl (Nat.le_of_ble_eq_true rfl) rfl rfl ?_
            refine v_goto (tgt := 25) dX6_findFirst_77 (by decide) ?_
            have eD : Dg9 (lim + 1) (gI (sI τ' 46 p (gI τ' 46 p + 1)) 46) (p + 1).toNat := fun k a b => by
              rw [gI_aI_eq]
              by_cases e : k = p
              · rw [e, up9_eq, hg]
                have := hD p (by omega) (by omega)
                rw [hg] at p2
                omega
              · rw [up9_ne e, hg]
                exact hD k a (by omega)
            have eV : val9 (lim + 1) (gI (sI τ' 46 p (gI τ' 46 p + 1)) 46) (p + 1).toNat = val9 (lim + 1) (gI τ 46) (p + 1).toNat + 1 := by
              rw [show (p + 1).toNat = p.toNat + 1 by omega, val9, val9, show ((p.toNat : Nat) : Int) = p by omega, gI_aI_eq, up9_eq, hg, val9_congr (e := up9 (gI τ 46) p (gI τ 46 p + 1)) (f := gI τ 46) p.toNat (fun k a b => up9_ne (by omega))]
              omega
            have eT := val9_top (b := lim + 1) (e := gI τ 46) (p + 1).toNat (c - (p + 1)).toNat (fun k a b => by rw [← hg, p3 k (by omega) (by omega)]; omega)
            rw [show (p + 1).toNat + (c - (p + 1)).toNat = c.toNat by omega] at eT
            have eL : (val9 (lim + 1) (gI τ 46) c.toNat + 1) * (lim + 1) ^ (pl - c).toNat = val9 (lim + 1) (gI (sI τ' 46 p (gI τ' 46 p + 1)) 46) (p + 1).toNat * (lim + 1) ^ (pl - (p + 1)).toNat := by
              rw [eT, eV, Int.mul_assoc, ← Int.pow_add, show (c - (p + 1)).toNat + (pl - c).toNat = (pl - (p + 1)).toNat by omega]
            have hx := Int.mul_le_mul_of_nonneg_right (show (lim + 1) ^ pl.toNat - (val9 (lim + 1) (gI τ 46) c.toNat + 1) * (lim + 1) ^ (pl - c).toNat ≤ (lim + 1) ^ pl.toNat - val9 (lim + 1) (gI τ 46) c.toNat * (lim + 1) ^ (pl - c).toNat - 1 by have := pow9 hb (pl - c).toNat; rw [Int.add_mul, Int.one_mul]; omega) (show 0 ≤ pl by omega)
            rw [Int.sub_mul _ 1, Int.one_mul] at hx
            refine ih (v + 1) (p + 1) _ (by omega) (by omega) (by omega) (by omega) (fun y => by omega) (fun _ => ⟨?_, eD, ?_, ?_, by omega⟩)
            · have := hJ2 (p + 1) (gI τ' 46 p + 1) (by omega) (by omega)
              rw [show p + 1 - 1 = p by omega] at this
              exact this
            · rw [← eL]; exact hN2
            · rw [← eL]; omega
          · refine v_istore_n (lv' := [_, _, _, _, _]) dX6_findFirst_50 (Nat.le_of_ble_eq_true rfl) rfl rfl ?_
            refine v_goto (tgt := 74) dX6_findFirst_51 (by decide) ?_
            refine v_iinc (lv' := [_, _, _, _, _]) dX6_findFirst_74 rfl (Nat.le_of_ble_eq_true rfl) rfl rfl ?_
            refine v_goto (tgt := 25) dX6_findFirst_77 (by decide) ?_
            refine ih (v + 1) 0 _ (by omega) (by omega) (by omega) (by omega) (fun _ => ⟨hE, fun e he => ?_⟩) (fun y => absurd y (by decide))
            have eT := val9_top (b := lim + 1) (e := gI τ 46) 0 c.toNat (fun k a b => by rw [← hg, p3 k (by omega) (by omega)]; omega)
            rw [Nat.zero_add, val9, Int.zero_add, Int.one_mul] at eT
            rw [eT, ← Int.pow_add, show c.toNat + (pl - c).toNat = pl.toNat by omega] at hN2
            exact hN2 e he (val9_bd hb he).2
        · refine v_if_ne (tgt := 54) dX6_findFirst_41 (by decide) (by decide) (fun q41 => ?_) (fun q41 => absurd q41 (by decide))
          refine v_iload_n dX6_findFirst_54 rfl ?_
          refine v_iload_n dX6_findFirst_55 rfl ?_
          refine v_icmp_ge (tgt := 72) dX6_findFirst_56 (by decide) (by omega) (fun q56 => ?_) (fun q56 => ?_)
          · refine v_iconst dX6_findFirst_72 ?_
            exact v_zreturn dX6_findFirst_73 rfl (by omega) (h1 τ' hpl hE ⟨by rw [hg, show pl.toNat = c.toNat by omega]; exact hD, by rw [hg]; exact hF (by omega), by rw [hg]; have h8 := hN; rw [show (pl - c).toNat = 0 by omega, Int.pow_zero, Int.mul_one, show c.toNat = pl.toNat by omega] at h8; exact h8⟩)
          · refine v_aload_n dX6_findFirst_59 rfl ?_
            refine v_getR (k1 := 46) dX6_findFirst_60 s_45 fX6_9_3 rfl ?_
            refine v_iload_n dX6_findFirst_63 rfl ?_
            refine v_iconst dX6_findFirst_64 ?_
            refine v_iastore dX6_findFirst_65 s_46 (by omega) ?_
            refine v_iinc (lv' := [_, _, _, _, _]) dX6_findFirst_66 rfl (Nat.le_of_ble_eq_true rfl) rfl rfl ?_
            refine v_goto (tgt := 74) dX6_findFirst_69 (by decide) ?_
            refine v_iinc (lv' := [_, _, _, _, _]) dX6_findFirst_74 rfl (Nat.le_of_ble_eq_true rfl) rfl rfl ?_
            refine v_goto (tgt := 25) dX6_findFirst_77 (by decide) ?_
            have eD : Dg9 (lim + 1) (gI (sI τ' 46 c 0) 46) (c + 1).toNat := fun k a b => by
              rw [gI_aI_eq]
              by_cases e : k = c
              · rw [e, up9_eq]; omega
              · rw [up9_ne e, hg]
                exact hD k a (by omega)
            have eL : val9 (lim + 1) (gI τ 46) c.toNat * (lim + 1) ^ (pl - c).toNat = val9 (lim + 1) (gI (sI τ' 46 c 0) 46) (c + 1).toNat * (lim + 1) ^ (pl - (c + 1)).toNat := by
              rw [show (c + 1).toNat = c.toNat + 1 by omega, val9, show ((c.toNat : Nat) : Int) = c by omega, gI_aI_eq, up9_eq, hg, val9_congr (e := up9 (gI τ 46) c 0) (f := gI τ 46) c.toNat (fun k a b => up9_ne (by omega)), Int.add_zero, Int.mul_assoc, show (pl - c).toNat = (pl - (c + 1)).toNat + 1 by omega, Int.pow_succ, Int.mul_comm (lim + 1)]
            refine ih (v + 1) (c + 1) _ (by omega) (by omega) (by omega) (by omega) (fun y => by omega) (fun _ => ⟨hJ2 (by omega), eD, ?_, ?_, by omega⟩)
            · rw [← eL]; exact hN
            · rw [← eL]; omega
  refine v_iload_n dX6_findFirst_0 rfl ?_
  refine v_iconst dX6_findFirst_1 ?_
  refine v_icmp_lt (tgt := 11) dX6_findFirst_2 (by decide) (by omega) (fun q2 => ?_) (fun q2 => ?_)
  · refine v_iconst dX6_findFirst_11 ?_
    exact v_zreturn dX6_findFirst_12 rfl (by omega) (hbad (by omega))
  · refine v_iload_n dX6_findFirst_5 rfl ?_
    refine v_bipush dX6_findFirst_6 (by decide) ?_
    refine v_icmp_le (tgt := 13) dX6_findFirst_8 (by decide) (by omega) (fun q8 => ?_) (fun q8 => ?_)
    · refine v_aload_n dX6_findFirst_13 rfl ?_
      refine v_getR (k1 := 46) dX6_findFirst_14 s_45 fX6_9_3 rfl ?_
      refine v_iconst dX6_findFirst_17 ?_
      refine v_iconst dX6_findFirst_18 ?_
      refine v_iastore dX6_findFirst_19 s_46 (by omega) ?_
      refine v_iconst dX6_findFirst_20 ?_
      refine v_istore_n (lv' := [_, _, _, _, _]) dX6_findFirst_21 (Nat.le_of_ble_eq_true rfl) rfl rfl ?_
      refine v_iconst dX6_findFirst_22 ?_
      refine v_istore (lv' := [_, _, _, _, _]) dX6_findFirst_23 (Nat.le_of_ble_eq_true rfl) rfl rfl ?_
      have hb : 0 < lim + 1 := by omega
      have hpl : 1 ≤ pl ∧ pl ≤ 8 := by omega
      have hB := hbig hpl
      have hq := pow9 hb pl.toNat
      have hqq := Int.mul_le_mul_of_nonneg_right (show 0 ≤ (lim + 1) ^ pl.toNat by omega) (show 0 ≤ pl by omega)
      rw [Int.zero_mul] at hqq
      have eV : val9 (lim + 1) (gI (sI σ 46 0 0) 46) (1 : Int).toNat = 0 := by
        rw [show (1 : Int).toNat = 0 + 1 from rfl, val9, val9, gI_aI_eq]
        rw [show ((0 : Nat) : Int) = 0 from rfl, up9_eq]
        omega
      refine K hpl ((lim + 1) ^ pl.toNat * pl + pl - 1).toNat 0 1 _ (by omega) (by omega) (by omega) (by omega) (fun y => absurd y (by decide)) (fun _ => ⟨hJ1 hpl, fun k a b => ?_, ?_, ?_, by omega⟩)
      · rw [show k = 0 by have : ((1 : Int).toNat : Int) = 1 := rfl; omega, gI_aI_eq, up9_eq]; omega
      · rw [eV, Int.zero_mul]; intro e he hl; have := val9_bd hb he; omega
      · rw [eV, Int.zero_mul, Int.sub_zero]; omega
    · refine v_iconst dX6_findFirst_11 ?_
      exact v_zreturn dX6_findFirst_12 rfl (by omega) (hbad (by omega))
theorem c_X6_advance_75 {c lim : Int} {P : Int → S9 → Prop} (hc : 0 ≤ c ∧ c ≤ 8) (hl : 0 ≤ lim ∧ lim ≤ 100) (hg : Dg9 (lim + 1) (gI σ 76) c.toNat) (h1 : ∀ p, 0 ≤ p → p < c → gI σ 76 p < lim → (∀ k, p < k → k < c → gI σ 76 k = lim) → P (p + 1) (sI σ 76 p (gI σ 76 p + 1))) (h0 : (∀ k, 0 ≤ k → k < c → gI σ 76 k = lim) → P 0 σ) : Cc d mX6_advance [.ref 75, .int (iI c), .int (iI lim)] σ (QI P) := by
  refine Cc_of (by decide +kernel) (fun _ => Nat.le_of_ble_eq_true rfl) rfl (lv := [_, _, _, _]) ?_
  have K : ∀ (m : Nat) (p : Int), p + 1 = m → p < c → (∀ k, p < k → k < c → gI σ 76 k = lim) → Vv d mX6_advance 4 [.ref 75, .int (iI c), .int (iI lim), .int (iI p)] [] σ (QI P) := by
    intro m
    induction m with
    | zero =>
      intro p hp hpc hk
      refine v_iload_n dX6_advance_4 rfl ?_
      refine v_if_lt (tgt := 38) dX6_advance_5 (by decide) (by omega) (fun q5 => ?_) (fun q5 => absurd q5 (by omega))
      refine v_iconst dX6_advance_38 ?_
      exact v_ireturn dX6_advance_39 rfl (h0 (fun k a b => hk k (by omega) b))
    | succ m ih =>
      intro p hp hpc hk
      have hd := hg p (by omega) (by omega)
      refine v_iload_n dX6_advance_4 rfl ?_
      refine v_if_lt (tgt := 38) dX6_advance_5 (by decide) (by omega) (fun q5 => absurd q5 (by omega)) (fun q5 => ?_)
      refine v_aload_n dX6_advance_8 rfl ?_
      refine v_getR (k1 := 76) dX6_advance_9 s_75 fX6_9_2 rfl ?_
      refine v_iload_n dX6_advance_12 rfl ?_
      refine v_iaload dX6_advance_13 s_76 (by omega) ?_
      refine v_iload_n dX6_advance_14 rfl ?_
      refine v_icmp_ge (tgt := 32) dX6_advance_15 (by decide) (by omega) (fun q15 => ?_) (fun q15 => ?_)
      · refine v_iinc (lv' := [_, _, _, _]) dX6_advance_32 rfl (Nat.le_of_ble_eq_true rfl) rfl rfl ?_
        refine v_goto (tgt := 4) dX6_advance_35 (by decide) ?_
        exact ih (p - 1) (by omega) (by omega) (fun k a b => if e : k = p then (by rw [e]; omega) else hk k (by omega) b)
      · refine v_aload_n dX6_advance_18 rfl ?_
        refine v_getR (k1 := 76) dX6_advance_19 s_75 fX6_9_2 rfl ?_
        refine v_iload_n dX6_advance_22 rfl ?_
        refine v_dup2 dX6_advance_23 rfl rfl ?_
        refine v_iaload dX6_advance_24 s_76 (by omega) ?_
        refine v_iconst dX6_advance_25 ?_
        refine v_iadd dX6_advance_26 ?_
        refine v_iastore dX6_advance_27 s_76 (by omega) ?_
        refine v_iload_n dX6_advance_28 rfl ?_
        refine v_iconst dX6_advance_29 ?_
        refine v_iadd dX6_advance_30 ?_
        exact v_ireturn dX6_advance_31 rfl (h1 p (by omega) hpc q15 hk)
  refine v_iload_n dX6_advance_0 rfl ?_
  refine v_iconst dX6_advance_1 ?_
  refine v_isub dX6_advance_2 ?_
  refine v_istore_n (lv' := [_, _, _, _]) dX6_advance_3 (Nat.le_of_ble_eq_true rfl) rfl rfl ?_
  exact K c.toNat (c - 1) (by omega) (by omega) (fun k a b => by omega)
theorem c_X6_findFirst_75 {pl lim : Int} {P : Int → S9 → Prop} {F : (Int → Int) → Prop} {J : S9 → Int → Prop} {E : S9 → Prop} (hp : (-2147483648 ≤ pl ∧ pl < 2147483648)) (hl : 0 ≤ lim ∧ lim ≤ 100) (hbig : (1 ≤ pl ∧ pl ≤ 8) → (lim + 1) ^ pl.toNat * pl + pl < 1000000)
    (hbad : ¬ (1 ≤ pl ∧ pl ≤ 8) → P 0 σ) (hJ1 : (1 ≤ pl ∧ pl ≤ 8) → J (sI σ 76 0 0) 1)
    (hmf : ∀ (τ : S9) (c : Int) (Q : Int → S9 → Prop), (1 ≤ pl ∧ pl ≤ 8) → 1 ≤ c → c ≤ pl → J τ c → Dg9 (lim + 1) (gI τ 76) c.toNat →
      (∀ τ', gI τ' 76 = gI τ 76 → E τ' → (∀ c' x, 1 ≤ c' → c' ≤ c → J (sI τ' 76 (c' - 1) x) c') → (∀ e, Dg9 (lim + 1) e pl.toNat → (∀ k, 0 ≤ k → k < c → e k = gI τ 76 k) → ¬ F e) → Q 0 τ') →
      (∀ τ', gI τ' 76 = gI τ 76 → E τ' → (c < pl → J (sI τ' 76 c 0) (c + 1)) → (c = pl → F (gI τ 76)) → Q 1 τ') → Cc (d + 4) mX2_mayFit [.ref 75, .int (iI c)] τ (QI Q))
    (h1 : ∀ τ, (1 ≤ pl ∧ pl ≤ 8) → E τ → Fst9 (lim + 1) pl.toNat F (gI τ 76) → P 1 τ) (h0 : ∀ τ, (1 ≤ pl ∧ pl ≤ 8) → E τ → All9 (lim + 1) pl.toNat F → P 0 τ) : Cc (d + 5) mX6_findFirst [.ref 75, .int (iI pl), .int (iI lim)] σ (QI P) := by
  refine Cc_of (by decide +kernel) (fun _ => Nat.le_of_ble_eq_true rfl) rfl (lv := [_, _, _, _, _]) ?_
  have K : (1 ≤ pl ∧ pl ≤ 8) → ∀ (fuel : Nat) (v c : Int) (τ : S9), 0 ≤ v → v < 1000000 → 0 ≤ c → c ≤ pl →
      (c = 0 → E τ ∧ All9 (lim + 1) pl.toNat F) →
      (0 < c → J τ c ∧ Dg9 (lim + 1) (gI τ 76) c.toNat ∧ Non9 (lim + 1) pl.toNat F (val9 (lim + 1) (gI τ 76) c.toNat * (lim + 1) ^ (pl - c).toNat) ∧ ((lim + 1) ^ pl.toNat - val9 (lim + 1) (gI τ 76) c.toNat * (lim + 1) ^ (pl - c).toNat) * pl + (pl - c) ≤ fuel ∧ v + fuel < 1000000) →
      Vv (d + 5) mX6_findFirst 25 [.ref 75, .int (iI pl), .int (iI lim), .int (iI c), .int (iI v)] [] τ (QI P) := by
    intro hpl fuel
    have hb : 0 < lim + 1 := by omega
    induction fuel with
    | zero =>
      intro v c τ hv hv2 hc0 hc1 hz hc
      by_cases ec : c = 0
      · subst ec
        refine v_iload dX6_findFirst_25 rfl ?_
        refine v_ldc dX6_findFirst_27 wX6_13 ?_
        refine v_icmp_ge (tgt := 80) dX6_findFirst_29 (by decide) (by omega) (fun q29 => absurd q29 (by omega)) (fun q29 => ?_)
        refine v_iload_n dX6_findFirst_32 rfl ?_
        refine v_if_le (tgt := 80) dX6_findFirst_33 (by decide) (by omega) (fun q33 => ?_) (fun q33 => absurd q33 (by omega))
        refine v_iconst dX6_findFirst_80 ?_
        exact v_zreturn dX6_findFirst_81 rfl (by omega) (h0 τ hpl (hz rfl).1 (hz rfl).2)
      · exfalso
        obtain ⟨hJ, hD, hN, hM, hV⟩ := hc (by omega)
        have h8 := val9_bd hb hD
        have h9 := Int.mul_le_mul_of_nonneg_right (show val9 (lim + 1) (gI τ 76) c.toNat + 1 ≤ (lim + 1) ^ c.toNat by omega) (Int.le_of_lt (pow9 hb (pl - c).toNat))
        rw [← Int.pow_add, show c.toNat + (pl - c).toNat = pl.toNat by omega, Int.add_mul, Int.one_mul] at h9
        have h10 := pow9 hb (pl - c).toNat
        have h11 := Int.mul_le_mul_of_nonneg_right (show 1 ≤ (lim + 1) ^ pl.toNat - val9 (lim + 1) (gI τ 76) c.toNat * (lim + 1) ^ (pl - c).toNat by omega) (show 0 ≤ pl by omega)
        omega
    | succ fuel ih =>
      intro v c τ hv hv2 hc0 hc1 hz hc
      by_cases ec : c = 0
      · subst ec
        refine v_iload dX6_findFirst_25 rfl ?_
        refine v_ldc dX6_findFirst_27 wX6_13 ?_
        refine v_icmp_ge (tgt := 80) dX6_findFirst_29 (by decide) (by omega) (fun q29 => absurd q29 (by omega)) (fun q29 => ?_)
        refine v_iload_n dX6_findFirst_32 rfl ?_
        refine v_if_le (tgt := 80) dX6_findFirst_33 (by decide) (by omega) (fun q33 => ?_) (fun q33 => absurd q33 (by omega))
        refine v_iconst dX6_findFirst_80 ?_
        exact v_zreturn dX6_findFirst_81 rfl (by omega) (h0 τ hpl (hz rfl).1 (hz rfl).2)
      · obtain ⟨hJ, hD, hN, hM, hV⟩ := hc (by omega)
        refine v_iload dX6_findFirst_25 rfl ?_
        refine v_ldc dX6_findFirst_27 wX6_13 ?_
        refine v_icmp_ge (tgt := 80) dX6_findFirst_29 (by decide) (by omega) (fun q29 => absurd q29 (by omega)) (fun q29 => ?_)
        refine v_iload_n dX6_findFirst_32 rfl ?_
        refine v_if_le (tgt := 80) dX6_findFirst_33 (by decide) (by omega) (fun q33 => absurd q33 (by omega)) (fun q33 => ?_)
        refine v_aload_n dX6_findFirst_36 rfl ?_
        refine v_iload_n dX6_findFirst_37 rfl ?_
        refine v_callUi1 dX6_findFirst_38 kX6_14_2 s_75 (Nat.le_of_ble_eq_true rfl) (hmf τ c _ hpl (by omega) hc1 hJ hD (fun τ' hg hE hJ2 hr => ?_) (fun τ' hg hE hJ2 hF => ?_))
        · have hN2 := hN.rej hb (show c.toNat + (pl - c).toNat = pl.toNat by omega) hD (fun e a b => hr e a (fun k y z => b k y (by omega)))
          refine v_if_ne (tgt := 54) dX6_findFirst_41 (by decide) (by decide) (fun q41 => absurd q41 (by decide)) (fun q41 => ?_)
          refine v_aload_n dX6_findFirst_44 rfl ?_
          refine v_iload_n dX6_findFirst_45 rfl ?_
          refine v_iload_n dX6_findFirst_46 rfl ?_
          refine v_callUi2 dX6_findFirst_47 kX6_18_2 s_75 (Nat.le_of_ble_eq_true rfl) (c_X6_advance_75 (by omega) (by omega) (by rw [hg]; exact hD) (fun p p0 p1 p2 p3 => ?_) (fun p3 => ?_))
          · refine v_istore_n (lv' := [_, _, _, _, _]) dX6_findFirst_50 (Nat.le_of_ble_eq_true rfl) rfl rfl ?_
            refine v_goto (tgt := 74) dX6_findFirst_51 (by decide) ?_
            refine v_iinc (lv' := [_, _, _, _, _]) dX6_findFirst_74 rfl (Nat.le_of_ble_eq_true rfl) rfl rfl ?_
            refine v_goto (tgt := 25) dX6_findFirst_77 (by decide) ?_
            have eD : Dg9 (lim + 1) (gI (sI τ' 76 p (gI τ' 76 p + 1)) 76) (p + 1).toNat := fun k a b => by
              rw [gI_aI_eq]
              by_cases e : k = p
              · rw [e, up9_eq, hg]
                have := hD p (by omega) (by omega)
                rw [hg] at p2
                omega
              · rw [up9_ne e, hg]
                exact hD k a (by omega)
            have eV : val9 (lim + 1) (gI (sI τ' 76 p (gI τ' 76 p + 1)) 76) (p + 1).toNat = val9 (lim + 1) (gI τ 76) (p + 1).toNat + 1 := by
              rw [show (p + 1).toNat = p.toNat + 1 by omega, val9, val9, show ((p.toNat : Nat) : Int) = p by omega, gI_aI_eq, up9_eq, hg, val9_congr (e := up9 (gI τ 76) p (gI τ 76 p + 1)) (f := gI τ 76) p.toNat (fun k a b => up9_ne (by omega))]
              omega
            have eT := val9_top (b := lim + 1) (e := gI τ 76) (p + 1).toNat (c - (p + 1)).toNat (fun k a b => by rw [← hg, p3 k (by omega) (by omega)]; omega)
            rw [show (p + 1).toNat + (c - (p + 1)).toNat = c.toNat by omega] at eT
            have eL : (val9 (lim + 1) (gI τ 76) c.toNat + 1) * (lim + 1) ^ (pl - c).toNat = val9 (lim + 1) (gI (sI τ' 76 p (gI τ' 76 p + 1)) 76) (p + 1).toNat * (lim + 1) ^ (pl - (p + 1)).toNat := by
              rw [eT, eV, Int.mul_assoc, ← Int.pow_add, show (c - (p + 1)).toNat + (pl - c).toNat = (pl - (p + 1)).toNat by omega]
            have hx := Int.mul_le_mul_of_nonneg_right (show (lim + 1) ^ pl.toNat - (val9 (lim + 1) (gI τ 76) c.toNat + 1) * (lim + 1) ^ (pl - c).toNat ≤ (lim + 1) ^ pl.toNat - val9 (lim + 1) (gI τ 76) c.toNat * (lim + 1) ^ (pl - c).toNat - 1 by have := pow9 hb (pl - c).toNat; rw [Int.add_mul, Int.one_mul]; omega) (show 0 ≤ pl by omega)
            rw [Int.sub_mul _ 1, Int.one_mul] at hx
            refine ih (v + 1) (p + 1) _ (by omega) (by omega) (by omega) (by omega) (fun y => by omega) (fun _ => ⟨?_, eD, ?_, ?_, by omega⟩)
            · have := hJ2 (p + 1) (gI τ' 76 p + 1) (by omega) (by omega)
              rw [show p + 1 - 1 = p by omega] at this
              exact this
            · rw [← eL]; exact hN2
            · rw [← eL]; omega
          · refine v_istore_n (lv' := [_, _, _, _, _]) dX6_findFirst_50 (Nat.le_of_ble_eq_true rfl) rfl rfl ?_
            refine v_goto (tgt := 74) dX6_findFirst_51 (by decide) ?_
            refine v_iinc (lv' := [_, _, _, _, _]) dX6_findFirst_74 rfl (Nat.le_of_ble_eq_true rfl) rfl rfl ?_
            refine v_goto (tgt := 25) dX6_findFirst_77 (by decide) ?_
            refine ih (v + 1) 0 _ (by omega) (by omega) (by omega) (by omega) (fun _ => ⟨hE, fun e he => ?_⟩) (fun y => absurd y (by decide))
            have eT := val9_top (b := lim + 1) (e := gI τ 76) 0 c.toNat (fun k a b => by rw [← hg, p3 k (by omega) (by omega)]; omega)
            rw [Nat.zero_add, val9, Int.zero_add, Int.one_mul] at eT
            rw [eT, ← Int.pow_add, show c.toNat + (pl - c).toNat = pl.toNat by omega] at hN2
            exact hN2 e he (val9_bd hb he).2
        · refine v_if_ne (tgt := 54) dX6_findFirst_41 (by decide) (by decide) (fun q41 => ?_) (fun q41 => absurd q41 (by decide))
          refine v_iload_n dX6_findFirst_54 rfl ?_
          refine v_iload_n dX6_findFirst_55 rfl ?_
          refine v_icmp_ge (tgt := 72) dX6_findFirst_56 (by decide) (by omega) (fun q56 => ?_) (fun q56 => ?_)
          · refine v_iconst dX6_findFirst_72 ?_
            exact v_zreturn dX6_findFirst_73 rfl (by omega) (h1 τ' hpl hE ⟨by rw [hg, show pl.toNat = c.toNat by omega]; exact hD, by rw [hg]; exact hF (by omega), by rw [hg]; have h8 := hN; rw [show (pl - c).toNat = 0 by omega, Int.pow_zero, Int.mul_one, show c.toNat = pl.toNat by omega] at h8; exact h8⟩)
          · refine v_aload_n dX6_findFirst_59 rfl ?_
            refine v_getR (k1 := 76) dX6_findFirst_60 s_75 fX6_9_2 rfl ?_
            refine v_iload_n dX6_findFirst_63 rfl ?_
            refine v_iconst dX6_findFirst_64 ?_
            refine v_iastore dX6_findFirst_65 s_76 (by omega) ?_
            refine v_iinc (lv' := [_, _, _, _, _]) dX6_findFirst_66 rfl (Nat.le_of_ble_eq_true rfl) rfl rfl ?_
            refine v_goto (tgt := 74) dX6_findFirst_69 (by decide) ?_
            refine v_iinc (lv' := [_, _, _, _, _]) dX6_findFirst_74 rfl (Nat.le_of_ble_eq_true rfl) rfl rfl ?_
            refine v_goto (tgt := 25) dX6_findFirst_77 (by decide) ?_
            have eD : Dg9 (lim + 1) (gI (sI τ' 76 c 0) 76) (c + 1).toNat := fun k a b => by
              rw [gI_aI_eq]
              by_cases e : k = c
              · rw [e, up9_eq]; omega
              · rw [up9_ne e, hg]
                exact hD k a (by omega)
            have eL : val9 (lim + 1) (gI τ 76) c.toNat * (lim + 1) ^ (pl - c).toNat = val9 (lim + 1) (gI (sI τ' 76 c 0) 76) (c + 1).toNat * (lim + 1) ^ (pl - (c + 1)).toNat := by
              rw [show (c + 1).toNat = c.toNat + 1 by omega, val9, show ((c.toNat : Nat) : Int) = c by omega, gI_aI_eq, up9_eq, hg, val9_congr (e := up9 (gI τ 76) c 0) (f := gI τ 76) c.toNat (fun k a b => up9_ne (by omega)), Int.add_zero, Int.mul_assoc, show (pl - c).toNat = (pl - (c + 1)).toNat + 1 by omega, Int.pow_succ, Int.mul_comm (lim + 1)]
            refine ih (v + 1) (c + 1) _ (by omega) (by omega) (by omega) (by omega) (fun y => by omega) (fun _ => ⟨hJ2 (by omega), eD, ?_, ?_, by omega⟩)
            · rw [← eL]; exact hN
            · rw [← eL]; omega
  refine v_iload_n dX6_findFirst_0 rfl ?_
  refine v_iconst dX6_findFirst_1 ?_
  refine v_icmp_lt (tgt := 11) dX6_findFirst_2 (by decide) (by omega) (fun q2 => ?_) (fun q2 => ?_)
  · refine v_iconst dX6_findFirst_11 ?_
    exact v_zreturn dX6_findFirst_12 rfl (by omega) (hbad (by omega))
  · refine v_iload_n dX6_findFirst_5 rfl ?_
    refine v_bipush dX6_findFirst_6 (by decide) ?_
    refine v_icmp_le (tgt := 13) dX6_findFirst_8 (by decide) (by omega) (fun q8 => ?_) (fun q8 => ?_)
    · refine v_aload_n dX6_findFirst_13 rfl ?_
      refine v_getR (k1 := 76) dX6_findFirst_14 s_75 fX6_9_2 rfl ?_
      refine v_iconst dX6_findFirst_17 ?_
      refine v_iconst dX6_findFirst_18 ?_
      refine v_iastore dX6_findFirst_19 s_76 (by omega) ?_
      refine v_iconst dX6_findFirst_20 ?_
      refine v_istore_n (lv' := [_, _, _, _, _]) dX6_findFirst_21 (Nat.le_of_ble_eq_true rfl) rfl rfl ?_
      refine v_iconst dX6_findFirst_22 ?_
      refine v_istore (lv' := [_, _, _, _, _]) dX6_findFirst_23 (Nat.le_of_ble_eq_true rfl) rfl rfl ?_
      have hb : 0 < lim + 1 := by omega
      have hpl : 1 ≤ pl ∧ pl ≤ 8 := by omega
      have hB := hbig hpl
      have hq := pow9 hb pl.toNat
      have hqq := Int.mul_le_mul_of_nonneg_right (show 0 ≤ (lim + 1) ^ pl.toNat by omega) (show 0 ≤ pl by omega)
      rw [Int.zero_mul] at hqq
      have eV : val9 (lim + 1) (gI (sI σ 76 0 0) 76) (1 : Int).toNat = 0 := by
        rw [show (1 : Int).toNat = 0 + 1 from rfl, val9, val9, gI_aI_eq]
        rw [show ((0 : Nat) : Int) = 0 from rfl, up9_eq]
        omega
      refine K hpl ((lim + 1) ^ pl.toNat * pl + pl - 1).toNat 0 1 _ (by omega) (by omega) (by omega) (by omega) (fun y => absurd y (by decide)) (fun _ => ⟨hJ1 hpl, fun k a b => ?_, ?_, ?_, by omega⟩)
      · rw [show k = 0 by have : ((1 : Int).toNat : Int) = 1 := rfl; omega, gI_aI_eq, up9_eq]; omega
      · rw [eV, Int.zero_mul]; intro e he hl; have := val9_bd hb he; omega
      · rw [eV, Int.zero_mul, Int.sub_zero]; omega
    · refine v_iconst dX6_findFirst_11 ?_
      exact v_zreturn dX6_findFirst_12 rfl (by omega) (hbad (by omega))
end
