theorem rfCf {r : Int} (h : 0 ≤ r ∧ r < 8) : rfs 47 r.toNat = 48 + r.toNat := by
  obtain ⟨k, rfl⟩ := Int.eq_ofNat_of_zero_le h.1
  have : ∀ k, k < 8 → rfs 47 k = 48 + k := by decide
  exact this k (by omega)
theorem shCf {r : Int} (h : 0 ≤ r ∧ r < 8) : sh9 (48 + r.toNat) 1 8 := by
  obtain ⟨k, rfl⟩ := Int.eq_ofNat_of_zero_le h.1
  have : ∀ k, k < 8 → shp (48 + k) = (1, 8) := by decide
  exact ⟨by show 48 + k < 130; omega, this k (by omega), by decide⟩
theorem rfMf {r : Int} (h : 0 ≤ r ∧ r < 8) : rfs 56 r.toNat = 57 + r.toNat := by
  obtain ⟨k, rfl⟩ := Int.eq_ofNat_of_zero_le h.1
  have : ∀ k, k < 8 → rfs 56 k = 57 + k := by decide
  exact this k (by omega)
theorem shMf {r : Int} (h : 0 ≤ r ∧ r < 8) : sh9 (57 + r.toNat) 1 9 := by
  obtain ⟨k, rfl⟩ := Int.eq_ofNat_of_zero_le h.1
  have : ∀ k, k < 8 → shp (57 + k) = (1, 9) := by decide
  exact ⟨by show 57 + k < 130; omega, this k (by omega), by decide⟩
theorem rfSm {r : Int} (h : 0 ≤ r ∧ r < 9) : rfs 65 r.toNat = 66 + r.toNat := by
  obtain ⟨k, rfl⟩ := Int.eq_ofNat_of_zero_le h.1
  have : ∀ k, k < 9 → rfs 65 k = 66 + k := by decide
  exact this k (by omega)
theorem shSm {r : Int} (h : 0 ≤ r ∧ r < 9) : sh9 (66 + r.toNat) 1 8 := by
  obtain ⟨k, rfl⟩ := Int.eq_ofNat_of_zero_le h.1
  have : ∀ k, k < 9 → shp (66 + k) = (1, 8) := by decide
  exact ⟨by show 66 + k < 130; omega, this k (by omega), by decide⟩
/-- the most that the last j places can add -/
def most9 (lim : Int) (f : Int → Int) (pl : Int) : Nat → Int
  | 0 => 0
  | j + 1 => most9 lim f pl j + lim * max (f (pl - (j + 1))) 0
theorem most9_bd {lim : Int} {f : Int → Int} {pl : Int} (hl : 0 ≤ lim ∧ lim ≤ 6) : ∀ j : Nat, (j : Int) ≤ pl → (∀ x, 0 ≤ x → x < pl → -6 ≤ f x ∧ f x ≤ 6) → 0 ≤ most9 lim f pl j ∧ most9 lim f pl j ≤ 36 * j
  | 0, _, _ => by unfold most9; omega
  | j + 1, hj, h => by
    have ih := most9_bd hl j (by omega) h
    have hf := h (pl - (j + 1)) (by omega) (by omega)
    unfold most9
    have h1 : 0 ≤ max (f (pl - (j + 1))) 0 ∧ max (f (pl - (j + 1))) 0 ≤ 6 := by omega
    have h2 := Int.mul_nonneg hl.1 h1.1
    have h3 := Int.mul_le_mul hl.2 h1.2 h1.1 (show (0 : Int) ≤ 6 by decide)
    omega
theorem most9_ub {lim : Int} {f e : Int → Int} {pl : Int} (hl : 0 ≤ lim) (hpl : 0 ≤ pl) (he : Dg9 (lim + 1) e pl.toNat) : ∀ j : Nat, (j : Int) ≤ pl → sm9 e f pl.toNat ≤ sm9 e f (pl - j).toNat + most9 lim f pl j
  | 0, _ => by unfold most9; rw [show (pl - ((0 : Nat) : Int)).toNat = pl.toNat by omega]; omega
  | j + 1, hj => by
    have ih := most9_ub (f := f) hl hpl he j (by omega)
    unfold most9
    rw [show (pl - (j : Int)).toNat = (pl - ((j + 1 : Nat) : Int)).toNat + 1 by omega, sm9, show (((pl - ((j + 1 : Nat) : Int)).toNat : Nat) : Int) = pl - (j + 1) by omega] at ih
    have hd := he (pl - (j + 1)) (by omega) (by omega)
    have h1 : e (pl - (j + 1)) * f (pl - (j + 1)) ≤ lim * max (f (pl - (j + 1))) 0 := by
      refine Int.le_trans (Int.mul_le_mul_of_nonneg_left (show f (pl - (j + 1)) ≤ max (f (pl - (j + 1))) 0 by omega) hd.1) ?_
      exact Int.mul_le_mul_of_nonneg_right (by omega) (by omega)
    omega
/-- what the linear search is set to -/
def Lin9 (σ : S9) (rw pl le zf lim : Int) (cf : Int → Int → Int) : Prop := gI σ 45 1 = rw ∧ gI σ 45 2 = pl ∧ gI σ 45 3 = le ∧ gI σ 45 7 = zf ∧ (∀ r, 0 ≤ r → r < rw → (∀ x, 0 ≤ x → x < pl → gI σ (48 + r.toNat) x = cf r x) ∧ ∀ x, 0 ≤ x → x ≤ pl → gI σ (57 + r.toNat) x = most9 lim (cf r) pl (pl - x).toNat)
def LV9 (rw pl le zf lim : Int) (cf : Int → Int → Int) : Prop := (0 ≤ rw ∧ rw ≤ 8) ∧ (0 ≤ pl ∧ pl ≤ 8) ∧ (0 ≤ le ∧ le ≤ 1) ∧ (0 ≤ zf ∧ zf ≤ 1) ∧ (0 ≤ lim ∧ lim ≤ 6) ∧ ∀ r, 0 ≤ r → r < rw → ∀ x, 0 ≤ x → x < pl → -6 ≤ cf r x ∧ cf r x ≤ 6
/-- what fits -/
def FL9 (rw pl le zf : Int) (cf : Int → Int → Int) : (Int → Int) → Prop := fun e => (∀ r, 0 ≤ r → r < rw → le ≤ sm9 e (cf r) pl.toNat) ∧ (zf ≠ 0 ∨ ∃ k, 0 ≤ k ∧ k < pl ∧ e k ≠ 0)
section
variable {d : Nat} {σ : S9} {rw pl le zf lim : Int} {cf : Int → Int → Int}
theorem c_X3_boundRows {P : S9 → Prop} (hv : LV9 rw pl le zf lim cf) (g1 : gI σ 45 1 = rw) (g2 : gI σ 45 2 = pl) (gc : ∀ r, 0 ≤ r → r < rw → ∀ x, 0 ≤ x → x < pl → gI σ (48 + r.toNat) x = cf r x) (h : ∀ τ, eq9 (fun k => k < 57 ∨ 64 < k) σ τ → (∀ r, 0 ≤ r → r < rw → ∀ x, 0 ≤ x → x ≤ pl → gI τ (57 + r.toNat) x = most9 lim (cf r) pl (pl - x).toNat) → P τ) : Cc (d + 1) mX3_boundRows [.ref 45, .int (iI lim)] σ (QV P) := by
  obtain ⟨v1, v2, v3, v4, v5, v6⟩ := hv
  refine Cc_of (by decide +kernel) (fun _ => Nat.le_of_ble_eq_true rfl) rfl (lv := [_, _, _, _]) ?_
  have K : ∀ (m : Nat) (r : Int) (τ : S9), 0 ≤ r → r + m = rw → eq9 (fun k => k < 57 ∨ 64 < k) σ τ → (∀ s, 0 ≤ s → s < r → ∀ x, 0 ≤ x → x ≤ pl → gI τ (57 + s.toNat) x = most9 lim (cf s) pl (pl - x).toNat) → ∀ l3, Vv (d + 1) mX3_boundRows 2 [.ref 45, .int (iI lim), .int (iI r), l3] [] τ (QV P) := by
    intro m
    induction m with
    | zero =>
      intro r τ hr hm he hd l3
      have e1 : gI τ 45 1 = rw := by rw [(he 45 (by omega)).1]; exact g1
      refine v_iload_n dX3_boundRows_2 rfl ?_
      refine v_aload_n dX3_boundRows_3 rfl ?_
      refine v_getI (ji := 1) dX3_boundRows_4 s_45 fX3_26 rfl ?_
      rw [e1]
      refine v_icmp_ge (tgt := 78) dX3_boundRows_7 (by decide) (by omega) (fun q7 => ?_) (fun q7 => absurd q7 (by omega))
      exact v_return dX3_boundRows_78 rfl (h τ he (fun s a b => hd s a (by omega)))
    | succ m ih =>
      intro r τ hr hm he hd l3
      have e1 : gI τ 45 1 = rw := by rw [(he 45 (by omega)).1]; exact g1
      have e2 : ∀ υ, eq9 (fun k => k < 57 ∨ 64 < k) σ υ → gI υ 45 2 = pl := fun υ hu => by rw [(hu 45 (by omega)).1]; exact g2
      have K2 : ∀ (j : Nat) (p : Int) (υ : S9), p + 1 = j → p < pl → eq9 (fun k => k < 57 ∨ 64 < k) σ υ → (∀ s, 0 ≤ s → s < r → ∀ x, 0 ≤ x → x ≤ pl → gI υ (57 + s.toNat) x = most9 lim (cf s) pl (pl - x).toNat) → (∀ x, p < x → x ≤ pl → gI υ (57 + r.toNat) x = most9 lim (cf r) pl (pl - x).toNat) → Vv (d + 1) mX3_boundRows 29 [.ref 45, .int (iI lim), .int (iI r), .int (iI p)] [] υ (QV P) := by
        intro j
        induction j with
        | zero =>
          intro p υ hp hp2 hu hs hx
          refine v_iload_n dX3_boundRows_29 rfl ?_
          refine v_if_lt (tgt := 72) dX3_boundRows_30 (by decide) (by omega) (fun q30 => ?_) (fun q30 => absurd q30 (by omega))
          refine v_iinc (lv' := [_, _, _, _]) dX3_boundRows_72 rfl (Nat.le_of_ble_eq_true rfl) rfl rfl ?_
          refine v_goto (tgt := 2) dX3_boundRows_75 (by decide) ?_
          exact ih (r + 1) υ (by omega) (by omega) hu (fun s a b => if e : s = r then (fun x y z => by rw [e]; exact hx x (by omega) z) else hs s a (by omega)) _
        | succ j ih2 =>
          intro p υ hp hp2 hu hs hx
          have ec : gI υ (48 + r.toNat) p = cf r p := by rw [(hu (48 + r.toNat) (by omega)).1]; exact gc r (by omega) (by omega) p (by omega) hp2
          have em : gI υ (57 + r.toNat) (p + 1) = most9 lim (cf r) pl (pl - (p + 1)).toNat := hx (p + 1) (by omega) (by omega)
          have bc := v6 r (by omega) (by omega) p (by omega) hp2
          refine v_iload_n dX3_boundRows_29 rfl ?_
          refine v_if_lt (tgt := 72) dX3_boundRows_30 (by decide) (by omega) (fun q30 => absurd q30 (by omega)) (fun q30 => ?_)
          refine v_aload_n dX3_boundRows_33 rfl ?_
          refine v_getR (k1 := 56) dX3_boundRows_34 s_45 fX3_14 rfl ?_
          refine v_iload_n dX3_boundRows_37 rfl ?_
          refine v_aaloadR (k1 := 57 + (r).toNat) dX3_boundRows_38 s_56 (by omega) (rfMf (by omega)) ?_
          refine v_iload_n dX3_boundRows_39 rfl ?_
          refine v_aload_n dX3_boundRows_40 rfl ?_
          refine v_getR (k1 := 56) dX3_boundRows_41 s_45 fX3_14 rfl ?_
          refine v_iload_n dX3_boundRows_44 rfl ?_
          refine v_aaloadR (k1 := 57 + (r).toNat) dX3_boundRows_45 s_56 (by omega) (rfMf (by omega)) ?_
          refine v_iload_n dX3_boundRows_46 rfl ?_
          refine v_iconst dX3_boundRows_47 ?_
          refine v_iadd dX3_boundRows_48 ?_
          refine v_iaload dX3_boundRows_49 (shMf (r := r) (by omega)) (by omega) ?_
          rw [em]
          refine v_iload_n dX3_boundRows_50 rfl ?_
          refine v_aload_n dX3_boundRows_51 rfl ?_
          refine v_getR (k1 := 47) dX3_boundRows_52 s_45 fX3_9 rfl ?_
          refine v_iload_n dX3_boundRows_55 rfl ?_
          refine v_aaloadR (k1 := 48 + (r).toNat) dX3_boundRows_56 s_47 (by omega) (rfCf (by omega)) ?_
          refine v_iload_n dX3_boundRows_57 rfl ?_
          refine v_iaload dX3_boundRows_58 (shCf (r := r) (by omega)) (by omega) ?_
          rw [ec]
          refine v_iconst dX3_boundRows_59 ?_
          refine v_mmax dX3_boundRows_60 mmX3_49 (by omega) (Nat.le_of_ble_eq_true rfl) ?_
          refine v_imul dX3_boundRows_63 ?_
          refine v_iadd dX3_boundRows_64 ?_
          refine v_iastore dX3_boundRows_65 (shMf (r := r) (by omega)) (by omega) ?_
          refine v_iinc (lv' := [_, _, _, _]) dX3_boundRows_66 rfl (Nat.le_of_ble_eq_true rfl) rfl rfl ?_
          refine v_goto (tgt := 29) dX3_boundRows_69 (by decide) ?_
          refine ih2 (p - 1) _ (by omega) (by omega) (hu.tr (eq9.aI (by omega))) (fun s a b x y z => ?_) (fun x y z => ?_)
          · rw [gI_aI_ne (by omega)]; exact hs s a b x y z
          · rw [gI_aI_eq]
            by_cases e : x = p
            · rw [e, up9_eq, show (pl - p).toNat = (pl - (p + 1)).toNat + 1 by omega, most9, show pl - ((((pl - (p + 1)).toNat : Nat) : Int) + 1) = p by omega]
            · rw [up9_ne e]; exact hx x (by omega) z
      refine v_iload_n dX3_boundRows_2 rfl ?_
      refine v_aload_n dX3_boundRows_3 rfl ?_
      refine v_getI (ji := 1) dX3_boundRows_4 s_45 fX3_26 rfl ?_
      rw [e1]
      refine v_icmp_ge (tgt := 78) dX3_boundRows_7 (by decide) (by omega) (fun q7 => absurd q7 (by omega)) (fun q7 => ?_)
      refine v_aload_n dX3_boundRows_10 rfl ?_
      refine v_getR (k1 := 56) dX3_boundRows_11 s_45 fX3_14 rfl ?_
      refine v_iload_n dX3_boundRows_14 rfl ?_
      refine v_aaloadR (k1 := 57 + (r).toNat) dX3_boundRows_15 s_56 (by omega) (rfMf (by omega)) ?_
      refine v_aload_n dX3_boundRows_16 rfl ?_
      refine v_getI (ji := 2) dX3_boundRows_17 s_45 fX3_32 rfl ?_
      refine v_iconst dX3_boundRows_20 ?_
      rw [e2 τ he]
      refine v_iastore dX3_boundRows_21 (shMf (r := r) (by omega)) (by omega) ?_
      refine v_aload_n dX3_boundRows_22 rfl ?_
      refine v_getI (ji := 2) dX3_boundRows_23 s_45 fX3_32 rfl ?_
      refine v_iconst dX3_boundRows_26 ?_
      refine v_isub dX3_boundRows_27 ?_
      have he3 : eq9 (fun k => k < 57 ∨ 64 < k) σ (sI τ (57 + r.toNat) pl 0) := he.tr (eq9.aI (by omega))
      rw [e2 _ he3]
      refine v_istore_n (lv' := [_, _, _, _]) dX3_boundRows_28 (Nat.le_of_ble_eq_true rfl) rfl rfl ?_
      refine K2 pl.toNat (pl - 1) _ (by omega) (by omega) he3 (fun s a b x y z => ?_) (fun x y z => ?_)
      · rw [gI_aI_ne (by omega)]; exact hd s a b x y z
      · rw [show x = pl by omega, gI_aI_eq, up9_eq, show (pl - pl).toNat = 0 by omega, most9]
  refine v_iconst dX3_boundRows_0 ?_
  refine v_istore_n (lv' := [_, _, _, _]) dX3_boundRows_1 (Nat.le_of_ble_eq_true rfl) rfl rfl ?_
  exact K rw.toNat 0 σ (by omega) (by omega) eq9.rf (fun s a b => by omega) _
theorem c_X3_hasNonZero {P : Int → S9 → Prop} (g2 : gI σ 45 2 = pl) (hp : 0 ≤ pl ∧ pl ≤ 8) (hb : ∀ k, 0 ≤ k → k < pl → 0 ≤ gI σ 46 k ∧ gI σ 46 k ≤ 100) (h1 : (∃ k, 0 ≤ k ∧ k < pl ∧ gI σ 46 k ≠ 0) → P 1 σ) (h0 : ¬ (∃ k, 0 ≤ k ∧ k < pl ∧ gI σ 46 k ≠ 0) → P 0 σ) : Cc d mX3_hasNonZero [.ref 45] σ (QI P) := by
  refine Cc_of (by decide +kernel) (fun _ => Nat.le_of_ble_eq_true rfl) rfl (lv := [_, _]) ?_
  have K : ∀ (m : Nat) (r : Int), 0 ≤ r → r + m = pl → (∀ k, 0 ≤ k → k < r → gI σ 46 k = 0) → Vv d mX3_hasNonZero 2 [.ref 45, .int (iI r)] [] σ (QI P) := by
    intro m
    induction m with
    | zero =>
      intro r hr hm hd
      refine v_iload_n dX3_hasNonZero_2 rfl ?_
      refine v_aload_n dX3_hasNonZero_3 rfl ?_
      refine v_getI (ji := 2) dX3_hasNonZero_4 s_45 fX3_32 rfl ?_
      rw [g2]
      refine v_icmp_ge (tgt := 27) dX3_hasNonZero_7 (by decide) (by omega) (fun q7 => ?_) (fun q7 => absurd q7 (by omega))
      refine v_iconst dX3_hasNonZero_27 ?_
      exact v_zreturn dX3_hasNonZero_28 rfl (by decide) (h0 (fun ⟨k, a, b, c⟩ => c (hd k a (by omega))))
    | succ m ih =>
      intro r hr hm hd
      have hbr := hb r (by omega) (by omega)
      refine v_iload_n dX3_hasNonZero_2 rfl ?_
      refine v_aload_n dX3_hasNonZero_3 rfl ?_
      refine v_getI (ji := 2) dX3_hasNonZero_4 s_45 fX3_32 rfl ?_
      rw [g2]
      refine v_icmp_ge (tgt := 27) dX3_hasNonZero_7 (by decide) (by omega) (fun q7 => absurd q7 (by omega)) (fun q7 => ?_)
      refine v_aload_n dX3_hasNonZero_10 rfl ?_
      refine v_getR (k1 := 46) dX3_hasNonZero_11 s_45 fX3_55 rfl ?_
      refine v_iload_n dX3_hasNonZero_14 rfl ?_
      refine v_iaload dX3_hasNonZero_15 s_46 (by omega) ?_
      refine v_if_eq (tgt := 21) dX3_hasNonZero_16 (by decide) (by omega) (fun q16 => ?_) (fun q16 => ?_)
      · refine v_iinc (lv' := [_, _]) dX3_hasNonZero_21 rfl (Nat.le_of_ble_eq_true rfl) rfl rfl ?_
        refine v_goto (tgt := 2) dX3_hasNonZero_24 (by decide) ?_
        exact ih (r + 1) (by omega) (by omega) (fun k a b => if e : k = r then (by rw [e]; exact q16) else hd k a (by omega))
      · refine v_iconst dX3_hasNonZero_19 ?_
        exact v_zreturn dX3_hasNonZero_20 rfl (by decide) (h1 ⟨r, by omega, by omega, q16⟩)
  refine v_iconst dX3_hasNonZero_0 ?_
  refine v_istore_n (lv' := [_, _]) dX3_hasNonZero_1 (Nat.le_of_ble_eq_true rfl) rfl rfl ?_
  exact K pl.toNat 0 (by omega) (by omega) (fun k a b => by omega)
/-- the state of the linear search while it goes on: s1 where it began -/
def EL9 (σ τ : S9) : Prop := eq9 (fun k => k ≠ 46 ∧ (k < 67 ∨ 74 < k)) σ τ
def JL9 (σ τ : S9) (rw : Int) (cf : Int → Int → Int) (c : Int) : Prop := EL9 σ τ ∧ ∀ j, 0 ≤ j → j < c → ∀ r, 0 ≤ r → r < rw → gI τ (66 + j.toNat) r = sm9 (gI τ 46) (cf r) j.toNat
theorem Lin9.eq {τ : S9} (h : Lin9 σ rw pl le zf lim cf) (hv : LV9 rw pl le zf lim cf) (he : EL9 σ τ) : Lin9 τ rw pl le zf lim cf := by
  obtain ⟨g1, g2, g3, g4, g5⟩ := h
  refine ⟨?_, ?_, ?_, ?_, fun r a b => ?_⟩
  · rw [(he 45 (by omega)).1]; exact g1
  · rw [(he 45 (by omega)).1]; exact g2
  · rw [(he 45 (by omega)).1]; exact g3
  · rw [(he 45 (by omega)).1]; exact g4
  · have := hv.1
    rw [(he (48 + r.toNat) (by omega)).1, (he (57 + r.toNat) (by omega)).1]
    exact g5 r a b
theorem c_X3_mayFit {τ : S9} {c : Int} {Q : Int → S9 → Prop} (hv : LV9 rw pl le zf lim cf) (hL : Lin9 σ rw pl le zf lim cf) (hpl : 1 ≤ pl ∧ pl ≤ 8) (hc1 : 1 ≤ c) (hc2 : c ≤ pl) (hJ : JL9 σ τ rw cf c) (hD : Dg9 (lim + 1) (gI τ 46) c.toNat)
    (h0 : ∀ τ', gI τ' 46 = gI τ 46 → EL9 σ τ' → (∀ c' x, 1 ≤ c' → c' ≤ c → JL9 σ (sI τ' 46 (c' - 1) x) rw cf c') → (∀ e, Dg9 (lim + 1) e pl.toNat → (∀ k, 0 ≤ k → k < c → e k = gI τ 46 k) → ¬ FL9 rw pl le zf cf e) → Q 0 τ')
    (h1 : ∀ τ', gI τ' 46 = gI τ 46 → EL9 σ τ' → (c < pl → JL9 σ (sI τ' 46 c 0) rw cf (c + 1)) → (c = pl → FL9 rw pl le zf cf (gI τ 46)) → Q 1 τ') : Cc (d + 1) mX3_mayFit [.ref 45, .int (iI c)] τ (QI Q) := by
  have hv' := hv
  obtain ⟨v1, v2, v3, v4, v5, v6⟩ := hv
  have sb : ∀ (e : Int → Int) (r : Int) (k : Nat), 0 ≤ r → r < rw → (k : Int) ≤ pl → Dg9 (lim + 1) e k → -288 ≤ sm9 e (cf r) k ∧ sm9 e (cf r) k ≤ 288 := fun e r k a b hk he => by
    have := sm9_bd (f := e) (g := cf r) (B := 6) (C := 6) (by decide) (by decide) k (fun x y z => ⟨by have := he x y z; omega, v6 r a b x y (by omega)⟩)
    omega
  have mb : ∀ r, 0 ≤ r → r < rw → 0 ≤ most9 lim (cf r) pl (pl - c).toNat ∧ most9 lim (cf r) pl (pl - c).toNat ≤ 288 := fun r a b => by
    have := most9_bd (f := cf r) (pl := pl) v5 (pl - c).toNat (by omega) (fun x y z => v6 r a b x y z)
    omega
  have hup : ∀ (e : Int → Int) (r : Int), Dg9 (lim + 1) e pl.toNat → (∀ k, 0 ≤ k → k < c → e k = gI τ 46 k) → sm9 e (cf r) pl.toNat ≤ sm9 (gI τ 46) (cf r) c.toNat + most9 lim (cf r) pl (pl - c).toNat := fun e r he hk => by
    have := most9_ub (f := cf r) v5.1 v2.1 he (pl - c).toNat (by omega)
    rw [show (pl - (((pl - c).toNat : Nat) : Int)).toNat = c.toNat by omega, sm9_congr (f := e) (f' := gI τ 46) (g := cf r) (g' := cf r) c.toNat (fun x a b => ⟨hk x a (by omega), rfl⟩)] at this
    exact this
  have jj : ∀ υ : S9, EL9 σ υ → gI υ 46 = gI τ 46 → (∀ k, k ≠ 66 + c.toNat → gI υ k = gI τ k) → ∀ c' x, 1 ≤ c' → c' ≤ c → JL9 σ (sI υ 46 (c' - 1) x) rw cf c' := fun υ hE hg hk c' x a b => by
    refine ⟨hE.tr (eq9.aI (by omega)), fun j j0 j1 r r0 r1 => ?_⟩
    rw [gI_aI_ne (by omega), hk _ (by omega), hJ.2 j j0 (by omega) r r0 r1, gI_aI_eq]
    exact sm9_congr j.toNat (fun y y0 y1 => ⟨by rw [up9_ne (by omega), hg], rfl⟩)
  refine Cc_of (by decide +kernel) (fun _ => Nat.le_of_ble_eq_true rfl) rfl (lv := [_, _, _, _]) ?_
  have K : ∀ (m : Nat) (r : Int) (υ : S9), 0 ≤ r → r + m = rw → EL9 σ υ → (∀ k, k ≠ 66 + c.toNat → gI υ k = gI τ k) → (∀ s, 0 ≤ s → s < r → gI υ (66 + c.toNat) s = sm9 (gI τ 46) (cf s) c.toNat ∧ le ≤ sm9 (gI τ 46) (cf s) c.toNat + most9 lim (cf s) pl (pl - c).toNat) → Vv (d + 1) mX3_mayFit 6 [.ref 45, .int (iI c), .int (iI (c - 1)), .int (iI r)] [] υ (QI Q) := by
    intro m
    induction m with
    | zero =>
      intro r υ hr hm hE hk hs
      have L := hL.eq hv' hE
      have g46 : gI υ 46 = gI τ 46 := hk 46 (by omega)
      have fin : (c = pl → zf ≠ 0 ∨ ∃ k, 0 ≤ k ∧ k < pl ∧ gI τ 46 k ≠ 0) → Q 1 υ := fun hz => h1 υ g46 hE (fun _ => by
          refine ⟨hE.tr (eq9.aI (by omega)), fun j j0 j1 s s0 s1 => ?_⟩
          have hc8 : sm9 (gI (sI υ 46 c 0) 46) (cf s) j.toNat = sm9 (gI τ 46) (cf s) j.toNat := sm9_congr j.toNat (fun y y0 y1 => ⟨by rw [gI_aI_eq, up9_ne (by omega), g46], rfl⟩)
          rw [hc8, gI_aI_ne (by omega)]
          by_cases ej : j = c
          · rw [ej]; exact (hs s s0 (by omega)).1
          · rw [hk _ (by omega)]; exact hJ.2 j j0 (by omega) s s0 s1) (fun ec => ⟨fun s s0 s1 => by
          have := (hs s s0 (by omega)).2
          rw [show (pl - c).toNat = 0 by omega, most9] at this
          rw [show pl.toNat = c.toNat by omega]
          omega, hz ec⟩)
      refine v_iload_n dX3_mayFit_6 rfl ?_
      refine v_aload_n dX3_mayFit_7 rfl ?_
      refine v_getI (ji := 1) dX3_mayFit_8 s_45 fX3_26 rfl ?_
      rw [L.1]
      refine v_icmp_ge (tgt := 78) dX3_mayFit_11 (by decide) (by omega) (fun q11 => ?_) (fun q11 => absurd q11 (by omega))
      refine v_iload_n dX3_mayFit_78 rfl ?_
      refine v_aload_n dX3_mayFit_79 rfl ?_
      refine v_getI (ji := 2) dX3_mayFit_80 s_45 fX3_32 rfl ?_
      rw [L.2.1]
      refine v_icmp_lt (tgt := 100) dX3_mayFit_83 (by decide) (by omega) (fun q83 => ?_) (fun q83 => ?_)
      · refine v_iconst dX3_mayFit_100 ?_
        refine v_goto (tgt := 105) dX3_mayFit_101 (by decide) ?_
        exact v_zreturn dX3_mayFit_105 rfl (by decide) (by first
        | exact fin (fun ec => by omega)
        | exact fin (fun _ => Or.inl q90)
        | exact fin (fun _ => Or.inr (by rw [← g46]; exact z))
        | exact h0 υ g46 hE (jj υ hE g46 hk) (fun e he hek hF => hF.2.elim (fun y => y q90) (fun ⟨k, a, b, y⟩ => z ⟨k, a, b, by rw [g46, ← hek k a (by omega)]; exact y⟩)))
      · refine v_aload_n dX3_mayFit_86 rfl ?_
        refine v_getI (ji := 7) dX3_mayFit_87 s_45 fX3_38 rfl ?_
        rw [L.2.2.2.1]
        refine v_if_ne (tgt := 100) dX3_mayFit_90 (by decide) (by omega) (fun q90 => ?_) (fun q90 => ?_)
        · refine v_iconst dX3_mayFit_100 ?_
          refine v_goto (tgt := 105) dX3_mayFit_101 (by decide) ?_
          exact v_zreturn dX3_mayFit_105 rfl (by decide) (by first
        | exact fin (fun ec => by omega)
        | exact fin (fun _ => Or.inl q90)
        | exact fin (fun _ => Or.inr (by rw [← g46]; exact z))
        | exact h0 υ g46 hE (jj υ hE g46 hk) (fun e he hek hF => hF.2.elim (fun y => y q90) (fun ⟨k, a, b, y⟩ => z ⟨k, a, b, by rw [g46, ← hek k a (by omega)]; exact y⟩)))
        · refine v_aload_n dX3_mayFit_93 rfl ?_
          refine v_callVi0 dX3_mayFit_94 kX3_59 s_45 (Nat.le_of_ble_eq_true rfl) (c_X3_hasNonZero L.2.1 v2 (fun k a b => by rw [g46]; have := hD k a (by omega); omega) (fun z => ?_) (fun z => ?_))
          · refine v_if_eq (tgt := 104) dX3_mayFit_97 (by decide) (by decide) (fun q97 => absurd q97 (by decide)) (fun q97 => ?_)
            refine v_iconst dX3_mayFit_100 ?_
            refine v_goto (tgt := 105) dX3_mayFit_101 (by decide) ?_
            exact v_zreturn dX3_mayFit_105 rfl (by decide) (by first
        | exact fin (fun ec => by omega)
        | exact fin (fun _ => Or.inl q90)
        | exact fin (fun _ => Or.inr (by rw [← g46]; exact z))
        | exact h0 υ g46 hE (jj υ hE g46 hk) (fun e he hek hF => hF.2.elim (fun y => y q90) (fun ⟨k, a, b, y⟩ => z ⟨k, a, b, by rw [g46, ← hek k a (by omega)]; exact y⟩)))
          · refine v_if_eq (tgt := 104) dX3_mayFit_97 (by decide) (by decide) (fun q97 => ?_) (fun q97 => absurd q97 (by decide))
            refine v_iconst dX3_mayFit_104 ?_
            exact v_zreturn dX3_mayFit_105 rfl (by decide) (by first
        | exact fin (fun ec => by omega)
        | exact fin (fun _ => Or.inl q90)
        | exact fin (fun _ => Or.inr (by rw [← g46]; exact z))
        | exact h0 υ g46 hE (jj υ hE g46 hk) (fun e he hek hF => hF.2.elim (fun y => y q90) (fun ⟨k, a, b, y⟩ => z ⟨k, a, b, by rw [g46, ← hek k a (by omega)]; exact y⟩)))
    | succ m ih =>
      intro r υ hr hm hE hk hs
      have L := hL.eq hv' hE
      have g46 : gI υ 46 = gI τ 46 := hk 46 (by omega)
      have es : gI υ (66 + (c - 1).toNat) r + gI υ 46 (c - 1) * gI υ (48 + r.toNat) (c - 1) = sm9 (gI τ 46) (cf r) c.toNat := by
        rw [hk _ (by omega), hJ.2 (c - 1) (by omega) (by omega) r hr (by omega), g46, (L.2.2.2.2 r hr (by omega)).1 (c - 1) (by omega) (by omega), show c.toNat = (c - 1).toNat + 1 by omega, sm9, show (((c - 1).toNat : Nat) : Int) = c - 1 by omega]
      have hE2 : EL9 σ (sI υ (66 + c.toNat) r (sm9 (gI τ 46) (cf r) c.toNat)) := hE.tr (eq9.aI (by omega))
      have hk2 : ∀ k, k ≠ 66 + c.toNat → gI (sI υ (66 + c.toNat) r (sm9 (gI τ 46) (cf r) c.toNat)) k = gI τ k := fun k y => by rw [gI_aI_ne y]; exact hk k y
      have L2 := hL.eq hv' hE2
      have sbr := sb (gI τ 46) r c.toNat hr (by omega) (by omega) hD
      have mbr := mb r hr (by omega)
      refine v_iload_n dX3_mayFit_6 rfl ?_
      refine v_aload_n dX3_mayFit_7 rfl ?_
      refine v_getI (ji := 1) dX3_mayFit_8 s_45 fX3_26 rfl ?_
      rw [L.1]
      refine v_icmp_ge (tgt := 78) dX3_mayFit_11 (by decide) (by omega) (fun q11 => absurd q11 (by omega)) (fun q11 => ?_)
      refine v_aload_n dX3_mayFit_14 rfl ?_
      refine v_getR (k1 := 65) dX3_mayFit_15 s_45 fX3_17 rfl ?_
      refine v_iload_n dX3_mayFit_18 rfl ?_
      refine v_aaloadR (k1 := 66 + (c).toNat) dX3_mayFit_19 s_65 (by omega) (rfSm (by omega)) ?_
      refine v_iload_n dX3_mayFit_20 rfl ?_
      refine v_aload_n dX3_mayFit_21 rfl ?_
      refine v_getR (k1 := 65) dX3_mayFit_22 s_45 fX3_17 rfl ?_
      refine v_iload_n dX3_mayFit_25 rfl ?_
      refine v_aaloadR (k1 := 66 + (c - 1).toNat) dX3_mayFit_26 s_65 (by omega) (rfSm (by omega)) ?_
      refine v_iload_n dX3_mayFit_27 rfl ?_
      refine v_iaload dX3_mayFit_28 (shSm (r := c - 1) (by omega)) (by omega) ?_
      refine v_aload_n dX3_mayFit_29 rfl ?_
      refine v_getR (k1 := 46) dX3_mayFit_30 s_45 fX3_55 rfl ?_
      refine v_iload_n dX3_mayFit_33 rfl ?_
      refine v_iaload dX3_mayFit_34 s_46 (by omega) ?_
      refine v_aload_n dX3_mayFit_35 rfl ?_
      refine v_getR (k1 := 47) dX3_mayFit_36 s_45 fX3_9 rfl ?_
      refine v_iload_n dX3_mayFit_39 rfl ?_
      refine v_aaloadR (k1 := 48 + (r).toNat) dX3_mayFit_40 s_47 (by omega) (rfCf (by omega)) ?_
      refine v_iload_n dX3_mayFit_41 rfl ?_
      refine v_iaload dX3_mayFit_42 (shCf (r := r) (by omega)) (by omega) ?_
      refine v_imul dX3_mayFit_43 ?_
      refine v_iadd dX3_mayFit_44 ?_
      rw [es]
      refine v_iastore dX3_mayFit_45 (shSm (r := c) (by omega)) (by omega) ?_
      refine v_aload_n dX3_mayFit_46 rfl ?_
      refine v_getR (k1 := 65) dX3_mayFit_47 s_45 fX3_17 rfl ?_
      refine v_iload_n dX3_mayFit_50 rfl ?_
      refine v_aaloadR (k1 := 66 + (c).toNat) dX3_mayFit_51 s_65 (by omega) (rfSm (by omega)) ?_
      refine v_iload_n dX3_mayFit_52 rfl ?_
      refine v_iaload dX3_mayFit_53 (shSm (r := c) (by omega)) (by omega) ?_
      refine v_aload_n dX3_mayFit_54 rfl ?_
      refine v_getR (k1 := 56) dX3_mayFit_55 s_45 fX3_14 rfl ?_
      refine v_iload_n dX3_mayFit_58 rfl ?_
      refine v_aaloadR (k1 := 57 + (r).toNat) dX3_mayFit_59 s_56 (by omega) (rfMf (by omega)) ?_
      refine v_iload_n dX3_mayFit_60 rfl ?_
      refine v_iaload dX3_mayFit_61 (shMf (r := r) (by omega)) (by omega) ?_
      rw [gI_aI_eq, up9_eq, (L2.2.2.2.2 r hr (by omega)).2 c (by omega) hc2]
      refine v_iadd dX3_mayFit_62 ?_
      refine v_aload_n dX3_mayFit_63 rfl ?_
      refine v_getI (ji := 3) dX3_mayFit_64 s_45 fX3_35 rfl ?_
      rw [L2.2.2.1]
      refine v_icmp_ge (tgt := 72) dX3_mayFit_67 (by decide) (by omega) (fun q67 => ?_) (fun q67 => ?_)
      · refine v_iinc (lv' := [_, _, _, _]) dX3_mayFit_72 rfl (Nat.le_of_ble_eq_true rfl) rfl rfl ?_
        refine v_goto (tgt := 6) dX3_mayFit_75 (by decide) ?_
        refine ih (r + 1) _ (by omega) (by omega) hE2 hk2 (fun s a b => ?_)
        rw [gI_aI_eq]
        by_cases e : s = r
        · rw [e, up9_eq]; exact ⟨rfl, q67⟩
        · rw [up9_ne e]; exact hs s a (by omega)
      · refine v_iconst dX3_mayFit_70 ?_
        exact v_zreturn dX3_mayFit_71 rfl (by decide) (h0 _ (by rw [gI_aI_ne (by omega)]; exact g46) hE2 (jj _ hE2 (by rw [gI_aI_ne (by omega)]; exact g46) hk2) (fun e he hek hF => by have h8 := hF.1 r hr (by omega); have h9 := hup e r he hek; omega))
  refine v_iload_n dX3_mayFit_0 rfl ?_
  refine v_iconst dX3_mayFit_1 ?_
  refine v_isub dX3_mayFit_2 ?_
  refine v_istore_n (lv' := [_, _, _, _]) dX3_mayFit_3 (Nat.le_of_ble_eq_true rfl) rfl rfl ?_
  refine v_iconst dX3_mayFit_4 ?_
  refine v_istore_n (lv' := [_, _, _, _]) dX3_mayFit_5 (Nat.le_of_ble_eq_true rfl) rfl rfl ?_
  exact K rw.toNat 0 τ (by omega) (by omega) hJ.1 (fun k _ => rfl) (fun s a b => by omega)
end
