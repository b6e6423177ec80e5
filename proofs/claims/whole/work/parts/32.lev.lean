/-! ===== levels ===== -/
theorem sI_sI (σ : S9) (k : Nat) (i a b : Int) : sI (sI σ k i a) k i b = sI σ k i b := by
  refine S9ext (fun j => ?_) (fun _ => rfl) (fun _ => rfl) (fun _ => rfl)
  by_cases e : j = k
  · subst e
    rw [gI_aI_eq, gI_aI_eq, gI_aI_eq]
    funext y
    by_cases e2 : y = i
    · rw [e2, up9_eq, up9_eq]
    · rw [up9_ne e2, up9_ne e2, up9_ne e2]
  · rw [gI_aI_ne e, gI_aI_ne e, gI_aI_ne e]
theorem sm9_add (f g h : Int → Int) : ∀ k : Nat, sm9 f (fun x => g x + h x) k = sm9 f g k + sm9 f h k
  | 0 => rfl
  | k + 1 => by unfold sm9; rw [sm9_add f g h k, Int.mul_add]; omega
theorem sm9_sub (f g h : Int → Int) : ∀ k : Nat, sm9 f (fun x => g x - h x) k = sm9 f g k - sm9 f h k
  | 0 => rfl
  | k + 1 => by unfold sm9; rw [sm9_sub f g h k, Int.mul_sub]; omega
theorem sm9_comm (f g : Int → Int) : ∀ k : Nat, sm9 f g k = sm9 g f k
  | 0 => rfl
  | k + 1 => by unfold sm9; rw [sm9_comm f g k, Int.mul_comm]
theorem sm9_one (f : Int → Int) (y : Int) : ∀ k : Nat, sm9 f (fun x => if x = y then 1 else 0) k = if 0 ≤ y ∧ y < k then f y else 0
  | 0 => by rw [if_neg (by omega)]; rfl
  | k + 1 => by
    unfold sm9
    rw [sm9_one f y k]
    by_cases h : (k : Int) = y
    · rw [if_pos h, if_neg (by omega), if_pos (by omega), h]; omega
    · rw [if_neg h]
      by_cases h2 : 0 ≤ y ∧ y < k
      · rw [if_pos h2, if_pos (by omega)]; omega
      · rw [if_neg h2, if_neg (by omega)]; omega
theorem sm9_cnt {f : Int → Int} {n : Int} : ∀ xs : List Int, (∀ x ∈ xs, 0 ≤ x ∧ x < n) → sm9 f (fun x => cnt9 x xs) n.toNat = wt9 f xs := by
  intro xs
  have : ∀ (m : Nat) (xs : List Int), xs.length = m → (∀ x ∈ xs, 0 ≤ x ∧ x < n) → sm9 f (fun x => cnt9 x xs) n.toNat = wt9 f xs := by
    intro m
    induction m with
    | zero =>
      intro xs hx _
      rw [List.length_eq_zero_iff.mp hx]
      have z : ∀ k : Nat, sm9 f (fun x => cnt9 x []) k = 0 := fun k => by
        induction k with
        | zero => rfl
        | succ k ih => unfold sm9; rw [ih, show cnt9 (k : Int) [] = 0 from rfl]; omega
      exact z _
    | succ m ih =>
      intro xs hx hn
      obtain ⟨ys, y, rfl⟩ : ∃ ys y, xs = ys ++ [y] := ⟨xs.dropLast, xs.getLast (by intro e; rw [e] at hx; cases hx), (List.dropLast_concat_getLast _).symm⟩
      rw [List.length_append] at hx
      have hy := hn y (List.mem_append_right _ List.mem_cons_self)
      rw [wt9_snoc, ← ih ys (by simp at hx; exact hx) (fun x h => hn x (List.mem_append_left _ h))]
      have e : (fun x => cnt9 x (ys ++ [y])) = fun x => cnt9 x ys + (if x = y then 1 else 0) := by funext x; exact cnt9_s x y ys
      rw [e, sm9_add, sm9_one, if_pos (by omega)]
  exact this xs.length xs rfl
theorem sm9_bal {f : Int → Int} {n : Int} {a b : List Int} (ha : ∀ x ∈ a, 0 ≤ x ∧ x < n) (hb : ∀ x ∈ b, 0 ≤ x ∧ x < n) : sm9 f (fun x => bal9 a b x) n.toNat = wt9 f a - wt9 f b := by
  have e : (fun x => bal9 a b x) = fun x => cnt9 x a - cnt9 x b := rfl
  rw [e, sm9_sub, sm9_cnt a ha, sm9_cnt b hb]
/-- what fits: levels that are admissible and orient all -/
def FV9 (wt : Int → Int) (stt n R : Int) (lf rg : Int → List Int) : (Int → Int) → Prop := fun e => adm9 wt e n ∧ ∀ r, 0 ≤ r → r < R → cmp9 wt e stt (lf r) (rg r) = 2
/-- by levels alone, a is above b -/
def or9 (e : Int → Int) (stt : Int) (a b : List Int) : Prop := 0 < els9 (dif9 e stt a b (min a.length b.length) 0) ((a.length : Int) - b.length)
theorem cmp9_or {w e : Int → Int} {stt : Int} {a b : List Int} (h : wt9 w a - wt9 w b = 0) : cmp9 w e stt a b = 2 ↔ or9 e stt a b := by
  unfold cmp9 or9
  rw [els9_z h]
  unfold sgn9
  constructor
  · intro q
    split at q
    · assumption
    · split at q <;> cases q
  · intro q
    rw [if_pos q]
theorem cmp9_hi {w e : Int → Int} {stt : Int} {a b : List Int} (h : 0 < wt9 w a - wt9 w b) : cmp9 w e stt a b = 2 := by
  unfold cmp9
  rw [els9_ne (by rw [els9_ne (by omega)]; omega), els9_ne (by omega)]
  exact sgn9_p h
theorem cmp9_lo {w e : Int → Int} {stt : Int} {a b : List Int} (h : wt9 w a - wt9 w b < 0) : cmp9 w e stt a b ≠ 2 := by
  unfold cmp9
  rw [els9_ne (by rw [els9_ne (by omega)]; omega), els9_ne (by omega), sgn9_n h]
  decide
/-- what the level search holds -/
def Lev9 (τ : S9) (wt : Int → Int) (n R : Int) (lf rg : Int → List Int) (T wl : Int) (ix : Int → Int) : Prop :=
  gI τ 75 1 = n ∧ gI τ 75 3 = wl ∧ gI τ 75 4 = T ∧ (0 ≤ T ∧ T ≤ R) ∧ (∀ r, 0 ≤ r → r < R → 0 ≤ sm9 wt (bl9 lf rg r) n.toNat) ∧
  (∀ i, 0 ≤ i → i < T → (0 ≤ ix i ∧ ix i < R) ∧ sm9 wt (bl9 lf rg (ix i)) n.toNat = 0 ∧ gL τ 77 i = encW (lf (ix i)) ∧ gL τ 78 i = encW (rg (ix i))) ∧
  (∀ r, 0 ≤ r → r < R → sm9 wt (bl9 lf rg r) n.toNat = 0 → ∃ i, 0 ≤ i ∧ i < T ∧ ix i = r) ∧
  ((zc9 wt n.toNat = 0 ∧ wl = -1) ∨ (zc9 wt n.toNat = 1 ∧ (0 ≤ wl ∧ wl < n) ∧ wt wl = 0 ∧ ∀ x, 0 ≤ x → x < n → wt x = 0 → x = wl))
theorem zc9_pos {wt : Int → Int} : ∀ k : Nat, ∀ x : Int, 0 ≤ x → x < k → wt x = 0 → 1 ≤ zc9 wt k
  | 0, x, a, b, _ => by omega
  | k + 1, x, a, b, h => by
    have hb := zc9_bd wt k
    unfold zc9
    by_cases e : x = k
    · rw [← e, if_pos h]; omega
    · have := zc9_pos k x a (by omega) h
      split <;> omega
theorem zc9_mono {wt : Int → Int} : ∀ j k : Nat, zc9 wt k ≤ zc9 wt (k + j)
  | 0, k => by rw [Nat.add_zero]; omega
  | j + 1, k => by
    have := zc9_mono (wt := wt) j k
    rw [← Nat.add_assoc]
    show zc9 wt k ≤ zc9 wt (k + j) + _
    split <;> omega
section
variable {d : Nat} {n R : Int} {lf rg : Int → List Int} {wt lev : Int → Int} {stt : Int} {ap : Int → UInt32} {str : List Int} {σ : S9}
theorem c_X2_findWeightless {wc : Nat} {wt : Int → Int} {P : Int → S9 → Prop} (hsw : sh9 wc 1 8) (hwc : wc ≠ 75) (hn : 1 ≤ n ∧ n ≤ 6) (g1 : gI σ 75 1 = n) (hw : ∀ x, 0 ≤ x → x < n → gI σ wc x = wt x ∧ 0 ≤ wt x ∧ wt x ≤ 99) (h0 : 2 ≤ zc9 wt n.toNat → ∀ w, P 0 (sI σ 75 3 w)) (h1 : ∀ w, ((zc9 wt n.toNat = 0 ∧ w = -1) ∨ (zc9 wt n.toNat = 1 ∧ (0 ≤ w ∧ w < n) ∧ wt w = 0 ∧ ∀ x, 0 ≤ x → x < n → wt x = 0 → x = w)) → P 1 (sI σ 75 3 w)) : Cc d mX2_findWeightless [.ref 75, .ref wc] σ (QI P) := by
  refine Cc_of (by decide +kernel) (fun _ => Nat.le_of_ble_eq_true rfl) rfl (lv := [_, _, _]) ?_
  have K : ∀ (m : Nat) (x w : Int), 0 ≤ x → x + m = n → ((zc9 wt x.toNat = 0 ∧ w = -1) ∨ (zc9 wt x.toNat = 1 ∧ (0 ≤ w ∧ w < x) ∧ wt w = 0 ∧ ∀ y, 0 ≤ y → y < x → wt y = 0 → y = w)) → Vv d mX2_findWeightless 7 [.ref 75, .ref wc, .int (iI x)] [] (sI σ 75 3 w) (QI P) := by
    intro m
    induction m with
    | zero =>
      intro x w hx hm hI
      have e1 : gI (sI σ 75 3 w) 75 1 = n := by rw [gI_aI_eq, up9_ne (by decide)]; exact g1
      refine v_iload_n dX2_findWeightless_7 rfl ?_
      refine v_aload_n dX2_findWeightless_8 rfl ?_
      refine v_getI (ji := 1) dX2_findWeightless_9 s_75 fX2_24 rfl ?_
      rw [e1]
      refine v_icmp_ge (tgt := 42) dX2_findWeightless_12 (by decide) (by omega) (fun q12 => ?_) (fun q12 => absurd q12 (by omega))
      refine v_iconst dX2_findWeightless_42 ?_
      exact v_zreturn dX2_findWeightless_43 rfl (by decide) (h1 w (by rw [show n = x by omega]; exact hI))
    | succ m ih =>
      intro x w hx hm hI
      have e1 : gI (sI σ 75 3 w) 75 1 = n := by rw [gI_aI_eq, up9_ne (by decide)]; exact g1
      have e2 : gI (sI σ 75 3 w) wc x = wt x := by rw [gI_aI_ne hwc]; exact (hw x hx (by omega)).1
      have e3 : gI (sI σ 75 3 w) 75 3 = w := by rw [gI_aI_eq, up9_eq]
      have hwx := (hw x hx (by omega)).2
      have ez : zc9 wt (x + 1).toNat = zc9 wt x.toNat + (if wt x = 0 then 1 else 0) := by rw [show (x + 1).toNat = x.toNat + 1 by omega, zc9, show ((x.toNat : Nat) : Int) = x by omega]
      have zm := zc9_mono (wt := wt) (n.toNat - (x.toNat + 1)) (x + 1).toNat
      rw [show (x + 1).toNat + (n.toNat - (x.toNat + 1)) = n.toNat by omega] at zm
      refine v_iload_n dX2_findWeightless_7 rfl ?_
      refine v_aload_n dX2_findWeightless_8 rfl ?_
      refine v_getI (ji := 1) dX2_findWeightless_9 s_75 fX2_24 rfl ?_
      rw [e1]
      refine v_icmp_ge (tgt := 42) dX2_findWeightless_12 (by decide) (by omega) (fun q12 => absurd q12 (by omega)) (fun q12 => ?_)
      refine v_aload_n dX2_findWeightless_15 rfl ?_
      refine v_iload_n dX2_findWeightless_16 rfl ?_
      refine v_iaload dX2_findWeightless_17 hsw (by omega) ?_
      rw [e2]
      refine v_if_ne (tgt := 36) dX2_findWeightless_18 (by decide) (by omega) (fun q18 => ?_) (fun q18 => ?_)
      · refine v_iinc (lv' := [_, _, _]) dX2_findWeightless_36 rfl (Nat.le_of_ble_eq_true rfl) rfl rfl ?_
        refine v_goto (tgt := 7) dX2_findWeightless_39 (by decide) ?_
        first
        | (rw [sI_sI]; exact ih (x + 1) x (by omega) (by omega) (Or.inr ⟨by rw [ez, if_pos q18]; omega, by omega, q18, fun y a b c => Classical.byContradiction (fun e => absurd (zc9_pos x.toNat y a (by omega) c) (by omega))⟩))
        | (refine ih (x + 1) w (by omega) (by omega) ?_; rw [ez, if_neg q18, Int.add_zero]; exact hI.elim Or.inl (fun ⟨h, h2, h3, h4⟩ => Or.inr ⟨h, by omega, h3, fun y a b c => if e : y = x then absurd (e ▸ c) q18 else h4 y a (by omega) c⟩))
      · refine v_aload_n dX2_findWeightless_21 rfl ?_
        refine v_getI (ji := 3) dX2_findWeightless_22 s_75 fX2_41 rfl ?_
        rw [e3]
        refine v_iconst dX2_findWeightless_25 ?_
        refine v_icmp_eq (tgt := 31) dX2_findWeightless_26 (by decide) (by omega) (fun q26 => ?_) (fun q26 => ?_)
        · refine v_aload_n dX2_findWeightless_31 rfl ?_
          refine v_iload_n dX2_findWeightless_32 rfl ?_
          refine v_putI (ji := 3) dX2_findWeightless_33 s_75 pfX2_41 rfl ?_
          refine v_iinc (lv' := [_, _, _]) dX2_findWeightless_36 rfl (Nat.le_of_ble_eq_true rfl) rfl rfl ?_
          refine v_goto (tgt := 7) dX2_findWeightless_39 (by decide) ?_
          first
          | (rw [sI_sI]; exact ih (x + 1) x (by omega) (by omega) (Or.inr ⟨by rw [ez, if_pos q18]; omega, by omega, q18, fun y a b c => Classical.byContradiction (fun e => absurd (zc9_pos x.toNat y a (by omega) c) (by omega))⟩))
          | (refine ih (x + 1) w (by omega) (by omega) ?_; rw [ez, if_neg q18, Int.add_zero]; exact hI.elim Or.inl (fun ⟨h, h2, h3, h4⟩ => Or.inr ⟨h, by omega, h3, fun y a b c => if e : y = x then absurd (e ▸ c) q18 else h4 y a (by omega) c⟩))
        · refine v_iconst dX2_findWeightless_29 ?_
          exact v_zreturn dX2_findWeightless_30 rfl (by decide) (h0 (by rw [ez, if_pos q18] at zm; omega) w)
  refine v_aload_n dX2_findWeightless_0 rfl ?_
  refine v_iconst dX2_findWeightless_1 ?_
  refine v_putI (ji := 3) dX2_findWeightless_2 s_75 pfX2_41 rfl ?_
  refine v_iconst dX2_findWeightless_5 ?_
  refine v_istore_n (lv' := [_, _, _]) dX2_findWeightless_6 (Nat.le_of_ble_eq_true rfl) rfl rfl ?_
  exact K n.toNat 0 (-1) (by omega) (by omega) (Or.inl ⟨rfl, rfl⟩)
theorem c_X2_prepare {wc : Nat} {wt' : Int → Int} {P : Int → S9 → Prop} (v : Va n R lf rg wt lev stt ap str) (c : SyC σ 1 n R lf rg wt lev stt ap str) (hsw : sh9 wc 1 8) (hwc : wc ≠ 75 ∧ wc ≠ 77 ∧ wc ≠ 78) (hw : ∀ x, 0 ≤ x → x < n → gI σ wc x = wt' x ∧ 0 ≤ wt' x ∧ wt' x ≤ 99) (h0 : (∀ s e, ¬ FV9 wt' s n R lf rg e) → ∀ τ, eq9 (fun k => k < 75 ∨ k = 76 ∨ 78 < k) σ τ → P 0 τ) (h1 : ∀ τ T wl ix, eq9 (fun k => k < 75 ∨ k = 76 ∨ 78 < k) σ τ → Lev9 τ wt' n R lf rg T wl ix → P 1 τ) : Cc (d + 1) mX2_prepare [.ref 75, .ref 1, .ref wc] σ (QI P) := by
  have hn := v.1
  have hR := v.2.1
  refine Cc_of (by decide +kernel) (fun _ => Nat.le_of_ble_eq_true rfl) rfl (lv := [_, _, _, _, _, _]) ?_
  have sb : ∀ (k : Nat) (r : Int), 0 ≤ r → r < R → (k : Int) ≤ n → -3564 ≤ sm9 wt' (bl9 lf rg r) k ∧ sm9 wt' (bl9 lf rg r) k ≤ 3564 := fun k r a b hk => by
    have := sm9_bd (f := wt') (g := bl9 lf rg r) (B := 99) (C := 6) (by decide) (by decide) k (fun y c e => ⟨by have := (hw y c (by omega)).2; omega, by have := v.bal (r := r) ⟨a, b⟩ y; exact this⟩)
    omega
  have eb : ∀ r, 0 ≤ r → r < R → sm9 wt' (bl9 lf rg r) n.toNat = wt9 wt' (lf r) - wt9 wt' (rg r) := fun r a b => sm9_bal (v.2.2.1 r a b).1.1 (v.2.2.1 r a b).2.2.1
  have K : ∀ (m : Nat) (r : Int) (υ : S9) (T : Int) (ix : Int → Int), 0 ≤ r → r + m = R → eq9 (fun k => k < 75 ∨ k = 76 ∨ 78 < k) σ υ → gI υ 75 1 = n → gI υ 75 4 = T → (0 ≤ T ∧ T ≤ r) → (∀ s, 0 ≤ s → s < r → 0 ≤ sm9 wt' (bl9 lf rg s) n.toNat) →
      (∀ i, 0 ≤ i → i < T → (0 ≤ ix i ∧ ix i < R) ∧ sm9 wt' (bl9 lf rg (ix i)) n.toNat = 0 ∧ gL υ 77 i = encW (lf (ix i)) ∧ gL υ 78 i = encW (rg (ix i))) → (∀ s, 0 ≤ s → s < r → sm9 wt' (bl9 lf rg s) n.toNat = 0 → ∃ i, 0 ≤ i ∧ i < T ∧ ix i = s) → ∀ l4 l5, Vv (d + 1) mX2_prepare 15 [.ref 75, .ref 1, .ref wc, .int (iI r), l4, l5] [] υ (QI P) := by
    intro m
    induction m with
    | zero =>
      intro r υ T ix hr hm he g1 g4 hT hp hi hx l4 l5
      have e1 : gI υ 1 1 = R := by rw [(he 1 (by omega)).1]; exact c.2.1
      have ew : ∀ x, 0 ≤ x → x < n → gI υ wc x = wt' x ∧ 0 ≤ wt' x ∧ wt' x ≤ 99 := fun x a b => by rw [(he wc (by omega)).1]; exact hw x a b
      refine v_iload_n dX2_prepare_15 rfl ?_
      refine v_aload_n dX2_prepare_16 rfl ?_
      refine v_getI (ji := 1) dX2_prepare_17 s_1 fX2_28 rfl ?_
      rw [e1]
      refine v_icmp_ge (tgt := 121) dX2_prepare_20 (by decide) (by omega) (fun q20 => ?_) (fun q20 => absurd q20 (by omega))
      refine v_aload_n dX2_prepare_121 rfl ?_
      refine v_aload_n dX2_prepare_122 rfl ?_
      refine v_callVi1 dX2_prepare_123 kX2_37 s_75 (Nat.le_of_ble_eq_true rfl) (c_X2_findWeightless (wt := wt') hsw hwc.1 hn g1 ew (fun z w => ?_) (fun w hw => ?_))
      · exact v_zreturn dX2_prepare_126 rfl (by decide) (h0 (fun s e hF => by have h8 := hF.1; rcases h8 with h9 | h9 <;> omega) _ (he.tr (eq9.aI (by omega))))
      · refine v_zreturn dX2_prepare_126 rfl (by decide) (by
          refine h1 _ T w ix (he.tr (eq9.aI (by omega))) ⟨?_, ?_, ?_, by omega, fun s a b => hp s a (by omega), fun i a b => hi i a b, fun s a b => hx s a (by omega), hw⟩
          · rw [gI_aI_eq, up9_ne (by decide)]; exact g1
          · rw [gI_aI_eq, up9_eq]
          · rw [gI_aI_eq, up9_ne (by decide)]; exact g4)
    | succ m ih =>
      intro r υ T ix hr hm he g1 g4 hT hp hi hx l4 l5
      have e1 : gI υ 1 1 = R := by rw [(he 1 (by omega)).1]; exact c.2.1
      have K2 : ∀ (j : Nat) (x : Int), 0 ≤ x → x + j = n → Vv (d + 1) mX2_prepare 29 [.ref 75, .ref 1, .ref wc, .int (iI r), .int (iI (sm9 wt' (bl9 lf rg r) x.toNat)), .int (iI x)] [] υ (QI P) := by
        intro j
        induction j with
        | zero =>
          intro x hx2 hj
          have sbr := sb x.toNat r hr (by omega) (by omega)
          have ex : x.toNat = n.toNat := by omega
          have el : gL υ 2 r = encW (lf r) := by rw [(he 2 (by omega)).2.1]; exact c.l ⟨hr, by omega⟩
          have er : gL υ 3 r = encW (rg r) := by rw [(he 3 (by omega)).2.1]; exact c.r ⟨hr, by omega⟩
          refine v_iload dX2_prepare_29 rfl ?_
          refine v_aload_n dX2_prepare_31 rfl ?_
          refine v_getI (ji := 1) dX2_prepare_32 s_75 fX2_24 rfl ?_
          rw [g1]
          refine v_icmp_ge (tgt := 63) dX2_prepare_35 (by decide) (by omega) (fun q35 => ?_) (fun q35 => absurd q35 (by omega))
          refine v_iload dX2_prepare_63 rfl ?_
          refine v_if_ge (tgt := 70) dX2_prepare_65 (by decide) (by omega) (fun q65 => ?_) (fun q65 => ?_)
          · refine v_iload dX2_prepare_70 rfl ?_
            refine v_if_ne (tgt := 115) dX2_prepare_72 (by decide) (by omega) (fun q72 => ?_) (fun q72 => ?_)
            · refine v_iinc (lv' := [_, _, _, _, _, _]) dX2_prepare_115 rfl (Nat.le_of_ble_eq_true rfl) rfl rfl ?_
              refine v_goto (tgt := 15) dX2_prepare_118 (by decide) ?_
              by_cases ez : sm9 wt' (bl9 lf rg r) x.toNat = 0
              · first
                | exact absurd ez q72
                | (refine ih (r + 1) _ (T + 1) (up9 ix T r) (by omega) (by omega) (he.tr (((eq9.aL (by omega)).tr (eq9.aL (by omega))).tr (eq9.aI (by omega)))) ?_ ?_ (by omega) (fun s a b => if e : s = r then (by rw [e, ← ex]; exact q65) else hp s a (by omega)) (fun i a b => ?_) (fun s a b y => ?_) _ _
                   · rw [gI_aI_eq, up9_ne (by decide)]; exact g1
                   · rw [gI_aI_eq, up9_eq]
                   · rw [gL_aI, gL_aI]
                     by_cases e : i = T
                     · rw [e, up9_eq, gL_aL_ne (by decide), gL_aL_eq, up9_eq, gL_aL_eq, up9_eq]
                       exact ⟨⟨hr, by omega⟩, by rw [← ex]; exact ez, rfl, rfl⟩
                     · rw [up9_ne e, gL_aL_ne (by decide), gL_aL_eq, up9_ne e, gL_aL_eq, gL_aL_ne (by decide), up9_ne e]
                       exact hi i a (by omega)
                   · by_cases e : s = r
                     · exact ⟨T, by omega, by omega, by rw [up9_eq, e]⟩
                     · obtain ⟨i, i0, i1, i2⟩ := hx s a (by omega) y
                       exact ⟨i, i0, by omega, by rw [up9_ne (by omega)]; exact i2⟩)
              · first
                | exact absurd q72 ez
                | exact ih (r + 1) υ T ix (by omega) (by omega) he g1 g4 (by omega) (fun s a b => if e : s = r then (by rw [e, ← ex]; exact q65) else hp s a (by omega)) hi (fun s a b y => hx s a (by have : s ≠ r := fun e => ez (by rw [ex, ← e]; exact y); omega) y) _ _
            · refine v_aload_n dX2_prepare_75 rfl ?_
              refine v_getR (k1 := 77) dX2_prepare_76 s_75 fX2_9 rfl ?_
              refine v_aload_n dX2_prepare_79 rfl ?_
              refine v_getI (ji := 4) dX2_prepare_80 s_75 fX2_25 rfl ?_
              refine v_aload_n dX2_prepare_83 rfl ?_
              refine v_getR (k1 := 2) dX2_prepare_84 s_1 fX2_35 rfl ?_
              refine v_iload_n dX2_prepare_87 rfl ?_
              refine v_laload dX2_prepare_88 s_2 (by omega) ?_
              rw [g4, el]
              refine v_lastore dX2_prepare_89 s_77 (by omega) ?_
              refine v_aload_n dX2_prepare_90 rfl ?_
              refine v_getR (k1 := 78) dX2_prepare_91 s_75 fX2_15 rfl ?_
              refine v_aload_n dX2_prepare_94 rfl ?_
              refine v_getI (ji := 4) dX2_prepare_95 s_75 fX2_25 rfl ?_
              refine v_aload_n dX2_prepare_98 rfl ?_
              refine v_getR (k1 := 3) dX2_prepare_99 s_1 fX2_36 rfl ?_
              refine v_iload_n dX2_prepare_102 rfl ?_
              refine v_laload dX2_prepare_103 s_3 (by omega) ?_
              rw [gI_aL, g4, gL_aL_ne (by decide), er]
              refine v_lastore dX2_prepare_104 s_78 (by omega) ?_
              refine v_aload_n dX2_prepare_105 rfl ?_
              refine v_dup dX2_prepare_106 rfl ?_
              refine v_getI (ji := 4) dX2_prepare_107 s_75 fX2_25 rfl ?_
              refine v_iconst dX2_prepare_110 ?_
              refine v_iadd dX2_prepare_111 ?_
              rw [gI_aL, gI_aL, g4]
              refine v_putI (ji := 4) dX2_prepare_112 s_75 pfX2_25 rfl ?_
              refine v_iinc (lv' := [_, _, _, _, _, _]) dX2_prepare_115 rfl (Nat.le_of_ble_eq_true rfl) rfl rfl ?_
              refine v_goto (tgt := 15) dX2_prepare_118 (by decide) ?_
              by_cases ez : sm9 wt' (bl9 lf rg r) x.toNat = 0
              · first
                | exact absurd ez q72
                | (refine ih (r + 1) _ (T + 1) (up9 ix T r) (by omega) (by omega) (he.tr (((eq9.aL (by omega)).tr (eq9.aL (by omega))).tr (eq9.aI (by omega)))) ?_ ?_ (by omega) (fun s a b => if e : s = r then (by rw [e, ← ex]; exact q65) else hp s a (by omega)) (fun i a b => ?_) (fun s a b y => ?_) _ _
                   · rw [gI_aI_eq, up9_ne (by decide)]; exact g1
                   · rw [gI_aI_eq, up9_eq]
                   · rw [gL_aI, gL_aI]
                     by_cases e : i = T
                     · rw [e, up9_eq, gL_aL_ne (by decide), gL_aL_eq, up9_eq, gL_aL_eq, up9_eq]
                       exact ⟨⟨hr, by omega⟩, by rw [← ex]; exact ez, rfl, rfl⟩
                     · rw [up9_ne e, gL_aL_ne (by decide), gL_aL_eq, up9_ne e, gL_aL_eq, gL_aL_ne (by decide), up9_ne e]
                       exact hi i a (by omega)
                   · by_cases e : s = r
                     · exact ⟨T, by omega, by omega, by rw [up9_eq, e]⟩
                     · obtain ⟨i, i0, i1, i2⟩ := hx s a (by omega) y
                       exact ⟨i, i0, by omega, by rw [up9_ne (by omega)]; exact i2⟩)
              · first
                | exact absurd q72 ez
                | exact ih (r + 1) υ T ix (by omega) (by omega) he g1 g4 (by omega) (fun s a b => if e : s = r then (by rw [e, ← ex]; exact q65) else hp s a (by omega)) hi (fun s a b y => hx s a (by have : s ≠ r := fun e => ez (by rw [ex, ← e]; exact y); omega) y) _ _
          · refine v_iconst dX2_prepare_68 ?_
            exact v_zreturn dX2_prepare_69 rfl (by decide) (h0 (fun s e hF => cmp9_lo (by have := eb r hr (by omega); rw [ex] at q65; omega) (hF.2 r hr (by omega))) υ he)
        | succ j ih2 =>
          intro x hx2 hj
          have eB : gI υ (5 + r.toNat) x = bal9 (lf r) (rg r) x := by rw [(he _ (by omega)).1]; exact c.b ⟨hr, by omega⟩ (by omega)
          have eW : gI υ wc x = wt' x := by rw [(he wc (by omega)).1]; exact (hw x hx2 (by omega)).1
          refine v_iload dX2_prepare_29 rfl ?_
          refine v_aload_n dX2_prepare_31 rfl ?_
          refine v_getI (ji := 1) dX2_prepare_32 s_75 fX2_24 rfl ?_
          rw [g1]
          refine v_icmp_ge (tgt := 63) dX2_prepare_35 (by decide) (by omega) (fun q35 => absurd q35 (by omega)) (fun q35 => ?_)
          refine v_iload dX2_prepare_38 rfl ?_
          refine v_aload_n dX2_prepare_40 rfl ?_
          refine v_iload dX2_prepare_41 rfl ?_
          refine v_iaload dX2_prepare_43 hsw (by omega) ?_
          rw [eW]
          refine v_aload_n dX2_prepare_44 rfl ?_
          refine v_getR (k1 := 4) dX2_prepare_45 s_1 fX2_31 rfl ?_
          refine v_iload_n dX2_prepare_48 rfl ?_
          refine v_aaloadR (k1 := 5 + (r).toNat) dX2_prepare_49 s_4 (by omega) (rfB9 (by omega)) ?_
          refine v_iload dX2_prepare_50 rfl ?_
          refine v_iaload dX2_prepare_52 (shB9 (r := r) (by omega)) (by omega) ?_
          rw [eB]
          refine v_imul dX2_prepare_53 ?_
          refine v_iadd dX2_prepare_54 ?_
          refine v_istore (lv' := [_, _, _, _, _, _]) dX2_prepare_55 (Nat.le_of_ble_eq_true rfl) rfl rfl ?_
          refine v_iinc (lv' := [_, _, _, _, _, _]) dX2_prepare_57 rfl (Nat.le_of_ble_eq_true rfl) rfl rfl ?_
          refine v_goto (tgt := 29) dX2_prepare_60 (by decide) ?_
          have := ih2 (x + 1) (by omega) (by omega)
          rw [show (x + 1).toNat = x.toNat + 1 by omega, sm9, show ((x.toNat : Nat) : Int) = x by omega] at this
          exact this
      refine v_iload_n dX2_prepare_15 rfl ?_
      refine v_aload_n dX2_prepare_16 rfl ?_
      refine v_getI (ji := 1) dX2_prepare_17 s_1 fX2_28 rfl ?_
      rw [e1]
      refine v_icmp_ge (tgt := 121) dX2_prepare_20 (by decide) (by omega) (fun q20 => absurd q20 (by omega)) (fun q20 => ?_)
      refine v_iconst dX2_prepare_23 ?_
      refine v_istore (lv' := [_, _, _, _, _, _]) dX2_prepare_24 (Nat.le_of_ble_eq_true rfl) rfl rfl ?_
      refine v_iconst dX2_prepare_26 ?_
      refine v_istore (lv' := [_, _, _, _, _, _]) dX2_prepare_27 (Nat.le_of_ble_eq_true rfl) rfl rfl ?_
      exact K2 n.toNat 0 (by omega) (by omega)
  refine v_aload_n dX2_prepare_0 rfl ?_
  refine v_aload_n dX2_prepare_1 rfl ?_
  refine v_getI (ji := 0) dX2_prepare_2 s_1 fX2_18 rfl ?_
  rw [c.1]
  refine v_putI (ji := 1) dX2_prepare_5 s_75 pfX2_24 rfl ?_
  refine v_aload_n dX2_prepare_8 rfl ?_
  refine v_iconst dX2_prepare_9 ?_
  refine v_putI (ji := 4) dX2_prepare_10 s_75 pfX2_25 rfl ?_
  refine v_iconst dX2_prepare_13 ?_
  refine v_istore_n (lv' := [_, _, _, _, _, _]) dX2_prepare_14 (Nat.le_of_ble_eq_true rfl) rfl rfl ?_
  refine K R.toNat 0 _ 0 (fun _ => 0) (by omega) (by omega) ((eq9.aI (by omega)).tr (eq9.aI (by omega))) ?_ ?_ (by omega) (fun s a b => by omega) (fun i a b => by omega) (fun s a b => by omega) _ _
  · rw [gI_aI_eq, up9_ne (by decide), gI_aI_eq, up9_eq]
  · rw [gI_aI_eq, up9_eq]
end
