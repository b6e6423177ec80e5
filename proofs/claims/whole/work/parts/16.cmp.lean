/-! ===== comparing ===== -/
def dif9 (lev : Int → Int) (stt : Int) (a b : List Int) : Nat → Int → Int
  | 0, _ => 0
  | m + 1, k => if lev (fr9 stt a k) - lev (fr9 stt b k) ≠ 0 then lev (fr9 stt a k) - lev (fr9 stt b k) else dif9 lev stt a b m (k + 1)
def sgn9 (z : Int) : Int := if 0 < z then 2 else if z < 0 then 0 else 1
def els9 (x y : Int) : Int := if x ≠ 0 then x else y
theorem sgn9_p {z : Int} (h : 0 < z) : sgn9 z = 2 := if_pos h
theorem sgn9_n {z : Int} (h : z < 0) : sgn9 z = 0 := by unfold sgn9; rw [if_neg (by omega), if_pos h]
theorem sgn9_0 {z : Int} (h : z = 0) : sgn9 z = 1 := by unfold sgn9; rw [if_neg (by omega), if_neg (by omega)]
theorem els9_ne {x y : Int} (h : x ≠ 0) : els9 x y = x := if_pos h
theorem els9_z {x y : Int} (h : x = 0) : els9 x y = y := by unfold els9; rw [if_neg (by omega)]
/-- 2: a is greater, 1: alike, 0: less -/
def cmp9 (wt lev : Int → Int) (stt : Int) (a b : List Int) : Int := sgn9 (els9 (els9 (wt9 wt a - wt9 wt b) (dif9 lev stt a b (min a.length b.length) 0)) ((a.length : Int) - b.length))
theorem wt9_bd {f : Int → Int} : ∀ {xs : List Int}, (∀ x ∈ xs, 0 ≤ f x ∧ f x ≤ 99) → 0 ≤ wt9 f xs ∧ wt9 f xs ≤ 99 * xs.length := by
  intro xs
  unfold wt9
  have : ∀ (l : List Int) (a : Int), (∀ x ∈ l, 0 ≤ f x ∧ f x ≤ 99) → a ≤ (l.map f).foldl (· + ·) a ∧ (l.map f).foldl (· + ·) a ≤ a + 99 * l.length := by
    intro l
    induction l with
    | nil => intro a _; simp
    | cons x l ih =>
      intro a h
      have h1 := h x List.mem_cons_self
      have h2 := ih (a + f x) (fun y hy => h y (List.mem_cons_of_mem _ hy))
      simp only [List.map_cons, List.foldl_cons, List.length_cons]
      omega
  intro h
  have := this xs 0 h
  omega
theorem fr9_bd {xs : List Int} (h : Lt8 xs) (stt k : Int) : 0 ≤ fr9 stt xs k ∧ fr9 stt xs k < 8 := by
  unfold fr9
  split
  · exact at9_bd h _
  · exact at9_bd h _
theorem dif9_bd {lev : Int → Int} (hv : ∀ x, 0 ≤ x → x < 8 → 0 ≤ lev x ∧ lev x ≤ 9) {a b : List Int} (ha : Lt8 a) (hb : Lt8 b) (stt : Int) : ∀ (m : Nat) (k : Int), -9 ≤ dif9 lev stt a b m k ∧ dif9 lev stt a b m k ≤ 9
  | 0, _ => by unfold dif9; omega
  | m + 1, k => by
    unfold dif9
    have h1 := hv _ (fr9_bd ha stt k).1 (fr9_bd ha stt k).2
    have h2 := hv _ (fr9_bd hb stt k).1 (fr9_bd hb stt k).2
    split
    · omega
    · exact dif9_bd hv ha hb stt m (k + 1)
section
variable {d : Nat} {σ : S9}
theorem c_X5_compareWords {a b : List Int} {R : Int → S9 → Prop} (ha : St a) (hb : St b) (hw : ∀ x, 0 ≤ x → x < 8 → 0 ≤ gI σ 13 x ∧ gI σ 13 x ≤ 99) (hv : ∀ x, 0 ≤ x → x < 8 → 0 ≤ gI σ 14 x ∧ gI σ 14 x ≤ 9) (hs : 0 ≤ gI σ 1 7 ∧ gI σ 1 7 ≤ 1) (h : R (cmp9 (gI σ 13) (gI σ 14) (gI σ 1 7) a b) σ) : Cc (d + 3) mX5_compareWords [.ref 1, .long (lI (encW a)), .long (lI (encW b))] σ (QI R) := by
  have hla := ha.2
  have hlb := hb.2
  refine Cc_of (by decide +kernel) (fun _ => Nat.le_of_ble_eq_true rfl) rfl (lv := [_, _, _, _, _, _, _, _, _, _]) ?_
  have hwa := wt9_bd (f := gI σ 13) (xs := a) (fun x hx => hw x (ha.1 x hx).1 (ha.1 x hx).2)
  have hwb := wt9_bd (f := gI σ 13) (xs := b) (fun x hx => hw x (hb.1 x hx).1 (hb.1 x hx).2)
  have E : ∀ (D : Int) (k : Int) (v8 v9 : Value), (-2000 ≤ D ∧ D ≤ 2000) → R (sgn9 (els9 D ((a.length : Int) - b.length))) σ → Vv (d + 3) mX5_compareWords 88 [.ref 1, .long (lI (encW a)), .null, .long (lI (encW b)), .null, .int (iI D), .int (iI (min a.length b.length : Int)), .int (iI k), v8, v9] [] σ (QI R) := by
    intro D k v8 v9 hD h
    refine v_iload dX5_compareWords_88 rfl ?_
    refine v_if_ne (tgt := 104) dX5_compareWords_90 (by decide) (by omega) (fun q90 => ?_) (fun q90 => ?_)
    · refine v_iload dX5_compareWords_104 rfl ?_
      refine v_if_le (tgt := 113) dX5_compareWords_106 (by decide) (by omega) (fun q106 => ?_) (fun q106 => ?_)
      · refine v_iload dX5_compareWords_113 rfl ?_
        refine v_if_ge (tgt := 122) dX5_compareWords_115 (by decide) (by omega) (fun q115 => ?_) (fun q115 => ?_)
        · refine v_iconst dX5_compareWords_122 ?_
          exact v_ireturn dX5_compareWords_123 rfl (by (first | rw [els9_ne q90] at h | rw [els9_z q90] at h); first | (rw [sgn9_p (by omega)] at h; exact h) | (rw [sgn9_n (by omega)] at h; exact h) | (rw [sgn9_0 (by omega)] at h; exact h))
        · refine v_iconst dX5_compareWords_118 ?_
          refine v_goto (tgt := 123) dX5_compareWords_119 (by decide) ?_
          exact v_ireturn dX5_compareWords_123 rfl (by (first | rw [els9_ne q90] at h | rw [els9_z q90] at h); first | (rw [sgn9_p (by omega)] at h; exact h) | (rw [sgn9_n (by omega)] at h; exact h) | (rw [sgn9_0 (by omega)] at h; exact h))
      · refine v_iconst dX5_compareWords_109 ?_
        refine v_goto (tgt := 123) dX5_compareWords_110 (by decide) ?_
        exact v_ireturn dX5_compareWords_123 rfl (by (first | rw [els9_ne q90] at h | rw [els9_z q90] at h); first | (rw [sgn9_p (by omega)] at h; exact h) | (rw [sgn9_n (by omega)] at h; exact h) | (rw [sgn9_0 (by omega)] at h; exact h))
    · refine v_lload_n dX5_compareWords_93 rfl ?_
      refine v_callSi1 dX5_compareWords_94 kX5_64 (Nat.le_of_ble_eq_true rfl) (c_X8_sizeOf ha ?_)
      refine v_lload_n dX5_compareWords_97 rfl ?_
      refine v_callSi1 dX5_compareWords_98 kX5_64 (Nat.le_of_ble_eq_true rfl) (c_X8_sizeOf hb ?_)
      refine v_isub dX5_compareWords_101 ?_
      refine v_istore (lv' := [_, _, _, _, _, _, _, _, _, _]) dX5_compareWords_102 (Nat.le_of_ble_eq_true rfl) rfl rfl ?_
      refine v_iload dX5_compareWords_104 rfl ?_
      refine v_if_le (tgt := 113) dX5_compareWords_106 (by decide) (by omega) (fun q106 => ?_) (fun q106 => ?_)
      · refine v_iload dX5_compareWords_113 rfl ?_
        refine v_if_ge (tgt := 122) dX5_compareWords_115 (by decide) (by omega) (fun q115 => ?_) (fun q115 => ?_)
        · refine v_iconst dX5_compareWords_122 ?_
          exact v_ireturn dX5_compareWords_123 rfl (by (first | rw [els9_ne q90] at h | rw [els9_z q90] at h); first | (rw [sgn9_p (by omega)] at h; exact h) | (rw [sgn9_n (by omega)] at h; exact h) | (rw [sgn9_0 (by omega)] at h; exact h))
        · refine v_iconst dX5_compareWords_118 ?_
          refine v_goto (tgt := 123) dX5_compareWords_119 (by decide) ?_
          exact v_ireturn dX5_compareWords_123 rfl (by (first | rw [els9_ne q90] at h | rw [els9_z q90] at h); first | (rw [sgn9_p (by omega)] at h; exact h) | (rw [sgn9_n (by omega)] at h; exact h) | (rw [sgn9_0 (by omega)] at h; exact h))
      · refine v_iconst dX5_compareWords_109 ?_
        refine v_goto (tgt := 123) dX5_compareWords_110 (by decide) ?_
        exact v_ireturn dX5_compareWords_123 rfl (by (first | rw [els9_ne q90] at h | rw [els9_z q90] at h); first | (rw [sgn9_p (by omega)] at h; exact h) | (rw [sgn9_n (by omega)] at h; exact h) | (rw [sgn9_0 (by omega)] at h; exact h))
  have K : ∀ (m : Nat) (k D : Int) (v8 v9 : Value), 0 ≤ k → k + m = min (a.length : Int) b.length → (-2000 ≤ D ∧ D ≤ 2000) → R (sgn9 (els9 (els9 D (dif9 (gI σ 14) (gI σ 1 7) a b m k)) ((a.length : Int) - b.length))) σ → Vv (d + 3) mX5_compareWords 29 [.ref 1, .long (lI (encW a)), .null, .long (lI (encW b)), .null, .int (iI D), .int (iI (min a.length b.length : Int)), .int (iI k), v8, v9] [] σ (QI R) := by
    intro m
    induction m with
    | zero =>
      intro k D v8 v9 hk hm hD h
      have e : els9 D (dif9 (gI σ 14) (gI σ 1 7) a b 0 k) = D := by unfold els9 dif9; split <;> omega
      rw [e] at h
      refine v_iload dX5_compareWords_29 rfl ?_
      refine v_iload dX5_compareWords_31 rfl ?_
      refine v_icmp_ge (tgt := 88) dX5_compareWords_33 (by decide) (by omega) (fun q33 => ?_) (fun q33 => absurd q33 (by omega))
      exact E D k v8 v9 hD h
    | succ m ih =>
      intro k D v8 v9 hk hm hD h
      have h1 := hv _ (fr9_bd ha.1 (gI σ 1 7) k).1 (fr9_bd ha.1 (gI σ 1 7) k).2
      have h2 := hv _ (fr9_bd hb.1 (gI σ 1 7) k).1 (fr9_bd hb.1 (gI σ 1 7) k).2
      have f1 := fr9_bd ha.1 (gI σ 1 7) k
      have f2 := fr9_bd hb.1 (gI σ 1 7) k
      refine v_iload dX5_compareWords_29 rfl ?_
      refine v_iload dX5_compareWords_31 rfl ?_
      refine v_icmp_ge (tgt := 88) dX5_compareWords_33 (by decide) (by omega) (fun q33 => absurd q33 (by omega)) (fun q33 => ?_)
      refine v_iload dX5_compareWords_36 rfl ?_
      refine v_if_ne (tgt := 88) dX5_compareWords_38 (by decide) (by omega) (fun q38 => ?_) (fun q38 => ?_)
      · have e : els9 D (dif9 (gI σ 14) (gI σ 1 7) a b (m + 1) k) = D := if_pos q38
        rw [e] at h
        exact E D k v8 v9 hD h
      · refine v_lload_n dX5_compareWords_41 rfl ?_
        refine v_iload dX5_compareWords_42 rfl ?_
        refine v_aload_n dX5_compareWords_44 rfl ?_
        refine v_getI (ji := 7) dX5_compareWords_45 s_1 fX5_45 rfl ?_
        refine v_callSi3 dX5_compareWords_48 kX5_83 (Nat.le_of_ble_eq_true rfl) (c_X8_letterFrom ha (by omega) hs ?_)
        refine v_istore (lv' := [_, _, _, _, _, _, _, _, _, _]) dX5_compareWords_51 (Nat.le_of_ble_eq_true rfl) rfl rfl ?_
        refine v_lload_n dX5_compareWords_53 rfl ?_
        refine v_iload dX5_compareWords_54 rfl ?_
        refine v_aload_n dX5_compareWords_56 rfl ?_
        refine v_getI (ji := 7) dX5_compareWords_57 s_1 fX5_45 rfl ?_
        refine v_callSi3 dX5_compareWords_60 kX5_83 (Nat.le_of_ble_eq_true rfl) (c_X8_letterFrom hb (by omega) hs ?_)
        refine v_istore (lv' := [_, _, _, _, _, _, _, _, _, _]) dX5_compareWords_63 (Nat.le_of_ble_eq_true rfl) rfl rfl ?_
        refine v_aload_n dX5_compareWords_65 rfl ?_
        refine v_getR (k1 := 14) dX5_compareWords_66 s_1 fX5_27 rfl ?_
        refine v_iload dX5_compareWords_69 rfl ?_
        refine v_iaload dX5_compareWords_71 s_14 (by omega) ?_
        refine v_aload_n dX5_compareWords_72 rfl ?_
        refine v_getR (k1 := 14) dX5_compareWords_73 s_1 fX5_27 rfl ?_
        refine v_iload dX5_compareWords_76 rfl ?_
        refine v_iaload dX5_compareWords_78 s_14 (by omega) ?_
        refine v_isub dX5_compareWords_79 ?_
        refine v_istore (lv' := [_, _, _, _, _, _, _, _, _, _]) dX5_compareWords_80 (Nat.le_of_ble_eq_true rfl) rfl rfl ?_
        refine v_iinc (lv' := [_, _, _, _, _, _, _, _, _, _]) dX5_compareWords_82 rfl (Nat.le_of_ble_eq_true rfl) rfl rfl ?_
        refine v_goto (tgt := 29) dX5_compareWords_85 (by decide) ?_
        refine ih (k + 1) _ _ _ (by omega) (by omega) (by omega) ?_
        have e : els9 D (dif9 (gI σ 14) (gI σ 1 7) a b (m + 1) k) = els9 (gI σ 14 (fr9 (gI σ 1 7) a k) - gI σ 14 (fr9 (gI σ 1 7) b k)) (dif9 (gI σ 14) (gI σ 1 7) a b m (k + 1)) := by
          unfold els9
          rw [if_neg (by omega)]
          rfl
        rw [e] at h
        exact h
  refine v_aload_n dX5_compareWords_0 rfl ?_
  refine v_lload_n dX5_compareWords_1 rfl ?_
  refine v_callVi1 dX5_compareWords_2 kX5_74 s_1 (Nat.le_of_ble_eq_true rfl) (c_X5_weightOf ha ?_)
  refine v_aload_n dX5_compareWords_5 rfl ?_
  refine v_lload_n dX5_compareWords_6 rfl ?_
  refine v_callVi1 dX5_compareWords_7 kX5_74 s_1 (Nat.le_of_ble_eq_true rfl) (c_X5_weightOf hb ?_)
  refine v_isub dX5_compareWords_10 ?_
  refine v_istore (lv' := [_, _, _, _, _, _, _, _, _, _]) dX5_compareWords_11 (Nat.le_of_ble_eq_true rfl) rfl rfl ?_
  refine v_lload_n dX5_compareWords_13 rfl ?_
  refine v_callSi1 dX5_compareWords_14 kX5_64 (Nat.le_of_ble_eq_true rfl) (c_X8_sizeOf ha ?_)
  refine v_lload_n dX5_compareWords_17 rfl ?_
  refine v_callSi1 dX5_compareWords_18 kX5_64 (Nat.le_of_ble_eq_true rfl) (c_X8_sizeOf hb ?_)
  refine v_mmin dX5_compareWords_21 mmX5_77 (by omega) (Nat.le_of_ble_eq_true rfl) ?_
  refine v_istore (lv' := [_, _, _, _, _, _, _, _, _, _]) dX5_compareWords_24 (Nat.le_of_ble_eq_true rfl) rfl rfl ?_
  refine v_iconst dX5_compareWords_26 ?_
  refine v_istore (lv' := [_, _, _, _, _, _, _, _, _, _]) dX5_compareWords_27 (Nat.le_of_ble_eq_true rfl) rfl rfl ?_
  exact K (min a.length b.length) 0 _ _ _ (by omega) (by omega) (by omega) h
/-! ===== admissibility ===== -/
/-- how many of the first k letters have weight 0 -/
def zc9 (wt : Int → Int) : Nat → Int
  | 0 => 0
  | k + 1 => zc9 wt k + (if wt k = 0 then 1 else 0)
/-- the level of a letter is above all others' -/
def abv9 (lev : Int → Int) (n x : Int) : Prop := ∀ y, 0 ≤ y → y < n → y ≠ x → lev y < lev x
def adm9 (wt lev : Int → Int) (n : Int) : Prop := zc9 wt n.toNat = 0 ∨ (zc9 wt n.toNat = 1 ∧ ∀ x, 0 ≤ x → x < n → wt x = 0 → abv9 lev n x)
theorem zc9_bd (wt : Int → Int) : ∀ k : Nat, 0 ≤ zc9 wt k ∧ zc9 wt k ≤ k
  | 0 => by unfold zc9; omega
  | k + 1 => by
    have := zc9_bd wt k
    unfold zc9
    split <;> omega
theorem c_X5_isAboveOthers {n x : Int} {R : Int → S9 → Prop} (hn : gI σ 1 0 = n) (hn8 : 1 ≤ n ∧ n ≤ 6) (hx : 0 ≤ x ∧ x < n) (hv : ∀ x, 0 ≤ x → x < 8 → 0 ≤ gI σ 14 x ∧ gI σ 14 x ≤ 9) (h1 : abv9 (gI σ 14) n x → R 1 σ) (h0 : ¬ abv9 (gI σ 14) n x → R 0 σ) : Cc d mX5_isAboveOthers [.ref 1, .int (iI x)] σ (QI R) := by
  refine Cc_of (by decide +kernel) (fun _ => Nat.le_of_ble_eq_true rfl) rfl (lv := [_, _, _]) ?_
  have hvx := hv x (by omega) (by omega)
  have K : ∀ (m : Nat) (k : Int), 0 ≤ k → k + m = n → (∀ y, 0 ≤ y → y < k → y ≠ x → gI σ 14 y < gI σ 14 x) → Vv d mX5_isAboveOthers 2 [.ref 1, .int (iI x), .int (iI k)] [] σ (QI R) := by
    intro m
    induction m with
    | zero =>
      intro k hk hm hI
      refine v_iload_n dX5_isAboveOthers_2 rfl ?_
      refine v_aload_n dX5_isAboveOthers_3 rfl ?_
      refine v_getI (ji := 0) dX5_isAboveOthers_4 s_1 fX5_38 rfl ?_
      rw [hn]
      refine v_icmp_ge (tgt := 38) dX5_isAboveOthers_7 (by decide) (by omega) (fun q7 => ?_) (fun q7 => absurd q7 (by omega))
      refine v_iconst dX5_isAboveOthers_38 ?_
      exact v_zreturn dX5_isAboveOthers_39 rfl (by decide) (h1 (fun y a1 a2 => hI y a1 (by omega)))
    | succ m ih =>
      intro k hk hm hI
      have hvk := hv k (by omega) (by omega)
      refine v_iload_n dX5_isAboveOthers_2 rfl ?_
      refine v_aload_n dX5_isAboveOthers_3 rfl ?_
      refine v_getI (ji := 0) dX5_isAboveOthers_4 s_1 fX5_38 rfl ?_
      rw [hn]
      refine v_icmp_ge (tgt := 38) dX5_isAboveOthers_7 (by decide) (by omega) (fun q7 => absurd q7 (by omega)) (fun q7 => ?_)
      refine v_iload_n dX5_isAboveOthers_10 rfl ?_
      refine v_iload_n dX5_isAboveOthers_11 rfl ?_
      refine v_icmp_eq (tgt := 32) dX5_isAboveOthers_12 (by decide) (by omega) (fun q12 => ?_) (fun q12 => ?_)
      · refine v_iinc (lv' := [_, _, _]) dX5_isAboveOthers_32 rfl (Nat.le_of_ble_eq_true rfl) rfl rfl ?_
        refine v_goto (tgt := 2) dX5_isAboveOthers_35 (by decide) ?_
        exact ih (k + 1) (by omega) (by omega) (fun y a1 a2 a3 => if e : y = k then (by subst e; first | omega | exact absurd q12 a3) else hI y a1 (by omega) a3)
      · refine v_aload_n dX5_isAboveOthers_15 rfl ?_
        refine v_getR (k1 := 14) dX5_isAboveOthers_16 s_1 fX5_27 rfl ?_
        refine v_iload_n dX5_isAboveOthers_19 rfl ?_
        refine v_iaload dX5_isAboveOthers_20 s_14 (by omega) ?_
        refine v_aload_n dX5_isAboveOthers_21 rfl ?_
        refine v_getR (k1 := 14) dX5_isAboveOthers_22 s_1 fX5_27 rfl ?_
        refine v_iload_n dX5_isAboveOthers_25 rfl ?_
        refine v_iaload dX5_isAboveOthers_26 s_14 (by omega) ?_
        refine v_icmp_lt (tgt := 32) dX5_isAboveOthers_27 (by decide) (by omega) (fun q27 => ?_) (fun q27 => ?_)
        · refine v_iinc (lv' := [_, _, _]) dX5_isAboveOthers_32 rfl (Nat.le_of_ble_eq_true rfl) rfl rfl ?_
          refine v_goto (tgt := 2) dX5_isAboveOthers_35 (by decide) ?_
          exact ih (k + 1) (by omega) (by omega) (fun y a1 a2 a3 => if e : y = k then (by subst e; first | omega | exact absurd q12 a3) else hI y a1 (by omega) a3)
        · refine v_iconst dX5_isAboveOthers_30 ?_
          exact v_zreturn dX5_isAboveOthers_31 rfl (by decide) (h0 (fun z => by have := z k (by omega) (by omega) (by omega); omega))
  refine v_iconst dX5_isAboveOthers_0 ?_
  refine v_istore_n (lv' := [_, _, _]) dX5_isAboveOthers_1 (Nat.le_of_ble_eq_true rfl) rfl rfl ?_
  exact K n.toNat 0 (by omega) (by omega) (fun y a1 a2 => by omega)
theorem c_X5_admissible {n : Int} {R : Int → S9 → Prop} (hn : gI σ 1 0 = n) (hn8 : 1 ≤ n ∧ n ≤ 6) (hw : ∀ x, 0 ≤ x → x < 8 → 0 ≤ gI σ 13 x ∧ gI σ 13 x ≤ 99) (hv : ∀ x, 0 ≤ x → x < 8 → 0 ≤ gI σ 14 x ∧ gI σ 14 x ≤ 9) (h1 : adm9 (gI σ 13) (gI σ 14) n → R 1 σ) (h0 : ¬ adm9 (gI σ 13) (gI σ 14) n → R 0 σ) : Cc (d + 1) mX5_admissible [.ref 1] σ (QI R) := by
  refine Cc_of (by decide +kernel) (fun _ => Nat.le_of_ble_eq_true rfl) rfl (lv := [_, _, _, _]) ?_
  have E : ∀ (ab k : Int), (ab = 0 ∨ ab = 1) → (ab = 1 ↔ ∀ x, 0 ≤ x → x < n → gI σ 13 x = 0 → abv9 (gI σ 14) n x) → Vv (d + 1) mX5_admissible 50 [.ref 1, .int (iI (zc9 (gI σ 13) n.toNat)), .int (iI ab), .int (iI k)] [] σ (QI R) := by
    intro ab k hab hI
    have hz := zc9_bd (gI σ 13) n.toNat
    refine v_iload_n dX5_admissible_50 rfl ?_
    refine v_if_eq (tgt := 63) dX5_admissible_51 (by decide) (by omega) (fun q51 => ?_) (fun q51 => ?_)
    · refine v_iconst dX5_admissible_63 ?_
      refine v_goto (tgt := 68) dX5_admissible_64 (by decide) ?_
      exact v_zreturn dX5_admissible_68 rfl (by decide) (by first | exact h1 (Or.inl (by omega)) | exact h1 (Or.inr ⟨by omega, hI.mp (by omega)⟩) | exact h0 (fun z => z.elim (fun z => by omega) (fun z => by first | omega | (have := hI.mpr z.2; omega))))
    · refine v_iload_n dX5_admissible_54 rfl ?_
      refine v_iconst dX5_admissible_55 ?_
      refine v_icmp_ne (tgt := 67) dX5_admissible_56 (by decide) (by omega) (fun q56 => ?_) (fun q56 => ?_)
      · refine v_iconst dX5_admissible_67 ?_
        exact v_zreturn dX5_admissible_68 rfl (by decide) (by first | exact h1 (Or.inl (by omega)) | exact h1 (Or.inr ⟨by omega, hI.mp (by omega)⟩) | exact h0 (fun z => z.elim (fun z => by omega) (fun z => by first | omega | (have := hI.mpr z.2; omega))))
      · refine v_iload_n dX5_admissible_59 rfl ?_
        refine v_if_eq (tgt := 67) dX5_admissible_60 (by decide) (by omega) (fun q60 => ?_) (fun q60 => ?_)
        · refine v_iconst dX5_admissible_67 ?_
          exact v_zreturn dX5_admissible_68 rfl (by decide) (by first | exact h1 (Or.inl (by omega)) | exact h1 (Or.inr ⟨by omega, hI.mp (by omega)⟩) | exact h0 (fun z => z.elim (fun z => by omega) (fun z => by first | omega | (have := hI.mpr z.2; omega))))
        · refine v_iconst dX5_admissible_63 ?_
          refine v_goto (tgt := 68) dX5_admissible_64 (by decide) ?_
          exact v_zreturn dX5_admissible_68 rfl (by decide) (by first | exact h1 (Or.inl (by omega)) | exact h1 (Or.inr ⟨by omega, hI.mp (by omega)⟩) | exact h0 (fun z => z.elim (fun z => by omega) (fun z => by first | omega | (have := hI.mpr z.2; omega))))
  have K : ∀ (m : Nat) (k ab : Int), 0 ≤ k → k + m = n → (ab = 0 ∨ ab = 1) → (ab = 1 ↔ ∀ x, 0 ≤ x → x < k → gI σ 13 x = 0 → abv9 (gI σ 14) n x) → Vv (d + 1) mX5_admissible 6 [.ref 1, .int (iI (zc9 (gI σ 13) k.toNat)), .int (iI ab), .int (iI k)] [] σ (QI R) := by
    intro m
    induction m with
    | zero =>
      intro k ab hk hm hab hI
      have ek : k = n := by omega
      subst ek
      refine v_iload_n dX5_admissible_6 rfl ?_
      refine v_aload_n dX5_admissible_7 rfl ?_
      refine v_getI (ji := 0) dX5_admissible_8 s_1 fX5_38 rfl ?_
      rw [hn]
      refine v_icmp_ge (tgt := 50) dX5_admissible_11 (by decide) (by omega) (fun q11 => ?_) (fun q11 => absurd q11 (by omega))
      exact E ab k hab hI
    | succ m ih =>
      intro k ab hk hm hab hI
      have hz := zc9_bd (gI σ 13) k.toNat
      have hwk := hw k (by omega) (by omega)
      have ez : zc9 (gI σ 13) (k + 1).toNat = zc9 (gI σ 13) k.toNat + (if gI σ 13 k = 0 then 1 else 0) := by
        rw [show (k + 1).toNat = k.toNat + 1 by omega]
        show _ + (if gI σ 13 ((k.toNat : Nat) : Int) = 0 then 1 else 0) = _
        rw [Int.toNat_of_nonneg hk]
      refine v_iload_n dX5_admissible_6 rfl ?_
      refine v_aload_n dX5_admissible_7 rfl ?_
      refine v_getI (ji := 0) dX5_admissible_8 s_1 fX5_38 rfl ?_
      rw [hn]
      refine v_icmp_ge (tgt := 50) dX5_admissible_11 (by decide) (by omega) (fun q => absurd q (by omega)) (fun q => ?_)
      refine v_aload_n dX5_admissible_14 rfl ?_
      refine v_getR (k1 := 13) dX5_admissible_15 s_1 fX5_23 rfl ?_
      refine v_iload_n dX5_admissible_18 rfl ?_
      refine v_iaload dX5_admissible_19 s_13 (by omega) ?_
      refine v_if_ne (tgt := 44) dX5_admissible_20 (by decide) (by omega) (fun q => ?_) (fun q => ?_)
      · refine v_iinc (lv' := [_, _, _, _]) dX5_admissible_44 rfl (Nat.le_of_ble_eq_true rfl) rfl rfl ?_
        refine v_goto (tgt := 6) dX5_admissible_47 (by decide) ?_
        have := ih (k + 1) ab (by omega) (by omega) hab ⟨fun e x a1 a2 a3 => if ex : x = k then absurd (ex ▸ a3) q else hI.mp e x a1 (by omega) a3, fun e => hI.mpr (fun x a1 a2 a3 => e x a1 (by omega) a3)⟩
        rw [ez, if_neg q, Int.add_zero] at this
        exact this
      · have fin : ∀ ab' : Int, (ab' = 0 ∨ ab' = 1) → (ab' = 1 ↔ ab = 1 ∧ abv9 (gI σ 14) n k) → Vv (d + 1) mX5_admissible 43 [.ref 1, .int (iI (zc9 (gI σ 13) k.toNat + 1)), .int (iI ab), .int (iI k)] [.int (iI ab')] σ (QI R) := by
          intro ab' hab' hI'
          refine v_istore_n (lv' := [_, _, _, _]) dX5_admissible_43 (Nat.le_of_ble_eq_true rfl) rfl rfl ?_
          refine v_iinc (lv' := [_, _, _, _]) dX5_admissible_44 rfl (Nat.le_of_ble_eq_true rfl) rfl rfl ?_
          refine v_goto (tgt := 6) dX5_admissible_47 (by decide) ?_
          have := ih (k + 1) ab' (by omega) (by omega) hab' ⟨fun e x a1 a2 a3 => if ex : x = k then ex ▸ (hI'.mp e).2 else hI.mp (hI'.mp e).1 x a1 (by omega) a3, fun e => hI'.mpr ⟨hI.mpr (fun x a1 a2 a3 => e x a1 (by omega) a3), e k hk (by omega) q⟩⟩
          rw [ez, if_pos q] at this
          exact this
        refine v_iinc (lv' := [_, _, _, _]) dX5_admissible_23 rfl (Nat.le_of_ble_eq_true rfl) rfl rfl ?_
        refine v_iload_n dX5_admissible_26 rfl ?_
        refine v_if_eq (tgt := 42) dX5_admissible_27 (by decide) (by omega) (fun z => ?_) (fun z => ?_)
        · refine v_iconst dX5_admissible_42 ?_
          exact fin 0 (Or.inl rfl) ⟨fun e => absurd e (by decide), fun e => by omega⟩
        · refine v_aload_n dX5_admissible_30 rfl ?_
          refine v_iload_n dX5_admissible_31 rfl ?_
          refine v_callVi1 dX5_admissible_32 kX5_87 s_1 (Nat.le_of_ble_eq_true rfl) (c_X5_isAboveOthers hn hn8 (by omega) hv (fun w => ?_) (fun w => ?_))
          · refine v_if_eq (tgt := 42) dX5_admissible_35 (by decide) (by decide) (fun z => absurd z (by decide)) (fun z => ?_)
            refine v_iconst dX5_admissible_38 ?_
            refine v_goto (tgt := 43) dX5_admissible_39 (by decide) ?_
            exact fin 1 (Or.inr rfl) ⟨fun _ => ⟨by omega, w⟩, fun _ => rfl⟩
          · refine v_if_eq (tgt := 42) dX5_admissible_35 (by decide) (by decide) (fun z => ?_) (fun z => absurd rfl z)
            refine v_iconst dX5_admissible_42 ?_
            exact fin 0 (Or.inl rfl) ⟨fun e => absurd e (by decide), fun e => absurd e.2 w⟩
  refine v_iconst dX5_admissible_0 ?_
  refine v_istore_n (lv' := [_, _, _, _]) dX5_admissible_1 (Nat.le_of_ble_eq_true rfl) rfl rfl ?_
  refine v_iconst dX5_admissible_2 ?_
  refine v_istore_n (lv' := [_, _, _, _]) dX5_admissible_3 (Nat.le_of_ble_eq_true rfl) rfl rfl ?_
  refine v_iconst dX5_admissible_4 ?_
  refine v_istore_n (lv' := [_, _, _, _]) dX5_admissible_5 (Nat.le_of_ble_eq_true rfl) rfl rfl ?_
  exact K n.toNat 0 1 (by omega) (by omega) (Or.inr rfl) ⟨fun _ x a1 a2 => by omega, fun _ => rfl⟩
end
