/-! ===== floats: what is alike ===== -/
theorem nan32 (a : UInt32) : isNaN32 a = true ↔ FP.Core.val32 a = .nan := by
  rw [← FP.Core.fIsNaN_iff, FP.Core.isNaN_bits32, ← FP.Core.mask_toNat32]
  unfold isNaN32
  rw [decide_eq_true_iff, gt_iff_lt, UInt32.lt_iff_toNat_lt]
  rfl
theorem nan64 (a : UInt64) : isNaN64 a = true ↔ FP.Core.val64 a = .nan := by
  rw [← FP.Core.dIsNaN_iff, FP.Core.isNaN_bits, ← FP.Core.mask_toNat]
  unfold isNaN64
  rw [decide_eq_true_iff, gt_iff_lt, UInt64.lt_iff_toNat_lt]
  rfl
theorem nn32 {a : UInt32} : isNaN32 a = false ↔ FP.Core.fIsNaN a = false := by
  rw [FP.Core.notNaN_iff32, Ne, ← nan32, Bool.not_eq_true]
theorem nn64 {a : UInt64} : isNaN64 a = false ↔ FP.Core.dIsNaN a = false := by
  rw [FP.Core.notNaN_iff, Ne, ← nan64, Bool.not_eq_true]
theorem al32 {r x : UInt32} (h : alike32 r x = true) (hx : isNaN32 x = false) : r = x := by
  unfold alike32 at h
  rw [hx, Bool.and_false, Bool.or_false, decide_eq_true_iff] at h
  exact h
theorem al64 {r x : UInt64} (h : alike64 r x = true) (hx : isNaN64 x = false) : r = x := by
  unfold alike64 at h
  rw [hx, Bool.and_false, Bool.or_false, decide_eq_true_iff] at h
  exact h
theorem al32_iff {r x : UInt32} : alike32 r x = true ↔ r = x ∨ (FP.Core.val32 r = .nan ∧ FP.Core.val32 x = .nan) := by
  unfold alike32
  rw [Bool.or_eq_true, Bool.and_eq_true, decide_eq_true_iff, nan32, nan32]
theorem al64_iff {r x : UInt64} : alike64 r x = true ↔ r = x ∨ (FP.Core.val64 r = .nan ∧ FP.Core.val64 x = .nan) := by
  unfold alike64
  rw [Bool.or_eq_true, Bool.and_eq_true, decide_eq_true_iff, nan64, nan64]
theorem al32_tr {a b c : UInt32} (h1 : alike32 a b = true) (h2 : alike32 b c = true) : alike32 a c = true := by
  rw [al32_iff] at *
  rcases h1 with rfl | ⟨p, q⟩
  · exact h2
  · rcases h2 with rfl | ⟨p2, q2⟩
    · exact Or.inr ⟨p, q⟩
    · exact Or.inr ⟨p, q2⟩
theorem al32_cmp {r x : UInt32} (h : alike32 r x = true) (b : UInt32) : FP.fcmp r b = FP.fcmp x b := by
  rw [al32_iff] at h
  rcases h with rfl | ⟨p, q⟩
  · rfl
  · exact ((FP.Core.fcmp_none r b).mpr (Or.inl p)).trans ((FP.Core.fcmp_none x b).mpr (Or.inl q)).symm
theorem al64_cmp {r x : UInt64} (h : alike64 r x = true) (b : UInt64) : FP.dcmp r b = FP.dcmp x b := by
  rw [al64_iff] at h
  rcases h with rfl | ⟨p, q⟩
  · rfl
  · exact ((FP.Core.dcmp_none r b).mpr (Or.inl p)).trans ((FP.Core.dcmp_none x b).mpr (Or.inl q)).symm
theorem al32_add {a a' b b' : UInt32} (h1 : alike32 a a' = true) (h2 : alike32 b b' = true) : alike32 (FP.fadd a b) (FP.fadd a' b') = true := by
  rw [al32_iff] at *
  rcases h1 with rfl | ⟨p, q⟩
  · rcases h2 with rfl | ⟨p, q⟩
    · exact Or.inl rfl
    · exact Or.inr ⟨FP.Core.fadd_nan (Or.inr p), FP.Core.fadd_nan (Or.inr q)⟩
  · exact Or.inr ⟨FP.Core.fadd_nan (Or.inl p), FP.Core.fadd_nan (Or.inl q)⟩
theorem al_f2d {a a' : UInt32} (h : alike32 a a' = true) : alike64 (FP.f2d a) (FP.f2d a') = true := by
  rw [al32_iff] at h
  rw [al64_iff]
  rcases h with rfl | ⟨p, q⟩
  · exact Or.inl rfl
  · right
    rw [← FP.Core.dIsNaN_iff, ← FP.Core.dIsNaN_iff]
    rw [← FP.Core.fIsNaN_iff] at p q
    exact ⟨(FP.f2d_nan a).trans p, (FP.f2d_nan a').trans q⟩
theorem al64_mul {a a' b : UInt64} (h1 : alike64 a a' = true) : alike64 (FP.dmul a b) (FP.dmul a' b) = true := by
  rw [al64_iff] at *
  rcases h1 with rfl | ⟨p, q⟩
  · exact Or.inl rfl
  · exact Or.inr ⟨FP.Core.dmul_nan (Or.inl p), FP.Core.dmul_nan (Or.inl q)⟩
theorem al64_tr {a b c : UInt64} (h1 : alike64 a b = true) (h2 : alike64 b c = true) : alike64 a c = true := by
  rw [al64_iff] at *
  rcases h1 with rfl | ⟨p, q⟩
  · exact h2
  · rcases h2 with rfl | ⟨p2, q2⟩
    · exact Or.inr ⟨p, q⟩
    · exact Or.inr ⟨p, q2⟩
theorem d2l_nan9 {a : UInt64} (h : FP.Core.val64 a = .nan) : FP.d2l a = 0 := by
  show Int64.ofInt (FP.Core.toInt (-2 ^ 63) (2 ^ 63 - 1) (FP.Core.val64 a)) = 0
  rw [h]
  rfl
theorem al64_d2l {a a' : UInt64} (h : alike64 a a' = true) : FP.d2l a = FP.d2l a' := by
  rw [al64_iff] at h
  rcases h with rfl | ⟨p, q⟩
  · rfl
  · rw [d2l_nan9 p, d2l_nan9 q]
theorem cvg {o : Option Ordering} : Op.cmpValue o CmpOp.g ≥ 0 ↔ o ≠ some .lt := by
  cases o with
  | none => exact ⟨fun _ => (fun h => (by cases h)), fun _ => by decide⟩
  | some x => cases x <;> first | exact ⟨fun _ => (fun h => (by cases h)), fun _ => by decide⟩ | exact ⟨fun h => absurd h (by decide), fun h => absurd rfl h⟩
theorem cvl {o : Option Ordering} : Op.cmpValue o CmpOp.l < 0 ↔ o ≠ some .gt ∧ o ≠ some .eq := by
  cases o with
  | none => exact ⟨fun _ => ⟨fun h => (by cases h), fun h => (by cases h)⟩, fun _ => by decide⟩
  | some x => cases x <;> first | exact ⟨fun _ => ⟨fun h => (by cases h), fun h => (by cases h)⟩, fun _ => by decide⟩ | exact ⟨fun h => absurd h (by decide), fun h => absurd rfl h.1⟩ | exact ⟨fun h => absurd h (by decide), fun h => absurd rfl h.2⟩
theorem cvgt {o : Option Ordering} : Op.cmpValue o CmpOp.l > 0 ↔ o = some .gt := by
  cases o with
  | none => exact ⟨fun h => absurd h (by decide), fun h => (by cases h)⟩
  | some x => cases x <;> first | exact ⟨fun _ => rfl, fun _ => by decide⟩ | exact ⟨fun h => absurd h (by decide), fun h => (by cases h)⟩
/-! ===== margins ===== -/
/-- the margin over the first letters -/
def mg9 (bl : Int → Int) (ap : Int → UInt32) : Nat → UInt32
  | 0 => 0
  | k + 1 => FP.fadd (mg9 bl ap k) (FP.fmul (FP.i2f (iI (bl k))) (ap k))
/-- one approximate weight of a widened margin -/
def wd9 (b : Int) (a : UInt32) : UInt32 := if FP.fcmp (FP.fadd a (FP.fmul (FP.i2f (iI b)) 1040187392)) 0 = some .lt then 0 else FP.fadd a (FP.fmul (FP.i2f (iI b)) 1040187392)
/-- all of them, of the first k letters -/
def wdA (bl : Int → Int) (k : Int) (ap : Int → UInt32) : Int → UInt32 := fun x => if 0 ≤ x ∧ x < k then wd9 (bl x) (ap x) else ap x
/-- the rules in turn -/
def im1 (bl : Int → Int → Int) (n : Int) (ap : Int → UInt32) : Nat → Int → UInt32
  | 0 => ap
  | r + 1 => if FP.fcmp (mg9 (bl r) (im1 bl n ap r) n.toNat) 1056964608 = some .lt then wdA (bl r) n (im1 bl n ap r) else im1 bl n ap r
/-- the rounds in turn -/
def imN (bl : Int → Int → Int) (n R : Int) (ap : Int → UInt32) : Nat → Int → UInt32
  | 0 => ap
  | k + 1 => im1 bl n (imN bl n R ap k) R.toNat
/-- how many of the first rules have a wide margin -/
def wide9 (bl : Int → Int → Int) (n : Int) (ap : Int → UInt32) : Nat → Int
  | 0 => 0
  | r + 1 => wide9 bl n ap r + (if FP.fcmp (mg9 (bl r) ap n.toNat) 1056964608 = some .gt ∨ FP.fcmp (mg9 (bl r) ap n.toNat) 1056964608 = some .eq then 1 else 0)
theorem wide9_bd (bl : Int → Int → Int) (n : Int) (ap : Int → UInt32) : ∀ k : Nat, 0 ≤ wide9 bl n ap k ∧ wide9 bl n ap k ≤ k
  | 0 => by unfold wide9; omega
  | k + 1 => by
    have := wide9_bd bl n ap k
    unfold wide9
    split <;> omega
theorem fin8 : ∀ b : Int, -6 ≤ b → b ≤ 6 → (FP.fmul (FP.i2f (iI b)) 1040187392).toNat % 2 ^ 31 < 2139095040 := by
  intro b h1 h2
  have : ∀ k : Fin 13, (FP.fmul (FP.i2f (iI ((k.1 : Int) - 6))) 1040187392).toNat % 2 ^ 31 < 2139095040 := by decide +kernel
  have h := this ⟨(b + 6).toNat, by omega⟩
  rw [show (((⟨(b + 6).toNat, by omega⟩ : Fin 13).1 : Nat) : Int) - 6 = b by show ((b + 6).toNat : Int) - 6 = b; omega] at h
  exact h
theorem wd_nn {b : Int} {a : UInt32} (h1 : -6 ≤ b) (h2 : b ≤ 6) (ha : apOK a) : isNaN32 (FP.fmul (FP.i2f (iI b)) 1040187392) = false ∧ isNaN32 (FP.fadd a (FP.fmul (FP.i2f (iI b)) 1040187392)) = false := by
  have hf := (FP.Core.fin_bits32 _).mpr (fin8 b h1 h2)
  exact ⟨nn32.mpr hf.notNaN, nn32.mpr (FP.Core.fadd_out (nn32.mp ha.1) hf)⟩
theorem wd9_ok {b : Int} {a : UInt32} (h1 : -6 ≤ b) (h2 : b ≤ 6) (ha : apOK a) : apOK (wd9 b a) := by
  unfold wd9
  split
  · exact ⟨by decide, by decide +kernel⟩
  · rename_i h
    exact ⟨(wd_nn h1 h2 ha).2, h⟩
theorem mg9_congr {bl bl' : Int → Int} {f g : Int → UInt32} : ∀ k : Nat, (∀ x : Int, 0 ≤ x → x < k → bl x = bl' x ∧ f x = g x) → mg9 bl f k = mg9 bl' g k
  | 0, _ => rfl
  | k + 1, h => by
    unfold mg9
    rw [mg9_congr k (fun x a b => h x a (by omega)), (h k (by omega) (by omega)).1, (h k (by omega) (by omega)).2]
theorem im1_ok {bl : Int → Int → Int} {n : Int} {ap : Int → UInt32} (hap : ∀ x, 0 ≤ x → x < 8 → apOK (ap x)) (hn : n ≤ 8) : ∀ r : Nat, (∀ s x : Int, 0 ≤ s → s < r → -6 ≤ bl s x ∧ bl s x ≤ 6) → ∀ x, 0 ≤ x → x < 8 → apOK (im1 bl n ap r x)
  | 0, _ => hap
  | r + 1, hb => fun x a b => by
    have ih := im1_ok hap hn r (fun s x c d => hb s x c (by omega))
    unfold im1
    split
    · unfold wdA
      split
      · exact wd9_ok (hb r x (by omega) (by omega)).1 (hb r x (by omega) (by omega)).2 (ih x a b)
      · exact ih x a b
    · exact ih x a b
theorem imN_ok {bl : Int → Int → Int} {n R : Int} {ap : Int → UInt32} (hap : ∀ x, 0 ≤ x → x < 8 → apOK (ap x)) (hn : n ≤ 8) (hb : ∀ s x : Int, 0 ≤ s → s < R → -6 ≤ bl s x ∧ bl s x ≤ 6) : ∀ k : Nat, ∀ x, 0 ≤ x → x < 8 → apOK (imN bl n R ap k x)
  | 0 => hap
  | k + 1 => im1_ok (imN_ok hap hn hb k) hn R.toNat (fun s x a b => hb s x a (by omega))
theorem im1_out {bl : Int → Int → Int} {n : Int} {ap : Int → UInt32} : ∀ (r : Nat) (x : Int), n ≤ x → im1 bl n ap r x = ap x
  | 0, _, _ => rfl
  | r + 1, x, h => by
    unfold im1
    split
    · unfold wdA
      rw [if_neg (by omega)]
      exact im1_out r x h
    · exact im1_out r x h
theorem imN_out {bl : Int → Int → Int} {n R : Int} {ap : Int → UInt32} : ∀ (k : Nat) (x : Int), n ≤ x → imN bl n R ap k x = ap x
  | 0, _, _ => rfl
  | k + 1, x, h => (im1_out R.toNat x h).trans (imN_out k x h)
theorem im1_congr {bl bl' : Int → Int → Int} {n : Int} {f g : Int → UInt32} (hfg : ∀ x, 0 ≤ x → x < n → f x = g x) : ∀ r : Nat, (∀ s x : Int, 0 ≤ s → s < r → 0 ≤ x → x < n → bl s x = bl' s x) → ∀ x, 0 ≤ x → x < n → im1 bl n f r x = im1 bl' n g r x
  | 0, _ => hfg
  | r + 1, hb => fun x a b => by
    have ih := im1_congr hfg r (fun s x c d => hb s x c (by omega))
    unfold im1
    rw [mg9_congr (bl := bl r) (bl' := bl' r) (f := im1 bl n f r) (g := im1 bl' n g r) n.toNat (fun y c e => ⟨hb r y (by omega) (by omega) c (by omega), ih y c (by omega)⟩)]
    split
    · unfold wdA
      rw [if_pos ⟨a, b⟩, if_pos ⟨a, b⟩, hb r x (by omega) (by omega) a b, ih x a b]
    · exact ih x a b
theorem imN_congr {bl bl' : Int → Int → Int} {n R : Int} {f g : Int → UInt32} (hfg : ∀ x, 0 ≤ x → x < n → f x = g x) (hb : ∀ s x : Int, 0 ≤ s → s < R → 0 ≤ x → x < n → bl s x = bl' s x) : ∀ k : Nat, ∀ x, 0 ≤ x → x < n → imN bl n R f k x = imN bl' n R g k x
  | 0 => hfg
  | k + 1 => im1_congr (imN_congr hfg hb k) R.toNat (fun s x a b => hb s x a (by omega))
theorem wide9_congr {bl bl' : Int → Int → Int} {n : Int} {f g : Int → UInt32} (hfg : ∀ x, 0 ≤ x → x < n → f x = g x) : ∀ r : Nat, (∀ s x : Int, 0 ≤ s → s < r → 0 ≤ x → x < n → bl s x = bl' s x) → wide9 bl n f r = wide9 bl' n g r
  | 0, _ => rfl
  | r + 1, hb => by
    unfold wide9
    rw [wide9_congr hfg r (fun s x c d => hb s x c (by omega)), mg9_congr (bl := bl r) (bl' := bl' r) (f := f) (g := g) n.toNat (fun y c e => ⟨hb r y (by omega) (by omega) c (by omega), hfg y c (by omega)⟩)]
section
variable {d : Nat} {n R : Int} {lf rg : Int → List Int} {wt lev : Int → Int} {stt : Int} {ap : Int → UInt32} {str : List Int} {σ : S9}
/-- the balances, by rule and letter -/
abbrev bl9 (lf rg : Int → List Int) : Int → Int → Int := fun r x => bal9 (lf r) (rg r) x
theorem c_X5_marginOf {r : Int} {P : UInt32 → S9 → Prop} (hn : 1 ≤ n ∧ n ≤ 6) (hr : 0 ≤ r ∧ r < R ∧ R ≤ 8) (c0 : gI σ 1 0 = n) (cb : ∀ x, 0 ≤ x → x < n → gI σ (5 + r.toNat) x = bal9 (lf r) (rg r) x) (h : ∀ a, alike32 a (mg9 (bl9 lf rg r) (gF σ 15) n.toNat) = true → P a σ) : Cc d mX5_marginOf [.ref 1, .int (iI r)] σ (QF P) := by
  refine Cc_of (by decide +kernel) (fun _ => Nat.le_of_ble_eq_true rfl) rfl (lv := [_, _, _, _]) ?_
  have K : ∀ (m : Nat) (x : Int) (s : UInt32), 0 ≤ x → x + m = n → alike32 s (mg9 (bl9 lf rg r) (gF σ 15) x.toNat) = true → Vv d mX5_marginOf 4 [.ref 1, .int (iI r), .float s, .int (iI x)] [] σ (QF P) := by
    intro m
    induction m with
    | zero =>
      intro x s hx hm hs
      refine v_iload_n dX5_marginOf_4 rfl ?_
      refine v_aload_n dX5_marginOf_5 rfl ?_
      refine v_getI (ji := 0) dX5_marginOf_6 s_1 fX5_38 rfl ?_
      rw [c0]
      refine v_icmp_ge (tgt := 37) dX5_marginOf_9 (by decide) (by omega) (fun q9 => ?_) (fun q9 => absurd q9 (by omega))
      refine v_fload_n dX5_marginOf_37 rfl ?_
      exact v_freturn dX5_marginOf_38 rfl (h s (by rw [show n.toNat = x.toNat by omega]; exact hs))
    | succ m ih =>
      intro x s hx hm hs
      refine v_iload_n dX5_marginOf_4 rfl ?_
      refine v_aload_n dX5_marginOf_5 rfl ?_
      refine v_getI (ji := 0) dX5_marginOf_6 s_1 fX5_38 rfl ?_
      rw [c0]
      refine v_icmp_ge (tgt := 37) dX5_marginOf_9 (by decide) (by omega) (fun q9 => absurd q9 (by omega)) (fun q9 => ?_)
      refine v_fload_n dX5_marginOf_12 rfl ?_
      refine v_aload_n dX5_marginOf_13 rfl ?_
      refine v_getR (k1 := 4) dX5_marginOf_14 s_1 fX5_20 rfl ?_
      refine v_iload_n dX5_marginOf_17 rfl ?_
      refine v_aaloadR (k1 := 5 + r.toNat) dX5_marginOf_18 s_4 (by omega) (rfB9 (by omega)) ?_
      refine v_iload_n dX5_marginOf_19 rfl ?_
      refine v_iaload dX5_marginOf_20 (shB9 (r := r) (by omega)) (by omega) ?_
      rw [cb x (by omega) (by omega)]
      refine v_i2f dX5_marginOf_21 ?_
      refine v_aload_n dX5_marginOf_22 rfl ?_
      refine v_getR (k1 := 15) dX5_marginOf_23 s_1 fX5_30 rfl ?_
      refine v_iload_n dX5_marginOf_26 rfl ?_
      refine v_faload dX5_marginOf_27 s_15 (by omega) ?_
      refine v_fmul dX5_marginOf_28 (fun r28 hr28 => ?_)
      refine v_fadd dX5_marginOf_29 (fun r29 hr29 => ?_)
      refine v_fstore_n (lv' := [_, _, _, _]) dX5_marginOf_30 (Nat.le_of_ble_eq_true rfl) rfl rfl ?_
      refine v_iinc (lv' := [_, _, _, _]) dX5_marginOf_31 rfl (Nat.le_of_ble_eq_true rfl) rfl rfl ?_
      refine v_goto (tgt := 4) dX5_marginOf_34 (by decide) ?_
      refine ih (x + 1) _ (by omega) (by omega) ?_
      rw [show (x + 1).toNat = x.toNat + 1 by omega, mg9, show ((x.toNat : Nat) : Int) = x by omega]
      exact al32_tr hr29 (al32_add hs hr28)
  refine v_fconst0 dX5_marginOf_0 ?_
  refine v_fstore_n (lv' := [_, _, _, _]) dX5_marginOf_1 (Nat.le_of_ble_eq_true rfl) rfl rfl ?_
  refine v_iconst dX5_marginOf_2 ?_
  refine v_istore_n (lv' := [_, _, _, _]) dX5_marginOf_3 (Nat.le_of_ble_eq_true rfl) rfl rfl ?_
  exact K n.toNat 0 _ (by omega) (by omega) (alike32_refl _)
theorem c_X5_widenMargin {r : Int} {P : S9 → Prop} (hn : 1 ≤ n ∧ n ≤ 6) (hr : 0 ≤ r ∧ r < R ∧ R ≤ 8) (c0 : gI σ 1 0 = n) (cb : ∀ x, 0 ≤ x → x < n → gI σ (5 + r.toNat) x = bal9 (lf r) (rg r) x) (bb : ∀ x, -6 ≤ bal9 (lf r) (rg r) x ∧ bal9 (lf r) (rg r) x ≤ 6) (hap : ∀ x, 0 ≤ x → x < 8 → apOK (gF σ 15 x)) (h : P (aF σ 15 (wdA (bl9 lf rg r) n (gF σ 15)))) : Cc d mX5_widenMargin [.ref 1, .int (iI r)] σ (QV P) := by
  refine Cc_of (by decide +kernel) (fun _ => Nat.le_of_ble_eq_true rfl) rfl (lv := [_, _, _, _]) ?_
  have K : ∀ (m : Nat) (x : Int), 0 ≤ x → x + m = n → ∀ l3, Vv d mX5_widenMargin 2 [.ref 1, .int (iI r), .int (iI x), l3] [] (aF σ 15 (wdA (bl9 lf rg r) x (gF σ 15))) (QV P) := by
    intro m
    induction m with
    | zero =>
      intro x hx hm l3
      refine v_iload_n dX5_widenMargin_2 rfl ?_
      refine v_aload_n dX5_widenMargin_3 rfl ?_
      refine v_getI (ji := 0) dX5_widenMargin_4 s_1 fX5_38 rfl ?_
      rw [gI_aF, c0]
      refine v_icmp_ge (tgt := 53) dX5_widenMargin_7 (by decide) (by omega) (fun q7 => ?_) (fun q7 => absurd q7 (by omega))
      exact v_return dX5_widenMargin_53 rfl (by rw [show x = n by omega]; exact h)
    | succ m ih =>
      intro x hx hm l3
      have e0 : gF (aF σ 15 (wdA (bl9 lf rg r) x (gF σ 15))) 15 x = gF σ 15 x := by rw [gF_aF_eq]; exact if_neg (by omega)
      have nn := wd_nn (bb x).1 (bb x).2 (hap x hx (by omega))
      have es : ∀ a, a = wd9 (bal9 (lf r) (rg r) x) (gF σ 15 x) → sF (aF σ 15 (wdA (bl9 lf rg r) x (gF σ 15))) 15 x a = aF σ 15 (wdA (bl9 lf rg r) (x + 1) (gF σ 15)) := by
        intro a ha
        refine S9ext (fun _ => rfl) (fun _ => rfl) (fun k => ?_) (fun _ => rfl)
        by_cases e : k = 15
        · subst e
          rw [gF_aF_eq, gF_aF_eq, gF_aF_eq]
          funext y
          by_cases e2 : y = x
          · subst e2
            rw [up9_eq, ha]
            exact (if_pos (by omega)).symm
          · rw [up9_ne e2]
            unfold wdA
            by_cases e3 : 0 ≤ y ∧ y < x
            · rw [if_pos e3, if_pos (by omega)]
            · rw [if_neg e3, if_neg (by omega)]
        · rw [gF_aF_ne e, gF_aF_ne e, gF_aF_ne e]
      refine v_iload_n dX5_widenMargin_2 rfl ?_
      refine v_aload_n dX5_widenMargin_3 rfl ?_
      refine v_getI (ji := 0) dX5_widenMargin_4 s_1 fX5_38 rfl ?_
      rw [gI_aF, c0]
      refine v_icmp_ge (tgt := 53) dX5_widenMargin_7 (by decide) (by omega) (fun q7 => absurd q7 (by omega)) (fun q7 => ?_)
      refine v_aload_n dX5_widenMargin_10 rfl ?_
      refine v_getR (k1 := 15) dX5_widenMargin_11 s_1 fX5_30 rfl ?_
      refine v_iload_n dX5_widenMargin_14 rfl ?_
      refine v_faload dX5_widenMargin_15 s_15 (by omega) ?_
      refine v_aload_n dX5_widenMargin_16 rfl ?_
      refine v_getR (k1 := 4) dX5_widenMargin_17 s_1 fX5_20 rfl ?_
      refine v_iload_n dX5_widenMargin_20 rfl ?_
      refine v_aaloadR (k1 := 5 + r.toNat) dX5_widenMargin_21 s_4 (by omega) (rfB9 (by omega)) ?_
      refine v_iload_n dX5_widenMargin_22 rfl ?_
      refine v_iaload dX5_widenMargin_23 (shB9 (r := r) (by omega)) (by omega) ?_
      rw [gI_aF, cb x (by omega) (by omega), e0]
      refine v_i2f dX5_widenMargin_24 ?_
      refine v_ldcf dX5_widenMargin_25 wX5_105 ?_
      refine v_fmul dX5_widenMargin_27 (fun r27 hr27 => ?_)
      have hr27 := al32 hr27 nn.1
      subst hr27
      refine v_fadd dX5_widenMargin_28 (fun r28 hr28 => ?_)
      have hr28 := al32 hr28 nn.2
      subst hr28
      refine v_fstore_n (lv' := [_, _, _, _]) dX5_widenMargin_29 (Nat.le_of_ble_eq_true rfl) rfl rfl ?_
      refine v_aload_n dX5_widenMargin_30 rfl ?_
      refine v_getR (k1 := 15) dX5_widenMargin_31 s_1 fX5_30 rfl ?_
      refine v_iload_n dX5_widenMargin_34 rfl ?_
      refine v_fload_n dX5_widenMargin_35 rfl ?_
      refine v_fconst0 dX5_widenMargin_36 ?_
      refine v_fcmp_ge (tgt := 45) dX5_widenMargin_37 dX5_widenMargin_38 (by decide) (fun q37 => ?_) (fun q37 => ?_)
      · refine v_fload_n dX5_widenMargin_45 rfl ?_
        refine v_fastore dX5_widenMargin_46 s_15 (by omega) ?_
        refine v_iinc (lv' := [_, _, _, _]) dX5_widenMargin_47 rfl (Nat.le_of_ble_eq_true rfl) rfl rfl ?_
        refine v_goto (tgt := 2) dX5_widenMargin_50 (by decide) ?_
        rw [es _ (by first | exact (if_neg (cvg.mp q37)).symm | exact (if_pos (Classical.byContradiction (fun z => q37 (cvg.mpr z)))).symm)]
        exact ih (x + 1) (by omega) (by omega) _
      · refine v_fconst0 dX5_widenMargin_41 ?_
        refine v_goto (tgt := 46) dX5_widenMargin_42 (by decide) ?_
        refine v_fastore dX5_widenMargin_46 s_15 (by omega) ?_
        refine v_iinc (lv' := [_, _, _, _]) dX5_widenMargin_47 rfl (Nat.le_of_ble_eq_true rfl) rfl rfl ?_
        refine v_goto (tgt := 2) dX5_widenMargin_50 (by decide) ?_
        rw [es _ (by first | exact (if_neg (cvg.mp q37)).symm | exact (if_pos (Classical.byContradiction (fun z => q37 (cvg.mpr z)))).symm)]
        exact ih (x + 1) (by omega) (by omega) _
  have z0 : aF σ 15 (wdA (bl9 lf rg r) 0 (gF σ 15)) = σ := by
    refine S9ext (fun _ => rfl) (fun _ => rfl) (fun k => ?_) (fun _ => rfl)
    by_cases e : k = 15
    · subst e
      rw [gF_aF_eq]
      funext y
      exact if_neg (by omega)
    · rw [gF_aF_ne e]
  refine v_iconst dX5_widenMargin_0 ?_
  refine v_istore_n (lv' := [_, _, _, _]) dX5_widenMargin_1 (Nat.le_of_ble_eq_true rfl) rfl rfl ?_
  have := K n.toNat 0 (by omega) (by omega) .null
  rw [z0] at this
  exact this
end
