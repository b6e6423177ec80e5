theorem tb9_fold {i : Nat} : ∀ (xs : List Int) (s : Nat), (xs.foldl (fun s x => s ||| 2 ^ x.toNat) s).testBit i = true ↔ s.testBit i = true ∨ ∃ x ∈ xs, x.toNat = i
  | [], s => by simp
  | y :: ys, s => by
    rw [List.foldl_cons, tb9_fold ys, Nat.testBit_or, Nat.testBit_two_pow, Bool.or_eq_true, decide_eq_true_iff]
    constructor
    · rintro ((h | h) | ⟨x, h1, h2⟩)
      · exact Or.inl h
      · exact Or.inr ⟨y, List.mem_cons_self, h⟩
      · exact Or.inr ⟨x, List.mem_cons_of_mem _ h1, h2⟩
    · rintro (h | ⟨x, h1, h2⟩)
      · exact Or.inl (Or.inl h)
      · rcases List.mem_cons.mp h1 with rfl | h3
        · exact Or.inl (Or.inr h2)
        · exact Or.inr ⟨x, h3, h2⟩
theorem tb9 {i : Nat} {xs : List Int} : (bs9 xs).testBit i = true ↔ ∃ x ∈ xs, x.toNat = i := by
  unfold bs9
  rw [tb9_fold, Nat.zero_testBit]
  simp
theorem bs9_lt6 {xs : List Int} (h : ∀ x ∈ xs, 0 ≤ x ∧ x < 6) : bs9 xs < 64 := by
  rw [show (64 : Nat) = 2 ^ 6 from rfl]
  refine Nat.lt_pow_two_of_testBit _ (fun i hi => ?_)
  cases e : (bs9 xs).testBit i with
  | false => rfl
  | true =>
    obtain ⟨x, h1, h2⟩ := tb9.mp e
    have := h x h1
    omega
theorem ior64 {a b : Nat} (ha : a < 64) (hb : b < 64) : iI (a : Int) ||| iI (b : Int) = iI ((a ||| b : Nat) : Int) := by
  have : ∀ a b : Fin 64, iI ((a.1 : Nat) : Int) ||| iI ((b.1 : Nat) : Int) = iI ((a.1 ||| b.1 : Nat) : Int) := by decide +kernel
  exact this ⟨a, ha⟩ ⟨b, hb⟩
theorem iand64 {a b : Nat} (ha : a < 64) (hb : b < 64) : iI (a : Int) &&& iI (b : Int) = iI ((a &&& b : Nat) : Int) := by
  have : ∀ a b : Fin 64, iI ((a.1 : Nat) : Int) &&& iI ((b.1 : Nat) : Int) = iI ((a.1 &&& b.1 : Nat) : Int) := by decide +kernel
  exact this ⟨a, ha⟩ ⟨b, hb⟩
theorem ishl64 {x : Int} (h : 0 ≤ x ∧ x < 6) : iI 1 <<< (iI x &&& 31) = iI ((2 ^ x.toNat : Nat) : Int) := by
  have : ∀ a : Fin 6, iI 1 <<< (iI ((a.1 : Nat) : Int) &&& 31) = iI ((2 ^ a.1 : Nat) : Int) := by decide +kernel
  have h2 := this ⟨x.toNat, by omega⟩
  rw [show (((⟨x.toNat, by omega⟩ : Fin 6).1 : Nat) : Int) = x by show ((x.toNat : Nat) : Int) = x; omega] at h2
  exact h2
theorem or64 {a b : Nat} (ha : a < 64) (hb : b < 64) : a ||| b < 64 := Nat.or_lt_two_pow (n := 6) ha hb
def pc9 (a : Nat) : Nat := a % 2 + a / 2 % 2 + a / 4 % 2 + a / 8 % 2 + a / 16 % 2 + a / 32 % 2
theorem pc9_le (a : Nat) : pc9 a ≤ 6 := by unfold pc9; omega
theorem pc9_lt {a b : Nat} (ha : a < 64) (hb : b < 64) (h : a ||| b = b) (hne : a ≠ b) : pc9 a < pc9 b := by
  have : ∀ a b : Fin 64, a.1 ||| b.1 = b.1 → a.1 ≠ b.1 → pc9 a.1 < pc9 b.1 := by decide +kernel
  exact this ⟨a, ha⟩ ⟨b, hb⟩ h hne
theorem or_sub {a b : Nat} (h : ∀ i, a.testBit i = true → b.testBit i = true) : a ||| b = b := by
  refine Nat.eq_of_testBit_eq (fun i => ?_)
  rw [Nat.testBit_or]
  cases e : a.testBit i with
  | false => simp
  | true => rw [h i e]; rfl
/-- a set of letters that is closed: what a rule makes of it (or of the letter x) is in it -/
def Clo9 (R : Int) (lf rg : Int → List Int) (x : Int) (S : Nat) : Prop := ∀ r, 0 ≤ r → r < R → (∃ y ∈ lf r, y = x ∨ S.testBit y.toNat = true) → ∀ z ∈ rg r, S.testBit z.toNat = true
/-- the letters that can be reached -/
def Rch9 (R : Int) (lf rg : Int → List Int) (x : Int) (S : Nat) : Prop := Clo9 R lf rg x S ∧ ∀ S', Clo9 R lf rg x S' → ∀ i, S.testBit i = true → S'.testBit i = true
theorem Rch9.uniq {R : Int} {lf rg : Int → List Int} {x : Int} {S T : Nat} (h1 : Rch9 R lf rg x S) (h2 : Rch9 R lf rg x T) : S = T := by
  refine Nat.eq_of_testBit_eq (fun i => ?_)
  cases e : S.testBit i with
  | true => exact (h1.2 T h2.1 i e).symm
  | false =>
    cases e2 : T.testBit i with
    | true => rw [h2.2 S h1.1 i e2] at e; cases e
    | false => rfl
theorem hit9 {xs : List Int} {x : Int} {S : Nat} (hx : ∀ y ∈ xs, 0 ≤ y) (hx0 : 0 ≤ x) : bs9 xs &&& (S ||| 2 ^ x.toNat) ≠ 0 ↔ ∃ y ∈ xs, y = x ∨ S.testBit y.toNat = true := by
  constructor
  · intro h
    obtain ⟨i, hi⟩ := Nat.exists_testBit_of_ne_zero h
    rw [Nat.testBit_and, Bool.and_eq_true, tb9, Nat.testBit_or, Nat.testBit_two_pow, Bool.or_eq_true, decide_eq_true_iff] at hi
    obtain ⟨⟨y, h1, h2⟩, h3⟩ := hi
    refine ⟨y, h1, ?_⟩
    rcases h3 with h3 | h3
    · exact Or.inr (by rw [h2]; exact h3)
    · have := hx y h1
      exact Or.inl (by omega)
  · rintro ⟨y, h1, h2⟩ h
    have h3 : (bs9 xs &&& (S ||| 2 ^ x.toNat)).testBit y.toNat = true := by
      rw [Nat.testBit_and, Bool.and_eq_true, tb9, Nat.testBit_or, Nat.testBit_two_pow, Bool.or_eq_true, decide_eq_true_iff]
      refine ⟨⟨y, h1, rfl⟩, ?_⟩
      rcases h2 with h2 | h2
      · exact Or.inr (by rw [h2])
      · exact Or.inl h2
    rw [h, Nat.zero_testBit] at h3
    cases h3
section
variable {d : Nat} {n R : Int} {lf rg : Int → List Int} {wt lev : Int → Int} {stt : Int} {ap : Int → UInt32} {str : List Int} {σ : S9}
theorem c_X9_reachableLetters {x : Int} {P : Int → S9 → Prop} (v : Va n R lf rg wt lev stt ap str) (c : SyC σ 1 n R lf rg wt lev stt ap str) (hx : (-2147483648 ≤ x ∧ x < 2147483648)) (h1 : ¬ (0 ≤ x ∧ x < n) → P (-2) σ) (h2 : 0 ≤ x ∧ x < n → ∀ S : Nat, Rch9 R lf rg x S → P S σ) : Cc (d + 3) mX9_reachableLetters [.ref 0, .int (iI x)] σ (QI P) := by
  have hn := v.1
  have hR := v.2.1
  refine Cc_of (by decide +kernel) (fun _ => Nat.le_of_ble_eq_true rfl) rfl (lv := [_, _, _, _, _]) ?_
  have l6 : ∀ r, 0 ≤ r → r < R → (∀ y ∈ lf r, 0 ≤ y ∧ y < 6) ∧ ∀ y ∈ rg r, 0 ≤ y ∧ y < 6 := fun r a b => ⟨fun y hy => by have := (v.2.2.1 r a b).1.1 y hy; omega, fun y hy => by have := (v.2.2.1 r a b).2.2.1 y hy; omega⟩
  have K2 : 0 ≤ x ∧ x < n → ∀ (k : Int) (S0 : Nat), S0 < 64 → (∀ S : Nat, S < 64 → (∀ S', Clo9 R lf rg x S' → ∀ i, S.testBit i = true → S'.testBit i = true) → (Clo9 R lf rg x S ∨ pc9 S0 < pc9 S) → ∀ l4, Vv (d + 3) mX9_reachableLetters 83 [.ref 0, .int (iI x), .int (iI S), .int (iI k), l4] [] σ (QI P)) → ∀ (m : Nat) (r : Int) (S : Nat), 0 ≤ r → r + m = R → S < 64 → (∀ S', Clo9 R lf rg x S' → ∀ i, S.testBit i = true → S'.testBit i = true) → (∀ i, S0.testBit i = true → S.testBit i = true) → (S = S0 → ∀ s, 0 ≤ s → s < r → (∃ y ∈ lf s, y = x ∨ S.testBit y.toNat = true) → ∀ z ∈ rg s, S.testBit z.toNat = true) → Vv (d + 3) mX9_reachableLetters 27 [.ref 0, .int (iI x), .int (iI S), .int (iI k), .int (iI r)] [] σ (QI P) := by
    intro hxn k S0 hS0 hend m
    induction m with
    | zero =>
      intro r S hr hm hS hmin hsub hcl
      refine v_iload dX9_reachableLetters_27 rfl ?_
      refine v_aload_n dX9_reachableLetters_29 rfl ?_
      refine v_getR (k1 := 1) dX9_reachableLetters_30 s_0 fX9_14 rfl ?_
      refine v_getI (ji := 1) dX9_reachableLetters_33 s_1 fX9_93 rfl ?_
      rw [c.2.1]
      refine v_icmp_ge (tgt := 83) dX9_reachableLetters_36 (by decide) (by omega) (fun q36 => ?_) (fun q36 => absurd q36 (by omega))
      exact hend S hS hmin (if e : S = S0 then Or.inl (fun s a b => hcl e s a (by omega)) else Or.inr (pc9_lt hS0 hS (or_sub hsub) (fun q => e q.symm))) _
    | succ m ih =>
      intro r S hr hm hS hmin hsub hcl
      have z : 0 ≤ r ∧ r < R := by omega
      have la := bs9_lt6 (l6 r z.1 z.2).1
      have lb := bs9_lt6 (l6 r z.1 z.2).2
      have lx : 2 ^ x.toNat < 64 := (Nat.pow_lt_pow_right (by decide) (by omega) : 2 ^ x.toNat < 2 ^ 6)
      have lab : bs9 (lf r) &&& (S ||| 2 ^ x.toNat) < 64 := Nat.and_lt_two_pow (n := 6) _ (or64 hS lx)
      have hh := hit9 (S := S) (fun y hy => ((l6 r z.1 z.2).1 y hy).1) hxn.1
      refine v_iload dX9_reachableLetters_27 rfl ?_
      refine v_aload_n dX9_reachableLetters_29 rfl ?_
      refine v_getR (k1 := 1) dX9_reachableLetters_30 s_0 fX9_14 rfl ?_
      refine v_getI (ji := 1) dX9_reachableLetters_33 s_1 fX9_93 rfl ?_
      rw [c.2.1]
      refine v_icmp_ge (tgt := 83) dX9_reachableLetters_36 (by decide) (by omega) (fun q36 => absurd q36 (by omega)) (fun q36 => ?_)
      refine v_aload_n dX9_reachableLetters_39 rfl ?_
      refine v_getR (k1 := 1) dX9_reachableLetters_40 s_0 fX9_14 rfl ?_
      refine v_getR (k1 := 2) dX9_reachableLetters_43 s_1 fX9_117 rfl ?_
      refine v_iload dX9_reachableLetters_46 rfl ?_
      refine v_laload dX9_reachableLetters_48 s_2 (by omega) ?_
      rw [c.l z]
      refine v_callSi1 dX9_reachableLetters_49 kX9_188 (Nat.le_of_ble_eq_true rfl) (c_X8_lettersIn (v.sl z) ?_)
      refine v_iload_n dX9_reachableLetters_52 rfl ?_
      refine v_iconst dX9_reachableLetters_53 ?_
      refine v_iload_n dX9_reachableLetters_54 rfl ?_
      refine v_ishl dX9_reachableLetters_55 (ishl64 (by omega)) ?_
      refine v_ior dX9_reachableLetters_56 (ior64 hS lx) ?_
      refine v_iand dX9_reachableLetters_57 (iand64 la (or64 hS lx)) ?_
      refine v_if_eq (tgt := 77) dX9_reachableLetters_58 (by decide) (by omega) (fun q58 => ?_) (fun q58 => ?_)
      · refine v_iinc (lv' := [_, _, _, _, _]) dX9_reachableLetters_77 rfl (Nat.le_of_ble_eq_true rfl) rfl rfl ?_
        refine v_goto (tgt := 27) dX9_reachableLetters_80 (by decide) ?_
        first
        | exact ih (r + 1) S (by omega) (by omega) hS hmin hsub (fun e s a b => if q : s = r then (fun y => by rw [q] at y; exact absurd (hh.mpr y) (by omega)) else hcl e s a (by omega))
        | exact ih (r + 1) (S ||| bs9 (rg r)) (by omega) (by omega) (or64 hS lb) (fun S' hC i hi => by
        rw [Nat.testBit_or, Bool.or_eq_true] at hi
        rcases hi with hi | hi
        · exact hmin S' hC i hi
        · obtain ⟨y, y1, y2⟩ := hh.mp (by omega)
          obtain ⟨w, w1, w2⟩ := tb9.mp hi
          rw [← w2]
          exact hC r z.1 z.2 ⟨y, y1, y2.imp id (hmin S' hC _)⟩ w w1) (fun i hi => by rw [Nat.testBit_or, hsub i hi]; rfl) (fun e s a b => by
        have e0 : S = S0 := Nat.eq_of_testBit_eq (fun i => by
          cases q : S.testBit i with
          | true => rw [← e, Nat.testBit_or, q]; rfl
          | false =>
            cases q2 : S0.testBit i with
            | true => rw [hsub i q2] at q; cases q
            | false => rfl)
        by_cases q : s = r
        · intro _ w w1
          rw [Nat.testBit_or, Bool.or_eq_true]
          exact Or.inr (tb9.mpr ⟨w, by rw [← q]; exact w1, rfl⟩)
        · have h9 := hcl e0 s a (by omega)
          rw [e]
          rw [e0] at h9
          exact h9)
      · refine v_iload_n dX9_reachableLetters_61 rfl ?_
        refine v_aload_n dX9_reachableLetters_62 rfl ?_
        refine v_getR (k1 := 1) dX9_reachableLetters_63 s_0 fX9_14 rfl ?_
        refine v_getR (k1 := 3) dX9_reachableLetters_66 s_1 fX9_121 rfl ?_
        refine v_iload dX9_reachableLetters_69 rfl ?_
        refine v_laload dX9_reachableLetters_71 s_3 (by omega) ?_
        rw [c.r z]
        refine v_callSi1 dX9_reachableLetters_72 kX9_188 (Nat.le_of_ble_eq_true rfl) (c_X8_lettersIn (v.sr z) ?_)
        refine v_ior dX9_reachableLetters_75 (ior64 hS lb) ?_
        refine v_istore_n (lv' := [_, _, _, _, _]) dX9_reachableLetters_76 (Nat.le_of_ble_eq_true rfl) rfl rfl ?_
        refine v_iinc (lv' := [_, _, _, _, _]) dX9_reachableLetters_77 rfl (Nat.le_of_ble_eq_true rfl) rfl rfl ?_
        refine v_goto (tgt := 27) dX9_reachableLetters_80 (by decide) ?_
        first
        | exact ih (r + 1) S (by omega) (by omega) hS hmin hsub (fun e s a b => if q : s = r then (fun y => by rw [q] at y; exact absurd (hh.mpr y) (by omega)) else hcl e s a (by omega))
        | exact ih (r + 1) (S ||| bs9 (rg r)) (by omega) (by omega) (or64 hS lb) (fun S' hC i hi => by
        rw [Nat.testBit_or, Bool.or_eq_true] at hi
        rcases hi with hi | hi
        · exact hmin S' hC i hi
        · obtain ⟨y, y1, y2⟩ := hh.mp (by omega)
          obtain ⟨w, w1, w2⟩ := tb9.mp hi
          rw [← w2]
          exact hC r z.1 z.2 ⟨y, y1, y2.imp id (hmin S' hC _)⟩ w w1) (fun i hi => by rw [Nat.testBit_or, hsub i hi]; rfl) (fun e s a b => by
        have e0 : S = S0 := Nat.eq_of_testBit_eq (fun i => by
          cases q : S.testBit i with
          | true => rw [← e, Nat.testBit_or, q]; rfl
          | false =>
            cases q2 : S0.testBit i with
            | true => rw [hsub i q2] at q; cases q
            | false => rfl)
        by_cases q : s = r
        · intro _ w w1
          rw [Nat.testBit_or, Bool.or_eq_true]
          exact Or.inr (tb9.mpr ⟨w, by rw [← q]; exact w1, rfl⟩)
        · have h9 := hcl e0 s a (by omega)
          rw [e]
          rw [e0] at h9
          exact h9)
  have K1 : 0 ≤ x ∧ x < n → ∀ (m : Nat) (k : Int) (S : Nat), 0 ≤ k → k + m = 7 → S < 64 → (∀ S', Clo9 R lf rg x S' → ∀ i, S.testBit i = true → S'.testBit i = true) → (Clo9 R lf rg x S ∨ k ≤ pc9 S) → ∀ l4, Vv (d + 3) mX9_reachableLetters 18 [.ref 0, .int (iI x), .int (iI S), .int (iI k), l4] [] σ (QI P) := by
    intro hxn m
    induction m with
    | zero =>
      intro k S hk hm hS hmin hC l4
      have := pc9_le S
      refine v_iload_n dX9_reachableLetters_18 rfl ?_
      refine v_bipush dX9_reachableLetters_19 (by decide) ?_
      refine v_icmp_gt (tgt := 89) dX9_reachableLetters_21 (by decide) (by omega) (fun q21 => ?_) (fun q21 => absurd q21 (by omega))
      refine v_iload_n dX9_reachableLetters_89 rfl ?_
      exact v_ireturn dX9_reachableLetters_90 rfl (h2 hxn S ⟨hC.resolve_right (by omega), hmin⟩)
    | succ m ih =>
      intro k S hk hm hS hmin hC l4
      refine v_iload_n dX9_reachableLetters_18 rfl ?_
      refine v_bipush dX9_reachableLetters_19 (by decide) ?_
      refine v_icmp_gt (tgt := 89) dX9_reachableLetters_21 (by decide) (by omega) (fun q21 => absurd q21 (by omega)) (fun q21 => ?_)
      refine v_iconst dX9_reachableLetters_24 ?_
      refine v_istore (lv' := [_, _, _, _, _]) dX9_reachableLetters_25 (Nat.le_of_ble_eq_true rfl) rfl rfl ?_
      refine K2 hxn k S hS (fun T hT hminT hCT l4 => ?_) R.toNat 0 S (by omega) (by omega) hS hmin (fun i hi => hi) (fun _ s a b => by omega)
      refine v_iinc (lv' := [_, _, _, _, _]) dX9_reachableLetters_83 rfl (Nat.le_of_ble_eq_true rfl) rfl rfl ?_
      refine v_goto (tgt := 18) dX9_reachableLetters_86 (by decide) ?_
      exact ih (k + 1) T (by omega) (by omega) hT hminT (hCT.imp id (fun q => hC.elim (fun hC => by by_cases e : T = S; (rw [e] at q; omega); (have := pc9_lt hT hS (or_sub (hminT S hC)) e; omega)) (fun hC => by omega))) _
  refine v_aload_n dX9_reachableLetters_0 rfl ?_
  refine v_getR (k1 := 1) dX9_reachableLetters_1 s_0 fX9_14 rfl ?_
  refine v_iload_n dX9_reachableLetters_4 rfl ?_
  refine v_callVi1 dX9_reachableLetters_5 kX9_128 s_1 (Nat.le_of_ble_eq_true rfl) (c_X5_hasLetter c.1 (by omega) hx (fun z => ?_) (fun z => ?_))
  · refine v_if_ne (tgt := 14) dX9_reachableLetters_8 (by decide) (by decide) (fun q8 => ?_) (fun q8 => absurd q8 (by decide))
    refine v_iconst dX9_reachableLetters_14 ?_
    refine v_istore_n (lv' := [_, _, _, _, _]) dX9_reachableLetters_15 (Nat.le_of_ble_eq_true rfl) rfl rfl ?_
    refine v_iconst dX9_reachableLetters_16 ?_
    refine v_istore_n (lv' := [_, _, _, _, _]) dX9_reachableLetters_17 (Nat.le_of_ble_eq_true rfl) rfl rfl ?_
    exact K1 z 7 0 0 (by omega) (by omega) (by decide) (fun _ _ i hi => by rw [Nat.zero_testBit] at hi; cases hi) (Or.inr (by omega)) _
  · refine v_if_ne (tgt := 14) dX9_reachableLetters_8 (by decide) (by decide) (fun q8 => absurd q8 (by decide)) (fun q8 => ?_)
    refine v_bipush dX9_reachableLetters_11 (by decide) ?_
    exact v_ireturn dX9_reachableLetters_13 rfl (h1 z)
end
