theorem nodup_gtD {ws : List (List Int)} (h : ws.Nodup) {i j : Nat} (hi : i < ws.length) (hj : j < ws.length) (e : ws.getD i [] = ws.getD j []) : i = j := by
  rw [List.getD_eq_getElem?_getD, List.getElem?_eq_getElem hi, List.getD_eq_getElem?_getD, List.getElem?_eq_getElem hj] at e
  exact (List.getElem_inj h).mp e
/-! ===== all strings that come from one ===== -/
def ins9 (g : List (List Int)) (y : List Int) : Option (List (List Int)) := if y ∈ g then some g else if g.length < 200 then some (g ++ [y]) else none
def st9 (g : List (List Int)) : Option (List Int) → Option (List (List Int))
  | none => some g
  | some y => ins9 g y
def xr9 (lf rg : Int → List Int) (w : List Int) (p : Int) (g : List (List Int)) : Nat → Option (List (List Int))
  | 0 => some g
  | r + 1 => (xr9 lf rg w p g r).bind (fun g' => st9 g' (stp9 (lf r) (rg r) w p))
def xp9 (lf rg : Int → List Int) (R : Int) (w : List Int) (g : List (List Int)) : Nat → Option (List (List Int))
  | 0 => some g
  | p + 1 => (xp9 lf rg R w g p).bind (fun g' => xr9 lf rg w p g' R.toNat)
def bf9 (lf rg : Int → List Int) (R : Int) (s : List Int) : Nat → Option (List (List Int))
  | 0 => some [s]
  | k + 1 => (bf9 lf rg R s k).bind (fun g => if k < g.length then xp9 lf rg R (g.getD k []) g (g.getD k []).length else some g)
/-- how many steps lead from w to y: by rules, by positions, all -/
def mr9 (lf rg : Int → List Int) (w : List Int) (p : Int) (y : List Int) : Nat → Int
  | 0 => 0
  | r + 1 => mr9 lf rg w p y r + (if stp9 (lf r) (rg r) w p = some y then 1 else 0)
def mp9 (lf rg : Int → List Int) (R : Int) (w y : List Int) : Nat → Int
  | 0 => 0
  | p + 1 => mp9 lf rg R w y p + mr9 lf rg w p y R.toNat
def m9 (lf rg : Int → List Int) (R : Int) (w y : List Int) : Int := mp9 lf rg R w y w.length
def mi9 (lf rg : Int → List Int) (R : Int) (g : List (List Int)) (y : List Int) : Nat → Int
  | 0 => 0
  | k + 1 => mi9 lf rg R g y k + m9 lf rg R (g.getD k []) y
/-- what was found: strings g, steps into each cn -/
def CI9 (σ : S9) (n : Int) (g : List (List Int)) (cn : List Int → Int) : Prop := HT9 σ g ∧ (∀ j : Nat, j < g.length → gI σ 43 j = cn (g.getD j []) ∧ gI σ 40 j = 0) ∧ (∀ z, z ∉ g → cn z = 0) ∧ ∀ z ∈ g, OkL n 12 z
theorem CI9.congr {σ : S9} {n : Int} {g : List (List Int)} {f h : List Int → Int} (H : CI9 σ n g f) (e : ∀ z, f z = h z) : CI9 σ n g h := by
  rw [show h = f from funext (fun z => (e z).symm)]
  exact H
theorem ins9_mono {g g' : List (List Int)} {y : List Int} (h : ins9 g y = some g') : ∃ l, g' = g ++ l := by
  unfold ins9 at h
  split at h
  · cases h; exact ⟨[], (List.append_nil _).symm⟩
  · split at h
    · cases h; exact ⟨[y], rfl⟩
    · cases h
theorem st9_mono {g g' : List (List Int)} {o : Option (List Int)} (h : st9 g o = some g') : ∃ l, g' = g ++ l := by
  cases o with
  | none => cases h; exact ⟨[], (List.append_nil _).symm⟩
  | some y => exact ins9_mono h
theorem xr9_mono {lf rg : Int → List Int} {w : List Int} {p : Int} {g : List (List Int)} : ∀ (r : Nat) {g' : List (List Int)}, xr9 lf rg w p g r = some g' → ∃ l, g' = g ++ l
  | 0, _, h => by cases h; exact ⟨[], (List.append_nil _).symm⟩
  | r + 1, g', h => by
    unfold xr9 at h
    cases e : xr9 lf rg w p g r with
    | none => rw [e] at h; cases h
    | some h1 =>
      rw [e] at h
      obtain ⟨l1, e1⟩ := xr9_mono r e
      obtain ⟨l2, e2⟩ := st9_mono h
      exact ⟨l1 ++ l2, by rw [e2, e1, List.append_assoc]⟩
theorem xp9_mono {lf rg : Int → List Int} {R : Int} {w : List Int} {g : List (List Int)} : ∀ (p : Nat) {g' : List (List Int)}, xp9 lf rg R w g p = some g' → ∃ l, g' = g ++ l
  | 0, _, h => by cases h; exact ⟨[], (List.append_nil _).symm⟩
  | p + 1, g', h => by
    unfold xp9 at h
    cases e : xp9 lf rg R w g p with
    | none => rw [e] at h; cases h
    | some h1 =>
      rw [e] at h
      obtain ⟨l1, e1⟩ := xp9_mono p e
      obtain ⟨l2, e2⟩ := xr9_mono R.toNat h
      exact ⟨l1 ++ l2, by rw [e2, e1, List.append_assoc]⟩
theorem gtD_appl {g l : List (List Int)} {i : Nat} (h : i < g.length) : (g ++ l).getD i [] = g.getD i [] := by
  rw [List.getD_eq_getElem?_getD, List.getD_eq_getElem?_getD, List.getElem?_append_left h]
theorem mi9_app {lf rg : Int → List Int} {R : Int} {g l : List (List Int)} {y : List Int} : ∀ k : Nat, k ≤ g.length → mi9 lf rg R (g ++ l) y k = mi9 lf rg R g y k
  | 0, _ => rfl
  | k + 1, h => by
    unfold mi9
    rw [mi9_app k (by omega), gtD_appl (by omega)]
theorem bf9_stay {lf rg : Int → List Int} {R : Int} {s : List Int} {g : List (List Int)} {k : Nat} (h : bf9 lf rg R s k = some g) (hk : g.length ≤ k) : ∀ j : Nat, bf9 lf rg R s (k + j) = some g
  | 0 => h
  | j + 1 => by
    show (bf9 lf rg R s (k + j)).bind _ = _
    rw [bf9_stay h hk j]
    exact if_neg (show ¬ k + j < g.length by omega)
theorem bf9_none {lf rg : Int → List Int} {R : Int} {s : List Int} {k : Nat} (h : bf9 lf rg R s k = none) : ∀ j : Nat, bf9 lf rg R s (k + j) = none
  | 0 => h
  | j + 1 => by
    show (bf9 lf rg R s (k + j)).bind _ = _
    rw [bf9_none h j]
    rfl
theorem xr9_none {lf rg : Int → List Int} {w : List Int} {p : Int} {g : List (List Int)} {r : Nat} (h : xr9 lf rg w p g r = none) : ∀ j : Nat, xr9 lf rg w p g (r + j) = none
  | 0 => h
  | j + 1 => by
    show (xr9 lf rg w p g (r + j)).bind _ = _
    rw [xr9_none h j]
    rfl
theorem xp9_none {lf rg : Int → List Int} {R : Int} {w : List Int} {g : List (List Int)} {p : Nat} (h : xp9 lf rg R w g p = none) : ∀ j : Nat, xp9 lf rg R w g (p + j) = none
  | 0 => h
  | j + 1 => by
    show (xp9 lf rg R w g (p + j)).bind _ = _
    rw [xp9_none h j]
    rfl
section
variable {d : Nat} {n R : Int} {lf rg : Int → List Int} {wt lev : Int → Int} {stt : Int} {ap : Int → UInt32} {str : List Int} {σ : S9}
theorem c_X0_countStepInto {g : List (List Int)} {y : List Int} {cn : List Int → Int} {P : Int → S9 → Prop} (hn : n ≤ 8) (hy : OkL n 12 y) (H : CI9 σ n g cn) (h0 : ins9 g y = none → P 0 σ) (h1 : ∀ g' τ, ins9 g y = some g' → CI9 τ n g' (fun z => cn z + (if y = z then 1 else 0)) → eq9 (fun k => k < 36 ∨ 44 < k) σ τ → P 1 τ) : Cc (d + 2) mX0_countStepInto [.ref 36, .long (lI (encW y))] σ (QI P) := by
  obtain ⟨HT, H1, H2, H3⟩ := H
  have sy : St y := hy.st hn (by decide)
  have hl := HT.2.1
  refine Cc_of (by decide +kernel) (fun _ => Nat.le_of_ble_eq_true rfl) rfl (lv := [_, _, _, _]) ?_
  refine v_aload_n dX0_countStepInto_0 rfl ?_
  refine v_lload_n dX0_countStepInto_1 rfl ?_
  refine v_callVi1 dX0_countStepInto_2 kX0_90 s_36 (Nat.le_of_ble_eq_true rfl) (c_X0_numberOf sy HT.2 (fun i i1 i2 => ?_) (fun hm => ?_))
  · refine v_istore_n (lv' := [_, _, _, _]) dX0_countStepInto_5 (Nat.le_of_ble_eq_true rfl) rfl rfl ?_
    refine v_iload_n dX0_countStepInto_6 rfl ?_
    refine v_if_ge (tgt := 16) dX0_countStepInto_7 (by decide) (by omega) (fun q7 => ?_) (fun q7 => absurd q7 (by omega))
    refine v_iload_n dX0_countStepInto_16 rfl ?_
    refine v_if_ge (tgt := 22) dX0_countStepInto_17 (by decide) (by omega) (fun q17 => ?_) (fun q17 => absurd q17 (by omega))
    refine v_aload_n dX0_countStepInto_22 rfl ?_
    refine v_getR (k1 := 43) dX0_countStepInto_23 s_36 fX0_35 rfl ?_
    refine v_iload_n dX0_countStepInto_26 rfl ?_
    refine v_dup2 dX0_countStepInto_27 rfl rfl ?_
    refine v_iaload dX0_countStepInto_28 s_43 (by omega) ?_
    refine v_iconst dX0_countStepInto_29 ?_
    rw [(H1 i i1).1]
    refine v_iadd dX0_countStepInto_30 ?_
    refine v_iastore dX0_countStepInto_31 s_43 (by omega) ?_
    refine v_iconst dX0_countStepInto_32 ?_
    refine v_zreturn dX0_countStepInto_33 rfl (by decide) (by
      refine h1 g _ (by unfold ins9; rw [if_pos (i2 ▸ gtD_mem i1)]) ⟨?_, fun j hj => ?_, fun z hz => ?_, H3⟩ (eq9.aI (by omega))
      · unfold HT9
        rw [gI_aI_ne (by decide), gI_aI_ne (by decide)]
        exact HT
      · rw [gI_aI_eq, gI_aI_ne (by decide)]
        refine ⟨?_, (H1 j hj).2⟩
        by_cases e : j = i
        · rw [e, up9_eq, i2]
          show _ = cn y + (if y = y then 1 else 0)
          rw [if_pos rfl]
        · rw [up9_ne (by omega), (H1 j hj).1]
          show _ = cn (g.getD j []) + (if y = g.getD j [] then 1 else 0)
          rw [if_neg (fun q => e (nodup_gtD HT.2.2.2.1 hj i1 (by rw [i2]; exact q.symm))), Int.add_zero]
      · show cn z + (if y = z then 1 else 0) = 0
        rw [H2 z hz, if_neg (fun q => hz (by rw [← q, ← i2]; exact gtD_mem i1))]
        rfl)
  · refine v_istore_n (lv' := [_, _, _, _]) dX0_countStepInto_5 (Nat.le_of_ble_eq_true rfl) rfl rfl ?_
    refine v_iload_n dX0_countStepInto_6 rfl ?_
    refine v_if_ge (tgt := 16) dX0_countStepInto_7 (by decide) (by decide) (fun q7 => absurd q7 (by decide)) (fun q7 => ?_)
    refine v_aload_n dX0_countStepInto_10 rfl ?_
    refine v_lload_n dX0_countStepInto_11 rfl ?_
    refine v_callVi1 dX0_countStepInto_12 kX0_50 s_36 (Nat.le_of_ble_eq_true rfl) (c_X0_add sy HT hm (fun z => ?_) (fun z τ T1 e1 e39 e40 e43 => ?_))
    · refine v_istore_n (lv' := [_, _, _, _]) dX0_countStepInto_15 (Nat.le_of_ble_eq_true rfl) rfl rfl ?_
      refine v_iload_n dX0_countStepInto_16 rfl ?_
      refine v_if_ge (tgt := 22) dX0_countStepInto_17 (by decide) (by decide) (fun q17 => absurd q17 (by decide)) (fun q17 => ?_)
      refine v_iconst dX0_countStepInto_20 ?_
      exact v_zreturn dX0_countStepInto_21 rfl (by decide) (h0 (by unfold ins9; rw [if_neg hm, if_neg (by omega)]))
    · refine v_istore_n (lv' := [_, _, _, _]) dX0_countStepInto_15 (Nat.le_of_ble_eq_true rfl) rfl rfl ?_
      refine v_iload_n dX0_countStepInto_16 rfl ?_
      refine v_if_ge (tgt := 22) dX0_countStepInto_17 (by decide) (by omega) (fun q17 => ?_) (fun q17 => absurd q17 (by omega))
      refine v_aload_n dX0_countStepInto_22 rfl ?_
      refine v_getR (k1 := 43) dX0_countStepInto_23 s_36 fX0_35 rfl ?_
      refine v_iload_n dX0_countStepInto_26 rfl ?_
      refine v_dup2 dX0_countStepInto_27 rfl rfl ?_
      refine v_iaload dX0_countStepInto_28 s_43 (by omega) ?_
      refine v_iconst dX0_countStepInto_29 ?_
      rw [e43, up9_eq]
      refine v_iadd dX0_countStepInto_30 ?_
      refine v_iastore dX0_countStepInto_31 s_43 (by omega) ?_
      refine v_iconst dX0_countStepInto_32 ?_
      refine v_zreturn dX0_countStepInto_33 rfl (by decide) (by
        refine h1 (g ++ [y]) _ (by unfold ins9; rw [if_neg hm, if_pos z]) ⟨?_, fun j hj => ?_, fun x hx => ?_, fun x hx => ?_⟩ ((e1.mono (fun k hk => by omega)).tr (eq9.aI (by omega)))
        · unfold HT9
          rw [gI_aI_ne (by decide), gI_aI_ne (by decide)]
          exact T1
        · rw [gI_aI_eq, gI_aI_ne (by decide), e40, e43]
          rw [List.length_append] at hj
          by_cases e : j = g.length
          · rw [e, up9_eq, up9_eq, gtD_last]
            refine ⟨?_, rfl⟩
            show _ = cn y + (if y = y then 1 else 0)
            rw [H2 y hm, if_pos rfl]
          · have hj2 : j < g.length := by simp at hj; omega
            rw [up9_ne (by omega), up9_ne (by omega), up9_ne (by omega), gtD_app hj2]
            refine ⟨?_, (H1 j hj2).2⟩
            show _ = cn (g.getD j []) + (if y = g.getD j [] then 1 else 0)
            rw [(H1 j hj2).1, if_neg (fun q => hm (by rw [q]; exact gtD_mem hj2)), Int.add_zero]
        · have hx1 : x ∉ g := fun q => hx (List.mem_append_left _ q)
          have hx2 : y ≠ x := fun q => hx (List.mem_append_right _ (by rw [q]; exact List.mem_cons_self))
          show cn x + (if y = x then 1 else 0) = 0
          rw [H2 x hx1, if_neg hx2]
          rfl
        · rcases List.mem_append.mp hx with h | h
          · exact H3 x h
          · rw [List.mem_singleton.mp h]; exact hy)
theorem c_X0_expand {g : List (List Int)} {w : List Int} {cn : List Int → Int} {P : Int → S9 → Prop} (v : Va n R lf rg wt lev stt ap str) (c : SyC σ 1 n R lf rg wt lev stt ap str) (hw : OkL n 12 w) (H : CI9 σ n g cn) (h0 : xp9 lf rg R w g w.length = none → ∀ τ, eq9 (fun k => k < 36 ∨ 44 < k) σ τ → P 0 τ) (h1 : ∀ g' τ, xp9 lf rg R w g w.length = some g' → CI9 τ n g' (fun z => cn z + m9 lf rg R w z) → eq9 (fun k => k < 36 ∨ 44 < k) σ τ → P 1 τ) : Cc (d + 4) mX0_expand [.ref 36, .ref 1, .long (lI (encW w))] σ (QI P) := by
  have hn := v.1
  have hR := v.2.1
  have sw : St w := hw.st (by omega) (by decide)
  have hl := hw.2
  refine Cc_of (by decide +kernel) (fun _ => Nat.le_of_ble_eq_true rfl) rfl (lv := [_, _, _, _, _, _, _, _]) ?_
  have K2 : ∀ (p : Nat) (g1 : List (List Int)), p < w.length → xp9 lf rg R w g p = some g1 → (∀ g2 τ, xp9 lf rg R w g (p + 1) = some g2 → CI9 τ n g2 (fun z => cn z + mp9 lf rg R w z (p + 1)) → eq9 (fun k => k < 36 ∨ 44 < k) σ τ → ∀ l5 l6 l7, Vv (d + 4) mX0_expand 61 [.ref 36, .ref 1, .long (lI (encW w)), .null, .int (iI p), l5, l6, l7] [] τ (QI P)) → ∀ (m : Nat) (r : Nat) (g2 : List (List Int)) (τ : S9), r + m = R.toNat → xr9 lf rg w p g1 r = some g2 → CI9 τ n g2 (fun z => cn z + mp9 lf rg R w z p + mr9 lf rg w p z r) → eq9 (fun k => k < 36 ∨ 44 < k) σ τ → ∀ l6 l7, Vv (d + 4) mX0_expand 15 [.ref 36, .ref 1, .long (lI (encW w)), .null, .int (iI p), .int (iI r), l6, l7] [] τ (QI P) := by
    intro p g1 hp hg1 hend m
    induction m with
    | zero =>
      intro r g2 τ hr hg2 hC he l6 l7
      have c1 : gI τ 1 1 = R := by rw [(he 1 (by omega)).1]; exact c.2.1
      refine v_iload dX0_expand_15 rfl ?_
      refine v_aload_n dX0_expand_17 rfl ?_
      refine v_getI (ji := 1) dX0_expand_18 s_1 fX0_78 rfl ?_
      rw [c1]
      refine v_icmp_ge (tgt := 61) dX0_expand_21 (by decide) (by omega) (fun q21 => ?_) (fun q21 => absurd q21 (by omega))
      refine hend g2 τ ?_ (hC.congr (fun z => ?_)) he _ _ _
      · show (xp9 lf rg R w g p).bind _ = _
        rw [hg1, ← show r = R.toNat by omega]
        exact hg2
      · rw [mp9, ← show r = R.toNat by omega]; omega
    | succ m ih =>
      intro r g2 τ hr hg2 hC he l6 l7
      have c1 : gI τ 1 1 = R := by rw [(he 1 (by omega)).1]; exact c.2.1
      have c2 := c.eq (by omega) (he.mono (fun k hk => by omega))
      have zr : 0 ≤ (r : Int) ∧ (r : Int) < R := by omega
      refine v_iload dX0_expand_15 rfl ?_
      refine v_aload_n dX0_expand_17 rfl ?_
      refine v_getI (ji := 1) dX0_expand_18 s_1 fX0_78 rfl ?_
      rw [c1]
      refine v_icmp_ge (tgt := 61) dX0_expand_21 (by decide) (by omega) (fun q21 => absurd q21 (by omega)) (fun q21 => ?_)
      refine v_aload_n dX0_expand_24 rfl ?_
      refine v_lload_n dX0_expand_25 rfl ?_
      refine v_iload dX0_expand_26 rfl ?_
      refine v_iload dX0_expand_28 rfl ?_
      refine v_callVl3 dX0_expand_30 kX0_80 s_1 (Nat.le_of_ble_eq_true rfl) (c_X5_stepped (by omega) (c2.l zr) (c2.r zr) sw (v.sl zr) (v.sr zr) (by omega) (fun ys hs => ?_) (fun hs => ?_))
      · have oy : OkL n 12 ys := ⟨fun x hx => by have := stp9_mem hs hx; rcases this with h | h; exact hw.1 x h; exact (v.2.2.1 r zr.1 zr.2).2.2.1 x h, (stp9_St sw (v.sr zr) hs).2⟩
        have sy := (oy.st (by omega) (by decide)).bdW
        refine v_lstore (lv' := [_, _, _, _, _, _, _, _]) dX0_expand_33 (Nat.le_of_ble_eq_true rfl) rfl rfl ?_
        refine v_lload dX0_expand_35 rfl ?_
        refine v_ldc2 dX0_expand_37 wX0_84 ?_
        refine v_lcmp_eq (tgt := 55) dX0_expand_40 dX0_expand_41 (by decide) (by omega) (fun q40 => absurd q40 (by omega)) (fun q40 => ?_)
        refine v_aload_n dX0_expand_44 rfl ?_
        refine v_lload dX0_expand_45 rfl ?_
        refine v_callVi1 dX0_expand_47 kX0_86 s_36 (Nat.le_of_ble_eq_true rfl) (c_X0_countStepInto (by omega) oy hC (fun hi => ?_) (fun g3 υ hi hC3 e3 => ?_))
        · refine v_if_ne (tgt := 55) dX0_expand_50 (by decide) (by decide) (fun q50 => absurd q50 (by decide)) (fun q50 => ?_)
          refine v_iconst dX0_expand_53 ?_
          refine v_zreturn dX0_expand_54 rfl (by decide) (by
            refine h0 ?_ τ he
            have x1 : xr9 lf rg w p g1 (r + 1) = none := by
              show (xr9 lf rg w p g1 r).bind _ = _
              rw [hg2]
              show st9 g2 (stp9 (lf r) (rg r) w p) = none
              rw [hs]
              exact hi
            have x2 : xp9 lf rg R w g (p + 1) = none := by
              show (xp9 lf rg R w g p).bind _ = _
              rw [hg1, show R.toNat = r + 1 + (R.toNat - (r + 1)) by omega]
              exact xr9_none x1 _
            rw [show w.length = p + 1 + (w.length - (p + 1)) by omega]
            exact xp9_none x2 _)
        · refine v_if_ne (tgt := 55) dX0_expand_50 (by decide) (by decide) (fun q50 => ?_) (fun q50 => absurd q50 (by decide))
          refine v_iinc (lv' := [_, _, _, _, _, _, _, _]) dX0_expand_55 rfl (Nat.le_of_ble_eq_true rfl) rfl rfl ?_
          refine v_goto (tgt := 15) dX0_expand_58 (by decide) ?_
          refine ih (r + 1) g3 υ (by omega) ?_ (hC3.congr (fun z => ?_)) (he.tr e3) _ _
          · show (xr9 lf rg w p g1 r).bind _ = _
            rw [hg2]
            show st9 g2 (stp9 (lf r) (rg r) w p) = _
            rw [hs]
            exact hi
          · rw [mr9, hs]
            by_cases e : ys = z
            · rw [if_pos e, if_pos (by rw [e])]; omega
            · rw [if_neg e, if_neg (fun q => e (Option.some.inj q))]; omega
      · refine v_lstore (lv' := [_, _, _, _, _, _, _, _]) dX0_expand_33 (Nat.le_of_ble_eq_true rfl) rfl rfl ?_
        refine v_lload dX0_expand_35 rfl ?_
        refine v_ldc2 dX0_expand_37 wX0_84 ?_
        refine v_lcmp_eq (tgt := 55) dX0_expand_40 dX0_expand_41 (by decide) (by decide) (fun q40 => ?_) (fun q40 => absurd rfl q40)
        refine v_iinc (lv' := [_, _, _, _, _, _, _, _]) dX0_expand_55 rfl (Nat.le_of_ble_eq_true rfl) rfl rfl ?_
        refine v_goto (tgt := 15) dX0_expand_58 (by decide) ?_
        refine ih (r + 1) g2 τ (by omega) ?_ (hC.congr (fun z => ?_)) he _ _
        · show (xr9 lf rg w p g1 r).bind _ = _
          rw [hg2]
          show st9 g2 (stp9 (lf r) (rg r) w p) = _
          rw [hs]
          rfl
        · rw [mr9, hs, if_neg (fun q => by cases q)]; omega
  have K1 : ∀ (m : Nat) (p : Nat) (g1 : List (List Int)) (τ : S9), p + m = w.length → xp9 lf rg R w g p = some g1 → CI9 τ n g1 (fun z => cn z + mp9 lf rg R w z p) → eq9 (fun k => k < 36 ∨ 44 < k) σ τ → ∀ l5 l6 l7, Vv (d + 4) mX0_expand 3 [.ref 36, .ref 1, .long (lI (encW w)), .null, .int (iI p), l5, l6, l7] [] τ (QI P) := by
    intro m
    induction m with
    | zero =>
      intro p g1 τ hp hg hC he l5 l6 l7
      refine v_iload dX0_expand_3 rfl ?_
      refine v_lload_n dX0_expand_5 rfl ?_
      refine v_callSi1 dX0_expand_6 kX0_73 (Nat.le_of_ble_eq_true rfl) (c_X8_sizeOf sw ?_)
      refine v_icmp_ge (tgt := 67) dX0_expand_9 (by decide) (by omega) (fun q9 => ?_) (fun q9 => absurd q9 (by omega))
      refine v_iconst dX0_expand_67 ?_
      exact v_zreturn dX0_expand_68 rfl (by decide) (h1 g1 τ (by rw [← show p = w.length by omega]; exact hg) (by have e : p = w.length := (by omega); rw [e] at hC; exact hC) he)
    | succ m ih =>
      intro p g1 τ hp hg hC he l5 l6 l7
      refine v_iload dX0_expand_3 rfl ?_
      refine v_lload_n dX0_expand_5 rfl ?_
      refine v_callSi1 dX0_expand_6 kX0_73 (Nat.le_of_ble_eq_true rfl) (c_X8_sizeOf sw ?_)
      refine v_icmp_ge (tgt := 67) dX0_expand_9 (by decide) (by omega) (fun q9 => absurd q9 (by omega)) (fun q9 => ?_)
      refine v_iconst dX0_expand_12 ?_
      refine v_istore (lv' := [_, _, _, _, _, _, _, _]) dX0_expand_13 (Nat.le_of_ble_eq_true rfl) rfl rfl ?_
      refine K2 p g1 (by omega) hg (fun g2 υ hg2 hC2 he2 l5 l6 l7 => ?_) R.toNat 0 g1 τ (by omega) rfl (hC.congr (fun z => by rw [mr9]; omega)) he _ _
      refine v_iinc (lv' := [_, _, _, _, _, _, _, _]) dX0_expand_61 rfl (Nat.le_of_ble_eq_true rfl) rfl rfl ?_
      refine v_goto (tgt := 3) dX0_expand_64 (by decide) ?_
      exact ih (p + 1) g2 υ (by omega) hg2 hC2 he2 _ _ _
  refine v_iconst dX0_expand_0 ?_
  refine v_istore (lv' := [_, _, _, _, _, _, _, _]) dX0_expand_1 (Nat.le_of_ble_eq_true rfl) rfl rfl ?_
  exact K1 w.length 0 g σ (by omega) rfl (H.congr (fun z => by rw [mp9]; omega)) eq9.rf _ _ _
end
