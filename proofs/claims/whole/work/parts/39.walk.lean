theorem nz9_le {f : Int → Int} : ∀ k : Nat, 0 ≤ nz9 f k ∧ nz9 f k ≤ k
  | 0 => by unfold nz9; omega
  | k + 1 => by
    have := @nz9_le f k
    unfold nz9
    split <;> omega
theorem nz9_full {f : Int → Int} : ∀ k : Nat, nz9 f k = k → ∀ p : Int, 0 ≤ p → p < k → f p ≠ 0
  | 0, _, p, a, b => by omega
  | k + 1, h, p, a, b => by
    have h1 := @nz9_le f k
    unfold nz9 at h
    by_cases e : f k = 0
    · rw [if_neg (fun q => q e)] at h; omega
    · rw [if_pos e] at h
      by_cases e2 : p = k
      · rw [e2]; exact e
      · exact nz9_full k (by omega) p a (by omega)
/-- steps into y from strings that were not walked from -/
def uw9 (lf rg : Int → List Int) (R : Int) (g : List (List Int)) (W : Int → Int) (y : List Int) : Nat → Int
  | 0 => 0
  | k + 1 => uw9 lf rg R g W y k + (if W k ≠ 0 then 0 else m9 lf rg R (g.getD k []) y)
section
variable {lf rg : Int → List Int} {R : Int} {g : List (List Int)} {W : Int → Int} {y : List Int}
theorem m9_nn {w : List Int} : 0 ≤ m9 lf rg R w y := (mp9_nn w.length).1
theorem m9_le {w : List Int} (hw : w.length ≤ 12) (hR : R ≤ 8) : m9 lf rg R w y ≤ 96 := by
  have h1 := (mp9_nn (lf := lf) (rg := rg) (R := R) (w := w) (y := y) w.length).2
  have h2 : (w.length : Int) * R.toNat ≤ 12 * 8 := Int.mul_le_mul (by omega) (by omega) (by omega) (by decide)
  unfold m9
  omega
theorem uw9_nn : ∀ k : Nat, 0 ≤ uw9 lf rg R g W y k
  | 0 => by unfold uw9; omega
  | k + 1 => by
    have h1 := @uw9_nn k
    have h2 := @m9_nn lf rg R y (g.getD k [])
    unfold uw9
    split <;> omega
theorem uw9_le (hR : R ≤ 8) (hg : ∀ z ∈ g, z.length ≤ 12) : ∀ k : Nat, k ≤ g.length → uw9 lf rg R g W y k ≤ 96 * k
  | 0, _ => by unfold uw9; omega
  | k + 1, h => by
    have h1 := uw9_le hR hg k (by omega)
    have h2 := m9_le (lf := lf) (rg := rg) (R := R) (y := y) (hg _ (gtD_mem (show k < g.length by omega))) hR
    unfold uw9
    split <;> omega
theorem uw9_congr {V : Int → Int} : ∀ k : Nat, (∀ p : Int, 0 ≤ p → p < k → W p = V p) → uw9 lf rg R g W y k = uw9 lf rg R g V y k
  | 0, _ => rfl
  | k + 1, h => by
    unfold uw9
    rw [uw9_congr k (fun p a b => h p a (by omega)), h k (by omega) (by omega)]
theorem uw9_up {i : Nat} (hi : W i = 0) : ∀ k : Nat, i < k → uw9 lf rg R g W y k = uw9 lf rg R g (up9 W i 1) y k + m9 lf rg R (g.getD i []) y
  | 0, h => by omega
  | k + 1, h => by
    unfold uw9
    by_cases e : i = k
    · rw [uw9_congr (W := up9 W i 1) (V := W) k (fun p a b => up9_ne (by omega)), ← e, hi, up9_eq, if_neg (by decide), if_pos (by decide)]
      omega
    · rw [uw9_up hi k (by omega), up9_ne (by omega)]
      omega
theorem uw9_mi : ∀ k : Nat, uw9 lf rg R g (fun _ => 0) y k = mi9 lf rg R g y k
  | 0 => rfl
  | k + 1 => by
    unfold uw9 mi9
    rw [uw9_mi k, if_neg (fun h => h rfl)]
theorem uw9_pos : ∀ k : Nat, uw9 lf rg R g W y k ≠ 0 → ∃ i : Nat, i < k ∧ W i = 0 ∧ m9 lf rg R (g.getD i []) y ≠ 0
  | 0, h => absurd rfl h
  | k + 1, h => by
    unfold uw9 at h
    by_cases e : W k ≠ 0
    · rw [if_pos e, Int.add_zero] at h
      obtain ⟨i, a, b⟩ := uw9_pos k h
      exact ⟨i, by omega, b⟩
    · rw [if_neg e] at h
      by_cases e2 : m9 lf rg R (g.getD k []) y = 0
      · obtain ⟨i, a, b⟩ := uw9_pos k (by omega)
        exact ⟨i, by omega, b⟩
      · exact ⟨k, by omega, Classical.byContradiction (fun q => e q), e2⟩
theorem mi9_ge {i : Nat} : ∀ k : Nat, i < k → m9 lf rg R (g.getD i []) y ≤ mi9 lf rg R g y k ∧ 0 ≤ mi9 lf rg R g y k
  | 0, h => by omega
  | k + 1, h => by
    have h2 := @m9_nn lf rg R y (g.getD k [])
    have nn : ∀ k : Nat, 0 ≤ mi9 lf rg R g y k := fun k => by
      induction k with
      | zero => exact Int.le_refl _
      | succ k ih => unfold mi9; have := @m9_nn lf rg R y (g.getD k []); omega
    have h3 := nn k
    unfold mi9
    by_cases e : i = k
    · rw [e]; omega
    · have := @mi9_ge i k (by omega)
      omega
theorem reach_in {s : List Int} (H : BF9 lf rg R s g g.length) : ∀ (L : Nat) {z : List Int}, dr9 lf rg R L s z → z ∈ g
  | 0, z, h => by cases h; rw [← H.2.1]; exact gtD_mem (by have := H.2.2.1; omega)
  | L + 1, z, ⟨y, h1, h2⟩ => by
    obtain ⟨i, i1, i2⟩ := mem_gtD (reach_in H L h1)
    exact H.2.2.2.2.2 i i1 i1 z (by rw [i2]; exact h2)
end
/-- the walk: steps left cn, marks mk for what is queued, t of them -/
def KI9 (τ : S9) (lf rg : Int → List Int) (R : Int) (s : List Int) (g : List (List Int)) (cn : List Int → Int) (mk : Int → Int) (t : Int) : Prop :=
  HT9 τ g ∧ gI τ 36 9 = t ∧ nz9 mk g.length = t ∧
  (∀ j : Nat, j < g.length → gI τ 43 j = cn (g.getD j []) ∧ 0 ≤ gI τ 40 j ∧ (gI τ 40 j = 0 ∨ dr9 lf rg R (gI τ 40 j).toNat s (g.getD j []))) ∧
  (∀ j : Nat, j < g.length → (mk j ≠ 0 ↔ cn (g.getD j []) = 0)) ∧
  (∀ x, 0 ≤ x → x < t → ∃ j : Nat, j < g.length ∧ gI τ 44 x = j ∧ mk j ≠ 0 ∧ dr9 lf rg R (gI τ 40 j).toNat s (g.getD j [])) ∧
  (∀ j : Nat, j < g.length → mk j ≠ 0 → ∃ x, 0 ≤ x ∧ x < t ∧ gI τ 44 x = j) ∧
  (∀ x y, 0 ≤ x → x < t → 0 ≤ y → y < t → gI τ 44 x = gI τ 44 y → x = y)
theorem KI9.congr {τ : S9} {lf rg : Int → List Int} {R : Int} {s : List Int} {g : List (List Int)} {f h : List Int → Int} {mk : Int → Int} {t : Int} (H : KI9 τ lf rg R s g f mk t) (e : ∀ z, f z = h z) : KI9 τ lf rg R s g h mk t := by
  rw [show h = f from funext (fun z => (e z).symm)]
  exact H
/-- the state after a step into string j -/
def wi9 (σ : S9) (j e : Int) : S9 := sI (sI σ 40 j (max (gI σ 40 j) e)) 43 j (gI σ 43 j - 1)
theorem wi9_eq (σ : S9) (j e : Int) : gI (wi9 σ j e) 40 = up9 (gI σ 40) j (max (gI σ 40 j) e) ∧ gI (wi9 σ j e) 43 = up9 (gI σ 43) j (gI σ 43 j - 1) ∧ gI (wi9 σ j e) 36 = gI σ 36 ∧ gI (wi9 σ j e) 38 = gI σ 38 ∧ gI (wi9 σ j e) 44 = gI σ 44 ∧ gL (wi9 σ j e) 37 = gL σ 37 := by
  unfold wi9
  refine ⟨?_, ?_, ?_, ?_, ?_, rfl⟩
  · rw [gI_aI_ne (by decide), gI_aI_eq]
  · rw [gI_aI_eq, gI_aI_ne (by decide)]
  · rw [gI_aI_ne (by decide), gI_aI_ne (by decide)]
  · rw [gI_aI_ne (by decide), gI_aI_ne (by decide)]
  · rw [gI_aI_ne (by decide), gI_aI_ne (by decide)]
section
variable {d : Nat} {σ : S9} {lf rg : Int → List Int} {R : Int} {s : List Int} {g : List (List Int)} {cn : List Int → Int} {mk : Int → Int} {t : Int}
theorem c_X0_walkInto {j e c : Int} {P : S9 → Prop} (g0 : gI σ 36 0 = c) (g9 : gI σ 36 9 = t) (ht : 0 ≤ t ∧ t < 200) (hj : 0 ≤ j ∧ j < c ∧ c ≤ 200) (he : 0 ≤ e ∧ e ≤ 1000) (hD : 0 ≤ gI σ 40 j ∧ gI σ 40 j ≤ 1000) (hS : 0 ≤ gI σ 43 j ∧ gI σ 43 j ≤ 100000) (h1 : gI σ 43 j - 1 = 0 → P (sI (sI (wi9 σ j e) 44 t j) 36 9 (t + 1))) (h0 : gI σ 43 j - 1 ≠ 0 → P (wi9 σ j e)) : Cc (d + 1) mX0_walkInto [.ref 36, .int (iI j), .int (iI e)] σ (QV P) := by
  have W := wi9_eq σ j e
  refine Cc_of (by decide +kernel) (fun _ => Nat.le_of_ble_eq_true rfl) rfl (lv := [_, _, _]) ?_
  refine v_iload_n dX0_walkInto_0 rfl ?_
  refine v_if_lt (tgt := 12) dX0_walkInto_1 (by decide) (by omega) (fun q1 => absurd q1 (by omega)) (fun q1 => ?_)
  refine v_iload_n dX0_walkInto_4 rfl ?_
  refine v_aload_n dX0_walkInto_5 rfl ?_
  refine v_getI (ji := 0) dX0_walkInto_6 s_36 fX0_9 rfl ?_
  rw [g0]
  refine v_icmp_lt (tgt := 13) dX0_walkInto_9 (by decide) (by omega) (fun q9 => ?_) (fun q9 => absurd q9 (by omega))
  refine v_aload_n dX0_walkInto_13 rfl ?_
  refine v_getR (k1 := 40) dX0_walkInto_14 s_36 fX0_26 rfl ?_
  refine v_iload_n dX0_walkInto_17 rfl ?_
  refine v_aload_n dX0_walkInto_18 rfl ?_
  refine v_getR (k1 := 40) dX0_walkInto_19 s_36 fX0_26 rfl ?_
  refine v_iload_n dX0_walkInto_22 rfl ?_
  refine v_iaload dX0_walkInto_23 s_40 (by omega) ?_
  refine v_iload_n dX0_walkInto_24 rfl ?_
  refine v_mmax dX0_walkInto_25 mmX0_93 (by omega) (Nat.le_of_ble_eq_true rfl) ?_
  refine v_iastore dX0_walkInto_28 s_40 (by omega) ?_
  refine v_aload_n dX0_walkInto_29 rfl ?_
  refine v_getR (k1 := 43) dX0_walkInto_30 s_36 fX0_35 rfl ?_
  refine v_iload_n dX0_walkInto_33 rfl ?_
  refine v_dup2 dX0_walkInto_34 rfl rfl ?_
  refine v_iaload dX0_walkInto_35 s_43 (by omega) ?_
  refine v_iconst dX0_walkInto_36 ?_
  refine v_isub dX0_walkInto_37 ?_
  rw [gI_aI_ne (by decide)]
  show Vv (d + 1) mX0_walkInto _ _ _ _ (QV P)
  refine v_iastore dX0_walkInto_38 s_43 (by omega) ?_
  show Vv (d + 1) mX0_walkInto 39 _ _ (wi9 σ j e) (QV P)
  refine v_aload_n dX0_walkInto_39 rfl ?_
  refine v_getR (k1 := 43) dX0_walkInto_40 s_36 fX0_35 rfl ?_
  refine v_iload_n dX0_walkInto_43 rfl ?_
  refine v_iaload dX0_walkInto_44 s_43 (by omega) ?_
  rw [W.2.1, up9_eq]
  refine v_if_ne (tgt := 78) dX0_walkInto_45 (by decide) (by omega) (fun q45 => ?_) (fun q45 => ?_)
  · exact v_return dX0_walkInto_78 rfl (by first | exact h0 q45 | exact h1 q45)
  · refine v_aload_n dX0_walkInto_48 rfl ?_
    refine v_getI (ji := 9) dX0_walkInto_49 s_36 fX0_41 rfl ?_
    rw [W.2.2.1, g9]
    refine v_sipush dX0_walkInto_52 (by decide) ?_
    refine v_icmp_ge (tgt := 78) dX0_walkInto_55 (by decide) (by omega) (fun q55 => absurd q55 (by omega)) (fun q55 => ?_)
    refine v_aload_n dX0_walkInto_58 rfl ?_
    refine v_getR (k1 := 44) dX0_walkInto_59 s_36 fX0_38 rfl ?_
    refine v_aload_n dX0_walkInto_62 rfl ?_
    refine v_getI (ji := 9) dX0_walkInto_63 s_36 fX0_41 rfl ?_
    rw [W.2.2.1, g9]
    refine v_iload_n dX0_walkInto_66 rfl ?_
    refine v_iastore dX0_walkInto_67 s_44 (by omega) ?_
    refine v_aload_n dX0_walkInto_68 rfl ?_
    refine v_dup dX0_walkInto_69 rfl ?_
    refine v_getI (ji := 9) dX0_walkInto_70 s_36 fX0_41 rfl ?_
    rw [gI_aI_ne (by decide), W.2.2.1, g9]
    refine v_iconst dX0_walkInto_73 ?_
    refine v_iadd dX0_walkInto_74 ?_
    refine v_putI (ji := 9) dX0_walkInto_75 s_36 pfX0_41 rfl ?_
    exact v_return dX0_walkInto_78 rfl (by first | exact h0 q45 | exact h1 q45)
theorem KI9.step {j : Nat} {e : Int} (H : KI9 σ lf rg R s g cn mk t) (hj : j < g.length) (hm : mk j = 0) (he : 1 ≤ e) (hd : dr9 lf rg R e.toNat s (g.getD j [])) (hc : 1 ≤ cn (g.getD j [])) :
    (cn (g.getD j []) - 1 = 0 → KI9 (sI (sI (wi9 σ j e) 44 t j) 36 9 (t + 1)) lf rg R s g (fun z => cn z - (if g.getD j [] = z then 1 else 0)) (up9 mk j 1) (t + 1)) ∧ (cn (g.getD j []) - 1 ≠ 0 → KI9 (wi9 σ j e) lf rg R s g (fun z => cn z - (if g.getD j [] = z then 1 else 0)) mk t) := by
  obtain ⟨H0, H1, H2, H3, H4, H5, H6, H7⟩ := H
  have W := wi9_eq σ j e
  have nd := H0.2.2.2.1
  have tb := nz9_le (f := mk) g.length
  have cnj : ∀ i : Nat, i < g.length → i ≠ j → cn (g.getD i []) - (if g.getD j [] = g.getD i [] then 1 else 0) = cn (g.getD i []) := fun i hi hne => by
    rw [if_neg (fun q => hne (nodup_gtD nd hi hj q.symm)), Int.sub_zero]
  have D3 : ∀ i : Nat, i < g.length → gI (wi9 σ j e) 43 i = cn (g.getD i []) - (if g.getD j [] = g.getD i [] then 1 else 0) ∧ 0 ≤ gI (wi9 σ j e) 40 i ∧ (gI (wi9 σ j e) 40 i = 0 ∨ dr9 lf rg R (gI (wi9 σ j e) 40 i).toNat s (g.getD i [])) := fun i hi => by
    rw [W.1, W.2.1]
    by_cases ei : i = j
    · subst ei
      rw [up9_eq, up9_eq, if_pos rfl, (H3 i hi).1]
      have h3 := (H3 i hi).2
      refine ⟨rfl, by omega, Or.inr ?_⟩
      rcases h3.2 with h | h
      · rw [h, show max 0 e = e by omega]; exact hd
      · by_cases q : gI σ 40 i ≤ e
        · rw [show max (gI σ 40 i) e = e by omega]; exact hd
        · rw [show max (gI σ 40 i) e = gI σ 40 i by omega]; exact h
    · rw [up9_ne (by omega), up9_ne (by omega), cnj i hi ei]
      exact H3 i hi
  have Dm : ∀ i : Nat, mk i ≠ 0 → gI (wi9 σ j e) 40 i = gI σ 40 i := fun i hi => by
    rw [W.1, up9_ne (fun q => hi (by rw [show i = j by omega]; exact hm))]
  constructor
  · intro hz
    have u : gI (sI (sI (wi9 σ j e) 44 t j) 36 9 (t + 1)) 40 = gI (wi9 σ j e) 40 ∧ gI (sI (sI (wi9 σ j e) 44 t j) 36 9 (t + 1)) 43 = gI (wi9 σ j e) 43 ∧ gI (sI (sI (wi9 σ j e) 44 t j) 36 9 (t + 1)) 44 = up9 (gI σ 44) t j ∧ gI (sI (sI (wi9 σ j e) 44 t j) 36 9 (t + 1)) 36 = up9 (gI σ 36) 9 (t + 1) ∧ gI (sI (sI (wi9 σ j e) 44 t j) 36 9 (t + 1)) 38 = gI σ 38 ∧ gL (sI (sI (wi9 σ j e) 44 t j) 36 9 (t + 1)) 37 = gL σ 37 := by
      refine ⟨?_, ?_, ?_, ?_, ?_, W.2.2.2.2.2⟩
      · rw [gI_aI_ne (by decide), gI_aI_ne (by decide)]
      · rw [gI_aI_ne (by decide), gI_aI_ne (by decide)]
      · rw [gI_aI_ne (by decide), gI_aI_eq, W.2.2.2.2.1]
      · rw [gI_aI_eq, gI_aI_ne (by decide), W.2.2.1]
      · rw [gI_aI_ne (by decide), gI_aI_ne (by decide), W.2.2.2.1]
    unfold KI9 HT9
    rw [u.1, u.2.1, u.2.2.1, u.2.2.2.1, u.2.2.2.2.1, u.2.2.2.2.2]
    refine ⟨⟨by rw [up9_ne (by decide)]; exact H0.1, H0.2⟩, up9_eq _ _ _, ?_, D3, fun i hi => ?_, fun x x0 x1 => ?_, fun i hi hmi => ?_, fun x y x0 x1 y0 y1 hxy => ?_⟩
    · rw [nz9_up (by decide) hm g.length (by omega) (by omega), H2]
    · by_cases ei : i = j
      · rw [ei, up9_eq]
        show _ ↔ cn (g.getD j []) - (if g.getD j [] = g.getD j [] then 1 else 0) = 0
        rw [if_pos rfl]
        exact ⟨fun _ => hz, fun _ => by decide⟩
      · rw [up9_ne (by omega)]
        show _ ↔ cn (g.getD i []) - (if g.getD j [] = g.getD i [] then 1 else 0) = 0
        rw [cnj i hi ei]
        exact H4 i hi
    · by_cases ex : x = t
      · refine ⟨j, hj, by rw [ex, up9_eq], by rw [up9_eq]; decide, ?_⟩
        have := (D3 j hj).2
        rcases this.2 with h | h
        · exfalso
          rw [W.1, up9_eq] at h
          omega
        · exact h
      · obtain ⟨i, i1, i2, i3, i4⟩ := H5 x x0 (by omega)
        refine ⟨i, i1, by rw [up9_ne ex]; exact i2, ?_, by rw [Dm i i3]; exact i4⟩
        rw [up9_ne (fun q => i3 (by rw [show i = j by omega]; exact hm))]
        exact i3
    · by_cases ei : i = j
      · exact ⟨t, by omega, by omega, by rw [up9_eq, ei]⟩
      · rw [up9_ne (by omega)] at hmi
        obtain ⟨x, x0, x1, x2⟩ := H6 i hi hmi
        exact ⟨x, x0, by omega, by rw [up9_ne (by omega)]; exact x2⟩
    · have key : ∀ x, 0 ≤ x → x < t → gI σ 44 x ≠ j := fun x a b q => by
        obtain ⟨i, i1, i2, i3, _⟩ := H5 x a b
        exact i3 (by rw [show i = j by omega]; exact hm)
      by_cases ex : x = t
      · by_cases ey : y = t
        · omega
        · rw [ex, up9_eq, up9_ne ey] at hxy
          exact absurd hxy.symm (key y y0 (by omega))
      · by_cases ey : y = t
        · rw [ey, up9_eq, up9_ne ex] at hxy
          exact absurd hxy (key x x0 (by omega))
        · rw [up9_ne ex, up9_ne ey] at hxy
          exact H7 x y x0 (by omega) y0 (by omega) hxy
  · intro hz
    unfold KI9 HT9
    rw [W.2.2.1, W.2.2.2.1, W.2.2.2.2.1, W.2.2.2.2.2]
    refine ⟨H0, H1, H2, D3, fun i hi => ?_, fun x x0 x1 => ?_, H6, H7⟩
    · by_cases ei : i = j
      · rw [ei]
        show _ ↔ cn (g.getD j []) - (if g.getD j [] = g.getD j [] then 1 else 0) = 0
        rw [if_pos rfl]
        exact ⟨fun q => absurd hm q, fun q => absurd q hz⟩
      · show _ ↔ cn (g.getD i []) - (if g.getD j [] = g.getD i [] then 1 else 0) = 0
        rw [cnj i hi ei]
        exact H4 i hi
    · obtain ⟨i, i1, i2, i3, i4⟩ := H5 x x0 x1
      exact ⟨i, i1, i2, i3, by rw [Dm i i3]; exact i4⟩
end
