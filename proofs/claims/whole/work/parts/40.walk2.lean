/-- a walk from string i, up to a position and a rule -/
def WI9 (σ τ : S9) (lf rg : Int → List Int) (R : Int) (s : List Int) (g : List (List Int)) (W mk mk' : Int → Int) (t t' K : Int) (i p r : Nat) : Prop :=
  KI9 τ lf rg R s g (fun z => uw9 lf rg R g W z g.length + (m9 lf rg R (g.getD i []) z - mp9 lf rg R (g.getD i []) z p - mr9 lf rg (g.getD i []) p z r)) mk' t' ∧ t ≤ t' ∧ (∀ x, 0 ≤ x → x < t → gI τ 44 x = gI σ 44 x) ∧ (∀ j : Nat, j < g.length → mk j ≠ 0 → mk' j ≠ 0 ∧ gI τ 40 j = gI σ 40 j) ∧ (∀ j : Nat, j < g.length → gI σ 40 j ≤ gI τ 40 j ∧ gI τ 40 j ≤ K + 1) ∧ (∀ j : Nat, j < g.length → mp9 lf rg R (g.getD i []) (g.getD j []) p + mr9 lf rg (g.getD i []) p (g.getD j []) r ≠ 0 → gI σ 40 i + 1 ≤ gI τ 40 j) ∧ eq9 (fun k => k < 36 ∨ 44 < k) σ τ
section
variable {d : Nat} {n R : Int} {lf rg : Int → List Int} {wt lev : Int → Int} {stt : Int} {ap : Int → UInt32} {str : List Int} {σ : S9}
theorem c_X0_walkFrom {s : List Int} {g : List (List Int)} {W mk : Int → Int} {t K : Int} {i : Nat} {P : S9 → Prop} (v : Va n R lf rg wt lev stt ap str) (c : SyC σ 1 n R lf rg wt lev stt ap str) (hB : BF9 lf rg R s g g.length) (hg : ∀ z ∈ g, OkL n 12 z) (H : KI9 σ lf rg R s g (fun z => uw9 lf rg R g W z g.length) mk t) (hi : i < g.length) (hWi : W i = 0) (hmi : mk i ≠ 0) (hdi : dr9 lf rg R (gI σ 40 i).toNat s (g.getD i [])) (hWm : ∀ j : Nat, j < g.length → W j ≠ 0 → mk j ≠ 0) (hE : ∀ j k : Nat, j < g.length → k < g.length → W j ≠ 0 → m9 lf rg R (g.getD j []) (g.getD k []) ≠ 0 → gI σ 40 j + 1 ≤ gI σ 40 k) (hK : 0 ≤ K ∧ K < 200) (hDK : ∀ j : Nat, j < g.length → gI σ 40 j ≤ K)
    (h : ∀ τ mk' t', KI9 τ lf rg R s g (fun z => uw9 lf rg R g (up9 W i 1) z g.length) mk' t' → t ≤ t' → (∀ x, 0 ≤ x → x < t → gI τ 44 x = gI σ 44 x) → (∀ j : Nat, j < g.length → mk j ≠ 0 → mk' j ≠ 0 ∧ gI τ 40 j = gI σ 40 j) → (∀ j k : Nat, j < g.length → k < g.length → up9 W i 1 j ≠ 0 → m9 lf rg R (g.getD j []) (g.getD k []) ≠ 0 → gI τ 40 j + 1 ≤ gI τ 40 k) → (∀ j : Nat, j < g.length → gI τ 40 j ≤ K + 1) → eq9 (fun k => k < 36 ∨ 44 < k) σ τ → P τ) : Cc (d + 4) mX0_walkFrom [.ref 36, .ref 1, .int (iI i)] σ (QV P) := by
  have hn := v.1
  have hR := v.2.1
  have hlr : ∀ r, 0 ≤ r → r < R → 1 ≤ (lf r).length := fun r a b => (v.2.2.1 r a b).2.1
  have ow := hg _ (gtD_mem hi)
  have sw : St (g.getD i []) := ow.st (by omega) (by decide)
  have hl := ow.2
  have hN := hB.2.2.2.1
  have hself : m9 lf rg R (g.getD i []) (g.getD i []) = 0 := by
    have h1 := (H.2.2.2.2.1 i hi).mp hmi
    have h1 : uw9 lf rg R g W (g.getD i []) g.length = 0 := h1
    rw [uw9_up hWi g.length hi] at h1
    have h2 := uw9_nn (lf := lf) (rg := rg) (R := R) (g := g) (W := up9 W i 1) (y := g.getD i []) g.length
    have h3 := m9_nn (lf := lf) (rg := rg) (R := R) (y := g.getD i []) (w := g.getD i [])
    omega
  refine Cc_of (by decide +kernel) (fun _ => Nat.le_of_ble_eq_true rfl) rfl (lv := [_, _, _, _, _, _, _, _, _]) ?_
  have K2 : ∀ (p : Nat), p < (g.getD i []).length → ∀ (m : Nat) (r : Nat) (τ : S9) (mk' : Int → Int) (t' : Int), r + m = R.toNat → (∀ τ mk' t', WI9 σ τ lf rg R s g (up9 W i 1) mk mk' t t' K i (p + 1) 0 → ∀ l6 l7 l8, Vv (d + 4) mX0_walkFrom 75 [.ref 36, .ref 1, .int (iI i), .long (lI (encW (g.getD i []))), .null, .int (iI p), l6, l7, l8] [] τ (QV P)) → WI9 σ τ lf rg R s g (up9 W i 1) mk mk' t t' K i p r → ∀ l7 l8, Vv (d + 4) mX0_walkFrom 22 [.ref 36, .ref 1, .int (iI i), .long (lI (encW (g.getD i []))), .null, .int (iI p), .int (iI r), l7, l8] [] τ (QV P) := by
    intro p hp m
    induction m with
    | zero =>
      intro r τ mk' t' hr hend hI l7 l8
      have c1 : gI τ 1 1 = R := by rw [(hI.2.2.2.2.2.2 1 (by omega)).1]; exact c.2.1
      refine v_iload dX0_walkFrom_22 rfl ?_
      refine v_aload_n dX0_walkFrom_24 rfl ?_
      refine v_getI (ji := 1) dX0_walkFrom_25 s_1 fX0_78 rfl ?_
      rw [c1]
      refine v_icmp_ge (tgt := 75) dX0_walkFrom_28 (by decide) (by omega) (fun q28 => ?_) (fun q28 => absurd q28 (by omega))
      refine hend τ mk' t' ?_ _ _ _
      obtain ⟨a1, a2, a3, a4, a5, a6, a7⟩ := hI
      have er : r = R.toNat := by omega
      refine ⟨a1.congr (fun z => ?_), a2, a3, a4, a5, fun j hj hne => a6 j hj ?_, a7⟩
      · rw [mp9, mr9, er]; omega
      · rw [mp9, mr9] at hne; rw [er]; omega
    | succ m ih =>
      intro r τ mk' t' hr hend hI l7 l8
      have hI0 := hI
      obtain ⟨a1, a2, a3, a4, a5, a6, a7⟩ := hI
      have c1 : gI τ 1 1 = R := by rw [(a7 1 (by omega)).1]; exact c.2.1
      have c2 := c.eq (by omega) (a7.mono (fun k hk => by omega))
      have zr : 0 ≤ (r : Int) ∧ (r : Int) < R := by omega
      have eD : gI τ 40 i = gI σ 40 i := (a4 i hi hmi).2
      have bDi := hDK i hi
      have bDi0 := (H.2.2.2.1 i hi).2.1
      refine v_iload dX0_walkFrom_22 rfl ?_
      refine v_aload_n dX0_walkFrom_24 rfl ?_
      refine v_getI (ji := 1) dX0_walkFrom_25 s_1 fX0_78 rfl ?_
      rw [c1]
      refine v_icmp_ge (tgt := 75) dX0_walkFrom_28 (by decide) (by omega) (fun q28 => absurd q28 (by omega)) (fun q28 => ?_)
      refine v_aload_n dX0_walkFrom_31 rfl ?_
      refine v_lload_n dX0_walkFrom_32 rfl ?_
      refine v_iload dX0_walkFrom_33 rfl ?_
      refine v_iload dX0_walkFrom_35 rfl ?_
      refine v_callVl3 dX0_walkFrom_37 kX0_80 s_1 (Nat.le_of_ble_eq_true rfl) (c_X5_stepped (by omega) (c2.l zr) (c2.r zr) sw (v.sl zr) (v.sr zr) (by omega) (fun ys hs => ?_) (fun hs => ?_))
      · have oy : OkL n 12 ys := ⟨fun x hx => by have := stp9_mem hs hx; rcases this with h | h; exact ow.1 x h; exact (v.2.2.1 r zr.1 zr.2).2.2.1 x h, (stp9_St sw (v.sr zr) hs).2⟩
        have sy := oy.st (by omega) (by decide)
        have sy2 := sy.bdW
        have scy : sc9 lf rg R (g.getD i []) ys := ⟨p, r, by omega, by omega, by omega, hs⟩
        refine v_lstore (lv' := [_, _, _, _, _, _, _, _, _]) dX0_walkFrom_40 (Nat.le_of_ble_eq_true rfl) rfl rfl ?_
        refine v_lload dX0_walkFrom_42 rfl ?_
        refine v_ldc2 dX0_walkFrom_44 wX0_84 ?_
        refine v_lcmp_eq (tgt := 69) dX0_walkFrom_47 dX0_walkFrom_48 (by decide) (by omega) (fun q47 => absurd q47 (by omega)) (fun q47 => ?_)
        refine v_aload_n dX0_walkFrom_51 rfl ?_
        refine v_aload_n dX0_walkFrom_52 rfl ?_
        refine v_lload dX0_walkFrom_53 rfl ?_
        refine v_callVi1 dX0_walkFrom_55 kX0_90 s_36 (Nat.le_of_ble_eq_true rfl) (c_X0_numberOf sy a1.1.2 (fun j j1 j2 => ?_) (fun hm => ?_))
        · have hge := m9_ge (lf := lf) (rg := rg) (R := R) (w := g.getD i []) (y := ys) (p := p) (r := r + 1) hp (by omega)
          rw [mr9, if_pos hs] at hge
          have hun := uw9_nn (lf := lf) (rg := rg) (R := R) (g := g) (W := up9 W i 1) (y := ys) g.length
          have hul := uw9_le (lf := lf) (rg := rg) (R := R) (g := g) (W := up9 W i 1) (y := ys) (by omega) (fun z hz => (hg z hz).2) g.length (by omega)
          have hml := m9_le (lf := lf) (rg := rg) (R := R) (w := g.getD i []) (y := ys) hl (by omega)
          have hmp := (mp9_nn (lf := lf) (rg := rg) (R := R) (w := g.getD i []) (y := ys) p).1
          have hmr := (mr9_nn (lf := lf) (rg := rg) (w := g.getD i []) (y := ys) (p := (p : Int)) r).1
          have hcn : gI τ 43 j = uw9 lf rg R g (up9 W i 1) ys g.length + (m9 lf rg R (g.getD i []) ys - mp9 lf rg R (g.getD i []) ys p - mr9 lf rg (g.getD i []) p ys r) := by rw [(a1.2.2.2.1 j j1).1, j2]
          have hmj : mk' j = 0 := Classical.byContradiction (fun q => by have h9 := (a1.2.2.2.2.1 j j1).mp q; have h9 : uw9 lf rg R g (up9 W i 1) (g.getD j []) g.length + (m9 lf rg R (g.getD i []) (g.getD j []) - mp9 lf rg R (g.getD i []) (g.getD j []) p - mr9 lf rg (g.getD i []) p (g.getD j []) r) = 0 := h9; rw [j2] at h9; omega)
          have hne : j ≠ i := fun q => by have h8 := (m9_sc hlr).mpr scy; rw [← j2, q, hself] at h8; exact h8 rfl
          have htN : t' < g.length := by have h8 := nz9_up (f := mk') (z := 1) (by decide) hmj g.length (by omega) (by omega); have h9 := (nz9_le (f := up9 mk' j 1) g.length).2; rw [h8, a1.2.2.1] at h9; omega
          have ht0 : 0 ≤ t' := by have := (nz9_le (f := mk') g.length).1; rw [a1.2.2.1] at this; exact this
          have hDj := (a1.2.2.2.1 j j1).2.1
          have hDj2 := a5 j j1
          have hst := a1.step j1 hmj (e := gI σ 40 i + 1) (by omega) (by rw [show (gI σ 40 i + 1).toNat = (gI σ 40 i).toNat + 1 by omega]; exact ⟨_, hdi, by rw [j2]; exact scy⟩) (by show 1 ≤ uw9 lf rg R g (up9 W i 1) (g.getD j []) g.length + (m9 lf rg R (g.getD i []) (g.getD j []) - mp9 lf rg R (g.getD i []) (g.getD j []) p - mr9 lf rg (g.getD i []) p (g.getD j []) r); rw [j2]; omega)
          have fin : ∀ υ mk2 t2, KI9 υ lf rg R s g (fun z => (uw9 lf rg R g (up9 W i 1) z g.length + (m9 lf rg R (g.getD i []) z - mp9 lf rg R (g.getD i []) z p - mr9 lf rg (g.getD i []) p z r)) - (if g.getD j [] = z then 1 else 0)) mk2 t2 → t' ≤ t2 → (∀ x, 0 ≤ x → x < t' → gI υ 44 x = gI τ 44 x) → (∀ k : Nat, mk' k ≠ 0 → mk2 k ≠ 0) → gI υ 40 = up9 (gI τ 40) j (max (gI τ 40 j) (gI σ 40 i + 1)) → eq9 (fun k => k < 36 ∨ 44 < k) τ υ → WI9 σ υ lf rg R s g (up9 W i 1) mk mk2 t t2 K i p (r + 1) := fun υ mk2 t2 u1 u2 u3 u4 u5 u6 => by
            refine ⟨u1.congr (fun z => ?_), by omega, fun x x0 x1 => by rw [u3 x x0 (by omega)]; exact a3 x x0 x1, fun k hk hmk => ⟨u4 k (a4 k hk hmk).1, ?_⟩, fun k hk => ?_, fun k hk hmm => ?_, a7.tr u6⟩
            · rw [mr9, j2]
              by_cases e : ys = z
              · rw [if_pos e, if_pos (by rw [hs, e])]; omega
              · rw [if_neg e, if_neg (fun q => e (by rw [hs] at q; exact Option.some.inj q))]; omega
            · rw [u5, up9_ne (fun q => (a4 k hk hmk).1 (by rw [show k = j by omega]; exact hmj))]; exact (a4 k hk hmk).2
            · rw [u5]
              have h8 := a5 k hk
              by_cases e : k = j
              · rw [e, up9_eq]; rw [e] at h8; omega
              · rw [up9_ne (by omega)]; exact h8
            · rw [u5]
              by_cases e : k = j
              · rw [e, up9_eq]; omega
              · rw [up9_ne (by omega)]
                refine a6 k hk ?_
                rw [mr9, if_neg (fun q => e (nodup_gtD hB.1 hk j1 (by rw [j2]; rw [hs] at q; exact (Option.some.inj q).symm))), Int.add_zero] at hmm
                exact hmm
          refine v_aload_n dX0_walkFrom_58 rfl ?_
          refine v_getR (k1 := 40) dX0_walkFrom_59 s_36 fX0_26 rfl ?_
          refine v_iload_n dX0_walkFrom_62 rfl ?_
          refine v_iaload dX0_walkFrom_63 s_40 (by omega) ?_
          rw [eD]
          refine v_iconst dX0_walkFrom_64 ?_
          refine v_iadd dX0_walkFrom_65 ?_
          refine v_callVv2 dX0_walkFrom_66 kX0_103 s_36 (Nat.le_of_ble_eq_true rfl) (c_X0_walkInto (c := g.length) a1.1.1 a1.2.1 (by omega) (by omega) (by omega) (by omega) (by omega) (fun q => ?_) (fun q => ?_))
          · refine v_iinc (lv' := [_, _, _, _, _, _, _, _, _]) dX0_walkFrom_69 rfl (Nat.le_of_ble_eq_true rfl) rfl rfl ?_
            refine v_goto (tgt := 22) dX0_walkFrom_72 (by decide) ?_
            refine ih (r + 1) _ (up9 mk' j 1) (t' + 1) (by omega) hend (fin _ _ _ (hst.1 (by show uw9 lf rg R g (up9 W i 1) (g.getD j []) g.length + (m9 lf rg R (g.getD i []) (g.getD j []) - mp9 lf rg R (g.getD i []) (g.getD j []) p - mr9 lf rg (g.getD i []) p (g.getD j []) r) - 1 = 0; rw [j2]; omega)) (by omega) (fun x x0 x1 => ?_) (fun k hk => ?_) ?_ ?_) _ _
            · rw [gI_aI_ne (by decide), gI_aI_eq, (wi9_eq τ j (gI σ 40 i + 1)).2.2.2.2.1, up9_ne (by omega)]
            · by_cases e : k = j
              · rw [e, up9_eq]; decide
              · rw [up9_ne (by omega)]; exact hk
            · rw [gI_aI_ne (by decide), gI_aI_ne (by decide)]; exact (wi9_eq τ j (gI σ 40 i + 1)).1
            · exact (((eq9.aI (by omega)).tr (eq9.aI (by omega))).tr (eq9.aI (by omega))).tr (eq9.aI (by omega))
          · refine v_iinc (lv' := [_, _, _, _, _, _, _, _, _]) dX0_walkFrom_69 rfl (Nat.le_of_ble_eq_true rfl) rfl rfl ?_
            refine v_goto (tgt := 22) dX0_walkFrom_72 (by decide) ?_
            refine ih (r + 1) _ mk' t' (by omega) hend (fin _ _ _ (hst.2 (by show uw9 lf rg R g (up9 W i 1) (g.getD j []) g.length + (m9 lf rg R (g.getD i []) (g.getD j []) - mp9 lf rg R (g.getD i []) (g.getD j []) p - mr9 lf rg (g.getD i []) p (g.getD j []) r) - 1 ≠ 0; rw [j2]; omega)) (by omega) (fun x x0 x1 => ?_) (fun k hk => hk) (wi9_eq τ j (gI σ 40 i + 1)).1 ((eq9.aI (by omega)).tr (eq9.aI (by omega)))) _ _
            rw [(wi9_eq τ j (gI σ 40 i + 1)).2.2.2.2.1]
        · exact absurd (hB.2.2.2.2.2 i hi hi ys scy) hm
      · refine v_lstore (lv' := [_, _, _, _, _, _, _, _, _]) dX0_walkFrom_40 (Nat.le_of_ble_eq_true rfl) rfl rfl ?_
        refine v_lload dX0_walkFrom_42 rfl ?_
        refine v_ldc2 dX0_walkFrom_44 wX0_84 ?_
        refine v_lcmp_eq (tgt := 69) dX0_walkFrom_47 dX0_walkFrom_48 (by decide) (by decide) (fun q47 => ?_) (fun q47 => absurd rfl q47)
        refine v_iinc (lv' := [_, _, _, _, _, _, _, _, _]) dX0_walkFrom_69 rfl (Nat.le_of_ble_eq_true rfl) rfl rfl ?_
        refine v_goto (tgt := 22) dX0_walkFrom_72 (by decide) ?_
        refine ih (r + 1) τ mk' t' (by omega) hend ⟨a1.congr (fun z => ?_), a2, a3, a4, a5, fun j hj hne => a6 j hj ?_, a7⟩ _ _
        · rw [mr9, hs, if_neg (fun q => by cases q)]; omega
        · rw [mr9, hs, if_neg (fun q => by cases q)] at hne; omega
  have K1 : ∀ (m : Nat) (p : Nat) (τ : S9) (mk' : Int → Int) (t' : Int), p + m = (g.getD i []).length → WI9 σ τ lf rg R s g (up9 W i 1) mk mk' t t' K i p 0 → ∀ l6 l7 l8, Vv (d + 4) mX0_walkFrom 10 [.ref 36, .ref 1, .int (iI i), .long (lI (encW (g.getD i []))), .null, .int (iI p), l6, l7, l8] [] τ (QV P) := by
    intro m
    induction m with
    | zero =>
      intro p τ mk' t' hp hI l6 l7 l8
      refine v_iload dX0_walkFrom_10 rfl ?_
      refine v_lload_n dX0_walkFrom_12 rfl ?_
      refine v_callSi1 dX0_walkFrom_13 kX0_73 (Nat.le_of_ble_eq_true rfl) (c_X8_sizeOf sw ?_)
      refine v_icmp_ge (tgt := 81) dX0_walkFrom_16 (by decide) (by omega) (fun q16 => ?_) (fun q16 => absurd q16 (by omega))
      refine v_return dX0_walkFrom_81 rfl (by
        obtain ⟨a1, a2, a3, a4, a5, a6, a7⟩ := hI
        have ep : p = (g.getD i []).length := by omega
        refine h τ mk' t' (a1.congr (fun z => ?_)) a2 a3 a4 (fun j k hj hk hw hm => ?_) (fun j hj => (a5 j hj).2) a7
        · rw [mr9, ep]
          show _ + (m9 lf rg R (g.getD i []) z - m9 lf rg R (g.getD i []) z - 0) = _
          omega
        · by_cases e : j = i
          · subst e
            rw [(a4 j hj hmi).2]
            refine a6 k hk ?_
            rw [mr9, ep, Int.add_zero]
            exact hm
          · rw [up9_ne (by omega)] at hw
            have h8 := hE j k hj hk hw hm
            rw [(a4 j hj (hWm j hj hw)).2]
            have h9 := (a5 k hk).1
            omega)
    | succ m ih =>
      intro p τ mk' t' hp hI l6 l7 l8
      refine v_iload dX0_walkFrom_10 rfl ?_
      refine v_lload_n dX0_walkFrom_12 rfl ?_
      refine v_callSi1 dX0_walkFrom_13 kX0_73 (Nat.le_of_ble_eq_true rfl) (c_X8_sizeOf sw ?_)
      refine v_icmp_ge (tgt := 81) dX0_walkFrom_16 (by decide) (by omega) (fun q16 => absurd q16 (by omega)) (fun q16 => ?_)
      refine v_iconst dX0_walkFrom_19 ?_
      refine v_istore (lv' := [_, _, _, _, _, _, _, _, _]) dX0_walkFrom_20 (Nat.le_of_ble_eq_true rfl) rfl rfl ?_
      refine K2 p (by omega) R.toNat 0 τ mk' t' (by omega) (fun υ mk2 t2 hI2 l6 l7 l8 => ?_) hI _ _
      refine v_iinc (lv' := [_, _, _, _, _, _, _, _, _]) dX0_walkFrom_75 rfl (Nat.le_of_ble_eq_true rfl) rfl rfl ?_
      refine v_goto (tgt := 10) dX0_walkFrom_78 (by decide) ?_
      exact ih (p + 1) υ mk2 t2 (by omega) hI2 _ _ _
  refine v_aload_n dX0_walkFrom_0 rfl ?_
  refine v_getR (k1 := 37) dX0_walkFrom_1 s_36 fX0_15 rfl ?_
  refine v_iload_n dX0_walkFrom_4 rfl ?_
  refine v_laload dX0_walkFrom_5 s_37 (by omega) ?_
  rw [H.1.2.2.2.2.1 i hi]
  refine v_lstore_n (lv' := [_, _, _, _, _, _, _, _, _]) dX0_walkFrom_6 (Nat.le_of_ble_eq_true rfl) rfl rfl ?_
  refine v_iconst dX0_walkFrom_7 ?_
  refine v_istore (lv' := [_, _, _, _, _, _, _, _, _]) dX0_walkFrom_8 (Nat.le_of_ble_eq_true rfl) rfl rfl ?_
  refine K1 (g.getD i []).length 0 σ mk t (by omega) ⟨H.congr (fun z => ?_), by omega, fun x _ _ => rfl, fun j _ q => ⟨q, rfl⟩, fun j hj => ⟨by omega, by have := hDK j hj; omega⟩, fun j _ q => absurd rfl q, eq9.rf⟩ _ _ _
  rw [uw9_up hWi g.length hi, mp9, mr9]; omega
end
