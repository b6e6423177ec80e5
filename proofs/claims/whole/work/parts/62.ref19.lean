section
variable {lf rg : Int → List Int} {R : Int} {g : List (List Int)} {am ar : Int → Int} {k : Nat} {D : Int → Int → Prop}
theorem AX9.app (H : AX9 am ar lf rg R g k D) (hk : k < g.length) {am' ar' : Int → Int} {l : List (List Int)} (e1 : am' k = am k) (e2 : ∀ a : Int, 0 ≤ a → a < am k → ar' (96 * (k : Int) + a) = ar (96 * (k : Int) + a)) : AX9 am' ar' lf rg R (g ++ l) k D := by
  obtain ⟨h1, h2, h3⟩ := H
  refine ⟨by rw [e1]; exact h1, fun a a0 a1 => ?_, fun p r y p0 r0 r1 hD hs => ?_⟩
  · rw [e1] at a1
    obtain ⟨j, ej, hj, hs⟩ := h2 a a0 a1
    refine ⟨j, by rw [e2 a a0 a1]; exact ej, by rw [List.length_append]; omega, ?_⟩
    rw [gtD_appl hk, gtD_appl hj]
    exact hs
  · rw [gtD_appl hk] at hs
    obtain ⟨a, j, ha, ea, hj, ej⟩ := h3 p r y p0 r0 r1 hD hs
    refine ⟨a, j, by rw [e1]; exact ha, by rw [e2 a ha.1 ha.2]; exact ea, by rw [List.length_append]; omega, ?_⟩
    rw [gtD_appl hj]
    exact ej
theorem AX9.dom (H : AX9 am ar lf rg R g k D) {D' : Int → Int → Prop} (h : ∀ p r y, 0 ≤ p → 0 ≤ r → r < R → D' p r → stp9 (lf r) (rg r) (g.getD k []) p = some y → D p r) : AX9 am ar lf rg R g k D' :=
  ⟨H.1, H.2.1, fun p r y p0 r0 r1 hD hs => H.2.2 p r y p0 r0 r1 (h p r y p0 r0 r1 hD hs) hs⟩
theorem AX9.put (H : AX9 am ar lf rg R g k D) {m : Int} (em : am k = m) (hm : m < 96) {j : Nat} (hj : j < g.length) {p r : Int} (p0 : 0 ≤ p) (r0 : 0 ≤ r) (r1 : r < R) (hs : stp9 (lf r) (rg r) (g.getD k []) p = some (g.getD j [])) : AX9 (up9 am k (m + 1)) (up9 ar (96 * (k : Int) + m) j) lf rg R g k (fun p' r' => D p' r' ∨ (p' = p ∧ r' = r)) := by
  obtain ⟨h1, h2, h3⟩ := H
  rw [em] at h1 h2 h3
  refine ⟨by rw [up9_eq]; omega, fun a a0 a1 => ?_, fun p' r' y p0' r0' r1' hD hs' => ?_⟩
  · rw [up9_eq] at a1
    by_cases e : a = m
    · rw [e, up9_eq]
      exact ⟨j, rfl, hj, p, r, p0, r0, r1, hs⟩
    · rw [up9_ne (by omega)]
      exact h2 a a0 (by omega)
  · rw [up9_eq]
    rcases hD with hD | ⟨rfl, rfl⟩
    · obtain ⟨a, j', ha, ea, hj', ej⟩ := h3 p' r' y p0' r0' r1' hD hs'
      exact ⟨a, j', by omega, by rw [up9_ne (by omega)]; exact ea, hj', ej⟩
    · rw [hs] at hs'
      cases hs'
      exact ⟨m, j, by omega, up9_eq _ _ _, hj, rfl⟩
end
/-- what stands while strings are gathered, k of them done -/
def LD9 (σ τ : S9) (n : Int) (lf rg : Int → List Int) (R : Int) (g : List (List Int)) (k : Nat) : Prop :=
  eq9 (fun x => x ≠ 97 ∧ x ≠ 123 ∧ x ≠ 128 ∧ x ≠ 129) σ τ ∧ gI τ 97 = up9 (gI σ 97) 40 g.length ∧ (∀ i : Nat, i < g.length → gL τ 123 i = em9 (g.getD i [])) ∧ (1 ≤ g.length ∧ g.length ≤ 200) ∧ (∀ z ∈ g, OkL n 12 z) ∧ ∀ i : Nat, i < k → i < g.length → AX9 (gI τ 129) (gI τ 128) lf rg R g i (fun _ _ => True)
def LQ9 (σ τ : S9) (n : Int) (lf rg : Int → List Int) (R : Int) (g : List (List Int)) (k p r : Nat) : Prop :=
  LD9 σ τ n lf rg R g k ∧ k < g.length ∧ AX9 (gI τ 129) (gI τ 128) lf rg R g k (fun p' r' => p' < p ∨ (p' = p ∧ r' < r)) ∧ gI τ 129 k ≤ 8 * p + r
section
variable {d : Nat} {n R : Int} {lf rg : Int → List Int} {wt lev : Int → Int} {stt : Int} {ap : Int → UInt32} {str : List Int} {σ : S9}
theorem SyM.fnd (c : SyMn σ n R lf rg wt lev stt ap str) {τ : S9} {m : Int} (e1 : eq9 (fun k => k < 97 ∨ (97 < k ∧ k < 123)) σ τ) (e2 : gI τ 97 = up9 (gI σ 97) 40 m) : SyMn τ n R lf rg wt lev stt ap str := by
  obtain ⟨c1, c2, c3, c4, c5, c6, c7⟩ := c
  refine ⟨by rw [e2, up9_ne (by decide)]; exact c1, by rw [e2, up9_ne (by decide)]; exact c2, by rw [e2, up9_ne (by decide)]; exact c3, by rw [e2, up9_ne (by decide)]; exact c4, ?_, ?_, ?_⟩
  · rw [(e1 98 (by decide)).1, (e1 99 (by decide)).1]; exact c5
  · rw [(e1 100 (by decide)).1, (e1 101 (by decide)).1, (e1 102 (by decide)).2.2.1]; exact c6
  · rw [(e1 104 (by decide)).1]; exact c7
theorem LD9.sy {τ : S9} {g : List (List Int)} {k : Nat} (c : SyMn σ n R lf rg wt lev stt ap str) (H : LD9 σ τ n lf rg R g k) : SyMn τ n R lf rg wt lev stt ap str := c.fnd (H.1.mono (fun k hk => by omega)) H.2.1
theorem LD9.fm {τ : S9} {g : List (List Int)} {k : Nat} (v : Va n R lf rg wt lev stt ap str) (H : LD9 σ τ n lf rg R g k) : FM9 τ g := ⟨by rw [H.2.1, up9_eq], H.2.2.1, H.2.2.2.1.2, fun z hz => v.o6 (H.2.2.2.2.1 z hz)⟩
theorem c_X10_longestDerivation {P : Int → S9 → Prop} (v : Va n R lf rg wt lev stt ap str) (c : SyMn σ n R lf rg wt lev stt ap str) (h0 : bf9 lf rg R str 200 = none → ∀ τ, eq9 (fun x => x ≠ 97 ∧ x ≠ 123 ∧ x ≠ 127 ∧ x ≠ 128 ∧ x ≠ 129) σ τ → (∃ m, gI τ 97 = up9 (gI σ 97) 40 m) → P (-7) τ) (h1 : ∀ g a, bf9 lf rg R str 200 = some g → Ans9 lf rg R str a → ∀ τ, eq9 (fun x => x ≠ 97 ∧ x ≠ 123 ∧ x ≠ 127 ∧ x ≠ 128 ∧ x ≠ 129) σ τ → (∃ m, gI τ 97 = up9 (gI σ 97) 40 m) → P a τ) : Cc (d + 3) mX10_longestDerivation [.ref 97] σ (QI P) := by
  have hn := v.1
  have hR := v.2.1
  have ostr := v.2.2.2.2.2
  have hlr : ∀ r, 0 ≤ r → r < R → 1 ≤ (lf r).length := fun r a b => (v.2.2.1 r a b).2.1
  have hRn : (R.toNat : Int) = R := by omega
  refine Cc_of (by decide +kernel) (fun _ => Nat.le_of_ble_eq_true rfl) rfl (lv := [_, _, _, _, _, _, _, _]) ?_
  have K1 : ∀ (m k : Nat) (τ : S9) (g : List (List Int)), k + m = 200 → bf9 lf rg R str k = some g → k ≤ g.length → LD9 σ τ n lf rg R g k → ∀ l2 l3 l4 l5 l6 l7, Vv (d + 3) mX10_longestDerivation 17 [.ref 97, .int (iI k), l2, l3, l4, l5, l6, l7] [] τ (QI P) := by
    have KE : ∀ (k : Nat) (τ : S9) (g : List (List Int)), k ≤ 200 → bf9 lf rg R str k = some g → k = g.length → LD9 σ τ n lf rg R g k → ∀ l2 l3 l4 l5 l6 l7, Vv (d + 3) mX10_longestDerivation 17 [.ref 97, .int (iI k), l2, l3, l4, l5, l6, l7] [] τ (QI P) := by
      intro k τ g hk hb hkg H l2 l3 l4 l5 l6 l7
      have B := bf9_ok (by omega) hlr k hb
      rw [hkg] at B
      have am := (H.fm v).1
      have hb2 := bf9_stay hb (by omega) (200 - k)
      rw [show k + (200 - k) = 200 by omega] at hb2
      have A : ∀ i : Nat, i < g.length → AX9 (gI τ 129) (gI τ 128) lf rg R g i (fun _ _ => True) := fun i hi => H.2.2.2.2.2 i (by omega) hi
      refine v_iload_n dX10_longestDerivation_17 rfl ?_
      refine v_aload_n dX10_longestDerivation_18 rfl ?_
      refine v_getI (ji := 40) dX10_longestDerivation_19 s_97 fX10_235 rfl ?_
      rw [am]
      refine v_icmp_ge (tgt := 185) dX10_longestDerivation_22 (by decide) (by omega) (fun q22 => ?_) (fun q22 => absurd q22 (by omega))
      refine v_aload_n dX10_longestDerivation_185 rfl ?_
      refine v_callVi0 dX10_longestDerivation_186 kX10_241 s_97 (Nat.le_of_ble_eq_true rfl) (c_X10_deepestOf B am A (fun a υ ha hu => ?_))
      exact v_ireturn dX10_longestDerivation_189 rfl (h1 g a hb2 ha υ ((H.1.mono (fun x hx => ⟨hx.1, hx.2.1, hx.2.2.2.1, hx.2.2.2.2⟩)).tr (hu.mono (fun x hx => hx.2.2.1))) ⟨g.length, by rw [(hu 97 (by decide)).1]; exact H.2.1⟩)
    intro m
    induction m with
    | zero =>
      intro k τ g hk hb hkg H l2 l3 l4 l5 l6 l7
      exact KE k τ g (by omega) hb (by have := H.2.2.2.1; omega) H _ _ _ _ _ _
    | succ m ih =>
      intro k τ1 g1 hk hb hkg H1 l2 l3 l4 l5 l6 l7
      by_cases hkl : k = g1.length
      · exact KE k τ1 g1 (by omega) hb hkl H1 _ _ _ _ _ _
      have hk1 : k < g1.length := by omega
      have am1 := (H1.fm v).1
      have hg1 := H1.2.2.2.1
      have ew1 := H1.2.2.1 k hk1
      have ow := H1.2.2.2.2.1 _ (gtD_mem hk1)
      obtain ⟨w, ew⟩ : ∃ w, g1.getD k [] = w := ⟨_, rfl⟩
      rw [ew] at ow ew1
      have o6w := v.o6 ow
      have lw := ow.2
      have hbn : xp9 lf rg R w g1 w.length = none → bf9 lf rg R str 200 = none := fun z => by
        have h2 : bf9 lf rg R str (k + 1) = none := by
          rw [bf9, hb]
          show (if k < g1.length then xp9 lf rg R (g1.getD k []) g1 (g1.getD k []).length else some g1) = none
          rw [if_pos hk1, ew]
          exact z
        have h3 := bf9_none h2 (199 - k)
        rw [show k + 1 + (199 - k) = 200 by omega] at h3
        exact h3
      have K2 : ∀ (q p : Nat) (τ : S9) (g2 : List (List Int)), p + q = w.length → xp9 lf rg R w g1 p = some g2 → LQ9 σ τ n lf rg R g2 k p 0 → ∀ l4 l5 l6 l7, Vv (d + 3) mX10_longestDerivation 44 [.ref 97, .int (iI k), .int (iI w.length), .int (iI p), l4, l5, l6, l7] [] τ (QI P) := by
        intro q
        induction q with
        | zero =>
          intro p τ g2 hp hx H l4 l5 l6 l7
          have hb2 : bf9 lf rg R str (k + 1) = some g2 := by
            rw [bf9, hb]
            show (if k < g1.length then xp9 lf rg R (g1.getD k []) g1 (g1.getD k []).length else some g1) = _
            rw [if_pos hk1, ew, show w.length = p by omega]
            exact hx
          obtain ⟨l, el⟩ := xp9_mono _ hx
          have ek : g2.getD k [] = w := by rw [el, gtD_appl hk1, ew]
          refine v_iload_n dX10_longestDerivation_44 rfl ?_
          refine v_iload_n dX10_longestDerivation_45 rfl ?_
          refine v_icmp_ge (tgt := 179) dX10_longestDerivation_46 (by decide) (by omega) (fun q46 => ?_) (fun q46 => absurd q46 (by omega))
          refine v_iinc (lv' := [_, _, _, _, _, _, _, _]) dX10_longestDerivation_179 rfl (Nat.le_of_ble_eq_true rfl) rfl rfl ?_
          refine v_goto (tgt := 17) dX10_longestDerivation_182 (by decide) ?_
          refine ih (k + 1) τ g2 (by omega) hb2 (by have := H.2.1; omega) ⟨H.1.1, H.1.2.1, H.1.2.2.1, H.1.2.2.2.1, H.1.2.2.2.2.1, fun i i1 i2 => ?_⟩ _ _ _ _ _ _
          by_cases e : i = k
          · rw [e]; exact H.2.2.1.dom (fun p2 r2 y p0 r0 r1 _ hs => by rw [ek] at hs; have := stp9_lt (hlr r2 r0 r1) hs; omega)
          · exact H.1.2.2.2.2.2 i (by omega) i2
        | succ q ih2 =>
          intro p τ2 g2 hp hx H2 l4 l5 l6 l7
          obtain ⟨lx, elx⟩ := xp9_mono _ hx
          have hxn : xr9 lf rg w p g2 R.toNat = none → bf9 lf rg R str 200 = none := fun z => by
            refine hbn ?_
            have h2 : xp9 lf rg R w g1 (p + 1) = none := by
              rw [xp9, hx]
              exact z
            have h3 := xp9_none h2 q
            rw [show p + 1 + q = w.length by omega] at h3
            exact h3
          have K3 : ∀ (q r : Nat) (τ : S9) (g3 : List (List Int)), (r : Int) + q = R → xr9 lf rg w p g2 r = some g3 → LQ9 σ τ n lf rg R g3 k p r → ∀ l5 l6 l7, Vv (d + 3) mX10_longestDerivation 52 [.ref 97, .int (iI k), .int (iI w.length), .int (iI p), .int (iI r), l5, l6, l7] [] τ (QI P) := by
            intro q
            induction q with
            | zero =>
              intro r τ g3 hr hx3 H l5 l6 l7
              have ec := (H.1.sy c).2.1
              have hx2 : xp9 lf rg R w g1 (p + 1) = some g3 := by
                rw [xp9, hx]
                show xr9 lf rg w p g2 R.toNat = _
                rw [show R.toNat = r by omega]
                exact hx3
              refine v_iload dX10_longestDerivation_52 rfl ?_
              refine v_aload_n dX10_longestDerivation_54 rfl ?_
              refine v_getI (ji := 1) dX10_longestDerivation_55 s_97 fX10_119 rfl ?_
              rw [ec]
              refine v_icmp_ge (tgt := 173) dX10_longestDerivation_58 (by decide) (by omega) (fun q58 => ?_) (fun q58 => absurd q58 (by omega))
              refine v_iinc (lv' := [_, _, _, _, _, _, _, _]) dX10_longestDerivation_173 rfl (Nat.le_of_ble_eq_true rfl) rfl rfl ?_
              refine v_goto (tgt := 44) dX10_longestDerivation_176 (by decide) ?_
              refine ih2 (p + 1) τ g3 (by omega) hx2 ⟨H.1, H.2.1, H.2.2.1.dom (fun p2 r2 y p0 r0 r1 hD _ => ?_), ?_⟩ _ _ _ _
              · omega
              · have := H.2.2.2; omega
            | succ q ih3 =>
              intro r τ g3 hr hx3 H l5 l6 l7
              have cT := H.1.sy c
              have ec := cT.2.1
              have FM := H.1.fm v
              have hg3 := FM.2.2.1
              have zr : (0 : Int) ≤ r ∧ (r : Int) < R := by omega
              obtain ⟨ly, ely⟩ := xr9_mono _ hx3
              have hk3 := H.2.1
              have ek3 : g3.getD k [] = w := by rw [ely, gtD_appl (by rw [elx, List.length_append]; omega), elx, gtD_appl hk1, ew]
              have ef3 : gL τ 123 k = em9 w := by rw [FM.2.1 k hk3, ek3]
              have hxs : xr9 lf rg w p g2 (r + 1) = st9 g3 (stp9 (lf r) (rg r) w p) := by rw [xr9, hx3]; rfl
              have K5 : ∀ (j : Nat) (y : List Int) (g4 l : List (List Int)) (υ : S9), stp9 (lf r) (rg r) w p = some y → st9 g3 (some y) = some g4 → g4 = g3 ++ l → j < g4.length → g4.getD j [] = y → (∀ z ∈ g4, OkL n 12 z) → g4.length ≤ 200 → eq9 (fun x => x ≠ 97 ∧ x ≠ 123 ∧ x ≠ 128 ∧ x ≠ 129) τ υ → gI υ 97 = up9 (gI σ 97) 40 g4.length → (∀ i : Nat, i < g4.length → gL υ 123 i = em9 (g4.getD i [])) → gI υ 128 = gI τ 128 → gI υ 129 = gI τ 129 → Vv (d + 3) mX10_longestDerivation 139 [.ref 97, .int (iI k), .int (iI w.length), .int (iI p), .int (iI r), .long (lI (em9 y)), .null, .int (iI j)] [] υ (QI P) := by
                intro j y g4 l υ hs hst e4 hj ej ho hle u1 u2 u3 u4 u5
                obtain ⟨mm, emm⟩ : ∃ mm, gI τ 129 k = mm := ⟨_, rfl⟩
                have b1 := H.2.2.2
                have b2 := H.2.2.1.1
                rw [emm] at b1 b2
                have emu : gI υ 129 k = mm := by rw [u5]; exact emm
                have ek4 : g4.getD k [] = w := by rw [e4, gtD_appl hk3]; exact ek3
                refine v_aload_n dX10_longestDerivation_139 rfl ?_
                refine v_getR (k1 := 128) dX10_longestDerivation_140 s_97 fX10_109 rfl ?_
                refine v_bipush dX10_longestDerivation_143 (by decide) ?_
                refine v_iload_n dX10_longestDerivation_145 rfl ?_
                refine v_imul dX10_longestDerivation_146 ?_
                refine v_aload_n dX10_longestDerivation_147 rfl ?_
                refine v_getR (k1 := 129) dX10_longestDerivation_148 s_97 fX10_112 rfl ?_
                refine v_iload_n dX10_longestDerivation_151 rfl ?_
                refine v_iaload dX10_longestDerivation_152 s_129 (by omega) ?_
                rw [emu]
                refine v_iadd dX10_longestDerivation_153 ?_
                refine v_iload dX10_longestDerivation_154 rfl ?_
                refine v_iastore dX10_longestDerivation_156 s_128 (by omega) ?_
                refine v_aload_n dX10_longestDerivation_157 rfl ?_
                refine v_getR (k1 := 129) dX10_longestDerivation_158 s_97 fX10_112 rfl ?_
                refine v_iload_n dX10_longestDerivation_161 rfl ?_
                refine v_dup2 dX10_longestDerivation_162 rfl rfl ?_
                refine v_iaload dX10_longestDerivation_163 s_129 (by omega) ?_
                rw [gI_aI_ne (by decide), emu]
                refine v_iconst dX10_longestDerivation_164 ?_
                refine v_iadd dX10_longestDerivation_165 ?_
                refine v_iastore dX10_longestDerivation_166 s_129 (by omega) ?_
                refine v_iinc (lv' := [_, _, _, _, _, _, _, _]) dX10_longestDerivation_167 rfl (Nat.le_of_ble_eq_true rfl) rfl rfl ?_
                refine v_goto (tgt := 52) dX10_longestDerivation_170 (by decide) ?_
                refine ih3 (r + 1) _ g4 (by omega) (by rw [hxs, hs]; exact hst) ⟨⟨((H.1.1.tr u1).tr (eq9.aI (fun z => z.2.2.1 rfl))).tr (eq9.aI (fun z => z.2.2.2 rfl)), ?_, u3, ⟨by omega, hle⟩, ho, fun i i1 i2 => ?_⟩, by rw [e4, List.length_append]; omega, ?_, ?_⟩ _ _ _
                · rw [gI_aI_ne (by decide), gI_aI_ne (by decide)]; exact u2
                · rw [gI_aI_eq, gI_aI_ne (by decide), gI_aI_ne (by decide), gI_aI_eq, u4, u5]
                  have hi3 := H.1.2.2.2.2.2 i i1 (by omega)
                  have hb := hi3.1
                  rw [e4]
                  exact hi3.app (by omega) (up9_ne (by omega)) (fun a a0 a1 => up9_ne (by omega))
                · rw [gI_aI_eq, gI_aI_ne (by decide), gI_aI_ne (by decide), gI_aI_eq, u4, u5]
                  have h9 := H.2.2.1.app hk3 (l := l) (am' := gI τ 129) (ar' := gI τ 128) rfl (fun _ _ _ => rfl)
                  rw [← e4] at h9
                  have h10 := h9.put emm (by omega) hj (p := p) (r := r) (by omega) zr.1 zr.2 (by rw [ek4, ej]; exact hs)
                  exact h10.dom (fun p2 r2 y p0 r0 r1 hD _ => by omega)
                · rw [gI_aI_eq, up9_eq]; omega
              have E1 : ∀ ys, stp9 (lf r) (rg r) w p = some ys → ys ∈ g3 → st9 g3 (some ys) = some g3 := fun ys hs hm => if_pos hm
              have E2 : ∀ ys, stp9 (lf r) (rg r) w p = some ys → ys ∉ g3 → g3.length < 200 → st9 g3 (some ys) = some (g3 ++ [ys]) := fun ys hs hm hl => by
                show (if ys ∈ g3 then some g3 else if g3.length < 200 then some (g3 ++ [ys]) else none) = _
                rw [if_neg hm, if_pos hl]
              have E3 : ∀ ys, stp9 (lf r) (rg r) w p = some ys → ys ∉ g3 → ¬ g3.length < 200 → bf9 lf rg R str 200 = none := fun ys hs hm hl => by
                refine hxn ?_
                have h2 : xr9 lf rg w p g2 (r + 1) = none := by
                  rw [hxs, hs]
                  show (if ys ∈ g3 then some g3 else if g3.length < 200 then some (g3 ++ [ys]) else none) = _
                  rw [if_neg hm, if_neg hl]
                have h3 := xr9_none h2 q
                rw [show r + 1 + q = R.toNat by omega] at h3
                exact h3
              refine v_iload dX10_longestDerivation_52 rfl ?_
              refine v_aload_n dX10_longestDerivation_54 rfl ?_
              refine v_getI (ji := 1) dX10_longestDerivation_55 s_97 fX10_119 rfl ?_
              rw [ec]
              refine v_icmp_ge (tgt := 173) dX10_longestDerivation_58 (by decide) (by omega) (fun q58 => absurd q58 (by omega)) (fun q58 => ?_)
              refine v_aload_n dX10_longestDerivation_61 rfl ?_
              refine v_aload_n dX10_longestDerivation_62 rfl ?_
              refine v_getR (k1 := 123) dX10_longestDerivation_63 s_97 fX10_94 rfl ?_
              refine v_iload_n dX10_longestDerivation_66 rfl ?_
              refine v_laload dX10_longestDerivation_67 s_123 (by omega) ?_
              rw [ef3]
              refine v_iload dX10_longestDerivation_68 rfl ?_
              refine v_iload_n dX10_longestDerivation_70 rfl ?_
              refine v_callVl3 dX10_longestDerivation_71 kX10_222 s_97 (Nat.le_of_ble_eq_true rfl) (c_X10_step9 v cT o6w zr (by omega) (fun ys hs => ?_) (fun hs => ?_))
              · have oy := stp9_ok v zr ow hs
                have by2 := (v.o6 oy).bd
                refine v_lstore (lv' := [_, _, _, _, _, _, _, _]) dX10_longestDerivation_74 (Nat.le_of_ble_eq_true rfl) rfl rfl ?_
                refine v_lload dX10_longestDerivation_76 rfl ?_
                refine v_ldc2 dX10_longestDerivation_78 wX10_212 ?_
                refine v_lcmp_eq (tgt := 167) dX10_longestDerivation_81 dX10_longestDerivation_82 (by decide) (by omega) (fun q81 => absurd q81 (by omega)) (fun q81 => ?_)
                refine v_aload_n dX10_longestDerivation_85 rfl ?_
                refine v_lload dX10_longestDerivation_86 rfl ?_
                refine v_callVi1 dX10_longestDerivation_88 kX10_238 s_97 (Nat.le_of_ble_eq_true rfl) (c_X10_placeOf (v.o6 oy) FM (fun i hi ei => ?_) (fun hni => ?_))
                · have amj : gI (sL τ 123 i (em9 ys)) 97 40 = g3.length := FM.1
                  refine v_istore (lv' := [_, _, _, _, _, _, _, _]) dX10_longestDerivation_91 (Nat.le_of_ble_eq_true rfl) rfl rfl ?_
                  refine v_iload dX10_longestDerivation_93 rfl ?_
                  refine v_sipush dX10_longestDerivation_95 (by decide) ?_
                  refine v_icmp_ne (tgt := 104) dX10_longestDerivation_98 (by decide) (by omega) (fun q98 => ?_) (fun q98 => absurd q98 (by omega))
                  refine v_aload_n dX10_longestDerivation_104 rfl ?_
                  refine v_getR (k1 := 123) dX10_longestDerivation_105 s_97 fX10_94 rfl ?_
                  refine v_iload dX10_longestDerivation_108 rfl ?_
                  refine v_lload dX10_longestDerivation_110 rfl ?_
                  refine v_lastore dX10_longestDerivation_112 s_123 (by omega) ?_
                  refine v_aload_n dX10_longestDerivation_113 rfl ?_
                  refine v_iload dX10_longestDerivation_114 rfl ?_
                  refine v_aload_n dX10_longestDerivation_116 rfl ?_
                  refine v_getI (ji := 40) dX10_longestDerivation_117 s_97 fX10_235 rfl ?_
                  rw [amj]
                  refine v_icmp_ne (tgt := 132) dX10_longestDerivation_120 (by decide) (by omega) (fun q120 => ?_) (fun q120 => absurd q120 (by omega))
                  refine v_aload_n dX10_longestDerivation_132 rfl ?_
                  refine v_getI (ji := 40) dX10_longestDerivation_133 s_97 fX10_235 rfl ?_
                  rw [amj]
                  refine v_putI (ji := 40) dX10_longestDerivation_136 s_97 pfX10_235 rfl ?_
                  refine K5 i ys g3 [] _ hs (E1 ys hs (ei ▸ gtD_mem hi)) (List.append_nil _).symm hi ei H.1.2.2.2.2.1 hg3 ((eq9.aL (fun z => z.2.1 rfl)).tr (eq9.aI (fun z => z.1 rfl))) ?_ (fun j hj => ?_) (gI_aI_ne (by decide)) (gI_aI_ne (by decide))
                  · rw [gI_aI_eq]
                    show up9 (gI τ 97) 40 _ = _
                    rw [H.1.2.1, up9_up9]
                  · show gL (sL τ 123 i (em9 ys)) 123 j = _
                    rw [gL_aL_eq]
                    by_cases e : j = i
                    · rw [e, up9_eq, ei]
                    · rw [up9_ne (by omega)]; exact FM.2.1 j hj
                · have amj : ∀ z, gI (sL τ 123 g3.length z) 97 40 = g3.length := fun z => FM.1
                  refine v_istore (lv' := [_, _, _, _, _, _, _, _]) dX10_longestDerivation_91 (Nat.le_of_ble_eq_true rfl) rfl rfl ?_
                  refine v_iload dX10_longestDerivation_93 rfl ?_
                  refine v_sipush dX10_longestDerivation_95 (by decide) ?_
                  refine v_icmp_ne (tgt := 104) dX10_longestDerivation_98 (by decide) (by omega) (fun q98 => ?_) (fun q98 => ?_)
                  · refine v_aload_n dX10_longestDerivation_104 rfl ?_
                    refine v_getR (k1 := 123) dX10_longestDerivation_105 s_97 fX10_94 rfl ?_
                    refine v_iload dX10_longestDerivation_108 rfl ?_
                    refine v_lload dX10_longestDerivation_110 rfl ?_
                    refine v_lastore dX10_longestDerivation_112 s_123 (by omega) ?_
                    refine v_aload_n dX10_longestDerivation_113 rfl ?_
                    refine v_iload dX10_longestDerivation_114 rfl ?_
                    refine v_aload_n dX10_longestDerivation_116 rfl ?_
                    refine v_getI (ji := 40) dX10_longestDerivation_117 s_97 fX10_235 rfl ?_
                    rw [amj]
                    refine v_icmp_ne (tgt := 132) dX10_longestDerivation_120 (by decide) (by omega) (fun q120 => absurd q120 (by omega)) (fun q120 => ?_)
                    refine v_aload_n dX10_longestDerivation_123 rfl ?_
                    refine v_getI (ji := 40) dX10_longestDerivation_124 s_97 fX10_235 rfl ?_
                    refine v_iconst dX10_longestDerivation_127 ?_
                    refine v_iadd dX10_longestDerivation_128 ?_
                    refine v_goto (tgt := 136) dX10_longestDerivation_129 (by decide) ?_
                    try rw [amj]
                    refine v_putI (ji := 40) dX10_longestDerivation_136 s_97 pfX10_235 rfl ?_
                    refine K5 g3.length ys (g3 ++ [ys]) [ys] _ hs (E2 ys hs hni (by omega)) rfl (by rw [List.length_append]; exact Nat.lt_succ_self _) gtD_last (fun z hz => ?_) (by rw [List.length_append]; show g3.length + 1 ≤ 200; omega) ((eq9.aL (fun z => z.2.1 rfl)).tr (eq9.aI (fun z => z.1 rfl))) ?_ (fun j hj => ?_) (gI_aI_ne (by decide)) (gI_aI_ne (by decide))
                    · rcases List.mem_append.mp hz with hz | hz
                      · exact H.1.2.2.2.2.1 z hz
                      · rw [List.mem_singleton.mp hz]; exact oy
                    · rw [gI_aI_eq]
                      show up9 (gI τ 97) 40 _ = _
                      rw [H.1.2.1, up9_up9, List.length_append]
                      rfl
                    · show gL (sL τ 123 g3.length (em9 ys)) 123 j = _
                      rw [gL_aL_eq]
                      by_cases e : j = g3.length
                      · rw [e, up9_eq, gtD_last]
                      · rw [List.length_append] at hj
                        have hj : j < g3.length + 1 := hj
                        rw [up9_ne (by omega), gtD_appl (by omega)]; exact FM.2.1 j (by omega)
                  · refine v_bipush dX10_longestDerivation_101 (by decide) ?_
                    exact v_ireturn dX10_longestDerivation_103 rfl (h0 (E3 ys hs hni (by omega)) τ (H.1.1.mono (fun x hx => ⟨hx.1, hx.2.1, hx.2.2.2.1, hx.2.2.2.2⟩)) ⟨g3.length, H.1.2.1⟩)
              · refine v_lstore (lv' := [_, _, _, _, _, _, _, _]) dX10_longestDerivation_74 (Nat.le_of_ble_eq_true rfl) rfl rfl ?_
                refine v_lload dX10_longestDerivation_76 rfl ?_
                refine v_ldc2 dX10_longestDerivation_78 wX10_212 ?_
                refine v_lcmp_eq (tgt := 167) dX10_longestDerivation_81 dX10_longestDerivation_82 (by decide) (by decide) (fun q81 => ?_) (fun q81 => absurd rfl q81)
                refine v_iinc (lv' := [_, _, _, _, _, _, _, _]) dX10_longestDerivation_167 rfl (Nat.le_of_ble_eq_true rfl) rfl rfl ?_
                refine v_goto (tgt := 52) dX10_longestDerivation_170 (by decide) ?_
                refine ih3 (r + 1) τ g3 (by omega) (by rw [hxs, hs]; rfl) ⟨H.1, H.2.1, H.2.2.1.dom (fun p2 r2 y p0 r0 r1 hD hs2 => ?_), by have := H.2.2.2; omega⟩ _ _ _
                rcases hD with hD | ⟨hD, hE⟩
                · exact Or.inl hD
                · by_cases e : r2 = (r : Int)
                  · rw [ek3, e, hD, hs] at hs2; cases hs2
                  · exact Or.inr ⟨hD, by omega⟩
          refine v_iload_n dX10_longestDerivation_44 rfl ?_
          refine v_iload_n dX10_longestDerivation_45 rfl ?_
          refine v_icmp_ge (tgt := 179) dX10_longestDerivation_46 (by decide) (by omega) (fun q46 => absurd q46 (by omega)) (fun q46 => ?_)
          refine v_iconst dX10_longestDerivation_49 ?_
          refine v_istore (lv' := [_, _, _, _, _, _, _, _]) dX10_longestDerivation_50 (Nat.le_of_ble_eq_true rfl) rfl rfl ?_
          exact K3 R.toNat 0 τ2 g2 (by omega) rfl H2 _ _ _
      refine v_iload_n dX10_longestDerivation_17 rfl ?_
      refine v_aload_n dX10_longestDerivation_18 rfl ?_
      refine v_getI (ji := 40) dX10_longestDerivation_19 s_97 fX10_235 rfl ?_
      rw [am1]
      refine v_icmp_ge (tgt := 185) dX10_longestDerivation_22 (by decide) (by omega) (fun q22 => absurd q22 (by omega)) (fun q22 => ?_)
      refine v_aload_n dX10_longestDerivation_25 rfl ?_
      refine v_getR (k1 := 123) dX10_longestDerivation_26 s_97 fX10_94 rfl ?_
      refine v_iload_n dX10_longestDerivation_29 rfl ?_
      refine v_laload dX10_longestDerivation_30 s_123 (by omega) ?_
      rw [ew1]
      refine v_callSi1 dX10_longestDerivation_31 kX10_204 (Nat.le_of_ble_eq_true rfl) (c_X10_sizeOf o6w ?_)
      refine v_istore_n (lv' := [_, _, _, _, _, _, _, _]) dX10_longestDerivation_34 (Nat.le_of_ble_eq_true rfl) rfl rfl ?_
      refine v_aload_n dX10_longestDerivation_35 rfl ?_
      refine v_getR (k1 := 129) dX10_longestDerivation_36 s_97 fX10_112 rfl ?_
      refine v_iload_n dX10_longestDerivation_39 rfl ?_
      refine v_iconst dX10_longestDerivation_40 ?_
      refine v_iastore dX10_longestDerivation_41 s_129 (by omega) ?_
      refine v_iconst dX10_longestDerivation_42 ?_
      refine v_istore_n (lv' := [_, _, _, _, _, _, _, _]) dX10_longestDerivation_43 (Nat.le_of_ble_eq_true rfl) rfl rfl ?_
      refine K2 w.length 0 _ g1 (by omega) rfl ⟨⟨H1.1.tr (eq9.aI (fun z => z.2.2.2 rfl)), ?_, H1.2.2.1, H1.2.2.2.1, H1.2.2.2.2.1, fun i i1 i2 => ?_⟩, hk1, ?_, ?_⟩ _ _ _ _
      · rw [gI_aI_ne (by decide)]; exact H1.2.1
      · rw [gI_aI_eq, gI_aI_ne (by decide)]
        have h9 := (H1.2.2.2.2.2 i i1 i2).app i2 (l := []) (am' := up9 (gI τ1 129) k 0) (ar' := gI τ1 128) (up9_ne (by omega)) (fun _ _ _ => rfl)
        rw [List.append_nil] at h9
        exact h9
      · rw [gI_aI_eq]
        exact ⟨by rw [up9_eq]; omega, fun a a0 a1 => by rw [up9_eq] at a1; omega, fun p2 r2 y p0 r0 r1 hD _ => by omega⟩
      · rw [gI_aI_eq, up9_eq]; omega
  refine v_aload_n dX10_longestDerivation_0 rfl ?_
  refine v_getR (k1 := 123) dX10_longestDerivation_1 s_97 fX10_94 rfl ?_
  refine v_iconst dX10_longestDerivation_4 ?_
  refine v_aload_n dX10_longestDerivation_5 rfl ?_
  refine v_callVl0 dX10_longestDerivation_6 kX10_218 s_97 (Nat.le_of_ble_eq_true rfl) (c_X10_current v c ?_)
  refine v_lastore dX10_longestDerivation_9 s_123 (by omega) ?_
  refine v_aload_n dX10_longestDerivation_10 rfl ?_
  refine v_iconst dX10_longestDerivation_11 ?_
  refine v_putI (ji := 40) dX10_longestDerivation_12 s_97 pfX10_235 rfl ?_
  refine v_iconst dX10_longestDerivation_15 ?_
  refine v_istore_n (lv' := [_, _, _, _, _, _, _, _]) dX10_longestDerivation_16 (Nat.le_of_ble_eq_true rfl) rfl rfl ?_
  refine K1 200 0 _ [str] (by omega) rfl (by simp) ⟨(eq9.aL (fun z => z.2.1 rfl)).tr (eq9.aI (fun z => z.1 rfl)), ?_, fun i hi => ?_, ⟨Nat.le_refl _, by show 1 ≤ 200; decide⟩, fun z hz => ?_, fun i i1 => by omega⟩ _ _ _ _ _ _
  · rw [gI_aI_eq]; rfl
  · have hi : i < 1 := hi
    rw [show i = 0 by omega]
    show gL (sL σ 123 0 (em9 str)) 123 0 = _
    rw [gL_aL_eq, up9_eq]
    rfl
  · rw [List.mem_singleton.mp hz]; exact ostr
end
