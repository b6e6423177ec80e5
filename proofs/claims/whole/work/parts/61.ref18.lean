/-! ===== the reference's derivations: the walk over arcs ===== -/
theorem pig9 : ∀ (N : Nat) (h : Nat → Nat), (∀ i, i ≤ N → h i < N) → ∃ i j, i < j ∧ j ≤ N ∧ h i = h j
  | 0, h, hh => absurd (hh 0 (Nat.le_refl _)) (Nat.not_lt_zero _)
  | N + 1, h, hh => by
    by_cases hx : ∃ i, i ≤ N ∧ h i = h (N + 1)
    · obtain ⟨i, hi, e⟩ := hx
      exact ⟨i, N + 1, by omega, Nat.le_refl _, e⟩
    · have hx2 : ∀ i, i ≤ N → h i ≠ h (N + 1) := fun i hi e => hx ⟨i, hi, e⟩
      obtain ⟨i, j, a, b, e⟩ := pig9 N (fun i => if h i = N then h (N + 1) else h i) (fun i hi => by
        have h1 := hh i (by omega)
        have h2 := hh (N + 1) (Nat.le_refl _)
        have h3 := hx2 i hi
        show (if h i = N then h (N + 1) else h i) < N
        split
        · omega
        · omega)
      have h3 := hx2 i (by omega)
      have h4 := hx2 j (by omega)
      have e : (if h i = N then h (N + 1) else h i) = (if h j = N then h (N + 1) else h j) := e
      refine ⟨i, j, a, by omega, ?_⟩
      split at e <;> split at e <;> omega
section
variable {lf rg : Int → List Int} {R : Int} {g : List (List Int)}
theorem dr9_cons {w y z : List Int} {L : Nat} (h : sc9 lf rg R w y) (h2 : dr9 lf rg R L y z) : dr9 lf rg R (L + 1) w z := by
  rw [Nat.add_comm]
  exact dr9_add (a := 1) ⟨w, rfl, h⟩ L h2
theorem dr9_fst {w : List Int} : ∀ (L : Nat) {z : List Int}, dr9 lf rg R (L + 1) w z → ∃ y, sc9 lf rg R w y ∧ dr9 lf rg R L y z
  | 0, z, ⟨x, h, h2⟩ => by cases h; exact ⟨z, h2, rfl⟩
  | L + 1, z, ⟨x, h, h2⟩ => by
    obtain ⟨y, a, b⟩ := dr9_fst L h
    exact ⟨y, a, x, b, h2⟩
theorem dr9_path {w : List Int} : ∀ (L : Nat) {z : List Int}, dr9 lf rg R L w z → ∃ f : Nat → List Int, f 0 = w ∧ f L = z ∧ ∀ i, i ≤ L → dr9 lf rg R i w (f i) ∧ ∀ j, i ≤ j → j ≤ L → dr9 lf rg R (j - i) (f i) (f j)
  | 0, z, h => by
    cases h
    refine ⟨fun _ => w, rfl, rfl, fun i hi => ⟨?_, fun j a b => ?_⟩⟩
    · rw [show i = 0 by omega]; rfl
    · rw [show j - i = 0 by omega]; rfl
  | L + 1, z, ⟨x, h, h2⟩ => by
    obtain ⟨f, f0, fL, ff⟩ := dr9_path L h
    have e1 : ∀ i, i ≤ L → (fun i => if i ≤ L then f i else z) i = f i := fun i hi => if_pos hi
    have e2 : (fun i => if i ≤ L then f i else z) (L + 1) = z := if_neg (by omega)
    refine ⟨fun i => if i ≤ L then f i else z, by rw [e1 0 (by omega)]; exact f0, e2, fun i hi => ?_⟩
    by_cases q : i ≤ L
    · rw [e1 i q]
      refine ⟨(ff i q).1, fun j a b => ?_⟩
      by_cases q2 : j ≤ L
      · rw [e1 j q2]; exact (ff i q).2 j a q2
      · rw [show j = L + 1 by omega, e2, show L + 1 - i = (L - i) + 1 by omega]
        exact ⟨x, fL ▸ (ff i q).2 L (by omega) (Nat.le_refl _), h2⟩
    · rw [show i = L + 1 by omega, e2]
      refine ⟨⟨x, h, h2⟩, fun j a b => ?_⟩
      rw [show j = L + 1 by omega, e2, Nat.sub_self]
      rfl
theorem dr9_inf {w z s : List Int} {L : Nat} (B : BF9 lf rg R s g g.length) (hw : w ∈ g) (h : dr9 lf rg R L w z) (hL : g.length ≤ L) : ∀ M, ∃ z, dr9 lf rg R M s z := by
  obtain ⟨f, f0, fL, ff⟩ := dr9_path L h
  obtain ⟨L0, h0⟩ := B.2.2.2.2.1 w hw
  have hin : ∀ i, i ≤ L → f i ∈ g := fun i hi => reach_in B (L0 + i) (dr9_add h0 i (ff i hi).1)
  have hc : ∀ i, ∃ k : Nat, i ≤ L → k < g.length ∧ g.getD k [] = f i := fun i => by
    by_cases q : i ≤ L
    · obtain ⟨k, a, b⟩ := mem_gtD (hin i q)
      exact ⟨k, fun _ => ⟨a, b⟩⟩
    · exact ⟨0, fun q2 => absurd q2 q⟩
  obtain ⟨k, hk⟩ := Classical.axiomOfChoice hc
  obtain ⟨i, j, a, b, e⟩ := pig9 g.length k (fun i hi => (hk i (by omega)).1)
  have e2 : f i = f j := by rw [← (hk i (by omega)).2, ← (hk j (by omega)).2, e]
  have hcy : dr9 lf rg R (j - i) (f i) (f i) := by
    have := (ff i (by omega)).2 j (by omega) (by omega)
    rw [← e2] at this
    exact this
  have hm : ∀ M : Nat, dr9 lf rg R (M * (j - i)) (f i) (f i) := fun M => by
    induction M with
    | zero => rw [Nat.zero_mul]; rfl
    | succ M ih => rw [Nat.succ_mul]; exact dr9_add ih _ hcy
  intro M
  have h5 := dr9_add (dr9_add h0 i (ff i (by omega)).1) _ (hm M)
  have h6 : M ≤ L0 + i + M * (j - i) := by
    have := Nat.le_mul_of_pos_right M (show 0 < j - i by omega)
    omega
  obtain ⟨D, hD⟩ := Nat.le.dest h6
  rw [← hD] at h5
  exact dr9_pre M D h5
def sd9 (f : Int → Int) : Nat → Int
  | 0 => 0
  | k + 1 => sd9 f k + f k
theorem sd9_congr {f h : Int → Int} : ∀ k : Nat, (∀ i : Nat, i < k → f i = h i) → sd9 f k = sd9 h k
  | 0, _ => rfl
  | k + 1, e => by unfold sd9; rw [sd9_congr k (fun i hi => e i (by omega)), e k (by omega)]
theorem sd9_up {f : Int → Int} {i : Nat} {x : Int} : ∀ k : Nat, i < k → sd9 (up9 f i x) k = sd9 f k + x - f i
  | 0, h => absurd h (Nat.not_lt_zero _)
  | k + 1, h => by
    unfold sd9
    by_cases e : i = k
    · rw [e, up9_eq, sd9_congr (h := f) k (fun j hj => up9_ne (by omega))]
      omega
    · rw [sd9_up k (by omega), up9_ne (by omega)]
      omega
theorem sd9_le {f : Int → Int} {M : Int} : ∀ k : Nat, (∀ i : Nat, i < k → f i ≤ M) → sd9 f k ≤ k * M
  | 0, _ => by unfold sd9; omega
  | k + 1, e => by
    have h1 := sd9_le k (fun i hi => e i (by omega))
    have h2 := e k (by omega)
    unfold sd9
    rw [Int.natCast_succ, Int.add_mul]
    omega
/-- the arcs of string k -/
def AX9 (am ar : Int → Int) (lf rg : Int → List Int) (R : Int) (g : List (List Int)) (k : Nat) (D : Int → Int → Prop) : Prop :=
  (0 ≤ am k ∧ am k ≤ 96) ∧ (∀ a : Int, 0 ≤ a → a < am k → ∃ j : Nat, ar (96 * (k : Int) + a) = j ∧ j < g.length ∧ sc9 lf rg R (g.getD k []) (g.getD j [])) ∧ ∀ p r y, 0 ≤ p → 0 ≤ r → r < R → D p r → stp9 (lf r) (rg r) (g.getD k []) p = some y → ∃ (a : Int) (j : Nat), (0 ≤ a ∧ a < am k) ∧ ar (96 * (k : Int) + a) = j ∧ j < g.length ∧ g.getD j [] = y
theorem ans_none {s : List Int} {f : Int → Int} {k : Nat} (B : BF9 lf rg R s g g.length) (hk : k < g.length) (h : ∃ z, dr9 lf rg R (f k).toNat (g.getD k []) z) (hL : (g.length : Int) ≤ f k) : Ans9 lf rg R s (-6) := by
  obtain ⟨z, h⟩ := h
  exact Or.inl ⟨rfl, dr9_inf B (gtD_mem hk) h (by omega)⟩
theorem ans_some {s : List Int} {f am ar : Int → Int} (B : BF9 lf rg R s g g.length) (A : ∀ k : Nat, k < g.length → AX9 am ar lf rg R g k (fun _ _ => True)) (h : ∀ i : Nat, i < g.length → 0 ≤ f i ∧ ∃ z, dr9 lf rg R (f i).toNat (g.getD i []) z) (hg : ∀ i : Nat, i < g.length → ∀ a : Int, 0 ≤ a → a < am i → f (ar (96 * (i : Int) + a)) + 1 ≤ f i) : Ans9 lf rg R s (f 0) := by
  have key : ∀ (L : Nat) (i : Nat), i < g.length → ∀ z, dr9 lf rg R L (g.getD i []) z → (L : Int) ≤ f i := by
    intro L
    induction L with
    | zero => intro i hi z _; have := (h i hi).1; omega
    | succ L ih =>
      intro i hi z hz
      obtain ⟨y, ⟨p, r, p0, r0, r1, hs⟩, hy⟩ := dr9_fst L hz
      obtain ⟨a, j, ha, ea, hj, ej⟩ := (A i hi).2.2 p r y p0 r0 r1 trivial hs
      have h1 := hg i hi a ha.1 ha.2
      have h2 := ih j hj z (by rw [ej]; exact hy)
      rw [ea] at h1
      omega
  have h0 := h 0 (by have := B.2.2.1; omega)
  have e0 : ((0 : Nat) : Int) = 0 := rfl
  rw [e0, B.2.1] at h0
  refine Or.inr ⟨(f 0).toNat, by omega, h0.2, fun z hz => ?_⟩
  have := key _ 0 (by have := B.2.2.1; omega) z (by rw [B.2.1]; exact hz)
  rw [e0] at this
  omega
end
/-- the strings of the reference's search -/
def FM9 (σ : S9) (g : List (List Int)) : Prop := gI σ 97 40 = g.length ∧ (∀ i : Nat, i < g.length → gL σ 123 i = em9 (g.getD i [])) ∧ g.length ≤ 200 ∧ ∀ z ∈ g, O6 z
section
variable {d : Nat} {n R : Int} {lf rg : Int → List Int} {wt lev : Int → Int} {stt : Int} {ap : Int → UInt32} {str : List Int} {σ : S9}
theorem c_X10_placeOf {g : List (List Int)} {y : List Int} {P : Int → S9 → Prop} (hy : O6 y) (H : FM9 σ g) (h1 : ∀ i : Nat, i < g.length → g.getD i [] = y → P i σ) (h0 : y ∉ g → P g.length σ) : Cc d mX10_placeOf [.ref 97, .long (lI (em9 y))] σ (QI P) := by
  obtain ⟨e1, e2, hl, hg⟩ := H
  have hyb := hy.bd
  refine Cc_of (by decide +kernel) (fun _ => Nat.le_of_ble_eq_true rfl) rfl (lv := [_, _, _, _]) ?_
  have K : ∀ (m : Nat) (j : Nat), j + m = g.length → (∀ i : Nat, i < j → g.getD i [] ≠ y) → Vv d mX10_placeOf 2 [.ref 97, .long (lI (em9 y)), .null, .int (iI j)] [] σ (QI P) := by
    intro m
    induction m with
    | zero =>
      intro j hj hI
      refine v_iload_n dX10_placeOf_2 rfl ?_
      refine v_aload_n dX10_placeOf_3 rfl ?_
      refine v_getI (ji := 40) dX10_placeOf_4 s_97 fX10_235 rfl ?_
      rw [e1]
      refine v_icmp_ge (tgt := 27) dX10_placeOf_7 (by decide) (by omega) (fun q7 => ?_) (fun q7 => absurd q7 (by omega))
      refine v_iload_n dX10_placeOf_27 rfl ?_
      exact v_ireturn dX10_placeOf_28 rfl (by rw [show j = g.length by omega]; exact h0 (fun q => by obtain ⟨i, a, b⟩ := mem_gtD q; exact hI i (by omega) b))
    | succ m ih =>
      intro j hj hI
      have e3 := e2 j (by omega)
      have ob := hg _ (gtD_mem (ws := g) (i := j) (by omega))
      have oj := ob.bd
      refine v_iload_n dX10_placeOf_2 rfl ?_
      refine v_aload_n dX10_placeOf_3 rfl ?_
      refine v_getI (ji := 40) dX10_placeOf_4 s_97 fX10_235 rfl ?_
      rw [e1]
      refine v_icmp_ge (tgt := 27) dX10_placeOf_7 (by decide) (by omega) (fun q7 => absurd q7 (by omega)) (fun q7 => ?_)
      refine v_aload_n dX10_placeOf_10 rfl ?_
      refine v_getR (k1 := 123) dX10_placeOf_11 s_97 fX10_94 rfl ?_
      refine v_iload_n dX10_placeOf_14 rfl ?_
      refine v_laload dX10_placeOf_15 s_123 (by omega) ?_
      rw [e3]
      refine v_lload_n dX10_placeOf_16 rfl ?_
      refine v_lcmp_eq (tgt := 27) dX10_placeOf_17 dX10_placeOf_18 (by decide) (by omega) (fun q17 => ?_) (fun q17 => ?_)
      · refine v_iload_n dX10_placeOf_27 rfl ?_
        exact v_ireturn dX10_placeOf_28 rfl (h1 j (by omega) (em9_inj ob hy q17))
      · refine v_iinc (lv' := [_, _, _, _]) dX10_placeOf_21 rfl (Nat.le_of_ble_eq_true rfl) rfl rfl ?_
        refine v_goto (tgt := 2) dX10_placeOf_24 (by decide) ?_
        refine ih (j + 1) (by omega) (fun i hi e => ?_)
        by_cases q : i = j
        · rw [q] at e; exact q17 (by rw [e])
        · exact hI i (by omega) e
  refine v_iconst dX10_placeOf_0 ?_
  refine v_istore_n (lv' := [_, _, _, _]) dX10_placeOf_1 (Nat.le_of_ble_eq_true rfl) rfl rfl ?_
  exact K g.length 0 (by omega) (fun i hi => by omega)
theorem c_X10_deepestOf {g : List (List Int)} {s : List Int} {P : Int → S9 → Prop} (B : BF9 lf rg R s g g.length) (em : gI σ 97 40 = g.length) (A : ∀ k : Nat, k < g.length → AX9 (gI σ 129) (gI σ 128) lf rg R g k (fun _ _ => True)) (h : ∀ a τ, Ans9 lf rg R s a → eq9 (fun k => k ≠ 127) σ τ → P a τ) : Cc d mX10_deepestOf [.ref 97] σ (QI P) := by
  have hN := B.2.2.2.1
  have hN1 := B.2.2.1
  refine Cc_of (by decide +kernel) (fun _ => Nat.le_of_ble_eq_true rfl) rfl (lv := [_, _, _, _, _]) ?_
  have KM : ∀ (m : Nat) (τ : S9), eq9 (fun k => k ≠ 127) σ τ → (∀ i : Nat, i < g.length → (0 ≤ gI τ 127 i ∧ gI τ 127 i ≤ g.length - 1) ∧ ∃ z, dr9 lf rg R (gI τ 127 i).toNat (g.getD i []) z) → (g.length : Int) * (g.length - 1) ≤ sd9 (gI τ 127) g.length + m → ∀ l2 l3 l4, Vv d mX10_deepestOf 25 [.ref 97, .int (iI 1), l2, l3, l4] [] τ (QI P) := by
    intro m
    induction m with
    | zero =>
      intro τ0 e0 hD0 hm l2 l3 l4
      have em0 : gI τ0 97 40 = g.length := by rw [(e0 97 (by decide)).1]; exact em
      have K2 : ∀ (q : Nat) (k b : Int) (τ : S9), k + 1 = q → q ≤ g.length → eq9 (fun k => k ≠ 127) σ τ → (∀ i : Nat, i < g.length → (0 ≤ gI τ 127 i ∧ gI τ 127 i ≤ g.length - 1) ∧ ∃ z, dr9 lf rg R (gI τ 127 i).toNat (g.getD i []) z) → sd9 (gI τ0 127) g.length ≤ sd9 (gI τ 127) g.length → (b = 0 ∨ b = 1) → (b = 1 → sd9 (gI τ0 127) g.length + 1 ≤ sd9 (gI τ 127) g.length) → (b = 0 → ∀ i : Nat, q ≤ i → i < g.length → ∀ a : Int, 0 ≤ a → a < gI σ 129 i → gI τ 127 (gI σ 128 (96 * (i : Int) + a)) + 1 ≤ gI τ 127 i) → ∀ l3 l4, Vv d mX10_deepestOf 38 [.ref 97, .int (iI b), .int (iI k), l3, l4] [] τ (QI P) := by
        intro q
        induction q with
        | zero =>
          intro k b τ hk hq e1 hD hS hb hb1 hb0 l3 l4
          rcases hb with rfl | rfl
          · have h8 := h (gI τ 127 0) τ (ans_some B A (fun i hi => ⟨(hD i hi).1.1, (hD i hi).2⟩) (fun i hi => hb0 rfl i (Nat.zero_le _) hi)) e1
            refine v_iload_n dX10_deepestOf_38 rfl ?_
            refine v_if_lt (tgt := 151) dX10_deepestOf_39 (by decide) (by omega) (fun q39 => ?_) (fun q39 => absurd q39 (by omega))
            refine v_goto (tgt := 25) dX10_deepestOf_151 (by decide) ?_
            refine v_iload_n dX10_deepestOf_25 rfl ?_
            refine v_if_eq (tgt := 154) dX10_deepestOf_26 (by decide) (by decide) (fun q26 => ?_) (fun q26 => absurd rfl q26)
            refine v_aload_n dX10_deepestOf_154 rfl ?_
            refine v_getR (k1 := 127) dX10_deepestOf_155 s_97 fX10_106 rfl ?_
            refine v_iconst dX10_deepestOf_158 ?_
            refine v_iaload dX10_deepestOf_159 s_127 (by omega) ?_
            exact v_ireturn dX10_deepestOf_160 rfl (h8)
          · have hb1 := hb1 rfl
            have hle := sd9_le (f := gI τ 127) (M := g.length - 1) g.length (fun i hi => (hD i hi).1.2)
            refine v_iload_n dX10_deepestOf_38 rfl ?_
            refine v_if_lt (tgt := 151) dX10_deepestOf_39 (by decide) (by omega) (fun q39 => ?_) (fun q39 => absurd q39 (by omega))
            refine v_goto (tgt := 25) dX10_deepestOf_151 (by decide) ?_
            exact absurd hm (by omega)
        | succ q ih2 =>
          intro k b0 τ1 hk hq e1 hD hS hb hb1 hb0 l3 l4
          obtain rfl : k = (q : Int) := by omega
          have am0 : gI τ1 97 40 = g.length := by rw [(e1 97 (by decide)).1]; exact em
          obtain ⟨A1, A2, A3⟩ := A q (by omega)
          obtain ⟨⟨x0, x1⟩, x2⟩ := hD q (by omega)
          have K3 : ∀ (m : Nat) (a b x : Int) (τ : S9), 0 ≤ a → a + m = gI σ 129 q → eq9 (fun k => k ≠ 127) σ τ → gI τ 127 = up9 (gI τ1 127) q x → gI τ1 127 q ≤ x → x ≤ g.length - 1 + a → (∃ z, dr9 lf rg R x.toNat (g.getD q []) z) → (b = 0 ∨ b = 1) → (b = 1 → b0 = 1 ∨ gI τ1 127 q < x) → (b = 0 → b0 = 0 ∧ x = gI τ1 127 q ∧ ∀ a' : Int, 0 ≤ a' → a' < a → gI τ1 127 (gI σ 128 (96 * (q : Int) + a')) + 1 ≤ gI τ1 127 q) → ∀ l4, Vv d mX10_deepestOf 44 [.ref 97, .int (iI b), .int (iI (q : Int)), .int (iI a), l4] [] τ (QI P) := by
            intro m
            induction m with
            | zero =>
              intro a b x τ ha hm2 e2 eF xa xb xd hbb c1 c0 l4
              have am2 : gI τ 97 40 = g.length := by rw [(e2 97 (by decide)).1]; exact em
              have a129 : gI τ 129 = gI σ 129 := (e2 129 (by decide)).1
              have ex : gI τ 127 q = x := by rw [eF, up9_eq]
              refine v_iload_n dX10_deepestOf_44 rfl ?_
              refine v_aload_n dX10_deepestOf_45 rfl ?_
              refine v_getR (k1 := 129) dX10_deepestOf_46 s_97 fX10_112 rfl ?_
              refine v_iload_n dX10_deepestOf_49 rfl ?_
              refine v_iaload dX10_deepestOf_50 s_129 (by omega) ?_
              rw [a129]
              refine v_icmp_ge (tgt := 129) dX10_deepestOf_51 (by decide) (by omega) (fun q51 => ?_) (fun q51 => absurd q51 (by omega))
              refine v_aload_n dX10_deepestOf_129 rfl ?_
              refine v_getR (k1 := 127) dX10_deepestOf_130 s_97 fX10_106 rfl ?_
              refine v_iload_n dX10_deepestOf_133 rfl ?_
              refine v_iaload dX10_deepestOf_134 s_127 (by omega) ?_
              rw [ex]
              refine v_aload_n dX10_deepestOf_135 rfl ?_
              refine v_getI (ji := 40) dX10_deepestOf_136 s_97 fX10_235 rfl ?_
              rw [am2]
              refine v_icmp_lt (tgt := 145) dX10_deepestOf_139 (by decide) (by omega) (fun q139 => ?_) (fun q139 => ?_)
              · refine v_iinc (lv' := [_, _, _, _, _]) dX10_deepestOf_145 rfl (Nat.le_of_ble_eq_true rfl) rfl rfl ?_
                refine v_goto (tgt := 38) dX10_deepestOf_148 (by decide) ?_
                refine ih2 ((q : Int) + -1) b τ (by omega) (by omega) e2 (fun i hi => ?_) ?_ hbb (fun z => ?_) (fun z i i1 i2 a a1 a2 => ?_) _ _
                · rw [eF]
                  by_cases q1 : i = q
                  · rw [q1, up9_eq]; exact ⟨by omega, xd⟩
                  · rw [up9_ne (by omega)]; exact hD i hi
                · rw [eF, sd9_up _ (by omega)]; omega
                · rw [eF, sd9_up _ (by omega)]
                  rcases c1 z with z1 | z1
                  · have := hb1 z1; omega
                  · omega
                · obtain ⟨z1, z2, z3⟩ := c0 z
                  have ef : gI τ 127 = gI τ1 127 := by
                    rw [eF, z2]
                    funext y
                    by_cases e : y = (q : Int)
                    · rw [e, up9_eq]
                    · rw [up9_ne e]
                  rw [ef]
                  by_cases q1 : i = q
                  · rw [q1] at a2 ⊢; exact z3 a a1 (by omega)
                  · exact hb0 z1 i (by omega) i2 a a1 a2
              · refine v_bipush dX10_deepestOf_142 (by decide) ?_
                exact v_ireturn dX10_deepestOf_144 rfl (h _ _ (ans_none (f := gI τ 127) (k := q) B (by omega) (by rw [ex]; exact xd) (by rw [ex]; omega)) e2)
            | succ m ih3 =>
              intro a b x τ ha hm2 e2 eF xa xb xd hbb c1 c0 l4
              have am2 : gI τ 97 40 = g.length := by rw [(e2 97 (by decide)).1]; exact em
              have a129 : gI τ 129 = gI σ 129 := (e2 129 (by decide)).1
              have a128 : gI τ 128 = gI σ 128 := (e2 128 (by decide)).1
              have ex : gI τ 127 q = x := by rw [eF, up9_eq]
              obtain ⟨j, ej, hj, sj⟩ := A2 a ha (by omega)
              obtain ⟨y, ey⟩ : ∃ y, gI τ 127 j = y := ⟨_, rfl⟩
              have hy : 0 ≤ y ∧ y ≤ g.length - 1 + a ∧ ∃ z, dr9 lf rg R y.toNat (g.getD j []) z := by
                rw [← ey, eF]
                by_cases q1 : j = q
                · rw [q1, up9_eq]; exact ⟨by omega, xb, xd⟩
                · rw [up9_ne (by omega)]
                  have := hD j hj
                  exact ⟨this.1.1, by omega, this.2⟩
              have K4 : ∀ b' v : Int, (v = y + 1 ∧ x < y + 1 ∨ v = x ∧ y + 1 ≤ x) → (b' = 1 ∧ (b = 1 ∨ x < y + 1) ∨ b' = 0 ∧ b = 0 ∧ y + 1 ≤ x) → Vv d mX10_deepestOf 44 [.ref 97, .int (iI b'), .int (iI (q : Int)), .int (iI (a + 1)), .int (iI (y + 1))] [] (sI τ 127 q v) (QI P) := by
                intro b' v hv hb'
                refine ih3 (a + 1) b' v _ (by omega) (by omega) (e2.tr (eq9.aI (fun z => z rfl))) ?_ (by omega) (by omega) ?_ (by omega) (fun z => ?_) (fun z => ?_) _
                · rw [gI_aI_eq, eF, up9_up9]
                · rcases hv with ⟨rfl, _⟩ | ⟨rfl, _⟩
                  · obtain ⟨z, hz⟩ := hy.2.2
                    rw [show (y + 1).toNat = y.toNat + 1 by omega]
                    exact ⟨z, dr9_cons sj hz⟩
                  · exact xd
                · rcases hb' with ⟨_, z1 | z1⟩ | ⟨z1, _⟩
                  · rcases c1 z1 with z2 | z2
                    · exact Or.inl z2
                    · exact Or.inr (by omega)
                  · exact Or.inr (by omega)
                  · omega
                · rcases hb' with ⟨z1, _⟩ | ⟨_, z1, z2⟩
                  · omega
                  · obtain ⟨z3, z4, z5⟩ := c0 z1
                    refine ⟨z3, by omega, fun a' a1 a2 => ?_⟩
                    by_cases q1 : a' = a
                    · rw [q1, ej]
                      have : gI τ1 127 j = y := by
                        rw [← ey, eF]
                        by_cases q2 : j = q
                        · rw [q2, up9_eq, z4]
                        · rw [up9_ne (by omega)]
                      omega
                    · exact z5 a' a1 (by omega)
              refine v_iload_n dX10_deepestOf_44 rfl ?_
              refine v_aload_n dX10_deepestOf_45 rfl ?_
              refine v_getR (k1 := 129) dX10_deepestOf_46 s_97 fX10_112 rfl ?_
              refine v_iload_n dX10_deepestOf_49 rfl ?_
              refine v_iaload dX10_deepestOf_50 s_129 (by omega) ?_
              rw [a129]
              refine v_icmp_ge (tgt := 129) dX10_deepestOf_51 (by decide) (by omega) (fun q51 => absurd q51 (by omega)) (fun q51 => ?_)
              refine v_aload_n dX10_deepestOf_54 rfl ?_
              refine v_getR (k1 := 127) dX10_deepestOf_55 s_97 fX10_106 rfl ?_
              refine v_aload_n dX10_deepestOf_58 rfl ?_
              refine v_getR (k1 := 128) dX10_deepestOf_59 s_97 fX10_109 rfl ?_
              refine v_bipush dX10_deepestOf_62 (by decide) ?_
              refine v_iload_n dX10_deepestOf_64 rfl ?_
              refine v_imul dX10_deepestOf_65 ?_
              refine v_iload_n dX10_deepestOf_66 rfl ?_
              refine v_iadd dX10_deepestOf_67 ?_
              refine v_iaload dX10_deepestOf_68 s_128 (by omega) ?_
              rw [a128, ej]
              refine v_iaload dX10_deepestOf_69 s_127 (by omega) ?_
              rw [ey]
              refine v_iconst dX10_deepestOf_70 ?_
              refine v_iadd dX10_deepestOf_71 ?_
              refine v_istore (lv' := [_, _, _, _, _]) dX10_deepestOf_72 (Nat.le_of_ble_eq_true rfl) rfl rfl ?_
              refine v_iload_n dX10_deepestOf_74 rfl ?_
              refine v_if_ne (tgt := 89) dX10_deepestOf_75 (by decide) (by omega) (fun q75 => ?_) (fun q75 => ?_)
              · refine v_iconst dX10_deepestOf_89 ?_
                refine v_goto (tgt := 94) dX10_deepestOf_90 (by decide) ?_
                refine v_istore_n (lv' := [_, _, _, _, _]) dX10_deepestOf_94 (Nat.le_of_ble_eq_true rfl) rfl rfl ?_
                refine v_aload_n dX10_deepestOf_95 rfl ?_
                refine v_getR (k1 := 127) dX10_deepestOf_96 s_97 fX10_106 rfl ?_
                refine v_iload_n dX10_deepestOf_99 rfl ?_
                refine v_iload dX10_deepestOf_100 rfl ?_
                refine v_aload_n dX10_deepestOf_102 rfl ?_
                refine v_getR (k1 := 127) dX10_deepestOf_103 s_97 fX10_106 rfl ?_
                refine v_iload_n dX10_deepestOf_106 rfl ?_
                refine v_iaload dX10_deepestOf_107 s_127 (by omega) ?_
                rw [ex]
                refine v_icmp_le (tgt := 116) dX10_deepestOf_108 (by decide) (by omega) (fun q108 => ?_) (fun q108 => ?_)
                · refine v_aload_n dX10_deepestOf_116 rfl ?_
                  refine v_getR (k1 := 127) dX10_deepestOf_117 s_97 fX10_106 rfl ?_
                  refine v_iload_n dX10_deepestOf_120 rfl ?_
                  refine v_iaload dX10_deepestOf_121 s_127 (by omega) ?_
                  try rw [ex]
                  refine v_iastore dX10_deepestOf_122 s_127 (by omega) ?_
                  refine v_iinc (lv' := [_, _, _, _, _]) dX10_deepestOf_123 rfl (Nat.le_of_ble_eq_true rfl) rfl rfl ?_
                  refine v_goto (tgt := 44) dX10_deepestOf_126 (by decide) ?_
                  exact K4 _ _ (by omega) (by omega)
                · refine v_iload dX10_deepestOf_111 rfl ?_
                  refine v_goto (tgt := 122) dX10_deepestOf_113 (by decide) ?_
                  try rw [ex]
                  refine v_iastore dX10_deepestOf_122 s_127 (by omega) ?_
                  refine v_iinc (lv' := [_, _, _, _, _]) dX10_deepestOf_123 rfl (Nat.le_of_ble_eq_true rfl) rfl rfl ?_
                  refine v_goto (tgt := 44) dX10_deepestOf_126 (by decide) ?_
                  exact K4 _ _ (by omega) (by omega)
              · refine v_iload dX10_deepestOf_78 rfl ?_
                refine v_aload_n dX10_deepestOf_80 rfl ?_
                refine v_getR (k1 := 127) dX10_deepestOf_81 s_97 fX10_106 rfl ?_
                refine v_iload_n dX10_deepestOf_84 rfl ?_
                refine v_iaload dX10_deepestOf_85 s_127 (by omega) ?_
                rw [ex]
                refine v_icmp_le (tgt := 93) dX10_deepestOf_86 (by decide) (by omega) (fun q86 => ?_) (fun q86 => ?_)
                · refine v_iconst dX10_deepestOf_93 ?_
                  refine v_istore_n (lv' := [_, _, _, _, _]) dX10_deepestOf_94 (Nat.le_of_ble_eq_true rfl) rfl rfl ?_
                  refine v_aload_n dX10_deepestOf_95 rfl ?_
                  refine v_getR (k1 := 127) dX10_deepestOf_96 s_97 fX10_106 rfl ?_
                  refine v_iload_n dX10_deepestOf_99 rfl ?_
                  refine v_iload dX10_deepestOf_100 rfl ?_
                  refine v_aload_n dX10_deepestOf_102 rfl ?_
                  refine v_getR (k1 := 127) dX10_deepestOf_103 s_97 fX10_106 rfl ?_
                  refine v_iload_n dX10_deepestOf_106 rfl ?_
                  refine v_iaload dX10_deepestOf_107 s_127 (by omega) ?_
                  rw [ex]
                  refine v_icmp_le (tgt := 116) dX10_deepestOf_108 (by decide) (by omega) (fun q108 => ?_) (fun q108 => ?_)
                  · refine v_aload_n dX10_deepestOf_116 rfl ?_
                    refine v_getR (k1 := 127) dX10_deepestOf_117 s_97 fX10_106 rfl ?_
                    refine v_iload_n dX10_deepestOf_120 rfl ?_
                    refine v_iaload dX10_deepestOf_121 s_127 (by omega) ?_
                    try rw [ex]
                    refine v_iastore dX10_deepestOf_122 s_127 (by omega) ?_
                    refine v_iinc (lv' := [_, _, _, _, _]) dX10_deepestOf_123 rfl (Nat.le_of_ble_eq_true rfl) rfl rfl ?_
                    refine v_goto (tgt := 44) dX10_deepestOf_126 (by decide) ?_
                    exact K4 _ _ (by omega) (by omega)
                  · refine v_iload dX10_deepestOf_111 rfl ?_
                    refine v_goto (tgt := 122) dX10_deepestOf_113 (by decide) ?_
                    try rw [ex]
                    refine v_iastore dX10_deepestOf_122 s_127 (by omega) ?_
                    refine v_iinc (lv' := [_, _, _, _, _]) dX10_deepestOf_123 rfl (Nat.le_of_ble_eq_true rfl) rfl rfl ?_
                    refine v_goto (tgt := 44) dX10_deepestOf_126 (by decide) ?_
                    exact K4 _ _ (by omega) (by omega)
                · refine v_iconst dX10_deepestOf_89 ?_
                  refine v_goto (tgt := 94) dX10_deepestOf_90 (by decide) ?_
                  refine v_istore_n (lv' := [_, _, _, _, _]) dX10_deepestOf_94 (Nat.le_of_ble_eq_true rfl) rfl rfl ?_
                  refine v_aload_n dX10_deepestOf_95 rfl ?_
                  refine v_getR (k1 := 127) dX10_deepestOf_96 s_97 fX10_106 rfl ?_
                  refine v_iload_n dX10_deepestOf_99 rfl ?_
                  refine v_iload dX10_deepestOf_100 rfl ?_
                  refine v_aload_n dX10_deepestOf_102 rfl ?_
                  refine v_getR (k1 := 127) dX10_deepestOf_103 s_97 fX10_106 rfl ?_
                  refine v_iload_n dX10_deepestOf_106 rfl ?_
                  refine v_iaload dX10_deepestOf_107 s_127 (by omega) ?_
                  rw [ex]
                  refine v_icmp_le (tgt := 116) dX10_deepestOf_108 (by decide) (by omega) (fun q108 => ?_) (fun q108 => ?_)
                  · refine v_aload_n dX10_deepestOf_116 rfl ?_
                    refine v_getR (k1 := 127) dX10_deepestOf_117 s_97 fX10_106 rfl ?_
                    refine v_iload_n dX10_deepestOf_120 rfl ?_
                    refine v_iaload dX10_deepestOf_121 s_127 (by omega) ?_
                    try rw [ex]
                    refine v_iastore dX10_deepestOf_122 s_127 (by omega) ?_
                    refine v_iinc (lv' := [_, _, _, _, _]) dX10_deepestOf_123 rfl (Nat.le_of_ble_eq_true rfl) rfl rfl ?_
                    refine v_goto (tgt := 44) dX10_deepestOf_126 (by decide) ?_
                    exact K4 _ _ (by omega) (by omega)
                  · refine v_iload dX10_deepestOf_111 rfl ?_
                    refine v_goto (tgt := 122) dX10_deepestOf_113 (by decide) ?_
                    try rw [ex]
                    refine v_iastore dX10_deepestOf_122 s_127 (by omega) ?_
                    refine v_iinc (lv' := [_, _, _, _, _]) dX10_deepestOf_123 rfl (Nat.le_of_ble_eq_true rfl) rfl rfl ?_
                    refine v_goto (tgt := 44) dX10_deepestOf_126 (by decide) ?_
                    exact K4 _ _ (by omega) (by omega)
          refine v_iload_n dX10_deepestOf_38 rfl ?_
          refine v_if_lt (tgt := 151) dX10_deepestOf_39 (by decide) (by omega) (fun q39 => absurd q39 (by omega)) (fun q39 => ?_)
          refine v_iconst dX10_deepestOf_42 ?_
          refine v_istore_n (lv' := [_, _, _, _, _]) dX10_deepestOf_43 (Nat.le_of_ble_eq_true rfl) rfl rfl ?_
          refine K3 (gI σ 129 q).toNat 0 b0 (gI τ1 127 q) τ1 (by omega) (by omega) e1 ?_ (by omega) (by omega) x2 hb (fun z => Or.inl z) (fun z => ⟨z, rfl, fun a' a1 a2 => by omega⟩) _
          funext y
          by_cases e : y = (q : Int)
          · rw [e, up9_eq]
          · rw [up9_ne e]
      refine v_iload_n dX10_deepestOf_25 rfl ?_
      refine v_if_eq (tgt := 154) dX10_deepestOf_26 (by decide) (by decide) (fun q26 => absurd q26 (by decide)) (fun q26 => ?_)
      refine v_iconst dX10_deepestOf_29 ?_
      refine v_istore_n (lv' := [_, _, _, _, _]) dX10_deepestOf_30 (Nat.le_of_ble_eq_true rfl) rfl rfl ?_
      refine v_aload_n dX10_deepestOf_31 rfl ?_
      refine v_getI (ji := 40) dX10_deepestOf_32 s_97 fX10_235 rfl ?_
      rw [em0]
      refine v_iconst dX10_deepestOf_35 ?_
      refine v_isub dX10_deepestOf_36 ?_
      refine v_istore_n (lv' := [_, _, _, _, _]) dX10_deepestOf_37 (Nat.le_of_ble_eq_true rfl) rfl rfl ?_
      exact K2 g.length _ 0 τ0 (by omega) (Nat.le_refl _) e0 hD0 (Int.le_refl _) (Or.inl rfl) (fun z => absurd z (by decide)) (fun _ i i1 i2 => by omega) _ _
    | succ m ih =>
      intro τ0 e0 hD0 hm l2 l3 l4
      have em0 : gI τ0 97 40 = g.length := by rw [(e0 97 (by decide)).1]; exact em
      have K2 : ∀ (q : Nat) (k b : Int) (τ : S9), k + 1 = q → q ≤ g.length → eq9 (fun k => k ≠ 127) σ τ → (∀ i : Nat, i < g.length → (0 ≤ gI τ 127 i ∧ gI τ 127 i ≤ g.length - 1) ∧ ∃ z, dr9 lf rg R (gI τ 127 i).toNat (g.getD i []) z) → sd9 (gI τ0 127) g.length ≤ sd9 (gI τ 127) g.length → (b = 0 ∨ b = 1) → (b = 1 → sd9 (gI τ0 127) g.length + 1 ≤ sd9 (gI τ 127) g.length) → (b = 0 → ∀ i : Nat, q ≤ i → i < g.length → ∀ a : Int, 0 ≤ a → a < gI σ 129 i → gI τ 127 (gI σ 128 (96 * (i : Int) + a)) + 1 ≤ gI τ 127 i) → ∀ l3 l4, Vv d mX10_deepestOf 38 [.ref 97, .int (iI b), .int (iI k), l3, l4] [] τ (QI P) := by
        intro q
        induction q with
        | zero =>
          intro k b τ hk hq e1 hD hS hb hb1 hb0 l3 l4
          rcases hb with rfl | rfl
          · have h8 := h (gI τ 127 0) τ (ans_some B A (fun i hi => ⟨(hD i hi).1.1, (hD i hi).2⟩) (fun i hi => hb0 rfl i (Nat.zero_le _) hi)) e1
            refine v_iload_n dX10_deepestOf_38 rfl ?_
            refine v_if_lt (tgt := 151) dX10_deepestOf_39 (by decide) (by omega) (fun q39 => ?_) (fun q39 => absurd q39 (by omega))
            refine v_goto (tgt := 25) dX10_deepestOf_151 (by decide) ?_
            refine v_iload_n dX10_deepestOf_25 rfl ?_
            refine v_if_eq (tgt := 154) dX10_deepestOf_26 (by decide) (by decide) (fun q26 => ?_) (fun q26 => absurd rfl q26)
            refine v_aload_n dX10_deepestOf_154 rfl ?_
            refine v_getR (k1 := 127) dX10_deepestOf_155 s_97 fX10_106 rfl ?_
            refine v_iconst dX10_deepestOf_158 ?_
            refine v_iaload dX10_deepestOf_159 s_127 (by omega) ?_
            exact v_ireturn dX10_deepestOf_160 rfl (h8)
          · have hb1 := hb1 rfl
            have hle := sd9_le (f := gI τ 127) (M := g.length - 1) g.length (fun i hi => (hD i hi).1.2)
            refine v_iload_n dX10_deepestOf_38 rfl ?_
            refine v_if_lt (tgt := 151) dX10_deepestOf_39 (by decide) (by omega) (fun q39 => ?_) (fun q39 => absurd q39 (by omega))
            refine v_goto (tgt := 25) dX10_deepestOf_151 (by decide) ?_
            exact ih τ e1 hD (by omega) _ _ _
        | succ q ih2 =>
          intro k b0 τ1 hk hq e1 hD hS hb hb1 hb0 l3 l4
          obtain rfl : k = (q : Int) := by omega
          have am0 : gI τ1 97 40 = g.length := by rw [(e1 97 (by decide)).1]; exact em
          obtain ⟨A1, A2, A3⟩ := A q (by omega)
          obtain ⟨⟨x0, x1⟩, x2⟩ := hD q (by omega)
          have K3 : ∀ (m : Nat) (a b x : Int) (τ : S9), 0 ≤ a → a + m = gI σ 129 q → eq9 (fun k => k ≠ 127) σ τ → gI τ 127 = up9 (gI τ1 127) q x → gI τ1 127 q ≤ x → x ≤ g.length - 1 + a → (∃ z, dr9 lf rg R x.toNat (g.getD q []) z) → (b = 0 ∨ b = 1) → (b = 1 → b0 = 1 ∨ gI τ1 127 q < x) → (b = 0 → b0 = 0 ∧ x = gI τ1 127 q ∧ ∀ a' : Int, 0 ≤ a' → a' < a → gI τ1 127 (gI σ 128 (96 * (q : Int) + a')) + 1 ≤ gI τ1 127 q) → ∀ l4, Vv d mX10_deepestOf 44 [.ref 97, .int (iI b), .int (iI (q : Int)), .int (iI a), l4] [] τ (QI P) := by
            intro m
            induction m with
            | zero =>
              intro a b x τ ha hm2 e2 eF xa xb xd hbb c1 c0 l4
              have am2 : gI τ 97 40 = g.length := by rw [(e2 97 (by decide)).1]; exact em
              have a129 : gI τ 129 = gI σ 129 := (e2 129 (by decide)).1
              have ex : gI τ 127 q = x := by rw [eF, up9_eq]
              refine v_iload_n dX10_deepestOf_44 rfl ?_
              refine v_aload_n dX10_deepestOf_45 rfl ?_
              refine v_getR (k1 := 129) dX10_deepestOf_46 s_97 fX10_112 rfl ?_
              refine v_iload_n dX10_deepestOf_49 rfl ?_
              refine v_iaload dX10_deepestOf_50 s_129 (by omega) ?_
              rw [a129]
              refine v_icmp_ge (tgt := 129) dX10_deepestOf_51 (by decide) (by omega) (fun q51 => ?_) (fun q51 => absurd q51 (by omega))
              refine v_aload_n dX10_deepestOf_129 rfl ?_
              refine v_getR (k1 := 127) dX10_deepestOf_130 s_97 fX10_106 rfl ?_
              refine v_iload_n dX10_deepestOf_133 rfl ?_
              refine v_iaload dX10_deepestOf_134 s_127 (by omega) ?_
              rw [ex]
              refine v_aload_n dX10_deepestOf_135 rfl ?_
              refine v_getI (ji := 40) dX10_deepestOf_136 s_97 fX10_235 rfl ?_
              rw [am2]
              refine v_icmp_lt (tgt := 145) dX10_deepestOf_139 (by decide) (by omega) (fun q139 => ?_) (fun q139 => ?_)
              · refine v_iinc (lv' := [_, _, _, _, _]) dX10_deepestOf_145 rfl (Nat.le_of_ble_eq_true rfl) rfl rfl ?_
                refine v_goto (tgt := 38) dX10_deepestOf_148 (by decide) ?_
                refine ih2 ((q : Int) + -1) b τ (by omega) (by omega) e2 (fun i hi => ?_) ?_ hbb (fun z => ?_) (fun z i i1 i2 a a1 a2 => ?_) _ _
                · rw [eF]
                  by_cases q1 : i = q
                  · rw [q1, up9_eq]; exact ⟨by omega, xd⟩
                  · rw [up9_ne (by omega)]; exact hD i hi
                · rw [eF, sd9_up _ (by omega)]; omega
                · rw [eF, sd9_up _ (by omega)]
                  rcases c1 z with z1 | z1
                  · have := hb1 z1; omega
                  · omega
                · obtain ⟨z1, z2, z3⟩ := c0 z
                  have ef : gI τ 127 = gI τ1 127 := by
                    rw [eF, z2]
                    funext y
                    by_cases e : y = (q : Int)
                    · rw [e, up9_eq]
                    · rw [up9_ne e]
                  rw [ef]
                  by_cases q1 : i = q
                  · rw [q1] at a2 ⊢; exact z3 a a1 (by omega)
                  · exact hb0 z1 i (by omega) i2 a a1 a2
              · refine v_bipush dX10_deepestOf_142 (by decide) ?_
                exact v_ireturn dX10_deepestOf_144 rfl (h _ _ (ans_none (f := gI τ 127) (k := q) B (by omega) (by rw [ex]; exact xd) (by rw [ex]; omega)) e2)
            | succ m ih3 =>
              intro a b x τ ha hm2 e2 eF xa xb xd hbb c1 c0 l4
              have am2 : gI τ 97 40 = g.length := by rw [(e2 97 (by decide)).1]; exact em
              have a129 : gI τ 129 = gI σ 129 := (e2 129 (by decide)).1
              have a128 : gI τ 128 = gI σ 128 := (e2 128 (by decide)).1
              have ex : gI τ 127 q = x := by rw [eF, up9_eq]
              obtain ⟨j, ej, hj, sj⟩ := A2 a ha (by omega)
              obtain ⟨y, ey⟩ : ∃ y, gI τ 127 j = y := ⟨_, rfl⟩
              have hy : 0 ≤ y ∧ y ≤ g.length - 1 + a ∧ ∃ z, dr9 lf rg R y.toNat (g.getD j []) z := by
                rw [← ey, eF]
                by_cases q1 : j = q
                · rw [q1, up9_eq]; exact ⟨by omega, xb, xd⟩
                · rw [up9_ne (by omega)]
                  have := hD j hj
                  exact ⟨this.1.1, by omega, this.2⟩
              have K4 : ∀ b' v : Int, (v = y + 1 ∧ x < y + 1 ∨ v = x ∧ y + 1 ≤ x) → (b' = 1 ∧ (b = 1 ∨ x < y + 1) ∨ b' = 0 ∧ b = 0 ∧ y + 1 ≤ x) → Vv d mX10_deepestOf 44 [.ref 97, .int (iI b'), .int (iI (q : Int)), .int (iI (a + 1)), .int (iI (y + 1))] [] (sI τ 127 q v) (QI P) := by
                intro b' v hv hb'
                refine ih3 (a + 1) b' v _ (by omega) (by omega) (e2.tr (eq9.aI (fun z => z rfl))) ?_ (by omega) (by omega) ?_ (by omega) (fun z => ?_) (fun z => ?_) _
                · rw [gI_aI_eq, eF, up9_up9]
                · rcases hv with ⟨rfl, _⟩ | ⟨rfl, _⟩
                  · obtain ⟨z, hz⟩ := hy.2.2
                    rw [show (y + 1).toNat = y.toNat + 1 by omega]
                    exact ⟨z, dr9_cons sj hz⟩
                  · exact xd
                · rcases hb' with ⟨_, z1 | z1⟩ | ⟨z1, _⟩
                  · rcases c1 z1 with z2 | z2
                    · exact Or.inl z2
                    · exact Or.inr (by omega)
                  · exact Or.inr (by omega)
                  · omega
                · rcases hb' with ⟨z1, _⟩ | ⟨_, z1, z2⟩
                  · omega
                  · obtain ⟨z3, z4, z5⟩ := c0 z1
                    refine ⟨z3, by omega, fun a' a1 a2 => ?_⟩
                    by_cases q1 : a' = a
                    · rw [q1, ej]
                      have : gI τ1 127 j = y := by
                        rw [← ey, eF]
                        by_cases q2 : j = q
                        · rw [q2, up9_eq, z4]
                        · rw [up9_ne (by omega)]
                      omega
                    · exact z5 a' a1 (by omega)
              refine v_iload_n dX10_deepestOf_44 rfl ?_
              refine v_aload_n dX10_deepestOf_45 rfl ?_
              refine v_getR (k1 := 129) dX10_deepestOf_46 s_97 fX10_112 rfl ?_
              refine v_iload_n dX10_deepestOf_49 rfl ?_
              refine v_iaload dX10_deepestOf_50 s_129 (by omega) ?_
              rw [a129]
              refine v_icmp_ge (tgt := 129) dX10_deepestOf_51 (by decide) (by omega) (fun q51 => absurd q51 (by omega)) (fun q51 => ?_)
              refine v_aload_n dX10_deepestOf_54 rfl ?_
              refine v_getR (k1 := 127) dX10_deepestOf_55 s_97 fX10_106 rfl ?_
              refine v_aload_n dX10_deepestOf_58 rfl ?_
              refine v_getR (k1 := 128) dX10_deepestOf_59 s_97 fX10_109 rfl ?_
              refine v_bipush dX10_deepestOf_62 (by decide) ?_
              refine v_iload_n dX10_deepestOf_64 rfl ?_
              refine v_imul dX10_deepestOf_65 ?_
              refine v_iload_n dX10_deepestOf_66 rfl ?_
              refine v_iadd dX10_deepestOf_67 ?_
              refine v_iaload dX10_deepestOf_68 s_128 (by omega) ?_
              rw [a128, ej]
              refine v_iaload dX10_deepestOf_69 s_127 (by omega) ?_
              rw [ey]
              refine v_iconst dX10_deepestOf_70 ?_
              refine v_iadd dX10_deepestOf_71 ?_
              refine v_istore (lv' := [_, _, _, _, _]) dX10_deepestOf_72 (Nat.le_of_ble_eq_true rfl) rfl rfl ?_
              refine v_iload_n dX10_deepestOf_74 rfl ?_
              refine v_if_ne (tgt := 89) dX10_deepestOf_75 (by decide) (by omega) (fun q75 => ?_) (fun q75 => ?_)
              · refine v_iconst dX10_deepestOf_89 ?_
                refine v_goto (tgt := 94) dX10_deepestOf_90 (by decide) ?_
                refine v_istore_n (lv' := [_, _, _, _, _]) dX10_deepestOf_94 (Nat.le_of_ble_eq_true rfl) rfl rfl ?_
                refine v_aload_n dX10_deepestOf_95 rfl ?_
                refine v_getR (k1 := 127) dX10_deepestOf_96 s_97 fX10_106 rfl ?_
                refine v_iload_n dX10_deepestOf_99 rfl ?_
                refine v_iload dX10_deepestOf_100 rfl ?_
                refine v_aload_n dX10_deepestOf_102 rfl ?_
                refine v_getR (k1 := 127) dX10_deepestOf_103 s_97 fX10_106 rfl ?_
                refine v_iload_n dX10_deepestOf_106 rfl ?_
                refine v_iaload dX10_deepestOf_107 s_127 (by omega) ?_
                rw [ex]
                refine v_icmp_le (tgt := 116) dX10_deepestOf_108 (by decide) (by omega) (fun q108 => ?_) (fun q108 => ?_)
                · refine v_aload_n dX10_deepestOf_116 rfl ?_
                  refine v_getR (k1 := 127) dX10_deepestOf_117 s_97 fX10_106 rfl ?_
                  refine v_iload_n dX10_deepestOf_120 rfl ?_
                  refine v_iaload dX10_deepestOf_121 s_127 (by omega) ?_
                  try rw [ex]
                  refine v_iastore dX10_deepestOf_122 s_127 (by omega) ?_
                  refine v_iinc (lv' := [_, _, _, _, _]) dX10_deepestOf_123 rfl (Nat.le_of_ble_eq_true rfl) rfl rfl ?_
                  refine v_goto (tgt := 44) dX10_deepestOf_126 (by decide) ?_
                  exact K4 _ _ (by omega) (by omega)
                · refine v_iload dX10_deepestOf_111 rfl ?_
                  refine v_goto (tgt := 122) dX10_deepestOf_113 (by decide) ?_
                  try rw [ex]
                  refine v_iastore dX10_deepestOf_122 s_127 (by omega) ?_
                  refine v_iinc (lv' := [_, _, _, _, _]) dX10_deepestOf_123 rfl (Nat.le_of_ble_eq_true rfl) rfl rfl ?_
                  refine v_goto (tgt := 44) dX10_deepestOf_126 (by decide) ?_
                  exact K4 _ _ (by omega) (by omega)
              · refine v_iload dX10_deepestOf_78 rfl ?_
                refine v_aload_n dX10_deepestOf_80 rfl ?_
                refine v_getR (k1 := 127) dX10_deepestOf_81 s_97 fX10_106 rfl ?_
                refine v_iload_n dX10_deepestOf_84 rfl ?_
                refine v_iaload dX10_deepestOf_85 s_127 (by omega) ?_
                rw [ex]
                refine v_icmp_le (tgt := 93) dX10_deepestOf_86 (by decide) (by omega) (fun q86 => ?_) (fun q86 => ?_)
                · refine v_iconst dX10_deepestOf_93 ?_
                  refine v_istore_n (lv' := [_, _, _, _, _]) dX10_deepestOf_94 (Nat.le_of_ble_eq_true rfl) rfl rfl ?_
                  refine v_aload_n dX10_deepestOf_95 rfl ?_
                  refine v_getR (k1 := 127) dX10_deepestOf_96 s_97 fX10_106 rfl ?_
                  refine v_iload_n dX10_deepestOf_99 rfl ?_
                  refine v_iload dX10_deepestOf_100 rfl ?_
                  refine v_aload_n dX10_deepestOf_102 rfl ?_
                  refine v_getR (k1 := 127) dX10_deepestOf_103 s_97 fX10_106 rfl ?_
                  refine v_iload_n dX10_deepestOf_106 rfl ?_
                  refine v_iaload dX10_deepestOf_107 s_127 (by omega) ?_
                  rw [ex]
                  refine v_icmp_le (tgt := 116) dX10_deepestOf_108 (by decide) (by omega) (fun q108 => ?_) (fun q108 => ?_)
                  · refine v_aload_n dX10_deepestOf_116 rfl ?_
                    refine v_getR (k1 := 127) dX10_deepestOf_117 s_97 fX10_106 rfl ?_
                    refine v_iload_n dX10_deepestOf_120 rfl ?_
                    refine v_iaload dX10_deepestOf_121 s_127 (by omega) ?_
                    try rw [ex]
                    refine v_iastore dX10_deepestOf_122 s_127 (by omega) ?_
                    refine v_iinc (lv' := [_, _, _, _, _]) dX10_deepestOf_123 rfl (Nat.le_of_ble_eq_true rfl) rfl rfl ?_
                    refine v_goto (tgt := 44) dX10_deepestOf_126 (by decide) ?_
                    exact K4 _ _ (by omega) (by omega)
                  · refine v_iload dX10_deepestOf_111 rfl ?_
                    refine v_goto (tgt := 122) dX10_deepestOf_113 (by decide) ?_
                    try rw [ex]
                    refine v_iastore dX10_deepestOf_122 s_127 (by omega) ?_
                    refine v_iinc (lv' := [_, _, _, _, _]) dX10_deepestOf_123 rfl (Nat.le_of_ble_eq_true rfl) rfl rfl ?_
                    refine v_goto (tgt := 44) dX10_deepestOf_126 (by decide) ?_
                    exact K4 _ _ (by omega) (by omega)
                · refine v_iconst dX10_deepestOf_89 ?_
                  refine v_goto (tgt := 94) dX10_deepestOf_90 (by decide) ?_
                  refine v_istore_n (lv' := [_, _, _, _, _]) dX10_deepestOf_94 (Nat.le_of_ble_eq_true rfl) rfl rfl ?_
                  refine v_aload_n dX10_deepestOf_95 rfl ?_
                  refine v_getR (k1 := 127) dX10_deepestOf_96 s_97 fX10_106 rfl ?_
                  refine v_iload_n dX10_deepestOf_99 rfl ?_
                  refine v_iload dX10_deepestOf_100 rfl ?_
                  refine v_aload_n dX10_deepestOf_102 rfl ?_
                  refine v_getR (k1 := 127) dX10_deepestOf_103 s_97 fX10_106 rfl ?_
                  refine v_iload_n dX10_deepestOf_106 rfl ?_
                  refine v_iaload dX10_deepestOf_107 s_127 (by omega) ?_
                  rw [ex]
                  refine v_icmp_le (tgt := 116) dX10_deepestOf_108 (by decide) (by omega) (fun q108 => ?_) (fun q108 => ?_)
                  · refine v_aload_n dX10_deepestOf_116 rfl ?_
                    refine v_getR (k1 := 127) dX10_deepestOf_117 s_97 fX10_106 rfl ?_
                    refine v_iload_n dX10_deepestOf_120 rfl ?_
                    refine v_iaload dX10_deepestOf_121 s_127 (by omega) ?_
                    try rw [ex]
                    refine v_iastore dX10_deepestOf_122 s_127 (by omega) ?_
                    refine v_iinc (lv' := [_, _, _, _, _]) dX10_deepestOf_123 rfl (Nat.le_of_ble_eq_true rfl) rfl rfl ?_
                    refine v_goto (tgt := 44) dX10_deepestOf_126 (by decide) ?_
                    exact K4 _ _ (by omega) (by omega)
                  · refine v_iload dX10_deepestOf_111 rfl ?_
                    refine v_goto (tgt := 122) dX10_deepestOf_113 (by decide) ?_
                    try rw [ex]
                    refine v_iastore dX10_deepestOf_122 s_127 (by omega) ?_
                    refine v_iinc (lv' := [_, _, _, _, _]) dX10_deepestOf_123 rfl (Nat.le_of_ble_eq_true rfl) rfl rfl ?_
                    refine v_goto (tgt := 44) dX10_deepestOf_126 (by decide) ?_
                    exact K4 _ _ (by omega) (by omega)
          refine v_iload_n dX10_deepestOf_38 rfl ?_
          refine v_if_lt (tgt := 151) dX10_deepestOf_39 (by decide) (by omega) (fun q39 => absurd q39 (by omega)) (fun q39 => ?_)
          refine v_iconst dX10_deepestOf_42 ?_
          refine v_istore_n (lv' := [_, _, _, _, _]) dX10_deepestOf_43 (Nat.le_of_ble_eq_true rfl) rfl rfl ?_
          refine K3 (gI σ 129 q).toNat 0 b0 (gI τ1 127 q) τ1 (by omega) (by omega) e1 ?_ (by omega) (by omega) x2 hb (fun z => Or.inl z) (fun z => ⟨z, rfl, fun a' a1 a2 => by omega⟩) _
          funext y
          by_cases e : y = (q : Int)
          · rw [e, up9_eq]
          · rw [up9_ne e]
      refine v_iload_n dX10_deepestOf_25 rfl ?_
      refine v_if_eq (tgt := 154) dX10_deepestOf_26 (by decide) (by decide) (fun q26 => absurd q26 (by decide)) (fun q26 => ?_)
      refine v_iconst dX10_deepestOf_29 ?_
      refine v_istore_n (lv' := [_, _, _, _, _]) dX10_deepestOf_30 (Nat.le_of_ble_eq_true rfl) rfl rfl ?_
      refine v_aload_n dX10_deepestOf_31 rfl ?_
      refine v_getI (ji := 40) dX10_deepestOf_32 s_97 fX10_235 rfl ?_
      rw [em0]
      refine v_iconst dX10_deepestOf_35 ?_
      refine v_isub dX10_deepestOf_36 ?_
      refine v_istore_n (lv' := [_, _, _, _, _]) dX10_deepestOf_37 (Nat.le_of_ble_eq_true rfl) rfl rfl ?_
      exact K2 g.length _ 0 τ0 (by omega) (Nat.le_refl _) e0 hD0 (Int.le_refl _) (Or.inl rfl) (fun z => absurd z (by decide)) (fun _ i i1 i2 => by omega) _ _
  have K0 : ∀ (m : Nat) (j : Int) (τ : S9), 0 ≤ j → j + m = g.length → eq9 (fun k => k ≠ 127) σ τ → (∀ i : Int, 0 ≤ i → i < j → gI τ 127 i = 0) → Vv d mX10_deepestOf 2 [.ref 97, .int (iI j), .null, .null, .null] [] τ (QI P) := by
    intro m
    induction m with
    | zero =>
      intro j τ hj hm e1 hz
      have am2 : gI τ 97 40 = g.length := by rw [(e1 97 (by decide)).1]; exact em
      refine v_iload_n dX10_deepestOf_2 rfl ?_
      refine v_aload_n dX10_deepestOf_3 rfl ?_
      refine v_getI (ji := 40) dX10_deepestOf_4 s_97 fX10_235 rfl ?_
      rw [am2]
      refine v_icmp_ge (tgt := 23) dX10_deepestOf_7 (by decide) (by omega) (fun q7 => ?_) (fun q7 => absurd q7 (by omega))
      refine v_iconst dX10_deepestOf_23 ?_
      refine v_istore_n (lv' := [_, _, _, _, _]) dX10_deepestOf_24 (Nat.le_of_ble_eq_true rfl) rfl rfl ?_
      refine KM (((g.length : Int) * (g.length - 1)).toNat) τ e1 (fun i hi => ?_) ?_ _ _ _
      · rw [hz i (by omega) (by omega)]; exact ⟨by omega, g.getD i [], rfl⟩
      · rw [sd9_congr (h := fun _ => 0) _ (fun i hi => hz i (by omega) (by omega))]
        have h1 : ∀ k : Nat, sd9 (fun _ => (0 : Int)) k = 0 := fun k => by
          induction k with
          | zero => rfl
          | succ k ih => unfold sd9; rw [ih]; rfl
        rw [h1]
        omega
    | succ m ih =>
      intro j τ hj hm e1 hz
      have am2 : gI τ 97 40 = g.length := by rw [(e1 97 (by decide)).1]; exact em
      refine v_iload_n dX10_deepestOf_2 rfl ?_
      refine v_aload_n dX10_deepestOf_3 rfl ?_
      refine v_getI (ji := 40) dX10_deepestOf_4 s_97 fX10_235 rfl ?_
      rw [am2]
      refine v_icmp_ge (tgt := 23) dX10_deepestOf_7 (by decide) (by omega) (fun q7 => absurd q7 (by omega)) (fun q7 => ?_)
      refine v_aload_n dX10_deepestOf_10 rfl ?_
      refine v_getR (k1 := 127) dX10_deepestOf_11 s_97 fX10_106 rfl ?_
      refine v_iload_n dX10_deepestOf_14 rfl ?_
      refine v_iconst dX10_deepestOf_15 ?_
      refine v_iastore dX10_deepestOf_16 s_127 (by omega) ?_
      refine v_iinc (lv' := [_, _, _, _, _]) dX10_deepestOf_17 rfl (Nat.le_of_ble_eq_true rfl) rfl rfl ?_
      refine v_goto (tgt := 2) dX10_deepestOf_20 (by decide) ?_
      refine ih (j + 1) _ (by omega) (by omega) (e1.tr (eq9.aI (fun z => z rfl))) (fun i i0 i1 => ?_)
      rw [gI_aI_eq]
      by_cases e : i = j
      · rw [e, up9_eq]
      · rw [up9_ne e]; exact hz i i0 (by omega)
  refine v_iconst dX10_deepestOf_0 ?_
  refine v_istore_n (lv' := [_, _, _, _, _]) dX10_deepestOf_1 (Nat.le_of_ble_eq_true rfl) rfl rfl ?_
  exact K0 g.length 0 σ (by omega) (by omega) eq9.rf (fun i a b => by omega)
end
