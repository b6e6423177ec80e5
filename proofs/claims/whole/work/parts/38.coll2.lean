/-- y comes from w in one step -/
def sc9 (lf rg : Int → List Int) (R : Int) (w y : List Int) : Prop := ∃ p r : Int, 0 ≤ p ∧ 0 ≤ r ∧ r < R ∧ stp9 (lf r) (rg r) w p = some y
/-- z comes from s in so many steps -/
def dr9 (lf rg : Int → List Int) (R : Int) : Nat → List Int → List Int → Prop
  | 0, s, z => s = z
  | L + 1, s, z => ∃ y, dr9 lf rg R L s y ∧ sc9 lf rg R y z
/-- the most steps in a row from s on; -6: no most -/
def Ans9 (lf rg : Int → List Int) (R : Int) (s : List Int) (a : Int) : Prop := (a = -6 ∧ ∀ L, ∃ z, dr9 lf rg R L s z) ∨ ∃ L : Nat, a = L ∧ (∃ z, dr9 lf rg R L s z) ∧ ∀ z, ¬ dr9 lf rg R (L + 1) s z
section
variable {lf rg : Int → List Int} {R : Int}
theorem dr9_add {a : Nat} {s y : List Int} (h : dr9 lf rg R a s y) : ∀ (b : Nat) {z : List Int}, dr9 lf rg R b y z → dr9 lf rg R (a + b) s z
  | 0, z, h2 => by cases h2; exact h
  | b + 1, z, ⟨x, h2, h3⟩ => ⟨x, dr9_add h b h2, h3⟩
theorem dr9_pre {s z : List Int} : ∀ (a b : Nat), dr9 lf rg R (a + b) s z → ∃ y, dr9 lf rg R a s y
  | a, 0, h => ⟨z, h⟩
  | a, b + 1, ⟨x, h, _⟩ => by
    have := @dr9_pre s x a b h
    exact this
theorem Ans9.uniq {s : List Int} {a b : Int} (h1 : Ans9 lf rg R s a) (h2 : Ans9 lf rg R s b) : a = b := by
  have key : ∀ {L M : Nat}, (∃ z, dr9 lf rg R M s z) → (∀ z, ¬ dr9 lf rg R (L + 1) s z) → M ≤ L := fun {L M} ⟨z, hz⟩ hn => by
    refine Classical.byContradiction (fun q => ?_)
    rw [show M = (L + 1) + (M - (L + 1)) by omega] at hz
    obtain ⟨y, hy⟩ := dr9_pre _ _ hz
    exact hn y hy
  rcases h1 with ⟨e1, a1⟩ | ⟨L, e1, a1, b1⟩
  · rcases h2 with ⟨e2, a2⟩ | ⟨M, e2, a2, b2⟩
    · rw [e1, e2]
    · obtain ⟨z, hz⟩ := a1 (M + 1)
      exact absurd hz (b2 z)
  · rcases h2 with ⟨e2, a2⟩ | ⟨M, e2, a2, b2⟩
    · obtain ⟨z, hz⟩ := a2 (L + 1)
      exact absurd hz (b1 z)
    · have h3 := key a1 b2
      have h4 := key a2 b1
      omega
theorem stp9_lt {l rr w y : List Int} {p : Int} (hl : 1 ≤ l.length) (h : stp9 l rr w p = some y) : 0 ≤ p ∧ p < w.length := by
  unfold stp9 at h
  split at h
  · rename_i q
    omega
  · cases h
theorem mr9_nn {w y : List Int} {p : Int} : ∀ r : Nat, 0 ≤ mr9 lf rg w p y r ∧ mr9 lf rg w p y r ≤ r
  | 0 => by unfold mr9; omega
  | r + 1 => by
    have := @mr9_nn w y p r
    unfold mr9
    split <;> omega
theorem mr9_mono {w y : List Int} {p : Int} : ∀ (j r : Nat), mr9 lf rg w p y r ≤ mr9 lf rg w p y (r + j)
  | 0, r => by rw [Nat.add_zero]; omega
  | j + 1, r => by
    have := @mr9_mono w y p j r
    show _ ≤ mr9 lf rg w p y (r + j) + _
    split <;> omega
theorem mp9_nn {w y : List Int} : ∀ p : Nat, 0 ≤ mp9 lf rg R w y p ∧ mp9 lf rg R w y p ≤ p * R.toNat
  | 0 => by unfold mp9; omega
  | p + 1 => by
    have h1 := @mp9_nn w y p
    have h2 := @mr9_nn lf rg w y p R.toNat
    unfold mp9
    rw [show ((p + 1 : Nat) : Int) * R.toNat = (p : Int) * R.toNat + R.toNat by rw [show ((p + 1 : Nat) : Int) = (p : Int) + 1 by omega, Int.add_mul, Int.one_mul]]
    omega
theorem mp9_mono {w y : List Int} : ∀ (j p : Nat), mp9 lf rg R w y p ≤ mp9 lf rg R w y (p + j)
  | 0, p => by rw [Nat.add_zero]; omega
  | j + 1, p => by
    have h1 := @mp9_mono w y j p
    have h2 := @mr9_nn lf rg w y ((p + j : Nat) : Int) R.toNat
    show _ ≤ mp9 lf rg R w y (p + j) + mr9 lf rg w ((p + j : Nat) : Int) y R.toNat
    omega
theorem m9_ge {w y : List Int} {p r : Nat} (hp : p < w.length) (hr : r ≤ R.toNat) : mp9 lf rg R w y p + mr9 lf rg w p y r ≤ m9 lf rg R w y := by
  have h1 := mp9_mono (lf := lf) (rg := rg) (R := R) (w := w) (y := y) (w.length - (p + 1)) (p + 1)
  rw [show p + 1 + (w.length - (p + 1)) = w.length by omega, mp9] at h1
  have h2 := mr9_mono (lf := lf) (rg := rg) (w := w) (y := y) (p := p) (R.toNat - r) r
  rw [show r + (R.toNat - r) = R.toNat by omega] at h2
  unfold m9
  omega
theorem m9_sc {w y : List Int} (hl : ∀ r, 0 ≤ r → r < R → 1 ≤ (lf r).length) : m9 lf rg R w y ≠ 0 ↔ sc9 lf rg R w y := by
  constructor
  · intro h
    have a1 : ∀ p : Nat, mp9 lf rg R w y p ≠ 0 → ∃ q : Nat, mr9 lf rg w q y R.toNat ≠ 0 := fun p => by
      induction p with
      | zero => intro h; exact absurd rfl h
      | succ p ih =>
        intro h
        unfold mp9 at h
        by_cases e : mr9 lf rg w p y R.toNat = 0
        · exact ih (by omega)
        · exact ⟨p, e⟩
    have a2 : ∀ (q : Nat) (r : Nat), mr9 lf rg w q y r ≠ 0 → ∃ s : Nat, s < r ∧ stp9 (lf s) (rg s) w q = some y := fun q r => by
      induction r with
      | zero => intro h; exact absurd rfl h
      | succ r ih =>
        intro h
        unfold mr9 at h
        by_cases e : stp9 (lf r) (rg r) w q = some y
        · exact ⟨r, by omega, e⟩
        · rw [if_neg e, Int.add_zero] at h
          obtain ⟨s, s1, s2⟩ := ih h
          exact ⟨s, by omega, s2⟩
    obtain ⟨q, hq⟩ := a1 w.length h
    obtain ⟨s, s1, s2⟩ := a2 q R.toNat hq
    exact ⟨q, s, by omega, by omega, by omega, s2⟩
  · rintro ⟨p, r, p0, r0, r1, h⟩
    have hp := stp9_lt (hl r r0 r1) h
    have h1 := m9_ge (lf := lf) (rg := rg) (R := R) (w := w) (y := y) (p := p.toNat) (r := r.toNat + 1) (by omega) (by omega)
    have h2 := (mp9_nn (lf := lf) (rg := rg) (R := R) (w := w) (y := y) p.toNat).1
    have h3 := (mr9_nn (lf := lf) (rg := rg) (w := w) (y := y) (p := (p.toNat : Int)) r.toNat).1
    rw [mr9, show ((r.toNat : Nat) : Int) = r by omega, show ((p.toNat : Nat) : Int) = p by omega, if_pos h] at h1
    rw [show ((p.toNat : Nat) : Int) = p by omega] at h3
    omega
/-- what a collection knows: its strings come from s, each once, and what comes of the first k is in it -/
def BF9 (lf rg : Int → List Int) (R : Int) (s : List Int) (g : List (List Int)) (k : Nat) : Prop := g.Nodup ∧ g.getD 0 [] = s ∧ 1 ≤ g.length ∧ g.length ≤ 200 ∧ (∀ z ∈ g, ∃ L, dr9 lf rg R L s z) ∧ ∀ i : Nat, i < k → i < g.length → ∀ y, sc9 lf rg R (g.getD i []) y → y ∈ g
theorem ins9_ok {s y : List Int} {g g' : List (List Int)} {k : Nat} (H : BF9 lf rg R s g k) (hy : ∃ L, dr9 lf rg R L s y) (h : ins9 g y = some g') (hk : k ≤ g.length) : BF9 lf rg R s g' k ∧ y ∈ g' := by
  obtain ⟨h1, h2, h3, h3b, h4, h5⟩ := H
  unfold ins9 at h
  split at h
  · rename_i q
    cases h
    exact ⟨⟨h1, h2, h3, h3b, h4, h5⟩, q⟩
  · rename_i q
    split at h
    · rename_i q2
      cases h
      refine ⟨⟨?_, ?_, by rw [List.length_append]; omega, by rw [List.length_append]; simp; omega, fun z hz => ?_, fun i i1 i2 y2 hs => ?_⟩, List.mem_append_right _ List.mem_cons_self⟩
      · rw [List.nodup_append]
        refine ⟨h1, by simp, fun a ha b hb e => ?_⟩
        rw [List.mem_singleton.mp hb] at e
        exact q (e ▸ ha)
      · rw [gtD_appl (by omega)]; exact h2
      · rcases List.mem_append.mp hz with h | h
        · exact h4 z h
        · rw [List.mem_singleton.mp h]; exact hy
      · rw [gtD_appl (by omega)] at hs
        exact List.mem_append_left _ (h5 i i1 (by omega) y2 hs)
    · cases h
theorem xr9_ok {s w : List Int} {p : Int} {g : List (List Int)} {k : Nat} (H : BF9 lf rg R s g k) (hw : ∃ L, dr9 lf rg R L s w) (hp : 0 ≤ p) (hk : k ≤ g.length) : ∀ (r : Nat) {g' : List (List Int)}, (r : Int) ≤ R → xr9 lf rg w p g r = some g' → BF9 lf rg R s g' k ∧ (∀ z ∈ g, z ∈ g') ∧ ∀ q : Int, 0 ≤ q → q < r → ∀ y, stp9 (lf q) (rg q) w p = some y → y ∈ g'
  | 0, g', _, h => by cases h; exact ⟨H, fun z hz => hz, fun q a b => by omega⟩
  | r + 1, g', hr, h => by
    unfold xr9 at h
    cases e : xr9 lf rg w p g r with
    | none => rw [e] at h; cases h
    | some g1 =>
      rw [e] at h
      have h : st9 g1 (stp9 (lf r) (rg r) w p) = some g' := h
      obtain ⟨a1, a2, a3⟩ := xr9_ok H hw hp hk r (by omega) e
      obtain ⟨l, el⟩ := xr9_mono r e
      have hk1 : k ≤ g1.length := by rw [el, List.length_append]; omega
      cases es : stp9 (lf r) (rg r) w p with
      | none =>
        rw [es] at h
        cases h
        refine ⟨a1, a2, fun q q0 q1 y hy => ?_⟩
        by_cases eq : q = r
        · rw [eq, es] at hy; cases hy
        · exact a3 q q0 (by omega) y hy
      | some y =>
        rw [es] at h
        obtain ⟨L, hL⟩ := hw
        have hy : ∃ L, dr9 lf rg R L s y := ⟨L + 1, w, hL, p, r, hp, by omega, by omega, es⟩
        obtain ⟨b1, b2⟩ := ins9_ok a1 hy h hk1
        obtain ⟨l2, el2⟩ := ins9_mono h
        refine ⟨b1, fun z hz => by rw [el2]; exact List.mem_append_left _ (a2 z hz), fun q q0 q1 y2 hy2 => ?_⟩
        by_cases eq : q = r
        · rw [eq, es] at hy2; cases hy2; exact b2
        · rw [el2]; exact List.mem_append_left _ (a3 q q0 (by omega) y2 hy2)
theorem xp9_ok {s w : List Int} {g : List (List Int)} {k : Nat} (hR : 0 ≤ R) (H : BF9 lf rg R s g k) (hw : ∃ L, dr9 lf rg R L s w) (hk : k ≤ g.length) : ∀ (p : Nat) {g' : List (List Int)}, xp9 lf rg R w g p = some g' → BF9 lf rg R s g' k ∧ (∀ z ∈ g, z ∈ g') ∧ ∀ q r : Int, 0 ≤ q → q < p → 0 ≤ r → r < R → ∀ y, stp9 (lf r) (rg r) w q = some y → y ∈ g'
  | 0, g', h => by cases h; exact ⟨H, fun z hz => hz, fun q r a b => by omega⟩
  | p + 1, g', h => by
    unfold xp9 at h
    cases e : xp9 lf rg R w g p with
    | none => rw [e] at h; cases h
    | some g1 =>
      rw [e] at h
      have h : xr9 lf rg w p g1 R.toNat = some g' := h
      obtain ⟨a1, a2, a3⟩ := xp9_ok hR H hw hk p e
      obtain ⟨l, el⟩ := xp9_mono p e
      have hk1 : k ≤ g1.length := by rw [el, List.length_append]; omega
      obtain ⟨b1, b2, b3⟩ := xr9_ok a1 hw (by omega) hk1 R.toNat (by omega) h
      refine ⟨b1, fun z hz => b2 z (a2 z hz), fun q r q0 q1 r0 r1 y hy => ?_⟩
      by_cases eq : q = p
      · rw [eq] at hy; exact b3 r r0 (by omega) y hy
      · exact b2 y (a3 q r q0 (by omega) r0 r1 y hy)
theorem bf9_ok {s : List Int} (hR : 0 ≤ R) (hl : ∀ r, 0 ≤ r → r < R → 1 ≤ (lf r).length) : ∀ (k : Nat) {g : List (List Int)}, bf9 lf rg R s k = some g → BF9 lf rg R s g k
  | 0, g, h => by
    cases h
    exact ⟨by simp, rfl, by simp, by simp, fun z hz => ⟨0, by rw [List.mem_singleton.mp hz]; rfl⟩, fun i a => by omega⟩
  | k + 1, g, h => by
    unfold bf9 at h
    cases e : bf9 lf rg R s k with
    | none => rw [e] at h; cases h
    | some g1 =>
      rw [e] at h
      have h : (if k < g1.length then xp9 lf rg R (g1.getD k []) g1 (g1.getD k []).length else some g1) = some g := h
      have H := bf9_ok hR hl k e
      by_cases q : k < g1.length
      · rw [if_pos q] at h
        obtain ⟨a1, a2, a3⟩ := xp9_ok hR H (H.2.2.2.2.1 _ (gtD_mem q)) (by omega) _ h
        obtain ⟨l, el⟩ := xp9_mono _ h
        refine ⟨a1.1, a1.2.1, a1.2.2.1, a1.2.2.2.1, a1.2.2.2.2.1, fun i i1 i2 y hy => ?_⟩
        by_cases ei : i = k
        · rw [ei, el, gtD_appl q] at hy
          obtain ⟨p, r, p0, r0, r1, hs⟩ := hy
          have hp := stp9_lt (hl r r0 r1) hs
          exact a3 p r p0 (by omega) r0 r1 y hs
        · exact a1.2.2.2.2.2 i (by omega) i2 y hy
      · rw [if_neg q] at h
        cases h
        exact ⟨H.1, H.2.1, H.2.2.1, H.2.2.2.1, H.2.2.2.2.1, fun i i1 i2 => H.2.2.2.2.2 i (by omega) i2⟩
end
theorem nz9_zero {f : Int → Int} : ∀ k : Nat, (∀ p : Int, 0 ≤ p → p < k → f p = 0) → nz9 f k = 0
  | 0, _ => rfl
  | k + 1, h => by
    unfold nz9
    rw [nz9_zero k (fun p a b => h p a (by omega)), h k (by omega) (by omega), if_neg (by decide)]
    rfl
section
variable {d : Nat} {n R : Int} {lf rg : Int → List Int} {wt lev : Int → Int} {stt : Int} {ap : Int → UInt32} {str : List Int} {σ : S9}
theorem c_X0_start {w : List Int} {P : S9 → Prop} (hw : St w) (h : ∀ τ, HT9 τ [w] → eq9 (fun k => k < 36 ∨ 44 < k) σ τ → gI τ 43 0 = 0 → gI τ 40 0 = 0 → gI τ 39 0 = -1 → P τ) : Cc (d + 2) mX0_start [.ref 36, .long (lI (encW w))] σ (QV P) := by
  have H : HT9 (aI (sI σ 36 0 0) 38 (fil9 (gI (sI σ 36 0 0) 38) 0 512 0)) [] := by
    refine ⟨?_, by simp, (fun w hw => by cases hw), by simp, (fun i hi => by cases hi), (fun p a b => ?_), ?_, (fun i hi => by cases hi)⟩
    · rw [gI_aI_ne (by decide), gI_aI_eq, up9_eq]; rfl
    · rw [gI_aI_eq]
      have : fil9 (gI (sI σ 36 0 0) 38) 0 512 0 p = 0 := if_pos (by omega)
      rw [this]
      decide
    · rw [gI_aI_eq]
      exact nz9_zero 512 (fun p a b => if_pos (by omega))
  refine Cc_of (by decide +kernel) (fun _ => Nat.le_of_ble_eq_true rfl) rfl (lv := [_, _, _]) ?_
  refine v_aload_n dX0_start_0 rfl ?_
  refine v_iconst dX0_start_1 ?_
  refine v_putI (ji := 0) dX0_start_2 s_36 pfX0_9 rfl ?_
  refine v_aload_n dX0_start_5 rfl ?_
  refine v_getR (k1 := 38) dX0_start_6 s_36 fX0_19 rfl ?_
  refine v_iconst dX0_start_9 ?_
  refine v_callSv2 dX0_start_10 kX0_44 (Nat.le_of_ble_eq_true rfl) (c_J7_fill_53178 s_38 ?_)
  refine v_aload_n dX0_start_13 rfl ?_
  refine v_lload_n dX0_start_14 rfl ?_
  refine v_callVi1 dX0_start_15 kX0_50 s_36 (Nat.le_of_ble_eq_true rfl) (c_X0_add hw H (by simp) (fun z => ?_) (fun z τ T1 e1 e39 e40 e43 => ?_))
  · exact absurd z (by simp)
  · refine v_pop dX0_start_18 rfl ?_
    exact v_return dX0_start_19 rfl (h τ T1 ((((eq9.aI (by omega)).tr (eq9.aI (by omega)))).tr (e1.mono (fun k hk => by omega))) (by rw [e43]; exact up9_eq _ 0 _) (by rw [e40]; exact up9_eq _ 0 _) (by rw [e39]; exact up9_eq _ 0 _))
theorem c_X0_collectAll {P : Int → S9 → Prop} (v : Va n R lf rg wt lev stt ap str) (c : SyC σ 1 n R lf rg wt lev stt ap str) (h0 : bf9 lf rg R str 200 = none → ∀ τ, eq9 (fun k => k < 36 ∨ 44 < k) σ τ → P 0 τ) (h1 : ∀ g τ, bf9 lf rg R str 200 = some g → CI9 τ n g (fun z => mi9 lf rg R g z g.length) → eq9 (fun k => k < 36 ∨ 44 < k) σ τ → P 1 τ) : Cc (d + 5) mX0_collectAll [.ref 36, .ref 1] σ (QI P) := by
  have hn := v.1
  have hR := v.2.1
  refine Cc_of (by decide +kernel) (fun _ => Nat.le_of_ble_eq_true rfl) rfl (lv := [_, _, _]) ?_
  have K : ∀ (m : Nat) (k : Nat) (g : List (List Int)) (τ : S9), k + m = 200 → bf9 lf rg R str k = some g → k ≤ g.length → CI9 τ n g (fun z => mi9 lf rg R g z k) → eq9 (fun k => k < 36 ∨ 44 < k) σ τ → Vv (d + 5) mX0_collectAll 10 [.ref 36, .ref 1, .int (iI k)] [] τ (QI P) := by
    intro m
    induction m with
    | zero =>
      intro k g τ hk hg hl hC he
      have g1 := hC.1.1
      have l2 := hC.1.2.1
      refine v_iload_n dX0_collectAll_10 rfl ?_
      refine v_aload_n dX0_collectAll_11 rfl ?_
      refine v_getI (ji := 0) dX0_collectAll_12 s_36 fX0_9 rfl ?_
      rw [g1]
      refine v_icmp_ge (tgt := 47) dX0_collectAll_15 (by decide) (by omega) (fun q15 => ?_) (fun q15 => absurd q15 (by omega))
      refine v_iconst dX0_collectAll_47 ?_
      exact v_zreturn dX0_collectAll_48 rfl (by decide) (h1 g τ (by rw [← show k = 200 by omega]; exact hg) (by have e : k = g.length := (by omega); rw [e] at hC; exact hC) he)
    | succ m ih =>
      intro k g τ hk hg hl hC he
      have g1 := hC.1.1
      have l2 := hC.1.2.1
      have c2 := c.eq (by omega) (he.mono (fun k hk => by omega))
      refine v_iload_n dX0_collectAll_10 rfl ?_
      refine v_aload_n dX0_collectAll_11 rfl ?_
      refine v_getI (ji := 0) dX0_collectAll_12 s_36 fX0_9 rfl ?_
      rw [g1]
      refine v_icmp_ge (tgt := 47) dX0_collectAll_15 (by decide) (by omega) (fun q15 => ?_) (fun q15 => ?_)
      · refine v_iconst dX0_collectAll_47 ?_
        exact v_zreturn dX0_collectAll_48 rfl (by decide) (h1 g τ (by
        rw [show 200 = k + (200 - k) by omega]
        exact bf9_stay hg (by omega) _) (by have e : k = g.length := (by omega); rw [e] at hC; exact hC) he)
      · refine v_iload_n dX0_collectAll_18 rfl ?_
        refine v_sipush dX0_collectAll_19 (by decide) ?_
        refine v_icmp_ge (tgt := 47) dX0_collectAll_22 (by decide) (by omega) (fun q22 => absurd q22 (by omega)) (fun q22 => ?_)
        refine v_aload_n dX0_collectAll_25 rfl ?_
        refine v_aload_n dX0_collectAll_26 rfl ?_
        refine v_aload_n dX0_collectAll_27 rfl ?_
        refine v_getR (k1 := 37) dX0_collectAll_28 s_36 fX0_15 rfl ?_
        refine v_iload_n dX0_collectAll_31 rfl ?_
        refine v_laload dX0_collectAll_32 s_37 (by omega) ?_
        have kl : k < g.length := by omega
        rw [hC.1.2.2.2.2.1 k kl]
        refine v_callVi2 dX0_collectAll_33 kX0_69 s_36 (Nat.le_of_ble_eq_true rfl) (c_X0_expand v c2 (hC.2.2.2 _ (gtD_mem kl)) hC (fun hx υ e2 => ?_) (fun g2 υ hx hC2 e2 => ?_))
        · refine v_if_ne (tgt := 41) dX0_collectAll_36 (by decide) (by decide) (fun q36 => absurd q36 (by decide)) (fun q36 => ?_)
          refine v_iconst dX0_collectAll_39 ?_
          refine v_zreturn dX0_collectAll_40 rfl (by decide) (by
          refine h0 ?_ υ (he.tr e2)
          have x1 : bf9 lf rg R str (k + 1) = none := by
            show (bf9 lf rg R str k).bind _ = _
            rw [hg]
            exact (if_pos kl).trans hx
          rw [show 200 = k + 1 + (200 - (k + 1)) by omega]
          exact bf9_none x1 _)
        · refine v_if_ne (tgt := 41) dX0_collectAll_36 (by decide) (by decide) (fun q36 => ?_) (fun q36 => absurd q36 (by decide))
          refine v_iinc (lv' := [_, _, _]) dX0_collectAll_41 rfl (Nat.le_of_ble_eq_true rfl) rfl rfl ?_
          refine v_goto (tgt := 10) dX0_collectAll_44 (by decide) ?_
          obtain ⟨l, el⟩ := xp9_mono _ hx
          refine ih (k + 1) g2 υ (by omega) ?_ (by rw [el, List.length_append]; omega) (hC2.congr (fun z => ?_)) (he.tr e2)
          · show (bf9 lf rg R str k).bind _ = _
            rw [hg]
            exact (if_pos kl).trans hx
          · rw [mi9, el, mi9_app k hl, gtD_appl kl]
  refine v_aload_n dX0_collectAll_0 rfl ?_
  refine v_aload_n dX0_collectAll_1 rfl ?_
  refine v_getL (ji := 9) dX0_collectAll_2 s_1 fX0_59 rfl ?_
  rw [c.2.2.2.1]
  refine v_callVv1 dX0_collectAll_5 kX0_65 s_36 (Nat.le_of_ble_eq_true rfl) (c_X0_start v.st (fun τ T e s1 s2 s3 => ?_))
  refine v_iconst dX0_collectAll_8 ?_
  refine v_istore_n (lv' := [_, _, _]) dX0_collectAll_9 (Nat.le_of_ble_eq_true rfl) rfl rfl ?_
  exact K 200 0 [str] τ (by omega) rfl (by simp) ⟨T, fun j hj => by
      have : j = 0 := by simp at hj; exact hj
      subst this
      exact ⟨s1, s2⟩, fun z hz => rfl, fun z hz => by rw [List.mem_singleton.mp hz]; exact v.2.2.2.2.2⟩ e
end
