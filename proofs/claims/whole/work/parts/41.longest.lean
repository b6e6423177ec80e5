section
variable {d : Nat} {n R : Int} {lf rg : Int → List Int} {wt lev : Int → Int} {stt : Int} {ap : Int → UInt32} {str : List Int} {σ : S9}
theorem c_X0_longestFromFirst {s : List Int} {g : List (List Int)} {P : Int → S9 → Prop} (v : Va n R lf rg wt lev stt ap str) (c : SyC σ 1 n R lf rg wt lev stt ap str) (hB : BF9 lf rg R s g g.length) (hC : CI9 σ n g (fun z => mi9 lf rg R g z g.length)) (h : ∀ a τ, Ans9 lf rg R s a → eq9 (fun k => k < 36 ∨ 44 < k) σ τ → P a τ) : Cc (d + 5) mX0_longestFromFirst [.ref 36, .ref 1] σ (QI P) := by
  have hn := v.1
  have hR := v.2.1
  have hlr : ∀ r, 0 ≤ r → r < R → 1 ≤ (lf r).length := fun r a b => (v.2.2.1 r a b).2.1
  obtain ⟨HT, C1, C2, C3⟩ := hC
  have hN := hB.2.2.2.1
  have hN1 := hB.2.2.1
  have mlen : ∀ z, mi9 lf rg R g z g.length ≤ 19200 ∧ 0 ≤ mi9 lf rg R g z g.length := fun z => by
    rw [← uw9_mi]
    have h1 := uw9_le (lf := lf) (rg := rg) (R := R) (g := g) (W := fun _ => 0) (y := z) (by omega) (fun z hz => (C3 z hz).2) g.length (by omega)
    have h2 := uw9_nn (lf := lf) (rg := rg) (R := R) (g := g) (W := fun _ => 0) (y := z) g.length
    omega
  have hin : ∀ j : Nat, j < g.length → j ≠ 0 → mi9 lf rg R g (g.getD j []) g.length ≠ 0 := fun j hj hj0 => by
    obtain ⟨L, hL⟩ := hB.2.2.2.2.1 _ (gtD_mem hj)
    cases L with
    | zero =>
      exfalso
      have hL : s = g.getD j [] := hL
      rw [← hB.2.1] at hL
      exact hj0 (nodup_gtD hB.1 hj (by omega) hL.symm)
    | succ L =>
      obtain ⟨y, y1, y2⟩ := hL
      obtain ⟨i, i1, i2⟩ := mem_gtD (reach_in hB L y1)
      have h1 := (mi9_ge (lf := lf) (rg := rg) (R := R) (g := g) (y := g.getD j []) (i := i) g.length i1).1
      rw [i2] at h1
      have h2 := (m9_sc hlr).mpr y2
      have h3 := m9_nn (lf := lf) (rg := rg) (R := R) (y := g.getD j []) (w := y)
      omega
  refine Cc_of (by decide +kernel) (fun _ => Nat.le_of_ble_eq_true rfl) rfl (lv := [_, _, _, _]) ?_
  have K : ∀ (m : Nat) (k : Nat) (τ : S9) (W mk : Int → Int) (t l : Int), k + m = 200 → (k : Int) ≤ t → KI9 τ lf rg R s g (fun z => uw9 lf rg R g W z g.length) mk t → (∀ j : Nat, j < g.length → (W j ≠ 0 ↔ ∃ x, 0 ≤ x ∧ x < (k : Int) ∧ gI τ 44 x = j)) → (∀ i j : Nat, i < g.length → j < g.length → W i ≠ 0 → m9 lf rg R (g.getD i []) (g.getD j []) ≠ 0 → gI τ 40 i + 1 ≤ gI τ 40 j) → (∀ j : Nat, j < g.length → gI τ 40 j ≤ k) → (0 ≤ l ∧ l ≤ k) → (∀ x, 0 ≤ x → x < (k : Int) → gI τ 40 (gI τ 44 x) ≤ l) → (∃ z, dr9 lf rg R l.toNat s z) → eq9 (fun k => k < 36 ∨ 44 < k) σ τ → Vv (d + 5) mX0_longestFromFirst 30 [.ref 36, .ref 1, .int (iI l), .int (iI k)] [] τ (QI P) := by
    intro m
    have fin : ∀ (k : Nat) (τ : S9) (W mk : Int → Int) (t l : Int), t = (k : Int) → KI9 τ lf rg R s g (fun z => uw9 lf rg R g W z g.length) mk t → (∀ j : Nat, j < g.length → (W j ≠ 0 ↔ ∃ x, 0 ≤ x ∧ x < (k : Int) ∧ gI τ 44 x = j)) → (∀ i j : Nat, i < g.length → j < g.length → W i ≠ 0 → m9 lf rg R (g.getD i []) (g.getD j []) ≠ 0 → gI τ 40 i + 1 ≤ gI τ 40 j) → (0 ≤ l ∧ l ≤ k) → (∀ x, 0 ≤ x → x < (k : Int) → gI τ 40 (gI τ 44 x) ≤ l) → (∃ z, dr9 lf rg R l.toNat s z) → (t = g.length → Ans9 lf rg R s l) ∧ (t ≠ g.length → Ans9 lf rg R s (-6)) := by
      intro k τ W mk t l htk hI hW hE hl hlx hlz
      obtain ⟨I0, I1, I2, I3, I4, I5, I6, I7⟩ := hI
      constructor
      · intro ht
        have allm := nz9_full (f := mk) g.length (by omega)
        have allW : ∀ j : Nat, j < g.length → W j ≠ 0 ∧ gI τ 40 j ≤ l := fun j hj => by
          obtain ⟨x, x0, x1, x2⟩ := I6 j hj (allm j (by omega) (by omega))
          refine ⟨(hW j hj).mpr ⟨x, x0, by omega, x2⟩, ?_⟩
          rw [← x2]
          exact hlx x x0 (by omega)
        have big : ∀ (m : Nat) (z : List Int), dr9 lf rg R m s z → ∃ j : Nat, j < g.length ∧ g.getD j [] = z ∧ (m : Int) ≤ gI τ 40 j := fun m => by
          induction m with
          | zero =>
            intro z hz
            have hz : s = z := hz
            exact ⟨0, by omega, by rw [hB.2.1]; exact hz, by have := (I3 0 (by omega)).2.1; exact this⟩
          | succ m ihm =>
            rintro z ⟨y, y1, y2⟩
            obtain ⟨i, i1, i2, i3⟩ := ihm y y1
            obtain ⟨j, j1, j2⟩ := mem_gtD (hB.2.2.2.2.2 i i1 i1 z (by rw [i2]; exact y2))
            have h8 := hE i j i1 j1 (allW i i1).1 (by rw [i2, j2]; exact (m9_sc hlr).mpr y2)
            exact ⟨j, j1, j2, by omega⟩
        refine Or.inr ⟨l.toNat, by omega, hlz, fun z hz => ?_⟩
        obtain ⟨j, j1, _, j3⟩ := big _ z hz
        have := (allW j j1).2
        omega
      · intro ht
        have hex : ∃ j : Nat, j < g.length ∧ mk j = 0 := Classical.byContradiction (fun q => ht (by
          rw [← I2]
          exact nz9_all g.length (fun p a b => fun e => q ⟨p.toNat, by omega, by rw [show ((p.toNat : Nat) : Int) = p by omega]; exact e⟩)))
        have back : ∀ (m : Nat) (j : Nat), j < g.length → mk j = 0 → ∃ i : Nat, i < g.length ∧ mk i = 0 ∧ dr9 lf rg R m (g.getD i []) (g.getD j []) := fun m => by
          induction m with
          | zero => intro j hj hm; exact ⟨j, hj, hm, rfl⟩
          | succ m ihm =>
            intro j hj hm
            have h8 : uw9 lf rg R g W (g.getD j []) g.length ≠ 0 := fun q => (I4 j hj).mpr q hm
            obtain ⟨i, i1, i2, i3⟩ := uw9_pos g.length h8
            have hmi : mk i = 0 := Classical.byContradiction (fun q => by
              obtain ⟨x, x0, x1, x2⟩ := I6 i i1 q
              exact (hW i i1).mpr ⟨x, x0, by omega, x2⟩ i2)
            obtain ⟨i', a, b, c⟩ := ihm i i1 hmi
            exact ⟨i', a, b, _, c, (m9_sc hlr).mp i3⟩
        refine Or.inl ⟨rfl, fun L => ?_⟩
        obtain ⟨j, hj, hm⟩ := hex
        obtain ⟨i, i1, i2, i3⟩ := back L j hj hm
        obtain ⟨M, hM⟩ := hB.2.2.2.2.1 _ (gtD_mem i1)
        have h8 := dr9_add hM L i3
        rw [Nat.add_comm] at h8
        exact dr9_pre _ _ h8
    induction m with
    | zero =>
      intro k τ W mk t l hk hkt hI hW hE hD hl hlx hlz he
      have t1 := (nz9_le (f := mk) g.length)
      have t2 := hI.2.2.1
      have F := fin k τ W mk t l (by omega) hI hW hE hl hlx hlz
      refine v_iload_n dX0_longestFromFirst_30 rfl ?_
      refine v_aload_n dX0_longestFromFirst_31 rfl ?_
      refine v_getI (ji := 9) dX0_longestFromFirst_32 s_36 fX0_41 rfl ?_
      rw [hI.2.1]
      refine v_icmp_ge (tgt := 78) dX0_longestFromFirst_35 (by decide) (by omega) (fun q35 => ?_) (fun q35 => absurd q35 (by omega))
      refine v_aload_n dX0_longestFromFirst_78 rfl ?_
      refine v_getI (ji := 9) dX0_longestFromFirst_79 s_36 fX0_41 rfl ?_
      rw [hI.2.1]
      refine v_aload_n dX0_longestFromFirst_82 rfl ?_
      refine v_getI (ji := 0) dX0_longestFromFirst_83 s_36 fX0_9 rfl ?_
      rw [hI.1.1]
      refine v_icmp_ne (tgt := 93) dX0_longestFromFirst_86 (by decide) (by omega) (fun q86 => ?_) (fun q86 => ?_)
      · refine v_bipush dX0_longestFromFirst_93 (by decide) ?_
        exact v_ireturn dX0_longestFromFirst_95 rfl (by first | exact h _ τ (F.1 q86) he | exact h _ τ (F.2 q86) he)
      · refine v_iload_n dX0_longestFromFirst_89 rfl ?_
        refine v_goto (tgt := 95) dX0_longestFromFirst_90 (by decide) ?_
        exact v_ireturn dX0_longestFromFirst_95 rfl (by first | exact h _ τ (F.1 q86) he | exact h _ τ (F.2 q86) he)
    | succ m ih =>
      intro k τ W mk t l hk hkt hI hW hE hD hl hlx hlz he
      have t1 := (nz9_le (f := mk) g.length)
      have t2 := hI.2.2.1
      have c2 := c.eq (by omega) (he.mono (fun k hk => by omega))
      by_cases hkt2 : t = (k : Int)
      · have F := fin k τ W mk t l hkt2 hI hW hE hl hlx hlz
        refine v_iload_n dX0_longestFromFirst_30 rfl ?_
        refine v_aload_n dX0_longestFromFirst_31 rfl ?_
        refine v_getI (ji := 9) dX0_longestFromFirst_32 s_36 fX0_41 rfl ?_
        rw [hI.2.1]
        refine v_icmp_ge (tgt := 78) dX0_longestFromFirst_35 (by decide) (by omega) (fun q35 => ?_) (fun q35 => absurd q35 (by omega))
        refine v_aload_n dX0_longestFromFirst_78 rfl ?_
        refine v_getI (ji := 9) dX0_longestFromFirst_79 s_36 fX0_41 rfl ?_
        rw [hI.2.1]
        refine v_aload_n dX0_longestFromFirst_82 rfl ?_
        refine v_getI (ji := 0) dX0_longestFromFirst_83 s_36 fX0_9 rfl ?_
        rw [hI.1.1]
        refine v_icmp_ne (tgt := 93) dX0_longestFromFirst_86 (by decide) (by omega) (fun q86 => ?_) (fun q86 => ?_)
        · refine v_bipush dX0_longestFromFirst_93 (by decide) ?_
          exact v_ireturn dX0_longestFromFirst_95 rfl (by first | exact h _ τ (F.1 q86) he | exact h _ τ (F.2 q86) he)
        · refine v_iload_n dX0_longestFromFirst_89 rfl ?_
          refine v_goto (tgt := 95) dX0_longestFromFirst_90 (by decide) ?_
          exact v_ireturn dX0_longestFromFirst_95 rfl (by first | exact h _ τ (F.1 q86) he | exact h _ τ (F.2 q86) he)
      · obtain ⟨i, i1, i2, i3, i4⟩ := hI.2.2.2.2.2.1 k (by omega) (by omega)
        have bD := hD i i1
        have bD0 := (hI.2.2.2.1 i i1).2.1
        have hWi : W i = 0 := Classical.byContradiction (fun q => by
          obtain ⟨x, x0, x1, x2⟩ := (hW i i1).mp q
          have := hI.2.2.2.2.2.2.2 x k x0 (by omega) (by omega) (by omega) (by rw [x2, i2])
          omega)
        refine v_iload_n dX0_longestFromFirst_30 rfl ?_
        refine v_aload_n dX0_longestFromFirst_31 rfl ?_
        refine v_getI (ji := 9) dX0_longestFromFirst_32 s_36 fX0_41 rfl ?_
        rw [hI.2.1]
        refine v_icmp_ge (tgt := 78) dX0_longestFromFirst_35 (by decide) (by omega) (fun q35 => absurd q35 (by omega)) (fun q35 => ?_)
        refine v_iload_n dX0_longestFromFirst_38 rfl ?_
        refine v_sipush dX0_longestFromFirst_39 (by decide) ?_
        refine v_icmp_ge (tgt := 78) dX0_longestFromFirst_42 (by decide) (by omega) (fun q42 => absurd q42 (by omega)) (fun q42 => ?_)
        refine v_iload_n dX0_longestFromFirst_45 rfl ?_
        refine v_aload_n dX0_longestFromFirst_46 rfl ?_
        refine v_getR (k1 := 40) dX0_longestFromFirst_47 s_36 fX0_26 rfl ?_
        refine v_aload_n dX0_longestFromFirst_50 rfl ?_
        refine v_getR (k1 := 44) dX0_longestFromFirst_51 s_36 fX0_38 rfl ?_
        refine v_iload_n dX0_longestFromFirst_54 rfl ?_
        refine v_iaload dX0_longestFromFirst_55 s_44 (by omega) ?_
        rw [i2]
        refine v_iaload dX0_longestFromFirst_56 s_40 (by omega) ?_
        refine v_mmax dX0_longestFromFirst_57 mmX0_93 (by omega) (Nat.le_of_ble_eq_true rfl) ?_
        refine v_istore_n (lv' := [_, _, _, _]) dX0_longestFromFirst_60 (Nat.le_of_ble_eq_true rfl) rfl rfl ?_
        refine v_aload_n dX0_longestFromFirst_61 rfl ?_
        refine v_aload_n dX0_longestFromFirst_62 rfl ?_
        refine v_aload_n dX0_longestFromFirst_63 rfl ?_
        refine v_getR (k1 := 44) dX0_longestFromFirst_64 s_36 fX0_38 rfl ?_
        refine v_iload_n dX0_longestFromFirst_67 rfl ?_
        refine v_iaload dX0_longestFromFirst_68 s_44 (by omega) ?_
        rw [i2]
        refine v_callVv2 dX0_longestFromFirst_69 kX0_99 s_36 (Nat.le_of_ble_eq_true rfl) (c_X0_walkFrom (K := k) v c2 hB C3 hI i1 hWi i3 i4 (fun j hj hw => by obtain ⟨x, x0, x1, x2⟩ := (hW j hj).mp hw; obtain ⟨j2, a, b, e, _⟩ := hI.2.2.2.2.2.1 x x0 (by omega); rw [show j = j2 by omega]; exact e) hE (by omega) hD (fun υ mk2 t3 u1 u2 u3 u4 u5 u6 u7 => ?_))
        refine v_iinc (lv' := [_, _, _, _]) dX0_longestFromFirst_72 rfl (Nat.le_of_ble_eq_true rfl) rfl rfl ?_
        refine v_goto (tgt := 30) dX0_longestFromFirst_75 (by decide) ?_
        have t3b := (nz9_le (f := mk2) g.length)
        have t3c := u1.2.2.1
        refine ih (k + 1) υ (up9 W i 1) mk2 t3 _ (by omega) (by omega) u1 (fun j hj => ?_) u5 (fun j hj => by have := u6 j hj; omega) (by omega) (fun x x0 x1 => ?_) ?_ (he.tr u7)
        · by_cases e : j = i
          · rw [e, up9_eq]
            exact ⟨fun _ => ⟨k, by omega, by omega, by rw [u3 k (by omega) (by omega)]; exact i2⟩, fun _ => by decide⟩
          · rw [up9_ne (by omega), hW j hj]
            constructor
            · rintro ⟨x, x0, x1, x2⟩
              exact ⟨x, x0, by omega, by rw [u3 x x0 (by omega)]; exact x2⟩
            · rintro ⟨x, x0, x1, x2⟩
              rw [u3 x x0 (by omega)] at x2
              refine ⟨x, x0, ?_, x2⟩
              have : x ≠ k := fun q => by rw [q, i2] at x2; omega
              omega
        · rw [u3 x x0 (by omega)]
          obtain ⟨j2, a, b, e, _⟩ := hI.2.2.2.2.2.1 x x0 (by omega)
          rw [b, (u4 j2 a e).2]
          by_cases q : x = k
          · rw [q, i2] at b; rw [show j2 = i by omega]; omega
          · have h8 := hlx x x0 (by omega); rw [b] at h8; omega
        · by_cases q : l ≤ gI τ 40 i
          · rw [show max l (gI τ 40 i) = gI τ 40 i by omega]; exact ⟨_, i4⟩
          · rw [show max l (gI τ 40 i) = l by omega]; exact hlz
  have C10 := C1 0 (by omega)
  have m0 := mlen (g.getD 0 [])
  have C10 : gI σ 43 0 = mi9 lf rg R g (g.getD 0 []) g.length ∧ gI σ 40 0 = 0 := C10
  have kA : mi9 lf rg R g (g.getD 0 []) g.length = 0 → Vv (d + 5) mX0_longestFromFirst 30 [.ref 36, .ref 1, .int (iI 0), .int (iI 0)] [] (sI (sI (sI σ 36 9 0) 44 0 0) 36 9 1) (QI P) := by
    intro q11
    have h0 := q11
    refine K 200 0 _ (fun _ => 0) (up9 (fun _ => 0) 0 1) 1 0 (by omega) (by omega) ⟨?_, ?_, ?_, fun j hj => ?_, fun j hj => ?_, fun x x0 x1 => ?_, fun j hj hm => ?_, fun x y x0 x1 y0 y1 _ => by omega⟩ (fun j hj => ⟨fun q => absurd rfl q, fun ⟨x, x0, x1, _⟩ => by omega⟩) (fun i j _ _ q => absurd rfl q) (fun j hj => ?_) (by omega) (fun x x0 x1 => by omega) ⟨s, rfl⟩ (((eq9.aI (by omega)).tr (eq9.aI (by omega))).tr (eq9.aI (by omega)))
    · refine ⟨?_, ?_⟩
      · rw [gI_aI_eq, up9_ne (by decide), gI_aI_ne (by decide), gI_aI_eq, up9_ne (by decide)]; exact HT.1
      · rw [gI_aI_ne (by decide), gI_aI_ne (by decide), gI_aI_ne (by decide)]; exact HT.2
    · rw [gI_aI_eq, up9_eq]
    · rw [nz9_up (f := fun _ => 0) (by decide) rfl g.length (by omega) (by omega), nz9_zero g.length (fun _ _ _ => rfl)]; rfl
    · rw [gI_aI_ne (by decide), gI_aI_ne (by decide), gI_aI_ne (by decide), gI_aI_ne (by decide), gI_aI_ne (by decide), gI_aI_ne (by decide), (C1 j hj).1, (C1 j hj).2]
      exact ⟨(uw9_mi g.length).symm, by decide, Or.inl rfl⟩
    · show _ ↔ uw9 lf rg R g (fun _ => 0) (g.getD j []) g.length = 0
      rw [uw9_mi]
      by_cases e : j = 0
      · rw [e]; exact ⟨fun _ => h0, fun _ => by rw [show ((0 : Nat) : Int) = 0 from rfl, up9_eq]; decide⟩
      · rw [up9_ne (by omega)]; exact ⟨fun q => absurd rfl q, fun q => absurd q (hin j hj e)⟩
    · refine ⟨0, by omega, ?_, by rw [show ((0 : Nat) : Int) = 0 from rfl, up9_eq]; decide, ?_⟩
      · rw [gI_aI_ne (by decide), gI_aI_eq, show x = 0 by omega, up9_eq]; rfl
      · rw [gI_aI_ne (by decide), gI_aI_ne (by decide), gI_aI_ne (by decide), show ((0 : Nat) : Int) = 0 from rfl, C10.2]; exact hB.2.1.symm
    · have : j = 0 := Classical.byContradiction (fun q => hm (up9_ne (by omega)))
      exact ⟨0, by omega, by omega, by rw [gI_aI_ne (by decide), gI_aI_eq, up9_eq, this]; rfl⟩
    · rw [gI_aI_ne (by decide), gI_aI_ne (by decide), gI_aI_ne (by decide), (C1 j hj).2]; exact Int.le_refl _
  have kB : mi9 lf rg R g (g.getD 0 []) g.length ≠ 0 → Vv (d + 5) mX0_longestFromFirst 30 [.ref 36, .ref 1, .int (iI 0), .int (iI 0)] [] (sI σ 36 9 0) (QI P) := by
    intro q11
    refine K 200 0 _ (fun _ => 0) (fun _ => 0) 0 0 (by omega) (by omega) ⟨?_, ?_, ?_, fun j hj => ?_, fun j hj => ?_, fun x x0 x1 => by omega, fun j hj hm => absurd rfl hm, fun x y x0 x1 y0 y1 _ => by omega⟩ (fun j hj => ⟨fun q => absurd rfl q, fun ⟨x, x0, x1, _⟩ => by omega⟩) (fun i j _ _ q => absurd rfl q) (fun j hj => ?_) (by omega) (fun x x0 x1 => by omega) ⟨s, rfl⟩ (eq9.aI (by omega))
    · refine ⟨?_, ?_⟩
      · rw [gI_aI_eq, up9_ne (by decide)]; exact HT.1
      · rw [gI_aI_ne (by decide)]; exact HT.2
    · rw [gI_aI_eq, up9_eq]
    · exact nz9_zero g.length (fun _ _ _ => rfl)
    · rw [gI_aI_ne (by decide), gI_aI_ne (by decide), (C1 j hj).1, (C1 j hj).2]
      exact ⟨(uw9_mi g.length).symm, by decide, Or.inl rfl⟩
    · show _ ↔ uw9 lf rg R g (fun _ => 0) (g.getD j []) g.length = 0
      rw [uw9_mi]
      refine ⟨fun q => absurd rfl q, fun q => ?_⟩
      by_cases e : j = 0
      · rw [e] at q; exact absurd q q11
      · exact absurd q (hin j hj e)
    · rw [gI_aI_ne (by decide), (C1 j hj).2]; exact Int.le_refl _
  refine v_aload_n dX0_longestFromFirst_0 rfl ?_
  refine v_iconst dX0_longestFromFirst_1 ?_
  refine v_putI (ji := 9) dX0_longestFromFirst_2 s_36 pfX0_41 rfl ?_
  refine v_aload_n dX0_longestFromFirst_5 rfl ?_
  refine v_getR (k1 := 43) dX0_longestFromFirst_6 s_36 fX0_35 rfl ?_
  refine v_iconst dX0_longestFromFirst_9 ?_
  refine v_iaload dX0_longestFromFirst_10 s_43 (by omega) ?_
  rw [gI_aI_ne (by decide), C10.1]
  refine v_if_ne (tgt := 26) dX0_longestFromFirst_11 (by decide) (by omega) (fun q11 => ?_) (fun q11 => ?_)
  · refine v_iconst dX0_longestFromFirst_26 ?_
    refine v_istore_n (lv' := [_, _, _, _]) dX0_longestFromFirst_27 (Nat.le_of_ble_eq_true rfl) rfl rfl ?_
    refine v_iconst dX0_longestFromFirst_28 ?_
    refine v_istore_n (lv' := [_, _, _, _]) dX0_longestFromFirst_29 (Nat.le_of_ble_eq_true rfl) rfl rfl ?_
    first
    | exact kA q11
    | exact kB q11
  · refine v_aload_n dX0_longestFromFirst_14 rfl ?_
    refine v_getR (k1 := 44) dX0_longestFromFirst_15 s_36 fX0_38 rfl ?_
    refine v_iconst dX0_longestFromFirst_18 ?_
    refine v_iconst dX0_longestFromFirst_19 ?_
    refine v_iastore dX0_longestFromFirst_20 s_44 (by omega) ?_
    refine v_aload_n dX0_longestFromFirst_21 rfl ?_
    refine v_iconst dX0_longestFromFirst_22 ?_
    refine v_putI (ji := 9) dX0_longestFromFirst_23 s_36 pfX0_41 rfl ?_
    refine v_iconst dX0_longestFromFirst_26 ?_
    refine v_istore_n (lv' := [_, _, _, _]) dX0_longestFromFirst_27 (Nat.le_of_ble_eq_true rfl) rfl rfl ?_
    refine v_iconst dX0_longestFromFirst_28 ?_
    refine v_istore_n (lv' := [_, _, _, _]) dX0_longestFromFirst_29 (Nat.le_of_ble_eq_true rfl) rfl rfl ?_
    first
    | exact kA q11
    | exact kB q11
theorem c_X9_longestDerivation {P : Int → S9 → Prop} (v : Va n R lf rg wt lev stt ap str) (c : SyC σ 1 n R lf rg wt lev stt ap str) (h0 : bf9 lf rg R str 200 = none → ∀ τ, eq9 (fun k => k < 36 ∨ 44 < k) σ τ → P (-7) τ) (h1 : ∀ g a, bf9 lf rg R str 200 = some g → Ans9 lf rg R str a → ∀ τ, eq9 (fun k => k < 36 ∨ 44 < k) σ τ → P a τ) : Cc (d + 6) mX9_longestDerivation [.ref 0] σ (QI P) := by
  have hn := v.1
  have hR := v.2.1
  refine Cc_of (by decide +kernel) (fun _ => Nat.le_of_ble_eq_true rfl) rfl (lv := [_]) ?_
  refine v_aload_n dX9_longestDerivation_0 rfl ?_
  refine v_getR (k1 := 36) dX9_longestDerivation_1 s_0 fX9_42 rfl ?_
  refine v_aload_n dX9_longestDerivation_4 rfl ?_
  refine v_getR (k1 := 1) dX9_longestDerivation_5 s_0 fX9_14 rfl ?_
  refine v_callVi1 dX9_longestDerivation_8 kX9_208 s_36 (Nat.le_of_ble_eq_true rfl) (c_X0_collectAll v c (fun hx τ e1 => ?_) (fun g τ hx hC e1 => ?_))
  · refine v_if_eq (tgt := 28) dX9_longestDerivation_11 (by decide) (by decide) (fun q11 => ?_) (fun q11 => absurd q11 (by decide))
    refine v_bipush dX9_longestDerivation_28 (by decide) ?_
    exact v_ireturn dX9_longestDerivation_30 rfl (h0 hx τ e1)
  · have hB0 := bf9_ok (by omega) (fun r a b => (v.2.2.1 r a b).2.1) 200 hx
    have hB : BF9 lf rg R str g g.length := ⟨hB0.1, hB0.2.1, hB0.2.2.1, hB0.2.2.2.1, hB0.2.2.2.2.1, fun i i1 i2 => hB0.2.2.2.2.2 i (by have := hB0.2.2.2.1; omega) i2⟩
    refine v_if_eq (tgt := 28) dX9_longestDerivation_11 (by decide) (by decide) (fun q11 => absurd q11 (by decide)) (fun q11 => ?_)
    refine v_aload_n dX9_longestDerivation_14 rfl ?_
    refine v_getR (k1 := 36) dX9_longestDerivation_15 s_0 fX9_42 rfl ?_
    refine v_aload_n dX9_longestDerivation_18 rfl ?_
    refine v_getR (k1 := 1) dX9_longestDerivation_19 s_0 fX9_14 rfl ?_
    refine v_callVi1 dX9_longestDerivation_22 kX9_212 s_36 (Nat.le_of_ble_eq_true rfl) (c_X0_longestFromFirst v (c.eq (by omega) (e1.mono (fun k hk => by omega))) hB hC (fun a υ hA e2 => ?_))
    refine v_goto (tgt := 30) dX9_longestDerivation_25 (by decide) ?_
    exact v_ireturn dX9_longestDerivation_30 rfl (h1 g a hx hA υ (e1.tr e2))
end
