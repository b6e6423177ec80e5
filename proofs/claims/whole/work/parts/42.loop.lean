/-! ===== loops ===== -/
/-- a string that was found, from which one, by which rule, where -/
abbrev E9 := List Int × Nat × Int × Int
/-- what was found, and (perhaps) how it ended: too much, or a loop by a last step -/
abbrev T9 := List E9 × Option (Option (Nat × Int × Int))
def en9 (E : List E9) (k : Nat) : E9 := E.getD k ([], 0, 0, 0)
def ho9 (l y : List Int) : Bool := (List.range (y.length + 1)).any (fun q => decide (q + l.length ≤ y.length ∧ (y.drop q).take l.length = l))
theorem ho9_iff {l y : List Int} : ho9 l y = true ↔ ∃ p, occ9 l y p := by
  unfold ho9
  rw [List.any_eq_true]
  constructor
  · rintro ⟨q, _, h2⟩
    rw [decide_eq_true_iff] at h2
    exact ⟨q, by omega, by omega, by rw [Int.toNat_natCast]; exact h2.2⟩
  · rintro ⟨p, h0, h1, h2⟩
    exact ⟨p.toNat, List.mem_range.mpr (by omega), decide_eq_true ⟨by omega, h2⟩⟩
def ls9 (l : List Int) (k : Nat) (p r : Int) (o : Option (List Int)) (S : T9) : T9 := if S.2 ≠ none then S else match o with
  | none => S
  | some y => if ho9 l y = true then (S.1, some (some (k, r, p))) else if y ∈ S.1.map (·.1) then S else if S.1.length < 200 then (S.1 ++ [(y, k, r, p)], none) else (S.1, some none)
def lr9 (l : List Int) (lf rg : Int → List Int) (w : List Int) (k : Nat) (p : Int) (S : T9) : Nat → T9
  | 0 => S
  | r + 1 => ls9 l k p r (stp9 (lf r) (rg r) w p) (lr9 l lf rg w k p S r)
def lq9 (l : List Int) (lf rg : Int → List Int) (R : Int) (w : List Int) (k : Nat) (S : T9) : Nat → T9
  | 0 => S
  | p + 1 => lr9 l lf rg w k p (lq9 l lf rg R w k S p) R.toNat
def lk9 (l : List Int) (lf rg : Int → List Int) (R : Int) : Nat → T9
  | 0 => ([(l, 0, 0, 0)], none)
  | k + 1 => if (lk9 l lf rg R k).2 = none ∧ k < (lk9 l lf rg R k).1.length then lq9 l lf rg R (en9 (lk9 l lf rg R k).1 k).1 k (lk9 l lf rg R k) (en9 (lk9 l lf rg R k).1 k).1.length else lk9 l lf rg R k
/-- the steps that lead to string k, the last one first -/
def pt9 (E : List E9) : List (Int × Int) → Nat → Prop
  | [], k => k = 0
  | x :: L, k => k ≠ 0 ∧ x = ((en9 E k).2.2.1, (en9 E k).2.2.2) ∧ pt9 E L (en9 E k).2.1
theorem pt9_uniq {E : List E9} : ∀ {L M : List (Int × Int)} {k : Nat}, pt9 E L k → pt9 E M k → L = M
  | [], [], _, _, _ => rfl
  | [], _ :: _, _, h1, h2 => absurd h1 h2.1
  | _ :: _, [], _, h1, h2 => absurd h2 h1.1
  | x :: L, y :: M, k, ⟨_, h1, h2⟩, ⟨_, h3, h4⟩ => by rw [h1, h3, pt9_uniq h2 h4]
theorem ls9_done {l : List Int} {k : Nat} {p r : Int} {o : Option (List Int)} {S : T9} (h : S.2 ≠ none) : ls9 l k p r o S = S := if_pos h
theorem lr9_done {l : List Int} {lf rg : Int → List Int} {w : List Int} {k : Nat} {p : Int} {S : T9} {r : Nat} (h : (lr9 l lf rg w k p S r).2 ≠ none) : ∀ j : Nat, lr9 l lf rg w k p S (r + j) = lr9 l lf rg w k p S r
  | 0 => rfl
  | j + 1 => by
    show ls9 _ _ _ _ _ (lr9 l lf rg w k p S (r + j)) = _
    rw [lr9_done h j]
    exact ls9_done h
theorem lr9_done0 {l : List Int} {lf rg : Int → List Int} {w : List Int} {k : Nat} {p : Int} {S : T9} (h : S.2 ≠ none) (r : Nat) : lr9 l lf rg w k p S r = S := by
  have := lr9_done (l := l) (lf := lf) (rg := rg) (w := w) (k := k) (p := p) (S := S) (r := 0) h r
  rw [Nat.zero_add] at this
  exact this
theorem lq9_done {l : List Int} {lf rg : Int → List Int} {R : Int} {w : List Int} {k : Nat} {S : T9} {p : Nat} (h : (lq9 l lf rg R w k S p).2 ≠ none) : ∀ j : Nat, lq9 l lf rg R w k S (p + j) = lq9 l lf rg R w k S p
  | 0 => rfl
  | j + 1 => by
    show lr9 _ _ _ _ _ _ (lq9 l lf rg R w k S (p + j)) _ = _
    rw [lq9_done h j]
    exact lr9_done0 h _
theorem lk9_stay {l : List Int} {lf rg : Int → List Int} {R : Int} {k : Nat} (h : (lk9 l lf rg R k).2 ≠ none ∨ (lk9 l lf rg R k).1.length ≤ k) : ∀ j : Nat, lk9 l lf rg R (k + j) = lk9 l lf rg R k
  | 0 => rfl
  | j + 1 => by
    have ih := lk9_stay h j
    show (if (lk9 l lf rg R (k + j)).2 = none ∧ k + j < (lk9 l lf rg R (k + j)).1.length then _ else lk9 l lf rg R (k + j)) = _
    rw [ih]
    refine if_neg (fun q => ?_)
    rcases h with h | h
    · exact h q.1
    · omega
theorem en9_app {E : List E9} {e : E9} {k : Nat} (h : k < E.length) : en9 (E ++ [e]) k = en9 E k := by
  unfold en9
  rw [List.getD_eq_getElem?_getD, List.getD_eq_getElem?_getD, List.getElem?_append_left h]
theorem en9_last {E : List E9} {e : E9} : en9 (E ++ [e]) E.length = e := by
  unfold en9
  rw [List.getD_eq_getElem?_getD, List.getElem?_append_right (by omega)]
  simp
theorem en9_mem {E : List E9} {k : Nat} (h : k < E.length) : en9 E k ∈ E := by
  unfold en9
  rw [List.getD_eq_getElem?_getD, List.getElem?_eq_getElem h]
  exact List.getElem_mem h
theorem map_gtD {E : List E9} {k : Nat} (h : k < E.length) : (E.map (·.1)).getD k [] = (en9 E k).1 := by
  unfold en9
  rw [List.getD_eq_getElem?_getD, List.getD_eq_getElem?_getD, List.getElem?_map, List.getElem?_eq_getElem h]
  rfl
/-- entries lead back -/
def WF9 (E : List E9) : Prop := ∀ k : Nat, k < E.length → 1 ≤ k → (en9 E k).2.1 < k ∧ (0 ≤ (en9 E k).2.2.1 ∧ (en9 E k).2.2.1 ≤ 8) ∧ (0 ≤ (en9 E k).2.2.2 ∧ (en9 E k).2.2.2 ≤ 12)
theorem pt9_app {E : List E9} {e : E9} (h : WF9 E) : ∀ {L : List (Int × Int)} {k : Nat}, k < E.length → pt9 E L k → pt9 (E ++ [e]) L k
  | [], _, _, h2 => h2
  | x :: L, k, hk, ⟨h1, h2, h3⟩ => by
    refine ⟨h1, by rw [en9_app hk]; exact h2, ?_⟩
    rw [en9_app hk]
    exact pt9_app h (by have := (h k hk (by omega)).1; omega) h3
/-- what the class knows of entries -/
def LI9 (σ : S9) (n : Int) (E : List E9) : Prop := HT9 σ (E.map (·.1)) ∧ WF9 E ∧ 1 ≤ E.length ∧ (∀ k : Nat, k < E.length → OkL n 12 (en9 E k).1 ∧ ∃ L, pt9 E L k ∧ gI σ 40 k = L.length ∧ L.length ≤ k) ∧ ∀ k : Nat, k < E.length → 1 ≤ k → gI σ 39 k = (en9 E k).2.1 ∧ gI σ 41 k = (en9 E k).2.2.1 ∧ gI σ 42 k = (en9 E k).2.2.2
section
variable {d : Nat} {n R : Int} {lf rg : Int → List Int} {wt lev : Int → Int} {stt : Int} {ap : Int → UInt32} {str : List Int} {σ : S9}
theorem c_X0_addStep {E : List E9} {y : List Int} {k : Nat} {r p : Int} {P : Int → S9 → Prop} (hn : n ≤ 8) (hy : OkL n 12 y) (H : LI9 σ n E) (hk : k < E.length) (hr : 0 ≤ r ∧ r ≤ 8) (hp : 0 ≤ p ∧ p ≤ 12) (hm : y ∉ E.map (·.1)) (h0 : E.length = 200 → P 0 σ) (h1 : E.length < 200 → ∀ τ, LI9 τ n (E ++ [(y, k, r, p)]) → eq9 (fun k => k < 36 ∨ 44 < k) σ τ → P 1 τ) : Cc (d + 2) mX0_addStep [.ref 36, .long (lI (encW y)), .int (iI k), .int (iI r), .int (iI p)] σ (QI P) := by
  obtain ⟨HT, WF, Hl, H1, H2⟩ := H
  have sy : St y := hy.st hn (by decide)
  have hl := HT.2.1
  rw [List.length_map] at hl
  obtain ⟨L, L1, L2, L3⟩ := (H1 k hk).2
  refine Cc_of (by decide +kernel) (fun _ => Nat.le_of_ble_eq_true rfl) rfl (lv := [_, _, _, _, _, _, _]) ?_
  refine v_aload_n dX0_addStep_0 rfl ?_
  refine v_lload_n dX0_addStep_1 rfl ?_
  refine v_callVi1 dX0_addStep_2 kX0_50 s_36 (Nat.le_of_ble_eq_true rfl) (c_X0_add sy HT hm (fun z => ?_) (fun z τ T1 e1 e39 e40 e43 => ?_))
  · refine v_istore (lv' := [_, _, _, _, _, _, _]) dX0_addStep_5 (Nat.le_of_ble_eq_true rfl) rfl rfl ?_
    refine v_iload dX0_addStep_7 rfl ?_
    refine v_if_ge (tgt := 14) dX0_addStep_9 (by decide) (by decide) (fun q9 => absurd q9 (by decide)) (fun q9 => ?_)
    refine v_iconst dX0_addStep_12 ?_
    exact v_zreturn dX0_addStep_13 rfl (by decide) (h0 (by rw [List.length_map] at z; exact z))
  · rw [List.length_map] at z e39 e40 e43 ⊢
    have eD : gI (sI τ 39 E.length k) 40 k = L.length := by rw [gI_aI_ne (by decide), e40, up9_ne (by omega)]; exact L2
    refine v_istore (lv' := [_, _, _, _, _, _, _]) dX0_addStep_5 (Nat.le_of_ble_eq_true rfl) rfl rfl ?_
    refine v_iload dX0_addStep_7 rfl ?_
    refine v_if_ge (tgt := 14) dX0_addStep_9 (by decide) (by omega) (fun q9 => ?_) (fun q9 => absurd q9 (by omega))
    refine v_aload_n dX0_addStep_14 rfl ?_
    refine v_getR (k1 := 39) dX0_addStep_15 s_36 fX0_23 rfl ?_
    refine v_iload dX0_addStep_18 rfl ?_
    refine v_iload_n dX0_addStep_20 rfl ?_
    refine v_iastore dX0_addStep_21 s_39 (by omega) ?_
    refine v_aload_n dX0_addStep_22 rfl ?_
    refine v_getR (k1 := 40) dX0_addStep_23 s_36 fX0_26 rfl ?_
    refine v_iload dX0_addStep_26 rfl ?_
    refine v_aload_n dX0_addStep_28 rfl ?_
    refine v_getR (k1 := 40) dX0_addStep_29 s_36 fX0_26 rfl ?_
    refine v_iload_n dX0_addStep_32 rfl ?_
    refine v_iaload dX0_addStep_33 s_40 (by omega) ?_
    rw [eD]
    refine v_iconst dX0_addStep_34 ?_
    refine v_iadd dX0_addStep_35 ?_
    refine v_iastore dX0_addStep_36 s_40 (by omega) ?_
    refine v_aload_n dX0_addStep_37 rfl ?_
    refine v_getR (k1 := 41) dX0_addStep_38 s_36 fX0_29 rfl ?_
    refine v_iload dX0_addStep_41 rfl ?_
    refine v_iload dX0_addStep_43 rfl ?_
    refine v_iastore dX0_addStep_45 s_41 (by omega) ?_
    refine v_aload_n dX0_addStep_46 rfl ?_
    refine v_getR (k1 := 42) dX0_addStep_47 s_36 fX0_32 rfl ?_
    refine v_iload dX0_addStep_50 rfl ?_
    refine v_iload dX0_addStep_52 rfl ?_
    refine v_iastore dX0_addStep_54 s_42 (by omega) ?_
    refine v_iconst dX0_addStep_55 ?_
    refine v_zreturn dX0_addStep_56 rfl (by decide) (by
      refine h1 z _ ⟨?_, fun j hj hj1 => ?_, by rw [List.length_append]; omega, fun j hj => ?_, fun j hj hj1 => ?_⟩ (((((e1.mono (fun k hk => by omega)).tr (eq9.aI (by omega))).tr (eq9.aI (by omega))).tr (eq9.aI (by omega))).tr (eq9.aI (by omega)))
      · rw [List.map_append]
        unfold HT9
        rw [gI_aI_ne (by decide), gI_aI_ne (by decide), gI_aI_ne (by decide), gI_aI_ne (by decide), gI_aI_ne (by decide), gI_aI_ne (by decide), gI_aI_ne (by decide), gI_aI_ne (by decide)]
        exact T1
      · rw [List.length_append] at hj
        by_cases e : j = E.length
        · rw [e, en9_last]; exact ⟨hk, hr, hp⟩
        · rw [en9_app (by simp at hj; omega)]; exact WF j (by simp at hj; omega) hj1
      · rw [List.length_append] at hj
        by_cases e : j = E.length
        · rw [e, en9_last]
          refine ⟨hy, (r, p) :: L, ⟨by omega, by rw [en9_last], by rw [en9_last]; exact pt9_app WF hk L1⟩, ?_, ?_⟩
          · rw [gI_aI_ne (by decide), gI_aI_ne (by decide), gI_aI_eq, up9_eq, List.length_cons]; omega
          · rw [List.length_cons]; omega
        · have hj2 : j < E.length := by simp at hj; omega
          obtain ⟨a, M, b1, b2, b3⟩ := H1 j hj2
          rw [en9_app hj2]
          refine ⟨a, M, pt9_app WF hj2 b1, ?_, b3⟩
          rw [gI_aI_ne (by decide), gI_aI_ne (by decide), gI_aI_eq, up9_ne (by omega), gI_aI_ne (by decide), e40, up9_ne (by omega)]
          exact b2
      · rw [List.length_append] at hj
        have g39 : gI (sI (sI (sI (sI τ 39 E.length k) 40 E.length (L.length + 1)) 41 E.length r) 42 E.length p) 39 = up9 (gI τ 39) E.length k := by rw [gI_aI_ne (by decide), gI_aI_ne (by decide), gI_aI_ne (by decide), gI_aI_eq]
        have g41 : gI (sI (sI (sI (sI τ 39 E.length k) 40 E.length (L.length + 1)) 41 E.length r) 42 E.length p) 41 = up9 (gI σ 41) E.length r := by rw [gI_aI_ne (by decide), gI_aI_eq, gI_aI_ne (by decide), gI_aI_ne (by decide), (e1 41 (by omega)).1]
        have g42 : gI (sI (sI (sI (sI τ 39 E.length k) 40 E.length (L.length + 1)) 41 E.length r) 42 E.length p) 42 = up9 (gI σ 42) E.length p := by rw [gI_aI_eq, gI_aI_ne (by decide), gI_aI_ne (by decide), gI_aI_ne (by decide), (e1 42 (by omega)).1]
        rw [g39, g41, g42]
        by_cases e : j = E.length
        · rw [e, en9_last, up9_eq, up9_eq, up9_eq]; exact ⟨rfl, rfl, rfl⟩
        · have hj2 : j < E.length := by simp at hj; omega
          rw [en9_app hj2, up9_ne (by omega), up9_ne (by omega), up9_ne (by omega), e39, up9_ne (by omega)]
          exact H2 j hj2 hj1)
/-- the steps of a loop, in their order -/
def ll9 (r p : Int) (L : List (Int × Int)) (i : Int) : Int × Int := ((r, p) :: L).getD (L.length - i).toNat (0, 0)
theorem c_X0_storeLoop {E : List E9} {k : Nat} {r p : Int} {L : List (Int × Int)} {P : Int → S9 → Prop} (H : LI9 σ n E) (hk : k < E.length) (hL : pt9 E L k) (h : ∀ τ, eq9 (fun k => k < 33 ∨ 35 < k) σ τ → gI τ 33 0 = L.length + 1 → (∀ i : Int, 0 ≤ i → i ≤ (L.length : Int) → gI τ 34 i = (ll9 r p L i).1 ∧ gI τ 35 i = (ll9 r p L i).2) → P (L.length + 1) τ) : Cc (d + 1) mX0_storeLoop [.ref 36, .ref 33, .int (iI k), .int (iI r), .int (iI p)] σ (QI P) := by
  obtain ⟨HT, WF, Hl, H1, H2⟩ := H
  have hl := HT.2.1
  rw [List.length_map] at hl
  obtain ⟨L', L1, L2, L3⟩ := (H1 k hk).2
  rw [pt9_uniq L1 hL] at L2 L3
  refine Cc_of (by decide +kernel) (fun _ => Nat.le_of_ble_eq_true rfl) rfl (lv := [_, _, _, _, _, _, _, _]) ?_
  have K : ∀ (M : List (Int × Int)) (j : Nat) (τ : S9), j < E.length → pt9 E M j → M.length ≤ L.length → (∀ i : Nat, i < M.length → M.getD i (0, 0) = L.getD (L.length - M.length + i) (0, 0)) → eq9 (fun k => k < 33 ∨ 35 < k) σ τ → gI τ 33 0 = L.length + 1 → (∀ i, (M.length : Int) ≤ i → i ≤ L.length → gI τ 34 i = (ll9 r p L i).1 ∧ gI τ 35 i = (ll9 r p L i).2) → Vv (d + 1) mX0_storeLoop 52 [.ref 36, .ref 33, .int (iI k), .int (iI r), .int (iI p), .int (iI (L.length + 1)), .int (iI j), .int (iI (M.length - 1))] [] τ (QI P) := by
    intro M
    induction M with
    | nil =>
      intro j τ hj hM hMl hMi he hc hx
      rw [List.length_nil] at hx ⊢
      refine v_iload dX0_storeLoop_52 rfl ?_
      refine v_if_lt (tgt := 105) dX0_storeLoop_54 (by decide) (by decide) (fun q54 => ?_) (fun q54 => absurd q54 (by decide))
      refine v_iload dX0_storeLoop_105 rfl ?_
      exact v_ireturn dX0_storeLoop_107 rfl (h τ he hc (fun i a b => hx i a b))
    | cons x M ih =>
      intro j τ hj hM hMl hMi he hc hx
      obtain ⟨m1, m2, m3⟩ := hM
      rw [List.length_cons] at hMl hMi hx ⊢
      have w := WF j hj (by omega)
      have ej := H2 j hj (by omega)
      have f39 : gI τ 39 = gI σ 39 := (he 39 (by omega)).1
      have f41 : gI τ 41 = gI σ 41 := (he 41 (by omega)).1
      have f42 : gI τ 42 = gI σ 42 := (he 42 (by omega)).1
      have hxi : ll9 r p L M.length = x := by
        unfold ll9
        have h8 := hMi 0 (by omega)
        rw [show ((L.length : Int) - M.length).toNat = (L.length - (M.length + 1)) + 1 by omega, List.getD_cons_succ]
        rw [show L.length - (M.length + 1) + 0 = L.length - (M.length + 1) by omega] at h8
        rw [← h8]
        rfl
      refine v_iload dX0_storeLoop_52 rfl ?_
      refine v_if_lt (tgt := 105) dX0_storeLoop_54 (by decide) (by omega) (fun q54 => absurd q54 (by omega)) (fun q54 => ?_)
      refine v_iload dX0_storeLoop_57 rfl ?_
      refine v_if_le (tgt := 105) dX0_storeLoop_59 (by decide) (by omega) (fun q59 => absurd q59 (by omega)) (fun q59 => ?_)
      refine v_aload_n dX0_storeLoop_62 rfl ?_
      refine v_getR (k1 := 34) dX0_storeLoop_63 s_33 fX0_131 rfl ?_
      refine v_iload dX0_storeLoop_66 rfl ?_
      refine v_aload_n dX0_storeLoop_68 rfl ?_
      refine v_getR (k1 := 41) dX0_storeLoop_69 s_36 fX0_29 rfl ?_
      refine v_iload dX0_storeLoop_72 rfl ?_
      refine v_iaload dX0_storeLoop_74 s_41 (by omega) ?_
      rw [f41, ej.2.1]
      refine v_iastore dX0_storeLoop_75 s_34 (by omega) ?_
      refine v_aload_n dX0_storeLoop_76 rfl ?_
      refine v_getR (k1 := 35) dX0_storeLoop_77 s_33 fX0_132 rfl ?_
      refine v_iload dX0_storeLoop_80 rfl ?_
      refine v_aload_n dX0_storeLoop_82 rfl ?_
      refine v_getR (k1 := 42) dX0_storeLoop_83 s_36 fX0_32 rfl ?_
      refine v_iload dX0_storeLoop_86 rfl ?_
      refine v_iaload dX0_storeLoop_88 s_42 (by omega) ?_
      rw [gI_aI_ne (by decide), f42, ej.2.2]
      refine v_iastore dX0_storeLoop_89 s_35 (by omega) ?_
      refine v_aload_n dX0_storeLoop_90 rfl ?_
      refine v_getR (k1 := 39) dX0_storeLoop_91 s_36 fX0_23 rfl ?_
      refine v_iload dX0_storeLoop_94 rfl ?_
      refine v_iaload dX0_storeLoop_96 s_39 (by omega) ?_
      rw [gI_aI_ne (by decide), gI_aI_ne (by decide), f39, ej.1]
      refine v_istore (lv' := [_, _, _, _, _, _, _, _]) dX0_storeLoop_97 (Nat.le_of_ble_eq_true rfl) rfl rfl ?_
      refine v_iinc (lv' := [_, _, _, _, _, _, _, _]) dX0_storeLoop_99 rfl (Nat.le_of_ble_eq_true rfl) rfl rfl ?_
      refine v_goto (tgt := 52) dX0_storeLoop_102 (by decide) ?_
      have h9 := ih (en9 E j).2.1 (sI (sI τ 34 (((M.length + 1 : Nat) : Int) - 1) (en9 E j).2.2.1) 35 (((M.length + 1 : Nat) : Int) - 1) (en9 E j).2.2.2) (by omega) m3 (by omega) (fun i hi => ?_) (he.tr ((eq9.aI (by omega)).tr (eq9.aI (by omega)))) (by rw [gI_aI_ne (by decide), gI_aI_ne (by decide)]; exact hc) (fun i a b => ?_)
      · rw [show ((M.length + 1 : Nat) : Int) - 1 + -1 = (M.length : Int) - 1 by omega]
        exact h9
      · have h8 := hMi (i + 1) (by omega)
        rw [List.getD_cons_succ, show L.length - (M.length + 1) + (i + 1) = L.length - M.length + i by omega] at h8
        exact h8
      · rw [gI_aI_ne (by decide), gI_aI_eq, gI_aI_eq, gI_aI_ne (by decide)]
        by_cases e : i = M.length
        · rw [e, show ((M.length + 1 : Nat) : Int) - 1 = M.length by omega, up9_eq, up9_eq, hxi, m2]; exact ⟨rfl, rfl⟩
        · rw [up9_ne (by omega), up9_ne (by omega)]; exact hx i (by omega) b
  refine v_aload_n dX0_storeLoop_0 rfl ?_
  refine v_getR (k1 := 40) dX0_storeLoop_1 s_36 fX0_26 rfl ?_
  refine v_iload_n dX0_storeLoop_4 rfl ?_
  refine v_iaload dX0_storeLoop_5 s_40 (by omega) ?_
  refine v_iconst dX0_storeLoop_6 ?_
  refine v_iadd dX0_storeLoop_7 ?_
  refine v_sipush dX0_storeLoop_8 (by decide) ?_
  rw [L2]
  refine v_mmin dX0_storeLoop_11 mmX0_123 (by omega) (Nat.le_of_ble_eq_true rfl) ?_
  rw [show min ((L.length : Int) + 1) 200 = L.length + 1 by omega]
  refine v_istore (lv' := [_, _, _, _, _, _, _, _]) dX0_storeLoop_14 (Nat.le_of_ble_eq_true rfl) rfl rfl ?_
  refine v_aload_n dX0_storeLoop_16 rfl ?_
  refine v_iload dX0_storeLoop_17 rfl ?_
  refine v_putI (ji := 0) dX0_storeLoop_19 s_33 pfX0_126 rfl ?_
  refine v_aload_n dX0_storeLoop_22 rfl ?_
  refine v_getR (k1 := 34) dX0_storeLoop_23 s_33 fX0_131 rfl ?_
  refine v_iload dX0_storeLoop_26 rfl ?_
  refine v_iconst dX0_storeLoop_28 ?_
  refine v_isub dX0_storeLoop_29 ?_
  refine v_iload_n dX0_storeLoop_30 rfl ?_
  refine v_iastore dX0_storeLoop_31 s_34 (by omega) ?_
  refine v_aload_n dX0_storeLoop_32 rfl ?_
  refine v_getR (k1 := 35) dX0_storeLoop_33 s_33 fX0_132 rfl ?_
  refine v_iload dX0_storeLoop_36 rfl ?_
  refine v_iconst dX0_storeLoop_38 ?_
  refine v_isub dX0_storeLoop_39 ?_
  refine v_iload dX0_storeLoop_40 rfl ?_
  refine v_iastore dX0_storeLoop_42 s_35 (by omega) ?_
  refine v_iload_n dX0_storeLoop_43 rfl ?_
  refine v_istore (lv' := [_, _, _, _, _, _, _, _]) dX0_storeLoop_44 (Nat.le_of_ble_eq_true rfl) rfl rfl ?_
  refine v_iload dX0_storeLoop_46 rfl ?_
  refine v_iconst dX0_storeLoop_48 ?_
  refine v_isub dX0_storeLoop_49 ?_
  refine v_istore (lv' := [_, _, _, _, _, _, _, _]) dX0_storeLoop_50 (Nat.le_of_ble_eq_true rfl) rfl rfl ?_
  have h9 := K L k (sI (sI (sI σ 33 0 (L.length + 1)) 34 (L.length + 1 - 1) r) 35 (L.length + 1 - 1) p) hk hL (by omega) (fun i hi => by rw [show L.length - L.length + i = i by omega]) (((eq9.aI (by omega)).tr (eq9.aI (by omega))).tr (eq9.aI (by omega))) (by rw [gI_aI_ne (by decide), gI_aI_ne (by decide), gI_aI_eq, up9_eq]) (fun i a b => ?_)
  · rw [show (L.length : Int) + 1 - 2 = L.length - 1 by omega]
    exact h9
  · rw [show i = L.length by omega, gI_aI_ne (by decide), gI_aI_eq, gI_aI_eq, show (L.length : Int) + 1 - 1 = L.length by omega, up9_eq, up9_eq]
    unfold ll9
    rw [show ((L.length : Int) - L.length).toNat = 0 by omega]
    exact ⟨rfl, rfl⟩
end
