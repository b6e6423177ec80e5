theorem w8_o2 : Cond.instanceMethod objectInit ∈ lw_w := w9 58 (by decide +kernel) rfl
theorem w8_o3 : Cond.code objectInit ⟨#[0xb1]⟩ 1 none ∈ lw_w := w9 59 (by decide +kernel) rfl
theorem k_n {γ : G9} {h nL n0 : Nat} {p : Program} {l : Launch} {e : Env} {R : Room} {s : State} {m : MethodId} {args : Array Value} {below : List Frame} {meth : Method} {c : Code} {Z : State → Prop} {pc : Nat} {lv st : List Value} {n n' sl : Nat} {σ : S9} {ν : List (Nat × Nat)} (hn : n = n') (k : Kv γ h nL n0 p l e R s m args below meth c Z pc lv st n' σ ν sl) : Kv γ h nL n0 p l e R s m args below meth c Z pc lv st n σ ν sl := by subst hn; exact k
theorem f8_X5_38_5 : fd9 RX5 38 5 0 0 := ⟨RX5, TX5, 10, "RewritingTermination$Rewriting", rfl, by decide, (w9 72 (by decide +kernel) rfl), incX5, fun _ _ _ _ h => h, rfl, rfl⟩
theorem p8_X5_38_5 : fp9 RX5 38 5 0 0 .int := ⟨f8_X5_38_5, tyX5, fun _ _ _ h => by cases h; exact tyX5_ok, fun _ _ _ h => by cases h; exact nmX5, fun _ _ _ h => by cases h; rfl, fun _ _ _ h => by cases h; decide +kernel⟩
theorem f8_X5_42_5 : fd9 RX5 42 5 1 0 := ⟨RX5, TX5, 10, "RewritingTermination$Rewriting", rfl, by decide, (w9 77 (by decide +kernel) rfl), incX5, fun _ _ _ _ h => h, rfl, rfl⟩
theorem p8_X5_42_5 : fp9 RX5 42 5 1 0 .int := ⟨f8_X5_42_5, tyX5, fun _ _ _ h => by cases h; exact tyX5_ok, fun _ _ _ h => by cases h; exact nmX5, fun _ _ _ h => by cases h; rfl, fun _ _ _ h => by cases h; decide +kernel⟩
theorem f8_X5_45_5 : fd9 RX5 45 5 7 0 := ⟨RX5, TX5, 10, "RewritingTermination$Rewriting", rfl, by decide, (w9 95 (by decide +kernel) rfl), incX5, fun _ _ _ _ h => h, rfl, rfl⟩
theorem p8_X5_45_5 : fp9 RX5 45 5 7 0 .int := ⟨f8_X5_45_5, tyX5, fun _ _ _ h => by cases h; exact tyX5_ok, fun _ _ _ h => by cases h; exact nmX5, fun _ _ _ h => by cases h; rfl, fun _ _ _ h => by cases h; decide +kernel⟩
theorem f8_X5_48_5 : fd9 RX5 48 5 9 1 := ⟨RX5, TX5, 10, "RewritingTermination$Rewriting", rfl, by decide, (w9 99 (by decide +kernel) rfl), incX5, fun _ _ _ _ h => h, rfl, rfl⟩
theorem p8_X5_48_5 : fp9 RX5 48 5 9 1 .long := ⟨f8_X5_48_5, tyX5, fun _ _ _ h => by cases h; exact tyX5_ok, fun _ _ _ h => by cases h; exact nmX5, fun _ _ _ h => by cases h; rfl, fun _ _ _ h => by cases h; decide +kernel⟩
theorem f8_X5_23_5 : fd9 RX5 23 5 5 2 := ⟨RX5, TX5, 10, "RewritingTermination$Rewriting", rfl, by decide, (w9 91 (by decide +kernel) rfl), incX5, fun _ _ _ _ h => h, rfl, rfl⟩
theorem f8_X5_27_5 : fd9 RX5 27 5 6 2 := ⟨RX5, TX5, 10, "RewritingTermination$Rewriting", rfl, by decide, (w9 93 (by decide +kernel) rfl), incX5, fun _ _ _ _ h => h, rfl, rfl⟩
theorem f8_X5_30_5 : fd9 RX5 30 5 8 2 := ⟨RX5, TX5, 10, "RewritingTermination$Rewriting", rfl, by decide, (w9 97 (by decide +kernel) rfl), incX5, fun _ _ _ _ h => h, rfl, rfl⟩
def sg_X5_begin_1 (σ : S9) : S9 := (sF (sI (sI (sF (sI (sI (sF (sI (sI (sF (sI (sI (sF (sI (sI (sF (sI (sI (sF (sI (sI (sF (sI (sI (sL (sI (sI (sI σ 1 0 3) 1 1 0) 1 7 0) 1 9 0) 13 0 1) 14 0 0) 15 0 1065353216) 13 1 1) 14 1 0) 15 1 1065353216) 13 2 1) 14 2 0) 15 2 1065353216) 13 3 1) 14 3 0) 15 3 1065353216) 13 4 1) 14 4 0) 15 4 1065353216) 13 5 1) 14 5 0) 15 5 1065353216) 13 6 1) 14 6 0) 15 6 1065353216) 13 7 1) 14 7 0) 15 7 1065353216)
def nu_X5_begin_1 (ν : List (Nat × Nat)) : List (Nat × Nat) := ν
set_option maxRecDepth 100000 in
theorem i_X5_begin_1 (σ : S9) (ν : List (Nat × Nat)) (h5 : hv8 ν 1 5 = true) (h6 : hv8 ν 1 6 = true) (h8 : hv8 ν 1 8 = true) : C8 0 0 mX5_begin [.ref 1, .int (iI 3)] 16 σ ν 16 (sg_X5_begin_1 σ) (nu_X5_begin_1 ν) := by
  refine C8_of (ini := false) (lv := [.ref 1, .int (iI 3), .null]) (by decide +kernel) (fun q => by cases q) rfl (fun _ => Nat.le_of_ble_eq_true rfl) rfl (by decide) ?_
  intro γ h p l e s m args below meth c C
  refine k_aload_n C dX5_begin_0 rfl ?_
  refine k_iload_n C dX5_begin_1 rfl ?_
  refine k_putI C dX5_begin_2 s_1 (by decide) p8_X5_38_5 rfl ?_
  refine k_aload_n C dX5_begin_5 rfl ?_
  refine k_iconst C dX5_begin_6 ?_
  refine k_putI C dX5_begin_7 s_1 (by decide) p8_X5_42_5 rfl ?_
  refine k_aload_n C dX5_begin_10 rfl ?_
  refine k_iconst C dX5_begin_11 ?_
  refine k_putI C dX5_begin_12 s_1 (by decide) p8_X5_45_5 rfl ?_
  refine k_aload_n C dX5_begin_15 rfl ?_
  refine k_lconst0 C dX5_begin_16 ?_
  refine k_putL C dX5_begin_17 s_1 (by decide) p8_X5_48_5 rfl ?_
  refine k_iconst C dX5_begin_20 ?_
  refine k_istore_n C dX5_begin_21 (by decide) rfl (lv' := [.ref 1, .int (iI 3), .int (iI 0)]) rfl ?_
  refine k_iload_n C dX5_begin_22 rfl ?_
  refine k_bipush C dX5_begin_23 (by decide) ?_
  refine k_geF (tgt := 55) C dX5_begin_25 (by decide) ⟨⟨by decide, by decide⟩, ⟨by decide, by decide⟩⟩ (by decide) ?_
  refine k_aload_n C dX5_begin_28 rfl ?_
  refine k_getR C dX5_begin_29 s_1 (by decide) f8_X5_23_5 rfl h5 ?_
  refine k_iload_n C dX5_begin_32 rfl ?_
  refine k_iconst C dX5_begin_33 ?_
  refine k_iastore C dX5_begin_34 s_13 (by decide) (by decide) ?_
  refine k_aload_n C dX5_begin_35 rfl ?_
  refine k_getR C dX5_begin_36 s_1 (by decide) f8_X5_27_5 rfl h6 ?_
  refine k_iload_n C dX5_begin_39 rfl ?_
  refine k_iconst C dX5_begin_40 ?_
  refine k_iastore C dX5_begin_41 s_14 (by decide) (by decide) ?_
  refine k_aload_n C dX5_begin_42 rfl ?_
  refine k_getR C dX5_begin_43 s_1 (by decide) f8_X5_30_5 rfl h8 ?_
  refine k_iload_n C dX5_begin_46 rfl ?_
  refine k_fconst1 C dX5_begin_47 ?_
  refine k_fastore C dX5_begin_48 s_15 (by decide) (by decide) ?_
  refine k_iinc C dX5_begin_49 rfl (by decide) rfl (lv' := [.ref 1, .int (iI 3), .int (iI 1)]) rfl ?_
  refine k_goto (tgt := 22) C dX5_begin_52 (by decide) ?_
  refine k_iload_n C dX5_begin_22 rfl ?_
  refine k_bipush C dX5_begin_23 (by decide) ?_
  refine k_geF (tgt := 55) C dX5_begin_25 (by decide) ⟨⟨by decide, by decide⟩, ⟨by decide, by decide⟩⟩ (by decide) ?_
  refine k_aload_n C dX5_begin_28 rfl ?_
  refine k_getR C dX5_begin_29 s_1 (by decide) f8_X5_23_5 rfl h5 ?_
  refine k_iload_n C dX5_begin_32 rfl ?_
  refine k_iconst C dX5_begin_33 ?_
  refine k_iastore C dX5_begin_34 s_13 (by decide) (by decide) ?_
  refine k_aload_n C dX5_begin_35 rfl ?_
  refine k_getR C dX5_begin_36 s_1 (by decide) f8_X5_27_5 rfl h6 ?_
  refine k_iload_n C dX5_begin_39 rfl ?_
  refine k_iconst C dX5_begin_40 ?_
  refine k_iastore C dX5_begin_41 s_14 (by decide) (by decide) ?_
  refine k_aload_n C dX5_begin_42 rfl ?_
  refine k_getR C dX5_begin_43 s_1 (by decide) f8_X5_30_5 rfl h8 ?_
  refine k_iload_n C dX5_begin_46 rfl ?_
  refine k_fconst1 C dX5_begin_47 ?_
  refine k_fastore C dX5_begin_48 s_15 (by decide) (by decide) ?_
  refine k_iinc C dX5_begin_49 rfl (by decide) rfl (lv' := [.ref 1, .int (iI 3), .int (iI 2)]) rfl ?_
  refine k_goto (tgt := 22) C dX5_begin_52 (by decide) ?_
  refine k_iload_n C dX5_begin_22 rfl ?_
  refine k_bipush C dX5_begin_23 (by decide) ?_
  refine k_geF (tgt := 55) C dX5_begin_25 (by decide) ⟨⟨by decide, by decide⟩, ⟨by decide, by decide⟩⟩ (by decide) ?_
  refine k_aload_n C dX5_begin_28 rfl ?_
  refine k_getR C dX5_begin_29 s_1 (by decide) f8_X5_23_5 rfl h5 ?_
  refine k_iload_n C dX5_begin_32 rfl ?_
  refine k_iconst C dX5_begin_33 ?_
  refine k_iastore C dX5_begin_34 s_13 (by decide) (by decide) ?_
  refine k_aload_n C dX5_begin_35 rfl ?_
  refine k_getR C dX5_begin_36 s_1 (by decide) f8_X5_27_5 rfl h6 ?_
  refine k_iload_n C dX5_begin_39 rfl ?_
  refine k_iconst C dX5_begin_40 ?_
  refine k_iastore C dX5_begin_41 s_14 (by decide) (by decide) ?_
  refine k_aload_n C dX5_begin_42 rfl ?_
  refine k_getR C dX5_begin_43 s_1 (by decide) f8_X5_30_5 rfl h8 ?_
  refine k_iload_n C dX5_begin_46 rfl ?_
  refine k_fconst1 C dX5_begin_47 ?_
  refine k_fastore C dX5_begin_48 s_15 (by decide) (by decide) ?_
  refine k_iinc C dX5_begin_49 rfl (by decide) rfl (lv' := [.ref 1, .int (iI 3), .int (iI 3)]) rfl ?_
  refine k_goto (tgt := 22) C dX5_begin_52 (by decide) ?_
  refine k_iload_n C dX5_begin_22 rfl ?_
  refine k_bipush C dX5_begin_23 (by decide) ?_
  refine k_geF (tgt := 55) C dX5_begin_25 (by decide) ⟨⟨by decide, by decide⟩, ⟨by decide, by decide⟩⟩ (by decide) ?_
  refine k_aload_n C dX5_begin_28 rfl ?_
  refine k_getR C dX5_begin_29 s_1 (by decide) f8_X5_23_5 rfl h5 ?_
  refine k_iload_n C dX5_begin_32 rfl ?_
  refine k_iconst C dX5_begin_33 ?_
  refine k_iastore C dX5_begin_34 s_13 (by decide) (by decide) ?_
  refine k_aload_n C dX5_begin_35 rfl ?_
  refine k_getR C dX5_begin_36 s_1 (by decide) f8_X5_27_5 rfl h6 ?_
  refine k_iload_n C dX5_begin_39 rfl ?_
  refine k_iconst C dX5_begin_40 ?_
  refine k_iastore C dX5_begin_41 s_14 (by decide) (by decide) ?_
  refine k_aload_n C dX5_begin_42 rfl ?_
  refine k_getR C dX5_begin_43 s_1 (by decide) f8_X5_30_5 rfl h8 ?_
  refine k_iload_n C dX5_begin_46 rfl ?_
  refine k_fconst1 C dX5_begin_47 ?_
  refine k_fastore C dX5_begin_48 s_15 (by decide) (by decide) ?_
  refine k_iinc C dX5_begin_49 rfl (by decide) rfl (lv' := [.ref 1, .int (iI 3), .int (iI 4)]) rfl ?_
  refine k_goto (tgt := 22) C dX5_begin_52 (by decide) ?_
  refine k_iload_n C dX5_begin_22 rfl ?_
  refine k_bipush C dX5_begin_23 (by decide) ?_
  refine k_geF (tgt := 55) C dX5_begin_25 (by decide) ⟨⟨by decide, by decide⟩, ⟨by decide, by decide⟩⟩ (by decide) ?_
  refine k_aload_n C dX5_begin_28 rfl ?_
  refine k_getR C dX5_begin_29 s_1 (by decide) f8_X5_23_5 rfl h5 ?_
  refine k_iload_n C dX5_begin_32 rfl ?_
  refine k_iconst C dX5_begin_33 ?_
  refine k_iastore C dX5_begin_34 s_13 (by decide) (by decide) ?_
  refine k_aload_n C dX5_begin_35 rfl ?_
  refine k_getR C dX5_begin_36 s_1 (by decide) f8_X5_27_5 rfl h6 ?_
  refine k_iload_n C dX5_begin_39 rfl ?_
  refine k_iconst C dX5_begin_40 ?_
  refine k_iastore C dX5_begin_41 s_14 (by decide) (by decide) ?_
  refine k_aload_n C dX5_begin_42 rfl ?_
  refine k_getR C dX5_begin_43 s_1 (by decide) f8_X5_30_5 rfl h8 ?_
  refine k_iload_n C dX5_begin_46 rfl ?_
  refine k_fconst1 C dX5_begin_47 ?_
  refine k_fastore C dX5_begin_48 s_15 (by decide) (by decide) ?_
  refine k_iinc C dX5_begin_49 rfl (by decide) rfl (lv' := [.ref 1, .int (iI 3), .int (iI 5)]) rfl ?_
  refine k_goto (tgt := 22) C dX5_begin_52 (by decide) ?_
  refine k_iload_n C dX5_begin_22 rfl ?_
  refine k_bipush C dX5_begin_23 (by decide) ?_
  refine k_geF (tgt := 55) C dX5_begin_25 (by decide) ⟨⟨by decide, by decide⟩, ⟨by decide, by decide⟩⟩ (by decide) ?_
  refine k_aload_n C dX5_begin_28 rfl ?_
  refine k_getR C dX5_begin_29 s_1 (by decide) f8_X5_23_5 rfl h5 ?_
  refine k_iload_n C dX5_begin_32 rfl ?_
  refine k_iconst C dX5_begin_33 ?_
  refine k_iastore C dX5_begin_34 s_13 (by decide) (by decide) ?_
  refine k_aload_n C dX5_begin_35 rfl ?_
  refine k_getR C dX5_begin_36 s_1 (by decide) f8_X5_27_5 rfl h6 ?_
  refine k_iload_n C dX5_begin_39 rfl ?_
  refine k_iconst C dX5_begin_40 ?_
  refine k_iastore C dX5_begin_41 s_14 (by decide) (by decide) ?_
  refine k_aload_n C dX5_begin_42 rfl ?_
  refine k_getR C dX5_begin_43 s_1 (by decide) f8_X5_30_5 rfl h8 ?_
  refine k_iload_n C dX5_begin_46 rfl ?_
  refine k_fconst1 C dX5_begin_47 ?_
  refine k_fastore C dX5_begin_48 s_15 (by decide) (by decide) ?_
  refine k_iinc C dX5_begin_49 rfl (by decide) rfl (lv' := [.ref 1, .int (iI 3), .int (iI 6)]) rfl ?_
  refine k_goto (tgt := 22) C dX5_begin_52 (by decide) ?_
  refine k_iload_n C dX5_begin_22 rfl ?_
  refine k_bipush C dX5_begin_23 (by decide) ?_
  refine k_geF (tgt := 55) C dX5_begin_25 (by decide) ⟨⟨by decide, by decide⟩, ⟨by decide, by decide⟩⟩ (by decide) ?_
  refine k_aload_n C dX5_begin_28 rfl ?_
  refine k_getR C dX5_begin_29 s_1 (by decide) f8_X5_23_5 rfl h5 ?_
  refine k_iload_n C dX5_begin_32 rfl ?_
  refine k_iconst C dX5_begin_33 ?_
  refine k_iastore C dX5_begin_34 s_13 (by decide) (by decide) ?_
  refine k_aload_n C dX5_begin_35 rfl ?_
  refine k_getR C dX5_begin_36 s_1 (by decide) f8_X5_27_5 rfl h6 ?_
  refine k_iload_n C dX5_begin_39 rfl ?_
  refine k_iconst C dX5_begin_40 ?_
  refine k_iastore C dX5_begin_41 s_14 (by decide) (by decide) ?_
  refine k_aload_n C dX5_begin_42 rfl ?_
  refine k_getR C dX5_begin_43 s_1 (by decide) f8_X5_30_5 rfl h8 ?_
  refine k_iload_n C dX5_begin_46 rfl ?_
  refine k_fconst1 C dX5_begin_47 ?_
  refine k_fastore C dX5_begin_48 s_15 (by decide) (by decide) ?_
  refine k_iinc C dX5_begin_49 rfl (by decide) rfl (lv' := [.ref 1, .int (iI 3), .int (iI 7)]) rfl ?_
  refine k_goto (tgt := 22) C dX5_begin_52 (by decide) ?_
  refine k_iload_n C dX5_begin_22 rfl ?_
  refine k_bipush C dX5_begin_23 (by decide) ?_
  refine k_geF (tgt := 55) C dX5_begin_25 (by decide) ⟨⟨by decide, by decide⟩, ⟨by decide, by decide⟩⟩ (by decide) ?_
  refine k_aload_n C dX5_begin_28 rfl ?_
  refine k_getR C dX5_begin_29 s_1 (by decide) f8_X5_23_5 rfl h5 ?_
  refine k_iload_n C dX5_begin_32 rfl ?_
  refine k_iconst C dX5_begin_33 ?_
  refine k_iastore C dX5_begin_34 s_13 (by decide) (by decide) ?_
  refine k_aload_n C dX5_begin_35 rfl ?_
  refine k_getR C dX5_begin_36 s_1 (by decide) f8_X5_27_5 rfl h6 ?_
  refine k_iload_n C dX5_begin_39 rfl ?_
  refine k_iconst C dX5_begin_40 ?_
  refine k_iastore C dX5_begin_41 s_14 (by decide) (by decide) ?_
  refine k_aload_n C dX5_begin_42 rfl ?_
  refine k_getR C dX5_begin_43 s_1 (by decide) f8_X5_30_5 rfl h8 ?_
  refine k_iload_n C dX5_begin_46 rfl ?_
  refine k_fconst1 C dX5_begin_47 ?_
  refine k_fastore C dX5_begin_48 s_15 (by decide) (by decide) ?_
  refine k_iinc C dX5_begin_49 rfl (by decide) rfl (lv' := [.ref 1, .int (iI 3), .int (iI 8)]) rfl ?_
  refine k_goto (tgt := 22) C dX5_begin_52 (by decide) ?_
  refine k_iload_n C dX5_begin_22 rfl ?_
  refine k_bipush C dX5_begin_23 (by decide) ?_
  refine k_geT (tgt := 55) C dX5_begin_25 (by decide) ⟨⟨by decide, by decide⟩, ⟨by decide, by decide⟩⟩ (by decide) ?_
  exact k_return C dX5_begin_55 rfl
theorem f8_X5_9_5 : fd9 RX5 9 5 2 2 := ⟨RX5, TX5, 10, "RewritingTermination$Rewriting", rfl, by decide, (w9 81 (by decide +kernel) rfl), incX5, fun _ _ _ _ h => h, rfl, rfl⟩
theorem r8_X5_9_5 : fr8 RX5 9 5 2 true := ⟨f8_X5_9_5, tyX5, fun _ _ _ h => by cases h; exact tyX5_ok, fun _ _ _ h => by cases h; exact nmX5, fun _ _ _ h => by cases h; exact ⟨rfl, fun q => by rfl⟩, (.array .long), fun _ _ _ h => by cases h; decide +kernel, fun a => ⟨rfl, rfl⟩⟩
theorem f8_X5_15_5 : fd9 RX5 15 5 3 2 := ⟨RX5, TX5, 10, "RewritingTermination$Rewriting", rfl, by decide, (w9 84 (by decide +kernel) rfl), incX5, fun _ _ _ _ h => h, rfl, rfl⟩
theorem r8_X5_15_5 : fr8 RX5 15 5 3 true := ⟨f8_X5_15_5, tyX5, fun _ _ _ h => by cases h; exact tyX5_ok, fun _ _ _ h => by cases h; exact nmX5, fun _ _ _ h => by cases h; exact ⟨rfl, fun q => by rfl⟩, (.array .long), fun _ _ _ h => by cases h; decide +kernel, fun a => ⟨rfl, rfl⟩⟩
theorem f8_X5_20_5 : fd9 RX5 20 5 4 2 := ⟨RX5, TX5, 10, "RewritingTermination$Rewriting", rfl, by decide, (w9 87 (by decide +kernel) rfl), incX5, fun _ _ _ _ h => h, rfl, rfl⟩
theorem r8_X5_20_5 : fr8 RX5 20 5 4 true := ⟨f8_X5_20_5, tyX5, fun _ _ _ h => by cases h; exact tyX5_ok, fun _ _ _ h => by cases h; exact nmX5, fun _ _ _ h => by cases h; exact ⟨rfl, fun q => by rfl⟩, (.array (.array .int)), fun _ _ _ h => by cases h; decide +kernel, fun a => ⟨rfl, rfl⟩⟩
theorem r8_X5_23_5 : fr8 RX5 23 5 5 true := ⟨f8_X5_23_5, tyX5, fun _ _ _ h => by cases h; exact tyX5_ok, fun _ _ _ h => by cases h; exact nmX5, fun _ _ _ h => by cases h; exact ⟨rfl, fun q => by rfl⟩, (.array .int), fun _ _ _ h => by cases h; decide +kernel, fun a => ⟨rfl, rfl⟩⟩
theorem r8_X5_27_5 : fr8 RX5 27 5 6 true := ⟨f8_X5_27_5, tyX5, fun _ _ _ h => by cases h; exact tyX5_ok, fun _ _ _ h => by cases h; exact nmX5, fun _ _ _ h => by cases h; exact ⟨rfl, fun q => by rfl⟩, (.array .int), fun _ _ _ h => by cases h; decide +kernel, fun a => ⟨rfl, rfl⟩⟩
theorem r8_X5_30_5 : fr8 RX5 30 5 8 true := ⟨f8_X5_30_5, tyX5, fun _ _ _ h => by cases h; exact tyX5_ok, fun _ _ _ h => by cases h; exact nmX5, fun _ _ _ h => by cases h; exact ⟨rfl, fun q => by rfl⟩, (.array .float), fun _ _ _ h => by cases h; decide +kernel, fun a => ⟨rfl, rfl⟩⟩
theorem v8_X5_34 : lkV RX5 34 5 mX5_begin 1 := ⟨(w9 68 (by decide +kernel) rfl), (w9 69 (by decide +kernel) rfl), (w9 70 (by decide +kernel) rfl), (w9 36 (by decide +kernel) rfl), (w9 71 (by decide +kernel) rfl), ⟨by decide +kernel, by decide +kernel⟩, by decide +kernel, by decide, TX5, 10, rfl⟩
def sg_X5_init_1 (σ : S9) : S9 := (sg_X5_begin_1 σ)
def nu_X5_init_1 (ν : List (Nat × Nat)) : List (Nat × Nat) := (nu_X5_begin_1 ((1, 8) :: ((1, 6) :: ((1, 5) :: ((1, 4) :: (ml8 4 8 ((1, 3) :: ((1, 2) :: ν))))))))
set_option maxRecDepth 100000 in
theorem i_X5_init_1 (σ : S9) (ν : List (Nat × Nat)) : C8 1 112 mX5_init [.ref 1] 2 σ ν 16 (sg_X5_init_1 σ) (nu_X5_init_1 ν) := by
  refine C8_of (ini := true) (lv := [.ref 1]) (by decide +kernel) (fun q => by rfl) rfl (fun _ => Nat.le_of_ble_eq_true rfl) rfl (by decide) ?_
  intro γ h p l e s m args below meth c C
  refine k_aload_n C dX5_init_0 rfl ?_
  refine k_objInit C dX5_init_1 (w9 65 (by decide +kernel) rfl) w8_o2 w8_o3 (Nat.le_of_ble_eq_true rfl) (Nat.le_of_ble_eq_true rfl) rfl ?_
  refine k_aload_n C dX5_init_4 rfl ?_
  refine k_bipush C dX5_init_5 (by decide) ?_
  refine k_newaL (N := 8) (sl' := 8) C dX5_init_7 rfl (by decide) s_2 (by decide) (Nat.le_of_ble_eq_true rfl) rfl (Nat.le_of_ble_eq_true rfl) ?_
  refine k_n (n' := 3) rfl ?_
  refine k_putRF C rfl dX5_init_9 s_1 (by decide) r8_X5_9_5 rfl ?_
  refine k_aload_n C dX5_init_12 rfl ?_
  refine k_bipush C dX5_init_13 (by decide) ?_
  refine k_newaL (N := 8) (sl' := 16) C dX5_init_15 rfl (by decide) s_3 (by decide) (Nat.le_of_ble_eq_true rfl) rfl (Nat.le_of_ble_eq_true rfl) ?_
  refine k_n (n' := 4) rfl ?_
  refine k_putRF C rfl dX5_init_17 s_1 (by decide) r8_X5_15_5 rfl ?_
  refine k_aload_n C dX5_init_20 rfl ?_
  refine k_bipush C dX5_init_21 (by decide) ?_
  refine k_bipush C dX5_init_23 (by decide) ?_
  refine k_multi (N := 8) (K := 8) (sl' := 88) C dX5_init_25 (w9 66 (by decide +kernel) rfl) rfl rfl (by decide) (by decide) (by decide) s_4 (by decide +kernel) (by decide) (Nat.le_of_ble_eq_true rfl) rfl (Nat.le_of_ble_eq_true rfl) ?_
  refine k_n (n' := 13) rfl ?_
  refine k_putRF C rfl dX5_init_29 s_1 (by decide) r8_X5_20_5 rfl ?_
  refine k_aload_n C dX5_init_32 rfl ?_
  refine k_bipush C dX5_init_33 (by decide) ?_
  refine k_newaI (N := 8) (sl' := 96) C dX5_init_35 rfl (by decide) s_13 (by decide) (Nat.le_of_ble_eq_true rfl) rfl (Nat.le_of_ble_eq_true rfl) ?_
  refine k_n (n' := 14) rfl ?_
  refine k_putRF C rfl dX5_init_37 s_1 (by decide) r8_X5_23_5 rfl ?_
  refine k_aload_n C dX5_init_40 rfl ?_
  refine k_bipush C dX5_init_41 (by decide) ?_
  refine k_newaI (N := 8) (sl' := 104) C dX5_init_43 rfl (by decide) s_14 (by decide) (Nat.le_of_ble_eq_true rfl) rfl (Nat.le_of_ble_eq_true rfl) ?_
  refine k_n (n' := 15) rfl ?_
  refine k_putRF C rfl dX5_init_45 s_1 (by decide) r8_X5_27_5 rfl ?_
  refine k_aload_n C dX5_init_48 rfl ?_
  refine k_bipush C dX5_init_49 (by decide) ?_
  refine k_newaF (N := 8) (sl' := 112) C dX5_init_51 rfl (by decide) s_15 (by decide) (Nat.le_of_ble_eq_true rfl) rfl (Nat.le_of_ble_eq_true rfl) ?_
  refine k_n (n' := 16) rfl ?_
  refine k_putRF C rfl dX5_init_53 s_1 (by decide) r8_X5_30_5 rfl ?_
  refine k_aload_n C dX5_init_56 rfl ?_
  refine k_iconst C dX5_init_57 ?_
  refine k_callV1 (sl' := 112) C dX5_init_58 v8_X5_34 s_1 (by decide) (Nat.le_of_ble_eq_true rfl) (i_X5_begin_1 _ _ rfl rfl rfl) (by decide) ⟨(Nat.le_of_ble_eq_true rfl), (Nat.le_of_ble_eq_true rfl)⟩ (Nat.le_of_ble_eq_true rfl) rfl (Nat.le_of_ble_eq_true rfl) ?_
  exact k_return C dX5_init_61 rfl
def sg_X5_begin_16 (σ : S9) : S9 := (sF (sI (sI (sF (sI (sI (sF (sI (sI (sF (sI (sI (sF (sI (sI (sF (sI (sI (sF (sI (sI (sF (sI (sI (sL (sI (sI (sI σ 16 0 3) 16 1 0) 16 7 0) 16 9 0) 28 0 1) 29 0 0) 30 0 1065353216) 28 1 1) 29 1 0) 30 1 1065353216) 28 2 1) 29 2 0) 30 2 1065353216) 28 3 1) 29 3 0) 30 3 1065353216) 28 4 1) 29 4 0) 30 4 1065353216) 28 5 1) 29 5 0) 30 5 1065353216) 28 6 1) 29 6 0) 30 6 1065353216) 28 7 1) 29 7 0) 30 7 1065353216)
def nu_X5_begin_16 (ν : List (Nat × Nat)) : List (Nat × Nat) := ν
set_option maxRecDepth 100000 in
theorem i_X5_begin_16 (σ : S9) (ν : List (Nat × Nat)) (h5 : hv8 ν 16 5 = true) (h6 : hv8 ν 16 6 = true) (h8 : hv8 ν 16 8 = true) : C8 0 0 mX5_begin [.ref 16, .int (iI 3)] 31 σ ν 31 (sg_X5_begin_16 σ) (nu_X5_begin_16 ν) := by
  refine C8_of (ini := false) (lv := [.ref 16, .int (iI 3), .null]) (by decide +kernel) (fun q => by cases q) rfl (fun _ => Nat.le_of_ble_eq_true rfl) rfl (by decide) ?_
  intro γ h p l e s m args below meth c C
  refine k_aload_n C dX5_begin_0 rfl ?_
  refine k_iload_n C dX5_begin_1 rfl ?_
  refine k_putI C dX5_begin_2 s_16 (by decide) p8_X5_38_5 rfl ?_
  refine k_aload_n C dX5_begin_5 rfl ?_
  refine k_iconst C dX5_begin_6 ?_
  refine k_putI C dX5_begin_7 s_16 (by decide) p8_X5_42_5 rfl ?_
  refine k_aload_n C dX5_begin_10 rfl ?_
  refine k_iconst C dX5_begin_11 ?_
  refine k_putI C dX5_begin_12 s_16 (by decide) p8_X5_45_5 rfl ?_
  refine k_aload_n C dX5_begin_15 rfl ?_
  refine k_lconst0 C dX5_begin_16 ?_
  refine k_putL C dX5_begin_17 s_16 (by decide) p8_X5_48_5 rfl ?_
  refine k_iconst C dX5_begin_20 ?_
  refine k_istore_n C dX5_begin_21 (by decide) rfl (lv' := [.ref 16, .int (iI 3), .int (iI 0)]) rfl ?_
  refine k_iload_n C dX5_begin_22 rfl ?_
  refine k_bipush C dX5_begin_23 (by decide) ?_
  refine k_geF (tgt := 55) C dX5_begin_25 (by decide) ⟨⟨by decide, by decide⟩, ⟨by decide, by decide⟩⟩ (by decide) ?_
  refine k_aload_n C dX5_begin_28 rfl ?_
  refine k_getR C dX5_begin_29 s_16 (by decide) f8_X5_23_5 rfl h5 ?_
  refine k_iload_n C dX5_begin_32 rfl ?_
  refine k_iconst C dX5_begin_33 ?_
  refine k_iastore C dX5_begin_34 s_28 (by decide) (by decide) ?_
  refine k_aload_n C dX5_begin_35 rfl ?_
  refine k_getR C dX5_begin_36 s_16 (by decide) f8_X5_27_5 rfl h6 ?_
  refine k_iload_n C dX5_begin_39 rfl ?_
  refine k_iconst C dX5_begin_40 ?_
  refine k_iastore C dX5_begin_41 s_29 (by decide) (by decide) ?_
  refine k_aload_n C dX5_begin_42 rfl ?_
  refine k_getR C dX5_begin_43 s_16 (by decide) f8_X5_30_5 rfl h8 ?_
  refine k_iload_n C dX5_begin_46 rfl ?_
  refine k_fconst1 C dX5_begin_47 ?_
  refine k_fastore C dX5_begin_48 s_30 (by decide) (by decide) ?_
  refine k_iinc C dX5_begin_49 rfl (by decide) rfl (lv' := [.ref 16, .int (iI 3), .int (iI 1)]) rfl ?_
  refine k_goto (tgt := 22) C dX5_begin_52 (by decide) ?_
  refine k_iload_n C dX5_begin_22 rfl ?_
  refine k_bipush C dX5_begin_23 (by decide) ?_
  refine k_geF (tgt := 55) C dX5_begin_25 (by decide) ⟨⟨by decide, by decide⟩, ⟨by decide, by decide⟩⟩ (by decide) ?_
  refine k_aload_n C dX5_begin_28 rfl ?_
  refine k_getR C dX5_begin_29 s_16 (by decide) f8_X5_23_5 rfl h5 ?_
  refine k_iload_n C dX5_begin_32 rfl ?_
  refine k_iconst C dX5_begin_33 ?_
  refine k_iastore C dX5_begin_34 s_28 (by decide) (by decide) ?_
  refine k_aload_n C dX5_begin_35 rfl ?_
  refine k_getR C dX5_begin_36 s_16 (by decide) f8_X5_27_5 rfl h6 ?_
  refine k_iload_n C dX5_begin_39 rfl ?_
  refine k_iconst C dX5_begin_40 ?_
  refine k_iastore C dX5_begin_41 s_29 (by decide) (by decide) ?_
  refine k_aload_n C dX5_begin_42 rfl ?_
  refine k_getR C dX5_begin_43 s_16 (by decide) f8_X5_30_5 rfl h8 ?_
  refine k_iload_n C dX5_begin_46 rfl ?_
  refine k_fconst1 C dX5_begin_47 ?_
  refine k_fastore C dX5_begin_48 s_30 (by decide) (by decide) ?_
  refine k_iinc C dX5_begin_49 rfl (by decide) rfl (lv' := [.ref 16, .int (iI 3), .int (iI 2)]) rfl ?_
  refine k_goto (tgt := 22) C dX5_begin_52 (by decide) ?_
  refine k_iload_n C dX5_begin_22 rfl ?_
  refine k_bipush C dX5_begin_23 (by decide) ?_
  refine k_geF (tgt := 55) C dX5_begin_25 (by decide) ⟨⟨by decide, by decide⟩, ⟨by decide, by decide⟩⟩ (by decide) ?_
  refine k_aload_n C dX5_begin_28 rfl ?_
  refine k_getR C dX5_begin_29 s_16 (by decide) f8_X5_23_5 rfl h5 ?_
  refine k_iload_n C dX5_begin_32 rfl ?_
  refine k_iconst C dX5_begin_33 ?_
  refine k_iastore C dX5_begin_34 s_28 (by decide) (by decide) ?_
  refine k_aload_n C dX5_begin_35 rfl ?_
  refine k_getR C dX5_begin_36 s_16 (by decide) f8_X5_27_5 rfl h6 ?_
  refine k_iload_n C dX5_begin_39 rfl ?_
  refine k_iconst C dX5_begin_40 ?_
  refine k_iastore C dX5_begin_41 s_29 (by decide) (by decide) ?_
  refine k_aload_n C dX5_begin_42 rfl ?_
  refine k_getR C dX5_begin_43 s_16 (by decide) f8_X5_30_5 rfl h8 ?_
  refine k_iload_n C dX5_begin_46 rfl ?_
  refine k_fconst1 C dX5_begin_47 ?_
  refine k_fastore C dX5_begin_48 s_30 (by decide) (by decide) ?_
  refine k_iinc C dX5_begin_49 rfl (by decide) rfl (lv' := [.ref 16, .int (iI 3), .int (iI 3)]) rfl ?_
  refine k_goto (tgt := 22) C dX5_begin_52 (by decide) ?_
  refine k_iload_n C dX5_begin_22 rfl ?_
  refine k_bipush C dX5_begin_23 (by decide) ?_
  refine k_geF (tgt := 55) C dX5_begin_25 (by decide) ⟨⟨by decide, by decide⟩, ⟨by decide, by decide⟩⟩ (by decide) ?_
  refine k_aload_n C dX5_begin_28 rfl ?_
  refine k_getR C dX5_begin_29 s_16 (by decide) f8_X5_23_5 rfl h5 ?_
  refine k_iload_n C dX5_begin_32 rfl ?_
  refine k_iconst C dX5_begin_33 ?_
  refine k_iastore C dX5_begin_34 s_28 (by decide) (by decide) ?_
  refine k_aload_n C dX5_begin_35 rfl ?_
  refine k_getR C dX5_begin_36 s_16 (by decide) f8_X5_27_5 rfl h6 ?_
  refine k_iload_n C dX5_begin_39 rfl ?_
  refine k_iconst C dX5_begin_40 ?_
  refine k_iastore C dX5_begin_41 s_29 (by decide) (by decide) ?_
  refine k_aload_n C dX5_begin_42 rfl ?_
  refine k_getR C dX5_begin_43 s_16 (by decide) f8_X5_30_5 rfl h8 ?_
  refine k_iload_n C dX5_begin_46 rfl ?_
  refine k_fconst1 C dX5_begin_47 ?_
  refine k_fastore C dX5_begin_48 s_30 (by decide) (by decide) ?_
  refine k_iinc C dX5_begin_49 rfl (by decide) rfl (lv' := [.ref 16, .int (iI 3), .int (iI 4)]) rfl ?_
  refine k_goto (tgt := 22) C dX5_begin_52 (by decide) ?_
  refine k_iload_n C dX5_begin_22 rfl ?_
  refine k_bipush C dX5_begin_23 (by decide) ?_
  refine k_geF (tgt := 55) C dX5_begin_25 (by decide) ⟨⟨by decide, by decide⟩, ⟨by decide, by decide⟩⟩ (by decide) ?_
  refine k_aload_n C dX5_begin_28 rfl ?_
  refine k_getR C dX5_begin_29 s_16 (by decide) f8_X5_23_5 rfl h5 ?_
  refine k_iload_n C dX5_begin_32 rfl ?_
  refine k_iconst C dX5_begin_33 ?_
  refine k_iastore C dX5_begin_34 s_28 (by decide) (by decide) ?_
  refine k_aload_n C dX5_begin_35 rfl ?_
  refine k_getR C dX5_begin_36 s_16 (by decide) f8_X5_27_5 rfl h6 ?_
  refine k_iload_n C dX5_begin_39 rfl ?_
  refine k_iconst C dX5_begin_40 ?_
  refine k_iastore C dX5_begin_41 s_29 (by decide) (by decide) ?_
  refine k_aload_n C dX5_begin_42 rfl ?_
  refine k_getR C dX5_begin_43 s_16 (by decide) f8_X5_30_5 rfl h8 ?_
  refine k_iload_n C dX5_begin_46 rfl ?_
  refine k_fconst1 C dX5_begin_47 ?_
  refine k_fastore C dX5_begin_48 s_30 (by decide) (by decide) ?_
  refine k_iinc C dX5_begin_49 rfl (by decide) rfl (lv' := [.ref 16, .int (iI 3), .int (iI 5)]) rfl ?_
  refine k_goto (tgt := 22) C dX5_begin_52 (by decide) ?_
  refine k_iload_n C dX5_begin_22 rfl ?_
  refine k_bipush C dX5_begin_23 (by decide) ?_
  refine k_geF (tgt := 55) C dX5_begin_25 (by decide) ⟨⟨by decide, by decide⟩, ⟨by decide, by decide⟩⟩ (by decide) ?_
  refine k_aload_n C dX5_begin_28 rfl ?_
  refine k_getR C dX5_begin_29 s_16 (by decide) f8_X5_23_5 rfl h5 ?_
  refine k_iload_n C dX5_begin_32 rfl ?_
  refine k_iconst C dX5_begin_33 ?_
  refine k_iastore C dX5_begin_34 s_28 (by decide) (by decide) ?_
  refine k_aload_n C dX5_begin_35 rfl ?_
  refine k_getR C dX5_begin_36 s_16 (by decide) f8_X5_27_5 rfl h6 ?_
  refine k_iload_n C dX5_begin_39 rfl ?_
  refine k_iconst C dX5_begin_40 ?_
  refine k_iastore C dX5_begin_41 s_29 (by decide) (by decide) ?_
  refine k_aload_n C dX5_begin_42 rfl ?_
  refine k_getR C dX5_begin_43 s_16 (by decide) f8_X5_30_5 rfl h8 ?_
  refine k_iload_n C dX5_begin_46 rfl ?_
  refine k_fconst1 C dX5_begin_47 ?_
  refine k_fastore C dX5_begin_48 s_30 (by decide) (by decide) ?_
  refine k_iinc C dX5_begin_49 rfl (by decide) rfl (lv' := [.ref 16, .int (iI 3), .int (iI 6)]) rfl ?_
  refine k_goto (tgt := 22) C dX5_begin_52 (by decide) ?_
  refine k_iload_n C dX5_begin_22 rfl ?_
  refine k_bipush C dX5_begin_23 (by decide) ?_
  refine k_geF (tgt := 55) C dX5_begin_25 (by decide) ⟨⟨by decide, by decide⟩, ⟨by decide, by decide⟩⟩ (by decide) ?_
  refine k_aload_n C dX5_begin_28 rfl ?_
  refine k_getR C dX5_begin_29 s_16 (by decide) f8_X5_23_5 rfl h5 ?_
  refine k_iload_n C dX5_begin_32 rfl ?_
  refine k_iconst C dX5_begin_33 ?_
  refine k_iastore C dX5_begin_34 s_28 (by decide) (by decide) ?_
  refine k_aload_n C dX5_begin_35 rfl ?_
  refine k_getR C dX5_begin_36 s_16 (by decide) f8_X5_27_5 rfl h6 ?_
  refine k_iload_n C dX5_begin_39 rfl ?_
  refine k_iconst C dX5_begin_40 ?_
  refine k_iastore C dX5_begin_41 s_29 (by decide) (by decide) ?_
  refine k_aload_n C dX5_begin_42 rfl ?_
  refine k_getR C dX5_begin_43 s_16 (by decide) f8_X5_30_5 rfl h8 ?_
  refine k_iload_n C dX5_begin_46 rfl ?_
  refine k_fconst1 C dX5_begin_47 ?_
  refine k_fastore C dX5_begin_48 s_30 (by decide) (by decide) ?_
  refine k_iinc C dX5_begin_49 rfl (by decide) rfl (lv' := [.ref 16, .int (iI 3), .int (iI 7)]) rfl ?_
  refine k_goto (tgt := 22) C dX5_begin_52 (by decide) ?_
  refine k_iload_n C dX5_begin_22 rfl ?_
  refine k_bipush C dX5_begin_23 (by decide) ?_
  refine k_geF (tgt := 55) C dX5_begin_25 (by decide) ⟨⟨by decide, by decide⟩, ⟨by decide, by decide⟩⟩ (by decide) ?_
  refine k_aload_n C dX5_begin_28 rfl ?_
  refine k_getR C dX5_begin_29 s_16 (by decide) f8_X5_23_5 rfl h5 ?_
  refine k_iload_n C dX5_begin_32 rfl ?_
  refine k_iconst C dX5_begin_33 ?_
  refine k_iastore C dX5_begin_34 s_28 (by decide) (by decide) ?_
  refine k_aload_n C dX5_begin_35 rfl ?_
  refine k_getR C dX5_begin_36 s_16 (by decide) f8_X5_27_5 rfl h6 ?_
  refine k_iload_n C dX5_begin_39 rfl ?_
  refine k_iconst C dX5_begin_40 ?_
  refine k_iastore C dX5_begin_41 s_29 (by decide) (by decide) ?_
  refine k_aload_n C dX5_begin_42 rfl ?_
  refine k_getR C dX5_begin_43 s_16 (by decide) f8_X5_30_5 rfl h8 ?_
  refine k_iload_n C dX5_begin_46 rfl ?_
  refine k_fconst1 C dX5_begin_47 ?_
  refine k_fastore C dX5_begin_48 s_30 (by decide) (by decide) ?_
  refine k_iinc C dX5_begin_49 rfl (by decide) rfl (lv' := [.ref 16, .int (iI 3), .int (iI 8)]) rfl ?_
  refine k_goto (tgt := 22) C dX5_begin_52 (by decide) ?_
  refine k_iload_n C dX5_begin_22 rfl ?_
  refine k_bipush C dX5_begin_23 (by decide) ?_
  refine k_geT (tgt := 55) C dX5_begin_25 (by decide) ⟨⟨by decide, by decide⟩, ⟨by decide, by decide⟩⟩ (by decide) ?_
  exact k_return C dX5_begin_55 rfl
def sg_X5_init_16 (σ : S9) : S9 := (sg_X5_begin_16 σ)
def nu_X5_init_16 (ν : List (Nat × Nat)) : List (Nat × Nat) := (nu_X5_begin_16 ((16, 8) :: ((16, 6) :: ((16, 5) :: ((16, 4) :: (ml8 19 8 ((16, 3) :: ((16, 2) :: ν))))))))
set_option maxRecDepth 100000 in
theorem i_X5_init_16 (σ : S9) (ν : List (Nat × Nat)) : C8 1 112 mX5_init [.ref 16] 17 σ ν 31 (sg_X5_init_16 σ) (nu_X5_init_16 ν) := by
  refine C8_of (ini := true) (lv := [.ref 16]) (by decide +kernel) (fun q => by rfl) rfl (fun _ => Nat.le_of_ble_eq_true rfl) rfl (by decide) ?_
  intro γ h p l e s m args below meth c C
  refine k_aload_n C dX5_init_0 rfl ?_
  refine k_objInit C dX5_init_1 (w9 65 (by decide +kernel) rfl) w8_o2 w8_o3 (Nat.le_of_ble_eq_true rfl) (Nat.le_of_ble_eq_true rfl) rfl ?_
  refine k_aload_n C dX5_init_4 rfl ?_
  refine k_bipush C dX5_init_5 (by decide) ?_
  refine k_newaL (N := 8) (sl' := 8) C dX5_init_7 rfl (by decide) s_17 (by decide) (Nat.le_of_ble_eq_true rfl) rfl (Nat.le_of_ble_eq_true rfl) ?_
  refine k_n (n' := 18) rfl ?_
  refine k_putRF C rfl dX5_init_9 s_16 (by decide) r8_X5_9_5 rfl ?_
  refine k_aload_n C dX5_init_12 rfl ?_
  refine k_bipush C dX5_init_13 (by decide) ?_
  refine k_newaL (N := 8) (sl' := 16) C dX5_init_15 rfl (by decide) s_18 (by decide) (Nat.le_of_ble_eq_true rfl) rfl (Nat.le_of_ble_eq_true rfl) ?_
  refine k_n (n' := 19) rfl ?_
  refine k_putRF C rfl dX5_init_17 s_16 (by decide) r8_X5_15_5 rfl ?_
  refine k_aload_n C dX5_init_20 rfl ?_
  refine k_bipush C dX5_init_21 (by decide) ?_
  refine k_bipush C dX5_init_23 (by decide) ?_
  refine k_multi (N := 8) (K := 8) (sl' := 88) C dX5_init_25 (w9 66 (by decide +kernel) rfl) rfl rfl (by decide) (by decide) (by decide) s_19 (by decide +kernel) (by decide) (Nat.le_of_ble_eq_true rfl) rfl (Nat.le_of_ble_eq_true rfl) ?_
  refine k_n (n' := 28) rfl ?_
  refine k_putRF C rfl dX5_init_29 s_16 (by decide) r8_X5_20_5 rfl ?_
  refine k_aload_n C dX5_init_32 rfl ?_
  refine k_bipush C dX5_init_33 (by decide) ?_
  refine k_newaI (N := 8) (sl' := 96) C dX5_init_35 rfl (by decide) s_28 (by decide) (Nat.le_of_ble_eq_true rfl) rfl (Nat.le_of_ble_eq_true rfl) ?_
  refine k_n (n' := 29) rfl ?_
  refine k_putRF C rfl dX5_init_37 s_16 (by decide) r8_X5_23_5 rfl ?_
  refine k_aload_n C dX5_init_40 rfl ?_
  refine k_bipush C dX5_init_41 (by decide) ?_
  refine k_newaI (N := 8) (sl' := 104) C dX5_init_43 rfl (by decide) s_29 (by decide) (Nat.le_of_ble_eq_true rfl) rfl (Nat.le_of_ble_eq_true rfl) ?_
  refine k_n (n' := 30) rfl ?_
  refine k_putRF C rfl dX5_init_45 s_16 (by decide) r8_X5_27_5 rfl ?_
  refine k_aload_n C dX5_init_48 rfl ?_
  refine k_bipush C dX5_init_49 (by decide) ?_
  refine k_newaF (N := 8) (sl' := 112) C dX5_init_51 rfl (by decide) s_30 (by decide) (Nat.le_of_ble_eq_true rfl) rfl (Nat.le_of_ble_eq_true rfl) ?_
  refine k_n (n' := 31) rfl ?_
  refine k_putRF C rfl dX5_init_53 s_16 (by decide) r8_X5_30_5 rfl ?_
  refine k_aload_n C dX5_init_56 rfl ?_
  refine k_iconst C dX5_init_57 ?_
  refine k_callV1 (sl' := 112) C dX5_init_58 v8_X5_34 s_16 (by decide) (Nat.le_of_ble_eq_true rfl) (i_X5_begin_16 _ _ rfl rfl rfl) (by decide) ⟨(Nat.le_of_ble_eq_true rfl), (Nat.le_of_ble_eq_true rfl)⟩ (Nat.le_of_ble_eq_true rfl) rfl (Nat.le_of_ble_eq_true rfl) ?_
  exact k_return C dX5_init_61 rfl
theorem f8_X1_9_1 : fd9 RX1 9 1 0 0 := ⟨RX1, TX1, 2, "RewritingTermination$Input", rfl, by decide, (w9 132 (by decide +kernel) rfl), incX1, fun _ _ _ _ h => h, rfl, rfl⟩
theorem p8_X1_9_1 : fp9 RX1 9 1 0 0 .int := ⟨f8_X1_9_1, tyX1, fun _ _ _ h => by cases h; exact tyX1_ok, fun _ _ _ h => by cases h; exact nmX1, fun _ _ _ h => by cases h; rfl, fun _ _ _ h => by cases h; decide +kernel⟩
theorem f8_X1_15_1 : fd9 RX1 15 1 1 2 := ⟨RX1, TX1, 2, "RewritingTermination$Input", rfl, by decide, (w9 134 (by decide +kernel) rfl), incX1, fun _ _ _ _ h => h, rfl, rfl⟩
theorem r8_X1_15_1 : fr8 RX1 15 1 1 true := ⟨f8_X1_15_1, tyX1, fun _ _ _ h => by cases h; exact tyX1_ok, fun _ _ _ h => by cases h; exact nmX1, fun _ _ _ h => by cases h; exact ⟨rfl, fun q => by rfl⟩, (.array .byte), fun _ _ _ h => by cases h; decide +kernel, fun a => ⟨rfl, rfl⟩⟩
def sg_X1_init_31 (σ : S9) : S9 := (sI σ 31 0 0)
def nu_X1_init_31 (ν : List (Nat × Nat)) : List (Nat × Nat) := ((31, 1) :: ν)
set_option maxRecDepth 100000 in
theorem i_X1_init_31 (σ : S9) (ν : List (Nat × Nat)) : C8 1 40 mX1_init [.ref 31] 32 σ ν 33 (sg_X1_init_31 σ) (nu_X1_init_31 ν) := by
  refine C8_of (ini := true) (lv := [.ref 31]) (by decide +kernel) (fun q => by rfl) rfl (fun _ => Nat.le_of_ble_eq_true rfl) rfl (by decide) ?_
  intro γ h p l e s m args below meth c C
  refine k_aload_n C dX1_init_0 rfl ?_
  refine k_objInit C dX1_init_1 (w9 131 (by decide +kernel) rfl) w8_o2 w8_o3 (Nat.le_of_ble_eq_true rfl) (Nat.le_of_ble_eq_true rfl) rfl ?_
  refine k_aload_n C dX1_init_4 rfl ?_
  refine k_iconst C dX1_init_5 ?_
  refine k_putI C dX1_init_6 s_31 (by decide) p8_X1_9_1 rfl ?_
  refine k_aload_n C dX1_init_9 rfl ?_
  refine k_bipush C dX1_init_10 (by decide) ?_
  refine k_newaB (N := 40) (sl' := 40) C dX1_init_12 rfl (by decide) s_32 (by decide) (Nat.le_of_ble_eq_true rfl) rfl (Nat.le_of_ble_eq_true rfl) ?_
  refine k_n (n' := 33) rfl ?_
  refine k_putRF C rfl dX1_init_14 s_31 (by decide) r8_X1_15_1 rfl ?_
  exact k_return C dX1_init_17 rfl
theorem f8_X4_9_4 : fd9 RX4 9 4 0 0 := ⟨RX4, TX4, 3, "RewritingTermination$Loop", rfl, by decide, (w9 147 (by decide +kernel) rfl), incX4, fun _ _ _ _ h => h, rfl, rfl⟩
theorem p8_X4_9_4 : fp9 RX4 9 4 0 0 .int := ⟨f8_X4_9_4, tyX4, fun _ _ _ h => by cases h; exact tyX4_ok, fun _ _ _ h => by cases h; exact nmX4, fun _ _ _ h => by cases h; rfl, fun _ _ _ h => by cases h; decide +kernel⟩
theorem f8_X4_15_4 : fd9 RX4 15 4 1 2 := ⟨RX4, TX4, 3, "RewritingTermination$Loop", rfl, by decide, (w9 150 (by decide +kernel) rfl), incX4, fun _ _ _ _ h => h, rfl, rfl⟩
theorem r8_X4_15_4 : fr8 RX4 15 4 1 true := ⟨f8_X4_15_4, tyX4, fun _ _ _ h => by cases h; exact tyX4_ok, fun _ _ _ h => by cases h; exact nmX4, fun _ _ _ h => by cases h; exact ⟨rfl, fun q => by rfl⟩, (.array .int), fun _ _ _ h => by cases h; decide +kernel, fun a => ⟨rfl, rfl⟩⟩
theorem f8_X4_19_4 : fd9 RX4 19 4 2 2 := ⟨RX4, TX4, 3, "RewritingTermination$Loop", rfl, by decide, (w9 153 (by decide +kernel) rfl), incX4, fun _ _ _ _ h => h, rfl, rfl⟩
theorem r8_X4_19_4 : fr8 RX4 19 4 2 true := ⟨f8_X4_19_4, tyX4, fun _ _ _ h => by cases h; exact tyX4_ok, fun _ _ _ h => by cases h; exact nmX4, fun _ _ _ h => by cases h; exact ⟨rfl, fun q => by rfl⟩, (.array .int), fun _ _ _ h => by cases h; decide +kernel, fun a => ⟨rfl, rfl⟩⟩
def sg_X4_init_33 (σ : S9) : S9 := (sI σ 33 0 0)
def nu_X4_init_33 (ν : List (Nat × Nat)) : List (Nat × Nat) := ((33, 2) :: ((33, 1) :: ν))
set_option maxRecDepth 100000 in
theorem i_X4_init_33 (σ : S9) (ν : List (Nat × Nat)) : C8 1 400 mX4_init [.ref 33] 34 σ ν 36 (sg_X4_init_33 σ) (nu_X4_init_33 ν) := by
  refine C8_of (ini := true) (lv := [.ref 33]) (by decide +kernel) (fun q => by rfl) rfl (fun _ => Nat.le_of_ble_eq_true rfl) rfl (by decide) ?_
  intro γ h p l e s m args below meth c C
  refine k_aload_n C dX4_init_0 rfl ?_
  refine k_objInit C dX4_init_1 (w9 146 (by decide +kernel) rfl) w8_o2 w8_o3 (Nat.le_of_ble_eq_true rfl) (Nat.le_of_ble_eq_true rfl) rfl ?_
  refine k_aload_n C dX4_init_4 rfl ?_
  refine k_iconst C dX4_init_5 ?_
  refine k_putI C dX4_init_6 s_33 (by decide) p8_X4_9_4 rfl ?_
  refine k_aload_n C dX4_init_9 rfl ?_
  refine k_sipush C dX4_init_10 (by decide) ?_
  refine k_newaI (N := 200) (sl' := 200) C dX4_init_13 rfl (by decide) s_34 (by decide) (Nat.le_of_ble_eq_true rfl) rfl (Nat.le_of_ble_eq_true rfl) ?_
  refine k_n (n' := 35) rfl ?_
  refine k_putRF C rfl dX4_init_15 s_33 (by decide) r8_X4_15_4 rfl ?_
  refine k_aload_n C dX4_init_18 rfl ?_
  refine k_sipush C dX4_init_19 (by decide) ?_
  refine k_newaI (N := 200) (sl' := 400) C dX4_init_22 rfl (by decide) s_35 (by decide) (Nat.le_of_ble_eq_true rfl) rfl (Nat.le_of_ble_eq_true rfl) ?_
  refine k_n (n' := 36) rfl ?_
  refine k_putRF C rfl dX4_init_24 s_33 (by decide) r8_X4_19_4 rfl ?_
  exact k_return C dX4_init_27 rfl
theorem f8_X0_9_0 : fd9 RX0 9 0 0 0 := ⟨RX0, TX0, 10, "RewritingTermination$Found", rfl, by decide, (w9 169 (by decide +kernel) rfl), incX0, fun _ _ _ _ h => h, rfl, rfl⟩
theorem p8_X0_9_0 : fp9 RX0 9 0 0 0 .int := ⟨f8_X0_9_0, tyX0, fun _ _ _ h => by cases h; exact tyX0_ok, fun _ _ _ h => by cases h; exact nmX0, fun _ _ _ h => by cases h; rfl, fun _ _ _ h => by cases h; decide +kernel⟩
theorem f8_X0_15_0 : fd9 RX0 15 0 1 2 := ⟨RX0, TX0, 10, "RewritingTermination$Found", rfl, by decide, (w9 170 (by decide +kernel) rfl), incX0, fun _ _ _ _ h => h, rfl, rfl⟩
theorem r8_X0_15_0 : fr8 RX0 15 0 1 true := ⟨f8_X0_15_0, tyX0, fun _ _ _ h => by cases h; exact tyX0_ok, fun _ _ _ h => by cases h; exact nmX0, fun _ _ _ h => by cases h; exact ⟨rfl, fun q => by rfl⟩, (.array .long), fun _ _ _ h => by cases h; decide +kernel, fun a => ⟨rfl, rfl⟩⟩
theorem f8_X0_19_0 : fd9 RX0 19 0 2 2 := ⟨RX0, TX0, 10, "RewritingTermination$Found", rfl, by decide, (w9 171 (by decide +kernel) rfl), incX0, fun _ _ _ _ h => h, rfl, rfl⟩
theorem r8_X0_19_0 : fr8 RX0 19 0 2 true := ⟨f8_X0_19_0, tyX0, fun _ _ _ h => by cases h; exact tyX0_ok, fun _ _ _ h => by cases h; exact nmX0, fun _ _ _ h => by cases h; exact ⟨rfl, fun q => by rfl⟩, (.array .int), fun _ _ _ h => by cases h; decide +kernel, fun a => ⟨rfl, rfl⟩⟩
theorem f8_X0_23_0 : fd9 RX0 23 0 3 2 := ⟨RX0, TX0, 10, "RewritingTermination$Found", rfl, by decide, (w9 172 (by decide +kernel) rfl), incX0, fun _ _ _ _ h => h, rfl, rfl⟩
theorem r8_X0_23_0 : fr8 RX0 23 0 3 true := ⟨f8_X0_23_0, tyX0, fun _ _ _ h => by cases h; exact tyX0_ok, fun _ _ _ h => by cases h; exact nmX0, fun _ _ _ h => by cases h; exact ⟨rfl, fun q => by rfl⟩, (.array .int), fun _ _ _ h => by cases h; decide +kernel, fun a => ⟨rfl, rfl⟩⟩
theorem f8_X0_26_0 : fd9 RX0 26 0 4 2 := ⟨RX0, TX0, 10, "RewritingTermination$Found", rfl, by decide, (w9 173 (by decide +kernel) rfl), incX0, fun _ _ _ _ h => h, rfl, rfl⟩
theorem r8_X0_26_0 : fr8 RX0 26 0 4 true := ⟨f8_X0_26_0, tyX0, fun _ _ _ h => by cases h; exact tyX0_ok, fun _ _ _ h => by cases h; exact nmX0, fun _ _ _ h => by cases h; exact ⟨rfl, fun q => by rfl⟩, (.array .int), fun _ _ _ h => by cases h; decide +kernel, fun a => ⟨rfl, rfl⟩⟩
theorem f8_X0_29_0 : fd9 RX0 29 0 5 2 := ⟨RX0, TX0, 10, "RewritingTermination$Found", rfl, by decide, (w9 174 (by decide +kernel) rfl), incX0, fun _ _ _ _ h => h, rfl, rfl⟩
theorem r8_X0_29_0 : fr8 RX0 29 0 5 true := ⟨f8_X0_29_0, tyX0, fun _ _ _ h => by cases h; exact tyX0_ok, fun _ _ _ h => by cases h; exact nmX0, fun _ _ _ h => by cases h; exact ⟨rfl, fun q => by rfl⟩, (.array .int), fun _ _ _ h => by cases h; decide +kernel, fun a => ⟨rfl, rfl⟩⟩
theorem f8_X0_32_0 : fd9 RX0 32 0 6 2 := ⟨RX0, TX0, 10, "RewritingTermination$Found", rfl, by decide, (w9 175 (by decide +kernel) rfl), incX0, fun _ _ _ _ h => h, rfl, rfl⟩
theorem r8_X0_32_0 : fr8 RX0 32 0 6 true := ⟨f8_X0_32_0, tyX0, fun _ _ _ h => by cases h; exact tyX0_ok, fun _ _ _ h => by cases h; exact nmX0, fun _ _ _ h => by cases h; exact ⟨rfl, fun q => by rfl⟩, (.array .int), fun _ _ _ h => by cases h; decide +kernel, fun a => ⟨rfl, rfl⟩⟩
theorem f8_X0_35_0 : fd9 RX0 35 0 7 2 := ⟨RX0, TX0, 10, "RewritingTermination$Found", rfl, by decide, (w9 176 (by decide +kernel) rfl), incX0, fun _ _ _ _ h => h, rfl, rfl⟩
theorem r8_X0_35_0 : fr8 RX0 35 0 7 true := ⟨f8_X0_35_0, tyX0, fun _ _ _ h => by cases h; exact tyX0_ok, fun _ _ _ h => by cases h; exact nmX0, fun _ _ _ h => by cases h; exact ⟨rfl, fun q => by rfl⟩, (.array .int), fun _ _ _ h => by cases h; decide +kernel, fun a => ⟨rfl, rfl⟩⟩
theorem f8_X0_38_0 : fd9 RX0 38 0 8 2 := ⟨RX0, TX0, 10, "RewritingTermination$Found", rfl, by decide, (w9 177 (by decide +kernel) rfl), incX0, fun _ _ _ _ h => h, rfl, rfl⟩
theorem r8_X0_38_0 : fr8 RX0 38 0 8 true := ⟨f8_X0_38_0, tyX0, fun _ _ _ h => by cases h; exact tyX0_ok, fun _ _ _ h => by cases h; exact nmX0, fun _ _ _ h => by cases h; exact ⟨rfl, fun q => by rfl⟩, (.array .int), fun _ _ _ h => by cases h; decide +kernel, fun a => ⟨rfl, rfl⟩⟩
theorem f8_X0_41_0 : fd9 RX0 41 0 9 0 := ⟨RX0, TX0, 10, "RewritingTermination$Found", rfl, by decide, (w9 178 (by decide +kernel) rfl), incX0, fun _ _ _ _ h => h, rfl, rfl⟩
theorem p8_X0_41_0 : fp9 RX0 41 0 9 0 .int := ⟨f8_X0_41_0, tyX0, fun _ _ _ h => by cases h; exact tyX0_ok, fun _ _ _ h => by cases h; exact nmX0, fun _ _ _ h => by cases h; rfl, fun _ _ _ h => by cases h; decide +kernel⟩
def sg_X0_init_36 (σ : S9) : S9 := (sI (sI σ 36 0 0) 36 9 0)
def nu_X0_init_36 (ν : List (Nat × Nat)) : List (Nat × Nat) := ((36, 8) :: ((36, 7) :: ((36, 6) :: ((36, 5) :: ((36, 4) :: ((36, 3) :: ((36, 2) :: ((36, 1) :: ν))))))))
set_option maxRecDepth 100000 in
theorem i_X0_init_36 (σ : S9) (ν : List (Nat × Nat)) : C8 1 1912 mX0_init [.ref 36] 37 σ ν 45 (sg_X0_init_36 σ) (nu_X0_init_36 ν) := by
  refine C8_of (ini := true) (lv := [.ref 36]) (by decide +kernel) (fun q => by rfl) rfl (fun _ => Nat.le_of_ble_eq_true rfl) rfl (by decide) ?_
  intro γ h p l e s m args below meth c C
  refine k_aload_n C dX0_init_0 rfl ?_
  refine k_objInit C dX0_init_1 (w9 168 (by decide +kernel) rfl) w8_o2 w8_o3 (Nat.le_of_ble_eq_true rfl) (Nat.le_of_ble_eq_true rfl) rfl ?_
  refine k_aload_n C dX0_init_4 rfl ?_
  refine k_iconst C dX0_init_5 ?_
  refine k_putI C dX0_init_6 s_36 (by decide) p8_X0_9_0 rfl ?_
  refine k_aload_n C dX0_init_9 rfl ?_
  refine k_sipush C dX0_init_10 (by decide) ?_
  refine k_newaL (N := 200) (sl' := 200) C dX0_init_13 rfl (by decide) s_37 (by decide) (Nat.le_of_ble_eq_true rfl) rfl (Nat.le_of_ble_eq_true rfl) ?_
  refine k_n (n' := 38) rfl ?_
  refine k_putRF C rfl dX0_init_15 s_36 (by decide) r8_X0_15_0 rfl ?_
  refine k_aload_n C dX0_init_18 rfl ?_
  refine k_sipush C dX0_init_19 (by decide) ?_
  refine k_newaI (N := 512) (sl' := 712) C dX0_init_22 rfl (by decide) s_38 (by decide) (Nat.le_of_ble_eq_true rfl) rfl (Nat.le_of_ble_eq_true rfl) ?_
  refine k_n (n' := 39) rfl ?_
  refine k_putRF C rfl dX0_init_24 s_36 (by decide) r8_X0_19_0 rfl ?_
  refine k_aload_n C dX0_init_27 rfl ?_
  refine k_sipush C dX0_init_28 (by decide) ?_
  refine k_newaI (N := 200) (sl' := 912) C dX0_init_31 rfl (by decide) s_39 (by decide) (Nat.le_of_ble_eq_true rfl) rfl (Nat.le_of_ble_eq_true rfl) ?_
  refine k_n (n' := 40) rfl ?_
  refine k_putRF C rfl dX0_init_33 s_36 (by decide) r8_X0_23_0 rfl ?_
  refine k_aload_n C dX0_init_36 rfl ?_
  refine k_sipush C dX0_init_37 (by decide) ?_
  refine k_newaI (N := 200) (sl' := 1112) C dX0_init_40 rfl (by decide) s_40 (by decide) (Nat.le_of_ble_eq_true rfl) rfl (Nat.le_of_ble_eq_true rfl) ?_
  refine k_n (n' := 41) rfl ?_
  refine k_putRF C rfl dX0_init_42 s_36 (by decide) r8_X0_26_0 rfl ?_
  refine k_aload_n C dX0_init_45 rfl ?_
  refine k_sipush C dX0_init_46 (by decide) ?_
  refine k_newaI (N := 200) (sl' := 1312) C dX0_init_49 rfl (by decide) s_41 (by decide) (Nat.le_of_ble_eq_true rfl) rfl (Nat.le_of_ble_eq_true rfl) ?_
  refine k_n (n' := 42) rfl ?_
  refine k_putRF C rfl dX0_init_51 s_36 (by decide) r8_X0_29_0 rfl ?_
  refine k_aload_n C dX0_init_54 rfl ?_
  refine k_sipush C dX0_init_55 (by decide) ?_
  refine k_newaI (N := 200) (sl' := 1512) C dX0_init_58 rfl (by decide) s_42 (by decide) (Nat.le_of_ble_eq_true rfl) rfl (Nat.le_of_ble_eq_true rfl) ?_
  refine k_n (n' := 43) rfl ?_
  refine k_putRF C rfl dX0_init_60 s_36 (by decide) r8_X0_32_0 rfl ?_
  refine k_aload_n C dX0_init_63 rfl ?_
  refine k_sipush C dX0_init_64 (by decide) ?_
  refine k_newaI (N := 200) (sl' := 1712) C dX0_init_67 rfl (by decide) s_43 (by decide) (Nat.le_of_ble_eq_true rfl) rfl (Nat.le_of_ble_eq_true rfl) ?_
  refine k_n (n' := 44) rfl ?_
  refine k_putRF C rfl dX0_init_69 s_36 (by decide) r8_X0_35_0 rfl ?_
  refine k_aload_n C dX0_init_72 rfl ?_
  refine k_sipush C dX0_init_73 (by decide) ?_
  refine k_newaI (N := 200) (sl' := 1912) C dX0_init_76 rfl (by decide) s_44 (by decide) (Nat.le_of_ble_eq_true rfl) rfl (Nat.le_of_ble_eq_true rfl) ?_
  refine k_n (n' := 45) rfl ?_
  refine k_putRF C rfl dX0_init_78 s_36 (by decide) r8_X0_38_0 rfl ?_
  refine k_aload_n C dX0_init_81 rfl ?_
  refine k_iconst C dX0_init_82 ?_
  refine k_putI C dX0_init_83 s_36 (by decide) p8_X0_41_0 rfl ?_
  exact k_return C dX0_init_86 rfl
theorem f8_X6_9_3 : fd9 RX6 9 3 0 2 := ⟨RX3, TX3, 8, "RewritingTermination$Search", rfl, by decide, (w9 217 (by decide +kernel) rfl), incX3, fun _ _ _ _ h => h, rfl, rfl⟩
theorem r8_X6_9_3 : fr8 RX6 9 3 0 true := ⟨f8_X6_9_3, tyX3, fun _ _ _ h => by cases h; exact tyX3_ok, fun _ _ _ h => by cases h; exact nmX3, fun _ _ _ h => by cases h; exact ⟨rfl, fun q => by rfl⟩, (.array .int), fun _ _ _ h => by cases h; decide +kernel, fun a => ⟨rfl, rfl⟩⟩
def sg_X6_init_45 (σ : S9) : S9 := σ
def nu_X6_init_45 (ν : List (Nat × Nat)) : List (Nat × Nat) := ((45, 0) :: ν)
set_option maxRecDepth 100000 in
theorem i_X6_init_45 (σ : S9) (ν : List (Nat × Nat)) : C8 1 8 mX6_init [.ref 45] 46 σ ν 47 (sg_X6_init_45 σ) (nu_X6_init_45 ν) := by
  refine C8_of (ini := true) (lv := [.ref 45]) (by decide +kernel) (fun q => by rfl) rfl (fun _ => Nat.le_of_ble_eq_true rfl) rfl (by decide) ?_
  intro γ h p l e s m args below meth c C
  refine k_aload_n C dX6_init_0 rfl ?_
  refine k_objInit C dX6_init_1 (w9 208 (by decide +kernel) rfl) w8_o2 w8_o3 (Nat.le_of_ble_eq_true rfl) (Nat.le_of_ble_eq_true rfl) rfl ?_
  refine k_aload_n C dX6_init_4 rfl ?_
  refine k_bipush C dX6_init_5 (by decide) ?_
  refine k_newaI (N := 8) (sl' := 8) C dX6_init_7 rfl (by decide) s_46 (by decide) (Nat.le_of_ble_eq_true rfl) rfl (Nat.le_of_ble_eq_true rfl) ?_
  refine k_n (n' := 47) rfl ?_
  refine k_putRF C rfl dX6_init_9 s_45 (by decide) r8_X6_9_3 rfl ?_
  exact k_return C dX6_init_12 rfl
theorem n8_X3_1 : lkN8 RX3 1 mX6_init := ⟨by decide +kernel, (w9 206 (by decide +kernel) rfl), (w9 40 (by decide +kernel) rfl), (w9 207 (by decide +kernel) rfl), rfl, ⟨by decide +kernel, by decide +kernel⟩, by decide +kernel, rfl⟩
theorem f8_X3_9_3 : fd9 RX3 9 3 4 2 := ⟨RX3, TX3, 8, "RewritingTermination$LinearSearch", rfl, by decide, (w9 213 (by decide +kernel) rfl), incX3, fun _ _ _ _ h => h, rfl, rfl⟩
theorem r8_X3_9_3 : fr8 RX3 9 3 4 true := ⟨f8_X3_9_3, tyX3, fun _ _ _ h => by cases h; exact tyX3_ok, fun _ _ _ h => by cases h; exact nmX3, fun _ _ _ h => by cases h; exact ⟨rfl, fun q => by rfl⟩, (.array (.array .int)), fun _ _ _ h => by cases h; decide +kernel, fun a => ⟨rfl, rfl⟩⟩
theorem f8_X3_14_3 : fd9 RX3 14 3 5 2 := ⟨RX3, TX3, 8, "RewritingTermination$LinearSearch", rfl, by decide, (w9 214 (by decide +kernel) rfl), incX3, fun _ _ _ _ h => h, rfl, rfl⟩
theorem r8_X3_14_3 : fr8 RX3 14 3 5 true := ⟨f8_X3_14_3, tyX3, fun _ _ _ h => by cases h; exact tyX3_ok, fun _ _ _ h => by cases h; exact nmX3, fun _ _ _ h => by cases h; exact ⟨rfl, fun q => by rfl⟩, (.array (.array .int)), fun _ _ _ h => by cases h; decide +kernel, fun a => ⟨rfl, rfl⟩⟩
theorem f8_X3_17_3 : fd9 RX3 17 3 6 2 := ⟨RX3, TX3, 8, "RewritingTermination$LinearSearch", rfl, by decide, (w9 215 (by decide +kernel) rfl), incX3, fun _ _ _ _ h => h, rfl, rfl⟩
theorem r8_X3_17_3 : fr8 RX3 17 3 6 true := ⟨f8_X3_17_3, tyX3, fun _ _ _ h => by cases h; exact tyX3_ok, fun _ _ _ h => by cases h; exact nmX3, fun _ _ _ h => by cases h; exact ⟨rfl, fun q => by rfl⟩, (.array (.array .int)), fun _ _ _ h => by cases h; decide +kernel, fun a => ⟨rfl, rfl⟩⟩
def sg_X3_init_45 (σ : S9) : S9 := (sg_X6_init_45 σ)
def nu_X3_init_45 (ν : List (Nat × Nat)) : List (Nat × Nat) := ((45, 6) :: (ml8 65 9 ((45, 5) :: (ml8 56 8 ((45, 4) :: (ml8 47 8 (nu_X6_init_45 ν)))))))
set_option maxRecDepth 100000 in
theorem i_X3_init_45 (σ : S9) (ν : List (Nat × Nat)) : C8 2 241 mX3_init [.ref 45] 46 σ ν 75 (sg_X3_init_45 σ) (nu_X3_init_45 ν) := by
  refine C8_of (ini := true) (lv := [.ref 45]) (by decide +kernel) (fun q => by rfl) rfl (fun _ => Nat.le_of_ble_eq_true rfl) rfl (by decide) ?_
  intro γ h p l e s m args below meth c C
  refine k_aload_n C dX3_init_0 rfl ?_
  refine k_callN (sl' := 8) C dX3_init_1 n8_X3_1 (Nat.le_of_ble_eq_true rfl) (i_X6_init_45 _ _) (by decide) ⟨(Nat.le_of_ble_eq_true rfl), (Nat.le_of_ble_eq_true rfl)⟩ (Nat.le_of_ble_eq_true rfl) rfl (Nat.le_of_ble_eq_true rfl) ?_
  refine k_aload_n C dX3_init_4 rfl ?_
  refine k_bipush C dX3_init_5 (by decide) ?_
  refine k_bipush C dX3_init_7 (by decide) ?_
  refine k_multi (N := 8) (K := 8) (sl' := 80) C dX3_init_9 (w9 209 (by decide +kernel) rfl) rfl rfl (by decide) (by decide) (by decide) s_47 (by decide +kernel) (by decide) (Nat.le_of_ble_eq_true rfl) rfl (Nat.le_of_ble_eq_true rfl) ?_
  refine k_n (n' := 56) rfl ?_
  refine k_putRF C rfl dX3_init_13 s_45 (by decide) r8_X3_9_3 rfl ?_
  refine k_aload_n C dX3_init_16 rfl ?_
  refine k_bipush C dX3_init_17 (by decide) ?_
  refine k_bipush C dX3_init_19 (by decide) ?_
  refine k_multi (N := 8) (K := 9) (sl' := 160) C dX3_init_21 (w9 209 (by decide +kernel) rfl) rfl rfl (by decide) (by decide) (by decide) s_56 (by decide +kernel) (by decide) (Nat.le_of_ble_eq_true rfl) rfl (Nat.le_of_ble_eq_true rfl) ?_
  refine k_n (n' := 65) rfl ?_
  refine k_putRF C rfl dX3_init_25 s_45 (by decide) r8_X3_14_3 rfl ?_
  refine k_aload_n C dX3_init_28 rfl ?_
  refine k_bipush C dX3_init_29 (by decide) ?_
  refine k_bipush C dX3_init_31 (by decide) ?_
  refine k_multi (N := 9) (K := 8) (sl' := 241) C dX3_init_33 (w9 209 (by decide +kernel) rfl) rfl rfl (by decide) (by decide) (by decide) s_65 (by decide +kernel) (by decide) (Nat.le_of_ble_eq_true rfl) rfl (Nat.le_of_ble_eq_true rfl) ?_
  refine k_n (n' := 75) rfl ?_
  refine k_putRF C rfl dX3_init_37 s_45 (by decide) r8_X3_17_3 rfl ?_
  exact k_return C dX3_init_40 rfl
theorem f8_X6_9_2 : fd9 RX6 9 2 0 2 := ⟨RX2, TX2, 7, "RewritingTermination$Search", rfl, by decide, (w9 217 (by decide +kernel) rfl), incX2, fun _ _ _ _ h => h, rfl, rfl⟩
theorem r8_X6_9_2 : fr8 RX6 9 2 0 true := ⟨f8_X6_9_2, tyX2, fun _ _ _ h => by cases h; exact tyX2_ok, fun _ _ _ h => by cases h; exact nmX2, fun _ _ _ h => by cases h; exact ⟨rfl, fun q => by rfl⟩, (.array .int), fun _ _ _ h => by cases h; decide +kernel, fun a => ⟨rfl, rfl⟩⟩
def sg_X6_init_75 (σ : S9) : S9 := σ
def nu_X6_init_75 (ν : List (Nat × Nat)) : List (Nat × Nat) := ((75, 0) :: ν)
set_option maxRecDepth 100000 in
theorem i_X6_init_75 (σ : S9) (ν : List (Nat × Nat)) : C8 1 8 mX6_init [.ref 75] 76 σ ν 77 (sg_X6_init_75 σ) (nu_X6_init_75 ν) := by
  refine C8_of (ini := true) (lv := [.ref 75]) (by decide +kernel) (fun q => by rfl) rfl (fun _ => Nat.le_of_ble_eq_true rfl) rfl (by decide) ?_
  intro γ h p l e s m args below meth c C
  refine k_aload_n C dX6_init_0 rfl ?_
  refine k_objInit C dX6_init_1 (w9 208 (by decide +kernel) rfl) w8_o2 w8_o3 (Nat.le_of_ble_eq_true rfl) (Nat.le_of_ble_eq_true rfl) rfl ?_
  refine k_aload_n C dX6_init_4 rfl ?_
  refine k_bipush C dX6_init_5 (by decide) ?_
  refine k_newaI (N := 8) (sl' := 8) C dX6_init_7 rfl (by decide) s_76 (by decide) (Nat.le_of_ble_eq_true rfl) rfl (Nat.le_of_ble_eq_true rfl) ?_
  refine k_n (n' := 77) rfl ?_
  refine k_putRF C rfl dX6_init_9 s_75 (by decide) r8_X6_9_2 rfl ?_
  exact k_return C dX6_init_12 rfl
theorem n8_X2_3 : lkN8 RX2 3 mX6_init := ⟨by decide +kernel, (w9 206 (by decide +kernel) rfl), (w9 40 (by decide +kernel) rfl), (w9 207 (by decide +kernel) rfl), rfl, ⟨by decide +kernel, by decide +kernel⟩, by decide +kernel, rfl⟩
theorem f8_X2_9_2 : fd9 RX2 9 2 5 2 := ⟨RX2, TX2, 7, "RewritingTermination$LevelSearch", rfl, by decide, (w9 251 (by decide +kernel) rfl), incX2, fun _ _ _ _ h => h, rfl, rfl⟩
theorem r8_X2_9_2 : fr8 RX2 9 2 5 true := ⟨f8_X2_9_2, tyX2, fun _ _ _ h => by cases h; exact tyX2_ok, fun _ _ _ h => by cases h; exact nmX2, fun _ _ _ h => by cases h; exact ⟨rfl, fun q => by rfl⟩, (.array .long), fun _ _ _ h => by cases h; decide +kernel, fun a => ⟨rfl, rfl⟩⟩
theorem f8_X2_15_2 : fd9 RX2 15 2 6 2 := ⟨RX2, TX2, 7, "RewritingTermination$LevelSearch", rfl, by decide, (w9 252 (by decide +kernel) rfl), incX2, fun _ _ _ _ h => h, rfl, rfl⟩
theorem r8_X2_15_2 : fr8 RX2 15 2 6 true := ⟨f8_X2_15_2, tyX2, fun _ _ _ h => by cases h; exact tyX2_ok, fun _ _ _ h => by cases h; exact nmX2, fun _ _ _ h => by cases h; exact ⟨rfl, fun q => by rfl⟩, (.array .long), fun _ _ _ h => by cases h; decide +kernel, fun a => ⟨rfl, rfl⟩⟩
def sg_X2_init_75 (σ : S9) : S9 := (sg_X6_init_75 σ)
def nu_X2_init_75 (ν : List (Nat × Nat)) : List (Nat × Nat) := ((75, 6) :: ((75, 5) :: (nu_X6_init_75 ν)))
set_option maxRecDepth 100000 in
theorem i_X2_init_75 (σ : S9) (ν : List (Nat × Nat)) : C8 2 24 mX2_init [.ref 75] 76 σ ν 79 (sg_X2_init_75 σ) (nu_X2_init_75 ν) := by
  refine C8_of (ini := true) (lv := [.ref 75]) (by decide +kernel) (fun q => by rfl) rfl (fun _ => Nat.le_of_ble_eq_true rfl) rfl (by decide) ?_
  intro γ h p l e s m args below meth c C
  refine k_aload_n C dX2_init_0 rfl ?_
  refine k_callN (sl' := 8) C dX2_init_1 n8_X2_3 (Nat.le_of_ble_eq_true rfl) (i_X6_init_75 _ _) (by decide) ⟨(Nat.le_of_ble_eq_true rfl), (Nat.le_of_ble_eq_true rfl)⟩ (Nat.le_of_ble_eq_true rfl) rfl (Nat.le_of_ble_eq_true rfl) ?_
  refine k_aload_n C dX2_init_4 rfl ?_
  refine k_bipush C dX2_init_5 (by decide) ?_
  refine k_newaL (N := 8) (sl' := 16) C dX2_init_7 rfl (by decide) s_77 (by decide) (Nat.le_of_ble_eq_true rfl) rfl (Nat.le_of_ble_eq_true rfl) ?_
  refine k_n (n' := 78) rfl ?_
  refine k_putRF C rfl dX2_init_9 s_75 (by decide) r8_X2_9_2 rfl ?_
  refine k_aload_n C dX2_init_12 rfl ?_
  refine k_bipush C dX2_init_13 (by decide) ?_
  refine k_newaL (N := 8) (sl' := 24) C dX2_init_15 rfl (by decide) s_78 (by decide) (Nat.le_of_ble_eq_true rfl) rfl (Nat.le_of_ble_eq_true rfl) ?_
  refine k_n (n' := 79) rfl ?_
  refine k_putRF C rfl dX2_init_17 s_75 (by decide) r8_X2_15_2 rfl ?_
  exact k_return C dX2_init_20 rfl
theorem f8_X7_11_6 : fd9 RX7 11 6 0 0 := ⟨RX7, TX7, 5, "RewritingTermination$Slot", rfl, by decide, (w9 274 (by decide +kernel) rfl), incX7, fun _ _ _ _ h => h, rfl, rfl⟩
theorem p8_X7_11_6 : fp9 RX7 11 6 0 0 .int := ⟨f8_X7_11_6, tyX7, fun _ _ _ h => by cases h; exact tyX7_ok, fun _ _ _ h => by cases h; exact nmX7, fun _ _ _ h => by cases h; rfl, fun _ _ _ h => by cases h; decide +kernel⟩
theorem f8_X7_15_6 : fd9 RX7 15 6 1 0 := ⟨RX7, TX7, 5, "RewritingTermination$Slot", rfl, by decide, (w9 276 (by decide +kernel) rfl), incX7, fun _ _ _ _ h => h, rfl, rfl⟩
theorem p8_X7_15_6 : fp9 RX7 15 6 1 0 .int := ⟨f8_X7_15_6, tyX7, fun _ _ _ h => by cases h; exact tyX7_ok, fun _ _ _ h => by cases h; exact nmX7, fun _ _ _ h => by cases h; rfl, fun _ _ _ h => by cases h; decide +kernel⟩
theorem f8_X7_18_6 : fd9 RX7 18 6 2 2 := ⟨RX7, TX7, 5, "RewritingTermination$Slot", rfl, by decide, (w9 278 (by decide +kernel) rfl), incX7, fun _ _ _ _ h => h, rfl, rfl⟩
theorem r8_X7_18_6 : fr8 RX7 18 6 2 true := ⟨f8_X7_18_6, tyX7, fun _ _ _ h => by cases h; exact tyX7_ok, fun _ _ _ h => by cases h; exact nmX7, fun _ _ _ h => by cases h; exact ⟨rfl, fun q => by rfl⟩, (.array .long), fun _ _ _ h => by cases h; decide +kernel, fun a => ⟨rfl, rfl⟩⟩
theorem f8_X7_22_6 : fd9 RX7 22 6 3 2 := ⟨RX7, TX7, 5, "RewritingTermination$Slot", rfl, by decide, (w9 280 (by decide +kernel) rfl), incX7, fun _ _ _ _ h => h, rfl, rfl⟩
theorem r8_X7_22_6 : fr8 RX7 22 6 3 true := ⟨f8_X7_22_6, tyX7, fun _ _ _ h => by cases h; exact tyX7_ok, fun _ _ _ h => by cases h; exact nmX7, fun _ _ _ h => by cases h; exact ⟨rfl, fun q => by rfl⟩, (.array .float), fun _ _ _ h => by cases h; decide +kernel, fun a => ⟨rfl, rfl⟩⟩
theorem f8_X7_26_6 : fd9 RX7 26 6 4 2 := ⟨RX7, TX7, 5, "RewritingTermination$Slot", rfl, by decide, (w9 281 (by decide +kernel) rfl), incX7, fun _ _ _ _ h => h, rfl, rfl⟩
theorem r8_X7_26_6 : fr8 RX7 26 6 4 true := ⟨f8_X7_26_6, tyX7, fun _ _ _ h => by cases h; exact tyX7_ok, fun _ _ _ h => by cases h; exact nmX7, fun _ _ _ h => by cases h; exact ⟨rfl, fun q => by rfl⟩, (.array .double), fun _ _ _ h => by cases h; decide +kernel, fun a => ⟨rfl, rfl⟩⟩
def sg_X7_init_81 (σ : S9) : S9 := (sI (sI σ 81 0 (-1)) 81 1 0)
def nu_X7_init_81 (ν : List (Nat × Nat)) : List (Nat × Nat) := ((81, 4) :: ((81, 3) :: ((81, 2) :: ν)))
set_option maxRecDepth 100000 in
theorem i_X7_init_81 (σ : S9) (ν : List (Nat × Nat)) : C8 1 120 mX7_init [.ref 81] 82 σ ν 85 (sg_X7_init_81 σ) (nu_X7_init_81 ν) := by
  refine C8_of (ini := true) (lv := [.ref 81]) (by decide +kernel) (fun q => by rfl) rfl (fun _ => Nat.le_of_ble_eq_true rfl) rfl (by decide) ?_
  intro γ h p l e s m args below meth c C
  refine k_aload_n C dX7_init_0 rfl ?_
  refine k_objInit C dX7_init_1 (w9 273 (by decide +kernel) rfl) w8_o2 w8_o3 (Nat.le_of_ble_eq_true rfl) (Nat.le_of_ble_eq_true rfl) rfl ?_
  refine k_aload_n C dX7_init_4 rfl ?_
  refine k_iconst C dX7_init_5 ?_
  refine k_putI C dX7_init_6 s_81 (by decide) p8_X7_11_6 rfl ?_
  refine k_aload_n C dX7_init_9 rfl ?_
  refine k_iconst C dX7_init_10 ?_
  refine k_putI C dX7_init_11 s_81 (by decide) p8_X7_15_6 rfl ?_
  refine k_aload_n C dX7_init_14 rfl ?_
  refine k_bipush C dX7_init_15 (by decide) ?_
  refine k_newaL (N := 40) (sl' := 40) C dX7_init_17 rfl (by decide) s_82 (by decide) (Nat.le_of_ble_eq_true rfl) rfl (Nat.le_of_ble_eq_true rfl) ?_
  refine k_n (n' := 83) rfl ?_
  refine k_putRF C rfl dX7_init_19 s_81 (by decide) r8_X7_18_6 rfl ?_
  refine k_aload_n C dX7_init_22 rfl ?_
  refine k_bipush C dX7_init_23 (by decide) ?_
  refine k_newaF (N := 40) (sl' := 80) C dX7_init_25 rfl (by decide) s_83 (by decide) (Nat.le_of_ble_eq_true rfl) rfl (Nat.le_of_ble_eq_true rfl) ?_
  refine k_n (n' := 84) rfl ?_
  refine k_putRF C rfl dX7_init_27 s_81 (by decide) r8_X7_22_6 rfl ?_
  refine k_aload_n C dX7_init_30 rfl ?_
  refine k_bipush C dX7_init_31 (by decide) ?_
  refine k_newaD (N := 40) (sl' := 120) C dX7_init_33 rfl (by decide) s_84 (by decide) (Nat.le_of_ble_eq_true rfl) rfl (Nat.le_of_ble_eq_true rfl) ?_
  refine k_n (n' := 85) rfl ?_
  refine k_putRF C rfl dX7_init_35 s_81 (by decide) r8_X7_26_6 rfl ?_
  exact k_return C dX7_init_38 rfl
def sg_X7_init_85 (σ : S9) : S9 := (sI (sI σ 85 0 (-1)) 85 1 0)
def nu_X7_init_85 (ν : List (Nat × Nat)) : List (Nat × Nat) := ((85, 4) :: ((85, 3) :: ((85, 2) :: ν)))
set_option maxRecDepth 100000 in
theorem i_X7_init_85 (σ : S9) (ν : List (Nat × Nat)) : C8 1 120 mX7_init [.ref 85] 86 σ ν 89 (sg_X7_init_85 σ) (nu_X7_init_85 ν) := by
  refine C8_of (ini := true) (lv := [.ref 85]) (by decide +kernel) (fun q => by rfl) rfl (fun _ => Nat.le_of_ble_eq_true rfl) rfl (by decide) ?_
  intro γ h p l e s m args below meth c C
  refine k_aload_n C dX7_init_0 rfl ?_
  refine k_objInit C dX7_init_1 (w9 273 (by decide +kernel) rfl) w8_o2 w8_o3 (Nat.le_of_ble_eq_true rfl) (Nat.le_of_ble_eq_true rfl) rfl ?_
  refine k_aload_n C dX7_init_4 rfl ?_
  refine k_iconst C dX7_init_5 ?_
  refine k_putI C dX7_init_6 s_85 (by decide) p8_X7_11_6 rfl ?_
  refine k_aload_n C dX7_init_9 rfl ?_
  refine k_iconst C dX7_init_10 ?_
  refine k_putI C dX7_init_11 s_85 (by decide) p8_X7_15_6 rfl ?_
  refine k_aload_n C dX7_init_14 rfl ?_
  refine k_bipush C dX7_init_15 (by decide) ?_
  refine k_newaL (N := 40) (sl' := 40) C dX7_init_17 rfl (by decide) s_86 (by decide) (Nat.le_of_ble_eq_true rfl) rfl (Nat.le_of_ble_eq_true rfl) ?_
  refine k_n (n' := 87) rfl ?_
  refine k_putRF C rfl dX7_init_19 s_85 (by decide) r8_X7_18_6 rfl ?_
  refine k_aload_n C dX7_init_22 rfl ?_
  refine k_bipush C dX7_init_23 (by decide) ?_
  refine k_newaF (N := 40) (sl' := 80) C dX7_init_25 rfl (by decide) s_87 (by decide) (Nat.le_of_ble_eq_true rfl) rfl (Nat.le_of_ble_eq_true rfl) ?_
  refine k_n (n' := 88) rfl ?_
  refine k_putRF C rfl dX7_init_27 s_85 (by decide) r8_X7_22_6 rfl ?_
  refine k_aload_n C dX7_init_30 rfl ?_
  refine k_bipush C dX7_init_31 (by decide) ?_
  refine k_newaD (N := 40) (sl' := 120) C dX7_init_33 rfl (by decide) s_88 (by decide) (Nat.le_of_ble_eq_true rfl) rfl (Nat.le_of_ble_eq_true rfl) ?_
  refine k_n (n' := 89) rfl ?_
  refine k_putRF C rfl dX7_init_35 s_85 (by decide) r8_X7_26_6 rfl ?_
  exact k_return C dX7_init_38 rfl
def sg_X7_init_89 (σ : S9) : S9 := (sI (sI σ 89 0 (-1)) 89 1 0)
def nu_X7_init_89 (ν : List (Nat × Nat)) : List (Nat × Nat) := ((89, 4) :: ((89, 3) :: ((89, 2) :: ν)))
set_option maxRecDepth 100000 in
theorem i_X7_init_89 (σ : S9) (ν : List (Nat × Nat)) : C8 1 120 mX7_init [.ref 89] 90 σ ν 93 (sg_X7_init_89 σ) (nu_X7_init_89 ν) := by
  refine C8_of (ini := true) (lv := [.ref 89]) (by decide +kernel) (fun q => by rfl) rfl (fun _ => Nat.le_of_ble_eq_true rfl) rfl (by decide) ?_
  intro γ h p l e s m args below meth c C
  refine k_aload_n C dX7_init_0 rfl ?_
  refine k_objInit C dX7_init_1 (w9 273 (by decide +kernel) rfl) w8_o2 w8_o3 (Nat.le_of_ble_eq_true rfl) (Nat.le_of_ble_eq_true rfl) rfl ?_
  refine k_aload_n C dX7_init_4 rfl ?_
  refine k_iconst C dX7_init_5 ?_
  refine k_putI C dX7_init_6 s_89 (by decide) p8_X7_11_6 rfl ?_
  refine k_aload_n C dX7_init_9 rfl ?_
  refine k_iconst C dX7_init_10 ?_
  refine k_putI C dX7_init_11 s_89 (by decide) p8_X7_15_6 rfl ?_
  refine k_aload_n C dX7_init_14 rfl ?_
  refine k_bipush C dX7_init_15 (by decide) ?_
  refine k_newaL (N := 40) (sl' := 40) C dX7_init_17 rfl (by decide) s_90 (by decide) (Nat.le_of_ble_eq_true rfl) rfl (Nat.le_of_ble_eq_true rfl) ?_
  refine k_n (n' := 91) rfl ?_
  refine k_putRF C rfl dX7_init_19 s_89 (by decide) r8_X7_18_6 rfl ?_
  refine k_aload_n C dX7_init_22 rfl ?_
  refine k_bipush C dX7_init_23 (by decide) ?_
  refine k_newaF (N := 40) (sl' := 80) C dX7_init_25 rfl (by decide) s_91 (by decide) (Nat.le_of_ble_eq_true rfl) rfl (Nat.le_of_ble_eq_true rfl) ?_
  refine k_n (n' := 92) rfl ?_
  refine k_putRF C rfl dX7_init_27 s_89 (by decide) r8_X7_22_6 rfl ?_
  refine k_aload_n C dX7_init_30 rfl ?_
  refine k_bipush C dX7_init_31 (by decide) ?_
  refine k_newaD (N := 40) (sl' := 120) C dX7_init_33 rfl (by decide) s_92 (by decide) (Nat.le_of_ble_eq_true rfl) rfl (Nat.le_of_ble_eq_true rfl) ?_
  refine k_n (n' := 93) rfl ?_
  refine k_putRF C rfl dX7_init_35 s_89 (by decide) r8_X7_26_6 rfl ?_
  exact k_return C dX7_init_38 rfl
def sg_X7_init_93 (σ : S9) : S9 := (sI (sI σ 93 0 (-1)) 93 1 0)
def nu_X7_init_93 (ν : List (Nat × Nat)) : List (Nat × Nat) := ((93, 4) :: ((93, 3) :: ((93, 2) :: ν)))
set_option maxRecDepth 100000 in
theorem i_X7_init_93 (σ : S9) (ν : List (Nat × Nat)) : C8 1 120 mX7_init [.ref 93] 94 σ ν 97 (sg_X7_init_93 σ) (nu_X7_init_93 ν) := by
  refine C8_of (ini := true) (lv := [.ref 93]) (by decide +kernel) (fun q => by rfl) rfl (fun _ => Nat.le_of_ble_eq_true rfl) rfl (by decide) ?_
  intro γ h p l e s m args below meth c C
  refine k_aload_n C dX7_init_0 rfl ?_
  refine k_objInit C dX7_init_1 (w9 273 (by decide +kernel) rfl) w8_o2 w8_o3 (Nat.le_of_ble_eq_true rfl) (Nat.le_of_ble_eq_true rfl) rfl ?_
  refine k_aload_n C dX7_init_4 rfl ?_
  refine k_iconst C dX7_init_5 ?_
  refine k_putI C dX7_init_6 s_93 (by decide) p8_X7_11_6 rfl ?_
  refine k_aload_n C dX7_init_9 rfl ?_
  refine k_iconst C dX7_init_10 ?_
  refine k_putI C dX7_init_11 s_93 (by decide) p8_X7_15_6 rfl ?_
  refine k_aload_n C dX7_init_14 rfl ?_
  refine k_bipush C dX7_init_15 (by decide) ?_
  refine k_newaL (N := 40) (sl' := 40) C dX7_init_17 rfl (by decide) s_94 (by decide) (Nat.le_of_ble_eq_true rfl) rfl (Nat.le_of_ble_eq_true rfl) ?_
  refine k_n (n' := 95) rfl ?_
  refine k_putRF C rfl dX7_init_19 s_93 (by decide) r8_X7_18_6 rfl ?_
  refine k_aload_n C dX7_init_22 rfl ?_
  refine k_bipush C dX7_init_23 (by decide) ?_
  refine k_newaF (N := 40) (sl' := 80) C dX7_init_25 rfl (by decide) s_95 (by decide) (Nat.le_of_ble_eq_true rfl) rfl (Nat.le_of_ble_eq_true rfl) ?_
  refine k_n (n' := 96) rfl ?_
  refine k_putRF C rfl dX7_init_27 s_93 (by decide) r8_X7_22_6 rfl ?_
  refine k_aload_n C dX7_init_30 rfl ?_
  refine k_bipush C dX7_init_31 (by decide) ?_
  refine k_newaD (N := 40) (sl' := 120) C dX7_init_33 rfl (by decide) s_96 (by decide) (Nat.le_of_ble_eq_true rfl) rfl (Nat.le_of_ble_eq_true rfl) ?_
  refine k_n (n' := 97) rfl ?_
  refine k_putRF C rfl dX7_init_35 s_93 (by decide) r8_X7_26_6 rfl ?_
  exact k_return C dX7_init_38 rfl
theorem nw8_X9_11 : nw8 RX9 11 5 10 := ⟨RX5, TX5, rfl, (w9 60 (by decide +kernel) rfl), (w9 61 (by decide +kernel) rfl), (w9 36 (by decide +kernel) rfl), incX5, rfl, tyX5, tyX5_ok, by decide +kernel⟩
theorem l8_X9_13 : lkI8 RX9 13 mX5_init := ⟨(w9 62 (by decide +kernel) rfl), (w9 63 (by decide +kernel) rfl), (w9 36 (by decide +kernel) rfl), (w9 64 (by decide +kernel) rfl), rfl, ⟨by decide +kernel, by decide +kernel⟩, by decide +kernel, rfl⟩
theorem f8_X9_14_7 : fd9 RX9 14 7 0 2 := ⟨RX9, TX9, 10, "RewritingTermination", rfl, by decide, (w9 294 (by decide +kernel) rfl), incX9, fun _ _ _ _ h => h, rfl, rfl⟩
theorem r8_X9_14_7 : fr8 RX9 14 7 0 true := ⟨f8_X9_14_7, tyX9, fun _ _ _ h => by cases h; exact tyX9_ok, fun _ _ _ h => by cases h; exact nmX9, fun _ _ _ h => by cases h; exact ⟨rfl, fun q => by rfl⟩, (.object "RewritingTermination$Rewriting"), fun _ _ _ h => by cases h; decide +kernel, fun a => ⟨rfl, rfl⟩⟩
theorem f8_X9_18_7 : fd9 RX9 18 7 1 2 := ⟨RX9, TX9, 10, "RewritingTermination", rfl, by decide, (w9 295 (by decide +kernel) rfl), incX9, fun _ _ _ _ h => h, rfl, rfl⟩
theorem r8_X9_18_7 : fr8 RX9 18 7 1 true := ⟨f8_X9_18_7, tyX9, fun _ _ _ h => by cases h; exact tyX9_ok, fun _ _ _ h => by cases h; exact nmX9, fun _ _ _ h => by cases h; exact ⟨rfl, fun q => by rfl⟩, (.object "RewritingTermination$Rewriting"), fun _ _ _ h => by cases h; decide +kernel, fun a => ⟨rfl, rfl⟩⟩
theorem f8_X9_21_7 : fd9 RX9 21 7 2 0 := ⟨RX9, TX9, 10, "RewritingTermination", rfl, by decide, (w9 296 (by decide +kernel) rfl), incX9, fun _ _ _ _ h => h, rfl, rfl⟩
theorem p8_X9_21_7 : fp9 RX9 21 7 2 0 .boolean := ⟨f8_X9_21_7, tyX9, fun _ _ _ h => by cases h; exact tyX9_ok, fun _ _ _ h => by cases h; exact nmX9, fun _ _ _ h => by cases h; rfl, fun _ _ _ h => by cases h; decide +kernel⟩
theorem nw8_X9_25 : nw8 RX9 25 1 2 := ⟨RX1, TX1, rfl, (w9 126 (by decide +kernel) rfl), (w9 127 (by decide +kernel) rfl), (w9 37 (by decide +kernel) rfl), incX1, rfl, tyX1, tyX1_ok, by decide +kernel⟩
theorem n8_X9_27 : lkN8 RX9 27 mX1_init := ⟨by decide +kernel, (w9 129 (by decide +kernel) rfl), (w9 37 (by decide +kernel) rfl), (w9 130 (by decide +kernel) rfl), rfl, ⟨by decide +kernel, by decide +kernel⟩, by decide +kernel, rfl⟩
theorem f8_X9_28_7 : fd9 RX9 28 7 3 2 := ⟨RX9, TX9, 10, "RewritingTermination", rfl, by decide, (w9 297 (by decide +kernel) rfl), incX9, fun _ _ _ _ h => h, rfl, rfl⟩
theorem r8_X9_28_7 : fr8 RX9 28 7 3 true := ⟨f8_X9_28_7, tyX9, fun _ _ _ h => by cases h; exact tyX9_ok, fun _ _ _ h => by cases h; exact nmX9, fun _ _ _ h => by cases h; exact ⟨rfl, fun q => by rfl⟩, (.object "RewritingTermination$Input"), fun _ _ _ h => by cases h; decide +kernel, fun a => ⟨rfl, rfl⟩⟩
theorem nw8_X9_32 : nw8 RX9 32 4 3 := ⟨RX4, TX4, rfl, (w9 141 (by decide +kernel) rfl), (w9 142 (by decide +kernel) rfl), (w9 38 (by decide +kernel) rfl), incX4, rfl, tyX4, tyX4_ok, by decide +kernel⟩
theorem n8_X9_34 : lkN8 RX9 34 mX4_init := ⟨by decide +kernel, (w9 144 (by decide +kernel) rfl), (w9 38 (by decide +kernel) rfl), (w9 145 (by decide +kernel) rfl), rfl, ⟨by decide +kernel, by decide +kernel⟩, by decide +kernel, rfl⟩
theorem f8_X9_35_7 : fd9 RX9 35 7 4 2 := ⟨RX9, TX9, 10, "RewritingTermination", rfl, by decide, (w9 298 (by decide +kernel) rfl), incX9, fun _ _ _ _ h => h, rfl, rfl⟩
theorem r8_X9_35_7 : fr8 RX9 35 7 4 true := ⟨f8_X9_35_7, tyX9, fun _ _ _ h => by cases h; exact tyX9_ok, fun _ _ _ h => by cases h; exact nmX9, fun _ _ _ h => by cases h; exact ⟨rfl, fun q => by rfl⟩, (.object "RewritingTermination$Loop"), fun _ _ _ h => by cases h; decide +kernel, fun a => ⟨rfl, rfl⟩⟩
theorem nw8_X9_39 : nw8 RX9 39 0 10 := ⟨RX0, TX0, rfl, (w9 163 (by decide +kernel) rfl), (w9 164 (by decide +kernel) rfl), (w9 39 (by decide +kernel) rfl), incX0, rfl, tyX0, tyX0_ok, by decide +kernel⟩
theorem n8_X9_41 : lkN8 RX9 41 mX0_init := ⟨by decide +kernel, (w9 166 (by decide +kernel) rfl), (w9 39 (by decide +kernel) rfl), (w9 167 (by decide +kernel) rfl), rfl, ⟨by decide +kernel, by decide +kernel⟩, by decide +kernel, rfl⟩
theorem f8_X9_42_7 : fd9 RX9 42 7 5 2 := ⟨RX9, TX9, 10, "RewritingTermination", rfl, by decide, (w9 299 (by decide +kernel) rfl), incX9, fun _ _ _ _ h => h, rfl, rfl⟩
theorem r8_X9_42_7 : fr8 RX9 42 7 5 true := ⟨f8_X9_42_7, tyX9, fun _ _ _ h => by cases h; exact tyX9_ok, fun _ _ _ h => by cases h; exact nmX9, fun _ _ _ h => by cases h; exact ⟨rfl, fun q => by rfl⟩, (.object "RewritingTermination$Found"), fun _ _ _ h => by cases h; decide +kernel, fun a => ⟨rfl, rfl⟩⟩
theorem nw8_X9_46 : nw8 RX9 46 3 8 := ⟨RX3, TX3, rfl, (w9 200 (by decide +kernel) rfl), (w9 201 (by decide +kernel) rfl), (w9 41 (by decide +kernel) rfl), incX3, rfl, tyX3, tyX3_ok, by decide +kernel⟩
theorem n8_X9_48 : lkN8 RX9 48 mX3_init := ⟨by decide +kernel, (w9 203 (by decide +kernel) rfl), (w9 41 (by decide +kernel) rfl), (w9 204 (by decide +kernel) rfl), rfl, ⟨by decide +kernel, by decide +kernel⟩, by decide +kernel, rfl⟩
theorem f8_X9_49_7 : fd9 RX9 49 7 6 2 := ⟨RX9, TX9, 10, "RewritingTermination", rfl, by decide, (w9 300 (by decide +kernel) rfl), incX9, fun _ _ _ _ h => h, rfl, rfl⟩
theorem r8_X9_49_7 : fr8 RX9 49 7 6 true := ⟨f8_X9_49_7, tyX9, fun _ _ _ h => by cases h; exact tyX9_ok, fun _ _ _ h => by cases h; exact nmX9, fun _ _ _ h => by cases h; exact ⟨rfl, fun q => by rfl⟩, (.object "RewritingTermination$LinearSearch"), fun _ _ _ h => by cases h; decide +kernel, fun a => ⟨rfl, rfl⟩⟩
theorem nw8_X9_53 : nw8 RX9 53 2 7 := ⟨RX2, TX2, rfl, (w9 241 (by decide +kernel) rfl), (w9 242 (by decide +kernel) rfl), (w9 42 (by decide +kernel) rfl), incX2, rfl, tyX2, tyX2_ok, by decide +kernel⟩
theorem n8_X9_55 : lkN8 RX9 55 mX2_init := ⟨by decide +kernel, (w9 244 (by decide +kernel) rfl), (w9 42 (by decide +kernel) rfl), (w9 245 (by decide +kernel) rfl), rfl, ⟨by decide +kernel, by decide +kernel⟩, by decide +kernel, rfl⟩
theorem f8_X9_56_7 : fd9 RX9 56 7 7 2 := ⟨RX9, TX9, 10, "RewritingTermination", rfl, by decide, (w9 301 (by decide +kernel) rfl), incX9, fun _ _ _ _ h => h, rfl, rfl⟩
theorem r8_X9_56_7 : fr8 RX9 56 7 7 true := ⟨f8_X9_56_7, tyX9, fun _ _ _ h => by cases h; exact tyX9_ok, fun _ _ _ h => by cases h; exact nmX9, fun _ _ _ h => by cases h; exact ⟨rfl, fun q => by rfl⟩, (.object "RewritingTermination$LevelSearch"), fun _ _ _ h => by cases h; decide +kernel, fun a => ⟨rfl, rfl⟩⟩
theorem f8_X9_60_7 : fd9 RX9 60 7 8 2 := ⟨RX9, TX9, 10, "RewritingTermination", rfl, by decide, (w9 302 (by decide +kernel) rfl), incX9, fun _ _ _ _ h => h, rfl, rfl⟩
theorem r8_X9_60_7 : fr8 RX9 60 7 8 true := ⟨f8_X9_60_7, tyX9, fun _ _ _ h => by cases h; exact tyX9_ok, fun _ _ _ h => by cases h; exact nmX9, fun _ _ _ h => by cases h; exact ⟨rfl, fun q => by rfl⟩, (.array .int), fun _ _ _ h => by cases h; decide +kernel, fun a => ⟨rfl, rfl⟩⟩
theorem f8_X9_66_7 : fd9 RX9 66 7 9 2 := ⟨RX9, TX9, 10, "RewritingTermination", rfl, by decide, (w9 303 (by decide +kernel) rfl), incX9, fun _ _ _ _ h => h, rfl, rfl⟩
theorem r8_X9_66_7 : fr8 RX9 66 7 9 true := ⟨f8_X9_66_7, tyX9, fun _ _ _ h => by cases h; exact tyX9_ok, fun _ _ _ h => by cases h; exact nmX9, fun _ _ _ h => by cases h; exact ⟨rfl, fun q => by rfl⟩, (.array (.object "RewritingTermination$Slot")), fun _ _ _ h => by cases h; decide +kernel, fun a => ⟨rfl, rfl⟩⟩
theorem nw8_X9_64 : nw8 RX9 64 6 5 := ⟨RX7, TX7, rfl, (w9 267 (by decide +kernel) rfl), (w9 269 (by decide +kernel) rfl), (w9 43 (by decide +kernel) rfl), incX7, rfl, tyX7, tyX7_ok, by decide +kernel⟩
theorem n8_X9_70 : lkN8 RX9 70 mX7_init := ⟨by decide +kernel, (w9 271 (by decide +kernel) rfl), (w9 43 (by decide +kernel) rfl), (w9 272 (by decide +kernel) rfl), rfl, ⟨by decide +kernel, by decide +kernel⟩, by decide +kernel, rfl⟩
def sg_X9_init_0 (σ : S9) : S9 := (sg_X7_init_93 (sg_X7_init_89 (sg_X7_init_85 (sg_X7_init_81 (sg_X2_init_75 (sg_X3_init_45 (sg_X0_init_36 (sg_X4_init_33 (sg_X1_init_31 (sI (sg_X5_init_16 (sg_X5_init_1 σ)) 0 2 0))))))))))
def nu_X9_init_0 (ν : List (Nat × Nat)) : List (Nat × Nat) := ((80, 3) :: (nu_X7_init_93 ((80, 2) :: (nu_X7_init_89 ((80, 1) :: (nu_X7_init_85 ((80, 0) :: (nu_X7_init_81 ((0, 9) :: ((0, 8) :: ((0, 7) :: (nu_X2_init_75 ((0, 6) :: (nu_X3_init_45 ((0, 5) :: (nu_X0_init_36 ((0, 4) :: (nu_X4_init_33 ((0, 3) :: (nu_X1_init_31 ((0, 1) :: (nu_X5_init_16 ((0, 0) :: (nu_X5_init_1 ν))))))))))))))))))))))))
set_option maxRecDepth 100000 in
theorem i_X9_init_0 (σ : S9) (ν : List (Nat × Nat)) : C8 3 3403 mX9_init [.ref 0] 1 σ ν 97 (sg_X9_init_0 σ) (nu_X9_init_0 ν) := by
  refine C8_of (ini := true) (lv := [.ref 0, .null]) (by decide +kernel) (fun q => by rfl) rfl (fun _ => Nat.le_of_ble_eq_true rfl) rfl (by decide) ?_
  intro γ h p l e s m args below meth c C
  refine k_aload_n C dX9_init_0 rfl ?_
  refine k_objInit C dX9_init_1 (w9 57 (by decide +kernel) rfl) w8_o2 w8_o3 (Nat.le_of_ble_eq_true rfl) (Nat.le_of_ble_eq_true rfl) rfl ?_
  refine k_aload_n C dX9_init_4 rfl ?_
  refine k_new (sl' := 10) C dX9_init_5 nw8_X9_11 s_1 (by decide) (Nat.le_of_ble_eq_true rfl) rfl (Nat.le_of_ble_eq_true rfl) ?_
  refine k_n (n' := 2) rfl ?_
  refine k_dup C dX9_init_8 rfl ?_
  refine k_callI (sl' := 122) C dX9_init_9 l8_X9_13 (Nat.le_of_ble_eq_true rfl) (i_X5_init_1 _ _) (by decide) ⟨(Nat.le_of_ble_eq_true rfl), (Nat.le_of_ble_eq_true rfl)⟩ (Nat.le_of_ble_eq_true rfl) rfl (Nat.le_of_ble_eq_true rfl) ?_
  refine k_putRF C rfl dX9_init_12 s_0 (by decide) r8_X9_14_7 rfl ?_
  refine k_aload_n C dX9_init_15 rfl ?_
  refine k_new (sl' := 132) C dX9_init_16 nw8_X9_11 s_16 (by decide) (Nat.le_of_ble_eq_true rfl) rfl (Nat.le_of_ble_eq_true rfl) ?_
  refine k_n (n' := 17) rfl ?_
  refine k_dup C dX9_init_19 rfl ?_
  refine k_callI (sl' := 244) C dX9_init_20 l8_X9_13 (Nat.le_of_ble_eq_true rfl) (i_X5_init_16 _ _) (by decide) ⟨(Nat.le_of_ble_eq_true rfl), (Nat.le_of_ble_eq_true rfl)⟩ (Nat.le_of_ble_eq_true rfl) rfl (Nat.le_of_ble_eq_true rfl) ?_
  refine k_putRF C rfl dX9_init_23 s_0 (by decide) r8_X9_18_7 rfl ?_
  refine k_aload_n C dX9_init_26 rfl ?_
  refine k_iconst C dX9_init_27 ?_
  refine k_putZ C dX9_init_28 s_0 (by decide) p8_X9_21_7 rfl (by decide) ?_
  refine k_aload_n C dX9_init_31 rfl ?_
  refine k_new (sl' := 246) C dX9_init_32 nw8_X9_25 s_31 (by decide) (Nat.le_of_ble_eq_true rfl) rfl (Nat.le_of_ble_eq_true rfl) ?_
  refine k_n (n' := 32) rfl ?_
  refine k_dup C dX9_init_35 rfl ?_
  refine k_callN (sl' := 286) C dX9_init_36 n8_X9_27 (Nat.le_of_ble_eq_true rfl) (i_X1_init_31 _ _) (by decide) ⟨(Nat.le_of_ble_eq_true rfl), (Nat.le_of_ble_eq_true rfl)⟩ (Nat.le_of_ble_eq_true rfl) rfl (Nat.le_of_ble_eq_true rfl) ?_
  refine k_putRF C rfl dX9_init_39 s_0 (by decide) r8_X9_28_7 rfl ?_
  refine k_aload_n C dX9_init_42 rfl ?_
  refine k_new (sl' := 289) C dX9_init_43 nw8_X9_32 s_33 (by decide) (Nat.le_of_ble_eq_true rfl) rfl (Nat.le_of_ble_eq_true rfl) ?_
  refine k_n (n' := 34) rfl ?_
  refine k_dup C dX9_init_46 rfl ?_
  refine k_callN (sl' := 689) C dX9_init_47 n8_X9_34 (Nat.le_of_ble_eq_true rfl) (i_X4_init_33 _ _) (by decide) ⟨(Nat.le_of_ble_eq_true rfl), (Nat.le_of_ble_eq_true rfl)⟩ (Nat.le_of_ble_eq_true rfl) rfl (Nat.le_of_ble_eq_true rfl) ?_
  refine k_putRF C rfl dX9_init_50 s_0 (by decide) r8_X9_35_7 rfl ?_
  refine k_aload_n C dX9_init_53 rfl ?_
  refine k_new (sl' := 699) C dX9_init_54 nw8_X9_39 s_36 (by decide) (Nat.le_of_ble_eq_true rfl) rfl (Nat.le_of_ble_eq_true rfl) ?_
  refine k_n (n' := 37) rfl ?_
  refine k_dup C dX9_init_57 rfl ?_
  refine k_callN (sl' := 2611) C dX9_init_58 n8_X9_41 (Nat.le_of_ble_eq_true rfl) (i_X0_init_36 _ _) (by decide) ⟨(Nat.le_of_ble_eq_true rfl), (Nat.le_of_ble_eq_true rfl)⟩ (Nat.le_of_ble_eq_true rfl) rfl (Nat.le_of_ble_eq_true rfl) ?_
  refine k_putRF C rfl dX9_init_61 s_0 (by decide) r8_X9_42_7 rfl ?_
  refine k_aload_n C dX9_init_64 rfl ?_
  refine k_new (sl' := 2619) C dX9_init_65 nw8_X9_46 s_45 (by decide) (Nat.le_of_ble_eq_true rfl) rfl (Nat.le_of_ble_eq_true rfl) ?_
  refine k_n (n' := 46) rfl ?_
  refine k_dup C dX9_init_68 rfl ?_
  refine k_callN (sl' := 2860) C dX9_init_69 n8_X9_48 (Nat.le_of_ble_eq_true rfl) (i_X3_init_45 _ _) (by decide) ⟨(Nat.le_of_ble_eq_true rfl), (Nat.le_of_ble_eq_true rfl)⟩ (Nat.le_of_ble_eq_true rfl) rfl (Nat.le_of_ble_eq_true rfl) ?_
  refine k_putRF C rfl dX9_init_72 s_0 (by decide) r8_X9_49_7 rfl ?_
  refine k_aload_n C dX9_init_75 rfl ?_
  refine k_new (sl' := 2867) C dX9_init_76 nw8_X9_53 s_75 (by decide) (Nat.le_of_ble_eq_true rfl) rfl (Nat.le_of_ble_eq_true rfl) ?_
  refine k_n (n' := 76) rfl ?_
  refine k_dup C dX9_init_79 rfl ?_
  refine k_callN (sl' := 2891) C dX9_init_80 n8_X9_55 (Nat.le_of_ble_eq_true rfl) (i_X2_init_75 _ _) (by decide) ⟨(Nat.le_of_ble_eq_true rfl), (Nat.le_of_ble_eq_true rfl)⟩ (Nat.le_of_ble_eq_true rfl) rfl (Nat.le_of_ble_eq_true rfl) ?_
  refine k_putRF C rfl dX9_init_83 s_0 (by decide) r8_X9_56_7 rfl ?_
  refine k_aload_n C dX9_init_86 rfl ?_
  refine k_bipush C dX9_init_87 (by decide) ?_
  refine k_newaI (N := 8) (sl' := 2899) C dX9_init_89 rfl (by decide) s_79 (by decide) (Nat.le_of_ble_eq_true rfl) rfl (Nat.le_of_ble_eq_true rfl) ?_
  refine k_n (n' := 80) rfl ?_
  refine k_putRF C rfl dX9_init_91 s_0 (by decide) r8_X9_60_7 rfl ?_
  refine k_aload_n C dX9_init_94 rfl ?_
  refine k_iconst C dX9_init_95 ?_
  refine k_anew (N := 4) (sl' := 2903) C dX9_init_96 (w9 267 (by decide +kernel) rfl) rfl (by decide) s_80 (by decide) (Nat.le_of_ble_eq_true rfl) rfl (Nat.le_of_ble_eq_true rfl) ?_
  refine k_n (n' := 81) rfl ?_
  refine k_putRF C rfl dX9_init_99 s_0 (by decide) r8_X9_66_7 rfl ?_
  refine k_iconst C dX9_init_102 ?_
  refine k_istore_n C dX9_init_103 (by decide) rfl (lv' := [.ref 0, .int (iI 0)]) rfl ?_
  refine k_iload_n C dX9_init_104 rfl ?_
  refine k_iconst C dX9_init_105 ?_
  refine k_geF (tgt := 128) C dX9_init_106 (by decide) ⟨⟨by decide, by decide⟩, ⟨by decide, by decide⟩⟩ (by decide) ?_
  refine k_aload_n C dX9_init_109 rfl ?_
  refine k_getR C dX9_init_110 s_0 (by decide) f8_X9_66_7 rfl rfl ?_
  refine k_iload_n C dX9_init_113 rfl ?_
  refine k_new (sl' := 2908) C dX9_init_114 nw8_X9_64 s_81 (by decide) (Nat.le_of_ble_eq_true rfl) rfl (Nat.le_of_ble_eq_true rfl) ?_
  refine k_n (n' := 82) rfl ?_
  refine k_dup C dX9_init_117 rfl ?_
  refine k_callN (sl' := 3028) C dX9_init_118 n8_X9_70 (Nat.le_of_ble_eq_true rfl) (i_X7_init_81 _ _) (by decide) ⟨(Nat.le_of_ble_eq_true rfl), (Nat.le_of_ble_eq_true rfl)⟩ (Nat.le_of_ble_eq_true rfl) rfl (Nat.le_of_ble_eq_true rfl) ?_
  refine k_aastore (zn := 0) C dX9_init_121 s_80 (by decide) s_81 (by decide) (by decide) rfl rfl ?_
  refine k_iinc C dX9_init_122 rfl (by decide) rfl (lv' := [.ref 0, .int (iI 1)]) rfl ?_
  refine k_goto (tgt := 104) C dX9_init_125 (by decide) ?_
  refine k_iload_n C dX9_init_104 rfl ?_
  refine k_iconst C dX9_init_105 ?_
  refine k_geF (tgt := 128) C dX9_init_106 (by decide) ⟨⟨by decide, by decide⟩, ⟨by decide, by decide⟩⟩ (by decide) ?_
  refine k_aload_n C dX9_init_109 rfl ?_
  refine k_getR C dX9_init_110 s_0 (by decide) f8_X9_66_7 rfl rfl ?_
  refine k_iload_n C dX9_init_113 rfl ?_
  refine k_new (sl' := 3033) C dX9_init_114 nw8_X9_64 s_85 (by decide) (Nat.le_of_ble_eq_true rfl) rfl (Nat.le_of_ble_eq_true rfl) ?_
  refine k_n (n' := 86) rfl ?_
  refine k_dup C dX9_init_117 rfl ?_
  refine k_callN (sl' := 3153) C dX9_init_118 n8_X9_70 (Nat.le_of_ble_eq_true rfl) (i_X7_init_85 _ _) (by decide) ⟨(Nat.le_of_ble_eq_true rfl), (Nat.le_of_ble_eq_true rfl)⟩ (Nat.le_of_ble_eq_true rfl) rfl (Nat.le_of_ble_eq_true rfl) ?_
  refine k_aastore (zn := 1) C dX9_init_121 s_80 (by decide) s_85 (by decide) (by decide) rfl rfl ?_
  refine k_iinc C dX9_init_122 rfl (by decide) rfl (lv' := [.ref 0, .int (iI 2)]) rfl ?_
  refine k_goto (tgt := 104) C dX9_init_125 (by decide) ?_
  refine k_iload_n C dX9_init_104 rfl ?_
  refine k_iconst C dX9_init_105 ?_
  refine k_geF (tgt := 128) C dX9_init_106 (by decide) ⟨⟨by decide, by decide⟩, ⟨by decide, by decide⟩⟩ (by decide) ?_
  refine k_aload_n C dX9_init_109 rfl ?_
  refine k_getR C dX9_init_110 s_0 (by decide) f8_X9_66_7 rfl rfl ?_
  refine k_iload_n C dX9_init_113 rfl ?_
  refine k_new (sl' := 3158) C dX9_init_114 nw8_X9_64 s_89 (by decide) (Nat.le_of_ble_eq_true rfl) rfl (Nat.le_of_ble_eq_true rfl) ?_
  refine k_n (n' := 90) rfl ?_
  refine k_dup C dX9_init_117 rfl ?_
  refine k_callN (sl' := 3278) C dX9_init_118 n8_X9_70 (Nat.le_of_ble_eq_true rfl) (i_X7_init_89 _ _) (by decide) ⟨(Nat.le_of_ble_eq_true rfl), (Nat.le_of_ble_eq_true rfl)⟩ (Nat.le_of_ble_eq_true rfl) rfl (Nat.le_of_ble_eq_true rfl) ?_
  refine k_aastore (zn := 2) C dX9_init_121 s_80 (by decide) s_89 (by decide) (by decide) rfl rfl ?_
  refine k_iinc C dX9_init_122 rfl (by decide) rfl (lv' := [.ref 0, .int (iI 3)]) rfl ?_
  refine k_goto (tgt := 104) C dX9_init_125 (by decide) ?_
  refine k_iload_n C dX9_init_104 rfl ?_
  refine k_iconst C dX9_init_105 ?_
  refine k_geF (tgt := 128) C dX9_init_106 (by decide) ⟨⟨by decide, by decide⟩, ⟨by decide, by decide⟩⟩ (by decide) ?_
  refine k_aload_n C dX9_init_109 rfl ?_
  refine k_getR C dX9_init_110 s_0 (by decide) f8_X9_66_7 rfl rfl ?_
  refine k_iload_n C dX9_init_113 rfl ?_
  refine k_new (sl' := 3283) C dX9_init_114 nw8_X9_64 s_93 (by decide) (Nat.le_of_ble_eq_true rfl) rfl (Nat.le_of_ble_eq_true rfl) ?_
  refine k_n (n' := 94) rfl ?_
  refine k_dup C dX9_init_117 rfl ?_
  refine k_callN (sl' := 3403) C dX9_init_118 n8_X9_70 (Nat.le_of_ble_eq_true rfl) (i_X7_init_93 _ _) (by decide) ⟨(Nat.le_of_ble_eq_true rfl), (Nat.le_of_ble_eq_true rfl)⟩ (Nat.le_of_ble_eq_true rfl) rfl (Nat.le_of_ble_eq_true rfl) ?_
  refine k_aastore (zn := 3) C dX9_init_121 s_80 (by decide) s_93 (by decide) (by decide) rfl rfl ?_
  refine k_iinc C dX9_init_122 rfl (by decide) rfl (lv' := [.ref 0, .int (iI 4)]) rfl ?_
  refine k_goto (tgt := 104) C dX9_init_125 (by decide) ?_
  refine k_iload_n C dX9_init_104 rfl ?_
  refine k_iconst C dX9_init_105 ?_
  refine k_geT (tgt := 128) C dX9_init_106 (by decide) ⟨⟨by decide, by decide⟩, ⟨by decide, by decide⟩⟩ (by decide) ?_
  exact k_return C dX9_init_128 rfl
theorem f8_X10_9_8 : fd9 RX10 9 8 0 0 := ⟨RX10, TX10, 44, "RewritingTerminationModel", rfl, by decide, (w9 838 (by decide +kernel) rfl), incX10, fun _ _ _ _ h => h, rfl, rfl⟩
theorem p8_X10_9_8 : fp9 RX10 9 8 0 0 .int := ⟨f8_X10_9_8, tyX10, fun _ _ _ h => by cases h; exact tyX10_ok, fun _ _ _ h => by cases h; exact nmX10, fun _ _ _ h => by cases h; rfl, fun _ _ _ h => by cases h; decide +kernel⟩
theorem f8_X10_15_8 : fd9 RX10 15 8 2 2 := ⟨RX10, TX10, 44, "RewritingTerminationModel", rfl, by decide, (w9 840 (by decide +kernel) rfl), incX10, fun _ _ _ _ h => h, rfl, rfl⟩
theorem r8_X10_15_8 : fr8 RX10 15 8 2 true := ⟨f8_X10_15_8, tyX10, fun _ _ _ h => by cases h; exact tyX10_ok, fun _ _ _ h => by cases h; exact nmX10, fun _ _ _ h => by cases h; exact ⟨rfl, fun q => by rfl⟩, (.array .int), fun _ _ _ h => by cases h; decide +kernel, fun a => ⟨rfl, rfl⟩⟩
theorem f8_X10_19_8 : fd9 RX10 19 8 3 2 := ⟨RX10, TX10, 44, "RewritingTerminationModel", rfl, by decide, (w9 841 (by decide +kernel) rfl), incX10, fun _ _ _ _ h => h, rfl, rfl⟩
theorem r8_X10_19_8 : fr8 RX10 19 8 3 true := ⟨f8_X10_19_8, tyX10, fun _ _ _ h => by cases h; exact tyX10_ok, fun _ _ _ h => by cases h; exact nmX10, fun _ _ _ h => by cases h; exact ⟨rfl, fun q => by rfl⟩, (.array .int), fun _ _ _ h => by cases h; decide +kernel, fun a => ⟨rfl, rfl⟩⟩
theorem f8_X10_22_8 : fd9 RX10 22 8 4 2 := ⟨RX10, TX10, 44, "RewritingTerminationModel", rfl, by decide, (w9 842 (by decide +kernel) rfl), incX10, fun _ _ _ _ h => h, rfl, rfl⟩
theorem r8_X10_22_8 : fr8 RX10 22 8 4 true := ⟨f8_X10_22_8, tyX10, fun _ _ _ h => by cases h; exact tyX10_ok, fun _ _ _ h => by cases h; exact nmX10, fun _ _ _ h => by cases h; exact ⟨rfl, fun q => by rfl⟩, (.array .int), fun _ _ _ h => by cases h; decide +kernel, fun a => ⟨rfl, rfl⟩⟩
theorem f8_X10_25_8 : fd9 RX10 25 8 5 2 := ⟨RX10, TX10, 44, "RewritingTerminationModel", rfl, by decide, (w9 843 (by decide +kernel) rfl), incX10, fun _ _ _ _ h => h, rfl, rfl⟩
theorem r8_X10_25_8 : fr8 RX10 25 8 5 true := ⟨f8_X10_25_8, tyX10, fun _ _ _ h => by cases h; exact tyX10_ok, fun _ _ _ h => by cases h; exact nmX10, fun _ _ _ h => by cases h; exact ⟨rfl, fun q => by rfl⟩, (.array .int), fun _ _ _ h => by cases h; decide +kernel, fun a => ⟨rfl, rfl⟩⟩
theorem f8_X10_28_8 : fd9 RX10 28 8 7 2 := ⟨RX10, TX10, 44, "RewritingTerminationModel", rfl, by decide, (w9 845 (by decide +kernel) rfl), incX10, fun _ _ _ _ h => h, rfl, rfl⟩
theorem r8_X10_28_8 : fr8 RX10 28 8 7 true := ⟨f8_X10_28_8, tyX10, fun _ _ _ h => by cases h; exact tyX10_ok, fun _ _ _ h => by cases h; exact nmX10, fun _ _ _ h => by cases h; exact ⟨rfl, fun q => by rfl⟩, (.array .float), fun _ _ _ h => by cases h; decide +kernel, fun a => ⟨rfl, rfl⟩⟩
theorem f8_X10_32_8 : fd9 RX10 32 8 8 2 := ⟨RX10, TX10, 44, "RewritingTerminationModel", rfl, by decide, (w9 846 (by decide +kernel) rfl), incX10, fun _ _ _ _ h => h, rfl, rfl⟩
theorem r8_X10_32_8 : fr8 RX10 32 8 8 true := ⟨f8_X10_32_8, tyX10, fun _ _ _ h => by cases h; exact tyX10_ok, fun _ _ _ h => by cases h; exact nmX10, fun _ _ _ h => by cases h; exact ⟨rfl, fun q => by rfl⟩, (.array .int), fun _ _ _ h => by cases h; decide +kernel, fun a => ⟨rfl, rfl⟩⟩
theorem f8_X10_35_8 : fd9 RX10 35 8 10 2 := ⟨RX10, TX10, 44, "RewritingTerminationModel", rfl, by decide, (w9 848 (by decide +kernel) rfl), incX10, fun _ _ _ _ h => h, rfl, rfl⟩
theorem r8_X10_35_8 : fr8 RX10 35 8 10 true := ⟨f8_X10_35_8, tyX10, fun _ _ _ h => by cases h; exact tyX10_ok, fun _ _ _ h => by cases h; exact nmX10, fun _ _ _ h => by cases h; exact ⟨rfl, fun q => by rfl⟩, (.array .int), fun _ _ _ h => by cases h; decide +kernel, fun a => ⟨rfl, rfl⟩⟩
theorem f8_X10_38_8 : fd9 RX10 38 8 13 2 := ⟨RX10, TX10, 44, "RewritingTerminationModel", rfl, by decide, (w9 851 (by decide +kernel) rfl), incX10, fun _ _ _ _ h => h, rfl, rfl⟩
theorem r8_X10_38_8 : fr8 RX10 38 8 13 true := ⟨f8_X10_38_8, tyX10, fun _ _ _ h => by cases h; exact tyX10_ok, fun _ _ _ h => by cases h; exact nmX10, fun _ _ _ h => by cases h; exact ⟨rfl, fun q => by rfl⟩, (.array .int), fun _ _ _ h => by cases h; decide +kernel, fun a => ⟨rfl, rfl⟩⟩
theorem f8_X10_41_8 : fd9 RX10 41 8 14 2 := ⟨RX10, TX10, 44, "RewritingTerminationModel", rfl, by decide, (w9 852 (by decide +kernel) rfl), incX10, fun _ _ _ _ h => h, rfl, rfl⟩
theorem r8_X10_41_8 : fr8 RX10 41 8 14 true := ⟨f8_X10_41_8, tyX10, fun _ _ _ h => by cases h; exact tyX10_ok, fun _ _ _ h => by cases h; exact nmX10, fun _ _ _ h => by cases h; exact ⟨rfl, fun q => by rfl⟩, (.array .int), fun _ _ _ h => by cases h; decide +kernel, fun a => ⟨rfl, rfl⟩⟩
theorem f8_X10_44_8 : fd9 RX10 44 8 15 2 := ⟨RX10, TX10, 44, "RewritingTerminationModel", rfl, by decide, (w9 853 (by decide +kernel) rfl), incX10, fun _ _ _ _ h => h, rfl, rfl⟩
theorem r8_X10_44_8 : fr8 RX10 44 8 15 true := ⟨f8_X10_44_8, tyX10, fun _ _ _ h => by cases h; exact tyX10_ok, fun _ _ _ h => by cases h; exact nmX10, fun _ _ _ h => by cases h; exact ⟨rfl, fun q => by rfl⟩, (.array .int), fun _ _ _ h => by cases h; decide +kernel, fun a => ⟨rfl, rfl⟩⟩
theorem f8_X10_47_8 : fd9 RX10 47 8 16 2 := ⟨RX10, TX10, 44, "RewritingTerminationModel", rfl, by decide, (w9 854 (by decide +kernel) rfl), incX10, fun _ _ _ _ h => h, rfl, rfl⟩
theorem r8_X10_47_8 : fr8 RX10 47 8 16 true := ⟨f8_X10_47_8, tyX10, fun _ _ _ h => by cases h; exact tyX10_ok, fun _ _ _ h => by cases h; exact nmX10, fun _ _ _ h => by cases h; exact ⟨rfl, fun q => by rfl⟩, (.array .int), fun _ _ _ h => by cases h; decide +kernel, fun a => ⟨rfl, rfl⟩⟩
theorem f8_X10_50_8 : fd9 RX10 50 8 17 2 := ⟨RX10, TX10, 44, "RewritingTerminationModel", rfl, by decide, (w9 855 (by decide +kernel) rfl), incX10, fun _ _ _ _ h => h, rfl, rfl⟩
theorem r8_X10_50_8 : fr8 RX10 50 8 17 true := ⟨f8_X10_50_8, tyX10, fun _ _ _ h => by cases h; exact tyX10_ok, fun _ _ _ h => by cases h; exact nmX10, fun _ _ _ h => by cases h; exact ⟨rfl, fun q => by rfl⟩, (.array .long), fun _ _ _ h => by cases h; decide +kernel, fun a => ⟨rfl, rfl⟩⟩
theorem f8_X10_54_8 : fd9 RX10 54 8 18 2 := ⟨RX10, TX10, 44, "RewritingTerminationModel", rfl, by decide, (w9 856 (by decide +kernel) rfl), incX10, fun _ _ _ _ h => h, rfl, rfl⟩
theorem r8_X10_54_8 : fr8 RX10 54 8 18 true := ⟨f8_X10_54_8, tyX10, fun _ _ _ h => by cases h; exact tyX10_ok, fun _ _ _ h => by cases h; exact nmX10, fun _ _ _ h => by cases h; exact ⟨rfl, fun q => by rfl⟩, (.array .float), fun _ _ _ h => by cases h; decide +kernel, fun a => ⟨rfl, rfl⟩⟩
theorem f8_X10_57_8 : fd9 RX10 57 8 19 2 := ⟨RX10, TX10, 44, "RewritingTerminationModel", rfl, by decide, (w9 857 (by decide +kernel) rfl), incX10, fun _ _ _ _ h => h, rfl, rfl⟩
theorem r8_X10_57_8 : fr8 RX10 57 8 19 true := ⟨f8_X10_57_8, tyX10, fun _ _ _ h => by cases h; exact tyX10_ok, fun _ _ _ h => by cases h; exact nmX10, fun _ _ _ h => by cases h; exact ⟨rfl, fun q => by rfl⟩, (.array .double), fun _ _ _ h => by cases h; decide +kernel, fun a => ⟨rfl, rfl⟩⟩
theorem f8_X10_61_8 : fd9 RX10 61 8 23 2 := ⟨RX10, TX10, 44, "RewritingTerminationModel", rfl, by decide, (w9 861 (by decide +kernel) rfl), incX10, fun _ _ _ _ h => h, rfl, rfl⟩
theorem r8_X10_61_8 : fr8 RX10 61 8 23 true := ⟨f8_X10_61_8, tyX10, fun _ _ _ h => by cases h; exact tyX10_ok, fun _ _ _ h => by cases h; exact nmX10, fun _ _ _ h => by cases h; exact ⟨rfl, fun q => by rfl⟩, (.array .int), fun _ _ _ h => by cases h; decide +kernel, fun a => ⟨rfl, rfl⟩⟩
theorem f8_X10_64_8 : fd9 RX10 64 8 24 2 := ⟨RX10, TX10, 44, "RewritingTerminationModel", rfl, by decide, (w9 862 (by decide +kernel) rfl), incX10, fun _ _ _ _ h => h, rfl, rfl⟩
theorem r8_X10_64_8 : fr8 RX10 64 8 24 true := ⟨f8_X10_64_8, tyX10, fun _ _ _ h => by cases h; exact tyX10_ok, fun _ _ _ h => by cases h; exact nmX10, fun _ _ _ h => by cases h; exact ⟨rfl, fun q => by rfl⟩, (.array .int), fun _ _ _ h => by cases h; decide +kernel, fun a => ⟨rfl, rfl⟩⟩
theorem f8_X10_67_8 : fd9 RX10 67 8 25 2 := ⟨RX10, TX10, 44, "RewritingTerminationModel", rfl, by decide, (w9 863 (by decide +kernel) rfl), incX10, fun _ _ _ _ h => h, rfl, rfl⟩
theorem r8_X10_67_8 : fr8 RX10 67 8 25 true := ⟨f8_X10_67_8, tyX10, fun _ _ _ h => by cases h; exact tyX10_ok, fun _ _ _ h => by cases h; exact nmX10, fun _ _ _ h => by cases h; exact ⟨rfl, fun q => by rfl⟩, (.array .int), fun _ _ _ h => by cases h; decide +kernel, fun a => ⟨rfl, rfl⟩⟩
theorem f8_X10_70_8 : fd9 RX10 70 8 26 2 := ⟨RX10, TX10, 44, "RewritingTerminationModel", rfl, by decide, (w9 864 (by decide +kernel) rfl), incX10, fun _ _ _ _ h => h, rfl, rfl⟩
theorem r8_X10_70_8 : fr8 RX10 70 8 26 true := ⟨f8_X10_70_8, tyX10, fun _ _ _ h => by cases h; exact tyX10_ok, fun _ _ _ h => by cases h; exact nmX10, fun _ _ _ h => by cases h; exact ⟨rfl, fun q => by rfl⟩, (.array .int), fun _ _ _ h => by cases h; decide +kernel, fun a => ⟨rfl, rfl⟩⟩
theorem f8_X10_73_8 : fd9 RX10 73 8 28 2 := ⟨RX10, TX10, 44, "RewritingTerminationModel", rfl, by decide, (w9 866 (by decide +kernel) rfl), incX10, fun _ _ _ _ h => h, rfl, rfl⟩
theorem r8_X10_73_8 : fr8 RX10 73 8 28 true := ⟨f8_X10_73_8, tyX10, fun _ _ _ h => by cases h; exact tyX10_ok, fun _ _ _ h => by cases h; exact nmX10, fun _ _ _ h => by cases h; exact ⟨rfl, fun q => by rfl⟩, (.array .float), fun _ _ _ h => by cases h; decide +kernel, fun a => ⟨rfl, rfl⟩⟩
theorem f8_X10_76_8 : fd9 RX10 76 8 29 2 := ⟨RX10, TX10, 44, "RewritingTerminationModel", rfl, by decide, (w9 867 (by decide +kernel) rfl), incX10, fun _ _ _ _ h => h, rfl, rfl⟩
theorem r8_X10_76_8 : fr8 RX10 76 8 29 true := ⟨f8_X10_76_8, tyX10, fun _ _ _ h => by cases h; exact tyX10_ok, fun _ _ _ h => by cases h; exact nmX10, fun _ _ _ h => by cases h; exact ⟨rfl, fun q => by rfl⟩, (.array .int), fun _ _ _ h => by cases h; decide +kernel, fun a => ⟨rfl, rfl⟩⟩
theorem f8_X10_79_8 : fd9 RX10 79 8 31 2 := ⟨RX10, TX10, 44, "RewritingTerminationModel", rfl, by decide, (w9 869 (by decide +kernel) rfl), incX10, fun _ _ _ _ h => h, rfl, rfl⟩
theorem r8_X10_79_8 : fr8 RX10 79 8 31 true := ⟨f8_X10_79_8, tyX10, fun _ _ _ h => by cases h; exact tyX10_ok, fun _ _ _ h => by cases h; exact nmX10, fun _ _ _ h => by cases h; exact ⟨rfl, fun q => by rfl⟩, (.array .int), fun _ _ _ h => by cases h; decide +kernel, fun a => ⟨rfl, rfl⟩⟩
theorem f8_X10_82_8 : fd9 RX10 82 8 32 2 := ⟨RX10, TX10, 44, "RewritingTerminationModel", rfl, by decide, (w9 870 (by decide +kernel) rfl), incX10, fun _ _ _ _ h => h, rfl, rfl⟩
theorem r8_X10_82_8 : fr8 RX10 82 8 32 true := ⟨f8_X10_82_8, tyX10, fun _ _ _ h => by cases h; exact tyX10_ok, fun _ _ _ h => by cases h; exact nmX10, fun _ _ _ h => by cases h; exact ⟨rfl, fun q => by rfl⟩, (.array .int), fun _ _ _ h => by cases h; decide +kernel, fun a => ⟨rfl, rfl⟩⟩
theorem f8_X10_85_8 : fd9 RX10 85 8 33 2 := ⟨RX10, TX10, 44, "RewritingTerminationModel", rfl, by decide, (w9 871 (by decide +kernel) rfl), incX10, fun _ _ _ _ h => h, rfl, rfl⟩
theorem r8_X10_85_8 : fr8 RX10 85 8 33 true := ⟨f8_X10_85_8, tyX10, fun _ _ _ h => by cases h; exact tyX10_ok, fun _ _ _ h => by cases h; exact nmX10, fun _ _ _ h => by cases h; exact ⟨rfl, fun q => by rfl⟩, (.array .int), fun _ _ _ h => by cases h; decide +kernel, fun a => ⟨rfl, rfl⟩⟩
theorem f8_X10_88_8 : fd9 RX10 88 8 34 2 := ⟨RX10, TX10, 44, "RewritingTerminationModel", rfl, by decide, (w9 872 (by decide +kernel) rfl), incX10, fun _ _ _ _ h => h, rfl, rfl⟩
theorem r8_X10_88_8 : fr8 RX10 88 8 34 true := ⟨f8_X10_88_8, tyX10, fun _ _ _ h => by cases h; exact tyX10_ok, fun _ _ _ h => by cases h; exact nmX10, fun _ _ _ h => by cases h; exact ⟨rfl, fun q => by rfl⟩, (.array .int), fun _ _ _ h => by cases h; decide +kernel, fun a => ⟨rfl, rfl⟩⟩
theorem f8_X10_91_8 : fd9 RX10 91 8 35 2 := ⟨RX10, TX10, 44, "RewritingTerminationModel", rfl, by decide, (w9 873 (by decide +kernel) rfl), incX10, fun _ _ _ _ h => h, rfl, rfl⟩
theorem r8_X10_91_8 : fr8 RX10 91 8 35 true := ⟨f8_X10_91_8, tyX10, fun _ _ _ h => by cases h; exact tyX10_ok, fun _ _ _ h => by cases h; exact nmX10, fun _ _ _ h => by cases h; exact ⟨rfl, fun q => by rfl⟩, (.array .int), fun _ _ _ h => by cases h; decide +kernel, fun a => ⟨rfl, rfl⟩⟩
theorem f8_X10_94_8 : fd9 RX10 94 8 36 2 := ⟨RX10, TX10, 44, "RewritingTerminationModel", rfl, by decide, (w9 874 (by decide +kernel) rfl), incX10, fun _ _ _ _ h => h, rfl, rfl⟩
theorem r8_X10_94_8 : fr8 RX10 94 8 36 true := ⟨f8_X10_94_8, tyX10, fun _ _ _ h => by cases h; exact tyX10_ok, fun _ _ _ h => by cases h; exact nmX10, fun _ _ _ h => by cases h; exact ⟨rfl, fun q => by rfl⟩, (.array .long), fun _ _ _ h => by cases h; decide +kernel, fun a => ⟨rfl, rfl⟩⟩
theorem f8_X10_97_8 : fd9 RX10 97 8 37 2 := ⟨RX10, TX10, 44, "RewritingTerminationModel", rfl, by decide, (w9 875 (by decide +kernel) rfl), incX10, fun _ _ _ _ h => h, rfl, rfl⟩
theorem r8_X10_97_8 : fr8 RX10 97 8 37 true := ⟨f8_X10_97_8, tyX10, fun _ _ _ h => by cases h; exact tyX10_ok, fun _ _ _ h => by cases h; exact nmX10, fun _ _ _ h => by cases h; exact ⟨rfl, fun q => by rfl⟩, (.array .int), fun _ _ _ h => by cases h; decide +kernel, fun a => ⟨rfl, rfl⟩⟩
theorem f8_X10_100_8 : fd9 RX10 100 8 38 2 := ⟨RX10, TX10, 44, "RewritingTerminationModel", rfl, by decide, (w9 876 (by decide +kernel) rfl), incX10, fun _ _ _ _ h => h, rfl, rfl⟩
theorem r8_X10_100_8 : fr8 RX10 100 8 38 true := ⟨f8_X10_100_8, tyX10, fun _ _ _ h => by cases h; exact tyX10_ok, fun _ _ _ h => by cases h; exact nmX10, fun _ _ _ h => by cases h; exact ⟨rfl, fun q => by rfl⟩, (.array .int), fun _ _ _ h => by cases h; decide +kernel, fun a => ⟨rfl, rfl⟩⟩
theorem f8_X10_103_8 : fd9 RX10 103 8 39 2 := ⟨RX10, TX10, 44, "RewritingTerminationModel", rfl, by decide, (w9 877 (by decide +kernel) rfl), incX10, fun _ _ _ _ h => h, rfl, rfl⟩
theorem r8_X10_103_8 : fr8 RX10 103 8 39 true := ⟨f8_X10_103_8, tyX10, fun _ _ _ h => by cases h; exact tyX10_ok, fun _ _ _ h => by cases h; exact nmX10, fun _ _ _ h => by cases h; exact ⟨rfl, fun q => by rfl⟩, (.array .int), fun _ _ _ h => by cases h; decide +kernel, fun a => ⟨rfl, rfl⟩⟩
theorem f8_X10_106_8 : fd9 RX10 106 8 41 2 := ⟨RX10, TX10, 44, "RewritingTerminationModel", rfl, by decide, (w9 879 (by decide +kernel) rfl), incX10, fun _ _ _ _ h => h, rfl, rfl⟩
theorem r8_X10_106_8 : fr8 RX10 106 8 41 true := ⟨f8_X10_106_8, tyX10, fun _ _ _ h => by cases h; exact tyX10_ok, fun _ _ _ h => by cases h; exact nmX10, fun _ _ _ h => by cases h; exact ⟨rfl, fun q => by rfl⟩, (.array .int), fun _ _ _ h => by cases h; decide +kernel, fun a => ⟨rfl, rfl⟩⟩
theorem f8_X10_109_8 : fd9 RX10 109 8 42 2 := ⟨RX10, TX10, 44, "RewritingTerminationModel", rfl, by decide, (w9 880 (by decide +kernel) rfl), incX10, fun _ _ _ _ h => h, rfl, rfl⟩
theorem r8_X10_109_8 : fr8 RX10 109 8 42 true := ⟨f8_X10_109_8, tyX10, fun _ _ _ h => by cases h; exact tyX10_ok, fun _ _ _ h => by cases h; exact nmX10, fun _ _ _ h => by cases h; exact ⟨rfl, fun q => by rfl⟩, (.array .int), fun _ _ _ h => by cases h; decide +kernel, fun a => ⟨rfl, rfl⟩⟩
theorem f8_X10_112_8 : fd9 RX10 112 8 43 2 := ⟨RX10, TX10, 44, "RewritingTerminationModel", rfl, by decide, (w9 881 (by decide +kernel) rfl), incX10, fun _ _ _ _ h => h, rfl, rfl⟩
theorem r8_X10_112_8 : fr8 RX10 112 8 43 true := ⟨f8_X10_112_8, tyX10, fun _ _ _ h => by cases h; exact tyX10_ok, fun _ _ _ h => by cases h; exact nmX10, fun _ _ _ h => by cases h; exact ⟨rfl, fun q => by rfl⟩, (.array .int), fun _ _ _ h => by cases h; decide +kernel, fun a => ⟨rfl, rfl⟩⟩
def sg_X10_init_97 (σ : S9) : S9 := (sI (sI (sI (sI (sF (sI (sF (sI (sF (sI (sF (sI (sF (sI (sF (sI (sI σ 97 0 3) 100 0 1) 102 0 1065353216) 100 1 1) 102 1 1065353216) 100 2 1) 102 2 1065353216) 100 3 1) 102 3 1065353216) 100 4 1) 102 4 1065353216) 100 5 1) 102 5 1065353216) 107 0 (-1)) 107 1 (-1)) 107 2 (-1)) 107 3 (-1))
def nu_X10_init_97 (ν : List (Nat × Nat)) : List (Nat × Nat) := ((97, 43) :: ((97, 42) :: ((97, 41) :: ((97, 39) :: ((97, 38) :: ((97, 37) :: ((97, 36) :: ((97, 35) :: ((97, 34) :: ((97, 33) :: ((97, 32) :: ((97, 31) :: ((97, 29) :: ((97, 28) :: ((97, 26) :: ((97, 25) :: ((97, 24) :: ((97, 23) :: ((97, 19) :: ((97, 18) :: ((97, 17) :: ((97, 16) :: ((97, 15) :: ((97, 14) :: ((97, 13) :: ((97, 10) :: ((97, 8) :: ((97, 7) :: ((97, 5) :: ((97, 4) :: ((97, 3) :: ((97, 2) :: ν))))))))))))))))))))))))))))))))
set_option maxRecDepth 100000 in
theorem i_X10_init_97 (σ : S9) (ν : List (Nat × Nat)) : C8 1 21714 mX10_init [.ref 97] 98 σ ν 130 (sg_X10_init_97 σ) (nu_X10_init_97 ν) := by
  refine C8_of (ini := true) (lv := [.ref 97, .null]) (by decide +kernel) (fun q => by rfl) rfl (fun _ => Nat.le_of_ble_eq_true rfl) rfl (by decide) ?_
  intro γ h p l e s m args below meth c C
  refine k_aload_n C dX10_init_0 rfl ?_
  refine k_objInit C dX10_init_1 (w9 837 (by decide +kernel) rfl) w8_o2 w8_o3 (Nat.le_of_ble_eq_true rfl) (Nat.le_of_ble_eq_true rfl) rfl ?_
  refine k_aload_n C dX10_init_4 rfl ?_
  refine k_iconst C dX10_init_5 ?_
  refine k_putI C dX10_init_6 s_97 (by decide) p8_X10_9_8 rfl ?_
  refine k_aload_n C dX10_init_9 rfl ?_
  refine k_bipush C dX10_init_10 (by decide) ?_
  refine k_newaI (N := 16) (sl' := 16) C dX10_init_12 rfl (by decide) s_98 (by decide) (Nat.le_of_ble_eq_true rfl) rfl (Nat.le_of_ble_eq_true rfl) ?_
  refine k_n (n' := 99) rfl ?_
  refine k_putRF C rfl dX10_init_14 s_97 (by decide) r8_X10_15_8 rfl ?_
  refine k_aload_n C dX10_init_17 rfl ?_
  refine k_bipush C dX10_init_18 (by decide) ?_
  refine k_newaI (N := 96) (sl' := 112) C dX10_init_20 rfl (by decide) s_99 (by decide) (Nat.le_of_ble_eq_true rfl) rfl (Nat.le_of_ble_eq_true rfl) ?_
  refine k_n (n' := 100) rfl ?_
  refine k_putRF C rfl dX10_init_22 s_97 (by decide) r8_X10_19_8 rfl ?_
  refine k_aload_n C dX10_init_25 rfl ?_
  refine k_bipush C dX10_init_26 (by decide) ?_
  refine k_newaI (N := 6) (sl' := 118) C dX10_init_28 rfl (by decide) s_100 (by decide) (Nat.le_of_ble_eq_true rfl) rfl (Nat.le_of_ble_eq_true rfl) ?_
  refine k_n (n' := 101) rfl ?_
  refine k_putRF C rfl dX10_init_30 s_97 (by decide) r8_X10_22_8 rfl ?_
  refine k_aload_n C dX10_init_33 rfl ?_
  refine k_bipush C dX10_init_34 (by decide) ?_
  refine k_newaI (N := 6) (sl' := 124) C dX10_init_36 rfl (by decide) s_101 (by decide) (Nat.le_of_ble_eq_true rfl) rfl (Nat.le_of_ble_eq_true rfl) ?_
  refine k_n (n' := 102) rfl ?_
  refine k_putRF C rfl dX10_init_38 s_97 (by decide) r8_X10_25_8 rfl ?_
  refine k_aload_n C dX10_init_41 rfl ?_
  refine k_bipush C dX10_init_42 (by decide) ?_
  refine k_newaF (N := 6) (sl' := 130) C dX10_init_44 rfl (by decide) s_102 (by decide) (Nat.le_of_ble_eq_true rfl) rfl (Nat.le_of_ble_eq_true rfl) ?_
  refine k_n (n' := 103) rfl ?_
  refine k_putRF C rfl dX10_init_46 s_97 (by decide) r8_X10_28_8 rfl ?_
  refine k_aload_n C dX10_init_49 rfl ?_
  refine k_bipush C dX10_init_50 (by decide) ?_
  refine k_newaI (N := 40) (sl' := 170) C dX10_init_52 rfl (by decide) s_103 (by decide) (Nat.le_of_ble_eq_true rfl) rfl (Nat.le_of_ble_eq_true rfl) ?_
  refine k_n (n' := 104) rfl ?_
  refine k_putRF C rfl dX10_init_54 s_97 (by decide) r8_X10_32_8 rfl ?_
  refine k_aload_n C dX10_init_57 rfl ?_
  refine k_bipush C dX10_init_58 (by decide) ?_
  refine k_newaI (N := 12) (sl' := 182) C dX10_init_60 rfl (by decide) s_104 (by decide) (Nat.le_of_ble_eq_true rfl) rfl (Nat.le_of_ble_eq_true rfl) ?_
  refine k_n (n' := 105) rfl ?_
  refine k_putRF C rfl dX10_init_62 s_97 (by decide) r8_X10_35_8 rfl ?_
  refine k_aload_n C dX10_init_65 rfl ?_
  refine k_sipush C dX10_init_66 (by decide) ?_
  refine k_newaI (N := 201) (sl' := 383) C dX10_init_69 rfl (by decide) s_105 (by decide) (Nat.le_of_ble_eq_true rfl) rfl (Nat.le_of_ble_eq_true rfl) ?_
  refine k_n (n' := 106) rfl ?_
  refine k_putRF C rfl dX10_init_71 s_97 (by decide) r8_X10_38_8 rfl ?_
  refine k_aload_n C dX10_init_74 rfl ?_
  refine k_sipush C dX10_init_75 (by decide) ?_
  refine k_newaI (N := 201) (sl' := 584) C dX10_init_78 rfl (by decide) s_106 (by decide) (Nat.le_of_ble_eq_true rfl) rfl (Nat.le_of_ble_eq_true rfl) ?_
  refine k_n (n' := 107) rfl ?_
  refine k_putRF C rfl dX10_init_80 s_97 (by decide) r8_X10_41_8 rfl ?_
  refine k_aload_n C dX10_init_83 rfl ?_
  refine k_iconst C dX10_init_84 ?_
  refine k_newaI (N := 4) (sl' := 588) C dX10_init_85 rfl (by decide) s_107 (by decide) (Nat.le_of_ble_eq_true rfl) rfl (Nat.le_of_ble_eq_true rfl) ?_
  refine k_n (n' := 108) rfl ?_
  refine k_putRF C rfl dX10_init_87 s_97 (by decide) r8_X10_44_8 rfl ?_
  refine k_aload_n C dX10_init_90 rfl ?_
  refine k_iconst C dX10_init_91 ?_
  refine k_newaI (N := 4) (sl' := 592) C dX10_init_92 rfl (by decide) s_108 (by decide) (Nat.le_of_ble_eq_true rfl) rfl (Nat.le_of_ble_eq_true rfl) ?_
  refine k_n (n' := 109) rfl ?_
  refine k_putRF C rfl dX10_init_94 s_97 (by decide) r8_X10_47_8 rfl ?_
  refine k_aload_n C dX10_init_97 rfl ?_
  refine k_sipush C dX10_init_98 (by decide) ?_
  refine k_newaL (N := 160) (sl' := 752) C dX10_init_101 rfl (by decide) s_109 (by decide) (Nat.le_of_ble_eq_true rfl) rfl (Nat.le_of_ble_eq_true rfl) ?_
  refine k_n (n' := 110) rfl ?_
  refine k_putRF C rfl dX10_init_103 s_97 (by decide) r8_X10_50_8 rfl ?_
  refine k_aload_n C dX10_init_106 rfl ?_
  refine k_sipush C dX10_init_107 (by decide) ?_
  refine k_newaF (N := 160) (sl' := 912) C dX10_init_110 rfl (by decide) s_110 (by decide) (Nat.le_of_ble_eq_true rfl) rfl (Nat.le_of_ble_eq_true rfl) ?_
  refine k_n (n' := 111) rfl ?_
  refine k_putRF C rfl dX10_init_112 s_97 (by decide) r8_X10_54_8 rfl ?_
  refine k_aload_n C dX10_init_115 rfl ?_
  refine k_sipush C dX10_init_116 (by decide) ?_
  refine k_newaD (N := 160) (sl' := 1072) C dX10_init_119 rfl (by decide) s_111 (by decide) (Nat.le_of_ble_eq_true rfl) rfl (Nat.le_of_ble_eq_true rfl) ?_
  refine k_n (n' := 112) rfl ?_
  refine k_putRF C rfl dX10_init_121 s_97 (by decide) r8_X10_57_8 rfl ?_
  refine k_aload_n C dX10_init_124 rfl ?_
  refine k_bipush C dX10_init_125 (by decide) ?_
  refine k_newaI (N := 16) (sl' := 1088) C dX10_init_127 rfl (by decide) s_112 (by decide) (Nat.le_of_ble_eq_true rfl) rfl (Nat.le_of_ble_eq_true rfl) ?_
  refine k_n (n' := 113) rfl ?_
  refine k_putRF C rfl dX10_init_129 s_97 (by decide) r8_X10_61_8 rfl ?_
  refine k_aload_n C dX10_init_132 rfl ?_
  refine k_bipush C dX10_init_133 (by decide) ?_
  refine k_newaI (N := 96) (sl' := 1184) C dX10_init_135 rfl (by decide) s_113 (by decide) (Nat.le_of_ble_eq_true rfl) rfl (Nat.le_of_ble_eq_true rfl) ?_
  refine k_n (n' := 114) rfl ?_
  refine k_putRF C rfl dX10_init_137 s_97 (by decide) r8_X10_64_8 rfl ?_
  refine k_aload_n C dX10_init_140 rfl ?_
  refine k_bipush C dX10_init_141 (by decide) ?_
  refine k_newaI (N := 6) (sl' := 1190) C dX10_init_143 rfl (by decide) s_114 (by decide) (Nat.le_of_ble_eq_true rfl) rfl (Nat.le_of_ble_eq_true rfl) ?_
  refine k_n (n' := 115) rfl ?_
  refine k_putRF C rfl dX10_init_145 s_97 (by decide) r8_X10_67_8 rfl ?_
  refine k_aload_n C dX10_init_148 rfl ?_
  refine k_bipush C dX10_init_149 (by decide) ?_
  refine k_newaI (N := 6) (sl' := 1196) C dX10_init_151 rfl (by decide) s_115 (by decide) (Nat.le_of_ble_eq_true rfl) rfl (Nat.le_of_ble_eq_true rfl) ?_
  refine k_n (n' := 116) rfl ?_
  refine k_putRF C rfl dX10_init_153 s_97 (by decide) r8_X10_70_8 rfl ?_
  refine k_aload_n C dX10_init_156 rfl ?_
  refine k_bipush C dX10_init_157 (by decide) ?_
  refine k_newaF (N := 6) (sl' := 1202) C dX10_init_159 rfl (by decide) s_116 (by decide) (Nat.le_of_ble_eq_true rfl) rfl (Nat.le_of_ble_eq_true rfl) ?_
  refine k_n (n' := 117) rfl ?_
  refine k_putRF C rfl dX10_init_161 s_97 (by decide) r8_X10_73_8 rfl ?_
  refine k_aload_n C dX10_init_164 rfl ?_
  refine k_bipush C dX10_init_165 (by decide) ?_
  refine k_newaI (N := 12) (sl' := 1214) C dX10_init_167 rfl (by decide) s_117 (by decide) (Nat.le_of_ble_eq_true rfl) rfl (Nat.le_of_ble_eq_true rfl) ?_
  refine k_n (n' := 118) rfl ?_
  refine k_putRF C rfl dX10_init_169 s_97 (by decide) r8_X10_76_8 rfl ?_
  refine k_aload_n C dX10_init_172 rfl ?_
  refine k_bipush C dX10_init_173 (by decide) ?_
  refine k_newaI (N := 40) (sl' := 1254) C dX10_init_175 rfl (by decide) s_118 (by decide) (Nat.le_of_ble_eq_true rfl) rfl (Nat.le_of_ble_eq_true rfl) ?_
  refine k_n (n' := 119) rfl ?_
  refine k_putRF C rfl dX10_init_177 s_97 (by decide) r8_X10_79_8 rfl ?_
  refine k_aload_n C dX10_init_180 rfl ?_
  refine k_bipush C dX10_init_181 (by decide) ?_
  refine k_newaI (N := 40) (sl' := 1294) C dX10_init_183 rfl (by decide) s_119 (by decide) (Nat.le_of_ble_eq_true rfl) rfl (Nat.le_of_ble_eq_true rfl) ?_
  refine k_n (n' := 120) rfl ?_
  refine k_putRF C rfl dX10_init_185 s_97 (by decide) r8_X10_82_8 rfl ?_
  refine k_aload_n C dX10_init_188 rfl ?_
  refine k_bipush C dX10_init_189 (by decide) ?_
  refine k_newaI (N := 8) (sl' := 1302) C dX10_init_191 rfl (by decide) s_120 (by decide) (Nat.le_of_ble_eq_true rfl) rfl (Nat.le_of_ble_eq_true rfl) ?_
  refine k_n (n' := 121) rfl ?_
  refine k_putRF C rfl dX10_init_193 s_97 (by decide) r8_X10_85_8 rfl ?_
  refine k_aload_n C dX10_init_196 rfl ?_
  refine k_bipush C dX10_init_197 (by decide) ?_
  refine k_newaI (N := 6) (sl' := 1308) C dX10_init_199 rfl (by decide) s_121 (by decide) (Nat.le_of_ble_eq_true rfl) rfl (Nat.le_of_ble_eq_true rfl) ?_
  refine k_n (n' := 122) rfl ?_
  refine k_putRF C rfl dX10_init_201 s_97 (by decide) r8_X10_88_8 rfl ?_
  refine k_aload_n C dX10_init_204 rfl ?_
  refine k_bipush C dX10_init_205 (by decide) ?_
  refine k_newaI (N := 6) (sl' := 1314) C dX10_init_207 rfl (by decide) s_122 (by decide) (Nat.le_of_ble_eq_true rfl) rfl (Nat.le_of_ble_eq_true rfl) ?_
  refine k_n (n' := 123) rfl ?_
  refine k_putRF C rfl dX10_init_209 s_97 (by decide) r8_X10_91_8 rfl ?_
  refine k_aload_n C dX10_init_212 rfl ?_
  refine k_sipush C dX10_init_213 (by decide) ?_
  refine k_newaL (N := 200) (sl' := 1514) C dX10_init_216 rfl (by decide) s_123 (by decide) (Nat.le_of_ble_eq_true rfl) rfl (Nat.le_of_ble_eq_true rfl) ?_
  refine k_n (n' := 124) rfl ?_
  refine k_putRF C rfl dX10_init_218 s_97 (by decide) r8_X10_94_8 rfl ?_
  refine k_aload_n C dX10_init_221 rfl ?_
  refine k_sipush C dX10_init_222 (by decide) ?_
  refine k_newaI (N := 200) (sl' := 1714) C dX10_init_225 rfl (by decide) s_124 (by decide) (Nat.le_of_ble_eq_true rfl) rfl (Nat.le_of_ble_eq_true rfl) ?_
  refine k_n (n' := 125) rfl ?_
  refine k_putRF C rfl dX10_init_227 s_97 (by decide) r8_X10_97_8 rfl ?_
  refine k_aload_n C dX10_init_230 rfl ?_
  refine k_sipush C dX10_init_231 (by decide) ?_
  refine k_newaI (N := 200) (sl' := 1914) C dX10_init_234 rfl (by decide) s_125 (by decide) (Nat.le_of_ble_eq_true rfl) rfl (Nat.le_of_ble_eq_true rfl) ?_
  refine k_n (n' := 126) rfl ?_
  refine k_putRF C rfl dX10_init_236 s_97 (by decide) r8_X10_100_8 rfl ?_
  refine k_aload_n C dX10_init_239 rfl ?_
  refine k_sipush C dX10_init_240 (by decide) ?_
  refine k_newaI (N := 200) (sl' := 2114) C dX10_init_243 rfl (by decide) s_126 (by decide) (Nat.le_of_ble_eq_true rfl) rfl (Nat.le_of_ble_eq_true rfl) ?_
  refine k_n (n' := 127) rfl ?_
  refine k_putRF C rfl dX10_init_245 s_97 (by decide) r8_X10_103_8 rfl ?_
  refine k_aload_n C dX10_init_248 rfl ?_
  refine k_sipush C dX10_init_249 (by decide) ?_
  refine k_newaI (N := 200) (sl' := 2314) C dX10_init_252 rfl (by decide) s_127 (by decide) (Nat.le_of_ble_eq_true rfl) rfl (Nat.le_of_ble_eq_true rfl) ?_
  refine k_n (n' := 128) rfl ?_
  refine k_putRF C rfl dX10_init_254 s_97 (by decide) r8_X10_106_8 rfl ?_
  refine k_aload_n C dX10_init_257 rfl ?_
  refine k_sipush C dX10_init_258 (by decide) ?_
  refine k_newaI (N := 19200) (sl' := 21514) C dX10_init_261 rfl (by decide) s_128 (by decide) (Nat.le_of_ble_eq_true rfl) rfl (Nat.le_of_ble_eq_true rfl) ?_
  refine k_n (n' := 129) rfl ?_
  refine k_putRF C rfl dX10_init_263 s_97 (by decide) r8_X10_109_8 rfl ?_
  refine k_aload_n C dX10_init_266 rfl ?_
  refine k_sipush C dX10_init_267 (by decide) ?_
  refine k_newaI (N := 200) (sl' := 21714) C dX10_init_270 rfl (by decide) s_129 (by decide) (Nat.le_of_ble_eq_true rfl) rfl (Nat.le_of_ble_eq_true rfl) ?_
  refine k_n (n' := 130) rfl ?_
  refine k_putRF C rfl dX10_init_272 s_97 (by decide) r8_X10_112_8 rfl ?_
  refine k_iconst C dX10_init_275 ?_
  refine k_istore_n C dX10_init_276 (by decide) rfl (lv' := [.ref 97, .int (iI 0)]) rfl ?_
  refine k_iload_n C dX10_init_277 rfl ?_
  refine k_bipush C dX10_init_278 (by decide) ?_
  refine k_geF (tgt := 303) C dX10_init_280 (by decide) ⟨⟨by decide, by decide⟩, ⟨by decide, by decide⟩⟩ (by decide) ?_
  refine k_aload_n C dX10_init_283 rfl ?_
  refine k_getR C dX10_init_284 s_97 (by decide) f8_X10_22_8 rfl rfl ?_
  refine k_iload_n C dX10_init_287 rfl ?_
  refine k_iconst C dX10_init_288 ?_
  refine k_iastore C dX10_init_289 s_100 (by decide) (by decide) ?_
  refine k_aload_n C dX10_init_290 rfl ?_
  refine k_getR C dX10_init_291 s_97 (by decide) f8_X10_28_8 rfl rfl ?_
  refine k_iload_n C dX10_init_294 rfl ?_
  refine k_fconst1 C dX10_init_295 ?_
  refine k_fastore C dX10_init_296 s_102 (by decide) (by decide) ?_
  refine k_iinc C dX10_init_297 rfl (by decide) rfl (lv' := [.ref 97, .int (iI 1)]) rfl ?_
  refine k_goto (tgt := 277) C dX10_init_300 (by decide) ?_
  refine k_iload_n C dX10_init_277 rfl ?_
  refine k_bipush C dX10_init_278 (by decide) ?_
  refine k_geF (tgt := 303) C dX10_init_280 (by decide) ⟨⟨by decide, by decide⟩, ⟨by decide, by decide⟩⟩ (by decide) ?_
  refine k_aload_n C dX10_init_283 rfl ?_
  refine k_getR C dX10_init_284 s_97 (by decide) f8_X10_22_8 rfl rfl ?_
  refine k_iload_n C dX10_init_287 rfl ?_
  refine k_iconst C dX10_init_288 ?_
  refine k_iastore C dX10_init_289 s_100 (by decide) (by decide) ?_
  refine k_aload_n C dX10_init_290 rfl ?_
  refine k_getR C dX10_init_291 s_97 (by decide) f8_X10_28_8 rfl rfl ?_
  refine k_iload_n C dX10_init_294 rfl ?_
  refine k_fconst1 C dX10_init_295 ?_
  refine k_fastore C dX10_init_296 s_102 (by decide) (by decide) ?_
  refine k_iinc C dX10_init_297 rfl (by decide) rfl (lv' := [.ref 97, .int (iI 2)]) rfl ?_
  refine k_goto (tgt := 277) C dX10_init_300 (by decide) ?_
  refine k_iload_n C dX10_init_277 rfl ?_
  refine k_bipush C dX10_init_278 (by decide) ?_
  refine k_geF (tgt := 303) C dX10_init_280 (by decide) ⟨⟨by decide, by decide⟩, ⟨by decide, by decide⟩⟩ (by decide) ?_
  refine k_aload_n C dX10_init_283 rfl ?_
  refine k_getR C dX10_init_284 s_97 (by decide) f8_X10_22_8 rfl rfl ?_
  refine k_iload_n C dX10_init_287 rfl ?_
  refine k_iconst C dX10_init_288 ?_
  refine k_iastore C dX10_init_289 s_100 (by decide) (by decide) ?_
  refine k_aload_n C dX10_init_290 rfl ?_
  refine k_getR C dX10_init_291 s_97 (by decide) f8_X10_28_8 rfl rfl ?_
  refine k_iload_n C dX10_init_294 rfl ?_
  refine k_fconst1 C dX10_init_295 ?_
  refine k_fastore C dX10_init_296 s_102 (by decide) (by decide) ?_
  refine k_iinc C dX10_init_297 rfl (by decide) rfl (lv' := [.ref 97, .int (iI 3)]) rfl ?_
  refine k_goto (tgt := 277) C dX10_init_300 (by decide) ?_
  refine k_iload_n C dX10_init_277 rfl ?_
  refine k_bipush C dX10_init_278 (by decide) ?_
  refine k_geF (tgt := 303) C dX10_init_280 (by decide) ⟨⟨by decide, by decide⟩, ⟨by decide, by decide⟩⟩ (by decide) ?_
  refine k_aload_n C dX10_init_283 rfl ?_
  refine k_getR C dX10_init_284 s_97 (by decide) f8_X10_22_8 rfl rfl ?_
  refine k_iload_n C dX10_init_287 rfl ?_
  refine k_iconst C dX10_init_288 ?_
  refine k_iastore C dX10_init_289 s_100 (by decide) (by decide) ?_
  refine k_aload_n C dX10_init_290 rfl ?_
  refine k_getR C dX10_init_291 s_97 (by decide) f8_X10_28_8 rfl rfl ?_
  refine k_iload_n C dX10_init_294 rfl ?_
  refine k_fconst1 C dX10_init_295 ?_
  refine k_fastore C dX10_init_296 s_102 (by decide) (by decide) ?_
  refine k_iinc C dX10_init_297 rfl (by decide) rfl (lv' := [.ref 97, .int (iI 4)]) rfl ?_
  refine k_goto (tgt := 277) C dX10_init_300 (by decide) ?_
  refine k_iload_n C dX10_init_277 rfl ?_
  refine k_bipush C dX10_init_278 (by decide) ?_
  refine k_geF (tgt := 303) C dX10_init_280 (by decide) ⟨⟨by decide, by decide⟩, ⟨by decide, by decide⟩⟩ (by decide) ?_
  refine k_aload_n C dX10_init_283 rfl ?_
  refine k_getR C dX10_init_284 s_97 (by decide) f8_X10_22_8 rfl rfl ?_
  refine k_iload_n C dX10_init_287 rfl ?_
  refine k_iconst C dX10_init_288 ?_
  refine k_iastore C dX10_init_289 s_100 (by decide) (by decide) ?_
  refine k_aload_n C dX10_init_290 rfl ?_
  refine k_getR C dX10_init_291 s_97 (by decide) f8_X10_28_8 rfl rfl ?_
  refine k_iload_n C dX10_init_294 rfl ?_
  refine k_fconst1 C dX10_init_295 ?_
  refine k_fastore C dX10_init_296 s_102 (by decide) (by decide) ?_
  refine k_iinc C dX10_init_297 rfl (by decide) rfl (lv' := [.ref 97, .int (iI 5)]) rfl ?_
  refine k_goto (tgt := 277) C dX10_init_300 (by decide) ?_
  refine k_iload_n C dX10_init_277 rfl ?_
  refine k_bipush C dX10_init_278 (by decide) ?_
  refine k_geF (tgt := 303) C dX10_init_280 (by decide) ⟨⟨by decide, by decide⟩, ⟨by decide, by decide⟩⟩ (by decide) ?_
  refine k_aload_n C dX10_init_283 rfl ?_
  refine k_getR C dX10_init_284 s_97 (by decide) f8_X10_22_8 rfl rfl ?_
  refine k_iload_n C dX10_init_287 rfl ?_
  refine k_iconst C dX10_init_288 ?_
  refine k_iastore C dX10_init_289 s_100 (by decide) (by decide) ?_
  refine k_aload_n C dX10_init_290 rfl ?_
  refine k_getR C dX10_init_291 s_97 (by decide) f8_X10_28_8 rfl rfl ?_
  refine k_iload_n C dX10_init_294 rfl ?_
  refine k_fconst1 C dX10_init_295 ?_
  refine k_fastore C dX10_init_296 s_102 (by decide) (by decide) ?_
  refine k_iinc C dX10_init_297 rfl (by decide) rfl (lv' := [.ref 97, .int (iI 6)]) rfl ?_
  refine k_goto (tgt := 277) C dX10_init_300 (by decide) ?_
  refine k_iload_n C dX10_init_277 rfl ?_
  refine k_bipush C dX10_init_278 (by decide) ?_
  refine k_geT (tgt := 303) C dX10_init_280 (by decide) ⟨⟨by decide, by decide⟩, ⟨by decide, by decide⟩⟩ (by decide) ?_
  refine k_iconst C dX10_init_303 ?_
  refine k_istore_n C dX10_init_304 (by decide) rfl (lv' := [.ref 97, .int (iI 0)]) rfl ?_
  refine k_iload_n C dX10_init_305 rfl ?_
  refine k_iconst C dX10_init_306 ?_
  refine k_geF (tgt := 323) C dX10_init_307 (by decide) ⟨⟨by decide, by decide⟩, ⟨by decide, by decide⟩⟩ (by decide) ?_
  refine k_aload_n C dX10_init_310 rfl ?_
  refine k_getR C dX10_init_311 s_97 (by decide) f8_X10_44_8 rfl rfl ?_
  refine k_iload_n C dX10_init_314 rfl ?_
  refine k_iconst C dX10_init_315 ?_
  refine k_iastore C dX10_init_316 s_107 (by decide) (by decide) ?_
  refine k_iinc C dX10_init_317 rfl (by decide) rfl (lv' := [.ref 97, .int (iI 1)]) rfl ?_
  refine k_goto (tgt := 305) C dX10_init_320 (by decide) ?_
  refine k_iload_n C dX10_init_305 rfl ?_
  refine k_iconst C dX10_init_306 ?_
  refine k_geF (tgt := 323) C dX10_init_307 (by decide) ⟨⟨by decide, by decide⟩, ⟨by decide, by decide⟩⟩ (by decide) ?_
  refine k_aload_n C dX10_init_310 rfl ?_
  refine k_getR C dX10_init_311 s_97 (by decide) f8_X10_44_8 rfl rfl ?_
  refine k_iload_n C dX10_init_314 rfl ?_
  refine k_iconst C dX10_init_315 ?_
  refine k_iastore C dX10_init_316 s_107 (by decide) (by decide) ?_
  refine k_iinc C dX10_init_317 rfl (by decide) rfl (lv' := [.ref 97, .int (iI 2)]) rfl ?_
  refine k_goto (tgt := 305) C dX10_init_320 (by decide) ?_
  refine k_iload_n C dX10_init_305 rfl ?_
  refine k_iconst C dX10_init_306 ?_
  refine k_geF (tgt := 323) C dX10_init_307 (by decide) ⟨⟨by decide, by decide⟩, ⟨by decide, by decide⟩⟩ (by decide) ?_
  refine k_aload_n C dX10_init_310 rfl ?_
  refine k_getR C dX10_init_311 s_97 (by decide) f8_X10_44_8 rfl rfl ?_
  refine k_iload_n C dX10_init_314 rfl ?_
  refine k_iconst C dX10_init_315 ?_
  refine k_iastore C dX10_init_316 s_107 (by decide) (by decide) ?_
  refine k_iinc C dX10_init_317 rfl (by decide) rfl (lv' := [.ref 97, .int (iI 3)]) rfl ?_
  refine k_goto (tgt := 305) C dX10_init_320 (by decide) ?_
  refine k_iload_n C dX10_init_305 rfl ?_
  refine k_iconst C dX10_init_306 ?_
  refine k_geF (tgt := 323) C dX10_init_307 (by decide) ⟨⟨by decide, by decide⟩, ⟨by decide, by decide⟩⟩ (by decide) ?_
  refine k_aload_n C dX10_init_310 rfl ?_
  refine k_getR C dX10_init_311 s_97 (by decide) f8_X10_44_8 rfl rfl ?_
  refine k_iload_n C dX10_init_314 rfl ?_
  refine k_iconst C dX10_init_315 ?_
  refine k_iastore C dX10_init_316 s_107 (by decide) (by decide) ?_
  refine k_iinc C dX10_init_317 rfl (by decide) rfl (lv' := [.ref 97, .int (iI 4)]) rfl ?_
  refine k_goto (tgt := 305) C dX10_init_320 (by decide) ?_
  refine k_iload_n C dX10_init_305 rfl ?_
  refine k_iconst C dX10_init_306 ?_
  refine k_geT (tgt := 323) C dX10_init_307 (by decide) ⟨⟨by decide, by decide⟩, ⟨by decide, by decide⟩⟩ (by decide) ?_
  exact k_return C dX10_init_323 rfl
