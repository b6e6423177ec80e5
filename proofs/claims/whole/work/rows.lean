section
-- ===== PART A: goes FIRST, ahead of the names: the tables' words, and 'selects' of the private methods out of them =====
/-- a private method of a class that the tables say can be made, by its rows of tables_1 -/
def lw_okq (q : MethodName × Nat) : Prop := (q.1.cls ≠ "java/lang/invoke/MethodHandle" ∧ q.1.cls ≠ "java/lang/invoke/VarHandle") ∧ Cond.instantiable q.1.cls q.2 ∈ tables_1 ∧ Cond.privateMethod q.1 ∈ tables_1 ∧ Cond.instanceMethod q.1 ∈ tables_1
theorem lw_p0 : lw_okq (⟨"RewritingTermination", "takeString", "()J"⟩, 10) := ⟨⟨by decide +kernel, by decide +kernel⟩, List.mem_of_getElem? (i := 19) (by decide +kernel), List.mem_of_getElem? (i := 447) (by decide +kernel), List.mem_of_getElem? (i := 448) (by decide +kernel)⟩
theorem lw_p1 : lw_okq (⟨"RewritingTermination$LinearSearch", "boundRows", "(I)V"⟩, 8) := ⟨⟨by decide +kernel, by decide +kernel⟩, List.mem_of_getElem? (i := 167) (by decide +kernel), List.mem_of_getElem? (i := 463) (by decide +kernel), List.mem_of_getElem? (i := 464) (by decide +kernel)⟩
theorem lw_p2 : lw_okq (⟨"RewritingTermination$LevelSearch", "mayBeAdmissible", "(I)Z"⟩, 7) := ⟨⟨by decide +kernel, by decide +kernel⟩, List.mem_of_getElem? (i := 208) (by decide +kernel), List.mem_of_getElem? (i := 483) (by decide +kernel), List.mem_of_getElem? (i := 484) (by decide +kernel)⟩
theorem lw_p3 : lw_okq (⟨"RewritingTermination$LevelSearch", "mayOrient", "(JJI)Z"⟩, 7) := ⟨⟨by decide +kernel, by decide +kernel⟩, List.mem_of_getElem? (i := 208) (by decide +kernel), List.mem_of_getElem? (i := 487) (by decide +kernel), List.mem_of_getElem? (i := 488) (by decide +kernel)⟩
theorem lw_p4 : lw_okq (⟨"RewritingTermination$LinearSearch", "hasNonZero", "()Z"⟩, 8) := ⟨⟨by decide +kernel, by decide +kernel⟩, List.mem_of_getElem? (i := 167) (by decide +kernel), List.mem_of_getElem? (i := 497) (by decide +kernel), List.mem_of_getElem? (i := 498) (by decide +kernel)⟩
theorem lw_p5 : lw_okq (⟨"RewritingTermination$LevelSearch", "findWeightless", "([I)Z"⟩, 7) := ⟨⟨by decide +kernel, by decide +kernel⟩, List.mem_of_getElem? (i := 208) (by decide +kernel), List.mem_of_getElem? (i := 521) (by decide +kernel), List.mem_of_getElem? (i := 522) (by decide +kernel)⟩
theorem lw_p6 : lw_okq (⟨"RewritingTermination", "takeFoundLevels", "()V"⟩, 10) := ⟨⟨by decide +kernel, by decide +kernel⟩, List.mem_of_getElem? (i := 19) (by decide +kernel), List.mem_of_getElem? (i := 532) (by decide +kernel), List.mem_of_getElem? (i := 533) (by decide +kernel)⟩
theorem lw_p7 : lw_okq (⟨"RewritingTermination", "writeTriedWeights", "(I)V"⟩, 10) := ⟨⟨by decide +kernel, by decide +kernel⟩, List.mem_of_getElem? (i := 19) (by decide +kernel), List.mem_of_getElem? (i := 541) (by decide +kernel), List.mem_of_getElem? (i := 542) (by decide +kernel)⟩
theorem lw_p8 : lw_okq (⟨"RewritingTermination", "takeFoundOrder", "(I)V"⟩, 10) := ⟨⟨by decide +kernel, by decide +kernel⟩, List.mem_of_getElem? (i := 19) (by decide +kernel), List.mem_of_getElem? (i := 545) (by decide +kernel), List.mem_of_getElem? (i := 546) (by decide +kernel)⟩
theorem lw_p9 : lw_okq (⟨"RewritingTermination", "isCertificate", "([J)Z"⟩, 10) := ⟨⟨by decide +kernel, by decide +kernel⟩, List.mem_of_getElem? (i := 19) (by decide +kernel), List.mem_of_getElem? (i := 783) (by decide +kernel), List.mem_of_getElem? (i := 784) (by decide +kernel)⟩
theorem lw_p10 : lw_okq (⟨"RewritingTerminationModel", "lettersFrom", "(I)I"⟩, 44) := ⟨⟨by decide +kernel, by decide +kernel⟩, List.mem_of_getElem? (i := 799) (by decide +kernel), List.mem_of_getElem? (i := 965) (by decide +kernel), List.mem_of_getElem? (i := 966) (by decide +kernel)⟩
theorem lw_p11 : lw_okq (⟨"RewritingTerminationModel", "isLetter", "(I)Z"⟩, 44) := ⟨⟨by decide +kernel, by decide +kernel⟩, List.mem_of_getElem? (i := 799) (by decide +kernel), List.mem_of_getElem? (i := 969) (by decide +kernel), List.mem_of_getElem? (i := 970) (by decide +kernel)⟩
theorem lw_p12 : lw_okq (⟨"RewritingTerminationModel", "isRule", "(I)Z"⟩, 44) := ⟨⟨by decide +kernel, by decide +kernel⟩, List.mem_of_getElem? (i := 799) (by decide +kernel), List.mem_of_getElem? (i := 977) (by decide +kernel), List.mem_of_getElem? (i := 978) (by decide +kernel)⟩
theorem lw_p13 : lw_okq (⟨"RewritingTerminationModel", "balanceOf", "(II)I"⟩, 44) := ⟨⟨by decide +kernel, by decide +kernel⟩, List.mem_of_getElem? (i := 799) (by decide +kernel), List.mem_of_getElem? (i := 993) (by decide +kernel), List.mem_of_getElem? (i := 994) (by decide +kernel)⟩
theorem lw_p14 : lw_okq (⟨"RewritingTerminationModel", "occurs", "(III)I"⟩, 44) := ⟨⟨by decide +kernel, by decide +kernel⟩, List.mem_of_getElem? (i := 799) (by decide +kernel), List.mem_of_getElem? (i := 997) (by decide +kernel), List.mem_of_getElem? (i := 998) (by decide +kernel)⟩
theorem lw_p15 : lw_okq (⟨"RewritingTerminationModel", "isGood", "()Z"⟩, 44) := ⟨⟨by decide +kernel, by decide +kernel⟩, List.mem_of_getElem? (i := 799) (by decide +kernel), List.mem_of_getElem? (i := 1027) (by decide +kernel), List.mem_of_getElem? (i := 1028) (by decide +kernel)⟩
def lw_privs_1 : List (MethodName × Nat) := [(⟨"RewritingTermination", "takeString", "()J"⟩, 10), (⟨"RewritingTermination$LinearSearch", "boundRows", "(I)V"⟩, 8), (⟨"RewritingTermination$LevelSearch", "mayBeAdmissible", "(I)Z"⟩, 7), (⟨"RewritingTermination$LevelSearch", "mayOrient", "(JJI)Z"⟩, 7), (⟨"RewritingTermination$LinearSearch", "hasNonZero", "()Z"⟩, 8), (⟨"RewritingTermination$LevelSearch", "findWeightless", "([I)Z"⟩, 7), (⟨"RewritingTermination", "takeFoundLevels", "()V"⟩, 10), (⟨"RewritingTermination", "writeTriedWeights", "(I)V"⟩, 10), (⟨"RewritingTermination", "takeFoundOrder", "(I)V"⟩, 10), (⟨"RewritingTermination", "isCertificate", "([J)Z"⟩, 10), (⟨"RewritingTerminationModel", "lettersFrom", "(I)I"⟩, 44), (⟨"RewritingTerminationModel", "isLetter", "(I)Z"⟩, 44), (⟨"RewritingTerminationModel", "isRule", "(I)Z"⟩, 44), (⟨"RewritingTerminationModel", "balanceOf", "(II)I"⟩, 44), (⟨"RewritingTerminationModel", "occurs", "(III)I"⟩, 44), (⟨"RewritingTerminationModel", "isGood", "()Z"⟩, 44)]
theorem lw_r1 : ∀ q ∈ lw_privs_1, lw_okq q := List.forall_mem_cons.mpr ⟨lw_p0, List.forall_mem_cons.mpr ⟨lw_p1, List.forall_mem_cons.mpr ⟨lw_p2, List.forall_mem_cons.mpr ⟨lw_p3, List.forall_mem_cons.mpr ⟨lw_p4, List.forall_mem_cons.mpr ⟨lw_p5, List.forall_mem_cons.mpr ⟨lw_p6, List.forall_mem_cons.mpr ⟨lw_p7, List.forall_mem_cons.mpr ⟨lw_p8, List.forall_mem_cons.mpr ⟨lw_p9, List.forall_mem_cons.mpr ⟨lw_p10, List.forall_mem_cons.mpr ⟨lw_p11, List.forall_mem_cons.mpr ⟨lw_p12, List.forall_mem_cons.mpr ⟨lw_p13, List.forall_mem_cons.mpr ⟨lw_p14, List.forall_mem_cons.mpr ⟨lw_p15, fun _ h => absurd h List.not_mem_nil⟩⟩⟩⟩⟩⟩⟩⟩⟩⟩⟩⟩⟩⟩⟩⟩
theorem lw_p16 : lw_okq (⟨"RewritingTerminationModel", "sidesOf", "(I)I"⟩, 44) := ⟨⟨by decide +kernel, by decide +kernel⟩, List.mem_of_getElem? (i := 799) (by decide +kernel), List.mem_of_getElem? (i := 1035) (by decide +kernel), List.mem_of_getElem? (i := 1036) (by decide +kernel)⟩
theorem lw_p17 : lw_okq (⟨"RewritingTerminationModel", "compared", "(II)I"⟩, 44) := ⟨⟨by decide +kernel, by decide +kernel⟩, List.mem_of_getElem? (i := 799) (by decide +kernel), List.mem_of_getElem? (i := 1039) (by decide +kernel), List.mem_of_getElem? (i := 1040) (by decide +kernel)⟩
theorem lw_p18 : lw_okq (⟨"RewritingTerminationModel", "taken", "()I"⟩, 44) := ⟨⟨by decide +kernel, by decide +kernel⟩, List.mem_of_getElem? (i := 799) (by decide +kernel), List.mem_of_getElem? (i := 1047) (by decide +kernel), List.mem_of_getElem? (i := 1048) (by decide +kernel)⟩
theorem lw_p19 : lw_okq (⟨"RewritingTerminationModel", "begin", "()V"⟩, 44) := ⟨⟨by decide +kernel, by decide +kernel⟩, List.mem_of_getElem? (i := 799) (by decide +kernel), List.mem_of_getElem? (i := 1059) (by decide +kernel), List.mem_of_getElem? (i := 1060) (by decide +kernel)⟩
theorem lw_p20 : lw_okq (⟨"RewritingTerminationModel", "less", "(I)I"⟩, 44) := ⟨⟨by decide +kernel, by decide +kernel⟩, List.mem_of_getElem? (i := 799) (by decide +kernel), List.mem_of_getElem? (i := 1063) (by decide +kernel), List.mem_of_getElem? (i := 1064) (by decide +kernel)⟩
theorem lw_p21 : lw_okq (⟨"RewritingTerminationModel", "next", "(II)Z"⟩, 44) := ⟨⟨by decide +kernel, by decide +kernel⟩, List.mem_of_getElem? (i := 799) (by decide +kernel), List.mem_of_getElem? (i := 1067) (by decide +kernel), List.mem_of_getElem? (i := 1068) (by decide +kernel)⟩
theorem lw_p22 : lw_okq (⟨"RewritingTerminationModel", "levels", "()Z"⟩, 44) := ⟨⟨by decide +kernel, by decide +kernel⟩, List.mem_of_getElem? (i := 799) (by decide +kernel), List.mem_of_getElem? (i := 1079) (by decide +kernel), List.mem_of_getElem? (i := 1080) (by decide +kernel)⟩
theorem lw_p23 : lw_okq (⟨"RewritingTerminationModel", "current", "()J"⟩, 44) := ⟨⟨by decide +kernel, by decide +kernel⟩, List.mem_of_getElem? (i := 799) (by decide +kernel), List.mem_of_getElem? (i := 1112) (by decide +kernel), List.mem_of_getElem? (i := 1113) (by decide +kernel)⟩
theorem lw_p24 : lw_okq (⟨"RewritingTerminationModel", "stepped", "(JII)J"⟩, 44) := ⟨⟨by decide +kernel, by decide +kernel⟩, List.mem_of_getElem? (i := 799) (by decide +kernel), List.mem_of_getElem? (i := 1120) (by decide +kernel), List.mem_of_getElem? (i := 1121) (by decide +kernel)⟩
theorem lw_p25 : lw_okq (⟨"RewritingTerminationModel", "stands", "(JIII)Z"⟩, 44) := ⟨⟨by decide +kernel, by decide +kernel⟩, List.mem_of_getElem? (i := 799) (by decide +kernel), List.mem_of_getElem? (i := 1127) (by decide +kernel), List.mem_of_getElem? (i := 1128) (by decide +kernel)⟩
theorem lw_p26 : lw_okq (⟨"RewritingTerminationModel", "becomes", "(J)V"⟩, 44) := ⟨⟨by decide +kernel, by decide +kernel⟩, List.mem_of_getElem? (i := 799) (by decide +kernel), List.mem_of_getElem? (i := 1136) (by decide +kernel), List.mem_of_getElem? (i := 1137) (by decide +kernel)⟩
theorem lw_p27 : lw_okq (⟨"RewritingTerminationModel", "steps", "()Z"⟩, 44) := ⟨⟨by decide +kernel, by decide +kernel⟩, List.mem_of_getElem? (i := 799) (by decide +kernel), List.mem_of_getElem? (i := 1145) (by decide +kernel), List.mem_of_getElem? (i := 1146) (by decide +kernel)⟩
theorem lw_p28 : lw_okq (⟨"RewritingTerminationModel", "placeOf", "(J)I"⟩, 44) := ⟨⟨by decide +kernel, by decide +kernel⟩, List.mem_of_getElem? (i := 799) (by decide +kernel), List.mem_of_getElem? (i := 1153) (by decide +kernel), List.mem_of_getElem? (i := 1154) (by decide +kernel)⟩
theorem lw_p29 : lw_okq (⟨"RewritingTerminationModel", "deepestOf", "()I"⟩, 44) := ⟨⟨by decide +kernel, by decide +kernel⟩, List.mem_of_getElem? (i := 799) (by decide +kernel), List.mem_of_getElem? (i := 1157) (by decide +kernel), List.mem_of_getElem? (i := 1158) (by decide +kernel)⟩
theorem lw_p30 : lw_okq (⟨"RewritingTerminationModel", "contains", "(JI)Z"⟩, 44) := ⟨⟨by decide +kernel, by decide +kernel⟩, List.mem_of_getElem? (i := 799) (by decide +kernel), List.mem_of_getElem? (i := 1165) (by decide +kernel), List.mem_of_getElem? (i := 1166) (by decide +kernel)⟩
theorem lw_p31 : lw_okq (⟨"RewritingTerminationModel", "loops", "(III)I"⟩, 44) := ⟨⟨by decide +kernel, by decide +kernel⟩, List.mem_of_getElem? (i := 799) (by decide +kernel), List.mem_of_getElem? (i := 1169) (by decide +kernel), List.mem_of_getElem? (i := 1170) (by decide +kernel)⟩
def lw_privs_2 : List (MethodName × Nat) := [(⟨"RewritingTerminationModel", "sidesOf", "(I)I"⟩, 44), (⟨"RewritingTerminationModel", "compared", "(II)I"⟩, 44), (⟨"RewritingTerminationModel", "taken", "()I"⟩, 44), (⟨"RewritingTerminationModel", "begin", "()V"⟩, 44), (⟨"RewritingTerminationModel", "less", "(I)I"⟩, 44), (⟨"RewritingTerminationModel", "next", "(II)Z"⟩, 44), (⟨"RewritingTerminationModel", "levels", "()Z"⟩, 44), (⟨"RewritingTerminationModel", "current", "()J"⟩, 44), (⟨"RewritingTerminationModel", "stepped", "(JII)J"⟩, 44), (⟨"RewritingTerminationModel", "stands", "(JIII)Z"⟩, 44), (⟨"RewritingTerminationModel", "becomes", "(J)V"⟩, 44), (⟨"RewritingTerminationModel", "steps", "()Z"⟩, 44), (⟨"RewritingTerminationModel", "placeOf", "(J)I"⟩, 44), (⟨"RewritingTerminationModel", "deepestOf", "()I"⟩, 44), (⟨"RewritingTerminationModel", "contains", "(JI)Z"⟩, 44), (⟨"RewritingTerminationModel", "loops", "(III)I"⟩, 44)]
theorem lw_r2 : ∀ q ∈ lw_privs_2, lw_okq q := List.forall_mem_cons.mpr ⟨lw_p16, List.forall_mem_cons.mpr ⟨lw_p17, List.forall_mem_cons.mpr ⟨lw_p18, List.forall_mem_cons.mpr ⟨lw_p19, List.forall_mem_cons.mpr ⟨lw_p20, List.forall_mem_cons.mpr ⟨lw_p21, List.forall_mem_cons.mpr ⟨lw_p22, List.forall_mem_cons.mpr ⟨lw_p23, List.forall_mem_cons.mpr ⟨lw_p24, List.forall_mem_cons.mpr ⟨lw_p25, List.forall_mem_cons.mpr ⟨lw_p26, List.forall_mem_cons.mpr ⟨lw_p27, List.forall_mem_cons.mpr ⟨lw_p28, List.forall_mem_cons.mpr ⟨lw_p29, List.forall_mem_cons.mpr ⟨lw_p30, List.forall_mem_cons.mpr ⟨lw_p31, fun _ h => absurd h List.not_mem_nil⟩⟩⟩⟩⟩⟩⟩⟩⟩⟩⟩⟩⟩⟩⟩⟩
theorem lw_p32 : lw_okq (⟨"RewritingTerminationModel", "marginOf", "(I)F"⟩, 44) := ⟨⟨by decide +kernel, by decide +kernel⟩, List.mem_of_getElem? (i := 799) (by decide +kernel), List.mem_of_getElem? (i := 1182) (by decide +kernel), List.mem_of_getElem? (i := 1183) (by decide +kernel)⟩
theorem lw_p33 : lw_okq (⟨"RewritingTerminationModel", "isPlace", "(II)Z"⟩, 44) := ⟨⟨by decide +kernel, by decide +kernel⟩, List.mem_of_getElem? (i := 799) (by decide +kernel), List.mem_of_getElem? (i := 1245) (by decide +kernel), List.mem_of_getElem? (i := 1246) (by decide +kernel)⟩
def lw_privs_3 : List (MethodName × Nat) := [(⟨"RewritingTerminationModel", "marginOf", "(I)F"⟩, 44), (⟨"RewritingTerminationModel", "isPlace", "(II)Z"⟩, 44)]
theorem lw_r3 : ∀ q ∈ lw_privs_3, lw_okq q := List.forall_mem_cons.mpr ⟨lw_p32, List.forall_mem_cons.mpr ⟨lw_p33, fun _ h => absurd h List.not_mem_nil⟩⟩
def lw_privs : List (MethodName × Nat) := lw_privs_1 ++ (lw_privs_2 ++ (lw_privs_3))
def lw_tbl : List Cond := k2_sels lw_privs ++ tables_1
theorem lw_privs_ok : ∀ q ∈ lw_privs, lw_okq q := by
  show ∀ q ∈ lw_privs_1 ++ (lw_privs_2 ++ (lw_privs_3)), lw_okq q
  exact List.forall_mem_append.mpr ⟨lw_r1, List.forall_mem_append.mpr ⟨lw_r2, lw_r3⟩⟩
/-- the streams that the claim lets the run draw from -/
abbrev lw_cs : List Choice := [Jvm.Choice.named "NaN.bits", Jvm.Choice.named "NaN.copy"]
theorem lw_bits : nanBits ∈ lw_cs := by first | decide | exact List.mem_cons_self | simp [lw_cs, nanBits]
end
section
def RX0 : String := "RewritingTermination$Found"
def TX0 : u_T := fun k => match k with
  | 0 => ("RewritingTermination$Found", "count", "I", false)
  | 1 => ("RewritingTermination$Found", "words", "[J", true)
  | 2 => ("RewritingTermination$Found", "table", "[I", true)
  | 3 => ("RewritingTermination$Found", "parents", "[I", true)
  | 4 => ("RewritingTermination$Found", "depths", "[I", true)
  | 5 => ("RewritingTermination$Found", "rules", "[I", true)
  | 6 => ("RewritingTermination$Found", "positions", "[I", true)
  | 7 => ("RewritingTermination$Found", "stepsInto", "[I", true)
  | 8 => ("RewritingTermination$Found", "queue", "[I", true)
  | _ => ("RewritingTermination$Found", "queued", "I", false)
def tyX0 : Nat → FieldType := fun k => match k with
  | 0 => .int
  | 1 => .array .long
  | 2 => .array .int
  | 3 => .array .int
  | 4 => .array .int
  | 5 => .array .int
  | 6 => .array .int
  | 7 => .array .int
  | 8 => .array .int
  | _ => .int
abbrev wsX00 : List Cond := u_ws RX0 TX0 10
theorem nmX0 : ∀ a, a < 10 → ∀ b, b < 10 → a ≠ b → (TX0 a).2.1 ≠ (TX0 b).2.1 := by decide +kernel
theorem tyX0_ok : ∀ k, k < 10 → parseFieldDescriptor (TX0 k).2.2.1 = some (tyX0 k) := by decide +kernel
abbrev cX0_init : ByteArray := prog_2_method_1_code
def yX0_init : MethodName := ⟨RX0, "<init>", "()V"⟩
abbrev cX0_start : ByteArray := prog_2_method_2_code
def yX0_start : MethodName := ⟨RX0, "start", "(J)V"⟩
abbrev cX0_placeOf : ByteArray := prog_2_method_3_code
def yX0_placeOf : MethodName := ⟨RX0, "placeOf", "(J)I"⟩
abbrev cX0_numberOf : ByteArray := prog_2_method_4_code
def yX0_numberOf : MethodName := ⟨RX0, "numberOf", "(J)I"⟩
abbrev cX0_add : ByteArray := prog_2_method_5_code
def yX0_add : MethodName := ⟨RX0, "add", "(J)I"⟩
abbrev cX0_collectAll : ByteArray := prog_2_method_6_code
def yX0_collectAll : MethodName := ⟨RX0, "collectAll", "(LRewritingTermination$Rewriting;)Z"⟩
abbrev cX0_expand : ByteArray := prog_2_method_7_code
def yX0_expand : MethodName := ⟨RX0, "expand", "(LRewritingTermination$Rewriting;J)Z"⟩
abbrev cX0_countStepInto : ByteArray := prog_2_method_8_code
def yX0_countStepInto : MethodName := ⟨RX0, "countStepInto", "(J)Z"⟩
abbrev cX0_longestFromFirst : ByteArray := prog_2_method_9_code
def yX0_longestFromFirst : MethodName := ⟨RX0, "longestFromFirst", "(LRewritingTermination$Rewriting;)I"⟩
abbrev cX0_walkFrom : ByteArray := prog_2_method_10_code
def yX0_walkFrom : MethodName := ⟨RX0, "walkFrom", "(LRewritingTermination$Rewriting;I)V"⟩
abbrev cX0_walkInto : ByteArray := prog_2_method_11_code
def yX0_walkInto : MethodName := ⟨RX0, "walkInto", "(II)V"⟩
abbrev cX0_searchLoop : ByteArray := prog_2_method_12_code
def yX0_searchLoop : MethodName := ⟨RX0, "searchLoop", "(LRewritingTermination$Rewriting;JLRewritingTermination$Loop;)I"⟩
abbrev cX0_expandForLoop : ByteArray := prog_2_method_13_code
def yX0_expandForLoop : MethodName := ⟨RX0, "expandForLoop", "(LRewritingTermination$Rewriting;ILRewritingTermination$Loop;)I"⟩
abbrev cX0_addStep : ByteArray := prog_2_method_14_code
def yX0_addStep : MethodName := ⟨RX0, "addStep", "(JIII)Z"⟩
abbrev cX0_storeLoop : ByteArray := prog_2_method_15_code
def yX0_storeLoop : MethodName := ⟨RX0, "storeLoop", "(LRewritingTermination$Loop;III)I"⟩
def RX1 : String := "RewritingTermination$Input"
def TX1 : u_T := fun k => match k with
  | 0 => ("RewritingTermination$Input", "count", "I", false)
  | _ => ("RewritingTermination$Input", "bytes", "[B", true)
def tyX1 : Nat → FieldType := fun k => match k with
  | 0 => .int
  | _ => .array .byte
abbrev wsX10 : List Cond := u_ws RX1 TX1 2
theorem nmX1 : ∀ a, a < 2 → ∀ b, b < 2 → a ≠ b → (TX1 a).2.1 ≠ (TX1 b).2.1 := by decide +kernel
theorem tyX1_ok : ∀ k, k < 2 → parseFieldDescriptor (TX1 k).2.2.1 = some (tyX1 k) := by decide +kernel
abbrev cX1_init : ByteArray := prog_3_method_1_code
def yX1_init : MethodName := ⟨RX1, "<init>", "()V"⟩
abbrev cX1_put : ByteArray := prog_3_method_2_code
def yX1_put : MethodName := ⟨RX1, "put", "(II)Z"⟩
abbrev cX1_consume : ByteArray := prog_3_method_3_code
def yX1_consume : MethodName := ⟨RX1, "consume", "()I"⟩
abbrev cX1_find : ByteArray := prog_3_method_4_code
def yX1_find : MethodName := ⟨RX1, "find", "(II)I"⟩
abbrev cX1_read : ByteArray := prog_3_method_5_code
def yX1_read : MethodName := ⟨RX1, "read", "(IIII)J"⟩
def RX2 : String := "RewritingTermination$LevelSearch"
def TX2 : u_T := fun k => match k with
  | 0 => ("RewritingTermination$Search", "digits", "[I", true)
  | 1 => ("RewritingTermination$LevelSearch", "letterCount", "I", false)
  | 2 => ("RewritingTermination$LevelSearch", "status", "I", false)
  | 3 => ("RewritingTermination$LevelSearch", "weightlessLetter", "I", false)
  | 4 => ("RewritingTermination$LevelSearch", "tied", "I", false)
  | 5 => ("RewritingTermination$LevelSearch", "left", "[J", true)
  | _ => ("RewritingTermination$LevelSearch", "right", "[J", true)
def tyX2 : Nat → FieldType := fun k => match k with
  | 0 => .array .int
  | 1 => .int
  | 2 => .int
  | 3 => .int
  | 4 => .int
  | 5 => .array .long
  | _ => .array .long
abbrev wsX20 : List Cond := u_ws RX2 TX2 7
theorem nmX2 : ∀ a, a < 7 → ∀ b, b < 7 → a ≠ b → (TX2 a).2.1 ≠ (TX2 b).2.1 := by decide +kernel
theorem tyX2_ok : ∀ k, k < 7 → parseFieldDescriptor (TX2 k).2.2.1 = some (tyX2 k) := by decide +kernel
abbrev cX2_init : ByteArray := prog_4_method_1_code
def yX2_init : MethodName := ⟨RX2, "<init>", "()V"⟩
abbrev cX2_prepare : ByteArray := prog_4_method_2_code
def yX2_prepare : MethodName := ⟨RX2, "prepare", "(LRewritingTermination$Rewriting;[I)Z"⟩
abbrev cX2_findWeightless : ByteArray := prog_4_method_3_code
def yX2_findWeightless : MethodName := ⟨RX2, "findWeightless", "([I)Z"⟩
abbrev cX2_findFor : ByteArray := prog_4_method_4_code
def yX2_findFor : MethodName := ⟨RX2, "findFor", "(I)Z"⟩
abbrev cX2_mayFit : ByteArray := prog_4_method_5_code
def yX2_mayFit : MethodName := ⟨RX2, "mayFit", "(I)Z"⟩
abbrev cX2_mayBeAdmissible : ByteArray := prog_4_method_6_code
def yX2_mayBeAdmissible : MethodName := ⟨RX2, "mayBeAdmissible", "(I)Z"⟩
abbrev cX2_mayOrient : ByteArray := prog_4_method_7_code
def yX2_mayOrient : MethodName := ⟨RX2, "mayOrient", "(JJI)Z"⟩
def RX3 : String := "RewritingTermination$LinearSearch"
def TX3 : u_T := fun k => match k with
  | 0 => ("RewritingTermination$Search", "digits", "[I", true)
  | 1 => ("RewritingTermination$LinearSearch", "rows", "I", false)
  | 2 => ("RewritingTermination$LinearSearch", "places", "I", false)
  | 3 => ("RewritingTermination$LinearSearch", "least", "I", false)
  | 4 => ("RewritingTermination$LinearSearch", "coefficients", "[[I", true)
  | 5 => ("RewritingTermination$LinearSearch", "mostFrom", "[[I", true)
  | 6 => ("RewritingTermination$LinearSearch", "sums", "[[I", true)
  | _ => ("RewritingTermination$LinearSearch", "zerosFit", "Z", false)
def tyX3 : Nat → FieldType := fun k => match k with
  | 0 => .array .int
  | 1 => .int
  | 2 => .int
  | 3 => .int
  | 4 => .array (.array .int)
  | 5 => .array (.array .int)
  | 6 => .array (.array .int)
  | _ => .boolean
abbrev wsX30 : List Cond := u_ws RX3 TX3 8
theorem nmX3 : ∀ a, a < 8 → ∀ b, b < 8 → a ≠ b → (TX3 a).2.1 ≠ (TX3 b).2.1 := by decide +kernel
theorem tyX3_ok : ∀ k, k < 8 → parseFieldDescriptor (TX3 k).2.2.1 = some (tyX3 k) := by decide +kernel
abbrev cX3_init : ByteArray := prog_5_method_1_code
def yX3_init : MethodName := ⟨RX3, "<init>", "()V"⟩
abbrev cX3_prepareWeights : ByteArray := prog_5_method_2_code
def yX3_prepareWeights : MethodName := ⟨RX3, "prepareWeights", "(LRewritingTermination$Rewriting;I)V"⟩
abbrev cX3_prepareCertificate : ByteArray := prog_5_method_3_code
def yX3_prepareCertificate : MethodName := ⟨RX3, "prepareCertificate", "(LRewritingTermination$Rewriting;I)V"⟩
abbrev cX3_boundRows : ByteArray := prog_5_method_4_code
def yX3_boundRows : MethodName := ⟨RX3, "boundRows", "(I)V"⟩
abbrev cX3_mayFit : ByteArray := prog_5_method_5_code
def yX3_mayFit : MethodName := ⟨RX3, "mayFit", "(I)Z"⟩
abbrev cX3_hasNonZero : ByteArray := prog_5_method_6_code
def yX3_hasNonZero : MethodName := ⟨RX3, "hasNonZero", "()Z"⟩
def RX4 : String := "RewritingTermination$Loop"
def TX4 : u_T := fun k => match k with
  | 0 => ("RewritingTermination$Loop", "steps", "I", false)
  | 1 => ("RewritingTermination$Loop", "rules", "[I", true)
  | _ => ("RewritingTermination$Loop", "positions", "[I", true)
def tyX4 : Nat → FieldType := fun k => match k with
  | 0 => .int
  | 1 => .array .int
  | _ => .array .int
abbrev wsX40 : List Cond := u_ws RX4 TX4 3
theorem nmX4 : ∀ a, a < 3 → ∀ b, b < 3 → a ≠ b → (TX4 a).2.1 ≠ (TX4 b).2.1 := by decide +kernel
theorem tyX4_ok : ∀ k, k < 3 → parseFieldDescriptor (TX4 k).2.2.1 = some (tyX4 k) := by decide +kernel
abbrev cX4_init : ByteArray := prog_6_method_1_code
def yX4_init : MethodName := ⟨RX4, "<init>", "()V"⟩
def RX5 : String := "RewritingTermination$Rewriting"
def TX5 : u_T := fun k => match k with
  | 0 => ("RewritingTermination$Rewriting", "letterCount", "I", false)
  | 1 => ("RewritingTermination$Rewriting", "rules", "I", false)
  | 2 => ("RewritingTermination$Rewriting", "left", "[J", true)
  | 3 => ("RewritingTermination$Rewriting", "right", "[J", true)
  | 4 => ("RewritingTermination$Rewriting", "balances", "[[I", true)
  | 5 => ("RewritingTermination$Rewriting", "weights", "[I", true)
  | 6 => ("RewritingTermination$Rewriting", "levels", "[I", true)
  | 7 => ("RewritingTermination$Rewriting", "status", "I", false)
  | 8 => ("RewritingTermination$Rewriting", "approximate", "[F", true)
  | _ => ("RewritingTermination$Rewriting", "string", "J", false)
def tyX5 : Nat → FieldType := fun k => match k with
  | 0 => .int
  | 1 => .int
  | 2 => .array .long
  | 3 => .array .long
  | 4 => .array (.array .int)
  | 5 => .array .int
  | 6 => .array .int
  | 7 => .int
  | 8 => .array .float
  | _ => .long
abbrev wsX50 : List Cond := u_ws RX5 TX5 10
theorem nmX5 : ∀ a, a < 10 → ∀ b, b < 10 → a ≠ b → (TX5 a).2.1 ≠ (TX5 b).2.1 := by decide +kernel
theorem tyX5_ok : ∀ k, k < 10 → parseFieldDescriptor (TX5 k).2.2.1 = some (tyX5 k) := by decide +kernel
abbrev cX5_init : ByteArray := prog_7_method_1_code
def yX5_init : MethodName := ⟨RX5, "<init>", "()V"⟩
abbrev cX5_begin : ByteArray := prog_7_method_2_code
def yX5_begin : MethodName := ⟨RX5, "begin", "(I)V"⟩
abbrev cX5_copyFrom : ByteArray := prog_7_method_3_code
def yX5_copyFrom : MethodName := ⟨RX5, "copyFrom", "(LRewritingTermination$Rewriting;)V"⟩
abbrev cX5_hasLetter : ByteArray := prog_7_method_4_code
def yX5_hasLetter : MethodName := ⟨RX5, "hasLetter", "(I)Z"⟩
abbrev cX5_hasRule : ByteArray := prog_7_method_5_code
def yX5_hasRule : MethodName := ⟨RX5, "hasRule", "(I)Z"⟩
abbrev cX5_putRule : ByteArray := prog_7_method_6_code
def yX5_putRule : MethodName := ⟨RX5, "putRule", "(JJ)I"⟩
abbrev cX5_dropRule : ByteArray := prog_7_method_7_code
def yX5_dropRule : MethodName := ⟨RX5, "dropRule", "(I)V"⟩
abbrev cX5_weightOf : ByteArray := prog_7_method_8_code
def yX5_weightOf : MethodName := ⟨RX5, "weightOf", "(J)I"⟩
abbrev cX5_compareWords : ByteArray := prog_7_method_9_code
def yX5_compareWords : MethodName := ⟨RX5, "compareWords", "(JJ)I"⟩
abbrev cX5_admissible : ByteArray := prog_7_method_10_code
def yX5_admissible : MethodName := ⟨RX5, "admissible", "()Z"⟩
abbrev cX5_isAboveOthers : ByteArray := prog_7_method_11_code
def yX5_isAboveOthers : MethodName := ⟨RX5, "isAboveOthers", "(I)Z"⟩
abbrev cX5_stepped : ByteArray := prog_7_method_12_code
def yX5_stepped : MethodName := ⟨RX5, "stepped", "(JII)J"⟩
abbrev cX5_firstStep : ByteArray := prog_7_method_13_code
def yX5_firstStep : MethodName := ⟨RX5, "firstStep", "(J)J"⟩
abbrev cX5_marginOf : ByteArray := prog_7_method_14_code
def yX5_marginOf : MethodName := ⟨RX5, "marginOf", "(I)F"⟩
abbrev cX5_widenMargin : ByteArray := prog_7_method_15_code
def yX5_widenMargin : MethodName := ⟨RX5, "widenMargin", "(I)V"⟩
def RX6 : String := "RewritingTermination$Search"
def TX6 : u_T := fun k => match k with
  | _ => ("", "", "", false)
def tyX6 : Nat → FieldType := fun k => match k with
  | _ => .int
abbrev wsX60 : List Cond := u_ws RX6 TX6 0
theorem nmX6 : ∀ a, a < 0 → ∀ b, b < 0 → a ≠ b → (TX6 a).2.1 ≠ (TX6 b).2.1 := by decide +kernel
theorem tyX6_ok : ∀ k, k < 0 → parseFieldDescriptor (TX6 k).2.2.1 = some (tyX6 k) := by decide +kernel
abbrev cX6_init : ByteArray := prog_8_method_1_code
def yX6_init : MethodName := ⟨RX6, "<init>", "()V"⟩
abbrev cX6_findFirst : ByteArray := prog_8_method_3_code
def yX6_findFirst : MethodName := ⟨RX6, "findFirst", "(II)Z"⟩
abbrev cX6_advance : ByteArray := prog_8_method_4_code
def yX6_advance : MethodName := ⟨RX6, "advance", "(II)I"⟩
def RX7 : String := "RewritingTermination$Slot"
def TX7 : u_T := fun k => match k with
  | 0 => ("RewritingTermination$Slot", "type", "I", false)
  | 1 => ("RewritingTermination$Slot", "size", "I", false)
  | 2 => ("RewritingTermination$Slot", "wholes", "[J", true)
  | 3 => ("RewritingTermination$Slot", "floats", "[F", true)
  | _ => ("RewritingTermination$Slot", "doubles", "[D", true)
def tyX7 : Nat → FieldType := fun k => match k with
  | 0 => .int
  | 1 => .int
  | 2 => .array .long
  | 3 => .array .float
  | _ => .array .double
abbrev wsX70 : List Cond := u_ws RX7 TX7 5
theorem nmX7 : ∀ a, a < 5 → ∀ b, b < 5 → a ≠ b → (TX7 a).2.1 ≠ (TX7 b).2.1 := by decide +kernel
theorem tyX7_ok : ∀ k, k < 5 → parseFieldDescriptor (TX7 k).2.2.1 = some (tyX7 k) := by decide +kernel
abbrev cX7_init : ByteArray := prog_9_method_1_code
def yX7_init : MethodName := ⟨RX7, "<init>", "()V"⟩
abbrev cX7_isFree : ByteArray := prog_9_method_2_code
def yX7_isFree : MethodName := ⟨RX7, "isFree", "()Z"⟩
abbrev cX7_fill : ByteArray := prog_9_method_3_code
def yX7_fill : MethodName := ⟨RX7, "fill", "(II)V"⟩
abbrev cX7_hasIndex : ByteArray := prog_9_method_4_code
def yX7_hasIndex : MethodName := ⟨RX7, "hasIndex", "(I)Z"⟩
abbrev cX7_hasRange : ByteArray := prog_9_method_5_code
def yX7_hasRange : MethodName := ⟨RX7, "hasRange", "(II)Z"⟩
abbrev cX7_put : ByteArray := prog_9_method_6_code
def yX7_put : MethodName := ⟨RX7, "put", "(IJ)V"⟩
abbrev cX7_divide : ByteArray := prog_9_method_7_code
def yX7_divide : MethodName := ⟨RX7, "divide", "(II)V"⟩
abbrev cX7_asLong : ByteArray := prog_9_method_8_code
def yX7_asLong : MethodName := ⟨RX7, "asLong", "(I)J"⟩
abbrev cX7_copyFrom : ByteArray := prog_9_method_9_code
def yX7_copyFrom : MethodName := ⟨RX7, "copyFrom", "(LRewritingTermination$Slot;III)V"⟩
def RX8 : String := "RewritingTermination$Word"
def TX8 : u_T := fun k => match k with
  | _ => ("", "", "", false)
def tyX8 : Nat → FieldType := fun k => match k with
  | _ => .int
abbrev wsX80 : List Cond := u_ws RX8 TX8 0
theorem nmX8 : ∀ a, a < 0 → ∀ b, b < 0 → a ≠ b → (TX8 a).2.1 ≠ (TX8 b).2.1 := by decide +kernel
theorem tyX8_ok : ∀ k, k < 0 → parseFieldDescriptor (TX8 k).2.2.1 = some (tyX8 k) := by decide +kernel
abbrev cX8_sizeOf : ByteArray := prog_10_method_2_code
def yX8_sizeOf : MethodName := ⟨RX8, "sizeOf", "(J)I"⟩
abbrev cX8_letterAt : ByteArray := prog_10_method_3_code
def yX8_letterAt : MethodName := ⟨RX8, "letterAt", "(JI)I"⟩
abbrev cX8_letterFrom : ByteArray := prog_10_method_4_code
def yX8_letterFrom : MethodName := ⟨RX8, "letterFrom", "(JII)I"⟩
abbrev cX8_make : ByteArray := prog_10_method_5_code
def yX8_make : MethodName := ⟨RX8, "make", "(IJ)J"⟩
abbrev cX8_lettersOf : ByteArray := prog_10_method_6_code
def yX8_lettersOf : MethodName := ⟨RX8, "lettersOf", "(J)J"⟩
abbrev cX8_lowest : ByteArray := prog_10_method_7_code
def yX8_lowest : MethodName := ⟨RX8, "lowest", "(JI)J"⟩
abbrev cX8_extended : ByteArray := prog_10_method_8_code
def yX8_extended : MethodName := ⟨RX8, "extended", "(JI)J"⟩
abbrev cX8_lettersIn : ByteArray := prog_10_method_9_code
def yX8_lettersIn : MethodName := ⟨RX8, "lettersIn", "(J)I"⟩
abbrev cX8_occursAt : ByteArray := prog_10_method_10_code
def yX8_occursAt : MethodName := ⟨RX8, "occursAt", "(JJI)Z"⟩
abbrev cX8_occurs : ByteArray := prog_10_method_11_code
def yX8_occurs : MethodName := ⟨RX8, "occurs", "(JJ)Z"⟩
abbrev cX8_replaced : ByteArray := prog_10_method_12_code
def yX8_replaced : MethodName := ⟨RX8, "replaced", "(JIJJ)J"⟩
def RX9 : String := "RewritingTermination"
def TX9 : u_T := fun k => match k with
  | 0 => ("RewritingTermination", "now", "LRewritingTermination$Rewriting;", true)
  | 1 => ("RewritingTermination", "saved", "LRewritingTermination$Rewriting;", true)
  | 2 => ("RewritingTermination", "hasSnapshot", "Z", false)
  | 3 => ("RewritingTermination", "input", "LRewritingTermination$Input;", true)
  | 4 => ("RewritingTermination", "loop", "LRewritingTermination$Loop;", true)
  | 5 => ("RewritingTermination", "found", "LRewritingTermination$Found;", true)
  | 6 => ("RewritingTermination", "linearSearch", "LRewritingTermination$LinearSearch;", true)
  | 7 => ("RewritingTermination", "levelSearch", "LRewritingTermination$LevelSearch;", true)
  | 8 => ("RewritingTermination", "triedWeights", "[I", true)
  | _ => ("RewritingTermination", "slots", "[LRewritingTermination$Slot;", true)
def tyX9 : Nat → FieldType := fun k => match k with
  | 0 => .object "RewritingTermination$Rewriting"
  | 1 => .object "RewritingTermination$Rewriting"
  | 2 => .boolean
  | 3 => .object "RewritingTermination$Input"
  | 4 => .object "RewritingTermination$Loop"
  | 5 => .object "RewritingTermination$Found"
  | 6 => .object "RewritingTermination$LinearSearch"
  | 7 => .object "RewritingTermination$LevelSearch"
  | 8 => .array .int
  | _ => .array (.object "RewritingTermination$Slot")
abbrev wsX90 : List Cond := u_ws RX9 TX9 10
theorem nmX9 : ∀ a, a < 10 → ∀ b, b < 10 → a ≠ b → (TX9 a).2.1 ≠ (TX9 b).2.1 := by decide +kernel
theorem tyX9_ok : ∀ k, k < 10 → parseFieldDescriptor (TX9 k).2.2.1 = some (tyX9 k) := by decide +kernel
abbrev cX9_init : ByteArray := prog_1_method_1_code
def yX9_init : MethodName := ⟨RX9, "<init>", "()V"⟩
abbrev cX9_reset : ByteArray := prog_1_method_2_code
def yX9_reset : MethodName := ⟨RX9, "reset", "(I)I"⟩
abbrev cX9_letters : ByteArray := prog_1_method_3_code
def yX9_letters : MethodName := ⟨RX9, "letters", "()I"⟩
abbrev cX9_append : ByteArray := prog_1_method_4_code
def yX9_append : MethodName := ⟨RX9, "append", "(II)I"⟩
abbrev cX9_clearInput : ByteArray := prog_1_method_5_code
def yX9_clearInput : MethodName := ⟨RX9, "clearInput", "()I"⟩
abbrev cX9_addRule : ByteArray := prog_1_method_6_code
def yX9_addRule : MethodName := ⟨RX9, "addRule", "()I"⟩
abbrev cX9_removeRule : ByteArray := prog_1_method_7_code
def yX9_removeRule : MethodName := ⟨RX9, "removeRule", "(I)I"⟩
abbrev cX9_ruleCount : ByteArray := prog_1_method_8_code
def yX9_ruleCount : MethodName := ⟨RX9, "ruleCount", "()I"⟩
abbrev cX9_ruleLetter : ByteArray := prog_1_method_9_code
def yX9_ruleLetter : MethodName := ⟨RX9, "ruleLetter", "(III)I"⟩
abbrev cX9_balance : ByteArray := prog_1_method_10_code
def yX9_balance : MethodName := ⟨RX9, "balance", "(II)I"⟩
abbrev cX9_setWeight : ByteArray := prog_1_method_11_code
def yX9_setWeight : MethodName := ⟨RX9, "setWeight", "(II)I"⟩
abbrev cX9_weight : ByteArray := prog_1_method_12_code
def yX9_weight : MethodName := ⟨RX9, "weight", "(I)I"⟩
abbrev cX9_setLevel : ByteArray := prog_1_method_13_code
def yX9_setLevel : MethodName := ⟨RX9, "setLevel", "(II)I"⟩
abbrev cX9_level : ByteArray := prog_1_method_14_code
def yX9_level : MethodName := ⟨RX9, "level", "(I)I"⟩
abbrev cX9_setStatus : ByteArray := prog_1_method_15_code
def yX9_setStatus : MethodName := ⟨RX9, "setStatus", "(I)I"⟩
abbrev cX9_isAdmissible : ByteArray := prog_1_method_16_code
def yX9_isAdmissible : MethodName := ⟨RX9, "isAdmissible", "()I"⟩
abbrev cX9_compareSides : ByteArray := prog_1_method_17_code
def yX9_compareSides : MethodName := ⟨RX9, "compareSides", "(I)I"⟩
abbrev cX9_compareWithInput : ByteArray := prog_1_method_18_code
def yX9_compareWithInput : MethodName := ⟨RX9, "compareWithInput", "()I"⟩
abbrev cX9_firstUnoriented : ByteArray := prog_1_method_19_code
def yX9_firstUnoriented : MethodName := ⟨RX9, "firstUnoriented", "()I"⟩
abbrev cX9_findWeights : ByteArray := prog_1_method_20_code
def yX9_findWeights : MethodName := ⟨RX9, "findWeights", "(I)I"⟩
abbrev cX9_findCertificate : ByteArray := prog_1_method_21_code
def yX9_findCertificate : MethodName := ⟨RX9, "findCertificate", "()I"⟩
abbrev cX9_findLevels : ByteArray := prog_1_method_22_code
def yX9_findLevels : MethodName := ⟨RX9, "findLevels", "()I"⟩
abbrev cX9_findOrder : ByteArray := prog_1_method_23_code
def yX9_findOrder : MethodName := ⟨RX9, "findOrder", "()I"⟩
abbrev cX9_reachableLetters : ByteArray := prog_1_method_24_code
def yX9_reachableLetters : MethodName := ⟨RX9, "reachableLetters", "(I)I"⟩
abbrev cX9_setString : ByteArray := prog_1_method_25_code
def yX9_setString : MethodName := ⟨RX9, "setString", "()I"⟩
abbrev cX9_stringLength : ByteArray := prog_1_method_26_code
def yX9_stringLength : MethodName := ⟨RX9, "stringLength", "()I"⟩
abbrev cX9_stringLetter : ByteArray := prog_1_method_27_code
def yX9_stringLetter : MethodName := ⟨RX9, "stringLetter", "(I)I"⟩
abbrev cX9_stringWeight : ByteArray := prog_1_method_28_code
def yX9_stringWeight : MethodName := ⟨RX9, "stringWeight", "()I"⟩
abbrev cX9_rewrite : ByteArray := prog_1_method_29_code
def yX9_rewrite : MethodName := ⟨RX9, "rewrite", "(II)I"⟩
abbrev cX9_normalize : ByteArray := prog_1_method_30_code
def yX9_normalize : MethodName := ⟨RX9, "normalize", "(I)I"⟩
abbrev cX9_longestDerivation : ByteArray := prog_1_method_31_code
def yX9_longestDerivation : MethodName := ⟨RX9, "longestDerivation", "()I"⟩
abbrev cX9_findLoop : ByteArray := prog_1_method_32_code
def yX9_findLoop : MethodName := ⟨RX9, "findLoop", "(I)I"⟩
abbrev cX9_loopStep : ByteArray := prog_1_method_33_code
def yX9_loopStep : MethodName := ⟨RX9, "loopStep", "(II)I"⟩
abbrev cX9_improve : ByteArray := prog_1_method_34_code
def yX9_improve : MethodName := ⟨RX9, "improve", "(I)I"⟩
abbrev cX9_setApproximateWeight : ByteArray := prog_1_method_35_code
def yX9_setApproximateWeight : MethodName := ⟨RX9, "setApproximateWeight", "(III)I"⟩
abbrev cX9_approximateWeight : ByteArray := prog_1_method_36_code
def yX9_approximateWeight : MethodName := ⟨RX9, "approximateWeight", "(I)J"⟩
abbrev cX9_margin : ByteArray := prog_1_method_37_code
def yX9_margin : MethodName := ⟨RX9, "margin", "(I)J"⟩
abbrev cX9_roundWeights : ByteArray := prog_1_method_38_code
def yX9_roundWeights : MethodName := ⟨RX9, "roundWeights", "(I)I"⟩
abbrev cX9_allocate : ByteArray := prog_1_method_39_code
def yX9_allocate : MethodName := ⟨RX9, "allocate", "(III)I"⟩
abbrev cX9_release : ByteArray := prog_1_method_40_code
def yX9_release : MethodName := ⟨RX9, "release", "(I)I"⟩
abbrev cX9_putElement : ByteArray := prog_1_method_41_code
def yX9_putElement : MethodName := ⟨RX9, "putElement", "(IIJ)I"⟩
abbrev cX9_divideElement : ByteArray := prog_1_method_42_code
def yX9_divideElement : MethodName := ⟨RX9, "divideElement", "(III)I"⟩
abbrev cX9_element : ByteArray := prog_1_method_43_code
def yX9_element : MethodName := ⟨RX9, "element", "(II)J"⟩
abbrev cX9_copyElements : ByteArray := prog_1_method_44_code
def yX9_copyElements : MethodName := ⟨RX9, "copyElements", "(IIIII)I"⟩
abbrev cX9_checkCertificate : ByteArray := prog_1_method_45_code
def yX9_checkCertificate : MethodName := ⟨RX9, "checkCertificate", "(I)I"⟩
abbrev cX9_snapshot : ByteArray := prog_1_method_46_code
def yX9_snapshot : MethodName := ⟨RX9, "snapshot", "()I"⟩
abbrev cX9_restore : ByteArray := prog_1_method_47_code
def yX9_restore : MethodName := ⟨RX9, "restore", "()I"⟩
abbrev cX9_letterOrNone : ByteArray := prog_1_method_48_code
def yX9_letterOrNone : MethodName := ⟨RX9, "letterOrNone", "(JI)I"⟩
abbrev cX9_takeString : ByteArray := prog_1_method_49_code
def yX9_takeString : MethodName := ⟨RX9, "takeString", "()J"⟩
abbrev cX9_takeFoundLevels : ByteArray := prog_1_method_50_code
def yX9_takeFoundLevels : MethodName := ⟨RX9, "takeFoundLevels", "()V"⟩
abbrev cX9_writeTriedWeights : ByteArray := prog_1_method_51_code
def yX9_writeTriedWeights : MethodName := ⟨RX9, "writeTriedWeights", "(I)V"⟩
abbrev cX9_takeFoundOrder : ByteArray := prog_1_method_52_code
def yX9_takeFoundOrder : MethodName := ⟨RX9, "takeFoundOrder", "(I)V"⟩
abbrev cX9_millionths : ByteArray := prog_1_method_53_code
def yX9_millionths : MethodName := ⟨RX9, "millionths", "(F)J"⟩
abbrev cX9_roundedWeight : ByteArray := prog_1_method_54_code
def yX9_roundedWeight : MethodName := ⟨RX9, "roundedWeight", "(D)I"⟩
abbrev cX9_isSlot : ByteArray := prog_1_method_55_code
def yX9_isSlot : MethodName := ⟨RX9, "isSlot", "(I)Z"⟩
abbrev cX9_isCertificate : ByteArray := prog_1_method_56_code
def yX9_isCertificate : MethodName := ⟨RX9, "isCertificate", "([J)Z"⟩
def RX10 : String := "RewritingTerminationModel"
def TX10 : u_T := fun k => match k with
  | 0 => ("RewritingTerminationModel", "n", "I", false)
  | 1 => ("RewritingTerminationModel", "rules", "I", false)
  | 2 => ("RewritingTerminationModel", "sideSize", "[I", true)
  | 3 => ("RewritingTerminationModel", "side", "[I", true)
  | 4 => ("RewritingTerminationModel", "weight", "[I", true)
  | 5 => ("RewritingTerminationModel", "level", "[I", true)
  | 6 => ("RewritingTerminationModel", "status", "I", false)
  | 7 => ("RewritingTerminationModel", "about", "[F", true)
  | 8 => ("RewritingTerminationModel", "input", "[I", true)
  | 9 => ("RewritingTerminationModel", "fed", "I", false)
  | 10 => ("RewritingTerminationModel", "string", "[I", true)
  | 11 => ("RewritingTerminationModel", "size", "I", false)
  | 12 => ("RewritingTerminationModel", "loopSize", "I", false)
  | 13 => ("RewritingTerminationModel", "loopRule", "[I", true)
  | 14 => ("RewritingTerminationModel", "loopAt", "[I", true)
  | 15 => ("RewritingTerminationModel", "type", "[I", true)
  | 16 => ("RewritingTerminationModel", "length", "[I", true)
  | 17 => ("RewritingTerminationModel", "whole", "[J", true)
  | 18 => ("RewritingTerminationModel", "single", "[F", true)
  | 19 => ("RewritingTerminationModel", "twofold", "[D", true)
  | 20 => ("RewritingTerminationModel", "hasShot", "Z", false)
  | 21 => ("RewritingTerminationModel", "shotN", "I", false)
  | 22 => ("RewritingTerminationModel", "shotRules", "I", false)
  | 23 => ("RewritingTerminationModel", "shotSideSize", "[I", true)
  | 24 => ("RewritingTerminationModel", "shotSide", "[I", true)
  | 25 => ("RewritingTerminationModel", "shotWeight", "[I", true)
  | 26 => ("RewritingTerminationModel", "shotLevel", "[I", true)
  | 27 => ("RewritingTerminationModel", "shotStatus", "I", false)
  | 28 => ("RewritingTerminationModel", "shotAbout", "[F", true)
  | 29 => ("RewritingTerminationModel", "shotString", "[I", true)
  | 30 => ("RewritingTerminationModel", "shotSize", "I", false)
  | 31 => ("RewritingTerminationModel", "one", "[I", true)
  | 32 => ("RewritingTerminationModel", "two", "[I", true)
  | 33 => ("RewritingTerminationModel", "sought", "[I", true)
  | 34 => ("RewritingTerminationModel", "hadLevel", "[I", true)
  | 35 => ("RewritingTerminationModel", "hadWeight", "[I", true)
  | 36 => ("RewritingTerminationModel", "found", "[J", true)
  | 37 => ("RewritingTerminationModel", "from", "[I", true)
  | 38 => ("RewritingTerminationModel", "byRule", "[I", true)
  | 39 => ("RewritingTerminationModel", "byAt", "[I", true)
  | 40 => ("RewritingTerminationModel", "many", "I", false)
  | 41 => ("RewritingTerminationModel", "deepest", "[I", true)
  | 42 => ("RewritingTerminationModel", "arcs", "[I", true)
  | _ => ("RewritingTerminationModel", "arcMany", "[I", true)
def tyX10 : Nat → FieldType := fun k => match k with
  | 0 => .int
  | 1 => .int
  | 2 => .array .int
  | 3 => .array .int
  | 4 => .array .int
  | 5 => .array .int
  | 6 => .int
  | 7 => .array .float
  | 8 => .array .int
  | 9 => .int
  | 10 => .array .int
  | 11 => .int
  | 12 => .int
  | 13 => .array .int
  | 14 => .array .int
  | 15 => .array .int
  | 16 => .array .int
  | 17 => .array .long
  | 18 => .array .float
  | 19 => .array .double
  | 20 => .boolean
  | 21 => .int
  | 22 => .int
  | 23 => .array .int
  | 24 => .array .int
  | 25 => .array .int
  | 26 => .array .int
  | 27 => .int
  | 28 => .array .float
  | 29 => .array .int
  | 30 => .int
  | 31 => .array .int
  | 32 => .array .int
  | 33 => .array .int
  | 34 => .array .int
  | 35 => .array .int
  | 36 => .array .long
  | 37 => .array .int
  | 38 => .array .int
  | 39 => .array .int
  | 40 => .int
  | 41 => .array .int
  | 42 => .array .int
  | _ => .array .int
abbrev wsX100 : List Cond := u_ws RX10 TX10 44
theorem nmX10 : ∀ a, a < 44 → ∀ b, b < 44 → a ≠ b → (TX10 a).2.1 ≠ (TX10 b).2.1 := by decide +kernel
theorem tyX10_ok : ∀ k, k < 44 → parseFieldDescriptor (TX10 k).2.2.1 = some (tyX10 k) := by decide +kernel
abbrev cX10_init : ByteArray := prog_12_method_1_code
def yX10_init : MethodName := ⟨RX10, "<init>", "()V"⟩
abbrev cX10_in : ByteArray := prog_12_method_2_code
def yX10_in : MethodName := ⟨RX10, "in", "(JJJ)Z"⟩
abbrev cX10_isLetter : ByteArray := prog_12_method_3_code
def yX10_isLetter : MethodName := ⟨RX10, "isLetter", "(I)Z"⟩
abbrev cX10_isRule : ByteArray := prog_12_method_4_code
def yX10_isRule : MethodName := ⟨RX10, "isRule", "(I)Z"⟩
abbrev cX10_reset : ByteArray := prog_12_method_5_code
def yX10_reset : MethodName := ⟨RX10, "reset", "(I)I"⟩
abbrev cX10_letters : ByteArray := prog_12_method_6_code
def yX10_letters : MethodName := ⟨RX10, "letters", "()I"⟩
abbrev cX10_append : ByteArray := prog_12_method_7_code
def yX10_append : MethodName := ⟨RX10, "append", "(II)I"⟩
abbrev cX10_clearInput : ByteArray := prog_12_method_8_code
def yX10_clearInput : MethodName := ⟨RX10, "clearInput", "()I"⟩
abbrev cX10_lettersFrom : ByteArray := prog_12_method_9_code
def yX10_lettersFrom : MethodName := ⟨RX10, "lettersFrom", "(I)I"⟩
abbrev cX10_addRule : ByteArray := prog_12_method_10_code
def yX10_addRule : MethodName := ⟨RX10, "addRule", "()I"⟩
abbrev cX10_removeRule : ByteArray := prog_12_method_11_code
def yX10_removeRule : MethodName := ⟨RX10, "removeRule", "(I)I"⟩
abbrev cX10_ruleCount : ByteArray := prog_12_method_12_code
def yX10_ruleCount : MethodName := ⟨RX10, "ruleCount", "()I"⟩
abbrev cX10_ruleLetter : ByteArray := prog_12_method_13_code
def yX10_ruleLetter : MethodName := ⟨RX10, "ruleLetter", "(III)I"⟩
abbrev cX10_occurs : ByteArray := prog_12_method_14_code
def yX10_occurs : MethodName := ⟨RX10, "occurs", "(III)I"⟩
abbrev cX10_balanceOf : ByteArray := prog_12_method_15_code
def yX10_balanceOf : MethodName := ⟨RX10, "balanceOf", "(II)I"⟩
abbrev cX10_balance : ByteArray := prog_12_method_16_code
def yX10_balance : MethodName := ⟨RX10, "balance", "(II)I"⟩
abbrev cX10_setWeight : ByteArray := prog_12_method_17_code
def yX10_setWeight : MethodName := ⟨RX10, "setWeight", "(II)I"⟩
abbrev cX10_weight : ByteArray := prog_12_method_18_code
def yX10_weight : MethodName := ⟨RX10, "weight", "(I)I"⟩
abbrev cX10_setLevel : ByteArray := prog_12_method_19_code
def yX10_setLevel : MethodName := ⟨RX10, "setLevel", "(II)I"⟩
abbrev cX10_level : ByteArray := prog_12_method_20_code
def yX10_level : MethodName := ⟨RX10, "level", "(I)I"⟩
abbrev cX10_setStatus : ByteArray := prog_12_method_21_code
def yX10_setStatus : MethodName := ⟨RX10, "setStatus", "(I)I"⟩
abbrev cX10_isGood : ByteArray := prog_12_method_22_code
def yX10_isGood : MethodName := ⟨RX10, "isGood", "()Z"⟩
abbrev cX10_isAdmissible : ByteArray := prog_12_method_23_code
def yX10_isAdmissible : MethodName := ⟨RX10, "isAdmissible", "()I"⟩
abbrev cX10_compared : ByteArray := prog_12_method_24_code
def yX10_compared : MethodName := ⟨RX10, "compared", "(II)I"⟩
abbrev cX10_sidesOf : ByteArray := prog_12_method_25_code
def yX10_sidesOf : MethodName := ⟨RX10, "sidesOf", "(I)I"⟩
abbrev cX10_compareSides : ByteArray := prog_12_method_26_code
def yX10_compareSides : MethodName := ⟨RX10, "compareSides", "(I)I"⟩
abbrev cX10_taken : ByteArray := prog_12_method_27_code
def yX10_taken : MethodName := ⟨RX10, "taken", "()I"⟩
abbrev cX10_compareWithInput : ByteArray := prog_12_method_28_code
def yX10_compareWithInput : MethodName := ⟨RX10, "compareWithInput", "()I"⟩
abbrev cX10_firstUnoriented : ByteArray := prog_12_method_29_code
def yX10_firstUnoriented : MethodName := ⟨RX10, "firstUnoriented", "()I"⟩
abbrev cX10_next : ByteArray := prog_12_method_30_code
def yX10_next : MethodName := ⟨RX10, "next", "(II)Z"⟩
abbrev cX10_begin : ByteArray := prog_12_method_31_code
def yX10_begin : MethodName := ⟨RX10, "begin", "()V"⟩
abbrev cX10_less : ByteArray := prog_12_method_32_code
def yX10_less : MethodName := ⟨RX10, "less", "(I)I"⟩
abbrev cX10_findWeights : ByteArray := prog_12_method_33_code
def yX10_findWeights : MethodName := ⟨RX10, "findWeights", "(I)I"⟩
abbrev cX10_findCertificate : ByteArray := prog_12_method_34_code
def yX10_findCertificate : MethodName := ⟨RX10, "findCertificate", "()I"⟩
abbrev cX10_levels : ByteArray := prog_12_method_35_code
def yX10_levels : MethodName := ⟨RX10, "levels", "()Z"⟩
abbrev cX10_findLevels : ByteArray := prog_12_method_36_code
def yX10_findLevels : MethodName := ⟨RX10, "findLevels", "()I"⟩
abbrev cX10_findOrder : ByteArray := prog_12_method_37_code
def yX10_findOrder : MethodName := ⟨RX10, "findOrder", "()I"⟩
abbrev cX10_reachableLetters : ByteArray := prog_12_method_38_code
def yX10_reachableLetters : MethodName := ⟨RX10, "reachableLetters", "(I)I"⟩
abbrev cX10_setString : ByteArray := prog_12_method_39_code
def yX10_setString : MethodName := ⟨RX10, "setString", "()I"⟩
abbrev cX10_stringLength : ByteArray := prog_12_method_40_code
def yX10_stringLength : MethodName := ⟨RX10, "stringLength", "()I"⟩
abbrev cX10_stringLetter : ByteArray := prog_12_method_41_code
def yX10_stringLetter : MethodName := ⟨RX10, "stringLetter", "(I)I"⟩
abbrev cX10_stringWeight : ByteArray := prog_12_method_42_code
def yX10_stringWeight : MethodName := ⟨RX10, "stringWeight", "()I"⟩
abbrev cX10_sizeOf : ByteArray := prog_12_method_43_code
def yX10_sizeOf : MethodName := ⟨RX10, "sizeOf", "(J)I"⟩
abbrev cX10_letterOf : ByteArray := prog_12_method_44_code
def yX10_letterOf : MethodName := ⟨RX10, "letterOf", "(JII)I"⟩
abbrev cX10_with : ByteArray := prog_12_method_45_code
def yX10_with : MethodName := ⟨RX10, "with", "(JI)J"⟩
abbrev cX10_stands : ByteArray := prog_12_method_46_code
def yX10_stands : MethodName := ⟨RX10, "stands", "(JIII)Z"⟩
abbrev cX10_stepped : ByteArray := prog_12_method_47_code
def yX10_stepped : MethodName := ⟨RX10, "stepped", "(JII)J"⟩
abbrev cX10_current : ByteArray := prog_12_method_48_code
def yX10_current : MethodName := ⟨RX10, "current", "()J"⟩
abbrev cX10_becomes : ByteArray := prog_12_method_49_code
def yX10_becomes : MethodName := ⟨RX10, "becomes", "(J)V"⟩
abbrev cX10_rewrite : ByteArray := prog_12_method_50_code
def yX10_rewrite : MethodName := ⟨RX10, "rewrite", "(II)I"⟩
abbrev cX10_steps : ByteArray := prog_12_method_51_code
def yX10_steps : MethodName := ⟨RX10, "steps", "()Z"⟩
abbrev cX10_normalize : ByteArray := prog_12_method_52_code
def yX10_normalize : MethodName := ⟨RX10, "normalize", "(I)I"⟩
abbrev cX10_placeOf : ByteArray := prog_12_method_53_code
def yX10_placeOf : MethodName := ⟨RX10, "placeOf", "(J)I"⟩
abbrev cX10_longestDerivation : ByteArray := prog_12_method_54_code
def yX10_longestDerivation : MethodName := ⟨RX10, "longestDerivation", "()I"⟩
abbrev cX10_deepestOf : ByteArray := prog_12_method_55_code
def yX10_deepestOf : MethodName := ⟨RX10, "deepestOf", "()I"⟩
abbrev cX10_contains : ByteArray := prog_12_method_56_code
def yX10_contains : MethodName := ⟨RX10, "contains", "(JI)Z"⟩
abbrev cX10_findLoop : ByteArray := prog_12_method_57_code
def yX10_findLoop : MethodName := ⟨RX10, "findLoop", "(I)I"⟩
abbrev cX10_loops : ByteArray := prog_12_method_58_code
def yX10_loops : MethodName := ⟨RX10, "loops", "(III)I"⟩
abbrev cX10_loopStep : ByteArray := prog_12_method_59_code
def yX10_loopStep : MethodName := ⟨RX10, "loopStep", "(II)I"⟩
abbrev cX10_marginOf : ByteArray := prog_12_method_60_code
def yX10_marginOf : MethodName := ⟨RX10, "marginOf", "(I)F"⟩
abbrev cX10_improve : ByteArray := prog_12_method_61_code
def yX10_improve : MethodName := ⟨RX10, "improve", "(I)I"⟩
abbrev cX10_setApproximateWeight : ByteArray := prog_12_method_62_code
def yX10_setApproximateWeight : MethodName := ⟨RX10, "setApproximateWeight", "(III)I"⟩
abbrev cX10_approximateWeight : ByteArray := prog_12_method_63_code
def yX10_approximateWeight : MethodName := ⟨RX10, "approximateWeight", "(I)J"⟩
abbrev cX10_margin : ByteArray := prog_12_method_64_code
def yX10_margin : MethodName := ⟨RX10, "margin", "(I)J"⟩
abbrev cX10_roundWeights : ByteArray := prog_12_method_65_code
def yX10_roundWeights : MethodName := ⟨RX10, "roundWeights", "(I)I"⟩
abbrev cX10_isSlot : ByteArray := prog_12_method_66_code
def yX10_isSlot : MethodName := ⟨RX10, "isSlot", "(I)Z"⟩
abbrev cX10_allocate : ByteArray := prog_12_method_67_code
def yX10_allocate : MethodName := ⟨RX10, "allocate", "(III)I"⟩
abbrev cX10_release : ByteArray := prog_12_method_68_code
def yX10_release : MethodName := ⟨RX10, "release", "(I)I"⟩
abbrev cX10_isPlace : ByteArray := prog_12_method_69_code
def yX10_isPlace : MethodName := ⟨RX10, "isPlace", "(II)Z"⟩
abbrev cX10_putElement : ByteArray := prog_12_method_70_code
def yX10_putElement : MethodName := ⟨RX10, "putElement", "(IIJ)I"⟩
abbrev cX10_divideElement : ByteArray := prog_12_method_71_code
def yX10_divideElement : MethodName := ⟨RX10, "divideElement", "(III)I"⟩
abbrev cX10_element : ByteArray := prog_12_method_72_code
def yX10_element : MethodName := ⟨RX10, "element", "(II)J"⟩
abbrev cX10_copyElements : ByteArray := prog_12_method_73_code
def yX10_copyElements : MethodName := ⟨RX10, "copyElements", "(IIIII)I"⟩
abbrev cX10_checkCertificate : ByteArray := prog_12_method_74_code
def yX10_checkCertificate : MethodName := ⟨RX10, "checkCertificate", "(I)I"⟩
abbrev cX10_snapshot : ByteArray := prog_12_method_75_code
def yX10_snapshot : MethodName := ⟨RX10, "snapshot", "()I"⟩
abbrev cX10_restore : ByteArray := prog_12_method_76_code
def yX10_restore : MethodName := ⟨RX10, "restore", "()I"⟩
def RJx145de : String := "java/io/Serializable"
def RJxb160c : String := "java/lang/Comparable"
def RJxe99ae : String := "java/lang/Double"
def RJ9 : String := "java/lang/Math"
abbrev cJ9_rint_294c1 : ByteArray := prog_14_method_18_code
def yJ9_rint_294c1 : MethodName := ⟨RJ9, "rint", "(D)D"⟩
abbrev cJ9_abs_294c1 : ByteArray := prog_14_method_64_code
def yJ9_abs_294c1 : MethodName := ⟨RJ9, "abs", "(D)D"⟩
abbrev cJ9_max_7cf53 : ByteArray := prog_14_method_65_code
def yJ9_max_7cf53 : MethodName := ⟨RJ9, "max", "(II)I"⟩
abbrev cJ9_min_7cf53 : ByteArray := prog_14_method_69_code
def yJ9_min_7cf53 : MethodName := ⟨RJ9, "min", "(II)I"⟩
abbrev cJ9_copySign_eb370 : ByteArray := prog_14_method_89_code
def yJ9_copySign_eb370 : MethodName := ⟨RJ9, "copySign", "(DD)D"⟩
def RJxd2413 : String := "java/lang/Number"
def RJxfc994 : String := "java/lang/StrictMath"
abbrev cJxfc994_rint_294c1 : ByteArray := prog_16_method_19_code
def yJxfc994_rint_294c1 : MethodName := ⟨RJxfc994, "rint", "(D)D"⟩
def RJ10 : String := "java/lang/System"
def RJxfd54e : String := "java/lang/constant/Constable"
def RJx3cf43 : String := "java/lang/constant/ConstantDesc"
def RJ7 : String := "java/util/Arrays"
abbrev cJ7_fill_53178 : ByteArray := prog_18_method_103_code
def yJ7_fill_53178 : MethodName := ⟨RJ7, "fill", "([II)V"⟩
def RL : String := "RewritingTerminationLaw"
abbrev cL_law : ByteArray := code
def yL_law : MethodName := ⟨RL, "law", "([I)Z"⟩
end
section
theorem dX0_init_0 : decode cX0_init 0 = .ok (.aload_n 0, 1) := by decide +kernel
theorem dX0_init_1 : decode cX0_init 1 = .ok (.invokespecial 3, 3) := by decide +kernel
theorem dX0_init_4 : decode cX0_init 4 = .ok (.aload_n 0, 1) := by decide +kernel
theorem dX0_init_5 : decode cX0_init 5 = .ok (.iconst 0, 1) := by decide +kernel
theorem dX0_init_6 : decode cX0_init 6 = .ok (.putfield 9, 3) := by decide +kernel
theorem dX0_init_9 : decode cX0_init 9 = .ok (.aload_n 0, 1) := by decide +kernel
theorem dX0_init_10 : decode cX0_init 10 = .ok (.sipush 200, 3) := by decide +kernel
theorem dX0_init_13 : decode cX0_init 13 = .ok (.newarray .long, 2) := by decide +kernel
theorem dX0_init_15 : decode cX0_init 15 = .ok (.putfield 15, 3) := by decide +kernel
theorem dX0_init_18 : decode cX0_init 18 = .ok (.aload_n 0, 1) := by decide +kernel
theorem dX0_init_19 : decode cX0_init 19 = .ok (.sipush 512, 3) := by decide +kernel
theorem dX0_init_22 : decode cX0_init 22 = .ok (.newarray .int, 2) := by decide +kernel
theorem dX0_init_24 : decode cX0_init 24 = .ok (.putfield 19, 3) := by decide +kernel
theorem dX0_init_27 : decode cX0_init 27 = .ok (.aload_n 0, 1) := by decide +kernel
theorem dX0_init_28 : decode cX0_init 28 = .ok (.sipush 200, 3) := by decide +kernel
theorem dX0_init_31 : decode cX0_init 31 = .ok (.newarray .int, 2) := by decide +kernel
theorem dX0_init_33 : decode cX0_init 33 = .ok (.putfield 23, 3) := by decide +kernel
theorem dX0_init_36 : decode cX0_init 36 = .ok (.aload_n 0, 1) := by decide +kernel
theorem dX0_init_37 : decode cX0_init 37 = .ok (.sipush 200, 3) := by decide +kernel
theorem dX0_init_40 : decode cX0_init 40 = .ok (.newarray .int, 2) := by decide +kernel
theorem dX0_init_42 : decode cX0_init 42 = .ok (.putfield 26, 3) := by decide +kernel
theorem dX0_init_45 : decode cX0_init 45 = .ok (.aload_n 0, 1) := by decide +kernel
theorem dX0_init_46 : decode cX0_init 46 = .ok (.sipush 200, 3) := by decide +kernel
theorem dX0_init_49 : decode cX0_init 49 = .ok (.newarray .int, 2) := by decide +kernel
theorem dX0_init_51 : decode cX0_init 51 = .ok (.putfield 29, 3) := by decide +kernel
theorem dX0_init_54 : decode cX0_init 54 = .ok (.aload_n 0, 1) := by decide +kernel
theorem dX0_init_55 : decode cX0_init 55 = .ok (.sipush 200, 3) := by decide +kernel
theorem dX0_init_58 : decode cX0_init 58 = .ok (.newarray .int, 2) := by decide +kernel
theorem dX0_init_60 : decode cX0_init 60 = .ok (.putfield 32, 3) := by decide +kernel
theorem dX0_init_63 : decode cX0_init 63 = .ok (.aload_n 0, 1) := by decide +kernel
theorem dX0_init_64 : decode cX0_init 64 = .ok (.sipush 200, 3) := by decide +kernel
theorem dX0_init_67 : decode cX0_init 67 = .ok (.newarray .int, 2) := by decide +kernel
theorem dX0_init_69 : decode cX0_init 69 = .ok (.putfield 35, 3) := by decide +kernel
theorem dX0_init_72 : decode cX0_init 72 = .ok (.aload_n 0, 1) := by decide +kernel
theorem dX0_init_73 : decode cX0_init 73 = .ok (.sipush 200, 3) := by decide +kernel
theorem dX0_init_76 : decode cX0_init 76 = .ok (.newarray .int, 2) := by decide +kernel
theorem dX0_init_78 : decode cX0_init 78 = .ok (.putfield 38, 3) := by decide +kernel
theorem dX0_init_81 : decode cX0_init 81 = .ok (.aload_n 0, 1) := by decide +kernel
theorem dX0_init_82 : decode cX0_init 82 = .ok (.iconst 0, 1) := by decide +kernel
theorem dX0_init_83 : decode cX0_init 83 = .ok (.putfield 41, 3) := by decide +kernel
theorem dX0_init_86 : decode cX0_init 86 = .ok (.return_, 1) := by decide +kernel
theorem dX0_start_0 : decode cX0_start 0 = .ok (.aload_n 0, 1) := by decide +kernel
theorem dX0_start_1 : decode cX0_start 1 = .ok (.iconst 0, 1) := by decide +kernel
theorem dX0_start_2 : decode cX0_start 2 = .ok (.putfield 9, 3) := by decide +kernel
theorem dX0_start_5 : decode cX0_start 5 = .ok (.aload_n 0, 1) := by decide +kernel
theorem dX0_start_6 : decode cX0_start 6 = .ok (.getfield 19, 3) := by decide +kernel
theorem dX0_start_9 : decode cX0_start 9 = .ok (.iconst 0, 1) := by decide +kernel
theorem dX0_start_10 : decode cX0_start 10 = .ok (.invokestatic 44, 3) := by decide +kernel
theorem dX0_start_13 : decode cX0_start 13 = .ok (.aload_n 0, 1) := by decide +kernel
theorem dX0_start_14 : decode cX0_start 14 = .ok (.lload_n 1, 1) := by decide +kernel
theorem dX0_start_15 : decode cX0_start 15 = .ok (.invokevirtual 50, 3) := by decide +kernel
theorem dX0_start_18 : decode cX0_start 18 = .ok (.pop, 1) := by decide +kernel
theorem dX0_start_19 : decode cX0_start 19 = .ok (.return_, 1) := by decide +kernel
theorem dX0_placeOf_0 : decode cX0_placeOf 0 = .ok (.lload_n 1, 1) := by decide +kernel
theorem dX0_placeOf_1 : decode cX0_placeOf 1 = .ok (.ldc2_w 54, 3) := by decide +kernel
theorem dX0_placeOf_4 : decode cX0_placeOf 4 = .ok (.lmul, 1) := by decide +kernel
theorem dX0_placeOf_5 : decode cX0_placeOf 5 = .ok (.bipush 55, 2) := by decide +kernel
theorem dX0_placeOf_7 : decode cX0_placeOf 7 = .ok (.lushr, 1) := by decide +kernel
theorem dX0_placeOf_8 : decode cX0_placeOf 8 = .ok (.l2i, 1) := by decide +kernel
theorem dX0_placeOf_9 : decode cX0_placeOf 9 = .ok (.istore_n 3, 1) := by decide +kernel
theorem dX0_placeOf_10 : decode cX0_placeOf 10 = .ok (.iconst 0, 1) := by decide +kernel
theorem dX0_placeOf_11 : decode cX0_placeOf 11 = .ok (.istore 4, 2) := by decide +kernel
theorem dX0_placeOf_13 : decode cX0_placeOf 13 = .ok (.iload 4, 2) := by decide +kernel
theorem dX0_placeOf_15 : decode cX0_placeOf 15 = .ok (.sipush 512, 3) := by decide +kernel
theorem dX0_placeOf_18 : decode cX0_placeOf 18 = .ok (.if_icmp .ge 58, 3) := by decide +kernel
theorem dX0_placeOf_21 : decode cX0_placeOf 21 = .ok (.iload_n 3, 1) := by decide +kernel
theorem dX0_placeOf_22 : decode cX0_placeOf 22 = .ok (.iload 4, 2) := by decide +kernel
theorem dX0_placeOf_24 : decode cX0_placeOf 24 = .ok (.iadd, 1) := by decide +kernel
theorem dX0_placeOf_25 : decode cX0_placeOf 25 = .ok (.sipush 511, 3) := by decide +kernel
theorem dX0_placeOf_28 : decode cX0_placeOf 28 = .ok (.iand, 1) := by decide +kernel
theorem dX0_placeOf_29 : decode cX0_placeOf 29 = .ok (.istore 5, 2) := by decide +kernel
theorem dX0_placeOf_31 : decode cX0_placeOf 31 = .ok (.aload_n 0, 1) := by decide +kernel
theorem dX0_placeOf_32 : decode cX0_placeOf 32 = .ok (.getfield 19, 3) := by decide +kernel
theorem dX0_placeOf_35 : decode cX0_placeOf 35 = .ok (.iload 5, 2) := by decide +kernel
theorem dX0_placeOf_37 : decode cX0_placeOf 37 = .ok (.iaload, 1) := by decide +kernel
theorem dX0_placeOf_38 : decode cX0_placeOf 38 = .ok (.iconst 1, 1) := by decide +kernel
theorem dX0_placeOf_39 : decode cX0_placeOf 39 = .ok (.isub, 1) := by decide +kernel
theorem dX0_placeOf_40 : decode cX0_placeOf 40 = .ok (.istore 6, 2) := by decide +kernel
theorem dX0_placeOf_42 : decode cX0_placeOf 42 = .ok (.iload 6, 2) := by decide +kernel
theorem dX0_placeOf_44 : decode cX0_placeOf 44 = .ok (.ifCond .lt 23, 3) := by decide +kernel
theorem dX0_placeOf_47 : decode cX0_placeOf 47 = .ok (.iload 6, 2) := by decide +kernel
theorem dX0_placeOf_49 : decode cX0_placeOf 49 = .ok (.sipush 200, 3) := by decide +kernel
theorem dX0_placeOf_52 : decode cX0_placeOf 52 = .ok (.if_icmp .ge 15, 3) := by decide +kernel
theorem dX0_placeOf_55 : decode cX0_placeOf 55 = .ok (.aload_n 0, 1) := by decide +kernel
theorem dX0_placeOf_56 : decode cX0_placeOf 56 = .ok (.getfield 15, 3) := by decide +kernel
theorem dX0_placeOf_59 : decode cX0_placeOf 59 = .ok (.iload 6, 2) := by decide +kernel
theorem dX0_placeOf_61 : decode cX0_placeOf 61 = .ok (.laload, 1) := by decide +kernel
theorem dX0_placeOf_62 : decode cX0_placeOf 62 = .ok (.lload_n 1, 1) := by decide +kernel
theorem dX0_placeOf_63 : decode cX0_placeOf 63 = .ok (.lcmp, 1) := by decide +kernel
theorem dX0_placeOf_64 : decode cX0_placeOf 64 = .ok (.ifCond .ne 6, 3) := by decide +kernel
theorem dX0_placeOf_67 : decode cX0_placeOf 67 = .ok (.iload 5, 2) := by decide +kernel
theorem dX0_placeOf_69 : decode cX0_placeOf 69 = .ok (.ireturn, 1) := by decide +kernel
theorem dX0_placeOf_70 : decode cX0_placeOf 70 = .ok (.iinc 4 1, 3) := by decide +kernel
theorem dX0_placeOf_73 : decode cX0_placeOf 73 = .ok (.goto (-60), 3) := by decide +kernel
theorem dX0_placeOf_76 : decode cX0_placeOf 76 = .ok (.iload_n 3, 1) := by decide +kernel
theorem dX0_placeOf_77 : decode cX0_placeOf 77 = .ok (.ireturn, 1) := by decide +kernel
theorem dX0_numberOf_0 : decode cX0_numberOf 0 = .ok (.aload_n 0, 1) := by decide +kernel
theorem dX0_numberOf_1 : decode cX0_numberOf 1 = .ok (.getfield 19, 3) := by decide +kernel
theorem dX0_numberOf_4 : decode cX0_numberOf 4 = .ok (.aload_n 0, 1) := by decide +kernel
theorem dX0_numberOf_5 : decode cX0_numberOf 5 = .ok (.lload_n 1, 1) := by decide +kernel
theorem dX0_numberOf_6 : decode cX0_numberOf 6 = .ok (.invokevirtual 56, 3) := by decide +kernel
theorem dX0_numberOf_9 : decode cX0_numberOf 9 = .ok (.iaload, 1) := by decide +kernel
theorem dX0_numberOf_10 : decode cX0_numberOf 10 = .ok (.iconst 1, 1) := by decide +kernel
theorem dX0_numberOf_11 : decode cX0_numberOf 11 = .ok (.isub, 1) := by decide +kernel
theorem dX0_numberOf_12 : decode cX0_numberOf 12 = .ok (.ireturn, 1) := by decide +kernel
theorem dX0_add_0 : decode cX0_add 0 = .ok (.aload_n 0, 1) := by decide +kernel
theorem dX0_add_1 : decode cX0_add 1 = .ok (.getfield 9, 3) := by decide +kernel
theorem dX0_add_4 : decode cX0_add 4 = .ok (.sipush 200, 3) := by decide +kernel
theorem dX0_add_7 : decode cX0_add 7 = .ok (.if_icmp .lt 5, 3) := by decide +kernel
theorem dX0_add_10 : decode cX0_add 10 = .ok (.iconst (-1), 1) := by decide +kernel
theorem dX0_add_11 : decode cX0_add 11 = .ok (.ireturn, 1) := by decide +kernel
theorem dX0_add_12 : decode cX0_add 12 = .ok (.aload_n 0, 1) := by decide +kernel
theorem dX0_add_13 : decode cX0_add 13 = .ok (.getfield 9, 3) := by decide +kernel
theorem dX0_add_16 : decode cX0_add 16 = .ok (.istore_n 3, 1) := by decide +kernel
theorem dX0_add_17 : decode cX0_add 17 = .ok (.aload_n 0, 1) := by decide +kernel
theorem dX0_add_18 : decode cX0_add 18 = .ok (.getfield 15, 3) := by decide +kernel
theorem dX0_add_21 : decode cX0_add 21 = .ok (.iload_n 3, 1) := by decide +kernel
theorem dX0_add_22 : decode cX0_add 22 = .ok (.lload_n 1, 1) := by decide +kernel
theorem dX0_add_23 : decode cX0_add 23 = .ok (.lastore, 1) := by decide +kernel
theorem dX0_add_24 : decode cX0_add 24 = .ok (.aload_n 0, 1) := by decide +kernel
theorem dX0_add_25 : decode cX0_add 25 = .ok (.getfield 23, 3) := by decide +kernel
theorem dX0_add_28 : decode cX0_add 28 = .ok (.iload_n 3, 1) := by decide +kernel
theorem dX0_add_29 : decode cX0_add 29 = .ok (.iconst (-1), 1) := by decide +kernel
theorem dX0_add_30 : decode cX0_add 30 = .ok (.iastore, 1) := by decide +kernel
theorem dX0_add_31 : decode cX0_add 31 = .ok (.aload_n 0, 1) := by decide +kernel
theorem dX0_add_32 : decode cX0_add 32 = .ok (.getfield 26, 3) := by decide +kernel
theorem dX0_add_35 : decode cX0_add 35 = .ok (.iload_n 3, 1) := by decide +kernel
theorem dX0_add_36 : decode cX0_add 36 = .ok (.iconst 0, 1) := by decide +kernel
theorem dX0_add_37 : decode cX0_add 37 = .ok (.iastore, 1) := by decide +kernel
theorem dX0_add_38 : decode cX0_add 38 = .ok (.aload_n 0, 1) := by decide +kernel
theorem dX0_add_39 : decode cX0_add 39 = .ok (.getfield 35, 3) := by decide +kernel
theorem dX0_add_42 : decode cX0_add 42 = .ok (.iload_n 3, 1) := by decide +kernel
theorem dX0_add_43 : decode cX0_add 43 = .ok (.iconst 0, 1) := by decide +kernel
theorem dX0_add_44 : decode cX0_add 44 = .ok (.iastore, 1) := by decide +kernel
theorem dX0_add_45 : decode cX0_add 45 = .ok (.aload_n 0, 1) := by decide +kernel
theorem dX0_add_46 : decode cX0_add 46 = .ok (.getfield 19, 3) := by decide +kernel
theorem dX0_add_49 : decode cX0_add 49 = .ok (.aload_n 0, 1) := by decide +kernel
theorem dX0_add_50 : decode cX0_add 50 = .ok (.lload_n 1, 1) := by decide +kernel
theorem dX0_add_51 : decode cX0_add 51 = .ok (.invokevirtual 56, 3) := by decide +kernel
theorem dX0_add_54 : decode cX0_add 54 = .ok (.iload_n 3, 1) := by decide +kernel
theorem dX0_add_55 : decode cX0_add 55 = .ok (.iconst 1, 1) := by decide +kernel
theorem dX0_add_56 : decode cX0_add 56 = .ok (.iadd, 1) := by decide +kernel
theorem dX0_add_57 : decode cX0_add 57 = .ok (.iastore, 1) := by decide +kernel
theorem dX0_add_58 : decode cX0_add 58 = .ok (.aload_n 0, 1) := by decide +kernel
theorem dX0_add_59 : decode cX0_add 59 = .ok (.dup, 1) := by decide +kernel
theorem dX0_add_60 : decode cX0_add 60 = .ok (.getfield 9, 3) := by decide +kernel
theorem dX0_add_63 : decode cX0_add 63 = .ok (.iconst 1, 1) := by decide +kernel
theorem dX0_add_64 : decode cX0_add 64 = .ok (.iadd, 1) := by decide +kernel
theorem dX0_add_65 : decode cX0_add 65 = .ok (.putfield 9, 3) := by decide +kernel
theorem dX0_add_68 : decode cX0_add 68 = .ok (.iload_n 3, 1) := by decide +kernel
theorem dX0_add_69 : decode cX0_add 69 = .ok (.ireturn, 1) := by decide +kernel
theorem dX0_collectAll_0 : decode cX0_collectAll 0 = .ok (.aload_n 0, 1) := by decide +kernel
theorem dX0_collectAll_1 : decode cX0_collectAll 1 = .ok (.aload_n 1, 1) := by decide +kernel
theorem dX0_collectAll_2 : decode cX0_collectAll 2 = .ok (.getfield 59, 3) := by decide +kernel
theorem dX0_collectAll_5 : decode cX0_collectAll 5 = .ok (.invokevirtual 65, 3) := by decide +kernel
theorem dX0_collectAll_8 : decode cX0_collectAll 8 = .ok (.iconst 0, 1) := by decide +kernel
theorem dX0_collectAll_9 : decode cX0_collectAll 9 = .ok (.istore_n 2, 1) := by decide +kernel
theorem dX0_collectAll_10 : decode cX0_collectAll 10 = .ok (.iload_n 2, 1) := by decide +kernel
theorem dX0_collectAll_11 : decode cX0_collectAll 11 = .ok (.aload_n 0, 1) := by decide +kernel
theorem dX0_collectAll_12 : decode cX0_collectAll 12 = .ok (.getfield 9, 3) := by decide +kernel
theorem dX0_collectAll_15 : decode cX0_collectAll 15 = .ok (.if_icmp .ge 32, 3) := by decide +kernel
theorem dX0_collectAll_18 : decode cX0_collectAll 18 = .ok (.iload_n 2, 1) := by decide +kernel
theorem dX0_collectAll_19 : decode cX0_collectAll 19 = .ok (.sipush 200, 3) := by decide +kernel
theorem dX0_collectAll_22 : decode cX0_collectAll 22 = .ok (.if_icmp .ge 25, 3) := by decide +kernel
theorem dX0_collectAll_25 : decode cX0_collectAll 25 = .ok (.aload_n 0, 1) := by decide +kernel
theorem dX0_collectAll_26 : decode cX0_collectAll 26 = .ok (.aload_n 1, 1) := by decide +kernel
theorem dX0_collectAll_27 : decode cX0_collectAll 27 = .ok (.aload_n 0, 1) := by decide +kernel
theorem dX0_collectAll_28 : decode cX0_collectAll 28 = .ok (.getfield 15, 3) := by decide +kernel
theorem dX0_collectAll_31 : decode cX0_collectAll 31 = .ok (.iload_n 2, 1) := by decide +kernel
theorem dX0_collectAll_32 : decode cX0_collectAll 32 = .ok (.laload, 1) := by decide +kernel
theorem dX0_collectAll_33 : decode cX0_collectAll 33 = .ok (.invokevirtual 69, 3) := by decide +kernel
theorem dX0_collectAll_36 : decode cX0_collectAll 36 = .ok (.ifCond .ne 5, 3) := by decide +kernel
theorem dX0_collectAll_39 : decode cX0_collectAll 39 = .ok (.iconst 0, 1) := by decide +kernel
theorem dX0_collectAll_40 : decode cX0_collectAll 40 = .ok (.ireturn, 1) := by decide +kernel
theorem dX0_collectAll_41 : decode cX0_collectAll 41 = .ok (.iinc 2 1, 3) := by decide +kernel
theorem dX0_collectAll_44 : decode cX0_collectAll 44 = .ok (.goto (-34), 3) := by decide +kernel
theorem dX0_collectAll_47 : decode cX0_collectAll 47 = .ok (.iconst 1, 1) := by decide +kernel
theorem dX0_collectAll_48 : decode cX0_collectAll 48 = .ok (.ireturn, 1) := by decide +kernel
theorem dX0_expand_0 : decode cX0_expand 0 = .ok (.iconst 0, 1) := by decide +kernel
theorem dX0_expand_1 : decode cX0_expand 1 = .ok (.istore 4, 2) := by decide +kernel
theorem dX0_expand_3 : decode cX0_expand 3 = .ok (.iload 4, 2) := by decide +kernel
theorem dX0_expand_5 : decode cX0_expand 5 = .ok (.lload_n 2, 1) := by decide +kernel
theorem dX0_expand_6 : decode cX0_expand 6 = .ok (.invokestatic 73, 3) := by decide +kernel
theorem dX0_expand_9 : decode cX0_expand 9 = .ok (.if_icmp .ge 58, 3) := by decide +kernel
theorem dX0_expand_12 : decode cX0_expand 12 = .ok (.iconst 0, 1) := by decide +kernel
theorem dX0_expand_13 : decode cX0_expand 13 = .ok (.istore 5, 2) := by decide +kernel
theorem dX0_expand_15 : decode cX0_expand 15 = .ok (.iload 5, 2) := by decide +kernel
theorem dX0_expand_17 : decode cX0_expand 17 = .ok (.aload_n 1, 1) := by decide +kernel
theorem dX0_expand_18 : decode cX0_expand 18 = .ok (.getfield 78, 3) := by decide +kernel
theorem dX0_expand_21 : decode cX0_expand 21 = .ok (.if_icmp .ge 40, 3) := by decide +kernel
theorem dX0_expand_24 : decode cX0_expand 24 = .ok (.aload_n 1, 1) := by decide +kernel
theorem dX0_expand_25 : decode cX0_expand 25 = .ok (.lload_n 2, 1) := by decide +kernel
theorem dX0_expand_26 : decode cX0_expand 26 = .ok (.iload 5, 2) := by decide +kernel
theorem dX0_expand_28 : decode cX0_expand 28 = .ok (.iload 4, 2) := by decide +kernel
theorem dX0_expand_30 : decode cX0_expand 30 = .ok (.invokevirtual 80, 3) := by decide +kernel
theorem dX0_expand_33 : decode cX0_expand 33 = .ok (.lstore 6, 2) := by decide +kernel
theorem dX0_expand_35 : decode cX0_expand 35 = .ok (.lload 6, 2) := by decide +kernel
theorem dX0_expand_37 : decode cX0_expand 37 = .ok (.ldc2_w 84, 3) := by decide +kernel
theorem dX0_expand_40 : decode cX0_expand 40 = .ok (.lcmp, 1) := by decide +kernel
theorem dX0_expand_41 : decode cX0_expand 41 = .ok (.ifCond .eq 14, 3) := by decide +kernel
theorem dX0_expand_44 : decode cX0_expand 44 = .ok (.aload_n 0, 1) := by decide +kernel
theorem dX0_expand_45 : decode cX0_expand 45 = .ok (.lload 6, 2) := by decide +kernel
theorem dX0_expand_47 : decode cX0_expand 47 = .ok (.invokevirtual 86, 3) := by decide +kernel
theorem dX0_expand_50 : decode cX0_expand 50 = .ok (.ifCond .ne 5, 3) := by decide +kernel
theorem dX0_expand_53 : decode cX0_expand 53 = .ok (.iconst 0, 1) := by decide +kernel
theorem dX0_expand_54 : decode cX0_expand 54 = .ok (.ireturn, 1) := by decide +kernel
theorem dX0_expand_55 : decode cX0_expand 55 = .ok (.iinc 5 1, 3) := by decide +kernel
theorem dX0_expand_58 : decode cX0_expand 58 = .ok (.goto (-43), 3) := by decide +kernel
theorem dX0_expand_61 : decode cX0_expand 61 = .ok (.iinc 4 1, 3) := by decide +kernel
theorem dX0_expand_64 : decode cX0_expand 64 = .ok (.goto (-61), 3) := by decide +kernel
theorem dX0_expand_67 : decode cX0_expand 67 = .ok (.iconst 1, 1) := by decide +kernel
theorem dX0_expand_68 : decode cX0_expand 68 = .ok (.ireturn, 1) := by decide +kernel
theorem dX0_countStepInto_0 : decode cX0_countStepInto 0 = .ok (.aload_n 0, 1) := by decide +kernel
theorem dX0_countStepInto_1 : decode cX0_countStepInto 1 = .ok (.lload_n 1, 1) := by decide +kernel
theorem dX0_countStepInto_2 : decode cX0_countStepInto 2 = .ok (.invokevirtual 90, 3) := by decide +kernel
theorem dX0_countStepInto_5 : decode cX0_countStepInto 5 = .ok (.istore_n 3, 1) := by decide +kernel
theorem dX0_countStepInto_6 : decode cX0_countStepInto 6 = .ok (.iload_n 3, 1) := by decide +kernel
theorem dX0_countStepInto_7 : decode cX0_countStepInto 7 = .ok (.ifCond .ge 9, 3) := by decide +kernel
theorem dX0_countStepInto_10 : decode cX0_countStepInto 10 = .ok (.aload_n 0, 1) := by decide +kernel
theorem dX0_countStepInto_11 : decode cX0_countStepInto 11 = .ok (.lload_n 1, 1) := by decide +kernel
theorem dX0_countStepInto_12 : decode cX0_countStepInto 12 = .ok (.invokevirtual 50, 3) := by decide +kernel
theorem dX0_countStepInto_15 : decode cX0_countStepInto 15 = .ok (.istore_n 3, 1) := by decide +kernel
theorem dX0_countStepInto_16 : decode cX0_countStepInto 16 = .ok (.iload_n 3, 1) := by decide +kernel
theorem dX0_countStepInto_17 : decode cX0_countStepInto 17 = .ok (.ifCond .ge 5, 3) := by decide +kernel
theorem dX0_countStepInto_20 : decode cX0_countStepInto 20 = .ok (.iconst 0, 1) := by decide +kernel
theorem dX0_countStepInto_21 : decode cX0_countStepInto 21 = .ok (.ireturn, 1) := by decide +kernel
theorem dX0_countStepInto_22 : decode cX0_countStepInto 22 = .ok (.aload_n 0, 1) := by decide +kernel
theorem dX0_countStepInto_23 : decode cX0_countStepInto 23 = .ok (.getfield 35, 3) := by decide +kernel
theorem dX0_countStepInto_26 : decode cX0_countStepInto 26 = .ok (.iload_n 3, 1) := by decide +kernel
theorem dX0_countStepInto_27 : decode cX0_countStepInto 27 = .ok (.dup2, 1) := by decide +kernel
theorem dX0_countStepInto_28 : decode cX0_countStepInto 28 = .ok (.iaload, 1) := by decide +kernel
theorem dX0_countStepInto_29 : decode cX0_countStepInto 29 = .ok (.iconst 1, 1) := by decide +kernel
theorem dX0_countStepInto_30 : decode cX0_countStepInto 30 = .ok (.iadd, 1) := by decide +kernel
theorem dX0_countStepInto_31 : decode cX0_countStepInto 31 = .ok (.iastore, 1) := by decide +kernel
theorem dX0_countStepInto_32 : decode cX0_countStepInto 32 = .ok (.iconst 1, 1) := by decide +kernel
theorem dX0_countStepInto_33 : decode cX0_countStepInto 33 = .ok (.ireturn, 1) := by decide +kernel
theorem dX0_longestFromFirst_0 : decode cX0_longestFromFirst 0 = .ok (.aload_n 0, 1) := by decide +kernel
theorem dX0_longestFromFirst_1 : decode cX0_longestFromFirst 1 = .ok (.iconst 0, 1) := by decide +kernel
theorem dX0_longestFromFirst_2 : decode cX0_longestFromFirst 2 = .ok (.putfield 41, 3) := by decide +kernel
theorem dX0_longestFromFirst_5 : decode cX0_longestFromFirst 5 = .ok (.aload_n 0, 1) := by decide +kernel
theorem dX0_longestFromFirst_6 : decode cX0_longestFromFirst 6 = .ok (.getfield 35, 3) := by decide +kernel
theorem dX0_longestFromFirst_9 : decode cX0_longestFromFirst 9 = .ok (.iconst 0, 1) := by decide +kernel
theorem dX0_longestFromFirst_10 : decode cX0_longestFromFirst 10 = .ok (.iaload, 1) := by decide +kernel
theorem dX0_longestFromFirst_11 : decode cX0_longestFromFirst 11 = .ok (.ifCond .ne 15, 3) := by decide +kernel
theorem dX0_longestFromFirst_14 : decode cX0_longestFromFirst 14 = .ok (.aload_n 0, 1) := by decide +kernel
theorem dX0_longestFromFirst_15 : decode cX0_longestFromFirst 15 = .ok (.getfield 38, 3) := by decide +kernel
theorem dX0_longestFromFirst_18 : decode cX0_longestFromFirst 18 = .ok (.iconst 0, 1) := by decide +kernel
theorem dX0_longestFromFirst_19 : decode cX0_longestFromFirst 19 = .ok (.iconst 0, 1) := by decide +kernel
theorem dX0_longestFromFirst_20 : decode cX0_longestFromFirst 20 = .ok (.iastore, 1) := by decide +kernel
theorem dX0_longestFromFirst_21 : decode cX0_longestFromFirst 21 = .ok (.aload_n 0, 1) := by decide +kernel
theorem dX0_longestFromFirst_22 : decode cX0_longestFromFirst 22 = .ok (.iconst 1, 1) := by decide +kernel
theorem dX0_longestFromFirst_23 : decode cX0_longestFromFirst 23 = .ok (.putfield 41, 3) := by decide +kernel
theorem dX0_longestFromFirst_26 : decode cX0_longestFromFirst 26 = .ok (.iconst 0, 1) := by decide +kernel
theorem dX0_longestFromFirst_27 : decode cX0_longestFromFirst 27 = .ok (.istore_n 2, 1) := by decide +kernel
theorem dX0_longestFromFirst_28 : decode cX0_longestFromFirst 28 = .ok (.iconst 0, 1) := by decide +kernel
theorem dX0_longestFromFirst_29 : decode cX0_longestFromFirst 29 = .ok (.istore_n 3, 1) := by decide +kernel
theorem dX0_longestFromFirst_30 : decode cX0_longestFromFirst 30 = .ok (.iload_n 3, 1) := by decide +kernel
theorem dX0_longestFromFirst_31 : decode cX0_longestFromFirst 31 = .ok (.aload_n 0, 1) := by decide +kernel
theorem dX0_longestFromFirst_32 : decode cX0_longestFromFirst 32 = .ok (.getfield 41, 3) := by decide +kernel
theorem dX0_longestFromFirst_35 : decode cX0_longestFromFirst 35 = .ok (.if_icmp .ge 43, 3) := by decide +kernel
theorem dX0_longestFromFirst_38 : decode cX0_longestFromFirst 38 = .ok (.iload_n 3, 1) := by decide +kernel
theorem dX0_longestFromFirst_39 : decode cX0_longestFromFirst 39 = .ok (.sipush 200, 3) := by decide +kernel
theorem dX0_longestFromFirst_42 : decode cX0_longestFromFirst 42 = .ok (.if_icmp .ge 36, 3) := by decide +kernel
theorem dX0_longestFromFirst_45 : decode cX0_longestFromFirst 45 = .ok (.iload_n 2, 1) := by decide +kernel
theorem dX0_longestFromFirst_46 : decode cX0_longestFromFirst 46 = .ok (.aload_n 0, 1) := by decide +kernel
theorem dX0_longestFromFirst_47 : decode cX0_longestFromFirst 47 = .ok (.getfield 26, 3) := by decide +kernel
theorem dX0_longestFromFirst_50 : decode cX0_longestFromFirst 50 = .ok (.aload_n 0, 1) := by decide +kernel
theorem dX0_longestFromFirst_51 : decode cX0_longestFromFirst 51 = .ok (.getfield 38, 3) := by decide +kernel
theorem dX0_longestFromFirst_54 : decode cX0_longestFromFirst 54 = .ok (.iload_n 3, 1) := by decide +kernel
theorem dX0_longestFromFirst_55 : decode cX0_longestFromFirst 55 = .ok (.iaload, 1) := by decide +kernel
theorem dX0_longestFromFirst_56 : decode cX0_longestFromFirst 56 = .ok (.iaload, 1) := by decide +kernel
theorem dX0_longestFromFirst_57 : decode cX0_longestFromFirst 57 = .ok (.invokestatic 93, 3) := by decide +kernel
theorem dX0_longestFromFirst_60 : decode cX0_longestFromFirst 60 = .ok (.istore_n 2, 1) := by decide +kernel
theorem dX0_longestFromFirst_61 : decode cX0_longestFromFirst 61 = .ok (.aload_n 0, 1) := by decide +kernel
theorem dX0_longestFromFirst_62 : decode cX0_longestFromFirst 62 = .ok (.aload_n 1, 1) := by decide +kernel
theorem dX0_longestFromFirst_63 : decode cX0_longestFromFirst 63 = .ok (.aload_n 0, 1) := by decide +kernel
theorem dX0_longestFromFirst_64 : decode cX0_longestFromFirst 64 = .ok (.getfield 38, 3) := by decide +kernel
theorem dX0_longestFromFirst_67 : decode cX0_longestFromFirst 67 = .ok (.iload_n 3, 1) := by decide +kernel
theorem dX0_longestFromFirst_68 : decode cX0_longestFromFirst 68 = .ok (.iaload, 1) := by decide +kernel
theorem dX0_longestFromFirst_69 : decode cX0_longestFromFirst 69 = .ok (.invokevirtual 99, 3) := by decide +kernel
theorem dX0_longestFromFirst_72 : decode cX0_longestFromFirst 72 = .ok (.iinc 3 1, 3) := by decide +kernel
theorem dX0_longestFromFirst_75 : decode cX0_longestFromFirst 75 = .ok (.goto (-45), 3) := by decide +kernel
theorem dX0_longestFromFirst_78 : decode cX0_longestFromFirst 78 = .ok (.aload_n 0, 1) := by decide +kernel
theorem dX0_longestFromFirst_79 : decode cX0_longestFromFirst 79 = .ok (.getfield 41, 3) := by decide +kernel
theorem dX0_longestFromFirst_82 : decode cX0_longestFromFirst 82 = .ok (.aload_n 0, 1) := by decide +kernel
theorem dX0_longestFromFirst_83 : decode cX0_longestFromFirst 83 = .ok (.getfield 9, 3) := by decide +kernel
theorem dX0_longestFromFirst_86 : decode cX0_longestFromFirst 86 = .ok (.if_icmp .ne 7, 3) := by decide +kernel
theorem dX0_longestFromFirst_89 : decode cX0_longestFromFirst 89 = .ok (.iload_n 2, 1) := by decide +kernel
theorem dX0_longestFromFirst_90 : decode cX0_longestFromFirst 90 = .ok (.goto 5, 3) := by decide +kernel
theorem dX0_longestFromFirst_93 : decode cX0_longestFromFirst 93 = .ok (.bipush (-6), 2) := by decide +kernel
theorem dX0_longestFromFirst_95 : decode cX0_longestFromFirst 95 = .ok (.ireturn, 1) := by decide +kernel
theorem dX0_walkFrom_0 : decode cX0_walkFrom 0 = .ok (.aload_n 0, 1) := by decide +kernel
theorem dX0_walkFrom_1 : decode cX0_walkFrom 1 = .ok (.getfield 15, 3) := by decide +kernel
theorem dX0_walkFrom_4 : decode cX0_walkFrom 4 = .ok (.iload_n 2, 1) := by decide +kernel
theorem dX0_walkFrom_5 : decode cX0_walkFrom 5 = .ok (.laload, 1) := by decide +kernel
theorem dX0_walkFrom_6 : decode cX0_walkFrom 6 = .ok (.lstore_n 3, 1) := by decide +kernel
theorem dX0_walkFrom_7 : decode cX0_walkFrom 7 = .ok (.iconst 0, 1) := by decide +kernel
theorem dX0_walkFrom_8 : decode cX0_walkFrom 8 = .ok (.istore 5, 2) := by decide +kernel
theorem dX0_walkFrom_10 : decode cX0_walkFrom 10 = .ok (.iload 5, 2) := by decide +kernel
theorem dX0_walkFrom_12 : decode cX0_walkFrom 12 = .ok (.lload_n 3, 1) := by decide +kernel
theorem dX0_walkFrom_13 : decode cX0_walkFrom 13 = .ok (.invokestatic 73, 3) := by decide +kernel
theorem dX0_walkFrom_16 : decode cX0_walkFrom 16 = .ok (.if_icmp .ge 65, 3) := by decide +kernel
theorem dX0_walkFrom_19 : decode cX0_walkFrom 19 = .ok (.iconst 0, 1) := by decide +kernel
theorem dX0_walkFrom_20 : decode cX0_walkFrom 20 = .ok (.istore 6, 2) := by decide +kernel
theorem dX0_walkFrom_22 : decode cX0_walkFrom 22 = .ok (.iload 6, 2) := by decide +kernel
theorem dX0_walkFrom_24 : decode cX0_walkFrom 24 = .ok (.aload_n 1, 1) := by decide +kernel
theorem dX0_walkFrom_25 : decode cX0_walkFrom 25 = .ok (.getfield 78, 3) := by decide +kernel
theorem dX0_walkFrom_28 : decode cX0_walkFrom 28 = .ok (.if_icmp .ge 47, 3) := by decide +kernel
theorem dX0_walkFrom_31 : decode cX0_walkFrom 31 = .ok (.aload_n 1, 1) := by decide +kernel
theorem dX0_walkFrom_32 : decode cX0_walkFrom 32 = .ok (.lload_n 3, 1) := by decide +kernel
theorem dX0_walkFrom_33 : decode cX0_walkFrom 33 = .ok (.iload 6, 2) := by decide +kernel
theorem dX0_walkFrom_35 : decode cX0_walkFrom 35 = .ok (.iload 5, 2) := by decide +kernel
theorem dX0_walkFrom_37 : decode cX0_walkFrom 37 = .ok (.invokevirtual 80, 3) := by decide +kernel
theorem dX0_walkFrom_40 : decode cX0_walkFrom 40 = .ok (.lstore 7, 2) := by decide +kernel
theorem dX0_walkFrom_42 : decode cX0_walkFrom 42 = .ok (.lload 7, 2) := by decide +kernel
theorem dX0_walkFrom_44 : decode cX0_walkFrom 44 = .ok (.ldc2_w 84, 3) := by decide +kernel
theorem dX0_walkFrom_47 : decode cX0_walkFrom 47 = .ok (.lcmp, 1) := by decide +kernel
theorem dX0_walkFrom_48 : decode cX0_walkFrom 48 = .ok (.ifCond .eq 21, 3) := by decide +kernel
theorem dX0_walkFrom_51 : decode cX0_walkFrom 51 = .ok (.aload_n 0, 1) := by decide +kernel
theorem dX0_walkFrom_52 : decode cX0_walkFrom 52 = .ok (.aload_n 0, 1) := by decide +kernel
theorem dX0_walkFrom_53 : decode cX0_walkFrom 53 = .ok (.lload 7, 2) := by decide +kernel
theorem dX0_walkFrom_55 : decode cX0_walkFrom 55 = .ok (.invokevirtual 90, 3) := by decide +kernel
theorem dX0_walkFrom_58 : decode cX0_walkFrom 58 = .ok (.aload_n 0, 1) := by decide +kernel
theorem dX0_walkFrom_59 : decode cX0_walkFrom 59 = .ok (.getfield 26, 3) := by decide +kernel
theorem dX0_walkFrom_62 : decode cX0_walkFrom 62 = .ok (.iload_n 2, 1) := by decide +kernel
theorem dX0_walkFrom_63 : decode cX0_walkFrom 63 = .ok (.iaload, 1) := by decide +kernel
theorem dX0_walkFrom_64 : decode cX0_walkFrom 64 = .ok (.iconst 1, 1) := by decide +kernel
theorem dX0_walkFrom_65 : decode cX0_walkFrom 65 = .ok (.iadd, 1) := by decide +kernel
theorem dX0_walkFrom_66 : decode cX0_walkFrom 66 = .ok (.invokevirtual 103, 3) := by decide +kernel
theorem dX0_walkFrom_69 : decode cX0_walkFrom 69 = .ok (.iinc 6 1, 3) := by decide +kernel
theorem dX0_walkFrom_72 : decode cX0_walkFrom 72 = .ok (.goto (-50), 3) := by decide +kernel
theorem dX0_walkFrom_75 : decode cX0_walkFrom 75 = .ok (.iinc 5 1, 3) := by decide +kernel
theorem dX0_walkFrom_78 : decode cX0_walkFrom 78 = .ok (.goto (-68), 3) := by decide +kernel
theorem dX0_walkFrom_81 : decode cX0_walkFrom 81 = .ok (.return_, 1) := by decide +kernel
theorem dX0_walkInto_0 : decode cX0_walkInto 0 = .ok (.iload_n 1, 1) := by decide +kernel
theorem dX0_walkInto_1 : decode cX0_walkInto 1 = .ok (.ifCond .lt 11, 3) := by decide +kernel
theorem dX0_walkInto_4 : decode cX0_walkInto 4 = .ok (.iload_n 1, 1) := by decide +kernel
theorem dX0_walkInto_5 : decode cX0_walkInto 5 = .ok (.aload_n 0, 1) := by decide +kernel
theorem dX0_walkInto_6 : decode cX0_walkInto 6 = .ok (.getfield 9, 3) := by decide +kernel
theorem dX0_walkInto_9 : decode cX0_walkInto 9 = .ok (.if_icmp .lt 4, 3) := by decide +kernel
theorem dX0_walkInto_12 : decode cX0_walkInto 12 = .ok (.return_, 1) := by decide +kernel
theorem dX0_walkInto_13 : decode cX0_walkInto 13 = .ok (.aload_n 0, 1) := by decide +kernel
theorem dX0_walkInto_14 : decode cX0_walkInto 14 = .ok (.getfield 26, 3) := by decide +kernel
theorem dX0_walkInto_17 : decode cX0_walkInto 17 = .ok (.iload_n 1, 1) := by decide +kernel
theorem dX0_walkInto_18 : decode cX0_walkInto 18 = .ok (.aload_n 0, 1) := by decide +kernel
theorem dX0_walkInto_19 : decode cX0_walkInto 19 = .ok (.getfield 26, 3) := by decide +kernel
theorem dX0_walkInto_22 : decode cX0_walkInto 22 = .ok (.iload_n 1, 1) := by decide +kernel
theorem dX0_walkInto_23 : decode cX0_walkInto 23 = .ok (.iaload, 1) := by decide +kernel
theorem dX0_walkInto_24 : decode cX0_walkInto 24 = .ok (.iload_n 2, 1) := by decide +kernel
theorem dX0_walkInto_25 : decode cX0_walkInto 25 = .ok (.invokestatic 93, 3) := by decide +kernel
theorem dX0_walkInto_28 : decode cX0_walkInto 28 = .ok (.iastore, 1) := by decide +kernel
theorem dX0_walkInto_29 : decode cX0_walkInto 29 = .ok (.aload_n 0, 1) := by decide +kernel
theorem dX0_walkInto_30 : decode cX0_walkInto 30 = .ok (.getfield 35, 3) := by decide +kernel
theorem dX0_walkInto_33 : decode cX0_walkInto 33 = .ok (.iload_n 1, 1) := by decide +kernel
theorem dX0_walkInto_34 : decode cX0_walkInto 34 = .ok (.dup2, 1) := by decide +kernel
theorem dX0_walkInto_35 : decode cX0_walkInto 35 = .ok (.iaload, 1) := by decide +kernel
theorem dX0_walkInto_36 : decode cX0_walkInto 36 = .ok (.iconst 1, 1) := by decide +kernel
theorem dX0_walkInto_37 : decode cX0_walkInto 37 = .ok (.isub, 1) := by decide +kernel
theorem dX0_walkInto_38 : decode cX0_walkInto 38 = .ok (.iastore, 1) := by decide +kernel
theorem dX0_walkInto_39 : decode cX0_walkInto 39 = .ok (.aload_n 0, 1) := by decide +kernel
theorem dX0_walkInto_40 : decode cX0_walkInto 40 = .ok (.getfield 35, 3) := by decide +kernel
theorem dX0_walkInto_43 : decode cX0_walkInto 43 = .ok (.iload_n 1, 1) := by decide +kernel
theorem dX0_walkInto_44 : decode cX0_walkInto 44 = .ok (.iaload, 1) := by decide +kernel
theorem dX0_walkInto_45 : decode cX0_walkInto 45 = .ok (.ifCond .ne 33, 3) := by decide +kernel
theorem dX0_walkInto_48 : decode cX0_walkInto 48 = .ok (.aload_n 0, 1) := by decide +kernel
theorem dX0_walkInto_49 : decode cX0_walkInto 49 = .ok (.getfield 41, 3) := by decide +kernel
theorem dX0_walkInto_52 : decode cX0_walkInto 52 = .ok (.sipush 200, 3) := by decide +kernel
theorem dX0_walkInto_55 : decode cX0_walkInto 55 = .ok (.if_icmp .ge 23, 3) := by decide +kernel
theorem dX0_walkInto_58 : decode cX0_walkInto 58 = .ok (.aload_n 0, 1) := by decide +kernel
theorem dX0_walkInto_59 : decode cX0_walkInto 59 = .ok (.getfield 38, 3) := by decide +kernel
theorem dX0_walkInto_62 : decode cX0_walkInto 62 = .ok (.aload_n 0, 1) := by decide +kernel
theorem dX0_walkInto_63 : decode cX0_walkInto 63 = .ok (.getfield 41, 3) := by decide +kernel
theorem dX0_walkInto_66 : decode cX0_walkInto 66 = .ok (.iload_n 1, 1) := by decide +kernel
theorem dX0_walkInto_67 : decode cX0_walkInto 67 = .ok (.iastore, 1) := by decide +kernel
theorem dX0_walkInto_68 : decode cX0_walkInto 68 = .ok (.aload_n 0, 1) := by decide +kernel
theorem dX0_walkInto_69 : decode cX0_walkInto 69 = .ok (.dup, 1) := by decide +kernel
theorem dX0_walkInto_70 : decode cX0_walkInto 70 = .ok (.getfield 41, 3) := by decide +kernel
theorem dX0_walkInto_73 : decode cX0_walkInto 73 = .ok (.iconst 1, 1) := by decide +kernel
theorem dX0_walkInto_74 : decode cX0_walkInto 74 = .ok (.iadd, 1) := by decide +kernel
theorem dX0_walkInto_75 : decode cX0_walkInto 75 = .ok (.putfield 41, 3) := by decide +kernel
theorem dX0_walkInto_78 : decode cX0_walkInto 78 = .ok (.return_, 1) := by decide +kernel
theorem dX0_searchLoop_0 : decode cX0_searchLoop 0 = .ok (.aload_n 0, 1) := by decide +kernel
theorem dX0_searchLoop_1 : decode cX0_searchLoop 1 = .ok (.lload_n 2, 1) := by decide +kernel
theorem dX0_searchLoop_2 : decode cX0_searchLoop 2 = .ok (.invokevirtual 65, 3) := by decide +kernel
theorem dX0_searchLoop_5 : decode cX0_searchLoop 5 = .ok (.iconst 0, 1) := by decide +kernel
theorem dX0_searchLoop_6 : decode cX0_searchLoop 6 = .ok (.istore 5, 2) := by decide +kernel
theorem dX0_searchLoop_8 : decode cX0_searchLoop 8 = .ok (.iload 5, 2) := by decide +kernel
theorem dX0_searchLoop_10 : decode cX0_searchLoop 10 = .ok (.aload_n 0, 1) := by decide +kernel
theorem dX0_searchLoop_11 : decode cX0_searchLoop 11 = .ok (.getfield 9, 3) := by decide +kernel
theorem dX0_searchLoop_14 : decode cX0_searchLoop 14 = .ok (.if_icmp .ge 38, 3) := by decide +kernel
theorem dX0_searchLoop_17 : decode cX0_searchLoop 17 = .ok (.iload 5, 2) := by decide +kernel
theorem dX0_searchLoop_19 : decode cX0_searchLoop 19 = .ok (.sipush 200, 3) := by decide +kernel
theorem dX0_searchLoop_22 : decode cX0_searchLoop 22 = .ok (.if_icmp .ge 30, 3) := by decide +kernel
theorem dX0_searchLoop_25 : decode cX0_searchLoop 25 = .ok (.aload_n 0, 1) := by decide +kernel
theorem dX0_searchLoop_26 : decode cX0_searchLoop 26 = .ok (.aload_n 1, 1) := by decide +kernel
theorem dX0_searchLoop_27 : decode cX0_searchLoop 27 = .ok (.iload 5, 2) := by decide +kernel
theorem dX0_searchLoop_29 : decode cX0_searchLoop 29 = .ok (.aload 4, 2) := by decide +kernel
theorem dX0_searchLoop_31 : decode cX0_searchLoop 31 = .ok (.invokevirtual 107, 3) := by decide +kernel
theorem dX0_searchLoop_34 : decode cX0_searchLoop 34 = .ok (.istore 6, 2) := by decide +kernel
theorem dX0_searchLoop_36 : decode cX0_searchLoop 36 = .ok (.iload 6, 2) := by decide +kernel
theorem dX0_searchLoop_38 : decode cX0_searchLoop 38 = .ok (.bipush (-6), 2) := by decide +kernel
theorem dX0_searchLoop_40 : decode cX0_searchLoop 40 = .ok (.if_icmp .eq 6, 3) := by decide +kernel
theorem dX0_searchLoop_43 : decode cX0_searchLoop 43 = .ok (.iload 6, 2) := by decide +kernel
theorem dX0_searchLoop_45 : decode cX0_searchLoop 45 = .ok (.ireturn, 1) := by decide +kernel
theorem dX0_searchLoop_46 : decode cX0_searchLoop 46 = .ok (.iinc 5 1, 3) := by decide +kernel
theorem dX0_searchLoop_49 : decode cX0_searchLoop 49 = .ok (.goto (-41), 3) := by decide +kernel
theorem dX0_searchLoop_52 : decode cX0_searchLoop 52 = .ok (.bipush (-6), 2) := by decide +kernel
theorem dX0_searchLoop_54 : decode cX0_searchLoop 54 = .ok (.ireturn, 1) := by decide +kernel
theorem dX0_expandForLoop_0 : decode cX0_expandForLoop 0 = .ok (.aload_n 0, 1) := by decide +kernel
theorem dX0_expandForLoop_1 : decode cX0_expandForLoop 1 = .ok (.getfield 15, 3) := by decide +kernel
theorem dX0_expandForLoop_4 : decode cX0_expandForLoop 4 = .ok (.iload_n 2, 1) := by decide +kernel
theorem dX0_expandForLoop_5 : decode cX0_expandForLoop 5 = .ok (.laload, 1) := by decide +kernel
theorem dX0_expandForLoop_6 : decode cX0_expandForLoop 6 = .ok (.lstore 4, 2) := by decide +kernel
theorem dX0_expandForLoop_8 : decode cX0_expandForLoop 8 = .ok (.iconst 0, 1) := by decide +kernel
theorem dX0_expandForLoop_9 : decode cX0_expandForLoop 9 = .ok (.istore 6, 2) := by decide +kernel
theorem dX0_expandForLoop_11 : decode cX0_expandForLoop 11 = .ok (.iload 6, 2) := by decide +kernel
theorem dX0_expandForLoop_13 : decode cX0_expandForLoop 13 = .ok (.lload 4, 2) := by decide +kernel
theorem dX0_expandForLoop_15 : decode cX0_expandForLoop 15 = .ok (.invokestatic 73, 3) := by decide +kernel
theorem dX0_expandForLoop_18 : decode cX0_expandForLoop 18 = .ok (.if_icmp .ge 102, 3) := by decide +kernel
theorem dX0_expandForLoop_21 : decode cX0_expandForLoop 21 = .ok (.iconst 0, 1) := by decide +kernel
theorem dX0_expandForLoop_22 : decode cX0_expandForLoop 22 = .ok (.istore 7, 2) := by decide +kernel
theorem dX0_expandForLoop_24 : decode cX0_expandForLoop 24 = .ok (.iload 7, 2) := by decide +kernel
theorem dX0_expandForLoop_26 : decode cX0_expandForLoop 26 = .ok (.aload_n 1, 1) := by decide +kernel
theorem dX0_expandForLoop_27 : decode cX0_expandForLoop 27 = .ok (.getfield 78, 3) := by decide +kernel
theorem dX0_expandForLoop_30 : decode cX0_expandForLoop 30 = .ok (.if_icmp .ge 84, 3) := by decide +kernel
theorem dX0_expandForLoop_33 : decode cX0_expandForLoop 33 = .ok (.aload_n 1, 1) := by decide +kernel
theorem dX0_expandForLoop_34 : decode cX0_expandForLoop 34 = .ok (.lload 4, 2) := by decide +kernel
theorem dX0_expandForLoop_36 : decode cX0_expandForLoop 36 = .ok (.iload 7, 2) := by decide +kernel
theorem dX0_expandForLoop_38 : decode cX0_expandForLoop 38 = .ok (.iload 6, 2) := by decide +kernel
theorem dX0_expandForLoop_40 : decode cX0_expandForLoop 40 = .ok (.invokevirtual 80, 3) := by decide +kernel
theorem dX0_expandForLoop_43 : decode cX0_expandForLoop 43 = .ok (.lstore 8, 2) := by decide +kernel
theorem dX0_expandForLoop_45 : decode cX0_expandForLoop 45 = .ok (.lload 8, 2) := by decide +kernel
theorem dX0_expandForLoop_47 : decode cX0_expandForLoop 47 = .ok (.ldc2_w 84, 3) := by decide +kernel
theorem dX0_expandForLoop_50 : decode cX0_expandForLoop 50 = .ok (.lcmp, 1) := by decide +kernel
theorem dX0_expandForLoop_51 : decode cX0_expandForLoop 51 = .ok (.ifCond .ne 6, 3) := by decide +kernel
theorem dX0_expandForLoop_54 : decode cX0_expandForLoop 54 = .ok (.goto 54, 3) := by decide +kernel
theorem dX0_expandForLoop_57 : decode cX0_expandForLoop 57 = .ok (.aload_n 0, 1) := by decide +kernel
theorem dX0_expandForLoop_58 : decode cX0_expandForLoop 58 = .ok (.getfield 15, 3) := by decide +kernel
theorem dX0_expandForLoop_61 : decode cX0_expandForLoop 61 = .ok (.iconst 0, 1) := by decide +kernel
theorem dX0_expandForLoop_62 : decode cX0_expandForLoop 62 = .ok (.laload, 1) := by decide +kernel
theorem dX0_expandForLoop_63 : decode cX0_expandForLoop 63 = .ok (.lload 8, 2) := by decide +kernel
theorem dX0_expandForLoop_65 : decode cX0_expandForLoop 65 = .ok (.invokestatic 111, 3) := by decide +kernel
theorem dX0_expandForLoop_68 : decode cX0_expandForLoop 68 = .ok (.ifCond .eq 14, 3) := by decide +kernel
theorem dX0_expandForLoop_71 : decode cX0_expandForLoop 71 = .ok (.aload_n 0, 1) := by decide +kernel
theorem dX0_expandForLoop_72 : decode cX0_expandForLoop 72 = .ok (.aload_n 3, 1) := by decide +kernel
theorem dX0_expandForLoop_73 : decode cX0_expandForLoop 73 = .ok (.iload_n 2, 1) := by decide +kernel
theorem dX0_expandForLoop_74 : decode cX0_expandForLoop 74 = .ok (.iload 7, 2) := by decide +kernel
theorem dX0_expandForLoop_76 : decode cX0_expandForLoop 76 = .ok (.iload 6, 2) := by decide +kernel
theorem dX0_expandForLoop_78 : decode cX0_expandForLoop 78 = .ok (.invokevirtual 115, 3) := by decide +kernel
theorem dX0_expandForLoop_81 : decode cX0_expandForLoop 81 = .ok (.ireturn, 1) := by decide +kernel
theorem dX0_expandForLoop_82 : decode cX0_expandForLoop 82 = .ok (.aload_n 0, 1) := by decide +kernel
theorem dX0_expandForLoop_83 : decode cX0_expandForLoop 83 = .ok (.lload 8, 2) := by decide +kernel
theorem dX0_expandForLoop_85 : decode cX0_expandForLoop 85 = .ok (.invokevirtual 90, 3) := by decide +kernel
theorem dX0_expandForLoop_88 : decode cX0_expandForLoop 88 = .ok (.ifCond .ge 20, 3) := by decide +kernel
theorem dX0_expandForLoop_91 : decode cX0_expandForLoop 91 = .ok (.aload_n 0, 1) := by decide +kernel
theorem dX0_expandForLoop_92 : decode cX0_expandForLoop 92 = .ok (.lload 8, 2) := by decide +kernel
theorem dX0_expandForLoop_94 : decode cX0_expandForLoop 94 = .ok (.iload_n 2, 1) := by decide +kernel
theorem dX0_expandForLoop_95 : decode cX0_expandForLoop 95 = .ok (.iload 7, 2) := by decide +kernel
theorem dX0_expandForLoop_97 : decode cX0_expandForLoop 97 = .ok (.iload 6, 2) := by decide +kernel
theorem dX0_expandForLoop_99 : decode cX0_expandForLoop 99 = .ok (.invokevirtual 119, 3) := by decide +kernel
theorem dX0_expandForLoop_102 : decode cX0_expandForLoop 102 = .ok (.ifCond .ne 6, 3) := by decide +kernel
theorem dX0_expandForLoop_105 : decode cX0_expandForLoop 105 = .ok (.bipush (-7), 2) := by decide +kernel
theorem dX0_expandForLoop_107 : decode cX0_expandForLoop 107 = .ok (.ireturn, 1) := by decide +kernel
theorem dX0_expandForLoop_108 : decode cX0_expandForLoop 108 = .ok (.iinc 7 1, 3) := by decide +kernel
theorem dX0_expandForLoop_111 : decode cX0_expandForLoop 111 = .ok (.goto (-87), 3) := by decide +kernel
theorem dX0_expandForLoop_114 : decode cX0_expandForLoop 114 = .ok (.iinc 6 1, 3) := by decide +kernel
theorem dX0_expandForLoop_117 : decode cX0_expandForLoop 117 = .ok (.goto (-106), 3) := by decide +kernel
theorem dX0_expandForLoop_120 : decode cX0_expandForLoop 120 = .ok (.bipush (-6), 2) := by decide +kernel
theorem dX0_expandForLoop_122 : decode cX0_expandForLoop 122 = .ok (.ireturn, 1) := by decide +kernel
theorem dX0_addStep_0 : decode cX0_addStep 0 = .ok (.aload_n 0, 1) := by decide +kernel
theorem dX0_addStep_1 : decode cX0_addStep 1 = .ok (.lload_n 1, 1) := by decide +kernel
theorem dX0_addStep_2 : decode cX0_addStep 2 = .ok (.invokevirtual 50, 3) := by decide +kernel
theorem dX0_addStep_5 : decode cX0_addStep 5 = .ok (.istore 6, 2) := by decide +kernel
theorem dX0_addStep_7 : decode cX0_addStep 7 = .ok (.iload 6, 2) := by decide +kernel
theorem dX0_addStep_9 : decode cX0_addStep 9 = .ok (.ifCond .ge 5, 3) := by decide +kernel
theorem dX0_addStep_12 : decode cX0_addStep 12 = .ok (.iconst 0, 1) := by decide +kernel
theorem dX0_addStep_13 : decode cX0_addStep 13 = .ok (.ireturn, 1) := by decide +kernel
theorem dX0_addStep_14 : decode cX0_addStep 14 = .ok (.aload_n 0, 1) := by decide +kernel
theorem dX0_addStep_15 : decode cX0_addStep 15 = .ok (.getfield 23, 3) := by decide +kernel
theorem dX0_addStep_18 : decode cX0_addStep 18 = .ok (.iload 6, 2) := by decide +kernel
theorem dX0_addStep_20 : decode cX0_addStep 20 = .ok (.iload_n 3, 1) := by decide +kernel
theorem dX0_addStep_21 : decode cX0_addStep 21 = .ok (.iastore, 1) := by decide +kernel
theorem dX0_addStep_22 : decode cX0_addStep 22 = .ok (.aload_n 0, 1) := by decide +kernel
theorem dX0_addStep_23 : decode cX0_addStep 23 = .ok (.getfield 26, 3) := by decide +kernel
theorem dX0_addStep_26 : decode cX0_addStep 26 = .ok (.iload 6, 2) := by decide +kernel
theorem dX0_addStep_28 : decode cX0_addStep 28 = .ok (.aload_n 0, 1) := by decide +kernel
theorem dX0_addStep_29 : decode cX0_addStep 29 = .ok (.getfield 26, 3) := by decide +kernel
theorem dX0_addStep_32 : decode cX0_addStep 32 = .ok (.iload_n 3, 1) := by decide +kernel
theorem dX0_addStep_33 : decode cX0_addStep 33 = .ok (.iaload, 1) := by decide +kernel
theorem dX0_addStep_34 : decode cX0_addStep 34 = .ok (.iconst 1, 1) := by decide +kernel
theorem dX0_addStep_35 : decode cX0_addStep 35 = .ok (.iadd, 1) := by decide +kernel
theorem dX0_addStep_36 : decode cX0_addStep 36 = .ok (.iastore, 1) := by decide +kernel
theorem dX0_addStep_37 : decode cX0_addStep 37 = .ok (.aload_n 0, 1) := by decide +kernel
theorem dX0_addStep_38 : decode cX0_addStep 38 = .ok (.getfield 29, 3) := by decide +kernel
theorem dX0_addStep_41 : decode cX0_addStep 41 = .ok (.iload 6, 2) := by decide +kernel
theorem dX0_addStep_43 : decode cX0_addStep 43 = .ok (.iload 4, 2) := by decide +kernel
theorem dX0_addStep_45 : decode cX0_addStep 45 = .ok (.iastore, 1) := by decide +kernel
theorem dX0_addStep_46 : decode cX0_addStep 46 = .ok (.aload_n 0, 1) := by decide +kernel
theorem dX0_addStep_47 : decode cX0_addStep 47 = .ok (.getfield 32, 3) := by decide +kernel
theorem dX0_addStep_50 : decode cX0_addStep 50 = .ok (.iload 6, 2) := by decide +kernel
theorem dX0_addStep_52 : decode cX0_addStep 52 = .ok (.iload 5, 2) := by decide +kernel
theorem dX0_addStep_54 : decode cX0_addStep 54 = .ok (.iastore, 1) := by decide +kernel
theorem dX0_addStep_55 : decode cX0_addStep 55 = .ok (.iconst 1, 1) := by decide +kernel
theorem dX0_addStep_56 : decode cX0_addStep 56 = .ok (.ireturn, 1) := by decide +kernel
theorem dX0_storeLoop_0 : decode cX0_storeLoop 0 = .ok (.aload_n 0, 1) := by decide +kernel
theorem dX0_storeLoop_1 : decode cX0_storeLoop 1 = .ok (.getfield 26, 3) := by decide +kernel
theorem dX0_storeLoop_4 : decode cX0_storeLoop 4 = .ok (.iload_n 2, 1) := by decide +kernel
theorem dX0_storeLoop_5 : decode cX0_storeLoop 5 = .ok (.iaload, 1) := by decide +kernel
theorem dX0_storeLoop_6 : decode cX0_storeLoop 6 = .ok (.iconst 1, 1) := by decide +kernel
theorem dX0_storeLoop_7 : decode cX0_storeLoop 7 = .ok (.iadd, 1) := by decide +kernel
theorem dX0_storeLoop_8 : decode cX0_storeLoop 8 = .ok (.sipush 200, 3) := by decide +kernel
theorem dX0_storeLoop_11 : decode cX0_storeLoop 11 = .ok (.invokestatic 123, 3) := by decide +kernel
theorem dX0_storeLoop_14 : decode cX0_storeLoop 14 = .ok (.istore 5, 2) := by decide +kernel
theorem dX0_storeLoop_16 : decode cX0_storeLoop 16 = .ok (.aload_n 1, 1) := by decide +kernel
theorem dX0_storeLoop_17 : decode cX0_storeLoop 17 = .ok (.iload 5, 2) := by decide +kernel
theorem dX0_storeLoop_19 : decode cX0_storeLoop 19 = .ok (.putfield 126, 3) := by decide +kernel
theorem dX0_storeLoop_22 : decode cX0_storeLoop 22 = .ok (.aload_n 1, 1) := by decide +kernel
theorem dX0_storeLoop_23 : decode cX0_storeLoop 23 = .ok (.getfield 131, 3) := by decide +kernel
theorem dX0_storeLoop_26 : decode cX0_storeLoop 26 = .ok (.iload 5, 2) := by decide +kernel
theorem dX0_storeLoop_28 : decode cX0_storeLoop 28 = .ok (.iconst 1, 1) := by decide +kernel
theorem dX0_storeLoop_29 : decode cX0_storeLoop 29 = .ok (.isub, 1) := by decide +kernel
theorem dX0_storeLoop_30 : decode cX0_storeLoop 30 = .ok (.iload_n 3, 1) := by decide +kernel
theorem dX0_storeLoop_31 : decode cX0_storeLoop 31 = .ok (.iastore, 1) := by decide +kernel
theorem dX0_storeLoop_32 : decode cX0_storeLoop 32 = .ok (.aload_n 1, 1) := by decide +kernel
theorem dX0_storeLoop_33 : decode cX0_storeLoop 33 = .ok (.getfield 132, 3) := by decide +kernel
theorem dX0_storeLoop_36 : decode cX0_storeLoop 36 = .ok (.iload 5, 2) := by decide +kernel
theorem dX0_storeLoop_38 : decode cX0_storeLoop 38 = .ok (.iconst 1, 1) := by decide +kernel
theorem dX0_storeLoop_39 : decode cX0_storeLoop 39 = .ok (.isub, 1) := by decide +kernel
theorem dX0_storeLoop_40 : decode cX0_storeLoop 40 = .ok (.iload 4, 2) := by decide +kernel
theorem dX0_storeLoop_42 : decode cX0_storeLoop 42 = .ok (.iastore, 1) := by decide +kernel
theorem dX0_storeLoop_43 : decode cX0_storeLoop 43 = .ok (.iload_n 2, 1) := by decide +kernel
theorem dX0_storeLoop_44 : decode cX0_storeLoop 44 = .ok (.istore 6, 2) := by decide +kernel
theorem dX0_storeLoop_46 : decode cX0_storeLoop 46 = .ok (.iload 5, 2) := by decide +kernel
theorem dX0_storeLoop_48 : decode cX0_storeLoop 48 = .ok (.iconst 2, 1) := by decide +kernel
theorem dX0_storeLoop_49 : decode cX0_storeLoop 49 = .ok (.isub, 1) := by decide +kernel
theorem dX0_storeLoop_50 : decode cX0_storeLoop 50 = .ok (.istore 7, 2) := by decide +kernel
theorem dX0_storeLoop_52 : decode cX0_storeLoop 52 = .ok (.iload 7, 2) := by decide +kernel
theorem dX0_storeLoop_54 : decode cX0_storeLoop 54 = .ok (.ifCond .lt 51, 3) := by decide +kernel
theorem dX0_storeLoop_57 : decode cX0_storeLoop 57 = .ok (.iload 6, 2) := by decide +kernel
theorem dX0_storeLoop_59 : decode cX0_storeLoop 59 = .ok (.ifCond .le 46, 3) := by decide +kernel
theorem dX0_storeLoop_62 : decode cX0_storeLoop 62 = .ok (.aload_n 1, 1) := by decide +kernel
theorem dX0_storeLoop_63 : decode cX0_storeLoop 63 = .ok (.getfield 131, 3) := by decide +kernel
theorem dX0_storeLoop_66 : decode cX0_storeLoop 66 = .ok (.iload 7, 2) := by decide +kernel
theorem dX0_storeLoop_68 : decode cX0_storeLoop 68 = .ok (.aload_n 0, 1) := by decide +kernel
theorem dX0_storeLoop_69 : decode cX0_storeLoop 69 = .ok (.getfield 29, 3) := by decide +kernel
theorem dX0_storeLoop_72 : decode cX0_storeLoop 72 = .ok (.iload 6, 2) := by decide +kernel
theorem dX0_storeLoop_74 : decode cX0_storeLoop 74 = .ok (.iaload, 1) := by decide +kernel
theorem dX0_storeLoop_75 : decode cX0_storeLoop 75 = .ok (.iastore, 1) := by decide +kernel
theorem dX0_storeLoop_76 : decode cX0_storeLoop 76 = .ok (.aload_n 1, 1) := by decide +kernel
theorem dX0_storeLoop_77 : decode cX0_storeLoop 77 = .ok (.getfield 132, 3) := by decide +kernel
theorem dX0_storeLoop_80 : decode cX0_storeLoop 80 = .ok (.iload 7, 2) := by decide +kernel
theorem dX0_storeLoop_82 : decode cX0_storeLoop 82 = .ok (.aload_n 0, 1) := by decide +kernel
theorem dX0_storeLoop_83 : decode cX0_storeLoop 83 = .ok (.getfield 32, 3) := by decide +kernel
theorem dX0_storeLoop_86 : decode cX0_storeLoop 86 = .ok (.iload 6, 2) := by decide +kernel
theorem dX0_storeLoop_88 : decode cX0_storeLoop 88 = .ok (.iaload, 1) := by decide +kernel
theorem dX0_storeLoop_89 : decode cX0_storeLoop 89 = .ok (.iastore, 1) := by decide +kernel
theorem dX0_storeLoop_90 : decode cX0_storeLoop 90 = .ok (.aload_n 0, 1) := by decide +kernel
theorem dX0_storeLoop_91 : decode cX0_storeLoop 91 = .ok (.getfield 23, 3) := by decide +kernel
theorem dX0_storeLoop_94 : decode cX0_storeLoop 94 = .ok (.iload 6, 2) := by decide +kernel
theorem dX0_storeLoop_96 : decode cX0_storeLoop 96 = .ok (.iaload, 1) := by decide +kernel
theorem dX0_storeLoop_97 : decode cX0_storeLoop 97 = .ok (.istore 6, 2) := by decide +kernel
theorem dX0_storeLoop_99 : decode cX0_storeLoop 99 = .ok (.iinc 7 (-1), 3) := by decide +kernel
theorem dX0_storeLoop_102 : decode cX0_storeLoop 102 = .ok (.goto (-50), 3) := by decide +kernel
theorem dX0_storeLoop_105 : decode cX0_storeLoop 105 = .ok (.iload 5, 2) := by decide +kernel
theorem dX0_storeLoop_107 : decode cX0_storeLoop 107 = .ok (.ireturn, 1) := by decide +kernel
theorem dX1_init_0 : decode cX1_init 0 = .ok (.aload_n 0, 1) := by decide +kernel
theorem dX1_init_1 : decode cX1_init 1 = .ok (.invokespecial 3, 3) := by decide +kernel
theorem dX1_init_4 : decode cX1_init 4 = .ok (.aload_n 0, 1) := by decide +kernel
theorem dX1_init_5 : decode cX1_init 5 = .ok (.iconst 0, 1) := by decide +kernel
theorem dX1_init_6 : decode cX1_init 6 = .ok (.putfield 9, 3) := by decide +kernel
theorem dX1_init_9 : decode cX1_init 9 = .ok (.aload_n 0, 1) := by decide +kernel
theorem dX1_init_10 : decode cX1_init 10 = .ok (.bipush 40, 2) := by decide +kernel
theorem dX1_init_12 : decode cX1_init 12 = .ok (.newarray .byte, 2) := by decide +kernel
theorem dX1_init_14 : decode cX1_init 14 = .ok (.putfield 15, 3) := by decide +kernel
theorem dX1_init_17 : decode cX1_init 17 = .ok (.return_, 1) := by decide +kernel
theorem dX1_put_0 : decode cX1_put 0 = .ok (.iload_n 2, 1) := by decide +kernel
theorem dX1_put_1 : decode cX1_put 1 = .ok (.bipush 40, 2) := by decide +kernel
theorem dX1_put_3 : decode cX1_put 3 = .ok (.aload_n 0, 1) := by decide +kernel
theorem dX1_put_4 : decode cX1_put 4 = .ok (.getfield 9, 3) := by decide +kernel
theorem dX1_put_7 : decode cX1_put 7 = .ok (.isub, 1) := by decide +kernel
theorem dX1_put_8 : decode cX1_put 8 = .ok (.if_icmp .le 5, 3) := by decide +kernel
theorem dX1_put_11 : decode cX1_put 11 = .ok (.iconst 0, 1) := by decide +kernel
theorem dX1_put_12 : decode cX1_put 12 = .ok (.ireturn, 1) := by decide +kernel
theorem dX1_put_13 : decode cX1_put 13 = .ok (.iconst 0, 1) := by decide +kernel
theorem dX1_put_14 : decode cX1_put 14 = .ok (.istore_n 3, 1) := by decide +kernel
theorem dX1_put_15 : decode cX1_put 15 = .ok (.iload_n 3, 1) := by decide +kernel
theorem dX1_put_16 : decode cX1_put 16 = .ok (.iload_n 2, 1) := by decide +kernel
theorem dX1_put_17 : decode cX1_put 17 = .ok (.if_icmp .ge 30, 3) := by decide +kernel
theorem dX1_put_20 : decode cX1_put 20 = .ok (.aload_n 0, 1) := by decide +kernel
theorem dX1_put_21 : decode cX1_put 21 = .ok (.getfield 15, 3) := by decide +kernel
theorem dX1_put_24 : decode cX1_put 24 = .ok (.aload_n 0, 1) := by decide +kernel
theorem dX1_put_25 : decode cX1_put 25 = .ok (.getfield 9, 3) := by decide +kernel
theorem dX1_put_28 : decode cX1_put 28 = .ok (.iload_n 1, 1) := by decide +kernel
theorem dX1_put_29 : decode cX1_put 29 = .ok (.i2b, 1) := by decide +kernel
theorem dX1_put_30 : decode cX1_put 30 = .ok (.bastore, 1) := by decide +kernel
theorem dX1_put_31 : decode cX1_put 31 = .ok (.aload_n 0, 1) := by decide +kernel
theorem dX1_put_32 : decode cX1_put 32 = .ok (.dup, 1) := by decide +kernel
theorem dX1_put_33 : decode cX1_put 33 = .ok (.getfield 9, 3) := by decide +kernel
theorem dX1_put_36 : decode cX1_put 36 = .ok (.iconst 1, 1) := by decide +kernel
theorem dX1_put_37 : decode cX1_put 37 = .ok (.iadd, 1) := by decide +kernel
theorem dX1_put_38 : decode cX1_put 38 = .ok (.putfield 9, 3) := by decide +kernel
theorem dX1_put_41 : decode cX1_put 41 = .ok (.iinc 3 1, 3) := by decide +kernel
theorem dX1_put_44 : decode cX1_put 44 = .ok (.goto (-29), 3) := by decide +kernel
theorem dX1_put_47 : decode cX1_put 47 = .ok (.iconst 1, 1) := by decide +kernel
theorem dX1_put_48 : decode cX1_put 48 = .ok (.ireturn, 1) := by decide +kernel
theorem dX1_consume_0 : decode cX1_consume 0 = .ok (.aload_n 0, 1) := by decide +kernel
theorem dX1_consume_1 : decode cX1_consume 1 = .ok (.getfield 9, 3) := by decide +kernel
theorem dX1_consume_4 : decode cX1_consume 4 = .ok (.istore_n 1, 1) := by decide +kernel
theorem dX1_consume_5 : decode cX1_consume 5 = .ok (.aload_n 0, 1) := by decide +kernel
theorem dX1_consume_6 : decode cX1_consume 6 = .ok (.iconst 0, 1) := by decide +kernel
theorem dX1_consume_7 : decode cX1_consume 7 = .ok (.putfield 9, 3) := by decide +kernel
theorem dX1_consume_10 : decode cX1_consume 10 = .ok (.iload_n 1, 1) := by decide +kernel
theorem dX1_consume_11 : decode cX1_consume 11 = .ok (.ireturn, 1) := by decide +kernel
theorem dX1_find_0 : decode cX1_find 0 = .ok (.iconst 0, 1) := by decide +kernel
theorem dX1_find_1 : decode cX1_find 1 = .ok (.istore_n 3, 1) := by decide +kernel
theorem dX1_find_2 : decode cX1_find 2 = .ok (.iload_n 3, 1) := by decide +kernel
theorem dX1_find_3 : decode cX1_find 3 = .ok (.iload_n 2, 1) := by decide +kernel
theorem dX1_find_4 : decode cX1_find 4 = .ok (.if_icmp .ge 21, 3) := by decide +kernel
theorem dX1_find_7 : decode cX1_find 7 = .ok (.aload_n 0, 1) := by decide +kernel
theorem dX1_find_8 : decode cX1_find 8 = .ok (.getfield 15, 3) := by decide +kernel
theorem dX1_find_11 : decode cX1_find 11 = .ok (.iload_n 3, 1) := by decide +kernel
theorem dX1_find_12 : decode cX1_find 12 = .ok (.baload, 1) := by decide +kernel
theorem dX1_find_13 : decode cX1_find 13 = .ok (.iload_n 1, 1) := by decide +kernel
theorem dX1_find_14 : decode cX1_find 14 = .ok (.if_icmp .ne 5, 3) := by decide +kernel
theorem dX1_find_17 : decode cX1_find 17 = .ok (.iload_n 3, 1) := by decide +kernel
theorem dX1_find_18 : decode cX1_find 18 = .ok (.ireturn, 1) := by decide +kernel
theorem dX1_find_19 : decode cX1_find 19 = .ok (.iinc 3 1, 3) := by decide +kernel
theorem dX1_find_22 : decode cX1_find 22 = .ok (.goto (-20), 3) := by decide +kernel
theorem dX1_find_25 : decode cX1_find 25 = .ok (.iconst (-1), 1) := by decide +kernel
theorem dX1_find_26 : decode cX1_find 26 = .ok (.ireturn, 1) := by decide +kernel
theorem dX1_read_0 : decode cX1_read 0 = .ok (.iload_n 2, 1) := by decide +kernel
theorem dX1_read_1 : decode cX1_read 1 = .ok (.iload_n 1, 1) := by decide +kernel
theorem dX1_read_2 : decode cX1_read 2 = .ok (.isub, 1) := by decide +kernel
theorem dX1_read_3 : decode cX1_read 3 = .ok (.iload_n 3, 1) := by decide +kernel
theorem dX1_read_4 : decode cX1_read 4 = .ok (.if_icmp .le 7, 3) := by decide +kernel
theorem dX1_read_7 : decode cX1_read 7 = .ok (.ldc2_w 19, 3) := by decide +kernel
theorem dX1_read_10 : decode cX1_read 10 = .ok (.lreturn, 1) := by decide +kernel
theorem dX1_read_11 : decode cX1_read 11 = .ok (.lconst 0, 1) := by decide +kernel
theorem dX1_read_12 : decode cX1_read 12 = .ok (.lstore 5, 2) := by decide +kernel
theorem dX1_read_14 : decode cX1_read 14 = .ok (.iload_n 1, 1) := by decide +kernel
theorem dX1_read_15 : decode cX1_read 15 = .ok (.istore 7, 2) := by decide +kernel
theorem dX1_read_17 : decode cX1_read 17 = .ok (.iload 7, 2) := by decide +kernel
theorem dX1_read_19 : decode cX1_read 19 = .ok (.iload_n 2, 1) := by decide +kernel
theorem dX1_read_20 : decode cX1_read 20 = .ok (.if_icmp .ge 46, 3) := by decide +kernel
theorem dX1_read_23 : decode cX1_read 23 = .ok (.aload_n 0, 1) := by decide +kernel
theorem dX1_read_24 : decode cX1_read 24 = .ok (.getfield 15, 3) := by decide +kernel
theorem dX1_read_27 : decode cX1_read 27 = .ok (.iload 7, 2) := by decide +kernel
theorem dX1_read_29 : decode cX1_read 29 = .ok (.baload, 1) := by decide +kernel
theorem dX1_read_30 : decode cX1_read 30 = .ok (.bipush 97, 2) := by decide +kernel
theorem dX1_read_32 : decode cX1_read 32 = .ok (.isub, 1) := by decide +kernel
theorem dX1_read_33 : decode cX1_read 33 = .ok (.istore 8, 2) := by decide +kernel
theorem dX1_read_35 : decode cX1_read 35 = .ok (.iload 8, 2) := by decide +kernel
theorem dX1_read_37 : decode cX1_read 37 = .ok (.ifCond .lt 10, 3) := by decide +kernel
theorem dX1_read_40 : decode cX1_read 40 = .ok (.iload 8, 2) := by decide +kernel
theorem dX1_read_42 : decode cX1_read 42 = .ok (.iload 4, 2) := by decide +kernel
theorem dX1_read_44 : decode cX1_read 44 = .ok (.if_icmp .lt 7, 3) := by decide +kernel
theorem dX1_read_47 : decode cX1_read 47 = .ok (.ldc2_w 19, 3) := by decide +kernel
theorem dX1_read_50 : decode cX1_read 50 = .ok (.lreturn, 1) := by decide +kernel
theorem dX1_read_51 : decode cX1_read 51 = .ok (.lload 5, 2) := by decide +kernel
theorem dX1_read_53 : decode cX1_read 53 = .ok (.iload 8, 2) := by decide +kernel
theorem dX1_read_55 : decode cX1_read 55 = .ok (.invokestatic 21, 3) := by decide +kernel
theorem dX1_read_58 : decode cX1_read 58 = .ok (.lstore 5, 2) := by decide +kernel
theorem dX1_read_60 : decode cX1_read 60 = .ok (.iinc 7 1, 3) := by decide +kernel
theorem dX1_read_63 : decode cX1_read 63 = .ok (.goto (-46), 3) := by decide +kernel
theorem dX1_read_66 : decode cX1_read 66 = .ok (.lload 5, 2) := by decide +kernel
theorem dX1_read_68 : decode cX1_read 68 = .ok (.lreturn, 1) := by decide +kernel
theorem dX2_init_0 : decode cX2_init 0 = .ok (.aload_n 0, 1) := by decide +kernel
theorem dX2_init_1 : decode cX2_init 1 = .ok (.invokespecial 3, 3) := by decide +kernel
theorem dX2_init_4 : decode cX2_init 4 = .ok (.aload_n 0, 1) := by decide +kernel
theorem dX2_init_5 : decode cX2_init 5 = .ok (.bipush 8, 2) := by decide +kernel
theorem dX2_init_7 : decode cX2_init 7 = .ok (.newarray .long, 2) := by decide +kernel
theorem dX2_init_9 : decode cX2_init 9 = .ok (.putfield 9, 3) := by decide +kernel
theorem dX2_init_12 : decode cX2_init 12 = .ok (.aload_n 0, 1) := by decide +kernel
theorem dX2_init_13 : decode cX2_init 13 = .ok (.bipush 8, 2) := by decide +kernel
theorem dX2_init_15 : decode cX2_init 15 = .ok (.newarray .long, 2) := by decide +kernel
theorem dX2_init_17 : decode cX2_init 17 = .ok (.putfield 15, 3) := by decide +kernel
theorem dX2_init_20 : decode cX2_init 20 = .ok (.return_, 1) := by decide +kernel
theorem dX2_prepare_0 : decode cX2_prepare 0 = .ok (.aload_n 0, 1) := by decide +kernel
theorem dX2_prepare_1 : decode cX2_prepare 1 = .ok (.aload_n 1, 1) := by decide +kernel
theorem dX2_prepare_2 : decode cX2_prepare 2 = .ok (.getfield 18, 3) := by decide +kernel
theorem dX2_prepare_5 : decode cX2_prepare 5 = .ok (.putfield 24, 3) := by decide +kernel
theorem dX2_prepare_8 : decode cX2_prepare 8 = .ok (.aload_n 0, 1) := by decide +kernel
theorem dX2_prepare_9 : decode cX2_prepare 9 = .ok (.iconst 0, 1) := by decide +kernel
theorem dX2_prepare_10 : decode cX2_prepare 10 = .ok (.putfield 25, 3) := by decide +kernel
theorem dX2_prepare_13 : decode cX2_prepare 13 = .ok (.iconst 0, 1) := by decide +kernel
theorem dX2_prepare_14 : decode cX2_prepare 14 = .ok (.istore_n 3, 1) := by decide +kernel
theorem dX2_prepare_15 : decode cX2_prepare 15 = .ok (.iload_n 3, 1) := by decide +kernel
theorem dX2_prepare_16 : decode cX2_prepare 16 = .ok (.aload_n 1, 1) := by decide +kernel
theorem dX2_prepare_17 : decode cX2_prepare 17 = .ok (.getfield 28, 3) := by decide +kernel
theorem dX2_prepare_20 : decode cX2_prepare 20 = .ok (.if_icmp .ge 101, 3) := by decide +kernel
theorem dX2_prepare_23 : decode cX2_prepare 23 = .ok (.iconst 0, 1) := by decide +kernel
theorem dX2_prepare_24 : decode cX2_prepare 24 = .ok (.istore 4, 2) := by decide +kernel
theorem dX2_prepare_26 : decode cX2_prepare 26 = .ok (.iconst 0, 1) := by decide +kernel
theorem dX2_prepare_27 : decode cX2_prepare 27 = .ok (.istore 5, 2) := by decide +kernel
theorem dX2_prepare_29 : decode cX2_prepare 29 = .ok (.iload 5, 2) := by decide +kernel
theorem dX2_prepare_31 : decode cX2_prepare 31 = .ok (.aload_n 0, 1) := by decide +kernel
theorem dX2_prepare_32 : decode cX2_prepare 32 = .ok (.getfield 24, 3) := by decide +kernel
theorem dX2_prepare_35 : decode cX2_prepare 35 = .ok (.if_icmp .ge 28, 3) := by decide +kernel
theorem dX2_prepare_38 : decode cX2_prepare 38 = .ok (.iload 4, 2) := by decide +kernel
theorem dX2_prepare_40 : decode cX2_prepare 40 = .ok (.aload_n 2, 1) := by decide +kernel
theorem dX2_prepare_41 : decode cX2_prepare 41 = .ok (.iload 5, 2) := by decide +kernel
theorem dX2_prepare_43 : decode cX2_prepare 43 = .ok (.iaload, 1) := by decide +kernel
theorem dX2_prepare_44 : decode cX2_prepare 44 = .ok (.aload_n 1, 1) := by decide +kernel
theorem dX2_prepare_45 : decode cX2_prepare 45 = .ok (.getfield 31, 3) := by decide +kernel
theorem dX2_prepare_48 : decode cX2_prepare 48 = .ok (.iload_n 3, 1) := by decide +kernel
theorem dX2_prepare_49 : decode cX2_prepare 49 = .ok (.aaload, 1) := by decide +kernel
theorem dX2_prepare_50 : decode cX2_prepare 50 = .ok (.iload 5, 2) := by decide +kernel
theorem dX2_prepare_52 : decode cX2_prepare 52 = .ok (.iaload, 1) := by decide +kernel
theorem dX2_prepare_53 : decode cX2_prepare 53 = .ok (.imul, 1) := by decide +kernel
theorem dX2_prepare_54 : decode cX2_prepare 54 = .ok (.iadd, 1) := by decide +kernel
theorem dX2_prepare_55 : decode cX2_prepare 55 = .ok (.istore 4, 2) := by decide +kernel
theorem dX2_prepare_57 : decode cX2_prepare 57 = .ok (.iinc 5 1, 3) := by decide +kernel
theorem dX2_prepare_60 : decode cX2_prepare 60 = .ok (.goto (-31), 3) := by decide +kernel
theorem dX2_prepare_63 : decode cX2_prepare 63 = .ok (.iload 4, 2) := by decide +kernel
theorem dX2_prepare_65 : decode cX2_prepare 65 = .ok (.ifCond .ge 5, 3) := by decide +kernel
theorem dX2_prepare_68 : decode cX2_prepare 68 = .ok (.iconst 0, 1) := by decide +kernel
theorem dX2_prepare_69 : decode cX2_prepare 69 = .ok (.ireturn, 1) := by decide +kernel
theorem dX2_prepare_70 : decode cX2_prepare 70 = .ok (.iload 4, 2) := by decide +kernel
theorem dX2_prepare_72 : decode cX2_prepare 72 = .ok (.ifCond .ne 43, 3) := by decide +kernel
theorem dX2_prepare_75 : decode cX2_prepare 75 = .ok (.aload_n 0, 1) := by decide +kernel
theorem dX2_prepare_76 : decode cX2_prepare 76 = .ok (.getfield 9, 3) := by decide +kernel
theorem dX2_prepare_79 : decode cX2_prepare 79 = .ok (.aload_n 0, 1) := by decide +kernel
theorem dX2_prepare_80 : decode cX2_prepare 80 = .ok (.getfield 25, 3) := by decide +kernel
theorem dX2_prepare_83 : decode cX2_prepare 83 = .ok (.aload_n 1, 1) := by decide +kernel
theorem dX2_prepare_84 : decode cX2_prepare 84 = .ok (.getfield 35, 3) := by decide +kernel
theorem dX2_prepare_87 : decode cX2_prepare 87 = .ok (.iload_n 3, 1) := by decide +kernel
theorem dX2_prepare_88 : decode cX2_prepare 88 = .ok (.laload, 1) := by decide +kernel
theorem dX2_prepare_89 : decode cX2_prepare 89 = .ok (.lastore, 1) := by decide +kernel
theorem dX2_prepare_90 : decode cX2_prepare 90 = .ok (.aload_n 0, 1) := by decide +kernel
theorem dX2_prepare_91 : decode cX2_prepare 91 = .ok (.getfield 15, 3) := by decide +kernel
theorem dX2_prepare_94 : decode cX2_prepare 94 = .ok (.aload_n 0, 1) := by decide +kernel
theorem dX2_prepare_95 : decode cX2_prepare 95 = .ok (.getfield 25, 3) := by decide +kernel
theorem dX2_prepare_98 : decode cX2_prepare 98 = .ok (.aload_n 1, 1) := by decide +kernel
theorem dX2_prepare_99 : decode cX2_prepare 99 = .ok (.getfield 36, 3) := by decide +kernel
theorem dX2_prepare_102 : decode cX2_prepare 102 = .ok (.iload_n 3, 1) := by decide +kernel
theorem dX2_prepare_103 : decode cX2_prepare 103 = .ok (.laload, 1) := by decide +kernel
theorem dX2_prepare_104 : decode cX2_prepare 104 = .ok (.lastore, 1) := by decide +kernel
theorem dX2_prepare_105 : decode cX2_prepare 105 = .ok (.aload_n 0, 1) := by decide +kernel
theorem dX2_prepare_106 : decode cX2_prepare 106 = .ok (.dup, 1) := by decide +kernel
theorem dX2_prepare_107 : decode cX2_prepare 107 = .ok (.getfield 25, 3) := by decide +kernel
theorem dX2_prepare_110 : decode cX2_prepare 110 = .ok (.iconst 1, 1) := by decide +kernel
theorem dX2_prepare_111 : decode cX2_prepare 111 = .ok (.iadd, 1) := by decide +kernel
theorem dX2_prepare_112 : decode cX2_prepare 112 = .ok (.putfield 25, 3) := by decide +kernel
theorem dX2_prepare_115 : decode cX2_prepare 115 = .ok (.iinc 3 1, 3) := by decide +kernel
theorem dX2_prepare_118 : decode cX2_prepare 118 = .ok (.goto (-103), 3) := by decide +kernel
theorem dX2_prepare_121 : decode cX2_prepare 121 = .ok (.aload_n 0, 1) := by decide +kernel
theorem dX2_prepare_122 : decode cX2_prepare 122 = .ok (.aload_n 2, 1) := by decide +kernel
theorem dX2_prepare_123 : decode cX2_prepare 123 = .ok (.invokevirtual 37, 3) := by decide +kernel
theorem dX2_prepare_126 : decode cX2_prepare 126 = .ok (.ireturn, 1) := by decide +kernel
theorem dX2_findWeightless_0 : decode cX2_findWeightless 0 = .ok (.aload_n 0, 1) := by decide +kernel
theorem dX2_findWeightless_1 : decode cX2_findWeightless 1 = .ok (.iconst (-1), 1) := by decide +kernel
theorem dX2_findWeightless_2 : decode cX2_findWeightless 2 = .ok (.putfield 41, 3) := by decide +kernel
theorem dX2_findWeightless_5 : decode cX2_findWeightless 5 = .ok (.iconst 0, 1) := by decide +kernel
theorem dX2_findWeightless_6 : decode cX2_findWeightless 6 = .ok (.istore_n 2, 1) := by decide +kernel
theorem dX2_findWeightless_7 : decode cX2_findWeightless 7 = .ok (.iload_n 2, 1) := by decide +kernel
theorem dX2_findWeightless_8 : decode cX2_findWeightless 8 = .ok (.aload_n 0, 1) := by decide +kernel
theorem dX2_findWeightless_9 : decode cX2_findWeightless 9 = .ok (.getfield 24, 3) := by decide +kernel
theorem dX2_findWeightless_12 : decode cX2_findWeightless 12 = .ok (.if_icmp .ge 30, 3) := by decide +kernel
theorem dX2_findWeightless_15 : decode cX2_findWeightless 15 = .ok (.aload_n 1, 1) := by decide +kernel
theorem dX2_findWeightless_16 : decode cX2_findWeightless 16 = .ok (.iload_n 2, 1) := by decide +kernel
theorem dX2_findWeightless_17 : decode cX2_findWeightless 17 = .ok (.iaload, 1) := by decide +kernel
theorem dX2_findWeightless_18 : decode cX2_findWeightless 18 = .ok (.ifCond .ne 18, 3) := by decide +kernel
theorem dX2_findWeightless_21 : decode cX2_findWeightless 21 = .ok (.aload_n 0, 1) := by decide +kernel
theorem dX2_findWeightless_22 : decode cX2_findWeightless 22 = .ok (.getfield 41, 3) := by decide +kernel
theorem dX2_findWeightless_25 : decode cX2_findWeightless 25 = .ok (.iconst (-1), 1) := by decide +kernel
theorem dX2_findWeightless_26 : decode cX2_findWeightless 26 = .ok (.if_icmp .eq 5, 3) := by decide +kernel
theorem dX2_findWeightless_29 : decode cX2_findWeightless 29 = .ok (.iconst 0, 1) := by decide +kernel
theorem dX2_findWeightless_30 : decode cX2_findWeightless 30 = .ok (.ireturn, 1) := by decide +kernel
theorem dX2_findWeightless_31 : decode cX2_findWeightless 31 = .ok (.aload_n 0, 1) := by decide +kernel
theorem dX2_findWeightless_32 : decode cX2_findWeightless 32 = .ok (.iload_n 2, 1) := by decide +kernel
theorem dX2_findWeightless_33 : decode cX2_findWeightless 33 = .ok (.putfield 41, 3) := by decide +kernel
theorem dX2_findWeightless_36 : decode cX2_findWeightless 36 = .ok (.iinc 2 1, 3) := by decide +kernel
theorem dX2_findWeightless_39 : decode cX2_findWeightless 39 = .ok (.goto (-32), 3) := by decide +kernel
theorem dX2_findWeightless_42 : decode cX2_findWeightless 42 = .ok (.iconst 1, 1) := by decide +kernel
theorem dX2_findWeightless_43 : decode cX2_findWeightless 43 = .ok (.ireturn, 1) := by decide +kernel
theorem dX2_findFor_0 : decode cX2_findFor 0 = .ok (.aload_n 0, 1) := by decide +kernel
theorem dX2_findFor_1 : decode cX2_findFor 1 = .ok (.iload_n 1, 1) := by decide +kernel
theorem dX2_findFor_2 : decode cX2_findFor 2 = .ok (.putfield 44, 3) := by decide +kernel
theorem dX2_findFor_5 : decode cX2_findFor 5 = .ok (.aload_n 0, 1) := by decide +kernel
theorem dX2_findFor_6 : decode cX2_findFor 6 = .ok (.aload_n 0, 1) := by decide +kernel
theorem dX2_findFor_7 : decode cX2_findFor 7 = .ok (.getfield 24, 3) := by decide +kernel
theorem dX2_findFor_10 : decode cX2_findFor 10 = .ok (.aload_n 0, 1) := by decide +kernel
theorem dX2_findFor_11 : decode cX2_findFor 11 = .ok (.getfield 24, 3) := by decide +kernel
theorem dX2_findFor_14 : decode cX2_findFor 14 = .ok (.iconst 1, 1) := by decide +kernel
theorem dX2_findFor_15 : decode cX2_findFor 15 = .ok (.isub, 1) := by decide +kernel
theorem dX2_findFor_16 : decode cX2_findFor 16 = .ok (.invokevirtual 47, 3) := by decide +kernel
theorem dX2_findFor_19 : decode cX2_findFor 19 = .ok (.ireturn, 1) := by decide +kernel
theorem dX2_mayFit_0 : decode cX2_mayFit 0 = .ok (.aload_n 0, 1) := by decide +kernel
theorem dX2_mayFit_1 : decode cX2_mayFit 1 = .ok (.iload_n 1, 1) := by decide +kernel
theorem dX2_mayFit_2 : decode cX2_mayFit 2 = .ok (.invokevirtual 51, 3) := by decide +kernel
theorem dX2_mayFit_5 : decode cX2_mayFit 5 = .ok (.ifCond .ne 5, 3) := by decide +kernel
theorem dX2_mayFit_8 : decode cX2_mayFit 8 = .ok (.iconst 0, 1) := by decide +kernel
theorem dX2_mayFit_9 : decode cX2_mayFit 9 = .ok (.ireturn, 1) := by decide +kernel
theorem dX2_mayFit_10 : decode cX2_mayFit 10 = .ok (.iconst 0, 1) := by decide +kernel
theorem dX2_mayFit_11 : decode cX2_mayFit 11 = .ok (.istore_n 2, 1) := by decide +kernel
theorem dX2_mayFit_12 : decode cX2_mayFit 12 = .ok (.iload_n 2, 1) := by decide +kernel
theorem dX2_mayFit_13 : decode cX2_mayFit 13 = .ok (.aload_n 0, 1) := by decide +kernel
theorem dX2_mayFit_14 : decode cX2_mayFit 14 = .ok (.getfield 25, 3) := by decide +kernel
theorem dX2_mayFit_17 : decode cX2_mayFit 17 = .ok (.if_icmp .ge 31, 3) := by decide +kernel
theorem dX2_mayFit_20 : decode cX2_mayFit 20 = .ok (.aload_n 0, 1) := by decide +kernel
theorem dX2_mayFit_21 : decode cX2_mayFit 21 = .ok (.aload_n 0, 1) := by decide +kernel
theorem dX2_mayFit_22 : decode cX2_mayFit 22 = .ok (.getfield 9, 3) := by decide +kernel
theorem dX2_mayFit_25 : decode cX2_mayFit 25 = .ok (.iload_n 2, 1) := by decide +kernel
theorem dX2_mayFit_26 : decode cX2_mayFit 26 = .ok (.laload, 1) := by decide +kernel
theorem dX2_mayFit_27 : decode cX2_mayFit 27 = .ok (.aload_n 0, 1) := by decide +kernel
theorem dX2_mayFit_28 : decode cX2_mayFit 28 = .ok (.getfield 15, 3) := by decide +kernel
theorem dX2_mayFit_31 : decode cX2_mayFit 31 = .ok (.iload_n 2, 1) := by decide +kernel
theorem dX2_mayFit_32 : decode cX2_mayFit 32 = .ok (.laload, 1) := by decide +kernel
theorem dX2_mayFit_33 : decode cX2_mayFit 33 = .ok (.iload_n 1, 1) := by decide +kernel
theorem dX2_mayFit_34 : decode cX2_mayFit 34 = .ok (.invokevirtual 55, 3) := by decide +kernel
theorem dX2_mayFit_37 : decode cX2_mayFit 37 = .ok (.ifCond .ne 5, 3) := by decide +kernel
theorem dX2_mayFit_40 : decode cX2_mayFit 40 = .ok (.iconst 0, 1) := by decide +kernel
theorem dX2_mayFit_41 : decode cX2_mayFit 41 = .ok (.ireturn, 1) := by decide +kernel
theorem dX2_mayFit_42 : decode cX2_mayFit 42 = .ok (.iinc 2 1, 3) := by decide +kernel
theorem dX2_mayFit_45 : decode cX2_mayFit 45 = .ok (.goto (-33), 3) := by decide +kernel
theorem dX2_mayFit_48 : decode cX2_mayFit 48 = .ok (.iconst 1, 1) := by decide +kernel
theorem dX2_mayFit_49 : decode cX2_mayFit 49 = .ok (.ireturn, 1) := by decide +kernel
theorem dX2_mayBeAdmissible_0 : decode cX2_mayBeAdmissible 0 = .ok (.aload_n 0, 1) := by decide +kernel
theorem dX2_mayBeAdmissible_1 : decode cX2_mayBeAdmissible 1 = .ok (.getfield 41, 3) := by decide +kernel
theorem dX2_mayBeAdmissible_4 : decode cX2_mayBeAdmissible 4 = .ok (.ifCond .lt 11, 3) := by decide +kernel
theorem dX2_mayBeAdmissible_7 : decode cX2_mayBeAdmissible 7 = .ok (.aload_n 0, 1) := by decide +kernel
theorem dX2_mayBeAdmissible_8 : decode cX2_mayBeAdmissible 8 = .ok (.getfield 41, 3) := by decide +kernel
theorem dX2_mayBeAdmissible_11 : decode cX2_mayBeAdmissible 11 = .ok (.iload_n 1, 1) := by decide +kernel
theorem dX2_mayBeAdmissible_12 : decode cX2_mayBeAdmissible 12 = .ok (.if_icmp .lt 5, 3) := by decide +kernel
theorem dX2_mayBeAdmissible_15 : decode cX2_mayBeAdmissible 15 = .ok (.iconst 1, 1) := by decide +kernel
theorem dX2_mayBeAdmissible_16 : decode cX2_mayBeAdmissible 16 = .ok (.ireturn, 1) := by decide +kernel
theorem dX2_mayBeAdmissible_17 : decode cX2_mayBeAdmissible 17 = .ok (.iconst 0, 1) := by decide +kernel
theorem dX2_mayBeAdmissible_18 : decode cX2_mayBeAdmissible 18 = .ok (.istore_n 2, 1) := by decide +kernel
theorem dX2_mayBeAdmissible_19 : decode cX2_mayBeAdmissible 19 = .ok (.iload_n 2, 1) := by decide +kernel
theorem dX2_mayBeAdmissible_20 : decode cX2_mayBeAdmissible 20 = .ok (.iload_n 1, 1) := by decide +kernel
theorem dX2_mayBeAdmissible_21 : decode cX2_mayBeAdmissible 21 = .ok (.if_icmp .ge 37, 3) := by decide +kernel
theorem dX2_mayBeAdmissible_24 : decode cX2_mayBeAdmissible 24 = .ok (.iload_n 2, 1) := by decide +kernel
theorem dX2_mayBeAdmissible_25 : decode cX2_mayBeAdmissible 25 = .ok (.aload_n 0, 1) := by decide +kernel
theorem dX2_mayBeAdmissible_26 : decode cX2_mayBeAdmissible 26 = .ok (.getfield 41, 3) := by decide +kernel
theorem dX2_mayBeAdmissible_29 : decode cX2_mayBeAdmissible 29 = .ok (.if_icmp .eq 23, 3) := by decide +kernel
theorem dX2_mayBeAdmissible_32 : decode cX2_mayBeAdmissible 32 = .ok (.aload_n 0, 1) := by decide +kernel
theorem dX2_mayBeAdmissible_33 : decode cX2_mayBeAdmissible 33 = .ok (.getfield 59, 3) := by decide +kernel
theorem dX2_mayBeAdmissible_36 : decode cX2_mayBeAdmissible 36 = .ok (.iload_n 2, 1) := by decide +kernel
theorem dX2_mayBeAdmissible_37 : decode cX2_mayBeAdmissible 37 = .ok (.iaload, 1) := by decide +kernel
theorem dX2_mayBeAdmissible_38 : decode cX2_mayBeAdmissible 38 = .ok (.aload_n 0, 1) := by decide +kernel
theorem dX2_mayBeAdmissible_39 : decode cX2_mayBeAdmissible 39 = .ok (.getfield 59, 3) := by decide +kernel
theorem dX2_mayBeAdmissible_42 : decode cX2_mayBeAdmissible 42 = .ok (.aload_n 0, 1) := by decide +kernel
theorem dX2_mayBeAdmissible_43 : decode cX2_mayBeAdmissible 43 = .ok (.getfield 41, 3) := by decide +kernel
theorem dX2_mayBeAdmissible_46 : decode cX2_mayBeAdmissible 46 = .ok (.iaload, 1) := by decide +kernel
theorem dX2_mayBeAdmissible_47 : decode cX2_mayBeAdmissible 47 = .ok (.if_icmp .lt 5, 3) := by decide +kernel
theorem dX2_mayBeAdmissible_50 : decode cX2_mayBeAdmissible 50 = .ok (.iconst 0, 1) := by decide +kernel
theorem dX2_mayBeAdmissible_51 : decode cX2_mayBeAdmissible 51 = .ok (.ireturn, 1) := by decide +kernel
theorem dX2_mayBeAdmissible_52 : decode cX2_mayBeAdmissible 52 = .ok (.iinc 2 1, 3) := by decide +kernel
theorem dX2_mayBeAdmissible_55 : decode cX2_mayBeAdmissible 55 = .ok (.goto (-36), 3) := by decide +kernel
theorem dX2_mayBeAdmissible_58 : decode cX2_mayBeAdmissible 58 = .ok (.iconst 1, 1) := by decide +kernel
theorem dX2_mayBeAdmissible_59 : decode cX2_mayBeAdmissible 59 = .ok (.ireturn, 1) := by decide +kernel
theorem dX2_mayOrient_0 : decode cX2_mayOrient 0 = .ok (.lload_n 1, 1) := by decide +kernel
theorem dX2_mayOrient_1 : decode cX2_mayOrient 1 = .ok (.invokestatic 63, 3) := by decide +kernel
theorem dX2_mayOrient_4 : decode cX2_mayOrient 4 = .ok (.lload_n 3, 1) := by decide +kernel
theorem dX2_mayOrient_5 : decode cX2_mayOrient 5 = .ok (.invokestatic 63, 3) := by decide +kernel
theorem dX2_mayOrient_8 : decode cX2_mayOrient 8 = .ok (.invokestatic 69, 3) := by decide +kernel
theorem dX2_mayOrient_11 : decode cX2_mayOrient 11 = .ok (.istore 6, 2) := by decide +kernel
theorem dX2_mayOrient_13 : decode cX2_mayOrient 13 = .ok (.iconst 0, 1) := by decide +kernel
theorem dX2_mayOrient_14 : decode cX2_mayOrient 14 = .ok (.istore 7, 2) := by decide +kernel
theorem dX2_mayOrient_16 : decode cX2_mayOrient 16 = .ok (.iload 7, 2) := by decide +kernel
theorem dX2_mayOrient_18 : decode cX2_mayOrient 18 = .ok (.iload 6, 2) := by decide +kernel
theorem dX2_mayOrient_20 : decode cX2_mayOrient 20 = .ok (.if_icmp .ge 99, 3) := by decide +kernel
theorem dX2_mayOrient_23 : decode cX2_mayOrient 23 = .ok (.lload_n 1, 1) := by decide +kernel
theorem dX2_mayOrient_24 : decode cX2_mayOrient 24 = .ok (.iload 7, 2) := by decide +kernel
theorem dX2_mayOrient_26 : decode cX2_mayOrient 26 = .ok (.aload_n 0, 1) := by decide +kernel
theorem dX2_mayOrient_27 : decode cX2_mayOrient 27 = .ok (.getfield 44, 3) := by decide +kernel
theorem dX2_mayOrient_30 : decode cX2_mayOrient 30 = .ok (.invokestatic 75, 3) := by decide +kernel
theorem dX2_mayOrient_33 : decode cX2_mayOrient 33 = .ok (.istore 8, 2) := by decide +kernel
theorem dX2_mayOrient_35 : decode cX2_mayOrient 35 = .ok (.lload_n 3, 1) := by decide +kernel
theorem dX2_mayOrient_36 : decode cX2_mayOrient 36 = .ok (.iload 7, 2) := by decide +kernel
theorem dX2_mayOrient_38 : decode cX2_mayOrient 38 = .ok (.aload_n 0, 1) := by decide +kernel
theorem dX2_mayOrient_39 : decode cX2_mayOrient 39 = .ok (.getfield 44, 3) := by decide +kernel
theorem dX2_mayOrient_42 : decode cX2_mayOrient 42 = .ok (.invokestatic 75, 3) := by decide +kernel
theorem dX2_mayOrient_45 : decode cX2_mayOrient 45 = .ok (.istore 9, 2) := by decide +kernel
theorem dX2_mayOrient_47 : decode cX2_mayOrient 47 = .ok (.iload 8, 2) := by decide +kernel
theorem dX2_mayOrient_49 : decode cX2_mayOrient 49 = .ok (.iload 9, 2) := by decide +kernel
theorem dX2_mayOrient_51 : decode cX2_mayOrient 51 = .ok (.if_icmp .ne 6, 3) := by decide +kernel
theorem dX2_mayOrient_54 : decode cX2_mayOrient 54 = .ok (.goto 59, 3) := by decide +kernel
theorem dX2_mayOrient_57 : decode cX2_mayOrient 57 = .ok (.iload 8, 2) := by decide +kernel
theorem dX2_mayOrient_59 : decode cX2_mayOrient 59 = .ok (.iload 5, 2) := by decide +kernel
theorem dX2_mayOrient_61 : decode cX2_mayOrient 61 = .ok (.if_icmp .ge 10, 3) := by decide +kernel
theorem dX2_mayOrient_64 : decode cX2_mayOrient 64 = .ok (.iload 9, 2) := by decide +kernel
theorem dX2_mayOrient_66 : decode cX2_mayOrient 66 = .ok (.iload 5, 2) := by decide +kernel
theorem dX2_mayOrient_68 : decode cX2_mayOrient 68 = .ok (.if_icmp .lt 5, 3) := by decide +kernel
theorem dX2_mayOrient_71 : decode cX2_mayOrient 71 = .ok (.iconst 1, 1) := by decide +kernel
theorem dX2_mayOrient_72 : decode cX2_mayOrient 72 = .ok (.ireturn, 1) := by decide +kernel
theorem dX2_mayOrient_73 : decode cX2_mayOrient 73 = .ok (.aload_n 0, 1) := by decide +kernel
theorem dX2_mayOrient_74 : decode cX2_mayOrient 74 = .ok (.getfield 59, 3) := by decide +kernel
theorem dX2_mayOrient_77 : decode cX2_mayOrient 77 = .ok (.iload 8, 2) := by decide +kernel
theorem dX2_mayOrient_79 : decode cX2_mayOrient 79 = .ok (.iaload, 1) := by decide +kernel
theorem dX2_mayOrient_80 : decode cX2_mayOrient 80 = .ok (.aload_n 0, 1) := by decide +kernel
theorem dX2_mayOrient_81 : decode cX2_mayOrient 81 = .ok (.getfield 59, 3) := by decide +kernel
theorem dX2_mayOrient_84 : decode cX2_mayOrient 84 = .ok (.iload 9, 2) := by decide +kernel
theorem dX2_mayOrient_86 : decode cX2_mayOrient 86 = .ok (.iaload, 1) := by decide +kernel
theorem dX2_mayOrient_87 : decode cX2_mayOrient 87 = .ok (.if_icmp .eq 26, 3) := by decide +kernel
theorem dX2_mayOrient_90 : decode cX2_mayOrient 90 = .ok (.aload_n 0, 1) := by decide +kernel
theorem dX2_mayOrient_91 : decode cX2_mayOrient 91 = .ok (.getfield 59, 3) := by decide +kernel
theorem dX2_mayOrient_94 : decode cX2_mayOrient 94 = .ok (.iload 8, 2) := by decide +kernel
theorem dX2_mayOrient_96 : decode cX2_mayOrient 96 = .ok (.iaload, 1) := by decide +kernel
theorem dX2_mayOrient_97 : decode cX2_mayOrient 97 = .ok (.aload_n 0, 1) := by decide +kernel
theorem dX2_mayOrient_98 : decode cX2_mayOrient 98 = .ok (.getfield 59, 3) := by decide +kernel
theorem dX2_mayOrient_101 : decode cX2_mayOrient 101 = .ok (.iload 9, 2) := by decide +kernel
theorem dX2_mayOrient_103 : decode cX2_mayOrient 103 = .ok (.iaload, 1) := by decide +kernel
theorem dX2_mayOrient_104 : decode cX2_mayOrient 104 = .ok (.if_icmp .le 7, 3) := by decide +kernel
theorem dX2_mayOrient_107 : decode cX2_mayOrient 107 = .ok (.iconst 1, 1) := by decide +kernel
theorem dX2_mayOrient_108 : decode cX2_mayOrient 108 = .ok (.goto 4, 3) := by decide +kernel
theorem dX2_mayOrient_111 : decode cX2_mayOrient 111 = .ok (.iconst 0, 1) := by decide +kernel
theorem dX2_mayOrient_112 : decode cX2_mayOrient 112 = .ok (.ireturn, 1) := by decide +kernel
theorem dX2_mayOrient_113 : decode cX2_mayOrient 113 = .ok (.iinc 7 1, 3) := by decide +kernel
theorem dX2_mayOrient_116 : decode cX2_mayOrient 116 = .ok (.goto (-100), 3) := by decide +kernel
theorem dX2_mayOrient_119 : decode cX2_mayOrient 119 = .ok (.lload_n 1, 1) := by decide +kernel
theorem dX2_mayOrient_120 : decode cX2_mayOrient 120 = .ok (.invokestatic 63, 3) := by decide +kernel
theorem dX2_mayOrient_123 : decode cX2_mayOrient 123 = .ok (.lload_n 3, 1) := by decide +kernel
theorem dX2_mayOrient_124 : decode cX2_mayOrient 124 = .ok (.invokestatic 63, 3) := by decide +kernel
theorem dX2_mayOrient_127 : decode cX2_mayOrient 127 = .ok (.if_icmp .le 7, 3) := by decide +kernel
theorem dX2_mayOrient_130 : decode cX2_mayOrient 130 = .ok (.iconst 1, 1) := by decide +kernel
theorem dX2_mayOrient_131 : decode cX2_mayOrient 131 = .ok (.goto 4, 3) := by decide +kernel
theorem dX2_mayOrient_134 : decode cX2_mayOrient 134 = .ok (.iconst 0, 1) := by decide +kernel
theorem dX2_mayOrient_135 : decode cX2_mayOrient 135 = .ok (.ireturn, 1) := by decide +kernel
theorem dX3_init_0 : decode cX3_init 0 = .ok (.aload_n 0, 1) := by decide +kernel
theorem dX3_init_1 : decode cX3_init 1 = .ok (.invokespecial 1, 3) := by decide +kernel
theorem dX3_init_4 : decode cX3_init 4 = .ok (.aload_n 0, 1) := by decide +kernel
theorem dX3_init_5 : decode cX3_init 5 = .ok (.bipush 8, 2) := by decide +kernel
theorem dX3_init_7 : decode cX3_init 7 = .ok (.bipush 8, 2) := by decide +kernel
theorem dX3_init_9 : decode cX3_init 9 = .ok (.multianewarray 7 2, 4) := by decide +kernel
theorem dX3_init_13 : decode cX3_init 13 = .ok (.putfield 9, 3) := by decide +kernel
theorem dX3_init_16 : decode cX3_init 16 = .ok (.aload_n 0, 1) := by decide +kernel
theorem dX3_init_17 : decode cX3_init 17 = .ok (.bipush 8, 2) := by decide +kernel
theorem dX3_init_19 : decode cX3_init 19 = .ok (.bipush 9, 2) := by decide +kernel
theorem dX3_init_21 : decode cX3_init 21 = .ok (.multianewarray 7 2, 4) := by decide +kernel
theorem dX3_init_25 : decode cX3_init 25 = .ok (.putfield 14, 3) := by decide +kernel
theorem dX3_init_28 : decode cX3_init 28 = .ok (.aload_n 0, 1) := by decide +kernel
theorem dX3_init_29 : decode cX3_init 29 = .ok (.bipush 9, 2) := by decide +kernel
theorem dX3_init_31 : decode cX3_init 31 = .ok (.bipush 8, 2) := by decide +kernel
theorem dX3_init_33 : decode cX3_init 33 = .ok (.multianewarray 7 2, 4) := by decide +kernel
theorem dX3_init_37 : decode cX3_init 37 = .ok (.putfield 17, 3) := by decide +kernel
theorem dX3_init_40 : decode cX3_init 40 = .ok (.return_, 1) := by decide +kernel
theorem dX3_prepareWeights_0 : decode cX3_prepareWeights 0 = .ok (.aload_n 0, 1) := by decide +kernel
theorem dX3_prepareWeights_1 : decode cX3_prepareWeights 1 = .ok (.aload_n 1, 1) := by decide +kernel
theorem dX3_prepareWeights_2 : decode cX3_prepareWeights 2 = .ok (.getfield 20, 3) := by decide +kernel
theorem dX3_prepareWeights_5 : decode cX3_prepareWeights 5 = .ok (.putfield 26, 3) := by decide +kernel
theorem dX3_prepareWeights_8 : decode cX3_prepareWeights 8 = .ok (.aload_n 0, 1) := by decide +kernel
theorem dX3_prepareWeights_9 : decode cX3_prepareWeights 9 = .ok (.aload_n 1, 1) := by decide +kernel
theorem dX3_prepareWeights_10 : decode cX3_prepareWeights 10 = .ok (.getfield 29, 3) := by decide +kernel
theorem dX3_prepareWeights_13 : decode cX3_prepareWeights 13 = .ok (.putfield 32, 3) := by decide +kernel
theorem dX3_prepareWeights_16 : decode cX3_prepareWeights 16 = .ok (.aload_n 0, 1) := by decide +kernel
theorem dX3_prepareWeights_17 : decode cX3_prepareWeights 17 = .ok (.iconst 1, 1) := by decide +kernel
theorem dX3_prepareWeights_18 : decode cX3_prepareWeights 18 = .ok (.putfield 35, 3) := by decide +kernel
theorem dX3_prepareWeights_21 : decode cX3_prepareWeights 21 = .ok (.aload_n 0, 1) := by decide +kernel
theorem dX3_prepareWeights_22 : decode cX3_prepareWeights 22 = .ok (.aload_n 0, 1) := by decide +kernel
theorem dX3_prepareWeights_23 : decode cX3_prepareWeights 23 = .ok (.getfield 26, 3) := by decide +kernel
theorem dX3_prepareWeights_26 : decode cX3_prepareWeights 26 = .ok (.ifCond .ne 7, 3) := by decide +kernel
theorem dX3_prepareWeights_29 : decode cX3_prepareWeights 29 = .ok (.iconst 1, 1) := by decide +kernel
theorem dX3_prepareWeights_30 : decode cX3_prepareWeights 30 = .ok (.goto 4, 3) := by decide +kernel
theorem dX3_prepareWeights_33 : decode cX3_prepareWeights 33 = .ok (.iconst 0, 1) := by decide +kernel
theorem dX3_prepareWeights_34 : decode cX3_prepareWeights 34 = .ok (.putfield 38, 3) := by decide +kernel
theorem dX3_prepareWeights_37 : decode cX3_prepareWeights 37 = .ok (.iconst 0, 1) := by decide +kernel
theorem dX3_prepareWeights_38 : decode cX3_prepareWeights 38 = .ok (.istore_n 3, 1) := by decide +kernel
theorem dX3_prepareWeights_39 : decode cX3_prepareWeights 39 = .ok (.iload_n 3, 1) := by decide +kernel
theorem dX3_prepareWeights_40 : decode cX3_prepareWeights 40 = .ok (.aload_n 0, 1) := by decide +kernel
theorem dX3_prepareWeights_41 : decode cX3_prepareWeights 41 = .ok (.getfield 26, 3) := by decide +kernel
theorem dX3_prepareWeights_44 : decode cX3_prepareWeights 44 = .ok (.if_icmp .ge 45, 3) := by decide +kernel
theorem dX3_prepareWeights_47 : decode cX3_prepareWeights 47 = .ok (.iconst 0, 1) := by decide +kernel
theorem dX3_prepareWeights_48 : decode cX3_prepareWeights 48 = .ok (.istore 4, 2) := by decide +kernel
theorem dX3_prepareWeights_50 : decode cX3_prepareWeights 50 = .ok (.iload 4, 2) := by decide +kernel
theorem dX3_prepareWeights_52 : decode cX3_prepareWeights 52 = .ok (.aload_n 0, 1) := by decide +kernel
theorem dX3_prepareWeights_53 : decode cX3_prepareWeights 53 = .ok (.getfield 32, 3) := by decide +kernel
theorem dX3_prepareWeights_56 : decode cX3_prepareWeights 56 = .ok (.if_icmp .ge 27, 3) := by decide +kernel
theorem dX3_prepareWeights_59 : decode cX3_prepareWeights 59 = .ok (.aload_n 0, 1) := by decide +kernel
theorem dX3_prepareWeights_60 : decode cX3_prepareWeights 60 = .ok (.getfield 9, 3) := by decide +kernel
theorem dX3_prepareWeights_63 : decode cX3_prepareWeights 63 = .ok (.iload_n 3, 1) := by decide +kernel
theorem dX3_prepareWeights_64 : decode cX3_prepareWeights 64 = .ok (.aaload, 1) := by decide +kernel
theorem dX3_prepareWeights_65 : decode cX3_prepareWeights 65 = .ok (.iload 4, 2) := by decide +kernel
theorem dX3_prepareWeights_67 : decode cX3_prepareWeights 67 = .ok (.aload_n 1, 1) := by decide +kernel
theorem dX3_prepareWeights_68 : decode cX3_prepareWeights 68 = .ok (.getfield 42, 3) := by decide +kernel
theorem dX3_prepareWeights_71 : decode cX3_prepareWeights 71 = .ok (.iload_n 3, 1) := by decide +kernel
theorem dX3_prepareWeights_72 : decode cX3_prepareWeights 72 = .ok (.aaload, 1) := by decide +kernel
theorem dX3_prepareWeights_73 : decode cX3_prepareWeights 73 = .ok (.iload 4, 2) := by decide +kernel
theorem dX3_prepareWeights_75 : decode cX3_prepareWeights 75 = .ok (.iaload, 1) := by decide +kernel
theorem dX3_prepareWeights_76 : decode cX3_prepareWeights 76 = .ok (.iastore, 1) := by decide +kernel
theorem dX3_prepareWeights_77 : decode cX3_prepareWeights 77 = .ok (.iinc 4 1, 3) := by decide +kernel
theorem dX3_prepareWeights_80 : decode cX3_prepareWeights 80 = .ok (.goto (-30), 3) := by decide +kernel
theorem dX3_prepareWeights_83 : decode cX3_prepareWeights 83 = .ok (.iinc 3 1, 3) := by decide +kernel
theorem dX3_prepareWeights_86 : decode cX3_prepareWeights 86 = .ok (.goto (-47), 3) := by decide +kernel
theorem dX3_prepareWeights_89 : decode cX3_prepareWeights 89 = .ok (.aload_n 0, 1) := by decide +kernel
theorem dX3_prepareWeights_90 : decode cX3_prepareWeights 90 = .ok (.iload_n 2, 1) := by decide +kernel
theorem dX3_prepareWeights_91 : decode cX3_prepareWeights 91 = .ok (.invokevirtual 45, 3) := by decide +kernel
theorem dX3_prepareWeights_94 : decode cX3_prepareWeights 94 = .ok (.return_, 1) := by decide +kernel
theorem dX3_prepareCertificate_0 : decode cX3_prepareCertificate 0 = .ok (.aload_n 0, 1) := by decide +kernel
theorem dX3_prepareCertificate_1 : decode cX3_prepareCertificate 1 = .ok (.aload_n 1, 1) := by decide +kernel
theorem dX3_prepareCertificate_2 : decode cX3_prepareCertificate 2 = .ok (.getfield 29, 3) := by decide +kernel
theorem dX3_prepareCertificate_5 : decode cX3_prepareCertificate 5 = .ok (.putfield 26, 3) := by decide +kernel
theorem dX3_prepareCertificate_8 : decode cX3_prepareCertificate 8 = .ok (.aload_n 0, 1) := by decide +kernel
theorem dX3_prepareCertificate_9 : decode cX3_prepareCertificate 9 = .ok (.aload_n 1, 1) := by decide +kernel
theorem dX3_prepareCertificate_10 : decode cX3_prepareCertificate 10 = .ok (.getfield 20, 3) := by decide +kernel
theorem dX3_prepareCertificate_13 : decode cX3_prepareCertificate 13 = .ok (.putfield 32, 3) := by decide +kernel
theorem dX3_prepareCertificate_16 : decode cX3_prepareCertificate 16 = .ok (.aload_n 0, 1) := by decide +kernel
theorem dX3_prepareCertificate_17 : decode cX3_prepareCertificate 17 = .ok (.iconst 0, 1) := by decide +kernel
theorem dX3_prepareCertificate_18 : decode cX3_prepareCertificate 18 = .ok (.putfield 35, 3) := by decide +kernel
theorem dX3_prepareCertificate_21 : decode cX3_prepareCertificate 21 = .ok (.aload_n 0, 1) := by decide +kernel
theorem dX3_prepareCertificate_22 : decode cX3_prepareCertificate 22 = .ok (.iconst 0, 1) := by decide +kernel
theorem dX3_prepareCertificate_23 : decode cX3_prepareCertificate 23 = .ok (.putfield 38, 3) := by decide +kernel
theorem dX3_prepareCertificate_26 : decode cX3_prepareCertificate 26 = .ok (.iconst 0, 1) := by decide +kernel
theorem dX3_prepareCertificate_27 : decode cX3_prepareCertificate 27 = .ok (.istore_n 3, 1) := by decide +kernel
theorem dX3_prepareCertificate_28 : decode cX3_prepareCertificate 28 = .ok (.iload_n 3, 1) := by decide +kernel
theorem dX3_prepareCertificate_29 : decode cX3_prepareCertificate 29 = .ok (.aload_n 0, 1) := by decide +kernel
theorem dX3_prepareCertificate_30 : decode cX3_prepareCertificate 30 = .ok (.getfield 26, 3) := by decide +kernel
theorem dX3_prepareCertificate_33 : decode cX3_prepareCertificate 33 = .ok (.if_icmp .ge 46, 3) := by decide +kernel
theorem dX3_prepareCertificate_36 : decode cX3_prepareCertificate 36 = .ok (.iconst 0, 1) := by decide +kernel
theorem dX3_prepareCertificate_37 : decode cX3_prepareCertificate 37 = .ok (.istore 4, 2) := by decide +kernel
theorem dX3_prepareCertificate_39 : decode cX3_prepareCertificate 39 = .ok (.iload 4, 2) := by decide +kernel
theorem dX3_prepareCertificate_41 : decode cX3_prepareCertificate 41 = .ok (.aload_n 0, 1) := by decide +kernel
theorem dX3_prepareCertificate_42 : decode cX3_prepareCertificate 42 = .ok (.getfield 32, 3) := by decide +kernel
theorem dX3_prepareCertificate_45 : decode cX3_prepareCertificate 45 = .ok (.if_icmp .ge 28, 3) := by decide +kernel
theorem dX3_prepareCertificate_48 : decode cX3_prepareCertificate 48 = .ok (.aload_n 0, 1) := by decide +kernel
theorem dX3_prepareCertificate_49 : decode cX3_prepareCertificate 49 = .ok (.getfield 9, 3) := by decide +kernel
theorem dX3_prepareCertificate_52 : decode cX3_prepareCertificate 52 = .ok (.iload_n 3, 1) := by decide +kernel
theorem dX3_prepareCertificate_53 : decode cX3_prepareCertificate 53 = .ok (.aaload, 1) := by decide +kernel
theorem dX3_prepareCertificate_54 : decode cX3_prepareCertificate 54 = .ok (.iload 4, 2) := by decide +kernel
theorem dX3_prepareCertificate_56 : decode cX3_prepareCertificate 56 = .ok (.aload_n 1, 1) := by decide +kernel
theorem dX3_prepareCertificate_57 : decode cX3_prepareCertificate 57 = .ok (.getfield 42, 3) := by decide +kernel
theorem dX3_prepareCertificate_60 : decode cX3_prepareCertificate 60 = .ok (.iload 4, 2) := by decide +kernel
theorem dX3_prepareCertificate_62 : decode cX3_prepareCertificate 62 = .ok (.aaload, 1) := by decide +kernel
theorem dX3_prepareCertificate_63 : decode cX3_prepareCertificate 63 = .ok (.iload_n 3, 1) := by decide +kernel
theorem dX3_prepareCertificate_64 : decode cX3_prepareCertificate 64 = .ok (.iaload, 1) := by decide +kernel
theorem dX3_prepareCertificate_65 : decode cX3_prepareCertificate 65 = .ok (.ineg, 1) := by decide +kernel
theorem dX3_prepareCertificate_66 : decode cX3_prepareCertificate 66 = .ok (.iastore, 1) := by decide +kernel
theorem dX3_prepareCertificate_67 : decode cX3_prepareCertificate 67 = .ok (.iinc 4 1, 3) := by decide +kernel
theorem dX3_prepareCertificate_70 : decode cX3_prepareCertificate 70 = .ok (.goto (-31), 3) := by decide +kernel
theorem dX3_prepareCertificate_73 : decode cX3_prepareCertificate 73 = .ok (.iinc 3 1, 3) := by decide +kernel
theorem dX3_prepareCertificate_76 : decode cX3_prepareCertificate 76 = .ok (.goto (-48), 3) := by decide +kernel
theorem dX3_prepareCertificate_79 : decode cX3_prepareCertificate 79 = .ok (.aload_n 0, 1) := by decide +kernel
theorem dX3_prepareCertificate_80 : decode cX3_prepareCertificate 80 = .ok (.iload_n 2, 1) := by decide +kernel
theorem dX3_prepareCertificate_81 : decode cX3_prepareCertificate 81 = .ok (.invokevirtual 45, 3) := by decide +kernel
theorem dX3_prepareCertificate_84 : decode cX3_prepareCertificate 84 = .ok (.return_, 1) := by decide +kernel
theorem dX3_boundRows_0 : decode cX3_boundRows 0 = .ok (.iconst 0, 1) := by decide +kernel
theorem dX3_boundRows_1 : decode cX3_boundRows 1 = .ok (.istore_n 2, 1) := by decide +kernel
theorem dX3_boundRows_2 : decode cX3_boundRows 2 = .ok (.iload_n 2, 1) := by decide +kernel
theorem dX3_boundRows_3 : decode cX3_boundRows 3 = .ok (.aload_n 0, 1) := by decide +kernel
theorem dX3_boundRows_4 : decode cX3_boundRows 4 = .ok (.getfield 26, 3) := by decide +kernel
theorem dX3_boundRows_7 : decode cX3_boundRows 7 = .ok (.if_icmp .ge 71, 3) := by decide +kernel
theorem dX3_boundRows_10 : decode cX3_boundRows 10 = .ok (.aload_n 0, 1) := by decide +kernel
theorem dX3_boundRows_11 : decode cX3_boundRows 11 = .ok (.getfield 14, 3) := by decide +kernel
theorem dX3_boundRows_14 : decode cX3_boundRows 14 = .ok (.iload_n 2, 1) := by decide +kernel
theorem dX3_boundRows_15 : decode cX3_boundRows 15 = .ok (.aaload, 1) := by decide +kernel
theorem dX3_boundRows_16 : decode cX3_boundRows 16 = .ok (.aload_n 0, 1) := by decide +kernel
theorem dX3_boundRows_17 : decode cX3_boundRows 17 = .ok (.getfield 32, 3) := by decide +kernel
theorem dX3_boundRows_20 : decode cX3_boundRows 20 = .ok (.iconst 0, 1) := by decide +kernel
theorem dX3_boundRows_21 : decode cX3_boundRows 21 = .ok (.iastore, 1) := by decide +kernel
theorem dX3_boundRows_22 : decode cX3_boundRows 22 = .ok (.aload_n 0, 1) := by decide +kernel
theorem dX3_boundRows_23 : decode cX3_boundRows 23 = .ok (.getfield 32, 3) := by decide +kernel
theorem dX3_boundRows_26 : decode cX3_boundRows 26 = .ok (.iconst 1, 1) := by decide +kernel
theorem dX3_boundRows_27 : decode cX3_boundRows 27 = .ok (.isub, 1) := by decide +kernel
theorem dX3_boundRows_28 : decode cX3_boundRows 28 = .ok (.istore_n 3, 1) := by decide +kernel
theorem dX3_boundRows_29 : decode cX3_boundRows 29 = .ok (.iload_n 3, 1) := by decide +kernel
theorem dX3_boundRows_30 : decode cX3_boundRows 30 = .ok (.ifCond .lt 42, 3) := by decide +kernel
theorem dX3_boundRows_33 : decode cX3_boundRows 33 = .ok (.aload_n 0, 1) := by decide +kernel
theorem dX3_boundRows_34 : decode cX3_boundRows 34 = .ok (.getfield 14, 3) := by decide +kernel
theorem dX3_boundRows_37 : decode cX3_boundRows 37 = .ok (.iload_n 2, 1) := by decide +kernel
theorem dX3_boundRows_38 : decode cX3_boundRows 38 = .ok (.aaload, 1) := by decide +kernel
theorem dX3_boundRows_39 : decode cX3_boundRows 39 = .ok (.iload_n 3, 1) := by decide +kernel
theorem dX3_boundRows_40 : decode cX3_boundRows 40 = .ok (.aload_n 0, 1) := by decide +kernel
theorem dX3_boundRows_41 : decode cX3_boundRows 41 = .ok (.getfield 14, 3) := by decide +kernel
theorem dX3_boundRows_44 : decode cX3_boundRows 44 = .ok (.iload_n 2, 1) := by decide +kernel
theorem dX3_boundRows_45 : decode cX3_boundRows 45 = .ok (.aaload, 1) := by decide +kernel
theorem dX3_boundRows_46 : decode cX3_boundRows 46 = .ok (.iload_n 3, 1) := by decide +kernel
theorem dX3_boundRows_47 : decode cX3_boundRows 47 = .ok (.iconst 1, 1) := by decide +kernel
theorem dX3_boundRows_48 : decode cX3_boundRows 48 = .ok (.iadd, 1) := by decide +kernel
theorem dX3_boundRows_49 : decode cX3_boundRows 49 = .ok (.iaload, 1) := by decide +kernel
theorem dX3_boundRows_50 : decode cX3_boundRows 50 = .ok (.iload_n 1, 1) := by decide +kernel
theorem dX3_boundRows_51 : decode cX3_boundRows 51 = .ok (.aload_n 0, 1) := by decide +kernel
theorem dX3_boundRows_52 : decode cX3_boundRows 52 = .ok (.getfield 9, 3) := by decide +kernel
theorem dX3_boundRows_55 : decode cX3_boundRows 55 = .ok (.iload_n 2, 1) := by decide +kernel
theorem dX3_boundRows_56 : decode cX3_boundRows 56 = .ok (.aaload, 1) := by decide +kernel
theorem dX3_boundRows_57 : decode cX3_boundRows 57 = .ok (.iload_n 3, 1) := by decide +kernel
theorem dX3_boundRows_58 : decode cX3_boundRows 58 = .ok (.iaload, 1) := by decide +kernel
theorem dX3_boundRows_59 : decode cX3_boundRows 59 = .ok (.iconst 0, 1) := by decide +kernel
theorem dX3_boundRows_60 : decode cX3_boundRows 60 = .ok (.invokestatic 49, 3) := by decide +kernel
theorem dX3_boundRows_63 : decode cX3_boundRows 63 = .ok (.imul, 1) := by decide +kernel
theorem dX3_boundRows_64 : decode cX3_boundRows 64 = .ok (.iadd, 1) := by decide +kernel
theorem dX3_boundRows_65 : decode cX3_boundRows 65 = .ok (.iastore, 1) := by decide +kernel
theorem dX3_boundRows_66 : decode cX3_boundRows 66 = .ok (.iinc 3 (-1), 3) := by decide +kernel
theorem dX3_boundRows_69 : decode cX3_boundRows 69 = .ok (.goto (-40), 3) := by decide +kernel
theorem dX3_boundRows_72 : decode cX3_boundRows 72 = .ok (.iinc 2 1, 3) := by decide +kernel
theorem dX3_boundRows_75 : decode cX3_boundRows 75 = .ok (.goto (-73), 3) := by decide +kernel
theorem dX3_boundRows_78 : decode cX3_boundRows 78 = .ok (.return_, 1) := by decide +kernel
theorem dX3_mayFit_0 : decode cX3_mayFit 0 = .ok (.iload_n 1, 1) := by decide +kernel
theorem dX3_mayFit_1 : decode cX3_mayFit 1 = .ok (.iconst 1, 1) := by decide +kernel
theorem dX3_mayFit_2 : decode cX3_mayFit 2 = .ok (.isub, 1) := by decide +kernel
theorem dX3_mayFit_3 : decode cX3_mayFit 3 = .ok (.istore_n 2, 1) := by decide +kernel
theorem dX3_mayFit_4 : decode cX3_mayFit 4 = .ok (.iconst 0, 1) := by decide +kernel
theorem dX3_mayFit_5 : decode cX3_mayFit 5 = .ok (.istore_n 3, 1) := by decide +kernel
theorem dX3_mayFit_6 : decode cX3_mayFit 6 = .ok (.iload_n 3, 1) := by decide +kernel
theorem dX3_mayFit_7 : decode cX3_mayFit 7 = .ok (.aload_n 0, 1) := by decide +kernel
theorem dX3_mayFit_8 : decode cX3_mayFit 8 = .ok (.getfield 26, 3) := by decide +kernel
theorem dX3_mayFit_11 : decode cX3_mayFit 11 = .ok (.if_icmp .ge 67, 3) := by decide +kernel
theorem dX3_mayFit_14 : decode cX3_mayFit 14 = .ok (.aload_n 0, 1) := by decide +kernel
theorem dX3_mayFit_15 : decode cX3_mayFit 15 = .ok (.getfield 17, 3) := by decide +kernel
theorem dX3_mayFit_18 : decode cX3_mayFit 18 = .ok (.iload_n 1, 1) := by decide +kernel
theorem dX3_mayFit_19 : decode cX3_mayFit 19 = .ok (.aaload, 1) := by decide +kernel
theorem dX3_mayFit_20 : decode cX3_mayFit 20 = .ok (.iload_n 3, 1) := by decide +kernel
theorem dX3_mayFit_21 : decode cX3_mayFit 21 = .ok (.aload_n 0, 1) := by decide +kernel
theorem dX3_mayFit_22 : decode cX3_mayFit 22 = .ok (.getfield 17, 3) := by decide +kernel
theorem dX3_mayFit_25 : decode cX3_mayFit 25 = .ok (.iload_n 2, 1) := by decide +kernel
theorem dX3_mayFit_26 : decode cX3_mayFit 26 = .ok (.aaload, 1) := by decide +kernel
theorem dX3_mayFit_27 : decode cX3_mayFit 27 = .ok (.iload_n 3, 1) := by decide +kernel
theorem dX3_mayFit_28 : decode cX3_mayFit 28 = .ok (.iaload, 1) := by decide +kernel
theorem dX3_mayFit_29 : decode cX3_mayFit 29 = .ok (.aload_n 0, 1) := by decide +kernel
theorem dX3_mayFit_30 : decode cX3_mayFit 30 = .ok (.getfield 55, 3) := by decide +kernel
theorem dX3_mayFit_33 : decode cX3_mayFit 33 = .ok (.iload_n 2, 1) := by decide +kernel
theorem dX3_mayFit_34 : decode cX3_mayFit 34 = .ok (.iaload, 1) := by decide +kernel
theorem dX3_mayFit_35 : decode cX3_mayFit 35 = .ok (.aload_n 0, 1) := by decide +kernel
theorem dX3_mayFit_36 : decode cX3_mayFit 36 = .ok (.getfield 9, 3) := by decide +kernel
theorem dX3_mayFit_39 : decode cX3_mayFit 39 = .ok (.iload_n 3, 1) := by decide +kernel
theorem dX3_mayFit_40 : decode cX3_mayFit 40 = .ok (.aaload, 1) := by decide +kernel
theorem dX3_mayFit_41 : decode cX3_mayFit 41 = .ok (.iload_n 2, 1) := by decide +kernel
theorem dX3_mayFit_42 : decode cX3_mayFit 42 = .ok (.iaload, 1) := by decide +kernel
theorem dX3_mayFit_43 : decode cX3_mayFit 43 = .ok (.imul, 1) := by decide +kernel
theorem dX3_mayFit_44 : decode cX3_mayFit 44 = .ok (.iadd, 1) := by decide +kernel
theorem dX3_mayFit_45 : decode cX3_mayFit 45 = .ok (.iastore, 1) := by decide +kernel
theorem dX3_mayFit_46 : decode cX3_mayFit 46 = .ok (.aload_n 0, 1) := by decide +kernel
theorem dX3_mayFit_47 : decode cX3_mayFit 47 = .ok (.getfield 17, 3) := by decide +kernel
theorem dX3_mayFit_50 : decode cX3_mayFit 50 = .ok (.iload_n 1, 1) := by decide +kernel
theorem dX3_mayFit_51 : decode cX3_mayFit 51 = .ok (.aaload, 1) := by decide +kernel
theorem dX3_mayFit_52 : decode cX3_mayFit 52 = .ok (.iload_n 3, 1) := by decide +kernel
theorem dX3_mayFit_53 : decode cX3_mayFit 53 = .ok (.iaload, 1) := by decide +kernel
theorem dX3_mayFit_54 : decode cX3_mayFit 54 = .ok (.aload_n 0, 1) := by decide +kernel
theorem dX3_mayFit_55 : decode cX3_mayFit 55 = .ok (.getfield 14, 3) := by decide +kernel
theorem dX3_mayFit_58 : decode cX3_mayFit 58 = .ok (.iload_n 3, 1) := by decide +kernel
theorem dX3_mayFit_59 : decode cX3_mayFit 59 = .ok (.aaload, 1) := by decide +kernel
theorem dX3_mayFit_60 : decode cX3_mayFit 60 = .ok (.iload_n 1, 1) := by decide +kernel
theorem dX3_mayFit_61 : decode cX3_mayFit 61 = .ok (.iaload, 1) := by decide +kernel
theorem dX3_mayFit_62 : decode cX3_mayFit 62 = .ok (.iadd, 1) := by decide +kernel
theorem dX3_mayFit_63 : decode cX3_mayFit 63 = .ok (.aload_n 0, 1) := by decide +kernel
theorem dX3_mayFit_64 : decode cX3_mayFit 64 = .ok (.getfield 35, 3) := by decide +kernel
theorem dX3_mayFit_67 : decode cX3_mayFit 67 = .ok (.if_icmp .ge 5, 3) := by decide +kernel
theorem dX3_mayFit_70 : decode cX3_mayFit 70 = .ok (.iconst 0, 1) := by decide +kernel
theorem dX3_mayFit_71 : decode cX3_mayFit 71 = .ok (.ireturn, 1) := by decide +kernel
theorem dX3_mayFit_72 : decode cX3_mayFit 72 = .ok (.iinc 3 1, 3) := by decide +kernel
theorem dX3_mayFit_75 : decode cX3_mayFit 75 = .ok (.goto (-69), 3) := by decide +kernel
theorem dX3_mayFit_78 : decode cX3_mayFit 78 = .ok (.iload_n 1, 1) := by decide +kernel
theorem dX3_mayFit_79 : decode cX3_mayFit 79 = .ok (.aload_n 0, 1) := by decide +kernel
theorem dX3_mayFit_80 : decode cX3_mayFit 80 = .ok (.getfield 32, 3) := by decide +kernel
theorem dX3_mayFit_83 : decode cX3_mayFit 83 = .ok (.if_icmp .lt 17, 3) := by decide +kernel
theorem dX3_mayFit_86 : decode cX3_mayFit 86 = .ok (.aload_n 0, 1) := by decide +kernel
theorem dX3_mayFit_87 : decode cX3_mayFit 87 = .ok (.getfield 38, 3) := by decide +kernel
theorem dX3_mayFit_90 : decode cX3_mayFit 90 = .ok (.ifCond .ne 10, 3) := by decide +kernel
theorem dX3_mayFit_93 : decode cX3_mayFit 93 = .ok (.aload_n 0, 1) := by decide +kernel
theorem dX3_mayFit_94 : decode cX3_mayFit 94 = .ok (.invokevirtual 59, 3) := by decide +kernel
theorem dX3_mayFit_97 : decode cX3_mayFit 97 = .ok (.ifCond .eq 7, 3) := by decide +kernel
theorem dX3_mayFit_100 : decode cX3_mayFit 100 = .ok (.iconst 1, 1) := by decide +kernel
theorem dX3_mayFit_101 : decode cX3_mayFit 101 = .ok (.goto 4, 3) := by decide +kernel
theorem dX3_mayFit_104 : decode cX3_mayFit 104 = .ok (.iconst 0, 1) := by decide +kernel
theorem dX3_mayFit_105 : decode cX3_mayFit 105 = .ok (.ireturn, 1) := by decide +kernel
theorem dX3_hasNonZero_0 : decode cX3_hasNonZero 0 = .ok (.iconst 0, 1) := by decide +kernel
theorem dX3_hasNonZero_1 : decode cX3_hasNonZero 1 = .ok (.istore_n 1, 1) := by decide +kernel
theorem dX3_hasNonZero_2 : decode cX3_hasNonZero 2 = .ok (.iload_n 1, 1) := by decide +kernel
theorem dX3_hasNonZero_3 : decode cX3_hasNonZero 3 = .ok (.aload_n 0, 1) := by decide +kernel
theorem dX3_hasNonZero_4 : decode cX3_hasNonZero 4 = .ok (.getfield 32, 3) := by decide +kernel
theorem dX3_hasNonZero_7 : decode cX3_hasNonZero 7 = .ok (.if_icmp .ge 20, 3) := by decide +kernel
theorem dX3_hasNonZero_10 : decode cX3_hasNonZero 10 = .ok (.aload_n 0, 1) := by decide +kernel
theorem dX3_hasNonZero_11 : decode cX3_hasNonZero 11 = .ok (.getfield 55, 3) := by decide +kernel
theorem dX3_hasNonZero_14 : decode cX3_hasNonZero 14 = .ok (.iload_n 1, 1) := by decide +kernel
theorem dX3_hasNonZero_15 : decode cX3_hasNonZero 15 = .ok (.iaload, 1) := by decide +kernel
theorem dX3_hasNonZero_16 : decode cX3_hasNonZero 16 = .ok (.ifCond .eq 5, 3) := by decide +kernel
theorem dX3_hasNonZero_19 : decode cX3_hasNonZero 19 = .ok (.iconst 1, 1) := by decide +kernel
theorem dX3_hasNonZero_20 : decode cX3_hasNonZero 20 = .ok (.ireturn, 1) := by decide +kernel
theorem dX3_hasNonZero_21 : decode cX3_hasNonZero 21 = .ok (.iinc 1 1, 3) := by decide +kernel
theorem dX3_hasNonZero_24 : decode cX3_hasNonZero 24 = .ok (.goto (-22), 3) := by decide +kernel
theorem dX3_hasNonZero_27 : decode cX3_hasNonZero 27 = .ok (.iconst 0, 1) := by decide +kernel
theorem dX3_hasNonZero_28 : decode cX3_hasNonZero 28 = .ok (.ireturn, 1) := by decide +kernel
theorem dX4_init_0 : decode cX4_init 0 = .ok (.aload_n 0, 1) := by decide +kernel
theorem dX4_init_1 : decode cX4_init 1 = .ok (.invokespecial 3, 3) := by decide +kernel
theorem dX4_init_4 : decode cX4_init 4 = .ok (.aload_n 0, 1) := by decide +kernel
theorem dX4_init_5 : decode cX4_init 5 = .ok (.iconst 0, 1) := by decide +kernel
theorem dX4_init_6 : decode cX4_init 6 = .ok (.putfield 9, 3) := by decide +kernel
theorem dX4_init_9 : decode cX4_init 9 = .ok (.aload_n 0, 1) := by decide +kernel
theorem dX4_init_10 : decode cX4_init 10 = .ok (.sipush 200, 3) := by decide +kernel
theorem dX4_init_13 : decode cX4_init 13 = .ok (.newarray .int, 2) := by decide +kernel
theorem dX4_init_15 : decode cX4_init 15 = .ok (.putfield 15, 3) := by decide +kernel
theorem dX4_init_18 : decode cX4_init 18 = .ok (.aload_n 0, 1) := by decide +kernel
theorem dX4_init_19 : decode cX4_init 19 = .ok (.sipush 200, 3) := by decide +kernel
theorem dX4_init_22 : decode cX4_init 22 = .ok (.newarray .int, 2) := by decide +kernel
theorem dX4_init_24 : decode cX4_init 24 = .ok (.putfield 19, 3) := by decide +kernel
theorem dX4_init_27 : decode cX4_init 27 = .ok (.return_, 1) := by decide +kernel
theorem dX5_init_0 : decode cX5_init 0 = .ok (.aload_n 0, 1) := by decide +kernel
theorem dX5_init_1 : decode cX5_init 1 = .ok (.invokespecial 3, 3) := by decide +kernel
theorem dX5_init_4 : decode cX5_init 4 = .ok (.aload_n 0, 1) := by decide +kernel
theorem dX5_init_5 : decode cX5_init 5 = .ok (.bipush 8, 2) := by decide +kernel
theorem dX5_init_7 : decode cX5_init 7 = .ok (.newarray .long, 2) := by decide +kernel
theorem dX5_init_9 : decode cX5_init 9 = .ok (.putfield 9, 3) := by decide +kernel
theorem dX5_init_12 : decode cX5_init 12 = .ok (.aload_n 0, 1) := by decide +kernel
theorem dX5_init_13 : decode cX5_init 13 = .ok (.bipush 8, 2) := by decide +kernel
theorem dX5_init_15 : decode cX5_init 15 = .ok (.newarray .long, 2) := by decide +kernel
theorem dX5_init_17 : decode cX5_init 17 = .ok (.putfield 15, 3) := by decide +kernel
theorem dX5_init_20 : decode cX5_init 20 = .ok (.aload_n 0, 1) := by decide +kernel
theorem dX5_init_21 : decode cX5_init 21 = .ok (.bipush 8, 2) := by decide +kernel
theorem dX5_init_23 : decode cX5_init 23 = .ok (.bipush 8, 2) := by decide +kernel
theorem dX5_init_25 : decode cX5_init 25 = .ok (.multianewarray 18 2, 4) := by decide +kernel
theorem dX5_init_29 : decode cX5_init 29 = .ok (.putfield 20, 3) := by decide +kernel
theorem dX5_init_32 : decode cX5_init 32 = .ok (.aload_n 0, 1) := by decide +kernel
theorem dX5_init_33 : decode cX5_init 33 = .ok (.bipush 8, 2) := by decide +kernel
theorem dX5_init_35 : decode cX5_init 35 = .ok (.newarray .int, 2) := by decide +kernel
theorem dX5_init_37 : decode cX5_init 37 = .ok (.putfield 23, 3) := by decide +kernel
theorem dX5_init_40 : decode cX5_init 40 = .ok (.aload_n 0, 1) := by decide +kernel
theorem dX5_init_41 : decode cX5_init 41 = .ok (.bipush 8, 2) := by decide +kernel
theorem dX5_init_43 : decode cX5_init 43 = .ok (.newarray .int, 2) := by decide +kernel
theorem dX5_init_45 : decode cX5_init 45 = .ok (.putfield 27, 3) := by decide +kernel
theorem dX5_init_48 : decode cX5_init 48 = .ok (.aload_n 0, 1) := by decide +kernel
theorem dX5_init_49 : decode cX5_init 49 = .ok (.bipush 8, 2) := by decide +kernel
theorem dX5_init_51 : decode cX5_init 51 = .ok (.newarray .float, 2) := by decide +kernel
theorem dX5_init_53 : decode cX5_init 53 = .ok (.putfield 30, 3) := by decide +kernel
theorem dX5_init_56 : decode cX5_init 56 = .ok (.aload_n 0, 1) := by decide +kernel
theorem dX5_init_57 : decode cX5_init 57 = .ok (.iconst 3, 1) := by decide +kernel
theorem dX5_init_58 : decode cX5_init 58 = .ok (.invokevirtual 34, 3) := by decide +kernel
theorem dX5_init_61 : decode cX5_init 61 = .ok (.return_, 1) := by decide +kernel
theorem dX5_begin_0 : decode cX5_begin 0 = .ok (.aload_n 0, 1) := by decide +kernel
theorem dX5_begin_1 : decode cX5_begin 1 = .ok (.iload_n 1, 1) := by decide +kernel
theorem dX5_begin_2 : decode cX5_begin 2 = .ok (.putfield 38, 3) := by decide +kernel
theorem dX5_begin_5 : decode cX5_begin 5 = .ok (.aload_n 0, 1) := by decide +kernel
theorem dX5_begin_6 : decode cX5_begin 6 = .ok (.iconst 0, 1) := by decide +kernel
theorem dX5_begin_7 : decode cX5_begin 7 = .ok (.putfield 42, 3) := by decide +kernel
theorem dX5_begin_10 : decode cX5_begin 10 = .ok (.aload_n 0, 1) := by decide +kernel
theorem dX5_begin_11 : decode cX5_begin 11 = .ok (.iconst 0, 1) := by decide +kernel
theorem dX5_begin_12 : decode cX5_begin 12 = .ok (.putfield 45, 3) := by decide +kernel
theorem dX5_begin_15 : decode cX5_begin 15 = .ok (.aload_n 0, 1) := by decide +kernel
theorem dX5_begin_16 : decode cX5_begin 16 = .ok (.lconst 0, 1) := by decide +kernel
theorem dX5_begin_17 : decode cX5_begin 17 = .ok (.putfield 48, 3) := by decide +kernel
theorem dX5_begin_20 : decode cX5_begin 20 = .ok (.iconst 0, 1) := by decide +kernel
theorem dX5_begin_21 : decode cX5_begin 21 = .ok (.istore_n 2, 1) := by decide +kernel
theorem dX5_begin_22 : decode cX5_begin 22 = .ok (.iload_n 2, 1) := by decide +kernel
theorem dX5_begin_23 : decode cX5_begin 23 = .ok (.bipush 8, 2) := by decide +kernel
theorem dX5_begin_25 : decode cX5_begin 25 = .ok (.if_icmp .ge 30, 3) := by decide +kernel
theorem dX5_begin_28 : decode cX5_begin 28 = .ok (.aload_n 0, 1) := by decide +kernel
theorem dX5_begin_29 : decode cX5_begin 29 = .ok (.getfield 23, 3) := by decide +kernel
theorem dX5_begin_32 : decode cX5_begin 32 = .ok (.iload_n 2, 1) := by decide +kernel
theorem dX5_begin_33 : decode cX5_begin 33 = .ok (.iconst 1, 1) := by decide +kernel
theorem dX5_begin_34 : decode cX5_begin 34 = .ok (.iastore, 1) := by decide +kernel
theorem dX5_begin_35 : decode cX5_begin 35 = .ok (.aload_n 0, 1) := by decide +kernel
theorem dX5_begin_36 : decode cX5_begin 36 = .ok (.getfield 27, 3) := by decide +kernel
theorem dX5_begin_39 : decode cX5_begin 39 = .ok (.iload_n 2, 1) := by decide +kernel
theorem dX5_begin_40 : decode cX5_begin 40 = .ok (.iconst 0, 1) := by decide +kernel
theorem dX5_begin_41 : decode cX5_begin 41 = .ok (.iastore, 1) := by decide +kernel
theorem dX5_begin_42 : decode cX5_begin 42 = .ok (.aload_n 0, 1) := by decide +kernel
theorem dX5_begin_43 : decode cX5_begin 43 = .ok (.getfield 30, 3) := by decide +kernel
theorem dX5_begin_46 : decode cX5_begin 46 = .ok (.iload_n 2, 1) := by decide +kernel
theorem dX5_begin_47 : decode cX5_begin 47 = .ok (.fconst 1, 1) := by decide +kernel
theorem dX5_begin_48 : decode cX5_begin 48 = .ok (.fastore, 1) := by decide +kernel
theorem dX5_begin_49 : decode cX5_begin 49 = .ok (.iinc 2 1, 3) := by decide +kernel
theorem dX5_begin_52 : decode cX5_begin 52 = .ok (.goto (-30), 3) := by decide +kernel
theorem dX5_begin_55 : decode cX5_begin 55 = .ok (.return_, 1) := by decide +kernel
theorem dX5_copyFrom_0 : decode cX5_copyFrom 0 = .ok (.aload_n 0, 1) := by decide +kernel
theorem dX5_copyFrom_1 : decode cX5_copyFrom 1 = .ok (.aload_n 1, 1) := by decide +kernel
theorem dX5_copyFrom_2 : decode cX5_copyFrom 2 = .ok (.getfield 38, 3) := by decide +kernel
theorem dX5_copyFrom_5 : decode cX5_copyFrom 5 = .ok (.putfield 38, 3) := by decide +kernel
theorem dX5_copyFrom_8 : decode cX5_copyFrom 8 = .ok (.aload_n 0, 1) := by decide +kernel
theorem dX5_copyFrom_9 : decode cX5_copyFrom 9 = .ok (.aload_n 1, 1) := by decide +kernel
theorem dX5_copyFrom_10 : decode cX5_copyFrom 10 = .ok (.getfield 42, 3) := by decide +kernel
theorem dX5_copyFrom_13 : decode cX5_copyFrom 13 = .ok (.putfield 42, 3) := by decide +kernel
theorem dX5_copyFrom_16 : decode cX5_copyFrom 16 = .ok (.aload_n 0, 1) := by decide +kernel
theorem dX5_copyFrom_17 : decode cX5_copyFrom 17 = .ok (.aload_n 1, 1) := by decide +kernel
theorem dX5_copyFrom_18 : decode cX5_copyFrom 18 = .ok (.getfield 45, 3) := by decide +kernel
theorem dX5_copyFrom_21 : decode cX5_copyFrom 21 = .ok (.putfield 45, 3) := by decide +kernel
theorem dX5_copyFrom_24 : decode cX5_copyFrom 24 = .ok (.aload_n 0, 1) := by decide +kernel
theorem dX5_copyFrom_25 : decode cX5_copyFrom 25 = .ok (.aload_n 1, 1) := by decide +kernel
theorem dX5_copyFrom_26 : decode cX5_copyFrom 26 = .ok (.getfield 48, 3) := by decide +kernel
theorem dX5_copyFrom_29 : decode cX5_copyFrom 29 = .ok (.putfield 48, 3) := by decide +kernel
theorem dX5_copyFrom_32 : decode cX5_copyFrom 32 = .ok (.aload_n 1, 1) := by decide +kernel
theorem dX5_copyFrom_33 : decode cX5_copyFrom 33 = .ok (.getfield 9, 3) := by decide +kernel
theorem dX5_copyFrom_36 : decode cX5_copyFrom 36 = .ok (.iconst 0, 1) := by decide +kernel
theorem dX5_copyFrom_37 : decode cX5_copyFrom 37 = .ok (.aload_n 0, 1) := by decide +kernel
theorem dX5_copyFrom_38 : decode cX5_copyFrom 38 = .ok (.getfield 9, 3) := by decide +kernel
theorem dX5_copyFrom_41 : decode cX5_copyFrom 41 = .ok (.iconst 0, 1) := by decide +kernel
theorem dX5_copyFrom_42 : decode cX5_copyFrom 42 = .ok (.bipush 8, 2) := by decide +kernel
theorem dX5_copyFrom_44 : decode cX5_copyFrom 44 = .ok (.invokestatic 52, 3) := by decide +kernel
theorem dX5_copyFrom_47 : decode cX5_copyFrom 47 = .ok (.aload_n 1, 1) := by decide +kernel
theorem dX5_copyFrom_48 : decode cX5_copyFrom 48 = .ok (.getfield 15, 3) := by decide +kernel
theorem dX5_copyFrom_51 : decode cX5_copyFrom 51 = .ok (.iconst 0, 1) := by decide +kernel
theorem dX5_copyFrom_52 : decode cX5_copyFrom 52 = .ok (.aload_n 0, 1) := by decide +kernel
theorem dX5_copyFrom_53 : decode cX5_copyFrom 53 = .ok (.getfield 15, 3) := by decide +kernel
theorem dX5_copyFrom_56 : decode cX5_copyFrom 56 = .ok (.iconst 0, 1) := by decide +kernel
theorem dX5_copyFrom_57 : decode cX5_copyFrom 57 = .ok (.bipush 8, 2) := by decide +kernel
theorem dX5_copyFrom_59 : decode cX5_copyFrom 59 = .ok (.invokestatic 52, 3) := by decide +kernel
theorem dX5_copyFrom_62 : decode cX5_copyFrom 62 = .ok (.iconst 0, 1) := by decide +kernel
theorem dX5_copyFrom_63 : decode cX5_copyFrom 63 = .ok (.istore_n 2, 1) := by decide +kernel
theorem dX5_copyFrom_64 : decode cX5_copyFrom 64 = .ok (.iload_n 2, 1) := by decide +kernel
theorem dX5_copyFrom_65 : decode cX5_copyFrom 65 = .ok (.bipush 8, 2) := by decide +kernel
theorem dX5_copyFrom_67 : decode cX5_copyFrom 67 = .ok (.if_icmp .ge 28, 3) := by decide +kernel
theorem dX5_copyFrom_70 : decode cX5_copyFrom 70 = .ok (.aload_n 1, 1) := by decide +kernel
theorem dX5_copyFrom_71 : decode cX5_copyFrom 71 = .ok (.getfield 20, 3) := by decide +kernel
theorem dX5_copyFrom_74 : decode cX5_copyFrom 74 = .ok (.iload_n 2, 1) := by decide +kernel
theorem dX5_copyFrom_75 : decode cX5_copyFrom 75 = .ok (.aaload, 1) := by decide +kernel
theorem dX5_copyFrom_76 : decode cX5_copyFrom 76 = .ok (.iconst 0, 1) := by decide +kernel
theorem dX5_copyFrom_77 : decode cX5_copyFrom 77 = .ok (.aload_n 0, 1) := by decide +kernel
theorem dX5_copyFrom_78 : decode cX5_copyFrom 78 = .ok (.getfield 20, 3) := by decide +kernel
theorem dX5_copyFrom_81 : decode cX5_copyFrom 81 = .ok (.iload_n 2, 1) := by decide +kernel
theorem dX5_copyFrom_82 : decode cX5_copyFrom 82 = .ok (.aaload, 1) := by decide +kernel
theorem dX5_copyFrom_83 : decode cX5_copyFrom 83 = .ok (.iconst 0, 1) := by decide +kernel
theorem dX5_copyFrom_84 : decode cX5_copyFrom 84 = .ok (.bipush 8, 2) := by decide +kernel
theorem dX5_copyFrom_86 : decode cX5_copyFrom 86 = .ok (.invokestatic 52, 3) := by decide +kernel
theorem dX5_copyFrom_89 : decode cX5_copyFrom 89 = .ok (.iinc 2 1, 3) := by decide +kernel
theorem dX5_copyFrom_92 : decode cX5_copyFrom 92 = .ok (.goto (-28), 3) := by decide +kernel
theorem dX5_copyFrom_95 : decode cX5_copyFrom 95 = .ok (.aload_n 1, 1) := by decide +kernel
theorem dX5_copyFrom_96 : decode cX5_copyFrom 96 = .ok (.getfield 23, 3) := by decide +kernel
theorem dX5_copyFrom_99 : decode cX5_copyFrom 99 = .ok (.iconst 0, 1) := by decide +kernel
theorem dX5_copyFrom_100 : decode cX5_copyFrom 100 = .ok (.aload_n 0, 1) := by decide +kernel
theorem dX5_copyFrom_101 : decode cX5_copyFrom 101 = .ok (.getfield 23, 3) := by decide +kernel
theorem dX5_copyFrom_104 : decode cX5_copyFrom 104 = .ok (.iconst 0, 1) := by decide +kernel
theorem dX5_copyFrom_105 : decode cX5_copyFrom 105 = .ok (.bipush 8, 2) := by decide +kernel
theorem dX5_copyFrom_107 : decode cX5_copyFrom 107 = .ok (.invokestatic 52, 3) := by decide +kernel
theorem dX5_copyFrom_110 : decode cX5_copyFrom 110 = .ok (.aload_n 1, 1) := by decide +kernel
theorem dX5_copyFrom_111 : decode cX5_copyFrom 111 = .ok (.getfield 27, 3) := by decide +kernel
theorem dX5_copyFrom_114 : decode cX5_copyFrom 114 = .ok (.iconst 0, 1) := by decide +kernel
theorem dX5_copyFrom_115 : decode cX5_copyFrom 115 = .ok (.aload_n 0, 1) := by decide +kernel
theorem dX5_copyFrom_116 : decode cX5_copyFrom 116 = .ok (.getfield 27, 3) := by decide +kernel
theorem dX5_copyFrom_119 : decode cX5_copyFrom 119 = .ok (.iconst 0, 1) := by decide +kernel
theorem dX5_copyFrom_120 : decode cX5_copyFrom 120 = .ok (.bipush 8, 2) := by decide +kernel
theorem dX5_copyFrom_122 : decode cX5_copyFrom 122 = .ok (.invokestatic 52, 3) := by decide +kernel
theorem dX5_copyFrom_125 : decode cX5_copyFrom 125 = .ok (.aload_n 1, 1) := by decide +kernel
theorem dX5_copyFrom_126 : decode cX5_copyFrom 126 = .ok (.getfield 30, 3) := by decide +kernel
theorem dX5_copyFrom_129 : decode cX5_copyFrom 129 = .ok (.iconst 0, 1) := by decide +kernel
theorem dX5_copyFrom_130 : decode cX5_copyFrom 130 = .ok (.aload_n 0, 1) := by decide +kernel
theorem dX5_copyFrom_131 : decode cX5_copyFrom 131 = .ok (.getfield 30, 3) := by decide +kernel
theorem dX5_copyFrom_134 : decode cX5_copyFrom 134 = .ok (.iconst 0, 1) := by decide +kernel
theorem dX5_copyFrom_135 : decode cX5_copyFrom 135 = .ok (.bipush 8, 2) := by decide +kernel
theorem dX5_copyFrom_137 : decode cX5_copyFrom 137 = .ok (.invokestatic 52, 3) := by decide +kernel
theorem dX5_copyFrom_140 : decode cX5_copyFrom 140 = .ok (.return_, 1) := by decide +kernel
theorem dX5_hasLetter_0 : decode cX5_hasLetter 0 = .ok (.iload_n 1, 1) := by decide +kernel
theorem dX5_hasLetter_1 : decode cX5_hasLetter 1 = .ok (.ifCond .lt 15, 3) := by decide +kernel
theorem dX5_hasLetter_4 : decode cX5_hasLetter 4 = .ok (.iload_n 1, 1) := by decide +kernel
theorem dX5_hasLetter_5 : decode cX5_hasLetter 5 = .ok (.aload_n 0, 1) := by decide +kernel
theorem dX5_hasLetter_6 : decode cX5_hasLetter 6 = .ok (.getfield 38, 3) := by decide +kernel
theorem dX5_hasLetter_9 : decode cX5_hasLetter 9 = .ok (.if_icmp .ge 7, 3) := by decide +kernel
theorem dX5_hasLetter_12 : decode cX5_hasLetter 12 = .ok (.iconst 1, 1) := by decide +kernel
theorem dX5_hasLetter_13 : decode cX5_hasLetter 13 = .ok (.goto 4, 3) := by decide +kernel
theorem dX5_hasLetter_16 : decode cX5_hasLetter 16 = .ok (.iconst 0, 1) := by decide +kernel
theorem dX5_hasLetter_17 : decode cX5_hasLetter 17 = .ok (.ireturn, 1) := by decide +kernel
theorem dX5_hasRule_0 : decode cX5_hasRule 0 = .ok (.iload_n 1, 1) := by decide +kernel
theorem dX5_hasRule_1 : decode cX5_hasRule 1 = .ok (.ifCond .lt 15, 3) := by decide +kernel
theorem dX5_hasRule_4 : decode cX5_hasRule 4 = .ok (.iload_n 1, 1) := by decide +kernel
theorem dX5_hasRule_5 : decode cX5_hasRule 5 = .ok (.aload_n 0, 1) := by decide +kernel
theorem dX5_hasRule_6 : decode cX5_hasRule 6 = .ok (.getfield 42, 3) := by decide +kernel
theorem dX5_hasRule_9 : decode cX5_hasRule 9 = .ok (.if_icmp .ge 7, 3) := by decide +kernel
theorem dX5_hasRule_12 : decode cX5_hasRule 12 = .ok (.iconst 1, 1) := by decide +kernel
theorem dX5_hasRule_13 : decode cX5_hasRule 13 = .ok (.goto 4, 3) := by decide +kernel
theorem dX5_hasRule_16 : decode cX5_hasRule 16 = .ok (.iconst 0, 1) := by decide +kernel
theorem dX5_hasRule_17 : decode cX5_hasRule 17 = .ok (.ireturn, 1) := by decide +kernel
theorem dX5_putRule_0 : decode cX5_putRule 0 = .ok (.aload_n 0, 1) := by decide +kernel
theorem dX5_putRule_1 : decode cX5_putRule 1 = .ok (.getfield 42, 3) := by decide +kernel
theorem dX5_putRule_4 : decode cX5_putRule 4 = .ok (.bipush 8, 2) := by decide +kernel
theorem dX5_putRule_6 : decode cX5_putRule 6 = .ok (.if_icmp .lt 6, 3) := by decide +kernel
theorem dX5_putRule_9 : decode cX5_putRule 9 = .ok (.bipush (-4), 2) := by decide +kernel
theorem dX5_putRule_11 : decode cX5_putRule 11 = .ok (.ireturn, 1) := by decide +kernel
theorem dX5_putRule_12 : decode cX5_putRule 12 = .ok (.aload_n 0, 1) := by decide +kernel
theorem dX5_putRule_13 : decode cX5_putRule 13 = .ok (.getfield 9, 3) := by decide +kernel
theorem dX5_putRule_16 : decode cX5_putRule 16 = .ok (.aload_n 0, 1) := by decide +kernel
theorem dX5_putRule_17 : decode cX5_putRule 17 = .ok (.getfield 42, 3) := by decide +kernel
theorem dX5_putRule_20 : decode cX5_putRule 20 = .ok (.lload_n 1, 1) := by decide +kernel
theorem dX5_putRule_21 : decode cX5_putRule 21 = .ok (.lastore, 1) := by decide +kernel
theorem dX5_putRule_22 : decode cX5_putRule 22 = .ok (.aload_n 0, 1) := by decide +kernel
theorem dX5_putRule_23 : decode cX5_putRule 23 = .ok (.getfield 15, 3) := by decide +kernel
theorem dX5_putRule_26 : decode cX5_putRule 26 = .ok (.aload_n 0, 1) := by decide +kernel
theorem dX5_putRule_27 : decode cX5_putRule 27 = .ok (.getfield 42, 3) := by decide +kernel
theorem dX5_putRule_30 : decode cX5_putRule 30 = .ok (.lload_n 3, 1) := by decide +kernel
theorem dX5_putRule_31 : decode cX5_putRule 31 = .ok (.lastore, 1) := by decide +kernel
theorem dX5_putRule_32 : decode cX5_putRule 32 = .ok (.aload_n 0, 1) := by decide +kernel
theorem dX5_putRule_33 : decode cX5_putRule 33 = .ok (.getfield 20, 3) := by decide +kernel
theorem dX5_putRule_36 : decode cX5_putRule 36 = .ok (.aload_n 0, 1) := by decide +kernel
theorem dX5_putRule_37 : decode cX5_putRule 37 = .ok (.getfield 42, 3) := by decide +kernel
theorem dX5_putRule_40 : decode cX5_putRule 40 = .ok (.aaload, 1) := by decide +kernel
theorem dX5_putRule_41 : decode cX5_putRule 41 = .ok (.astore 5, 2) := by decide +kernel
theorem dX5_putRule_43 : decode cX5_putRule 43 = .ok (.aload 5, 2) := by decide +kernel
theorem dX5_putRule_45 : decode cX5_putRule 45 = .ok (.iconst 0, 1) := by decide +kernel
theorem dX5_putRule_46 : decode cX5_putRule 46 = .ok (.invokestatic 58, 3) := by decide +kernel
theorem dX5_putRule_49 : decode cX5_putRule 49 = .ok (.iconst 0, 1) := by decide +kernel
theorem dX5_putRule_50 : decode cX5_putRule 50 = .ok (.istore 6, 2) := by decide +kernel
theorem dX5_putRule_52 : decode cX5_putRule 52 = .ok (.iload 6, 2) := by decide +kernel
theorem dX5_putRule_54 : decode cX5_putRule 54 = .ok (.lload_n 1, 1) := by decide +kernel
theorem dX5_putRule_55 : decode cX5_putRule 55 = .ok (.invokestatic 64, 3) := by decide +kernel
theorem dX5_putRule_58 : decode cX5_putRule 58 = .ok (.if_icmp .ge 22, 3) := by decide +kernel
theorem dX5_putRule_61 : decode cX5_putRule 61 = .ok (.aload 5, 2) := by decide +kernel
theorem dX5_putRule_63 : decode cX5_putRule 63 = .ok (.lload_n 1, 1) := by decide +kernel
theorem dX5_putRule_64 : decode cX5_putRule 64 = .ok (.iload 6, 2) := by decide +kernel
theorem dX5_putRule_66 : decode cX5_putRule 66 = .ok (.invokestatic 70, 3) := by decide +kernel
theorem dX5_putRule_69 : decode cX5_putRule 69 = .ok (.dup2, 1) := by decide +kernel
theorem dX5_putRule_70 : decode cX5_putRule 70 = .ok (.iaload, 1) := by decide +kernel
theorem dX5_putRule_71 : decode cX5_putRule 71 = .ok (.iconst 1, 1) := by decide +kernel
theorem dX5_putRule_72 : decode cX5_putRule 72 = .ok (.iadd, 1) := by decide +kernel
theorem dX5_putRule_73 : decode cX5_putRule 73 = .ok (.iastore, 1) := by decide +kernel
theorem dX5_putRule_74 : decode cX5_putRule 74 = .ok (.iinc 6 1, 3) := by decide +kernel
theorem dX5_putRule_77 : decode cX5_putRule 77 = .ok (.goto (-25), 3) := by decide +kernel
theorem dX5_putRule_80 : decode cX5_putRule 80 = .ok (.iconst 0, 1) := by decide +kernel
theorem dX5_putRule_81 : decode cX5_putRule 81 = .ok (.istore 6, 2) := by decide +kernel
theorem dX5_putRule_83 : decode cX5_putRule 83 = .ok (.iload 6, 2) := by decide +kernel
theorem dX5_putRule_85 : decode cX5_putRule 85 = .ok (.lload_n 3, 1) := by decide +kernel
theorem dX5_putRule_86 : decode cX5_putRule 86 = .ok (.invokestatic 64, 3) := by decide +kernel
theorem dX5_putRule_89 : decode cX5_putRule 89 = .ok (.if_icmp .ge 22, 3) := by decide +kernel
theorem dX5_putRule_92 : decode cX5_putRule 92 = .ok (.aload 5, 2) := by decide +kernel
theorem dX5_putRule_94 : decode cX5_putRule 94 = .ok (.lload_n 3, 1) := by decide +kernel
theorem dX5_putRule_95 : decode cX5_putRule 95 = .ok (.iload 6, 2) := by decide +kernel
theorem dX5_putRule_97 : decode cX5_putRule 97 = .ok (.invokestatic 70, 3) := by decide +kernel
theorem dX5_putRule_100 : decode cX5_putRule 100 = .ok (.dup2, 1) := by decide +kernel
theorem dX5_putRule_101 : decode cX5_putRule 101 = .ok (.iaload, 1) := by decide +kernel
theorem dX5_putRule_102 : decode cX5_putRule 102 = .ok (.iconst 1, 1) := by decide +kernel
theorem dX5_putRule_103 : decode cX5_putRule 103 = .ok (.isub, 1) := by decide +kernel
theorem dX5_putRule_104 : decode cX5_putRule 104 = .ok (.iastore, 1) := by decide +kernel
theorem dX5_putRule_105 : decode cX5_putRule 105 = .ok (.iinc 6 1, 3) := by decide +kernel
theorem dX5_putRule_108 : decode cX5_putRule 108 = .ok (.goto (-25), 3) := by decide +kernel
theorem dX5_putRule_111 : decode cX5_putRule 111 = .ok (.aload_n 0, 1) := by decide +kernel
theorem dX5_putRule_112 : decode cX5_putRule 112 = .ok (.dup, 1) := by decide +kernel
theorem dX5_putRule_113 : decode cX5_putRule 113 = .ok (.getfield 42, 3) := by decide +kernel
theorem dX5_putRule_116 : decode cX5_putRule 116 = .ok (.iconst 1, 1) := by decide +kernel
theorem dX5_putRule_117 : decode cX5_putRule 117 = .ok (.iadd, 1) := by decide +kernel
theorem dX5_putRule_118 : decode cX5_putRule 118 = .ok (.putfield 42, 3) := by decide +kernel
theorem dX5_putRule_121 : decode cX5_putRule 121 = .ok (.aload_n 0, 1) := by decide +kernel
theorem dX5_putRule_122 : decode cX5_putRule 122 = .ok (.getfield 42, 3) := by decide +kernel
theorem dX5_putRule_125 : decode cX5_putRule 125 = .ok (.iconst 1, 1) := by decide +kernel
theorem dX5_putRule_126 : decode cX5_putRule 126 = .ok (.isub, 1) := by decide +kernel
theorem dX5_putRule_127 : decode cX5_putRule 127 = .ok (.ireturn, 1) := by decide +kernel
theorem dX5_dropRule_0 : decode cX5_dropRule 0 = .ok (.iload_n 1, 1) := by decide +kernel
theorem dX5_dropRule_1 : decode cX5_dropRule 1 = .ok (.iconst 1, 1) := by decide +kernel
theorem dX5_dropRule_2 : decode cX5_dropRule 2 = .ok (.iadd, 1) := by decide +kernel
theorem dX5_dropRule_3 : decode cX5_dropRule 3 = .ok (.istore_n 2, 1) := by decide +kernel
theorem dX5_dropRule_4 : decode cX5_dropRule 4 = .ok (.iload_n 2, 1) := by decide +kernel
theorem dX5_dropRule_5 : decode cX5_dropRule 5 = .ok (.aload_n 0, 1) := by decide +kernel
theorem dX5_dropRule_6 : decode cX5_dropRule 6 = .ok (.getfield 42, 3) := by decide +kernel
theorem dX5_dropRule_9 : decode cX5_dropRule 9 = .ok (.if_icmp .ge 58, 3) := by decide +kernel
theorem dX5_dropRule_12 : decode cX5_dropRule 12 = .ok (.aload_n 0, 1) := by decide +kernel
theorem dX5_dropRule_13 : decode cX5_dropRule 13 = .ok (.getfield 9, 3) := by decide +kernel
theorem dX5_dropRule_16 : decode cX5_dropRule 16 = .ok (.iload_n 2, 1) := by decide +kernel
theorem dX5_dropRule_17 : decode cX5_dropRule 17 = .ok (.iconst 1, 1) := by decide +kernel
theorem dX5_dropRule_18 : decode cX5_dropRule 18 = .ok (.isub, 1) := by decide +kernel
theorem dX5_dropRule_19 : decode cX5_dropRule 19 = .ok (.aload_n 0, 1) := by decide +kernel
theorem dX5_dropRule_20 : decode cX5_dropRule 20 = .ok (.getfield 9, 3) := by decide +kernel
theorem dX5_dropRule_23 : decode cX5_dropRule 23 = .ok (.iload_n 2, 1) := by decide +kernel
theorem dX5_dropRule_24 : decode cX5_dropRule 24 = .ok (.laload, 1) := by decide +kernel
theorem dX5_dropRule_25 : decode cX5_dropRule 25 = .ok (.lastore, 1) := by decide +kernel
theorem dX5_dropRule_26 : decode cX5_dropRule 26 = .ok (.aload_n 0, 1) := by decide +kernel
theorem dX5_dropRule_27 : decode cX5_dropRule 27 = .ok (.getfield 15, 3) := by decide +kernel
theorem dX5_dropRule_30 : decode cX5_dropRule 30 = .ok (.iload_n 2, 1) := by decide +kernel
theorem dX5_dropRule_31 : decode cX5_dropRule 31 = .ok (.iconst 1, 1) := by decide +kernel
theorem dX5_dropRule_32 : decode cX5_dropRule 32 = .ok (.isub, 1) := by decide +kernel
theorem dX5_dropRule_33 : decode cX5_dropRule 33 = .ok (.aload_n 0, 1) := by decide +kernel
theorem dX5_dropRule_34 : decode cX5_dropRule 34 = .ok (.getfield 15, 3) := by decide +kernel
theorem dX5_dropRule_37 : decode cX5_dropRule 37 = .ok (.iload_n 2, 1) := by decide +kernel
theorem dX5_dropRule_38 : decode cX5_dropRule 38 = .ok (.laload, 1) := by decide +kernel
theorem dX5_dropRule_39 : decode cX5_dropRule 39 = .ok (.lastore, 1) := by decide +kernel
theorem dX5_dropRule_40 : decode cX5_dropRule 40 = .ok (.aload_n 0, 1) := by decide +kernel
theorem dX5_dropRule_41 : decode cX5_dropRule 41 = .ok (.getfield 20, 3) := by decide +kernel
theorem dX5_dropRule_44 : decode cX5_dropRule 44 = .ok (.iload_n 2, 1) := by decide +kernel
theorem dX5_dropRule_45 : decode cX5_dropRule 45 = .ok (.aaload, 1) := by decide +kernel
theorem dX5_dropRule_46 : decode cX5_dropRule 46 = .ok (.iconst 0, 1) := by decide +kernel
theorem dX5_dropRule_47 : decode cX5_dropRule 47 = .ok (.aload_n 0, 1) := by decide +kernel
theorem dX5_dropRule_48 : decode cX5_dropRule 48 = .ok (.getfield 20, 3) := by decide +kernel
theorem dX5_dropRule_51 : decode cX5_dropRule 51 = .ok (.iload_n 2, 1) := by decide +kernel
theorem dX5_dropRule_52 : decode cX5_dropRule 52 = .ok (.iconst 1, 1) := by decide +kernel
theorem dX5_dropRule_53 : decode cX5_dropRule 53 = .ok (.isub, 1) := by decide +kernel
theorem dX5_dropRule_54 : decode cX5_dropRule 54 = .ok (.aaload, 1) := by decide +kernel
theorem dX5_dropRule_55 : decode cX5_dropRule 55 = .ok (.iconst 0, 1) := by decide +kernel
theorem dX5_dropRule_56 : decode cX5_dropRule 56 = .ok (.bipush 8, 2) := by decide +kernel
theorem dX5_dropRule_58 : decode cX5_dropRule 58 = .ok (.invokestatic 52, 3) := by decide +kernel
theorem dX5_dropRule_61 : decode cX5_dropRule 61 = .ok (.iinc 2 1, 3) := by decide +kernel
theorem dX5_dropRule_64 : decode cX5_dropRule 64 = .ok (.goto (-60), 3) := by decide +kernel
theorem dX5_dropRule_67 : decode cX5_dropRule 67 = .ok (.aload_n 0, 1) := by decide +kernel
theorem dX5_dropRule_68 : decode cX5_dropRule 68 = .ok (.dup, 1) := by decide +kernel
theorem dX5_dropRule_69 : decode cX5_dropRule 69 = .ok (.getfield 42, 3) := by decide +kernel
theorem dX5_dropRule_72 : decode cX5_dropRule 72 = .ok (.iconst 1, 1) := by decide +kernel
theorem dX5_dropRule_73 : decode cX5_dropRule 73 = .ok (.isub, 1) := by decide +kernel
theorem dX5_dropRule_74 : decode cX5_dropRule 74 = .ok (.putfield 42, 3) := by decide +kernel
theorem dX5_dropRule_77 : decode cX5_dropRule 77 = .ok (.return_, 1) := by decide +kernel
theorem dX5_weightOf_0 : decode cX5_weightOf 0 = .ok (.iconst 0, 1) := by decide +kernel
theorem dX5_weightOf_1 : decode cX5_weightOf 1 = .ok (.istore_n 3, 1) := by decide +kernel
theorem dX5_weightOf_2 : decode cX5_weightOf 2 = .ok (.iconst 0, 1) := by decide +kernel
theorem dX5_weightOf_3 : decode cX5_weightOf 3 = .ok (.istore 4, 2) := by decide +kernel
theorem dX5_weightOf_5 : decode cX5_weightOf 5 = .ok (.iload 4, 2) := by decide +kernel
theorem dX5_weightOf_7 : decode cX5_weightOf 7 = .ok (.lload_n 1, 1) := by decide +kernel
theorem dX5_weightOf_8 : decode cX5_weightOf 8 = .ok (.invokestatic 64, 3) := by decide +kernel
theorem dX5_weightOf_11 : decode cX5_weightOf 11 = .ok (.if_icmp .ge 23, 3) := by decide +kernel
theorem dX5_weightOf_14 : decode cX5_weightOf 14 = .ok (.iload_n 3, 1) := by decide +kernel
theorem dX5_weightOf_15 : decode cX5_weightOf 15 = .ok (.aload_n 0, 1) := by decide +kernel
theorem dX5_weightOf_16 : decode cX5_weightOf 16 = .ok (.getfield 23, 3) := by decide +kernel
theorem dX5_weightOf_19 : decode cX5_weightOf 19 = .ok (.lload_n 1, 1) := by decide +kernel
theorem dX5_weightOf_20 : decode cX5_weightOf 20 = .ok (.iload 4, 2) := by decide +kernel
theorem dX5_weightOf_22 : decode cX5_weightOf 22 = .ok (.invokestatic 70, 3) := by decide +kernel
theorem dX5_weightOf_25 : decode cX5_weightOf 25 = .ok (.iaload, 1) := by decide +kernel
theorem dX5_weightOf_26 : decode cX5_weightOf 26 = .ok (.iadd, 1) := by decide +kernel
theorem dX5_weightOf_27 : decode cX5_weightOf 27 = .ok (.istore_n 3, 1) := by decide +kernel
theorem dX5_weightOf_28 : decode cX5_weightOf 28 = .ok (.iinc 4 1, 3) := by decide +kernel
theorem dX5_weightOf_31 : decode cX5_weightOf 31 = .ok (.goto (-26), 3) := by decide +kernel
theorem dX5_weightOf_34 : decode cX5_weightOf 34 = .ok (.iload_n 3, 1) := by decide +kernel
theorem dX5_weightOf_35 : decode cX5_weightOf 35 = .ok (.ireturn, 1) := by decide +kernel
theorem dX5_compareWords_0 : decode cX5_compareWords 0 = .ok (.aload_n 0, 1) := by decide +kernel
theorem dX5_compareWords_1 : decode cX5_compareWords 1 = .ok (.lload_n 1, 1) := by decide +kernel
theorem dX5_compareWords_2 : decode cX5_compareWords 2 = .ok (.invokevirtual 74, 3) := by decide +kernel
theorem dX5_compareWords_5 : decode cX5_compareWords 5 = .ok (.aload_n 0, 1) := by decide +kernel
theorem dX5_compareWords_6 : decode cX5_compareWords 6 = .ok (.lload_n 3, 1) := by decide +kernel
theorem dX5_compareWords_7 : decode cX5_compareWords 7 = .ok (.invokevirtual 74, 3) := by decide +kernel
theorem dX5_compareWords_10 : decode cX5_compareWords 10 = .ok (.isub, 1) := by decide +kernel
theorem dX5_compareWords_11 : decode cX5_compareWords 11 = .ok (.istore 5, 2) := by decide +kernel
theorem dX5_compareWords_13 : decode cX5_compareWords 13 = .ok (.lload_n 1, 1) := by decide +kernel
theorem dX5_compareWords_14 : decode cX5_compareWords 14 = .ok (.invokestatic 64, 3) := by decide +kernel
theorem dX5_compareWords_17 : decode cX5_compareWords 17 = .ok (.lload_n 3, 1) := by decide +kernel
theorem dX5_compareWords_18 : decode cX5_compareWords 18 = .ok (.invokestatic 64, 3) := by decide +kernel
theorem dX5_compareWords_21 : decode cX5_compareWords 21 = .ok (.invokestatic 77, 3) := by decide +kernel
theorem dX5_compareWords_24 : decode cX5_compareWords 24 = .ok (.istore 6, 2) := by decide +kernel
theorem dX5_compareWords_26 : decode cX5_compareWords 26 = .ok (.iconst 0, 1) := by decide +kernel
theorem dX5_compareWords_27 : decode cX5_compareWords 27 = .ok (.istore 7, 2) := by decide +kernel
theorem dX5_compareWords_29 : decode cX5_compareWords 29 = .ok (.iload 7, 2) := by decide +kernel
theorem dX5_compareWords_31 : decode cX5_compareWords 31 = .ok (.iload 6, 2) := by decide +kernel
theorem dX5_compareWords_33 : decode cX5_compareWords 33 = .ok (.if_icmp .ge 55, 3) := by decide +kernel
theorem dX5_compareWords_36 : decode cX5_compareWords 36 = .ok (.iload 5, 2) := by decide +kernel
theorem dX5_compareWords_38 : decode cX5_compareWords 38 = .ok (.ifCond .ne 50, 3) := by decide +kernel
theorem dX5_compareWords_41 : decode cX5_compareWords 41 = .ok (.lload_n 1, 1) := by decide +kernel
theorem dX5_compareWords_42 : decode cX5_compareWords 42 = .ok (.iload 7, 2) := by decide +kernel
theorem dX5_compareWords_44 : decode cX5_compareWords 44 = .ok (.aload_n 0, 1) := by decide +kernel
theorem dX5_compareWords_45 : decode cX5_compareWords 45 = .ok (.getfield 45, 3) := by decide +kernel
theorem dX5_compareWords_48 : decode cX5_compareWords 48 = .ok (.invokestatic 83, 3) := by decide +kernel
theorem dX5_compareWords_51 : decode cX5_compareWords 51 = .ok (.istore 8, 2) := by decide +kernel
theorem dX5_compareWords_53 : decode cX5_compareWords 53 = .ok (.lload_n 3, 1) := by decide +kernel
theorem dX5_compareWords_54 : decode cX5_compareWords 54 = .ok (.iload 7, 2) := by decide +kernel
theorem dX5_compareWords_56 : decode cX5_compareWords 56 = .ok (.aload_n 0, 1) := by decide +kernel
theorem dX5_compareWords_57 : decode cX5_compareWords 57 = .ok (.getfield 45, 3) := by decide +kernel
theorem dX5_compareWords_60 : decode cX5_compareWords 60 = .ok (.invokestatic 83, 3) := by decide +kernel
theorem dX5_compareWords_63 : decode cX5_compareWords 63 = .ok (.istore 9, 2) := by decide +kernel
theorem dX5_compareWords_65 : decode cX5_compareWords 65 = .ok (.aload_n 0, 1) := by decide +kernel
theorem dX5_compareWords_66 : decode cX5_compareWords 66 = .ok (.getfield 27, 3) := by decide +kernel
theorem dX5_compareWords_69 : decode cX5_compareWords 69 = .ok (.iload 8, 2) := by decide +kernel
theorem dX5_compareWords_71 : decode cX5_compareWords 71 = .ok (.iaload, 1) := by decide +kernel
theorem dX5_compareWords_72 : decode cX5_compareWords 72 = .ok (.aload_n 0, 1) := by decide +kernel
theorem dX5_compareWords_73 : decode cX5_compareWords 73 = .ok (.getfield 27, 3) := by decide +kernel
theorem dX5_compareWords_76 : decode cX5_compareWords 76 = .ok (.iload 9, 2) := by decide +kernel
theorem dX5_compareWords_78 : decode cX5_compareWords 78 = .ok (.iaload, 1) := by decide +kernel
theorem dX5_compareWords_79 : decode cX5_compareWords 79 = .ok (.isub, 1) := by decide +kernel
theorem dX5_compareWords_80 : decode cX5_compareWords 80 = .ok (.istore 5, 2) := by decide +kernel
theorem dX5_compareWords_82 : decode cX5_compareWords 82 = .ok (.iinc 7 1, 3) := by decide +kernel
theorem dX5_compareWords_85 : decode cX5_compareWords 85 = .ok (.goto (-56), 3) := by decide +kernel
theorem dX5_compareWords_88 : decode cX5_compareWords 88 = .ok (.iload 5, 2) := by decide +kernel
theorem dX5_compareWords_90 : decode cX5_compareWords 90 = .ok (.ifCond .ne 14, 3) := by decide +kernel
theorem dX5_compareWords_93 : decode cX5_compareWords 93 = .ok (.lload_n 1, 1) := by decide +kernel
theorem dX5_compareWords_94 : decode cX5_compareWords 94 = .ok (.invokestatic 64, 3) := by decide +kernel
theorem dX5_compareWords_97 : decode cX5_compareWords 97 = .ok (.lload_n 3, 1) := by decide +kernel
theorem dX5_compareWords_98 : decode cX5_compareWords 98 = .ok (.invokestatic 64, 3) := by decide +kernel
theorem dX5_compareWords_101 : decode cX5_compareWords 101 = .ok (.isub, 1) := by decide +kernel
theorem dX5_compareWords_102 : decode cX5_compareWords 102 = .ok (.istore 5, 2) := by decide +kernel
theorem dX5_compareWords_104 : decode cX5_compareWords 104 = .ok (.iload 5, 2) := by decide +kernel
theorem dX5_compareWords_106 : decode cX5_compareWords 106 = .ok (.ifCond .le 7, 3) := by decide +kernel
theorem dX5_compareWords_109 : decode cX5_compareWords 109 = .ok (.iconst 2, 1) := by decide +kernel
theorem dX5_compareWords_110 : decode cX5_compareWords 110 = .ok (.goto 13, 3) := by decide +kernel
theorem dX5_compareWords_113 : decode cX5_compareWords 113 = .ok (.iload 5, 2) := by decide +kernel
theorem dX5_compareWords_115 : decode cX5_compareWords 115 = .ok (.ifCond .ge 7, 3) := by decide +kernel
theorem dX5_compareWords_118 : decode cX5_compareWords 118 = .ok (.iconst 0, 1) := by decide +kernel
theorem dX5_compareWords_119 : decode cX5_compareWords 119 = .ok (.goto 4, 3) := by decide +kernel
theorem dX5_compareWords_122 : decode cX5_compareWords 122 = .ok (.iconst 1, 1) := by decide +kernel
theorem dX5_compareWords_123 : decode cX5_compareWords 123 = .ok (.ireturn, 1) := by decide +kernel
theorem dX5_admissible_0 : decode cX5_admissible 0 = .ok (.iconst 0, 1) := by decide +kernel
theorem dX5_admissible_1 : decode cX5_admissible 1 = .ok (.istore_n 1, 1) := by decide +kernel
theorem dX5_admissible_2 : decode cX5_admissible 2 = .ok (.iconst 1, 1) := by decide +kernel
theorem dX5_admissible_3 : decode cX5_admissible 3 = .ok (.istore_n 2, 1) := by decide +kernel
theorem dX5_admissible_4 : decode cX5_admissible 4 = .ok (.iconst 0, 1) := by decide +kernel
theorem dX5_admissible_5 : decode cX5_admissible 5 = .ok (.istore_n 3, 1) := by decide +kernel
theorem dX5_admissible_6 : decode cX5_admissible 6 = .ok (.iload_n 3, 1) := by decide +kernel
theorem dX5_admissible_7 : decode cX5_admissible 7 = .ok (.aload_n 0, 1) := by decide +kernel
theorem dX5_admissible_8 : decode cX5_admissible 8 = .ok (.getfield 38, 3) := by decide +kernel
theorem dX5_admissible_11 : decode cX5_admissible 11 = .ok (.if_icmp .ge 39, 3) := by decide +kernel
theorem dX5_admissible_14 : decode cX5_admissible 14 = .ok (.aload_n 0, 1) := by decide +kernel
theorem dX5_admissible_15 : decode cX5_admissible 15 = .ok (.getfield 23, 3) := by decide +kernel
theorem dX5_admissible_18 : decode cX5_admissible 18 = .ok (.iload_n 3, 1) := by decide +kernel
theorem dX5_admissible_19 : decode cX5_admissible 19 = .ok (.iaload, 1) := by decide +kernel
theorem dX5_admissible_20 : decode cX5_admissible 20 = .ok (.ifCond .ne 24, 3) := by decide +kernel
theorem dX5_admissible_23 : decode cX5_admissible 23 = .ok (.iinc 1 1, 3) := by decide +kernel
theorem dX5_admissible_26 : decode cX5_admissible 26 = .ok (.iload_n 2, 1) := by decide +kernel
theorem dX5_admissible_27 : decode cX5_admissible 27 = .ok (.ifCond .eq 15, 3) := by decide +kernel
theorem dX5_admissible_30 : decode cX5_admissible 30 = .ok (.aload_n 0, 1) := by decide +kernel
theorem dX5_admissible_31 : decode cX5_admissible 31 = .ok (.iload_n 3, 1) := by decide +kernel
theorem dX5_admissible_32 : decode cX5_admissible 32 = .ok (.invokevirtual 87, 3) := by decide +kernel
theorem dX5_admissible_35 : decode cX5_admissible 35 = .ok (.ifCond .eq 7, 3) := by decide +kernel
theorem dX5_admissible_38 : decode cX5_admissible 38 = .ok (.iconst 1, 1) := by decide +kernel
theorem dX5_admissible_39 : decode cX5_admissible 39 = .ok (.goto 4, 3) := by decide +kernel
theorem dX5_admissible_42 : decode cX5_admissible 42 = .ok (.iconst 0, 1) := by decide +kernel
theorem dX5_admissible_43 : decode cX5_admissible 43 = .ok (.istore_n 2, 1) := by decide +kernel
theorem dX5_admissible_44 : decode cX5_admissible 44 = .ok (.iinc 3 1, 3) := by decide +kernel
theorem dX5_admissible_47 : decode cX5_admissible 47 = .ok (.goto (-41), 3) := by decide +kernel
theorem dX5_admissible_50 : decode cX5_admissible 50 = .ok (.iload_n 1, 1) := by decide +kernel
theorem dX5_admissible_51 : decode cX5_admissible 51 = .ok (.ifCond .eq 12, 3) := by decide +kernel
theorem dX5_admissible_54 : decode cX5_admissible 54 = .ok (.iload_n 1, 1) := by decide +kernel
theorem dX5_admissible_55 : decode cX5_admissible 55 = .ok (.iconst 1, 1) := by decide +kernel
theorem dX5_admissible_56 : decode cX5_admissible 56 = .ok (.if_icmp .ne 11, 3) := by decide +kernel
theorem dX5_admissible_59 : decode cX5_admissible 59 = .ok (.iload_n 2, 1) := by decide +kernel
theorem dX5_admissible_60 : decode cX5_admissible 60 = .ok (.ifCond .eq 7, 3) := by decide +kernel
theorem dX5_admissible_63 : decode cX5_admissible 63 = .ok (.iconst 1, 1) := by decide +kernel
theorem dX5_admissible_64 : decode cX5_admissible 64 = .ok (.goto 4, 3) := by decide +kernel
theorem dX5_admissible_67 : decode cX5_admissible 67 = .ok (.iconst 0, 1) := by decide +kernel
theorem dX5_admissible_68 : decode cX5_admissible 68 = .ok (.ireturn, 1) := by decide +kernel
theorem dX5_isAboveOthers_0 : decode cX5_isAboveOthers 0 = .ok (.iconst 0, 1) := by decide +kernel
theorem dX5_isAboveOthers_1 : decode cX5_isAboveOthers 1 = .ok (.istore_n 2, 1) := by decide +kernel
theorem dX5_isAboveOthers_2 : decode cX5_isAboveOthers 2 = .ok (.iload_n 2, 1) := by decide +kernel
theorem dX5_isAboveOthers_3 : decode cX5_isAboveOthers 3 = .ok (.aload_n 0, 1) := by decide +kernel
theorem dX5_isAboveOthers_4 : decode cX5_isAboveOthers 4 = .ok (.getfield 38, 3) := by decide +kernel
theorem dX5_isAboveOthers_7 : decode cX5_isAboveOthers 7 = .ok (.if_icmp .ge 31, 3) := by decide +kernel
theorem dX5_isAboveOthers_10 : decode cX5_isAboveOthers 10 = .ok (.iload_n 2, 1) := by decide +kernel
theorem dX5_isAboveOthers_11 : decode cX5_isAboveOthers 11 = .ok (.iload_n 1, 1) := by decide +kernel
theorem dX5_isAboveOthers_12 : decode cX5_isAboveOthers 12 = .ok (.if_icmp .eq 20, 3) := by decide +kernel
theorem dX5_isAboveOthers_15 : decode cX5_isAboveOthers 15 = .ok (.aload_n 0, 1) := by decide +kernel
theorem dX5_isAboveOthers_16 : decode cX5_isAboveOthers 16 = .ok (.getfield 27, 3) := by decide +kernel
theorem dX5_isAboveOthers_19 : decode cX5_isAboveOthers 19 = .ok (.iload_n 2, 1) := by decide +kernel
theorem dX5_isAboveOthers_20 : decode cX5_isAboveOthers 20 = .ok (.iaload, 1) := by decide +kernel
theorem dX5_isAboveOthers_21 : decode cX5_isAboveOthers 21 = .ok (.aload_n 0, 1) := by decide +kernel
theorem dX5_isAboveOthers_22 : decode cX5_isAboveOthers 22 = .ok (.getfield 27, 3) := by decide +kernel
theorem dX5_isAboveOthers_25 : decode cX5_isAboveOthers 25 = .ok (.iload_n 1, 1) := by decide +kernel
theorem dX5_isAboveOthers_26 : decode cX5_isAboveOthers 26 = .ok (.iaload, 1) := by decide +kernel
theorem dX5_isAboveOthers_27 : decode cX5_isAboveOthers 27 = .ok (.if_icmp .lt 5, 3) := by decide +kernel
theorem dX5_isAboveOthers_30 : decode cX5_isAboveOthers 30 = .ok (.iconst 0, 1) := by decide +kernel
theorem dX5_isAboveOthers_31 : decode cX5_isAboveOthers 31 = .ok (.ireturn, 1) := by decide +kernel
theorem dX5_isAboveOthers_32 : decode cX5_isAboveOthers 32 = .ok (.iinc 2 1, 3) := by decide +kernel
theorem dX5_isAboveOthers_35 : decode cX5_isAboveOthers 35 = .ok (.goto (-33), 3) := by decide +kernel
theorem dX5_isAboveOthers_38 : decode cX5_isAboveOthers 38 = .ok (.iconst 1, 1) := by decide +kernel
theorem dX5_isAboveOthers_39 : decode cX5_isAboveOthers 39 = .ok (.ireturn, 1) := by decide +kernel
theorem dX5_stepped_0 : decode cX5_stepped 0 = .ok (.aload_n 0, 1) := by decide +kernel
theorem dX5_stepped_1 : decode cX5_stepped 1 = .ok (.getfield 9, 3) := by decide +kernel
theorem dX5_stepped_4 : decode cX5_stepped 4 = .ok (.iload_n 3, 1) := by decide +kernel
theorem dX5_stepped_5 : decode cX5_stepped 5 = .ok (.laload, 1) := by decide +kernel
theorem dX5_stepped_6 : decode cX5_stepped 6 = .ok (.lload_n 1, 1) := by decide +kernel
theorem dX5_stepped_7 : decode cX5_stepped 7 = .ok (.iload 4, 2) := by decide +kernel
theorem dX5_stepped_9 : decode cX5_stepped 9 = .ok (.invokestatic 91, 3) := by decide +kernel
theorem dX5_stepped_12 : decode cX5_stepped 12 = .ok (.ifCond .ne 7, 3) := by decide +kernel
theorem dX5_stepped_15 : decode cX5_stepped 15 = .ok (.ldc2_w 95, 3) := by decide +kernel
theorem dX5_stepped_18 : decode cX5_stepped 18 = .ok (.lreturn, 1) := by decide +kernel
theorem dX5_stepped_19 : decode cX5_stepped 19 = .ok (.lload_n 1, 1) := by decide +kernel
theorem dX5_stepped_20 : decode cX5_stepped 20 = .ok (.iload 4, 2) := by decide +kernel
theorem dX5_stepped_22 : decode cX5_stepped 22 = .ok (.aload_n 0, 1) := by decide +kernel
theorem dX5_stepped_23 : decode cX5_stepped 23 = .ok (.getfield 9, 3) := by decide +kernel
theorem dX5_stepped_26 : decode cX5_stepped 26 = .ok (.iload_n 3, 1) := by decide +kernel
theorem dX5_stepped_27 : decode cX5_stepped 27 = .ok (.laload, 1) := by decide +kernel
theorem dX5_stepped_28 : decode cX5_stepped 28 = .ok (.aload_n 0, 1) := by decide +kernel
theorem dX5_stepped_29 : decode cX5_stepped 29 = .ok (.getfield 15, 3) := by decide +kernel
theorem dX5_stepped_32 : decode cX5_stepped 32 = .ok (.iload_n 3, 1) := by decide +kernel
theorem dX5_stepped_33 : decode cX5_stepped 33 = .ok (.laload, 1) := by decide +kernel
theorem dX5_stepped_34 : decode cX5_stepped 34 = .ok (.invokestatic 97, 3) := by decide +kernel
theorem dX5_stepped_37 : decode cX5_stepped 37 = .ok (.lreturn, 1) := by decide +kernel
theorem dX5_firstStep_0 : decode cX5_firstStep 0 = .ok (.iconst 0, 1) := by decide +kernel
theorem dX5_firstStep_1 : decode cX5_firstStep 1 = .ok (.istore_n 3, 1) := by decide +kernel
theorem dX5_firstStep_2 : decode cX5_firstStep 2 = .ok (.iload_n 3, 1) := by decide +kernel
theorem dX5_firstStep_3 : decode cX5_firstStep 3 = .ok (.lload_n 1, 1) := by decide +kernel
theorem dX5_firstStep_4 : decode cX5_firstStep 4 = .ok (.invokestatic 64, 3) := by decide +kernel
theorem dX5_firstStep_7 : decode cX5_firstStep 7 = .ok (.if_icmp .ge 49, 3) := by decide +kernel
theorem dX5_firstStep_10 : decode cX5_firstStep 10 = .ok (.iconst 0, 1) := by decide +kernel
theorem dX5_firstStep_11 : decode cX5_firstStep 11 = .ok (.istore 4, 2) := by decide +kernel
theorem dX5_firstStep_13 : decode cX5_firstStep 13 = .ok (.iload 4, 2) := by decide +kernel
theorem dX5_firstStep_15 : decode cX5_firstStep 15 = .ok (.aload_n 0, 1) := by decide +kernel
theorem dX5_firstStep_16 : decode cX5_firstStep 16 = .ok (.getfield 42, 3) := by decide +kernel
theorem dX5_firstStep_19 : decode cX5_firstStep 19 = .ok (.if_icmp .ge 31, 3) := by decide +kernel
theorem dX5_firstStep_22 : decode cX5_firstStep 22 = .ok (.aload_n 0, 1) := by decide +kernel
theorem dX5_firstStep_23 : decode cX5_firstStep 23 = .ok (.lload_n 1, 1) := by decide +kernel
theorem dX5_firstStep_24 : decode cX5_firstStep 24 = .ok (.iload 4, 2) := by decide +kernel
theorem dX5_firstStep_26 : decode cX5_firstStep 26 = .ok (.iload_n 3, 1) := by decide +kernel
theorem dX5_firstStep_27 : decode cX5_firstStep 27 = .ok (.invokevirtual 101, 3) := by decide +kernel
theorem dX5_firstStep_30 : decode cX5_firstStep 30 = .ok (.lstore 5, 2) := by decide +kernel
theorem dX5_firstStep_32 : decode cX5_firstStep 32 = .ok (.lload 5, 2) := by decide +kernel
theorem dX5_firstStep_34 : decode cX5_firstStep 34 = .ok (.ldc2_w 95, 3) := by decide +kernel
theorem dX5_firstStep_37 : decode cX5_firstStep 37 = .ok (.lcmp, 1) := by decide +kernel
theorem dX5_firstStep_38 : decode cX5_firstStep 38 = .ok (.ifCond .eq 6, 3) := by decide +kernel
theorem dX5_firstStep_41 : decode cX5_firstStep 41 = .ok (.lload 5, 2) := by decide +kernel
theorem dX5_firstStep_43 : decode cX5_firstStep 43 = .ok (.lreturn, 1) := by decide +kernel
theorem dX5_firstStep_44 : decode cX5_firstStep 44 = .ok (.iinc 4 1, 3) := by decide +kernel
theorem dX5_firstStep_47 : decode cX5_firstStep 47 = .ok (.goto (-34), 3) := by decide +kernel
theorem dX5_firstStep_50 : decode cX5_firstStep 50 = .ok (.iinc 3 1, 3) := by decide +kernel
theorem dX5_firstStep_53 : decode cX5_firstStep 53 = .ok (.goto (-51), 3) := by decide +kernel
theorem dX5_firstStep_56 : decode cX5_firstStep 56 = .ok (.ldc2_w 95, 3) := by decide +kernel
theorem dX5_firstStep_59 : decode cX5_firstStep 59 = .ok (.lreturn, 1) := by decide +kernel
theorem dX5_marginOf_0 : decode cX5_marginOf 0 = .ok (.fconst 0, 1) := by decide +kernel
theorem dX5_marginOf_1 : decode cX5_marginOf 1 = .ok (.fstore_n 2, 1) := by decide +kernel
theorem dX5_marginOf_2 : decode cX5_marginOf 2 = .ok (.iconst 0, 1) := by decide +kernel
theorem dX5_marginOf_3 : decode cX5_marginOf 3 = .ok (.istore_n 3, 1) := by decide +kernel
theorem dX5_marginOf_4 : decode cX5_marginOf 4 = .ok (.iload_n 3, 1) := by decide +kernel
theorem dX5_marginOf_5 : decode cX5_marginOf 5 = .ok (.aload_n 0, 1) := by decide +kernel
theorem dX5_marginOf_6 : decode cX5_marginOf 6 = .ok (.getfield 38, 3) := by decide +kernel
theorem dX5_marginOf_9 : decode cX5_marginOf 9 = .ok (.if_icmp .ge 28, 3) := by decide +kernel
theorem dX5_marginOf_12 : decode cX5_marginOf 12 = .ok (.fload_n 2, 1) := by decide +kernel
theorem dX5_marginOf_13 : decode cX5_marginOf 13 = .ok (.aload_n 0, 1) := by decide +kernel
theorem dX5_marginOf_14 : decode cX5_marginOf 14 = .ok (.getfield 20, 3) := by decide +kernel
theorem dX5_marginOf_17 : decode cX5_marginOf 17 = .ok (.iload_n 1, 1) := by decide +kernel
theorem dX5_marginOf_18 : decode cX5_marginOf 18 = .ok (.aaload, 1) := by decide +kernel
theorem dX5_marginOf_19 : decode cX5_marginOf 19 = .ok (.iload_n 3, 1) := by decide +kernel
theorem dX5_marginOf_20 : decode cX5_marginOf 20 = .ok (.iaload, 1) := by decide +kernel
theorem dX5_marginOf_21 : decode cX5_marginOf 21 = .ok (.i2f, 1) := by decide +kernel
theorem dX5_marginOf_22 : decode cX5_marginOf 22 = .ok (.aload_n 0, 1) := by decide +kernel
theorem dX5_marginOf_23 : decode cX5_marginOf 23 = .ok (.getfield 30, 3) := by decide +kernel
theorem dX5_marginOf_26 : decode cX5_marginOf 26 = .ok (.iload_n 3, 1) := by decide +kernel
theorem dX5_marginOf_27 : decode cX5_marginOf 27 = .ok (.faload, 1) := by decide +kernel
theorem dX5_marginOf_28 : decode cX5_marginOf 28 = .ok (.fmul, 1) := by decide +kernel
theorem dX5_marginOf_29 : decode cX5_marginOf 29 = .ok (.fadd, 1) := by decide +kernel
theorem dX5_marginOf_30 : decode cX5_marginOf 30 = .ok (.fstore_n 2, 1) := by decide +kernel
theorem dX5_marginOf_31 : decode cX5_marginOf 31 = .ok (.iinc 3 1, 3) := by decide +kernel
theorem dX5_marginOf_34 : decode cX5_marginOf 34 = .ok (.goto (-30), 3) := by decide +kernel
theorem dX5_marginOf_37 : decode cX5_marginOf 37 = .ok (.fload_n 2, 1) := by decide +kernel
theorem dX5_marginOf_38 : decode cX5_marginOf 38 = .ok (.freturn, 1) := by decide +kernel
theorem dX5_widenMargin_0 : decode cX5_widenMargin 0 = .ok (.iconst 0, 1) := by decide +kernel
theorem dX5_widenMargin_1 : decode cX5_widenMargin 1 = .ok (.istore_n 2, 1) := by decide +kernel
theorem dX5_widenMargin_2 : decode cX5_widenMargin 2 = .ok (.iload_n 2, 1) := by decide +kernel
theorem dX5_widenMargin_3 : decode cX5_widenMargin 3 = .ok (.aload_n 0, 1) := by decide +kernel
theorem dX5_widenMargin_4 : decode cX5_widenMargin 4 = .ok (.getfield 38, 3) := by decide +kernel
theorem dX5_widenMargin_7 : decode cX5_widenMargin 7 = .ok (.if_icmp .ge 46, 3) := by decide +kernel
theorem dX5_widenMargin_10 : decode cX5_widenMargin 10 = .ok (.aload_n 0, 1) := by decide +kernel
theorem dX5_widenMargin_11 : decode cX5_widenMargin 11 = .ok (.getfield 30, 3) := by decide +kernel
theorem dX5_widenMargin_14 : decode cX5_widenMargin 14 = .ok (.iload_n 2, 1) := by decide +kernel
theorem dX5_widenMargin_15 : decode cX5_widenMargin 15 = .ok (.faload, 1) := by decide +kernel
theorem dX5_widenMargin_16 : decode cX5_widenMargin 16 = .ok (.aload_n 0, 1) := by decide +kernel
theorem dX5_widenMargin_17 : decode cX5_widenMargin 17 = .ok (.getfield 20, 3) := by decide +kernel
theorem dX5_widenMargin_20 : decode cX5_widenMargin 20 = .ok (.iload_n 1, 1) := by decide +kernel
theorem dX5_widenMargin_21 : decode cX5_widenMargin 21 = .ok (.aaload, 1) := by decide +kernel
theorem dX5_widenMargin_22 : decode cX5_widenMargin 22 = .ok (.iload_n 2, 1) := by decide +kernel
theorem dX5_widenMargin_23 : decode cX5_widenMargin 23 = .ok (.iaload, 1) := by decide +kernel
theorem dX5_widenMargin_24 : decode cX5_widenMargin 24 = .ok (.i2f, 1) := by decide +kernel
theorem dX5_widenMargin_25 : decode cX5_widenMargin 25 = .ok (.ldc 105, 2) := by decide +kernel
theorem dX5_widenMargin_27 : decode cX5_widenMargin 27 = .ok (.fmul, 1) := by decide +kernel
theorem dX5_widenMargin_28 : decode cX5_widenMargin 28 = .ok (.fadd, 1) := by decide +kernel
theorem dX5_widenMargin_29 : decode cX5_widenMargin 29 = .ok (.fstore_n 3, 1) := by decide +kernel
theorem dX5_widenMargin_30 : decode cX5_widenMargin 30 = .ok (.aload_n 0, 1) := by decide +kernel
theorem dX5_widenMargin_31 : decode cX5_widenMargin 31 = .ok (.getfield 30, 3) := by decide +kernel
theorem dX5_widenMargin_34 : decode cX5_widenMargin 34 = .ok (.iload_n 2, 1) := by decide +kernel
theorem dX5_widenMargin_35 : decode cX5_widenMargin 35 = .ok (.fload_n 3, 1) := by decide +kernel
theorem dX5_widenMargin_36 : decode cX5_widenMargin 36 = .ok (.fconst 0, 1) := by decide +kernel
theorem dX5_widenMargin_37 : decode cX5_widenMargin 37 = .ok (.fcmp .g, 1) := by decide +kernel
theorem dX5_widenMargin_38 : decode cX5_widenMargin 38 = .ok (.ifCond .ge 7, 3) := by decide +kernel
theorem dX5_widenMargin_41 : decode cX5_widenMargin 41 = .ok (.fconst 0, 1) := by decide +kernel
theorem dX5_widenMargin_42 : decode cX5_widenMargin 42 = .ok (.goto 4, 3) := by decide +kernel
theorem dX5_widenMargin_45 : decode cX5_widenMargin 45 = .ok (.fload_n 3, 1) := by decide +kernel
theorem dX5_widenMargin_46 : decode cX5_widenMargin 46 = .ok (.fastore, 1) := by decide +kernel
theorem dX5_widenMargin_47 : decode cX5_widenMargin 47 = .ok (.iinc 2 1, 3) := by decide +kernel
theorem dX5_widenMargin_50 : decode cX5_widenMargin 50 = .ok (.goto (-48), 3) := by decide +kernel
theorem dX5_widenMargin_53 : decode cX5_widenMargin 53 = .ok (.return_, 1) := by decide +kernel
theorem dX6_init_0 : decode cX6_init 0 = .ok (.aload_n 0, 1) := by decide +kernel
theorem dX6_init_1 : decode cX6_init 1 = .ok (.invokespecial 1, 3) := by decide +kernel
theorem dX6_init_4 : decode cX6_init 4 = .ok (.aload_n 0, 1) := by decide +kernel
theorem dX6_init_5 : decode cX6_init 5 = .ok (.bipush 8, 2) := by decide +kernel
theorem dX6_init_7 : decode cX6_init 7 = .ok (.newarray .int, 2) := by decide +kernel
theorem dX6_init_9 : decode cX6_init 9 = .ok (.putfield 9, 3) := by decide +kernel
theorem dX6_init_12 : decode cX6_init 12 = .ok (.return_, 1) := by decide +kernel
theorem dX6_findFirst_0 : decode cX6_findFirst 0 = .ok (.iload_n 1, 1) := by decide +kernel
theorem dX6_findFirst_1 : decode cX6_findFirst 1 = .ok (.iconst 1, 1) := by decide +kernel
theorem dX6_findFirst_2 : decode cX6_findFirst 2 = .ok (.if_icmp .lt 9, 3) := by decide +kernel
theorem dX6_findFirst_5 : decode cX6_findFirst 5 = .ok (.iload_n 1, 1) := by decide +kernel
theorem dX6_findFirst_6 : decode cX6_findFirst 6 = .ok (.bipush 8, 2) := by decide +kernel
theorem dX6_findFirst_8 : decode cX6_findFirst 8 = .ok (.if_icmp .le 5, 3) := by decide +kernel
theorem dX6_findFirst_11 : decode cX6_findFirst 11 = .ok (.iconst 0, 1) := by decide +kernel
theorem dX6_findFirst_12 : decode cX6_findFirst 12 = .ok (.ireturn, 1) := by decide +kernel
theorem dX6_findFirst_13 : decode cX6_findFirst 13 = .ok (.aload_n 0, 1) := by decide +kernel
theorem dX6_findFirst_14 : decode cX6_findFirst 14 = .ok (.getfield 9, 3) := by decide +kernel
theorem dX6_findFirst_17 : decode cX6_findFirst 17 = .ok (.iconst 0, 1) := by decide +kernel
theorem dX6_findFirst_18 : decode cX6_findFirst 18 = .ok (.iconst 0, 1) := by decide +kernel
theorem dX6_findFirst_19 : decode cX6_findFirst 19 = .ok (.iastore, 1) := by decide +kernel
theorem dX6_findFirst_20 : decode cX6_findFirst 20 = .ok (.iconst 1, 1) := by decide +kernel
theorem dX6_findFirst_21 : decode cX6_findFirst 21 = .ok (.istore_n 3, 1) := by decide +kernel
theorem dX6_findFirst_22 : decode cX6_findFirst 22 = .ok (.iconst 0, 1) := by decide +kernel
theorem dX6_findFirst_23 : decode cX6_findFirst 23 = .ok (.istore 4, 2) := by decide +kernel
theorem dX6_findFirst_25 : decode cX6_findFirst 25 = .ok (.iload 4, 2) := by decide +kernel
theorem dX6_findFirst_27 : decode cX6_findFirst 27 = .ok (.ldc 13, 2) := by decide +kernel
theorem dX6_findFirst_29 : decode cX6_findFirst 29 = .ok (.if_icmp .ge 51, 3) := by decide +kernel
theorem dX6_findFirst_32 : decode cX6_findFirst 32 = .ok (.iload_n 3, 1) := by decide +kernel
theorem dX6_findFirst_33 : decode cX6_findFirst 33 = .ok (.ifCond .le 47, 3) := by decide +kernel
theorem dX6_findFirst_36 : decode cX6_findFirst 36 = .ok (.aload_n 0, 1) := by decide +kernel
theorem dX6_findFirst_37 : decode cX6_findFirst 37 = .ok (.iload_n 3, 1) := by decide +kernel
theorem dX6_findFirst_38 : decode cX6_findFirst 38 = .ok (.invokevirtual 14, 3) := by decide +kernel
theorem dX6_findFirst_41 : decode cX6_findFirst 41 = .ok (.ifCond .ne 13, 3) := by decide +kernel
theorem dX6_findFirst_44 : decode cX6_findFirst 44 = .ok (.aload_n 0, 1) := by decide +kernel
theorem dX6_findFirst_45 : decode cX6_findFirst 45 = .ok (.iload_n 3, 1) := by decide +kernel
theorem dX6_findFirst_46 : decode cX6_findFirst 46 = .ok (.iload_n 2, 1) := by decide +kernel
theorem dX6_findFirst_47 : decode cX6_findFirst 47 = .ok (.invokevirtual 18, 3) := by decide +kernel
theorem dX6_findFirst_50 : decode cX6_findFirst 50 = .ok (.istore_n 3, 1) := by decide +kernel
theorem dX6_findFirst_51 : decode cX6_findFirst 51 = .ok (.goto 23, 3) := by decide +kernel
theorem dX6_findFirst_54 : decode cX6_findFirst 54 = .ok (.iload_n 3, 1) := by decide +kernel
theorem dX6_findFirst_55 : decode cX6_findFirst 55 = .ok (.iload_n 1, 1) := by decide +kernel
theorem dX6_findFirst_56 : decode cX6_findFirst 56 = .ok (.if_icmp .ge 16, 3) := by decide +kernel
theorem dX6_findFirst_59 : decode cX6_findFirst 59 = .ok (.aload_n 0, 1) := by decide +kernel
theorem dX6_findFirst_60 : decode cX6_findFirst 60 = .ok (.getfield 9, 3) := by decide +kernel
theorem dX6_findFirst_63 : decode cX6_findFirst 63 = .ok (.iload_n 3, 1) := by decide +kernel
theorem dX6_findFirst_64 : decode cX6_findFirst 64 = .ok (.iconst 0, 1) := by decide +kernel
theorem dX6_findFirst_65 : decode cX6_findFirst 65 = .ok (.iastore, 1) := by decide +kernel
theorem dX6_findFirst_66 : decode cX6_findFirst 66 = .ok (.iinc 3 1, 3) := by decide +kernel
theorem dX6_findFirst_69 : decode cX6_findFirst 69 = .ok (.goto 5, 3) := by decide +kernel
theorem dX6_findFirst_72 : decode cX6_findFirst 72 = .ok (.iconst 1, 1) := by decide +kernel
theorem dX6_findFirst_73 : decode cX6_findFirst 73 = .ok (.ireturn, 1) := by decide +kernel
theorem dX6_findFirst_74 : decode cX6_findFirst 74 = .ok (.iinc 4 1, 3) := by decide +kernel
theorem dX6_findFirst_77 : decode cX6_findFirst 77 = .ok (.goto (-52), 3) := by decide +kernel
theorem dX6_findFirst_80 : decode cX6_findFirst 80 = .ok (.iconst 0, 1) := by decide +kernel
theorem dX6_findFirst_81 : decode cX6_findFirst 81 = .ok (.ireturn, 1) := by decide +kernel
theorem dX6_advance_0 : decode cX6_advance 0 = .ok (.iload_n 1, 1) := by decide +kernel
theorem dX6_advance_1 : decode cX6_advance 1 = .ok (.iconst 1, 1) := by decide +kernel
theorem dX6_advance_2 : decode cX6_advance 2 = .ok (.isub, 1) := by decide +kernel
theorem dX6_advance_3 : decode cX6_advance 3 = .ok (.istore_n 3, 1) := by decide +kernel
theorem dX6_advance_4 : decode cX6_advance 4 = .ok (.iload_n 3, 1) := by decide +kernel
theorem dX6_advance_5 : decode cX6_advance 5 = .ok (.ifCond .lt 33, 3) := by decide +kernel
theorem dX6_advance_8 : decode cX6_advance 8 = .ok (.aload_n 0, 1) := by decide +kernel
theorem dX6_advance_9 : decode cX6_advance 9 = .ok (.getfield 9, 3) := by decide +kernel
theorem dX6_advance_12 : decode cX6_advance 12 = .ok (.iload_n 3, 1) := by decide +kernel
theorem dX6_advance_13 : decode cX6_advance 13 = .ok (.iaload, 1) := by decide +kernel
theorem dX6_advance_14 : decode cX6_advance 14 = .ok (.iload_n 2, 1) := by decide +kernel
theorem dX6_advance_15 : decode cX6_advance 15 = .ok (.if_icmp .ge 17, 3) := by decide +kernel
theorem dX6_advance_18 : decode cX6_advance 18 = .ok (.aload_n 0, 1) := by decide +kernel
theorem dX6_advance_19 : decode cX6_advance 19 = .ok (.getfield 9, 3) := by decide +kernel
theorem dX6_advance_22 : decode cX6_advance 22 = .ok (.iload_n 3, 1) := by decide +kernel
theorem dX6_advance_23 : decode cX6_advance 23 = .ok (.dup2, 1) := by decide +kernel
theorem dX6_advance_24 : decode cX6_advance 24 = .ok (.iaload, 1) := by decide +kernel
theorem dX6_advance_25 : decode cX6_advance 25 = .ok (.iconst 1, 1) := by decide +kernel
theorem dX6_advance_26 : decode cX6_advance 26 = .ok (.iadd, 1) := by decide +kernel
theorem dX6_advance_27 : decode cX6_advance 27 = .ok (.iastore, 1) := by decide +kernel
theorem dX6_advance_28 : decode cX6_advance 28 = .ok (.iload_n 3, 1) := by decide +kernel
theorem dX6_advance_29 : decode cX6_advance 29 = .ok (.iconst 1, 1) := by decide +kernel
theorem dX6_advance_30 : decode cX6_advance 30 = .ok (.iadd, 1) := by decide +kernel
theorem dX6_advance_31 : decode cX6_advance 31 = .ok (.ireturn, 1) := by decide +kernel
theorem dX6_advance_32 : decode cX6_advance 32 = .ok (.iinc 3 (-1), 3) := by decide +kernel
theorem dX6_advance_35 : decode cX6_advance 35 = .ok (.goto (-31), 3) := by decide +kernel
theorem dX6_advance_38 : decode cX6_advance 38 = .ok (.iconst 0, 1) := by decide +kernel
theorem dX6_advance_39 : decode cX6_advance 39 = .ok (.ireturn, 1) := by decide +kernel
theorem dX7_init_0 : decode cX7_init 0 = .ok (.aload_n 0, 1) := by decide +kernel
theorem dX7_init_1 : decode cX7_init 1 = .ok (.invokespecial 3, 3) := by decide +kernel
theorem dX7_init_4 : decode cX7_init 4 = .ok (.aload_n 0, 1) := by decide +kernel
theorem dX7_init_5 : decode cX7_init 5 = .ok (.iconst (-1), 1) := by decide +kernel
theorem dX7_init_6 : decode cX7_init 6 = .ok (.putfield 11, 3) := by decide +kernel
theorem dX7_init_9 : decode cX7_init 9 = .ok (.aload_n 0, 1) := by decide +kernel
theorem dX7_init_10 : decode cX7_init 10 = .ok (.iconst 0, 1) := by decide +kernel
theorem dX7_init_11 : decode cX7_init 11 = .ok (.putfield 15, 3) := by decide +kernel
theorem dX7_init_14 : decode cX7_init 14 = .ok (.aload_n 0, 1) := by decide +kernel
theorem dX7_init_15 : decode cX7_init 15 = .ok (.bipush 40, 2) := by decide +kernel
theorem dX7_init_17 : decode cX7_init 17 = .ok (.newarray .long, 2) := by decide +kernel
theorem dX7_init_19 : decode cX7_init 19 = .ok (.putfield 18, 3) := by decide +kernel
theorem dX7_init_22 : decode cX7_init 22 = .ok (.aload_n 0, 1) := by decide +kernel
theorem dX7_init_23 : decode cX7_init 23 = .ok (.bipush 40, 2) := by decide +kernel
theorem dX7_init_25 : decode cX7_init 25 = .ok (.newarray .float, 2) := by decide +kernel
theorem dX7_init_27 : decode cX7_init 27 = .ok (.putfield 22, 3) := by decide +kernel
theorem dX7_init_30 : decode cX7_init 30 = .ok (.aload_n 0, 1) := by decide +kernel
theorem dX7_init_31 : decode cX7_init 31 = .ok (.bipush 40, 2) := by decide +kernel
theorem dX7_init_33 : decode cX7_init 33 = .ok (.newarray .double, 2) := by decide +kernel
theorem dX7_init_35 : decode cX7_init 35 = .ok (.putfield 26, 3) := by decide +kernel
theorem dX7_init_38 : decode cX7_init 38 = .ok (.return_, 1) := by decide +kernel
theorem dX7_isFree_0 : decode cX7_isFree 0 = .ok (.aload_n 0, 1) := by decide +kernel
theorem dX7_isFree_1 : decode cX7_isFree 1 = .ok (.getfield 11, 3) := by decide +kernel
theorem dX7_isFree_4 : decode cX7_isFree 4 = .ok (.iconst (-1), 1) := by decide +kernel
theorem dX7_isFree_5 : decode cX7_isFree 5 = .ok (.if_icmp .ne 7, 3) := by decide +kernel
theorem dX7_isFree_8 : decode cX7_isFree 8 = .ok (.iconst 1, 1) := by decide +kernel
theorem dX7_isFree_9 : decode cX7_isFree 9 = .ok (.goto 4, 3) := by decide +kernel
theorem dX7_isFree_12 : decode cX7_isFree 12 = .ok (.iconst 0, 1) := by decide +kernel
theorem dX7_isFree_13 : decode cX7_isFree 13 = .ok (.ireturn, 1) := by decide +kernel
theorem dX7_fill_0 : decode cX7_fill 0 = .ok (.aload_n 0, 1) := by decide +kernel
theorem dX7_fill_1 : decode cX7_fill 1 = .ok (.iload_n 1, 1) := by decide +kernel
theorem dX7_fill_2 : decode cX7_fill 2 = .ok (.putfield 11, 3) := by decide +kernel
theorem dX7_fill_5 : decode cX7_fill 5 = .ok (.aload_n 0, 1) := by decide +kernel
theorem dX7_fill_6 : decode cX7_fill 6 = .ok (.iload_n 2, 1) := by decide +kernel
theorem dX7_fill_7 : decode cX7_fill 7 = .ok (.putfield 15, 3) := by decide +kernel
theorem dX7_fill_10 : decode cX7_fill 10 = .ok (.iconst 0, 1) := by decide +kernel
theorem dX7_fill_11 : decode cX7_fill 11 = .ok (.istore_n 3, 1) := by decide +kernel
theorem dX7_fill_12 : decode cX7_fill 12 = .ok (.iload_n 3, 1) := by decide +kernel
theorem dX7_fill_13 : decode cX7_fill 13 = .ok (.bipush 40, 2) := by decide +kernel
theorem dX7_fill_15 : decode cX7_fill 15 = .ok (.if_icmp .ge 30, 3) := by decide +kernel
theorem dX7_fill_18 : decode cX7_fill 18 = .ok (.aload_n 0, 1) := by decide +kernel
theorem dX7_fill_19 : decode cX7_fill 19 = .ok (.getfield 18, 3) := by decide +kernel
theorem dX7_fill_22 : decode cX7_fill 22 = .ok (.iload_n 3, 1) := by decide +kernel
theorem dX7_fill_23 : decode cX7_fill 23 = .ok (.lconst 0, 1) := by decide +kernel
theorem dX7_fill_24 : decode cX7_fill 24 = .ok (.lastore, 1) := by decide +kernel
theorem dX7_fill_25 : decode cX7_fill 25 = .ok (.aload_n 0, 1) := by decide +kernel
theorem dX7_fill_26 : decode cX7_fill 26 = .ok (.getfield 22, 3) := by decide +kernel
theorem dX7_fill_29 : decode cX7_fill 29 = .ok (.iload_n 3, 1) := by decide +kernel
theorem dX7_fill_30 : decode cX7_fill 30 = .ok (.fconst 0, 1) := by decide +kernel
theorem dX7_fill_31 : decode cX7_fill 31 = .ok (.fastore, 1) := by decide +kernel
theorem dX7_fill_32 : decode cX7_fill 32 = .ok (.aload_n 0, 1) := by decide +kernel
theorem dX7_fill_33 : decode cX7_fill 33 = .ok (.getfield 26, 3) := by decide +kernel
theorem dX7_fill_36 : decode cX7_fill 36 = .ok (.iload_n 3, 1) := by decide +kernel
theorem dX7_fill_37 : decode cX7_fill 37 = .ok (.dconst 0, 1) := by decide +kernel
theorem dX7_fill_38 : decode cX7_fill 38 = .ok (.dastore, 1) := by decide +kernel
theorem dX7_fill_39 : decode cX7_fill 39 = .ok (.iinc 3 1, 3) := by decide +kernel
theorem dX7_fill_42 : decode cX7_fill 42 = .ok (.goto (-30), 3) := by decide +kernel
theorem dX7_fill_45 : decode cX7_fill 45 = .ok (.return_, 1) := by decide +kernel
theorem dX7_hasIndex_0 : decode cX7_hasIndex 0 = .ok (.iload_n 1, 1) := by decide +kernel
theorem dX7_hasIndex_1 : decode cX7_hasIndex 1 = .ok (.ifCond .lt 15, 3) := by decide +kernel
theorem dX7_hasIndex_4 : decode cX7_hasIndex 4 = .ok (.iload_n 1, 1) := by decide +kernel
theorem dX7_hasIndex_5 : decode cX7_hasIndex 5 = .ok (.aload_n 0, 1) := by decide +kernel
theorem dX7_hasIndex_6 : decode cX7_hasIndex 6 = .ok (.getfield 15, 3) := by decide +kernel
theorem dX7_hasIndex_9 : decode cX7_hasIndex 9 = .ok (.if_icmp .ge 7, 3) := by decide +kernel
theorem dX7_hasIndex_12 : decode cX7_hasIndex 12 = .ok (.iconst 1, 1) := by decide +kernel
theorem dX7_hasIndex_13 : decode cX7_hasIndex 13 = .ok (.goto 4, 3) := by decide +kernel
theorem dX7_hasIndex_16 : decode cX7_hasIndex 16 = .ok (.iconst 0, 1) := by decide +kernel
theorem dX7_hasIndex_17 : decode cX7_hasIndex 17 = .ok (.ireturn, 1) := by decide +kernel
theorem dX7_hasRange_0 : decode cX7_hasRange 0 = .ok (.iload_n 1, 1) := by decide +kernel
theorem dX7_hasRange_1 : decode cX7_hasRange 1 = .ok (.ifCond .lt 29, 3) := by decide +kernel
theorem dX7_hasRange_4 : decode cX7_hasRange 4 = .ok (.iload_n 1, 1) := by decide +kernel
theorem dX7_hasRange_5 : decode cX7_hasRange 5 = .ok (.aload_n 0, 1) := by decide +kernel
theorem dX7_hasRange_6 : decode cX7_hasRange 6 = .ok (.getfield 15, 3) := by decide +kernel
theorem dX7_hasRange_9 : decode cX7_hasRange 9 = .ok (.if_icmp .gt 21, 3) := by decide +kernel
theorem dX7_hasRange_12 : decode cX7_hasRange 12 = .ok (.iload_n 2, 1) := by decide +kernel
theorem dX7_hasRange_13 : decode cX7_hasRange 13 = .ok (.ifCond .lt 17, 3) := by decide +kernel
theorem dX7_hasRange_16 : decode cX7_hasRange 16 = .ok (.iload_n 2, 1) := by decide +kernel
theorem dX7_hasRange_17 : decode cX7_hasRange 17 = .ok (.aload_n 0, 1) := by decide +kernel
theorem dX7_hasRange_18 : decode cX7_hasRange 18 = .ok (.getfield 15, 3) := by decide +kernel
theorem dX7_hasRange_21 : decode cX7_hasRange 21 = .ok (.iload_n 1, 1) := by decide +kernel
theorem dX7_hasRange_22 : decode cX7_hasRange 22 = .ok (.isub, 1) := by decide +kernel
theorem dX7_hasRange_23 : decode cX7_hasRange 23 = .ok (.if_icmp .gt 7, 3) := by decide +kernel
theorem dX7_hasRange_26 : decode cX7_hasRange 26 = .ok (.iconst 1, 1) := by decide +kernel
theorem dX7_hasRange_27 : decode cX7_hasRange 27 = .ok (.goto 4, 3) := by decide +kernel
theorem dX7_hasRange_30 : decode cX7_hasRange 30 = .ok (.iconst 0, 1) := by decide +kernel
theorem dX7_hasRange_31 : decode cX7_hasRange 31 = .ok (.ireturn, 1) := by decide +kernel
theorem dX7_put_0 : decode cX7_put 0 = .ok (.aload_n 0, 1) := by decide +kernel
theorem dX7_put_1 : decode cX7_put 1 = .ok (.getfield 11, 3) := by decide +kernel
theorem dX7_put_4 : decode cX7_put 4 = .ok (.iconst 2, 1) := by decide +kernel
theorem dX7_put_5 : decode cX7_put 5 = .ok (.if_icmp .ne 14, 3) := by decide +kernel
theorem dX7_put_8 : decode cX7_put 8 = .ok (.aload_n 0, 1) := by decide +kernel
theorem dX7_put_9 : decode cX7_put 9 = .ok (.getfield 22, 3) := by decide +kernel
theorem dX7_put_12 : decode cX7_put 12 = .ok (.iload_n 1, 1) := by decide +kernel
theorem dX7_put_13 : decode cX7_put 13 = .ok (.lload_n 2, 1) := by decide +kernel
theorem dX7_put_14 : decode cX7_put 14 = .ok (.l2f, 1) := by decide +kernel
theorem dX7_put_15 : decode cX7_put 15 = .ok (.fastore, 1) := by decide +kernel
theorem dX7_put_16 : decode cX7_put 16 = .ok (.goto 42, 3) := by decide +kernel
theorem dX7_put_19 : decode cX7_put 19 = .ok (.aload_n 0, 1) := by decide +kernel
theorem dX7_put_20 : decode cX7_put 20 = .ok (.getfield 11, 3) := by decide +kernel
theorem dX7_put_23 : decode cX7_put 23 = .ok (.iconst 3, 1) := by decide +kernel
theorem dX7_put_24 : decode cX7_put 24 = .ok (.if_icmp .ne 14, 3) := by decide +kernel
theorem dX7_put_27 : decode cX7_put 27 = .ok (.aload_n 0, 1) := by decide +kernel
theorem dX7_put_28 : decode cX7_put 28 = .ok (.getfield 26, 3) := by decide +kernel
theorem dX7_put_31 : decode cX7_put 31 = .ok (.iload_n 1, 1) := by decide +kernel
theorem dX7_put_32 : decode cX7_put 32 = .ok (.lload_n 2, 1) := by decide +kernel
theorem dX7_put_33 : decode cX7_put 33 = .ok (.l2d, 1) := by decide +kernel
theorem dX7_put_34 : decode cX7_put 34 = .ok (.dastore, 1) := by decide +kernel
theorem dX7_put_35 : decode cX7_put 35 = .ok (.goto 23, 3) := by decide +kernel
theorem dX7_put_38 : decode cX7_put 38 = .ok (.aload_n 0, 1) := by decide +kernel
theorem dX7_put_39 : decode cX7_put 39 = .ok (.getfield 18, 3) := by decide +kernel
theorem dX7_put_42 : decode cX7_put 42 = .ok (.iload_n 1, 1) := by decide +kernel
theorem dX7_put_43 : decode cX7_put 43 = .ok (.aload_n 0, 1) := by decide +kernel
theorem dX7_put_44 : decode cX7_put 44 = .ok (.getfield 11, 3) := by decide +kernel
theorem dX7_put_47 : decode cX7_put 47 = .ok (.ifCond .ne 9, 3) := by decide +kernel
theorem dX7_put_50 : decode cX7_put 50 = .ok (.lload_n 2, 1) := by decide +kernel
theorem dX7_put_51 : decode cX7_put 51 = .ok (.l2i, 1) := by decide +kernel
theorem dX7_put_52 : decode cX7_put 52 = .ok (.i2l, 1) := by decide +kernel
theorem dX7_put_53 : decode cX7_put 53 = .ok (.goto 4, 3) := by decide +kernel
theorem dX7_put_56 : decode cX7_put 56 = .ok (.lload_n 2, 1) := by decide +kernel
theorem dX7_put_57 : decode cX7_put 57 = .ok (.lastore, 1) := by decide +kernel
theorem dX7_put_58 : decode cX7_put 58 = .ok (.return_, 1) := by decide +kernel
theorem dX7_divide_0 : decode cX7_divide 0 = .ok (.aload_n 0, 1) := by decide +kernel
theorem dX7_divide_1 : decode cX7_divide 1 = .ok (.getfield 11, 3) := by decide +kernel
theorem dX7_divide_4 : decode cX7_divide 4 = .ok (.iconst 2, 1) := by decide +kernel
theorem dX7_divide_5 : decode cX7_divide 5 = .ok (.if_icmp .ne 29, 3) := by decide +kernel
theorem dX7_divide_8 : decode cX7_divide 8 = .ok (.aload_n 0, 1) := by decide +kernel
theorem dX7_divide_9 : decode cX7_divide 9 = .ok (.getfield 22, 3) := by decide +kernel
theorem dX7_divide_12 : decode cX7_divide 12 = .ok (.iload_n 1, 1) := by decide +kernel
theorem dX7_divide_13 : decode cX7_divide 13 = .ok (.faload, 1) := by decide +kernel
theorem dX7_divide_14 : decode cX7_divide 14 = .ok (.fconst 0, 1) := by decide +kernel
theorem dX7_divide_15 : decode cX7_divide 15 = .ok (.fcmp .l, 1) := by decide +kernel
theorem dX7_divide_16 : decode cX7_divide 16 = .ok (.ifCond .eq 18, 3) := by decide +kernel
theorem dX7_divide_19 : decode cX7_divide 19 = .ok (.aload_n 0, 1) := by decide +kernel
theorem dX7_divide_20 : decode cX7_divide 20 = .ok (.getfield 22, 3) := by decide +kernel
theorem dX7_divide_23 : decode cX7_divide 23 = .ok (.iload_n 1, 1) := by decide +kernel
theorem dX7_divide_24 : decode cX7_divide 24 = .ok (.aload_n 0, 1) := by decide +kernel
theorem dX7_divide_25 : decode cX7_divide 25 = .ok (.getfield 22, 3) := by decide +kernel
theorem dX7_divide_28 : decode cX7_divide 28 = .ok (.iload_n 1, 1) := by decide +kernel
theorem dX7_divide_29 : decode cX7_divide 29 = .ok (.faload, 1) := by decide +kernel
theorem dX7_divide_30 : decode cX7_divide 30 = .ok (.iload_n 2, 1) := by decide +kernel
theorem dX7_divide_31 : decode cX7_divide 31 = .ok (.i2f, 1) := by decide +kernel
theorem dX7_divide_32 : decode cX7_divide 32 = .ok (.fdiv, 1) := by decide +kernel
theorem dX7_divide_33 : decode cX7_divide 33 = .ok (.fastore, 1) := by decide +kernel
theorem dX7_divide_34 : decode cX7_divide 34 = .ok (.aload_n 0, 1) := by decide +kernel
theorem dX7_divide_35 : decode cX7_divide 35 = .ok (.getfield 11, 3) := by decide +kernel
theorem dX7_divide_38 : decode cX7_divide 38 = .ok (.iconst 3, 1) := by decide +kernel
theorem dX7_divide_39 : decode cX7_divide 39 = .ok (.if_icmp .ne 29, 3) := by decide +kernel
theorem dX7_divide_42 : decode cX7_divide 42 = .ok (.aload_n 0, 1) := by decide +kernel
theorem dX7_divide_43 : decode cX7_divide 43 = .ok (.getfield 26, 3) := by decide +kernel
theorem dX7_divide_46 : decode cX7_divide 46 = .ok (.iload_n 1, 1) := by decide +kernel
theorem dX7_divide_47 : decode cX7_divide 47 = .ok (.daload, 1) := by decide +kernel
theorem dX7_divide_48 : decode cX7_divide 48 = .ok (.dconst 0, 1) := by decide +kernel
theorem dX7_divide_49 : decode cX7_divide 49 = .ok (.dcmp .l, 1) := by decide +kernel
theorem dX7_divide_50 : decode cX7_divide 50 = .ok (.ifCond .eq 18, 3) := by decide +kernel
theorem dX7_divide_53 : decode cX7_divide 53 = .ok (.aload_n 0, 1) := by decide +kernel
theorem dX7_divide_54 : decode cX7_divide 54 = .ok (.getfield 26, 3) := by decide +kernel
theorem dX7_divide_57 : decode cX7_divide 57 = .ok (.iload_n 1, 1) := by decide +kernel
theorem dX7_divide_58 : decode cX7_divide 58 = .ok (.aload_n 0, 1) := by decide +kernel
theorem dX7_divide_59 : decode cX7_divide 59 = .ok (.getfield 26, 3) := by decide +kernel
theorem dX7_divide_62 : decode cX7_divide 62 = .ok (.iload_n 1, 1) := by decide +kernel
theorem dX7_divide_63 : decode cX7_divide 63 = .ok (.daload, 1) := by decide +kernel
theorem dX7_divide_64 : decode cX7_divide 64 = .ok (.iload_n 2, 1) := by decide +kernel
theorem dX7_divide_65 : decode cX7_divide 65 = .ok (.i2d, 1) := by decide +kernel
theorem dX7_divide_66 : decode cX7_divide 66 = .ok (.ddiv, 1) := by decide +kernel
theorem dX7_divide_67 : decode cX7_divide 67 = .ok (.dastore, 1) := by decide +kernel
theorem dX7_divide_68 : decode cX7_divide 68 = .ok (.return_, 1) := by decide +kernel
theorem dX7_asLong_0 : decode cX7_asLong 0 = .ok (.aload_n 0, 1) := by decide +kernel
theorem dX7_asLong_1 : decode cX7_asLong 1 = .ok (.getfield 11, 3) := by decide +kernel
theorem dX7_asLong_4 : decode cX7_asLong 4 = .ok (.iconst 2, 1) := by decide +kernel
theorem dX7_asLong_5 : decode cX7_asLong 5 = .ok (.if_icmp .ne 11, 3) := by decide +kernel
theorem dX7_asLong_8 : decode cX7_asLong 8 = .ok (.aload_n 0, 1) := by decide +kernel
theorem dX7_asLong_9 : decode cX7_asLong 9 = .ok (.getfield 22, 3) := by decide +kernel
theorem dX7_asLong_12 : decode cX7_asLong 12 = .ok (.iload_n 1, 1) := by decide +kernel
theorem dX7_asLong_13 : decode cX7_asLong 13 = .ok (.faload, 1) := by decide +kernel
theorem dX7_asLong_14 : decode cX7_asLong 14 = .ok (.f2l, 1) := by decide +kernel
theorem dX7_asLong_15 : decode cX7_asLong 15 = .ok (.lreturn, 1) := by decide +kernel
theorem dX7_asLong_16 : decode cX7_asLong 16 = .ok (.aload_n 0, 1) := by decide +kernel
theorem dX7_asLong_17 : decode cX7_asLong 17 = .ok (.getfield 11, 3) := by decide +kernel
theorem dX7_asLong_20 : decode cX7_asLong 20 = .ok (.iconst 3, 1) := by decide +kernel
theorem dX7_asLong_21 : decode cX7_asLong 21 = .ok (.if_icmp .ne 13, 3) := by decide +kernel
theorem dX7_asLong_24 : decode cX7_asLong 24 = .ok (.aload_n 0, 1) := by decide +kernel
theorem dX7_asLong_25 : decode cX7_asLong 25 = .ok (.getfield 26, 3) := by decide +kernel
theorem dX7_asLong_28 : decode cX7_asLong 28 = .ok (.iload_n 1, 1) := by decide +kernel
theorem dX7_asLong_29 : decode cX7_asLong 29 = .ok (.daload, 1) := by decide +kernel
theorem dX7_asLong_30 : decode cX7_asLong 30 = .ok (.d2l, 1) := by decide +kernel
theorem dX7_asLong_31 : decode cX7_asLong 31 = .ok (.goto 9, 3) := by decide +kernel
theorem dX7_asLong_34 : decode cX7_asLong 34 = .ok (.aload_n 0, 1) := by decide +kernel
theorem dX7_asLong_35 : decode cX7_asLong 35 = .ok (.getfield 18, 3) := by decide +kernel
theorem dX7_asLong_38 : decode cX7_asLong 38 = .ok (.iload_n 1, 1) := by decide +kernel
theorem dX7_asLong_39 : decode cX7_asLong 39 = .ok (.laload, 1) := by decide +kernel
theorem dX7_asLong_40 : decode cX7_asLong 40 = .ok (.lreturn, 1) := by decide +kernel
theorem dX7_copyFrom_0 : decode cX7_copyFrom 0 = .ok (.aload_n 1, 1) := by decide +kernel
theorem dX7_copyFrom_1 : decode cX7_copyFrom 1 = .ok (.getfield 18, 3) := by decide +kernel
theorem dX7_copyFrom_4 : decode cX7_copyFrom 4 = .ok (.iload_n 2, 1) := by decide +kernel
theorem dX7_copyFrom_5 : decode cX7_copyFrom 5 = .ok (.aload_n 0, 1) := by decide +kernel
theorem dX7_copyFrom_6 : decode cX7_copyFrom 6 = .ok (.getfield 18, 3) := by decide +kernel
theorem dX7_copyFrom_9 : decode cX7_copyFrom 9 = .ok (.iload_n 3, 1) := by decide +kernel
theorem dX7_copyFrom_10 : decode cX7_copyFrom 10 = .ok (.iload 4, 2) := by decide +kernel
theorem dX7_copyFrom_12 : decode cX7_copyFrom 12 = .ok (.invokestatic 30, 3) := by decide +kernel
theorem dX7_copyFrom_15 : decode cX7_copyFrom 15 = .ok (.aload_n 1, 1) := by decide +kernel
theorem dX7_copyFrom_16 : decode cX7_copyFrom 16 = .ok (.getfield 22, 3) := by decide +kernel
theorem dX7_copyFrom_19 : decode cX7_copyFrom 19 = .ok (.iload_n 2, 1) := by decide +kernel
theorem dX7_copyFrom_20 : decode cX7_copyFrom 20 = .ok (.aload_n 0, 1) := by decide +kernel
theorem dX7_copyFrom_21 : decode cX7_copyFrom 21 = .ok (.getfield 22, 3) := by decide +kernel
theorem dX7_copyFrom_24 : decode cX7_copyFrom 24 = .ok (.iload_n 3, 1) := by decide +kernel
theorem dX7_copyFrom_25 : decode cX7_copyFrom 25 = .ok (.iload 4, 2) := by decide +kernel
theorem dX7_copyFrom_27 : decode cX7_copyFrom 27 = .ok (.invokestatic 30, 3) := by decide +kernel
theorem dX7_copyFrom_30 : decode cX7_copyFrom 30 = .ok (.aload_n 1, 1) := by decide +kernel
theorem dX7_copyFrom_31 : decode cX7_copyFrom 31 = .ok (.getfield 26, 3) := by decide +kernel
theorem dX7_copyFrom_34 : decode cX7_copyFrom 34 = .ok (.iload_n 2, 1) := by decide +kernel
theorem dX7_copyFrom_35 : decode cX7_copyFrom 35 = .ok (.aload_n 0, 1) := by decide +kernel
theorem dX7_copyFrom_36 : decode cX7_copyFrom 36 = .ok (.getfield 26, 3) := by decide +kernel
theorem dX7_copyFrom_39 : decode cX7_copyFrom 39 = .ok (.iload_n 3, 1) := by decide +kernel
theorem dX7_copyFrom_40 : decode cX7_copyFrom 40 = .ok (.iload 4, 2) := by decide +kernel
theorem dX7_copyFrom_42 : decode cX7_copyFrom 42 = .ok (.invokestatic 30, 3) := by decide +kernel
theorem dX7_copyFrom_45 : decode cX7_copyFrom 45 = .ok (.return_, 1) := by decide +kernel
theorem dX8_sizeOf_0 : decode cX8_sizeOf 0 = .ok (.lload_n 0, 1) := by decide +kernel
theorem dX8_sizeOf_1 : decode cX8_sizeOf 1 = .ok (.bipush 36, 2) := by decide +kernel
theorem dX8_sizeOf_3 : decode cX8_sizeOf 3 = .ok (.lushr, 1) := by decide +kernel
theorem dX8_sizeOf_4 : decode cX8_sizeOf 4 = .ok (.l2i, 1) := by decide +kernel
theorem dX8_sizeOf_5 : decode cX8_sizeOf 5 = .ok (.bipush 15, 2) := by decide +kernel
theorem dX8_sizeOf_7 : decode cX8_sizeOf 7 = .ok (.iand, 1) := by decide +kernel
theorem dX8_sizeOf_8 : decode cX8_sizeOf 8 = .ok (.ireturn, 1) := by decide +kernel
theorem dX8_letterAt_0 : decode cX8_letterAt 0 = .ok (.lload_n 0, 1) := by decide +kernel
theorem dX8_letterAt_1 : decode cX8_letterAt 1 = .ok (.iconst 3, 1) := by decide +kernel
theorem dX8_letterAt_2 : decode cX8_letterAt 2 = .ok (.lload_n 0, 1) := by decide +kernel
theorem dX8_letterAt_3 : decode cX8_letterAt 3 = .ok (.invokestatic 9, 3) := by decide +kernel
theorem dX8_letterAt_6 : decode cX8_letterAt 6 = .ok (.iconst 1, 1) := by decide +kernel
theorem dX8_letterAt_7 : decode cX8_letterAt 7 = .ok (.isub, 1) := by decide +kernel
theorem dX8_letterAt_8 : decode cX8_letterAt 8 = .ok (.iload_n 2, 1) := by decide +kernel
theorem dX8_letterAt_9 : decode cX8_letterAt 9 = .ok (.isub, 1) := by decide +kernel
theorem dX8_letterAt_10 : decode cX8_letterAt 10 = .ok (.imul, 1) := by decide +kernel
theorem dX8_letterAt_11 : decode cX8_letterAt 11 = .ok (.lushr, 1) := by decide +kernel
theorem dX8_letterAt_12 : decode cX8_letterAt 12 = .ok (.l2i, 1) := by decide +kernel
theorem dX8_letterAt_13 : decode cX8_letterAt 13 = .ok (.bipush 7, 2) := by decide +kernel
theorem dX8_letterAt_15 : decode cX8_letterAt 15 = .ok (.iand, 1) := by decide +kernel
theorem dX8_letterAt_16 : decode cX8_letterAt 16 = .ok (.ireturn, 1) := by decide +kernel
theorem dX8_letterFrom_0 : decode cX8_letterFrom 0 = .ok (.iload_n 3, 1) := by decide +kernel
theorem dX8_letterFrom_1 : decode cX8_letterFrom 1 = .ok (.ifCond .ne 14, 3) := by decide +kernel
theorem dX8_letterFrom_4 : decode cX8_letterFrom 4 = .ok (.lload_n 0, 1) := by decide +kernel
theorem dX8_letterFrom_5 : decode cX8_letterFrom 5 = .ok (.invokestatic 9, 3) := by decide +kernel
theorem dX8_letterFrom_8 : decode cX8_letterFrom 8 = .ok (.iconst 1, 1) := by decide +kernel
theorem dX8_letterFrom_9 : decode cX8_letterFrom 9 = .ok (.isub, 1) := by decide +kernel
theorem dX8_letterFrom_10 : decode cX8_letterFrom 10 = .ok (.iload_n 2, 1) := by decide +kernel
theorem dX8_letterFrom_11 : decode cX8_letterFrom 11 = .ok (.isub, 1) := by decide +kernel
theorem dX8_letterFrom_12 : decode cX8_letterFrom 12 = .ok (.goto 4, 3) := by decide +kernel
theorem dX8_letterFrom_15 : decode cX8_letterFrom 15 = .ok (.iload_n 2, 1) := by decide +kernel
theorem dX8_letterFrom_16 : decode cX8_letterFrom 16 = .ok (.istore 4, 2) := by decide +kernel
theorem dX8_letterFrom_18 : decode cX8_letterFrom 18 = .ok (.lload_n 0, 1) := by decide +kernel
theorem dX8_letterFrom_19 : decode cX8_letterFrom 19 = .ok (.iconst 3, 1) := by decide +kernel
theorem dX8_letterFrom_20 : decode cX8_letterFrom 20 = .ok (.iload 4, 2) := by decide +kernel
theorem dX8_letterFrom_22 : decode cX8_letterFrom 22 = .ok (.imul, 1) := by decide +kernel
theorem dX8_letterFrom_23 : decode cX8_letterFrom 23 = .ok (.lushr, 1) := by decide +kernel
theorem dX8_letterFrom_24 : decode cX8_letterFrom 24 = .ok (.l2i, 1) := by decide +kernel
theorem dX8_letterFrom_25 : decode cX8_letterFrom 25 = .ok (.bipush 7, 2) := by decide +kernel
theorem dX8_letterFrom_27 : decode cX8_letterFrom 27 = .ok (.iand, 1) := by decide +kernel
theorem dX8_letterFrom_28 : decode cX8_letterFrom 28 = .ok (.ireturn, 1) := by decide +kernel
theorem dX8_make_0 : decode cX8_make 0 = .ok (.iload_n 0, 1) := by decide +kernel
theorem dX8_make_1 : decode cX8_make 1 = .ok (.i2l, 1) := by decide +kernel
theorem dX8_make_2 : decode cX8_make 2 = .ok (.bipush 36, 2) := by decide +kernel
theorem dX8_make_4 : decode cX8_make 4 = .ok (.lshl, 1) := by decide +kernel
theorem dX8_make_5 : decode cX8_make 5 = .ok (.lload_n 1, 1) := by decide +kernel
theorem dX8_make_6 : decode cX8_make 6 = .ok (.lor, 1) := by decide +kernel
theorem dX8_make_7 : decode cX8_make 7 = .ok (.lreturn, 1) := by decide +kernel
theorem dX8_lettersOf_0 : decode cX8_lettersOf 0 = .ok (.lload_n 0, 1) := by decide +kernel
theorem dX8_lettersOf_1 : decode cX8_lettersOf 1 = .ok (.bipush 12, 2) := by decide +kernel
theorem dX8_lettersOf_3 : decode cX8_lettersOf 3 = .ok (.invokestatic 15, 3) := by decide +kernel
theorem dX8_lettersOf_6 : decode cX8_lettersOf 6 = .ok (.lreturn, 1) := by decide +kernel
theorem dX8_lowest_0 : decode cX8_lowest 0 = .ok (.lload_n 0, 1) := by decide +kernel
theorem dX8_lowest_1 : decode cX8_lowest 1 = .ok (.lconst 1, 1) := by decide +kernel
theorem dX8_lowest_2 : decode cX8_lowest 2 = .ok (.iconst 3, 1) := by decide +kernel
theorem dX8_lowest_3 : decode cX8_lowest 3 = .ok (.iload_n 2, 1) := by decide +kernel
theorem dX8_lowest_4 : decode cX8_lowest 4 = .ok (.imul, 1) := by decide +kernel
theorem dX8_lowest_5 : decode cX8_lowest 5 = .ok (.lshl, 1) := by decide +kernel
theorem dX8_lowest_6 : decode cX8_lowest 6 = .ok (.lconst 1, 1) := by decide +kernel
theorem dX8_lowest_7 : decode cX8_lowest 7 = .ok (.lsub, 1) := by decide +kernel
theorem dX8_lowest_8 : decode cX8_lowest 8 = .ok (.land, 1) := by decide +kernel
theorem dX8_lowest_9 : decode cX8_lowest 9 = .ok (.lreturn, 1) := by decide +kernel
theorem dX8_extended_0 : decode cX8_extended 0 = .ok (.lload_n 0, 1) := by decide +kernel
theorem dX8_extended_1 : decode cX8_extended 1 = .ok (.invokestatic 9, 3) := by decide +kernel
theorem dX8_extended_4 : decode cX8_extended 4 = .ok (.iconst 1, 1) := by decide +kernel
theorem dX8_extended_5 : decode cX8_extended 5 = .ok (.iadd, 1) := by decide +kernel
theorem dX8_extended_6 : decode cX8_extended 6 = .ok (.lload_n 0, 1) := by decide +kernel
theorem dX8_extended_7 : decode cX8_extended 7 = .ok (.invokestatic 19, 3) := by decide +kernel
theorem dX8_extended_10 : decode cX8_extended 10 = .ok (.iconst 3, 1) := by decide +kernel
theorem dX8_extended_11 : decode cX8_extended 11 = .ok (.lshl, 1) := by decide +kernel
end
section
theorem dX8_extended_12 : decode cX8_extended 12 = .ok (.iload_n 2, 1) := by decide +kernel
theorem dX8_extended_13 : decode cX8_extended 13 = .ok (.i2l, 1) := by decide +kernel
theorem dX8_extended_14 : decode cX8_extended 14 = .ok (.lor, 1) := by decide +kernel
theorem dX8_extended_15 : decode cX8_extended 15 = .ok (.invokestatic 23, 3) := by decide +kernel
theorem dX8_extended_18 : decode cX8_extended 18 = .ok (.lreturn, 1) := by decide +kernel
theorem dX8_lettersIn_0 : decode cX8_lettersIn 0 = .ok (.iconst 0, 1) := by decide +kernel
theorem dX8_lettersIn_1 : decode cX8_lettersIn 1 = .ok (.istore_n 2, 1) := by decide +kernel
theorem dX8_lettersIn_2 : decode cX8_lettersIn 2 = .ok (.iconst 0, 1) := by decide +kernel
theorem dX8_lettersIn_3 : decode cX8_lettersIn 3 = .ok (.istore_n 3, 1) := by decide +kernel
theorem dX8_lettersIn_4 : decode cX8_lettersIn 4 = .ok (.iload_n 3, 1) := by decide +kernel
theorem dX8_lettersIn_5 : decode cX8_lettersIn 5 = .ok (.lload_n 0, 1) := by decide +kernel
theorem dX8_lettersIn_6 : decode cX8_lettersIn 6 = .ok (.invokestatic 9, 3) := by decide +kernel
theorem dX8_lettersIn_9 : decode cX8_lettersIn 9 = .ok (.if_icmp .ge 19, 3) := by decide +kernel
theorem dX8_lettersIn_12 : decode cX8_lettersIn 12 = .ok (.iload_n 2, 1) := by decide +kernel
theorem dX8_lettersIn_13 : decode cX8_lettersIn 13 = .ok (.iconst 1, 1) := by decide +kernel
theorem dX8_lettersIn_14 : decode cX8_lettersIn 14 = .ok (.lload_n 0, 1) := by decide +kernel
theorem dX8_lettersIn_15 : decode cX8_lettersIn 15 = .ok (.iload_n 3, 1) := by decide +kernel
theorem dX8_lettersIn_16 : decode cX8_lettersIn 16 = .ok (.invokestatic 27, 3) := by decide +kernel
theorem dX8_lettersIn_19 : decode cX8_lettersIn 19 = .ok (.ishl, 1) := by decide +kernel
theorem dX8_lettersIn_20 : decode cX8_lettersIn 20 = .ok (.ior, 1) := by decide +kernel
theorem dX8_lettersIn_21 : decode cX8_lettersIn 21 = .ok (.istore_n 2, 1) := by decide +kernel
theorem dX8_lettersIn_22 : decode cX8_lettersIn 22 = .ok (.iinc 3 1, 3) := by decide +kernel
theorem dX8_lettersIn_25 : decode cX8_lettersIn 25 = .ok (.goto (-21), 3) := by decide +kernel
theorem dX8_lettersIn_28 : decode cX8_lettersIn 28 = .ok (.iload_n 2, 1) := by decide +kernel
theorem dX8_lettersIn_29 : decode cX8_lettersIn 29 = .ok (.ireturn, 1) := by decide +kernel
theorem dX8_occursAt_0 : decode cX8_occursAt 0 = .ok (.lload_n 2, 1) := by decide +kernel
theorem dX8_occursAt_1 : decode cX8_occursAt 1 = .ok (.invokestatic 9, 3) := by decide +kernel
theorem dX8_occursAt_4 : decode cX8_occursAt 4 = .ok (.lload_n 0, 1) := by decide +kernel
theorem dX8_occursAt_5 : decode cX8_occursAt 5 = .ok (.invokestatic 9, 3) := by decide +kernel
theorem dX8_occursAt_8 : decode cX8_occursAt 8 = .ok (.isub, 1) := by decide +kernel
theorem dX8_occursAt_9 : decode cX8_occursAt 9 = .ok (.iload 4, 2) := by decide +kernel
theorem dX8_occursAt_11 : decode cX8_occursAt 11 = .ok (.isub, 1) := by decide +kernel
theorem dX8_occursAt_12 : decode cX8_occursAt 12 = .ok (.istore 5, 2) := by decide +kernel
theorem dX8_occursAt_14 : decode cX8_occursAt 14 = .ok (.iload 4, 2) := by decide +kernel
theorem dX8_occursAt_16 : decode cX8_occursAt 16 = .ok (.ifCond .lt 15, 3) := by decide +kernel
theorem dX8_occursAt_19 : decode cX8_occursAt 19 = .ok (.iload 4, 2) := by decide +kernel
theorem dX8_occursAt_21 : decode cX8_occursAt 21 = .ok (.bipush 12, 2) := by decide +kernel
theorem dX8_occursAt_23 : decode cX8_occursAt 23 = .ok (.if_icmp .gt 8, 3) := by decide +kernel
theorem dX8_occursAt_26 : decode cX8_occursAt 26 = .ok (.iload 5, 2) := by decide +kernel
theorem dX8_occursAt_28 : decode cX8_occursAt 28 = .ok (.ifCond .ge 5, 3) := by decide +kernel
theorem dX8_occursAt_31 : decode cX8_occursAt 31 = .ok (.iconst 0, 1) := by decide +kernel
theorem dX8_occursAt_32 : decode cX8_occursAt 32 = .ok (.ireturn, 1) := by decide +kernel
theorem dX8_occursAt_33 : decode cX8_occursAt 33 = .ok (.lload_n 2, 1) := by decide +kernel
theorem dX8_occursAt_34 : decode cX8_occursAt 34 = .ok (.invokestatic 19, 3) := by decide +kernel
theorem dX8_occursAt_37 : decode cX8_occursAt 37 = .ok (.iconst 3, 1) := by decide +kernel
theorem dX8_occursAt_38 : decode cX8_occursAt 38 = .ok (.iload 5, 2) := by decide +kernel
theorem dX8_occursAt_40 : decode cX8_occursAt 40 = .ok (.imul, 1) := by decide +kernel
theorem dX8_occursAt_41 : decode cX8_occursAt 41 = .ok (.lushr, 1) := by decide +kernel
theorem dX8_occursAt_42 : decode cX8_occursAt 42 = .ok (.lload_n 0, 1) := by decide +kernel
theorem dX8_occursAt_43 : decode cX8_occursAt 43 = .ok (.invokestatic 9, 3) := by decide +kernel
theorem dX8_occursAt_46 : decode cX8_occursAt 46 = .ok (.invokestatic 15, 3) := by decide +kernel
theorem dX8_occursAt_49 : decode cX8_occursAt 49 = .ok (.lload_n 0, 1) := by decide +kernel
theorem dX8_occursAt_50 : decode cX8_occursAt 50 = .ok (.invokestatic 19, 3) := by decide +kernel
theorem dX8_occursAt_53 : decode cX8_occursAt 53 = .ok (.lcmp, 1) := by decide +kernel
theorem dX8_occursAt_54 : decode cX8_occursAt 54 = .ok (.ifCond .ne 7, 3) := by decide +kernel
theorem dX8_occursAt_57 : decode cX8_occursAt 57 = .ok (.iconst 1, 1) := by decide +kernel
theorem dX8_occursAt_58 : decode cX8_occursAt 58 = .ok (.goto 4, 3) := by decide +kernel
theorem dX8_occursAt_61 : decode cX8_occursAt 61 = .ok (.iconst 0, 1) := by decide +kernel
theorem dX8_occursAt_62 : decode cX8_occursAt 62 = .ok (.ireturn, 1) := by decide +kernel
theorem dX8_occurs_0 : decode cX8_occurs 0 = .ok (.iconst 0, 1) := by decide +kernel
theorem dX8_occurs_1 : decode cX8_occurs 1 = .ok (.istore 4, 2) := by decide +kernel
theorem dX8_occurs_3 : decode cX8_occurs 3 = .ok (.iload 4, 2) := by decide +kernel
theorem dX8_occurs_5 : decode cX8_occurs 5 = .ok (.bipush 12, 2) := by decide +kernel
theorem dX8_occurs_7 : decode cX8_occurs 7 = .ok (.if_icmp .ge 21, 3) := by decide +kernel
theorem dX8_occurs_10 : decode cX8_occurs 10 = .ok (.lload_n 0, 1) := by decide +kernel
theorem dX8_occurs_11 : decode cX8_occurs 11 = .ok (.lload_n 2, 1) := by decide +kernel
theorem dX8_occurs_12 : decode cX8_occurs 12 = .ok (.iload 4, 2) := by decide +kernel
theorem dX8_occurs_14 : decode cX8_occurs 14 = .ok (.invokestatic 31, 3) := by decide +kernel
theorem dX8_occurs_17 : decode cX8_occurs 17 = .ok (.ifCond .eq 5, 3) := by decide +kernel
theorem dX8_occurs_20 : decode cX8_occurs 20 = .ok (.iconst 1, 1) := by decide +kernel
theorem dX8_occurs_21 : decode cX8_occurs 21 = .ok (.ireturn, 1) := by decide +kernel
theorem dX8_occurs_22 : decode cX8_occurs 22 = .ok (.iinc 4 1, 3) := by decide +kernel
theorem dX8_occurs_25 : decode cX8_occurs 25 = .ok (.goto (-22), 3) := by decide +kernel
theorem dX8_occurs_28 : decode cX8_occurs 28 = .ok (.iconst 0, 1) := by decide +kernel
theorem dX8_occurs_29 : decode cX8_occurs 29 = .ok (.ireturn, 1) := by decide +kernel
theorem dX8_replaced_0 : decode cX8_replaced 0 = .ok (.lload_n 0, 1) := by decide +kernel
theorem dX8_replaced_1 : decode cX8_replaced 1 = .ok (.invokestatic 9, 3) := by decide +kernel
theorem dX8_replaced_4 : decode cX8_replaced 4 = .ok (.lload_n 3, 1) := by decide +kernel
theorem dX8_replaced_5 : decode cX8_replaced 5 = .ok (.invokestatic 9, 3) := by decide +kernel
theorem dX8_replaced_8 : decode cX8_replaced 8 = .ok (.isub, 1) := by decide +kernel
theorem dX8_replaced_9 : decode cX8_replaced 9 = .ok (.iload_n 2, 1) := by decide +kernel
theorem dX8_replaced_10 : decode cX8_replaced 10 = .ok (.isub, 1) := by decide +kernel
theorem dX8_replaced_11 : decode cX8_replaced 11 = .ok (.istore 7, 2) := by decide +kernel
theorem dX8_replaced_13 : decode cX8_replaced 13 = .ok (.iload_n 2, 1) := by decide +kernel
theorem dX8_replaced_14 : decode cX8_replaced 14 = .ok (.lload 5, 2) := by decide +kernel
theorem dX8_replaced_16 : decode cX8_replaced 16 = .ok (.invokestatic 9, 3) := by decide +kernel
theorem dX8_replaced_19 : decode cX8_replaced 19 = .ok (.iadd, 1) := by decide +kernel
theorem dX8_replaced_20 : decode cX8_replaced 20 = .ok (.iload 7, 2) := by decide +kernel
theorem dX8_replaced_22 : decode cX8_replaced 22 = .ok (.iadd, 1) := by decide +kernel
theorem dX8_replaced_23 : decode cX8_replaced 23 = .ok (.istore 8, 2) := by decide +kernel
theorem dX8_replaced_25 : decode cX8_replaced 25 = .ok (.iload 8, 2) := by decide +kernel
theorem dX8_replaced_27 : decode cX8_replaced 27 = .ok (.bipush 12, 2) := by decide +kernel
theorem dX8_replaced_29 : decode cX8_replaced 29 = .ok (.if_icmp .le 7, 3) := by decide +kernel
theorem dX8_replaced_32 : decode cX8_replaced 32 = .ok (.ldc2_w 35, 3) := by decide +kernel
theorem dX8_replaced_35 : decode cX8_replaced 35 = .ok (.lreturn, 1) := by decide +kernel
theorem dX8_replaced_36 : decode cX8_replaced 36 = .ok (.lload_n 0, 1) := by decide +kernel
theorem dX8_replaced_37 : decode cX8_replaced 37 = .ok (.invokestatic 19, 3) := by decide +kernel
theorem dX8_replaced_40 : decode cX8_replaced 40 = .ok (.lstore 9, 2) := by decide +kernel
theorem dX8_replaced_42 : decode cX8_replaced 42 = .ok (.lload 9, 2) := by decide +kernel
theorem dX8_replaced_44 : decode cX8_replaced 44 = .ok (.iconst 3, 1) := by decide +kernel
theorem dX8_replaced_45 : decode cX8_replaced 45 = .ok (.lload_n 0, 1) := by decide +kernel
theorem dX8_replaced_46 : decode cX8_replaced 46 = .ok (.invokestatic 9, 3) := by decide +kernel
theorem dX8_replaced_49 : decode cX8_replaced 49 = .ok (.iload_n 2, 1) := by decide +kernel
theorem dX8_replaced_50 : decode cX8_replaced 50 = .ok (.isub, 1) := by decide +kernel
theorem dX8_replaced_51 : decode cX8_replaced 51 = .ok (.imul, 1) := by decide +kernel
theorem dX8_replaced_52 : decode cX8_replaced 52 = .ok (.lushr, 1) := by decide +kernel
theorem dX8_replaced_53 : decode cX8_replaced 53 = .ok (.lstore 11, 2) := by decide +kernel
theorem dX8_replaced_55 : decode cX8_replaced 55 = .ok (.lload 11, 2) := by decide +kernel
theorem dX8_replaced_57 : decode cX8_replaced 57 = .ok (.iconst 3, 1) := by decide +kernel
theorem dX8_replaced_58 : decode cX8_replaced 58 = .ok (.lload 5, 2) := by decide +kernel
theorem dX8_replaced_60 : decode cX8_replaced 60 = .ok (.invokestatic 9, 3) := by decide +kernel
theorem dX8_replaced_63 : decode cX8_replaced 63 = .ok (.imul, 1) := by decide +kernel
theorem dX8_replaced_64 : decode cX8_replaced 64 = .ok (.lshl, 1) := by decide +kernel
theorem dX8_replaced_65 : decode cX8_replaced 65 = .ok (.lload 5, 2) := by decide +kernel
theorem dX8_replaced_67 : decode cX8_replaced 67 = .ok (.invokestatic 19, 3) := by decide +kernel
theorem dX8_replaced_70 : decode cX8_replaced 70 = .ok (.lor, 1) := by decide +kernel
theorem dX8_replaced_71 : decode cX8_replaced 71 = .ok (.lstore 13, 2) := by decide +kernel
theorem dX8_replaced_73 : decode cX8_replaced 73 = .ok (.iload 8, 2) := by decide +kernel
theorem dX8_replaced_75 : decode cX8_replaced 75 = .ok (.lload 13, 2) := by decide +kernel
theorem dX8_replaced_77 : decode cX8_replaced 77 = .ok (.iconst 3, 1) := by decide +kernel
theorem dX8_replaced_78 : decode cX8_replaced 78 = .ok (.iload 7, 2) := by decide +kernel
theorem dX8_replaced_80 : decode cX8_replaced 80 = .ok (.imul, 1) := by decide +kernel
theorem dX8_replaced_81 : decode cX8_replaced 81 = .ok (.lshl, 1) := by decide +kernel
theorem dX8_replaced_82 : decode cX8_replaced 82 = .ok (.lload 9, 2) := by decide +kernel
theorem dX8_replaced_84 : decode cX8_replaced 84 = .ok (.iload 7, 2) := by decide +kernel
theorem dX8_replaced_86 : decode cX8_replaced 86 = .ok (.invokestatic 15, 3) := by decide +kernel
theorem dX8_replaced_89 : decode cX8_replaced 89 = .ok (.lor, 1) := by decide +kernel
theorem dX8_replaced_90 : decode cX8_replaced 90 = .ok (.invokestatic 23, 3) := by decide +kernel
theorem dX8_replaced_93 : decode cX8_replaced 93 = .ok (.lreturn, 1) := by decide +kernel
theorem dX9_init_0 : decode cX9_init 0 = .ok (.aload_n 0, 1) := by decide +kernel
theorem dX9_init_1 : decode cX9_init 1 = .ok (.invokespecial 5, 3) := by decide +kernel
theorem dX9_init_4 : decode cX9_init 4 = .ok (.aload_n 0, 1) := by decide +kernel
theorem dX9_init_5 : decode cX9_init 5 = .ok (.new 11, 3) := by decide +kernel
theorem dX9_init_8 : decode cX9_init 8 = .ok (.dup, 1) := by decide +kernel
theorem dX9_init_9 : decode cX9_init 9 = .ok (.invokespecial 13, 3) := by decide +kernel
theorem dX9_init_12 : decode cX9_init 12 = .ok (.putfield 14, 3) := by decide +kernel
theorem dX9_init_15 : decode cX9_init 15 = .ok (.aload_n 0, 1) := by decide +kernel
theorem dX9_init_16 : decode cX9_init 16 = .ok (.new 11, 3) := by decide +kernel
theorem dX9_init_19 : decode cX9_init 19 = .ok (.dup, 1) := by decide +kernel
theorem dX9_init_20 : decode cX9_init 20 = .ok (.invokespecial 13, 3) := by decide +kernel
theorem dX9_init_23 : decode cX9_init 23 = .ok (.putfield 18, 3) := by decide +kernel
theorem dX9_init_26 : decode cX9_init 26 = .ok (.aload_n 0, 1) := by decide +kernel
theorem dX9_init_27 : decode cX9_init 27 = .ok (.iconst 0, 1) := by decide +kernel
theorem dX9_init_28 : decode cX9_init 28 = .ok (.putfield 21, 3) := by decide +kernel
theorem dX9_init_31 : decode cX9_init 31 = .ok (.aload_n 0, 1) := by decide +kernel
theorem dX9_init_32 : decode cX9_init 32 = .ok (.new 25, 3) := by decide +kernel
theorem dX9_init_35 : decode cX9_init 35 = .ok (.dup, 1) := by decide +kernel
theorem dX9_init_36 : decode cX9_init 36 = .ok (.invokespecial 27, 3) := by decide +kernel
theorem dX9_init_39 : decode cX9_init 39 = .ok (.putfield 28, 3) := by decide +kernel
theorem dX9_init_42 : decode cX9_init 42 = .ok (.aload_n 0, 1) := by decide +kernel
theorem dX9_init_43 : decode cX9_init 43 = .ok (.new 32, 3) := by decide +kernel
theorem dX9_init_46 : decode cX9_init 46 = .ok (.dup, 1) := by decide +kernel
theorem dX9_init_47 : decode cX9_init 47 = .ok (.invokespecial 34, 3) := by decide +kernel
theorem dX9_init_50 : decode cX9_init 50 = .ok (.putfield 35, 3) := by decide +kernel
theorem dX9_init_53 : decode cX9_init 53 = .ok (.aload_n 0, 1) := by decide +kernel
theorem dX9_init_54 : decode cX9_init 54 = .ok (.new 39, 3) := by decide +kernel
theorem dX9_init_57 : decode cX9_init 57 = .ok (.dup, 1) := by decide +kernel
theorem dX9_init_58 : decode cX9_init 58 = .ok (.invokespecial 41, 3) := by decide +kernel
theorem dX9_init_61 : decode cX9_init 61 = .ok (.putfield 42, 3) := by decide +kernel
theorem dX9_init_64 : decode cX9_init 64 = .ok (.aload_n 0, 1) := by decide +kernel
theorem dX9_init_65 : decode cX9_init 65 = .ok (.new 46, 3) := by decide +kernel
theorem dX9_init_68 : decode cX9_init 68 = .ok (.dup, 1) := by decide +kernel
theorem dX9_init_69 : decode cX9_init 69 = .ok (.invokespecial 48, 3) := by decide +kernel
theorem dX9_init_72 : decode cX9_init 72 = .ok (.putfield 49, 3) := by decide +kernel
theorem dX9_init_75 : decode cX9_init 75 = .ok (.aload_n 0, 1) := by decide +kernel
theorem dX9_init_76 : decode cX9_init 76 = .ok (.new 53, 3) := by decide +kernel
theorem dX9_init_79 : decode cX9_init 79 = .ok (.dup, 1) := by decide +kernel
theorem dX9_init_80 : decode cX9_init 80 = .ok (.invokespecial 55, 3) := by decide +kernel
theorem dX9_init_83 : decode cX9_init 83 = .ok (.putfield 56, 3) := by decide +kernel
theorem dX9_init_86 : decode cX9_init 86 = .ok (.aload_n 0, 1) := by decide +kernel
theorem dX9_init_87 : decode cX9_init 87 = .ok (.bipush 8, 2) := by decide +kernel
theorem dX9_init_89 : decode cX9_init 89 = .ok (.newarray .int, 2) := by decide +kernel
theorem dX9_init_91 : decode cX9_init 91 = .ok (.putfield 60, 3) := by decide +kernel
theorem dX9_init_94 : decode cX9_init 94 = .ok (.aload_n 0, 1) := by decide +kernel
theorem dX9_init_95 : decode cX9_init 95 = .ok (.iconst 4, 1) := by decide +kernel
theorem dX9_init_96 : decode cX9_init 96 = .ok (.anewarray 64, 3) := by decide +kernel
theorem dX9_init_99 : decode cX9_init 99 = .ok (.putfield 66, 3) := by decide +kernel
theorem dX9_init_102 : decode cX9_init 102 = .ok (.iconst 0, 1) := by decide +kernel
theorem dX9_init_103 : decode cX9_init 103 = .ok (.istore_n 1, 1) := by decide +kernel
theorem dX9_init_104 : decode cX9_init 104 = .ok (.iload_n 1, 1) := by decide +kernel
theorem dX9_init_105 : decode cX9_init 105 = .ok (.iconst 4, 1) := by decide +kernel
theorem dX9_init_106 : decode cX9_init 106 = .ok (.if_icmp .ge 22, 3) := by decide +kernel
theorem dX9_init_109 : decode cX9_init 109 = .ok (.aload_n 0, 1) := by decide +kernel
theorem dX9_init_110 : decode cX9_init 110 = .ok (.getfield 66, 3) := by decide +kernel
theorem dX9_init_113 : decode cX9_init 113 = .ok (.iload_n 1, 1) := by decide +kernel
theorem dX9_init_114 : decode cX9_init 114 = .ok (.new 64, 3) := by decide +kernel
theorem dX9_init_117 : decode cX9_init 117 = .ok (.dup, 1) := by decide +kernel
theorem dX9_init_118 : decode cX9_init 118 = .ok (.invokespecial 70, 3) := by decide +kernel
theorem dX9_init_121 : decode cX9_init 121 = .ok (.aastore, 1) := by decide +kernel
theorem dX9_init_122 : decode cX9_init 122 = .ok (.iinc 1 1, 3) := by decide +kernel
theorem dX9_init_125 : decode cX9_init 125 = .ok (.goto (-21), 3) := by decide +kernel
theorem dX9_init_128 : decode cX9_init 128 = .ok (.return_, 1) := by decide +kernel
theorem dX9_reset_0 : decode cX9_reset 0 = .ok (.iload_n 1, 1) := by decide +kernel
theorem dX9_reset_1 : decode cX9_reset 1 = .ok (.iconst 1, 1) := by decide +kernel
theorem dX9_reset_2 : decode cX9_reset 2 = .ok (.if_icmp .lt 9, 3) := by decide +kernel
theorem dX9_reset_5 : decode cX9_reset 5 = .ok (.iload_n 1, 1) := by decide +kernel
theorem dX9_reset_6 : decode cX9_reset 6 = .ok (.bipush 6, 2) := by decide +kernel
theorem dX9_reset_8 : decode cX9_reset 8 = .ok (.if_icmp .le 5, 3) := by decide +kernel
theorem dX9_reset_11 : decode cX9_reset 11 = .ok (.iconst (-1), 1) := by decide +kernel
theorem dX9_reset_12 : decode cX9_reset 12 = .ok (.ireturn, 1) := by decide +kernel
theorem dX9_reset_13 : decode cX9_reset 13 = .ok (.aload_n 0, 1) := by decide +kernel
theorem dX9_reset_14 : decode cX9_reset 14 = .ok (.getfield 14, 3) := by decide +kernel
theorem dX9_reset_17 : decode cX9_reset 17 = .ok (.getfield 71, 3) := by decide +kernel
theorem dX9_reset_20 : decode cX9_reset 20 = .ok (.istore_n 2, 1) := by decide +kernel
theorem dX9_reset_21 : decode cX9_reset 21 = .ok (.aload_n 0, 1) := by decide +kernel
theorem dX9_reset_22 : decode cX9_reset 22 = .ok (.getfield 14, 3) := by decide +kernel
theorem dX9_reset_25 : decode cX9_reset 25 = .ok (.iload_n 1, 1) := by decide +kernel
theorem dX9_reset_26 : decode cX9_reset 26 = .ok (.invokevirtual 75, 3) := by decide +kernel
theorem dX9_reset_29 : decode cX9_reset 29 = .ok (.aload_n 0, 1) := by decide +kernel
theorem dX9_reset_30 : decode cX9_reset 30 = .ok (.getfield 35, 3) := by decide +kernel
theorem dX9_reset_33 : decode cX9_reset 33 = .ok (.iconst 0, 1) := by decide +kernel
theorem dX9_reset_34 : decode cX9_reset 34 = .ok (.putfield 79, 3) := by decide +kernel
theorem dX9_reset_37 : decode cX9_reset 37 = .ok (.iload_n 2, 1) := by decide +kernel
theorem dX9_reset_38 : decode cX9_reset 38 = .ok (.ireturn, 1) := by decide +kernel
theorem dX9_letters_0 : decode cX9_letters 0 = .ok (.aload_n 0, 1) := by decide +kernel
theorem dX9_letters_1 : decode cX9_letters 1 = .ok (.getfield 14, 3) := by decide +kernel
theorem dX9_letters_4 : decode cX9_letters 4 = .ok (.getfield 71, 3) := by decide +kernel
theorem dX9_letters_7 : decode cX9_letters 7 = .ok (.ireturn, 1) := by decide +kernel
theorem dX9_append_0 : decode cX9_append 0 = .ok (.iload_n 1, 1) := by decide +kernel
theorem dX9_append_1 : decode cX9_append 1 = .ok (.ifCond .lt 20, 3) := by decide +kernel
theorem dX9_append_4 : decode cX9_append 4 = .ok (.iload_n 1, 1) := by decide +kernel
theorem dX9_append_5 : decode cX9_append 5 = .ok (.bipush 127, 2) := by decide +kernel
theorem dX9_append_7 : decode cX9_append 7 = .ok (.if_icmp .gt 14, 3) := by decide +kernel
theorem dX9_append_10 : decode cX9_append 10 = .ok (.iload_n 2, 1) := by decide +kernel
theorem dX9_append_11 : decode cX9_append 11 = .ok (.iconst 1, 1) := by decide +kernel
theorem dX9_append_12 : decode cX9_append 12 = .ok (.if_icmp .lt 9, 3) := by decide +kernel
theorem dX9_append_15 : decode cX9_append 15 = .ok (.iload_n 2, 1) := by decide +kernel
theorem dX9_append_16 : decode cX9_append 16 = .ok (.bipush 40, 2) := by decide +kernel
theorem dX9_append_18 : decode cX9_append 18 = .ok (.if_icmp .le 5, 3) := by decide +kernel
theorem dX9_append_21 : decode cX9_append 21 = .ok (.iconst (-1), 1) := by decide +kernel
theorem dX9_append_22 : decode cX9_append 22 = .ok (.ireturn, 1) := by decide +kernel
theorem dX9_append_23 : decode cX9_append 23 = .ok (.aload_n 0, 1) := by decide +kernel
theorem dX9_append_24 : decode cX9_append 24 = .ok (.getfield 28, 3) := by decide +kernel
theorem dX9_append_27 : decode cX9_append 27 = .ok (.iload_n 1, 1) := by decide +kernel
theorem dX9_append_28 : decode cX9_append 28 = .ok (.iload_n 2, 1) := by decide +kernel
theorem dX9_append_29 : decode cX9_append 29 = .ok (.invokevirtual 82, 3) := by decide +kernel
theorem dX9_append_32 : decode cX9_append 32 = .ok (.ifCond .eq 13, 3) := by decide +kernel
theorem dX9_append_35 : decode cX9_append 35 = .ok (.aload_n 0, 1) := by decide +kernel
theorem dX9_append_36 : decode cX9_append 36 = .ok (.getfield 28, 3) := by decide +kernel
theorem dX9_append_39 : decode cX9_append 39 = .ok (.getfield 86, 3) := by decide +kernel
theorem dX9_append_42 : decode cX9_append 42 = .ok (.goto 5, 3) := by decide +kernel
theorem dX9_append_45 : decode cX9_append 45 = .ok (.bipush (-4), 2) := by decide +kernel
theorem dX9_append_47 : decode cX9_append 47 = .ok (.ireturn, 1) := by decide +kernel
theorem dX9_clearInput_0 : decode cX9_clearInput 0 = .ok (.aload_n 0, 1) := by decide +kernel
theorem dX9_clearInput_1 : decode cX9_clearInput 1 = .ok (.getfield 28, 3) := by decide +kernel
theorem dX9_clearInput_4 : decode cX9_clearInput 4 = .ok (.invokevirtual 89, 3) := by decide +kernel
theorem dX9_clearInput_7 : decode cX9_clearInput 7 = .ok (.ireturn, 1) := by decide +kernel
theorem dX9_addRule_0 : decode cX9_addRule 0 = .ok (.aload_n 0, 1) := by decide +kernel
theorem dX9_addRule_1 : decode cX9_addRule 1 = .ok (.getfield 28, 3) := by decide +kernel
theorem dX9_addRule_4 : decode cX9_addRule 4 = .ok (.invokevirtual 89, 3) := by decide +kernel
theorem dX9_addRule_7 : decode cX9_addRule 7 = .ok (.istore_n 1, 1) := by decide +kernel
theorem dX9_addRule_8 : decode cX9_addRule 8 = .ok (.aload_n 0, 1) := by decide +kernel
theorem dX9_addRule_9 : decode cX9_addRule 9 = .ok (.getfield 14, 3) := by decide +kernel
theorem dX9_addRule_12 : decode cX9_addRule 12 = .ok (.getfield 93, 3) := by decide +kernel
theorem dX9_addRule_15 : decode cX9_addRule 15 = .ok (.bipush 8, 2) := by decide +kernel
theorem dX9_addRule_17 : decode cX9_addRule 17 = .ok (.if_icmp .lt 6, 3) := by decide +kernel
theorem dX9_addRule_20 : decode cX9_addRule 20 = .ok (.bipush (-4), 2) := by decide +kernel
theorem dX9_addRule_22 : decode cX9_addRule 22 = .ok (.ireturn, 1) := by decide +kernel
theorem dX9_addRule_23 : decode cX9_addRule 23 = .ok (.aload_n 0, 1) := by decide +kernel
theorem dX9_addRule_24 : decode cX9_addRule 24 = .ok (.getfield 28, 3) := by decide +kernel
theorem dX9_addRule_27 : decode cX9_addRule 27 = .ok (.bipush 62, 2) := by decide +kernel
theorem dX9_addRule_29 : decode cX9_addRule 29 = .ok (.iload_n 1, 1) := by decide +kernel
theorem dX9_addRule_30 : decode cX9_addRule 30 = .ok (.invokevirtual 96, 3) := by decide +kernel
theorem dX9_addRule_33 : decode cX9_addRule 33 = .ok (.istore_n 2, 1) := by decide +kernel
theorem dX9_addRule_34 : decode cX9_addRule 34 = .ok (.iload_n 2, 1) := by decide +kernel
theorem dX9_addRule_35 : decode cX9_addRule 35 = .ok (.iconst 1, 1) := by decide +kernel
theorem dX9_addRule_36 : decode cX9_addRule 36 = .ok (.if_icmp .ge 6, 3) := by decide +kernel
theorem dX9_addRule_39 : decode cX9_addRule 39 = .ok (.bipush (-5), 2) := by decide +kernel
theorem dX9_addRule_41 : decode cX9_addRule 41 = .ok (.ireturn, 1) := by decide +kernel
theorem dX9_addRule_42 : decode cX9_addRule 42 = .ok (.aload_n 0, 1) := by decide +kernel
theorem dX9_addRule_43 : decode cX9_addRule 43 = .ok (.getfield 28, 3) := by decide +kernel
theorem dX9_addRule_46 : decode cX9_addRule 46 = .ok (.iconst 0, 1) := by decide +kernel
theorem dX9_addRule_47 : decode cX9_addRule 47 = .ok (.iload_n 2, 1) := by decide +kernel
theorem dX9_addRule_48 : decode cX9_addRule 48 = .ok (.bipush 6, 2) := by decide +kernel
theorem dX9_addRule_50 : decode cX9_addRule 50 = .ok (.aload_n 0, 1) := by decide +kernel
theorem dX9_addRule_51 : decode cX9_addRule 51 = .ok (.getfield 14, 3) := by decide +kernel
theorem dX9_addRule_54 : decode cX9_addRule 54 = .ok (.getfield 71, 3) := by decide +kernel
theorem dX9_addRule_57 : decode cX9_addRule 57 = .ok (.invokevirtual 100, 3) := by decide +kernel
theorem dX9_addRule_60 : decode cX9_addRule 60 = .ok (.lstore_n 3, 1) := by decide +kernel
theorem dX9_addRule_61 : decode cX9_addRule 61 = .ok (.aload_n 0, 1) := by decide +kernel
theorem dX9_addRule_62 : decode cX9_addRule 62 = .ok (.getfield 28, 3) := by decide +kernel
theorem dX9_addRule_65 : decode cX9_addRule 65 = .ok (.iload_n 2, 1) := by decide +kernel
theorem dX9_addRule_66 : decode cX9_addRule 66 = .ok (.iconst 1, 1) := by decide +kernel
theorem dX9_addRule_67 : decode cX9_addRule 67 = .ok (.iadd, 1) := by decide +kernel
theorem dX9_addRule_68 : decode cX9_addRule 68 = .ok (.iload_n 1, 1) := by decide +kernel
theorem dX9_addRule_69 : decode cX9_addRule 69 = .ok (.bipush 6, 2) := by decide +kernel
theorem dX9_addRule_71 : decode cX9_addRule 71 = .ok (.aload_n 0, 1) := by decide +kernel
theorem dX9_addRule_72 : decode cX9_addRule 72 = .ok (.getfield 14, 3) := by decide +kernel
theorem dX9_addRule_75 : decode cX9_addRule 75 = .ok (.getfield 71, 3) := by decide +kernel
theorem dX9_addRule_78 : decode cX9_addRule 78 = .ok (.invokevirtual 100, 3) := by decide +kernel
theorem dX9_addRule_81 : decode cX9_addRule 81 = .ok (.lstore 5, 2) := by decide +kernel
theorem dX9_addRule_83 : decode cX9_addRule 83 = .ok (.lload_n 3, 1) := by decide +kernel
theorem dX9_addRule_84 : decode cX9_addRule 84 = .ok (.ldc2_w 104, 3) := by decide +kernel
theorem dX9_addRule_87 : decode cX9_addRule 87 = .ok (.lcmp, 1) := by decide +kernel
theorem dX9_addRule_88 : decode cX9_addRule 88 = .ok (.ifCond .eq 12, 3) := by decide +kernel
theorem dX9_addRule_91 : decode cX9_addRule 91 = .ok (.lload 5, 2) := by decide +kernel
theorem dX9_addRule_93 : decode cX9_addRule 93 = .ok (.ldc2_w 104, 3) := by decide +kernel
theorem dX9_addRule_96 : decode cX9_addRule 96 = .ok (.lcmp, 1) := by decide +kernel
theorem dX9_addRule_97 : decode cX9_addRule 97 = .ok (.ifCond .ne 6, 3) := by decide +kernel
theorem dX9_addRule_100 : decode cX9_addRule 100 = .ok (.bipush (-5), 2) := by decide +kernel
theorem dX9_addRule_102 : decode cX9_addRule 102 = .ok (.ireturn, 1) := by decide +kernel
theorem dX9_addRule_103 : decode cX9_addRule 103 = .ok (.aload_n 0, 1) := by decide +kernel
theorem dX9_addRule_104 : decode cX9_addRule 104 = .ok (.getfield 14, 3) := by decide +kernel
theorem dX9_addRule_107 : decode cX9_addRule 107 = .ok (.lload_n 3, 1) := by decide +kernel
theorem dX9_addRule_108 : decode cX9_addRule 108 = .ok (.lload 5, 2) := by decide +kernel
theorem dX9_addRule_110 : decode cX9_addRule 110 = .ok (.invokevirtual 106, 3) := by decide +kernel
theorem dX9_addRule_113 : decode cX9_addRule 113 = .ok (.ireturn, 1) := by decide +kernel
theorem dX9_removeRule_0 : decode cX9_removeRule 0 = .ok (.aload_n 0, 1) := by decide +kernel
theorem dX9_removeRule_1 : decode cX9_removeRule 1 = .ok (.getfield 14, 3) := by decide +kernel
theorem dX9_removeRule_4 : decode cX9_removeRule 4 = .ok (.iload_n 1, 1) := by decide +kernel
theorem dX9_removeRule_5 : decode cX9_removeRule 5 = .ok (.invokevirtual 110, 3) := by decide +kernel
theorem dX9_removeRule_8 : decode cX9_removeRule 8 = .ok (.ifCond .ne 6, 3) := by decide +kernel
theorem dX9_removeRule_11 : decode cX9_removeRule 11 = .ok (.bipush (-3), 2) := by decide +kernel
theorem dX9_removeRule_13 : decode cX9_removeRule 13 = .ok (.ireturn, 1) := by decide +kernel
theorem dX9_removeRule_14 : decode cX9_removeRule 14 = .ok (.aload_n 0, 1) := by decide +kernel
theorem dX9_removeRule_15 : decode cX9_removeRule 15 = .ok (.getfield 14, 3) := by decide +kernel
theorem dX9_removeRule_18 : decode cX9_removeRule 18 = .ok (.iload_n 1, 1) := by decide +kernel
theorem dX9_removeRule_19 : decode cX9_removeRule 19 = .ok (.invokevirtual 114, 3) := by decide +kernel
theorem dX9_removeRule_22 : decode cX9_removeRule 22 = .ok (.aload_n 0, 1) := by decide +kernel
theorem dX9_removeRule_23 : decode cX9_removeRule 23 = .ok (.getfield 35, 3) := by decide +kernel
theorem dX9_removeRule_26 : decode cX9_removeRule 26 = .ok (.iconst 0, 1) := by decide +kernel
theorem dX9_removeRule_27 : decode cX9_removeRule 27 = .ok (.putfield 79, 3) := by decide +kernel
theorem dX9_removeRule_30 : decode cX9_removeRule 30 = .ok (.aload_n 0, 1) := by decide +kernel
theorem dX9_removeRule_31 : decode cX9_removeRule 31 = .ok (.getfield 14, 3) := by decide +kernel
theorem dX9_removeRule_34 : decode cX9_removeRule 34 = .ok (.getfield 93, 3) := by decide +kernel
theorem dX9_removeRule_37 : decode cX9_removeRule 37 = .ok (.ireturn, 1) := by decide +kernel
theorem dX9_ruleCount_0 : decode cX9_ruleCount 0 = .ok (.aload_n 0, 1) := by decide +kernel
theorem dX9_ruleCount_1 : decode cX9_ruleCount 1 = .ok (.getfield 14, 3) := by decide +kernel
theorem dX9_ruleCount_4 : decode cX9_ruleCount 4 = .ok (.getfield 93, 3) := by decide +kernel
theorem dX9_ruleCount_7 : decode cX9_ruleCount 7 = .ok (.ireturn, 1) := by decide +kernel
theorem dX9_ruleLetter_0 : decode cX9_ruleLetter 0 = .ok (.aload_n 0, 1) := by decide +kernel
theorem dX9_ruleLetter_1 : decode cX9_ruleLetter 1 = .ok (.getfield 14, 3) := by decide +kernel
theorem dX9_ruleLetter_4 : decode cX9_ruleLetter 4 = .ok (.iload_n 1, 1) := by decide +kernel
theorem dX9_ruleLetter_5 : decode cX9_ruleLetter 5 = .ok (.invokevirtual 110, 3) := by decide +kernel
theorem dX9_ruleLetter_8 : decode cX9_ruleLetter 8 = .ok (.ifCond .ne 6, 3) := by decide +kernel
theorem dX9_ruleLetter_11 : decode cX9_ruleLetter 11 = .ok (.bipush (-3), 2) := by decide +kernel
theorem dX9_ruleLetter_13 : decode cX9_ruleLetter 13 = .ok (.ireturn, 1) := by decide +kernel
theorem dX9_ruleLetter_14 : decode cX9_ruleLetter 14 = .ok (.iload_n 2, 1) := by decide +kernel
theorem dX9_ruleLetter_15 : decode cX9_ruleLetter 15 = .ok (.ifCond .lt 8, 3) := by decide +kernel
theorem dX9_ruleLetter_18 : decode cX9_ruleLetter 18 = .ok (.iload_n 2, 1) := by decide +kernel
theorem dX9_ruleLetter_19 : decode cX9_ruleLetter 19 = .ok (.iconst 1, 1) := by decide +kernel
theorem dX9_ruleLetter_20 : decode cX9_ruleLetter 20 = .ok (.if_icmp .le 5, 3) := by decide +kernel
theorem dX9_ruleLetter_23 : decode cX9_ruleLetter 23 = .ok (.iconst (-1), 1) := by decide +kernel
theorem dX9_ruleLetter_24 : decode cX9_ruleLetter 24 = .ok (.ireturn, 1) := by decide +kernel
theorem dX9_ruleLetter_25 : decode cX9_ruleLetter 25 = .ok (.iload_n 2, 1) := by decide +kernel
theorem dX9_ruleLetter_26 : decode cX9_ruleLetter 26 = .ok (.ifCond .ne 15, 3) := by decide +kernel
theorem dX9_ruleLetter_29 : decode cX9_ruleLetter 29 = .ok (.aload_n 0, 1) := by decide +kernel
theorem dX9_ruleLetter_30 : decode cX9_ruleLetter 30 = .ok (.getfield 14, 3) := by decide +kernel
theorem dX9_ruleLetter_33 : decode cX9_ruleLetter 33 = .ok (.getfield 117, 3) := by decide +kernel
theorem dX9_ruleLetter_36 : decode cX9_ruleLetter 36 = .ok (.iload_n 1, 1) := by decide +kernel
theorem dX9_ruleLetter_37 : decode cX9_ruleLetter 37 = .ok (.laload, 1) := by decide +kernel
theorem dX9_ruleLetter_38 : decode cX9_ruleLetter 38 = .ok (.goto 12, 3) := by decide +kernel
theorem dX9_ruleLetter_41 : decode cX9_ruleLetter 41 = .ok (.aload_n 0, 1) := by decide +kernel
theorem dX9_ruleLetter_42 : decode cX9_ruleLetter 42 = .ok (.getfield 14, 3) := by decide +kernel
theorem dX9_ruleLetter_45 : decode cX9_ruleLetter 45 = .ok (.getfield 121, 3) := by decide +kernel
theorem dX9_ruleLetter_48 : decode cX9_ruleLetter 48 = .ok (.iload_n 1, 1) := by decide +kernel
theorem dX9_ruleLetter_49 : decode cX9_ruleLetter 49 = .ok (.laload, 1) := by decide +kernel
theorem dX9_ruleLetter_50 : decode cX9_ruleLetter 50 = .ok (.iload_n 3, 1) := by decide +kernel
theorem dX9_ruleLetter_51 : decode cX9_ruleLetter 51 = .ok (.invokestatic 124, 3) := by decide +kernel
theorem dX9_ruleLetter_54 : decode cX9_ruleLetter 54 = .ok (.ireturn, 1) := by decide +kernel
theorem dX9_balance_0 : decode cX9_balance 0 = .ok (.aload_n 0, 1) := by decide +kernel
theorem dX9_balance_1 : decode cX9_balance 1 = .ok (.getfield 14, 3) := by decide +kernel
theorem dX9_balance_4 : decode cX9_balance 4 = .ok (.iload_n 1, 1) := by decide +kernel
theorem dX9_balance_5 : decode cX9_balance 5 = .ok (.invokevirtual 110, 3) := by decide +kernel
theorem dX9_balance_8 : decode cX9_balance 8 = .ok (.ifCond .ne 6, 3) := by decide +kernel
theorem dX9_balance_11 : decode cX9_balance 11 = .ok (.bipush (-3), 2) := by decide +kernel
theorem dX9_balance_13 : decode cX9_balance 13 = .ok (.ireturn, 1) := by decide +kernel
theorem dX9_balance_14 : decode cX9_balance 14 = .ok (.aload_n 0, 1) := by decide +kernel
theorem dX9_balance_15 : decode cX9_balance 15 = .ok (.getfield 14, 3) := by decide +kernel
theorem dX9_balance_18 : decode cX9_balance 18 = .ok (.iload_n 2, 1) := by decide +kernel
theorem dX9_balance_19 : decode cX9_balance 19 = .ok (.invokevirtual 128, 3) := by decide +kernel
theorem dX9_balance_22 : decode cX9_balance 22 = .ok (.ifCond .eq 20, 3) := by decide +kernel
theorem dX9_balance_25 : decode cX9_balance 25 = .ok (.aload_n 0, 1) := by decide +kernel
theorem dX9_balance_26 : decode cX9_balance 26 = .ok (.getfield 14, 3) := by decide +kernel
theorem dX9_balance_29 : decode cX9_balance 29 = .ok (.getfield 131, 3) := by decide +kernel
theorem dX9_balance_32 : decode cX9_balance 32 = .ok (.iload_n 1, 1) := by decide +kernel
theorem dX9_balance_33 : decode cX9_balance 33 = .ok (.aaload, 1) := by decide +kernel
theorem dX9_balance_34 : decode cX9_balance 34 = .ok (.iload_n 2, 1) := by decide +kernel
theorem dX9_balance_35 : decode cX9_balance 35 = .ok (.iaload, 1) := by decide +kernel
theorem dX9_balance_36 : decode cX9_balance 36 = .ok (.bipush 100, 2) := by decide +kernel
theorem dX9_balance_38 : decode cX9_balance 38 = .ok (.iadd, 1) := by decide +kernel
theorem dX9_balance_39 : decode cX9_balance 39 = .ok (.goto 5, 3) := by decide +kernel
theorem dX9_balance_42 : decode cX9_balance 42 = .ok (.bipush (-2), 2) := by decide +kernel
theorem dX9_balance_44 : decode cX9_balance 44 = .ok (.ireturn, 1) := by decide +kernel
theorem dX9_setWeight_0 : decode cX9_setWeight 0 = .ok (.aload_n 0, 1) := by decide +kernel
theorem dX9_setWeight_1 : decode cX9_setWeight 1 = .ok (.getfield 14, 3) := by decide +kernel
theorem dX9_setWeight_4 : decode cX9_setWeight 4 = .ok (.iload_n 1, 1) := by decide +kernel
theorem dX9_setWeight_5 : decode cX9_setWeight 5 = .ok (.invokevirtual 128, 3) := by decide +kernel
theorem dX9_setWeight_8 : decode cX9_setWeight 8 = .ok (.ifCond .ne 6, 3) := by decide +kernel
theorem dX9_setWeight_11 : decode cX9_setWeight 11 = .ok (.bipush (-2), 2) := by decide +kernel
theorem dX9_setWeight_13 : decode cX9_setWeight 13 = .ok (.ireturn, 1) := by decide +kernel
theorem dX9_setWeight_14 : decode cX9_setWeight 14 = .ok (.iload_n 2, 1) := by decide +kernel
theorem dX9_setWeight_15 : decode cX9_setWeight 15 = .ok (.ifCond .lt 9, 3) := by decide +kernel
theorem dX9_setWeight_18 : decode cX9_setWeight 18 = .ok (.iload_n 2, 1) := by decide +kernel
theorem dX9_setWeight_19 : decode cX9_setWeight 19 = .ok (.bipush 99, 2) := by decide +kernel
theorem dX9_setWeight_21 : decode cX9_setWeight 21 = .ok (.if_icmp .le 5, 3) := by decide +kernel
theorem dX9_setWeight_24 : decode cX9_setWeight 24 = .ok (.iconst (-1), 1) := by decide +kernel
theorem dX9_setWeight_25 : decode cX9_setWeight 25 = .ok (.ireturn, 1) := by decide +kernel
theorem dX9_setWeight_26 : decode cX9_setWeight 26 = .ok (.aload_n 0, 1) := by decide +kernel
theorem dX9_setWeight_27 : decode cX9_setWeight 27 = .ok (.getfield 14, 3) := by decide +kernel
theorem dX9_setWeight_30 : decode cX9_setWeight 30 = .ok (.getfield 135, 3) := by decide +kernel
theorem dX9_setWeight_33 : decode cX9_setWeight 33 = .ok (.iload_n 1, 1) := by decide +kernel
theorem dX9_setWeight_34 : decode cX9_setWeight 34 = .ok (.iaload, 1) := by decide +kernel
theorem dX9_setWeight_35 : decode cX9_setWeight 35 = .ok (.istore_n 3, 1) := by decide +kernel
theorem dX9_setWeight_36 : decode cX9_setWeight 36 = .ok (.aload_n 0, 1) := by decide +kernel
theorem dX9_setWeight_37 : decode cX9_setWeight 37 = .ok (.getfield 14, 3) := by decide +kernel
theorem dX9_setWeight_40 : decode cX9_setWeight 40 = .ok (.getfield 135, 3) := by decide +kernel
theorem dX9_setWeight_43 : decode cX9_setWeight 43 = .ok (.iload_n 1, 1) := by decide +kernel
theorem dX9_setWeight_44 : decode cX9_setWeight 44 = .ok (.iload_n 2, 1) := by decide +kernel
theorem dX9_setWeight_45 : decode cX9_setWeight 45 = .ok (.iastore, 1) := by decide +kernel
theorem dX9_setWeight_46 : decode cX9_setWeight 46 = .ok (.iload_n 3, 1) := by decide +kernel
theorem dX9_setWeight_47 : decode cX9_setWeight 47 = .ok (.ireturn, 1) := by decide +kernel
theorem dX9_weight_0 : decode cX9_weight 0 = .ok (.aload_n 0, 1) := by decide +kernel
theorem dX9_weight_1 : decode cX9_weight 1 = .ok (.getfield 14, 3) := by decide +kernel
theorem dX9_weight_4 : decode cX9_weight 4 = .ok (.iload_n 1, 1) := by decide +kernel
theorem dX9_weight_5 : decode cX9_weight 5 = .ok (.invokevirtual 128, 3) := by decide +kernel
theorem dX9_weight_8 : decode cX9_weight 8 = .ok (.ifCond .eq 15, 3) := by decide +kernel
theorem dX9_weight_11 : decode cX9_weight 11 = .ok (.aload_n 0, 1) := by decide +kernel
theorem dX9_weight_12 : decode cX9_weight 12 = .ok (.getfield 14, 3) := by decide +kernel
theorem dX9_weight_15 : decode cX9_weight 15 = .ok (.getfield 135, 3) := by decide +kernel
theorem dX9_weight_18 : decode cX9_weight 18 = .ok (.iload_n 1, 1) := by decide +kernel
theorem dX9_weight_19 : decode cX9_weight 19 = .ok (.iaload, 1) := by decide +kernel
theorem dX9_weight_20 : decode cX9_weight 20 = .ok (.goto 5, 3) := by decide +kernel
theorem dX9_weight_23 : decode cX9_weight 23 = .ok (.bipush (-2), 2) := by decide +kernel
theorem dX9_weight_25 : decode cX9_weight 25 = .ok (.ireturn, 1) := by decide +kernel
theorem dX9_setLevel_0 : decode cX9_setLevel 0 = .ok (.aload_n 0, 1) := by decide +kernel
theorem dX9_setLevel_1 : decode cX9_setLevel 1 = .ok (.getfield 14, 3) := by decide +kernel
theorem dX9_setLevel_4 : decode cX9_setLevel 4 = .ok (.iload_n 1, 1) := by decide +kernel
theorem dX9_setLevel_5 : decode cX9_setLevel 5 = .ok (.invokevirtual 128, 3) := by decide +kernel
theorem dX9_setLevel_8 : decode cX9_setLevel 8 = .ok (.ifCond .ne 6, 3) := by decide +kernel
theorem dX9_setLevel_11 : decode cX9_setLevel 11 = .ok (.bipush (-2), 2) := by decide +kernel
theorem dX9_setLevel_13 : decode cX9_setLevel 13 = .ok (.ireturn, 1) := by decide +kernel
theorem dX9_setLevel_14 : decode cX9_setLevel 14 = .ok (.iload_n 2, 1) := by decide +kernel
theorem dX9_setLevel_15 : decode cX9_setLevel 15 = .ok (.ifCond .lt 9, 3) := by decide +kernel
theorem dX9_setLevel_18 : decode cX9_setLevel 18 = .ok (.iload_n 2, 1) := by decide +kernel
theorem dX9_setLevel_19 : decode cX9_setLevel 19 = .ok (.bipush 9, 2) := by decide +kernel
theorem dX9_setLevel_21 : decode cX9_setLevel 21 = .ok (.if_icmp .le 5, 3) := by decide +kernel
theorem dX9_setLevel_24 : decode cX9_setLevel 24 = .ok (.iconst (-1), 1) := by decide +kernel
theorem dX9_setLevel_25 : decode cX9_setLevel 25 = .ok (.ireturn, 1) := by decide +kernel
theorem dX9_setLevel_26 : decode cX9_setLevel 26 = .ok (.aload_n 0, 1) := by decide +kernel
theorem dX9_setLevel_27 : decode cX9_setLevel 27 = .ok (.getfield 14, 3) := by decide +kernel
theorem dX9_setLevel_30 : decode cX9_setLevel 30 = .ok (.getfield 138, 3) := by decide +kernel
theorem dX9_setLevel_33 : decode cX9_setLevel 33 = .ok (.iload_n 1, 1) := by decide +kernel
theorem dX9_setLevel_34 : decode cX9_setLevel 34 = .ok (.iaload, 1) := by decide +kernel
theorem dX9_setLevel_35 : decode cX9_setLevel 35 = .ok (.istore_n 3, 1) := by decide +kernel
theorem dX9_setLevel_36 : decode cX9_setLevel 36 = .ok (.aload_n 0, 1) := by decide +kernel
theorem dX9_setLevel_37 : decode cX9_setLevel 37 = .ok (.getfield 14, 3) := by decide +kernel
theorem dX9_setLevel_40 : decode cX9_setLevel 40 = .ok (.getfield 138, 3) := by decide +kernel
theorem dX9_setLevel_43 : decode cX9_setLevel 43 = .ok (.iload_n 1, 1) := by decide +kernel
theorem dX9_setLevel_44 : decode cX9_setLevel 44 = .ok (.iload_n 2, 1) := by decide +kernel
theorem dX9_setLevel_45 : decode cX9_setLevel 45 = .ok (.iastore, 1) := by decide +kernel
theorem dX9_setLevel_46 : decode cX9_setLevel 46 = .ok (.iload_n 3, 1) := by decide +kernel
theorem dX9_setLevel_47 : decode cX9_setLevel 47 = .ok (.ireturn, 1) := by decide +kernel
theorem dX9_level_0 : decode cX9_level 0 = .ok (.aload_n 0, 1) := by decide +kernel
theorem dX9_level_1 : decode cX9_level 1 = .ok (.getfield 14, 3) := by decide +kernel
theorem dX9_level_4 : decode cX9_level 4 = .ok (.iload_n 1, 1) := by decide +kernel
theorem dX9_level_5 : decode cX9_level 5 = .ok (.invokevirtual 128, 3) := by decide +kernel
theorem dX9_level_8 : decode cX9_level 8 = .ok (.ifCond .eq 15, 3) := by decide +kernel
theorem dX9_level_11 : decode cX9_level 11 = .ok (.aload_n 0, 1) := by decide +kernel
theorem dX9_level_12 : decode cX9_level 12 = .ok (.getfield 14, 3) := by decide +kernel
theorem dX9_level_15 : decode cX9_level 15 = .ok (.getfield 138, 3) := by decide +kernel
theorem dX9_level_18 : decode cX9_level 18 = .ok (.iload_n 1, 1) := by decide +kernel
theorem dX9_level_19 : decode cX9_level 19 = .ok (.iaload, 1) := by decide +kernel
theorem dX9_level_20 : decode cX9_level 20 = .ok (.goto 5, 3) := by decide +kernel
theorem dX9_level_23 : decode cX9_level 23 = .ok (.bipush (-2), 2) := by decide +kernel
theorem dX9_level_25 : decode cX9_level 25 = .ok (.ireturn, 1) := by decide +kernel
theorem dX9_setStatus_0 : decode cX9_setStatus 0 = .ok (.iload_n 1, 1) := by decide +kernel
theorem dX9_setStatus_1 : decode cX9_setStatus 1 = .ok (.ifCond .lt 8, 3) := by decide +kernel
theorem dX9_setStatus_4 : decode cX9_setStatus 4 = .ok (.iload_n 1, 1) := by decide +kernel
theorem dX9_setStatus_5 : decode cX9_setStatus 5 = .ok (.iconst 1, 1) := by decide +kernel
theorem dX9_setStatus_6 : decode cX9_setStatus 6 = .ok (.if_icmp .le 5, 3) := by decide +kernel
theorem dX9_setStatus_9 : decode cX9_setStatus 9 = .ok (.iconst (-1), 1) := by decide +kernel
theorem dX9_setStatus_10 : decode cX9_setStatus 10 = .ok (.ireturn, 1) := by decide +kernel
theorem dX9_setStatus_11 : decode cX9_setStatus 11 = .ok (.aload_n 0, 1) := by decide +kernel
theorem dX9_setStatus_12 : decode cX9_setStatus 12 = .ok (.getfield 14, 3) := by decide +kernel
theorem dX9_setStatus_15 : decode cX9_setStatus 15 = .ok (.getfield 141, 3) := by decide +kernel
theorem dX9_setStatus_18 : decode cX9_setStatus 18 = .ok (.istore_n 2, 1) := by decide +kernel
theorem dX9_setStatus_19 : decode cX9_setStatus 19 = .ok (.aload_n 0, 1) := by decide +kernel
theorem dX9_setStatus_20 : decode cX9_setStatus 20 = .ok (.getfield 14, 3) := by decide +kernel
theorem dX9_setStatus_23 : decode cX9_setStatus 23 = .ok (.iload_n 1, 1) := by decide +kernel
theorem dX9_setStatus_24 : decode cX9_setStatus 24 = .ok (.putfield 141, 3) := by decide +kernel
theorem dX9_setStatus_27 : decode cX9_setStatus 27 = .ok (.iload_n 2, 1) := by decide +kernel
theorem dX9_setStatus_28 : decode cX9_setStatus 28 = .ok (.ireturn, 1) := by decide +kernel
theorem dX9_isAdmissible_0 : decode cX9_isAdmissible 0 = .ok (.aload_n 0, 1) := by decide +kernel
theorem dX9_isAdmissible_1 : decode cX9_isAdmissible 1 = .ok (.getfield 14, 3) := by decide +kernel
theorem dX9_isAdmissible_4 : decode cX9_isAdmissible 4 = .ok (.invokevirtual 144, 3) := by decide +kernel
theorem dX9_isAdmissible_7 : decode cX9_isAdmissible 7 = .ok (.ifCond .eq 7, 3) := by decide +kernel
theorem dX9_isAdmissible_10 : decode cX9_isAdmissible 10 = .ok (.iconst 1, 1) := by decide +kernel
theorem dX9_isAdmissible_11 : decode cX9_isAdmissible 11 = .ok (.goto 4, 3) := by decide +kernel
theorem dX9_isAdmissible_14 : decode cX9_isAdmissible 14 = .ok (.iconst 0, 1) := by decide +kernel
theorem dX9_isAdmissible_15 : decode cX9_isAdmissible 15 = .ok (.ireturn, 1) := by decide +kernel
theorem dX9_compareSides_0 : decode cX9_compareSides 0 = .ok (.aload_n 0, 1) := by decide +kernel
theorem dX9_compareSides_1 : decode cX9_compareSides 1 = .ok (.getfield 14, 3) := by decide +kernel
theorem dX9_compareSides_4 : decode cX9_compareSides 4 = .ok (.iload_n 1, 1) := by decide +kernel
theorem dX9_compareSides_5 : decode cX9_compareSides 5 = .ok (.invokevirtual 110, 3) := by decide +kernel
theorem dX9_compareSides_8 : decode cX9_compareSides 8 = .ok (.ifCond .eq 31, 3) := by decide +kernel
theorem dX9_compareSides_11 : decode cX9_compareSides 11 = .ok (.aload_n 0, 1) := by decide +kernel
theorem dX9_compareSides_12 : decode cX9_compareSides 12 = .ok (.getfield 14, 3) := by decide +kernel
theorem dX9_compareSides_15 : decode cX9_compareSides 15 = .ok (.aload_n 0, 1) := by decide +kernel
theorem dX9_compareSides_16 : decode cX9_compareSides 16 = .ok (.getfield 14, 3) := by decide +kernel
theorem dX9_compareSides_19 : decode cX9_compareSides 19 = .ok (.getfield 117, 3) := by decide +kernel
theorem dX9_compareSides_22 : decode cX9_compareSides 22 = .ok (.iload_n 1, 1) := by decide +kernel
theorem dX9_compareSides_23 : decode cX9_compareSides 23 = .ok (.laload, 1) := by decide +kernel
theorem dX9_compareSides_24 : decode cX9_compareSides 24 = .ok (.aload_n 0, 1) := by decide +kernel
theorem dX9_compareSides_25 : decode cX9_compareSides 25 = .ok (.getfield 14, 3) := by decide +kernel
theorem dX9_compareSides_28 : decode cX9_compareSides 28 = .ok (.getfield 121, 3) := by decide +kernel
theorem dX9_compareSides_31 : decode cX9_compareSides 31 = .ok (.iload_n 1, 1) := by decide +kernel
theorem dX9_compareSides_32 : decode cX9_compareSides 32 = .ok (.laload, 1) := by decide +kernel
theorem dX9_compareSides_33 : decode cX9_compareSides 33 = .ok (.invokevirtual 148, 3) := by decide +kernel
theorem dX9_compareSides_36 : decode cX9_compareSides 36 = .ok (.goto 5, 3) := by decide +kernel
theorem dX9_compareSides_39 : decode cX9_compareSides 39 = .ok (.bipush (-3), 2) := by decide +kernel
theorem dX9_compareSides_41 : decode cX9_compareSides 41 = .ok (.ireturn, 1) := by decide +kernel
theorem dX9_compareWithInput_0 : decode cX9_compareWithInput 0 = .ok (.aload_n 0, 1) := by decide +kernel
theorem dX9_compareWithInput_1 : decode cX9_compareWithInput 1 = .ok (.invokevirtual 151, 3) := by decide +kernel
theorem dX9_compareWithInput_4 : decode cX9_compareWithInput 4 = .ok (.lstore_n 1, 1) := by decide +kernel
theorem dX9_compareWithInput_5 : decode cX9_compareWithInput 5 = .ok (.lload_n 1, 1) := by decide +kernel
theorem dX9_compareWithInput_6 : decode cX9_compareWithInput 6 = .ok (.ldc2_w 104, 3) := by decide +kernel
theorem dX9_compareWithInput_9 : decode cX9_compareWithInput 9 = .ok (.lcmp, 1) := by decide +kernel
theorem dX9_compareWithInput_10 : decode cX9_compareWithInput 10 = .ok (.ifCond .ne 8, 3) := by decide +kernel
theorem dX9_compareWithInput_13 : decode cX9_compareWithInput 13 = .ok (.bipush (-5), 2) := by decide +kernel
theorem dX9_compareWithInput_15 : decode cX9_compareWithInput 15 = .ok (.goto 18, 3) := by decide +kernel
theorem dX9_compareWithInput_18 : decode cX9_compareWithInput 18 = .ok (.aload_n 0, 1) := by decide +kernel
theorem dX9_compareWithInput_19 : decode cX9_compareWithInput 19 = .ok (.getfield 14, 3) := by decide +kernel
theorem dX9_compareWithInput_22 : decode cX9_compareWithInput 22 = .ok (.aload_n 0, 1) := by decide +kernel
theorem dX9_compareWithInput_23 : decode cX9_compareWithInput 23 = .ok (.getfield 14, 3) := by decide +kernel
theorem dX9_compareWithInput_26 : decode cX9_compareWithInput 26 = .ok (.getfield 155, 3) := by decide +kernel
theorem dX9_compareWithInput_29 : decode cX9_compareWithInput 29 = .ok (.lload_n 1, 1) := by decide +kernel
theorem dX9_compareWithInput_30 : decode cX9_compareWithInput 30 = .ok (.invokevirtual 148, 3) := by decide +kernel
theorem dX9_compareWithInput_33 : decode cX9_compareWithInput 33 = .ok (.ireturn, 1) := by decide +kernel
theorem dX9_firstUnoriented_0 : decode cX9_firstUnoriented 0 = .ok (.iconst 0, 1) := by decide +kernel
theorem dX9_firstUnoriented_1 : decode cX9_firstUnoriented 1 = .ok (.istore_n 1, 1) := by decide +kernel
theorem dX9_firstUnoriented_2 : decode cX9_firstUnoriented 2 = .ok (.iload_n 1, 1) := by decide +kernel
theorem dX9_firstUnoriented_3 : decode cX9_firstUnoriented 3 = .ok (.aload_n 0, 1) := by decide +kernel
theorem dX9_firstUnoriented_4 : decode cX9_firstUnoriented 4 = .ok (.getfield 14, 3) := by decide +kernel
theorem dX9_firstUnoriented_7 : decode cX9_firstUnoriented 7 = .ok (.getfield 93, 3) := by decide +kernel
theorem dX9_firstUnoriented_10 : decode cX9_firstUnoriented 10 = .ok (.if_icmp .ge 40, 3) := by decide +kernel
theorem dX9_firstUnoriented_13 : decode cX9_firstUnoriented 13 = .ok (.aload_n 0, 1) := by decide +kernel
theorem dX9_firstUnoriented_14 : decode cX9_firstUnoriented 14 = .ok (.getfield 14, 3) := by decide +kernel
theorem dX9_firstUnoriented_17 : decode cX9_firstUnoriented 17 = .ok (.aload_n 0, 1) := by decide +kernel
theorem dX9_firstUnoriented_18 : decode cX9_firstUnoriented 18 = .ok (.getfield 14, 3) := by decide +kernel
theorem dX9_firstUnoriented_21 : decode cX9_firstUnoriented 21 = .ok (.getfield 117, 3) := by decide +kernel
theorem dX9_firstUnoriented_24 : decode cX9_firstUnoriented 24 = .ok (.iload_n 1, 1) := by decide +kernel
theorem dX9_firstUnoriented_25 : decode cX9_firstUnoriented 25 = .ok (.laload, 1) := by decide +kernel
theorem dX9_firstUnoriented_26 : decode cX9_firstUnoriented 26 = .ok (.aload_n 0, 1) := by decide +kernel
theorem dX9_firstUnoriented_27 : decode cX9_firstUnoriented 27 = .ok (.getfield 14, 3) := by decide +kernel
theorem dX9_firstUnoriented_30 : decode cX9_firstUnoriented 30 = .ok (.getfield 121, 3) := by decide +kernel
theorem dX9_firstUnoriented_33 : decode cX9_firstUnoriented 33 = .ok (.iload_n 1, 1) := by decide +kernel
theorem dX9_firstUnoriented_34 : decode cX9_firstUnoriented 34 = .ok (.laload, 1) := by decide +kernel
theorem dX9_firstUnoriented_35 : decode cX9_firstUnoriented 35 = .ok (.invokevirtual 148, 3) := by decide +kernel
theorem dX9_firstUnoriented_38 : decode cX9_firstUnoriented 38 = .ok (.iconst 2, 1) := by decide +kernel
theorem dX9_firstUnoriented_39 : decode cX9_firstUnoriented 39 = .ok (.if_icmp .eq 5, 3) := by decide +kernel
theorem dX9_firstUnoriented_42 : decode cX9_firstUnoriented 42 = .ok (.iload_n 1, 1) := by decide +kernel
theorem dX9_firstUnoriented_43 : decode cX9_firstUnoriented 43 = .ok (.ireturn, 1) := by decide +kernel
theorem dX9_firstUnoriented_44 : decode cX9_firstUnoriented 44 = .ok (.iinc 1 1, 3) := by decide +kernel
theorem dX9_firstUnoriented_47 : decode cX9_firstUnoriented 47 = .ok (.goto (-45), 3) := by decide +kernel
theorem dX9_firstUnoriented_50 : decode cX9_firstUnoriented 50 = .ok (.bipush (-6), 2) := by decide +kernel
theorem dX9_firstUnoriented_52 : decode cX9_firstUnoriented 52 = .ok (.ireturn, 1) := by decide +kernel
theorem dX9_findWeights_0 : decode cX9_findWeights 0 = .ok (.iload_n 1, 1) := by decide +kernel
theorem dX9_findWeights_1 : decode cX9_findWeights 1 = .ok (.iconst 1, 1) := by decide +kernel
theorem dX9_findWeights_2 : decode cX9_findWeights 2 = .ok (.if_icmp .lt 9, 3) := by decide +kernel
theorem dX9_findWeights_5 : decode cX9_findWeights 5 = .ok (.iload_n 1, 1) := by decide +kernel
theorem dX9_findWeights_6 : decode cX9_findWeights 6 = .ok (.bipush 6, 2) := by decide +kernel
theorem dX9_findWeights_8 : decode cX9_findWeights 8 = .ok (.if_icmp .le 5, 3) := by decide +kernel
theorem dX9_findWeights_11 : decode cX9_findWeights 11 = .ok (.iconst (-1), 1) := by decide +kernel
theorem dX9_findWeights_12 : decode cX9_findWeights 12 = .ok (.ireturn, 1) := by decide +kernel
theorem dX9_findWeights_13 : decode cX9_findWeights 13 = .ok (.aload_n 0, 1) := by decide +kernel
theorem dX9_findWeights_14 : decode cX9_findWeights 14 = .ok (.getfield 49, 3) := by decide +kernel
theorem dX9_findWeights_17 : decode cX9_findWeights 17 = .ok (.aload_n 0, 1) := by decide +kernel
theorem dX9_findWeights_18 : decode cX9_findWeights 18 = .ok (.getfield 14, 3) := by decide +kernel
theorem dX9_findWeights_21 : decode cX9_findWeights 21 = .ok (.iload_n 1, 1) := by decide +kernel
theorem dX9_findWeights_22 : decode cX9_findWeights 22 = .ok (.invokevirtual 159, 3) := by decide +kernel
theorem dX9_findWeights_25 : decode cX9_findWeights 25 = .ok (.aload_n 0, 1) := by decide +kernel
theorem dX9_findWeights_26 : decode cX9_findWeights 26 = .ok (.getfield 49, 3) := by decide +kernel
theorem dX9_findWeights_29 : decode cX9_findWeights 29 = .ok (.aload_n 0, 1) := by decide +kernel
theorem dX9_findWeights_30 : decode cX9_findWeights 30 = .ok (.getfield 14, 3) := by decide +kernel
theorem dX9_findWeights_33 : decode cX9_findWeights 33 = .ok (.getfield 71, 3) := by decide +kernel
theorem dX9_findWeights_36 : decode cX9_findWeights 36 = .ok (.iload_n 1, 1) := by decide +kernel
theorem dX9_findWeights_37 : decode cX9_findWeights 37 = .ok (.invokevirtual 163, 3) := by decide +kernel
theorem dX9_findWeights_40 : decode cX9_findWeights 40 = .ok (.ifCond .ne 6, 3) := by decide +kernel
theorem dX9_findWeights_43 : decode cX9_findWeights 43 = .ok (.bipush (-6), 2) := by decide +kernel
theorem dX9_findWeights_45 : decode cX9_findWeights 45 = .ok (.ireturn, 1) := by decide +kernel
theorem dX9_findWeights_46 : decode cX9_findWeights 46 = .ok (.iconst 0, 1) := by decide +kernel
theorem dX9_findWeights_47 : decode cX9_findWeights 47 = .ok (.istore_n 2, 1) := by decide +kernel
theorem dX9_findWeights_48 : decode cX9_findWeights 48 = .ok (.iconst 0, 1) := by decide +kernel
theorem dX9_findWeights_49 : decode cX9_findWeights 49 = .ok (.istore_n 3, 1) := by decide +kernel
theorem dX9_findWeights_50 : decode cX9_findWeights 50 = .ok (.iload_n 3, 1) := by decide +kernel
theorem dX9_findWeights_51 : decode cX9_findWeights 51 = .ok (.aload_n 0, 1) := by decide +kernel
theorem dX9_findWeights_52 : decode cX9_findWeights 52 = .ok (.getfield 14, 3) := by decide +kernel
theorem dX9_findWeights_55 : decode cX9_findWeights 55 = .ok (.getfield 71, 3) := by decide +kernel
theorem dX9_findWeights_58 : decode cX9_findWeights 58 = .ok (.if_icmp .ge 39, 3) := by decide +kernel
theorem dX9_findWeights_61 : decode cX9_findWeights 61 = .ok (.aload_n 0, 1) := by decide +kernel
theorem dX9_findWeights_62 : decode cX9_findWeights 62 = .ok (.getfield 14, 3) := by decide +kernel
theorem dX9_findWeights_65 : decode cX9_findWeights 65 = .ok (.getfield 135, 3) := by decide +kernel
theorem dX9_findWeights_68 : decode cX9_findWeights 68 = .ok (.iload_n 3, 1) := by decide +kernel
theorem dX9_findWeights_69 : decode cX9_findWeights 69 = .ok (.aload_n 0, 1) := by decide +kernel
theorem dX9_findWeights_70 : decode cX9_findWeights 70 = .ok (.getfield 49, 3) := by decide +kernel
theorem dX9_findWeights_73 : decode cX9_findWeights 73 = .ok (.getfield 166, 3) := by decide +kernel
theorem dX9_findWeights_76 : decode cX9_findWeights 76 = .ok (.iload_n 3, 1) := by decide +kernel
theorem dX9_findWeights_77 : decode cX9_findWeights 77 = .ok (.iaload, 1) := by decide +kernel
theorem dX9_findWeights_78 : decode cX9_findWeights 78 = .ok (.iastore, 1) := by decide +kernel
theorem dX9_findWeights_79 : decode cX9_findWeights 79 = .ok (.iload_n 2, 1) := by decide +kernel
theorem dX9_findWeights_80 : decode cX9_findWeights 80 = .ok (.aload_n 0, 1) := by decide +kernel
theorem dX9_findWeights_81 : decode cX9_findWeights 81 = .ok (.getfield 49, 3) := by decide +kernel
theorem dX9_findWeights_84 : decode cX9_findWeights 84 = .ok (.getfield 166, 3) := by decide +kernel
theorem dX9_findWeights_87 : decode cX9_findWeights 87 = .ok (.iload_n 3, 1) := by decide +kernel
theorem dX9_findWeights_88 : decode cX9_findWeights 88 = .ok (.iaload, 1) := by decide +kernel
theorem dX9_findWeights_89 : decode cX9_findWeights 89 = .ok (.iadd, 1) := by decide +kernel
theorem dX9_findWeights_90 : decode cX9_findWeights 90 = .ok (.istore_n 2, 1) := by decide +kernel
theorem dX9_findWeights_91 : decode cX9_findWeights 91 = .ok (.iinc 3 1, 3) := by decide +kernel
theorem dX9_findWeights_94 : decode cX9_findWeights 94 = .ok (.goto (-44), 3) := by decide +kernel
theorem dX9_findWeights_97 : decode cX9_findWeights 97 = .ok (.iload_n 2, 1) := by decide +kernel
theorem dX9_findWeights_98 : decode cX9_findWeights 98 = .ok (.ireturn, 1) := by decide +kernel
theorem dX9_findCertificate_0 : decode cX9_findCertificate 0 = .ok (.aload_n 0, 1) := by decide +kernel
theorem dX9_findCertificate_1 : decode cX9_findCertificate 1 = .ok (.getfield 49, 3) := by decide +kernel
theorem dX9_findCertificate_4 : decode cX9_findCertificate 4 = .ok (.aload_n 0, 1) := by decide +kernel
theorem dX9_findCertificate_5 : decode cX9_findCertificate 5 = .ok (.getfield 14, 3) := by decide +kernel
theorem dX9_findCertificate_8 : decode cX9_findCertificate 8 = .ok (.iconst 3, 1) := by decide +kernel
theorem dX9_findCertificate_9 : decode cX9_findCertificate 9 = .ok (.invokevirtual 169, 3) := by decide +kernel
theorem dX9_findCertificate_12 : decode cX9_findCertificate 12 = .ok (.aload_n 0, 1) := by decide +kernel
theorem dX9_findCertificate_13 : decode cX9_findCertificate 13 = .ok (.getfield 49, 3) := by decide +kernel
theorem dX9_findCertificate_16 : decode cX9_findCertificate 16 = .ok (.aload_n 0, 1) := by decide +kernel
theorem dX9_findCertificate_17 : decode cX9_findCertificate 17 = .ok (.getfield 14, 3) := by decide +kernel
theorem dX9_findCertificate_20 : decode cX9_findCertificate 20 = .ok (.getfield 93, 3) := by decide +kernel
theorem dX9_findCertificate_23 : decode cX9_findCertificate 23 = .ok (.iconst 3, 1) := by decide +kernel
theorem dX9_findCertificate_24 : decode cX9_findCertificate 24 = .ok (.invokevirtual 163, 3) := by decide +kernel
theorem dX9_findCertificate_27 : decode cX9_findCertificate 27 = .ok (.ifCond .ne 6, 3) := by decide +kernel
theorem dX9_findCertificate_30 : decode cX9_findCertificate 30 = .ok (.bipush (-6), 2) := by decide +kernel
theorem dX9_findCertificate_32 : decode cX9_findCertificate 32 = .ok (.ireturn, 1) := by decide +kernel
theorem dX9_findCertificate_33 : decode cX9_findCertificate 33 = .ok (.iconst 0, 1) := by decide +kernel
theorem dX9_findCertificate_34 : decode cX9_findCertificate 34 = .ok (.istore_n 1, 1) := by decide +kernel
theorem dX9_findCertificate_35 : decode cX9_findCertificate 35 = .ok (.iconst 0, 1) := by decide +kernel
theorem dX9_findCertificate_36 : decode cX9_findCertificate 36 = .ok (.istore_n 2, 1) := by decide +kernel
theorem dX9_findCertificate_37 : decode cX9_findCertificate 37 = .ok (.iload_n 2, 1) := by decide +kernel
theorem dX9_findCertificate_38 : decode cX9_findCertificate 38 = .ok (.aload_n 0, 1) := by decide +kernel
theorem dX9_findCertificate_39 : decode cX9_findCertificate 39 = .ok (.getfield 14, 3) := by decide +kernel
theorem dX9_findCertificate_42 : decode cX9_findCertificate 42 = .ok (.getfield 93, 3) := by decide +kernel
theorem dX9_findCertificate_45 : decode cX9_findCertificate 45 = .ok (.if_icmp .ge 23, 3) := by decide +kernel
theorem dX9_findCertificate_48 : decode cX9_findCertificate 48 = .ok (.iconst 4, 1) := by decide +kernel
theorem dX9_findCertificate_49 : decode cX9_findCertificate 49 = .ok (.iload_n 1, 1) := by decide +kernel
theorem dX9_findCertificate_50 : decode cX9_findCertificate 50 = .ok (.imul, 1) := by decide +kernel
theorem dX9_findCertificate_51 : decode cX9_findCertificate 51 = .ok (.aload_n 0, 1) := by decide +kernel
theorem dX9_findCertificate_52 : decode cX9_findCertificate 52 = .ok (.getfield 49, 3) := by decide +kernel
theorem dX9_findCertificate_55 : decode cX9_findCertificate 55 = .ok (.getfield 166, 3) := by decide +kernel
theorem dX9_findCertificate_58 : decode cX9_findCertificate 58 = .ok (.iload_n 2, 1) := by decide +kernel
theorem dX9_findCertificate_59 : decode cX9_findCertificate 59 = .ok (.iaload, 1) := by decide +kernel
theorem dX9_findCertificate_60 : decode cX9_findCertificate 60 = .ok (.iadd, 1) := by decide +kernel
theorem dX9_findCertificate_61 : decode cX9_findCertificate 61 = .ok (.istore_n 1, 1) := by decide +kernel
theorem dX9_findCertificate_62 : decode cX9_findCertificate 62 = .ok (.iinc 2 1, 3) := by decide +kernel
theorem dX9_findCertificate_65 : decode cX9_findCertificate 65 = .ok (.goto (-28), 3) := by decide +kernel
theorem dX9_findCertificate_68 : decode cX9_findCertificate 68 = .ok (.iload_n 1, 1) := by decide +kernel
theorem dX9_findCertificate_69 : decode cX9_findCertificate 69 = .ok (.ireturn, 1) := by decide +kernel
theorem dX9_findLevels_0 : decode cX9_findLevels 0 = .ok (.aload_n 0, 1) := by decide +kernel
theorem dX9_findLevels_1 : decode cX9_findLevels 1 = .ok (.getfield 56, 3) := by decide +kernel
theorem dX9_findLevels_4 : decode cX9_findLevels 4 = .ok (.aload_n 0, 1) := by decide +kernel
theorem dX9_findLevels_5 : decode cX9_findLevels 5 = .ok (.getfield 14, 3) := by decide +kernel
theorem dX9_findLevels_8 : decode cX9_findLevels 8 = .ok (.aload_n 0, 1) := by decide +kernel
theorem dX9_findLevels_9 : decode cX9_findLevels 9 = .ok (.getfield 14, 3) := by decide +kernel
theorem dX9_findLevels_12 : decode cX9_findLevels 12 = .ok (.getfield 135, 3) := by decide +kernel
theorem dX9_findLevels_15 : decode cX9_findLevels 15 = .ok (.invokevirtual 172, 3) := by decide +kernel
theorem dX9_findLevels_18 : decode cX9_findLevels 18 = .ok (.ifCond .eq 20, 3) := by decide +kernel
theorem dX9_findLevels_21 : decode cX9_findLevels 21 = .ok (.aload_n 0, 1) := by decide +kernel
theorem dX9_findLevels_22 : decode cX9_findLevels 22 = .ok (.getfield 56, 3) := by decide +kernel
theorem dX9_findLevels_25 : decode cX9_findLevels 25 = .ok (.aload_n 0, 1) := by decide +kernel
theorem dX9_findLevels_26 : decode cX9_findLevels 26 = .ok (.getfield 14, 3) := by decide +kernel
theorem dX9_findLevels_29 : decode cX9_findLevels 29 = .ok (.getfield 141, 3) := by decide +kernel
theorem dX9_findLevels_32 : decode cX9_findLevels 32 = .ok (.invokevirtual 176, 3) := by decide +kernel
theorem dX9_findLevels_35 : decode cX9_findLevels 35 = .ok (.ifCond .ne 6, 3) := by decide +kernel
theorem dX9_findLevels_38 : decode cX9_findLevels 38 = .ok (.bipush (-6), 2) := by decide +kernel
theorem dX9_findLevels_40 : decode cX9_findLevels 40 = .ok (.ireturn, 1) := by decide +kernel
theorem dX9_findLevels_41 : decode cX9_findLevels 41 = .ok (.aload_n 0, 1) := by decide +kernel
theorem dX9_findLevels_42 : decode cX9_findLevels 42 = .ok (.invokevirtual 179, 3) := by decide +kernel
theorem dX9_findLevels_45 : decode cX9_findLevels 45 = .ok (.iconst 0, 1) := by decide +kernel
theorem dX9_findLevels_46 : decode cX9_findLevels 46 = .ok (.istore_n 1, 1) := by decide +kernel
theorem dX9_findLevels_47 : decode cX9_findLevels 47 = .ok (.aload_n 0, 1) := by decide +kernel
theorem dX9_findLevels_48 : decode cX9_findLevels 48 = .ok (.getfield 14, 3) := by decide +kernel
theorem dX9_findLevels_51 : decode cX9_findLevels 51 = .ok (.getfield 71, 3) := by decide +kernel
theorem dX9_findLevels_54 : decode cX9_findLevels 54 = .ok (.iconst 1, 1) := by decide +kernel
theorem dX9_findLevels_55 : decode cX9_findLevels 55 = .ok (.isub, 1) := by decide +kernel
theorem dX9_findLevels_56 : decode cX9_findLevels 56 = .ok (.istore_n 2, 1) := by decide +kernel
theorem dX9_findLevels_57 : decode cX9_findLevels 57 = .ok (.iload_n 2, 1) := by decide +kernel
theorem dX9_findLevels_58 : decode cX9_findLevels 58 = .ok (.ifCond .lt 24, 3) := by decide +kernel
theorem dX9_findLevels_61 : decode cX9_findLevels 61 = .ok (.bipush 10, 2) := by decide +kernel
theorem dX9_findLevels_63 : decode cX9_findLevels 63 = .ok (.iload_n 1, 1) := by decide +kernel
theorem dX9_findLevels_64 : decode cX9_findLevels 64 = .ok (.imul, 1) := by decide +kernel
theorem dX9_findLevels_65 : decode cX9_findLevels 65 = .ok (.aload_n 0, 1) := by decide +kernel
theorem dX9_findLevels_66 : decode cX9_findLevels 66 = .ok (.getfield 14, 3) := by decide +kernel
theorem dX9_findLevels_69 : decode cX9_findLevels 69 = .ok (.getfield 138, 3) := by decide +kernel
theorem dX9_findLevels_72 : decode cX9_findLevels 72 = .ok (.iload_n 2, 1) := by decide +kernel
theorem dX9_findLevels_73 : decode cX9_findLevels 73 = .ok (.iaload, 1) := by decide +kernel
theorem dX9_findLevels_74 : decode cX9_findLevels 74 = .ok (.iadd, 1) := by decide +kernel
theorem dX9_findLevels_75 : decode cX9_findLevels 75 = .ok (.istore_n 1, 1) := by decide +kernel
theorem dX9_findLevels_76 : decode cX9_findLevels 76 = .ok (.iinc 2 (-1), 3) := by decide +kernel
theorem dX9_findLevels_79 : decode cX9_findLevels 79 = .ok (.goto (-22), 3) := by decide +kernel
theorem dX9_findLevels_82 : decode cX9_findLevels 82 = .ok (.iload_n 1, 1) := by decide +kernel
theorem dX9_findLevels_83 : decode cX9_findLevels 83 = .ok (.ireturn, 1) := by decide +kernel
theorem dX9_findOrder_0 : decode cX9_findOrder 0 = .ok (.aload_n 0, 1) := by decide +kernel
theorem dX9_findOrder_1 : decode cX9_findOrder 1 = .ok (.getfield 14, 3) := by decide +kernel
theorem dX9_findOrder_4 : decode cX9_findOrder 4 = .ok (.getfield 71, 3) := by decide +kernel
theorem dX9_findOrder_7 : decode cX9_findOrder 7 = .ok (.iconst 4, 1) := by decide +kernel
theorem dX9_findOrder_8 : decode cX9_findOrder 8 = .ok (.if_icmp .le 6, 3) := by decide +kernel
theorem dX9_findOrder_11 : decode cX9_findOrder 11 = .ok (.bipush (-8), 2) := by decide +kernel
theorem dX9_findOrder_13 : decode cX9_findOrder 13 = .ok (.ireturn, 1) := by decide +kernel
theorem dX9_findOrder_14 : decode cX9_findOrder 14 = .ok (.iconst 1, 1) := by decide +kernel
theorem dX9_findOrder_15 : decode cX9_findOrder 15 = .ok (.istore_n 1, 1) := by decide +kernel
theorem dX9_findOrder_16 : decode cX9_findOrder 16 = .ok (.iconst 0, 1) := by decide +kernel
theorem dX9_findOrder_17 : decode cX9_findOrder 17 = .ok (.istore_n 2, 1) := by decide +kernel
theorem dX9_findOrder_18 : decode cX9_findOrder 18 = .ok (.iload_n 2, 1) := by decide +kernel
theorem dX9_findOrder_19 : decode cX9_findOrder 19 = .ok (.aload_n 0, 1) := by decide +kernel
theorem dX9_findOrder_20 : decode cX9_findOrder 20 = .ok (.getfield 14, 3) := by decide +kernel
theorem dX9_findOrder_23 : decode cX9_findOrder 23 = .ok (.getfield 71, 3) := by decide +kernel
theorem dX9_findOrder_26 : decode cX9_findOrder 26 = .ok (.if_icmp .ge 13, 3) := by decide +kernel
theorem dX9_findOrder_29 : decode cX9_findOrder 29 = .ok (.iload_n 1, 1) := by decide +kernel
theorem dX9_findOrder_30 : decode cX9_findOrder 30 = .ok (.iconst 3, 1) := by decide +kernel
theorem dX9_findOrder_31 : decode cX9_findOrder 31 = .ok (.imul, 1) := by decide +kernel
theorem dX9_findOrder_32 : decode cX9_findOrder 32 = .ok (.istore_n 1, 1) := by decide +kernel
theorem dX9_findOrder_33 : decode cX9_findOrder 33 = .ok (.iinc 2 1, 3) := by decide +kernel
theorem dX9_findOrder_36 : decode cX9_findOrder 36 = .ok (.goto (-18), 3) := by decide +kernel
theorem dX9_findOrder_39 : decode cX9_findOrder 39 = .ok (.iconst 0, 1) := by decide +kernel
theorem dX9_findOrder_40 : decode cX9_findOrder 40 = .ok (.istore_n 2, 1) := by decide +kernel
theorem dX9_findOrder_41 : decode cX9_findOrder 41 = .ok (.iload_n 2, 1) := by decide +kernel
theorem dX9_findOrder_42 : decode cX9_findOrder 42 = .ok (.iload_n 1, 1) := by decide +kernel
theorem dX9_findOrder_43 : decode cX9_findOrder 43 = .ok (.if_icmp .ge 69, 3) := by decide +kernel
theorem dX9_findOrder_46 : decode cX9_findOrder 46 = .ok (.aload_n 0, 1) := by decide +kernel
theorem dX9_findOrder_47 : decode cX9_findOrder 47 = .ok (.iload_n 2, 1) := by decide +kernel
theorem dX9_findOrder_48 : decode cX9_findOrder 48 = .ok (.invokevirtual 182, 3) := by decide +kernel
theorem dX9_findOrder_51 : decode cX9_findOrder 51 = .ok (.aload_n 0, 1) := by decide +kernel
theorem dX9_findOrder_52 : decode cX9_findOrder 52 = .ok (.getfield 56, 3) := by decide +kernel
theorem dX9_findOrder_55 : decode cX9_findOrder 55 = .ok (.aload_n 0, 1) := by decide +kernel
theorem dX9_findOrder_56 : decode cX9_findOrder 56 = .ok (.getfield 14, 3) := by decide +kernel
theorem dX9_findOrder_59 : decode cX9_findOrder 59 = .ok (.aload_n 0, 1) := by decide +kernel
theorem dX9_findOrder_60 : decode cX9_findOrder 60 = .ok (.getfield 60, 3) := by decide +kernel
theorem dX9_findOrder_63 : decode cX9_findOrder 63 = .ok (.invokevirtual 172, 3) := by decide +kernel
theorem dX9_findOrder_66 : decode cX9_findOrder 66 = .ok (.istore_n 3, 1) := by decide +kernel
theorem dX9_findOrder_67 : decode cX9_findOrder 67 = .ok (.iconst 0, 1) := by decide +kernel
theorem dX9_findOrder_68 : decode cX9_findOrder 68 = .ok (.istore 4, 2) := by decide +kernel
theorem dX9_findOrder_70 : decode cX9_findOrder 70 = .ok (.iload 4, 2) := by decide +kernel
theorem dX9_findOrder_72 : decode cX9_findOrder 72 = .ok (.iconst 1, 1) := by decide +kernel
theorem dX9_findOrder_73 : decode cX9_findOrder 73 = .ok (.if_icmp .gt 33, 3) := by decide +kernel
theorem dX9_findOrder_76 : decode cX9_findOrder 76 = .ok (.iload_n 3, 1) := by decide +kernel
theorem dX9_findOrder_77 : decode cX9_findOrder 77 = .ok (.ifCond .eq 29, 3) := by decide +kernel
theorem dX9_findOrder_80 : decode cX9_findOrder 80 = .ok (.aload_n 0, 1) := by decide +kernel
theorem dX9_findOrder_81 : decode cX9_findOrder 81 = .ok (.getfield 56, 3) := by decide +kernel
theorem dX9_findOrder_84 : decode cX9_findOrder 84 = .ok (.iload 4, 2) := by decide +kernel
theorem dX9_findOrder_86 : decode cX9_findOrder 86 = .ok (.invokevirtual 176, 3) := by decide +kernel
theorem dX9_findOrder_89 : decode cX9_findOrder 89 = .ok (.ifCond .eq 11, 3) := by decide +kernel
theorem dX9_findOrder_92 : decode cX9_findOrder 92 = .ok (.aload_n 0, 1) := by decide +kernel
theorem dX9_findOrder_93 : decode cX9_findOrder 93 = .ok (.iload 4, 2) := by decide +kernel
theorem dX9_findOrder_95 : decode cX9_findOrder 95 = .ok (.invokevirtual 185, 3) := by decide +kernel
theorem dX9_findOrder_98 : decode cX9_findOrder 98 = .ok (.iconst 1, 1) := by decide +kernel
theorem dX9_findOrder_99 : decode cX9_findOrder 99 = .ok (.ireturn, 1) := by decide +kernel
theorem dX9_findOrder_100 : decode cX9_findOrder 100 = .ok (.iinc 4 1, 3) := by decide +kernel
theorem dX9_findOrder_103 : decode cX9_findOrder 103 = .ok (.goto (-33), 3) := by decide +kernel
theorem dX9_findOrder_106 : decode cX9_findOrder 106 = .ok (.iinc 2 1, 3) := by decide +kernel
theorem dX9_findOrder_109 : decode cX9_findOrder 109 = .ok (.goto (-68), 3) := by decide +kernel
theorem dX9_findOrder_112 : decode cX9_findOrder 112 = .ok (.bipush (-6), 2) := by decide +kernel
theorem dX9_findOrder_114 : decode cX9_findOrder 114 = .ok (.ireturn, 1) := by decide +kernel
theorem dX9_reachableLetters_0 : decode cX9_reachableLetters 0 = .ok (.aload_n 0, 1) := by decide +kernel
theorem dX9_reachableLetters_1 : decode cX9_reachableLetters 1 = .ok (.getfield 14, 3) := by decide +kernel
theorem dX9_reachableLetters_4 : decode cX9_reachableLetters 4 = .ok (.iload_n 1, 1) := by decide +kernel
theorem dX9_reachableLetters_5 : decode cX9_reachableLetters 5 = .ok (.invokevirtual 128, 3) := by decide +kernel
theorem dX9_reachableLetters_8 : decode cX9_reachableLetters 8 = .ok (.ifCond .ne 6, 3) := by decide +kernel
theorem dX9_reachableLetters_11 : decode cX9_reachableLetters 11 = .ok (.bipush (-2), 2) := by decide +kernel
theorem dX9_reachableLetters_13 : decode cX9_reachableLetters 13 = .ok (.ireturn, 1) := by decide +kernel
theorem dX9_reachableLetters_14 : decode cX9_reachableLetters 14 = .ok (.iconst 0, 1) := by decide +kernel
theorem dX9_reachableLetters_15 : decode cX9_reachableLetters 15 = .ok (.istore_n 2, 1) := by decide +kernel
theorem dX9_reachableLetters_16 : decode cX9_reachableLetters 16 = .ok (.iconst 0, 1) := by decide +kernel
theorem dX9_reachableLetters_17 : decode cX9_reachableLetters 17 = .ok (.istore_n 3, 1) := by decide +kernel
theorem dX9_reachableLetters_18 : decode cX9_reachableLetters 18 = .ok (.iload_n 3, 1) := by decide +kernel
theorem dX9_reachableLetters_19 : decode cX9_reachableLetters 19 = .ok (.bipush 6, 2) := by decide +kernel
theorem dX9_reachableLetters_21 : decode cX9_reachableLetters 21 = .ok (.if_icmp .gt 68, 3) := by decide +kernel
theorem dX9_reachableLetters_24 : decode cX9_reachableLetters 24 = .ok (.iconst 0, 1) := by decide +kernel
theorem dX9_reachableLetters_25 : decode cX9_reachableLetters 25 = .ok (.istore 4, 2) := by decide +kernel
theorem dX9_reachableLetters_27 : decode cX9_reachableLetters 27 = .ok (.iload 4, 2) := by decide +kernel
theorem dX9_reachableLetters_29 : decode cX9_reachableLetters 29 = .ok (.aload_n 0, 1) := by decide +kernel
theorem dX9_reachableLetters_30 : decode cX9_reachableLetters 30 = .ok (.getfield 14, 3) := by decide +kernel
theorem dX9_reachableLetters_33 : decode cX9_reachableLetters 33 = .ok (.getfield 93, 3) := by decide +kernel
theorem dX9_reachableLetters_36 : decode cX9_reachableLetters 36 = .ok (.if_icmp .ge 47, 3) := by decide +kernel
theorem dX9_reachableLetters_39 : decode cX9_reachableLetters 39 = .ok (.aload_n 0, 1) := by decide +kernel
theorem dX9_reachableLetters_40 : decode cX9_reachableLetters 40 = .ok (.getfield 14, 3) := by decide +kernel
theorem dX9_reachableLetters_43 : decode cX9_reachableLetters 43 = .ok (.getfield 117, 3) := by decide +kernel
theorem dX9_reachableLetters_46 : decode cX9_reachableLetters 46 = .ok (.iload 4, 2) := by decide +kernel
theorem dX9_reachableLetters_48 : decode cX9_reachableLetters 48 = .ok (.laload, 1) := by decide +kernel
theorem dX9_reachableLetters_49 : decode cX9_reachableLetters 49 = .ok (.invokestatic 188, 3) := by decide +kernel
theorem dX9_reachableLetters_52 : decode cX9_reachableLetters 52 = .ok (.iload_n 2, 1) := by decide +kernel
theorem dX9_reachableLetters_53 : decode cX9_reachableLetters 53 = .ok (.iconst 1, 1) := by decide +kernel
theorem dX9_reachableLetters_54 : decode cX9_reachableLetters 54 = .ok (.iload_n 1, 1) := by decide +kernel
theorem dX9_reachableLetters_55 : decode cX9_reachableLetters 55 = .ok (.ishl, 1) := by decide +kernel
theorem dX9_reachableLetters_56 : decode cX9_reachableLetters 56 = .ok (.ior, 1) := by decide +kernel
theorem dX9_reachableLetters_57 : decode cX9_reachableLetters 57 = .ok (.iand, 1) := by decide +kernel
theorem dX9_reachableLetters_58 : decode cX9_reachableLetters 58 = .ok (.ifCond .eq 19, 3) := by decide +kernel
theorem dX9_reachableLetters_61 : decode cX9_reachableLetters 61 = .ok (.iload_n 2, 1) := by decide +kernel
theorem dX9_reachableLetters_62 : decode cX9_reachableLetters 62 = .ok (.aload_n 0, 1) := by decide +kernel
theorem dX9_reachableLetters_63 : decode cX9_reachableLetters 63 = .ok (.getfield 14, 3) := by decide +kernel
theorem dX9_reachableLetters_66 : decode cX9_reachableLetters 66 = .ok (.getfield 121, 3) := by decide +kernel
theorem dX9_reachableLetters_69 : decode cX9_reachableLetters 69 = .ok (.iload 4, 2) := by decide +kernel
theorem dX9_reachableLetters_71 : decode cX9_reachableLetters 71 = .ok (.laload, 1) := by decide +kernel
theorem dX9_reachableLetters_72 : decode cX9_reachableLetters 72 = .ok (.invokestatic 188, 3) := by decide +kernel
theorem dX9_reachableLetters_75 : decode cX9_reachableLetters 75 = .ok (.ior, 1) := by decide +kernel
theorem dX9_reachableLetters_76 : decode cX9_reachableLetters 76 = .ok (.istore_n 2, 1) := by decide +kernel
theorem dX9_reachableLetters_77 : decode cX9_reachableLetters 77 = .ok (.iinc 4 1, 3) := by decide +kernel
theorem dX9_reachableLetters_80 : decode cX9_reachableLetters 80 = .ok (.goto (-53), 3) := by decide +kernel
theorem dX9_reachableLetters_83 : decode cX9_reachableLetters 83 = .ok (.iinc 3 1, 3) := by decide +kernel
theorem dX9_reachableLetters_86 : decode cX9_reachableLetters 86 = .ok (.goto (-68), 3) := by decide +kernel
theorem dX9_reachableLetters_89 : decode cX9_reachableLetters 89 = .ok (.iload_n 2, 1) := by decide +kernel
theorem dX9_reachableLetters_90 : decode cX9_reachableLetters 90 = .ok (.ireturn, 1) := by decide +kernel
theorem dX9_setString_0 : decode cX9_setString 0 = .ok (.aload_n 0, 1) := by decide +kernel
theorem dX9_setString_1 : decode cX9_setString 1 = .ok (.invokevirtual 151, 3) := by decide +kernel
theorem dX9_setString_4 : decode cX9_setString 4 = .ok (.lstore_n 1, 1) := by decide +kernel
theorem dX9_setString_5 : decode cX9_setString 5 = .ok (.lload_n 1, 1) := by decide +kernel
theorem dX9_setString_6 : decode cX9_setString 6 = .ok (.ldc2_w 104, 3) := by decide +kernel
theorem dX9_setString_9 : decode cX9_setString 9 = .ok (.lcmp, 1) := by decide +kernel
theorem dX9_setString_10 : decode cX9_setString 10 = .ok (.ifCond .ne 6, 3) := by decide +kernel
theorem dX9_setString_13 : decode cX9_setString 13 = .ok (.bipush (-5), 2) := by decide +kernel
theorem dX9_setString_15 : decode cX9_setString 15 = .ok (.ireturn, 1) := by decide +kernel
theorem dX9_setString_16 : decode cX9_setString 16 = .ok (.aload_n 0, 1) := by decide +kernel
theorem dX9_setString_17 : decode cX9_setString 17 = .ok (.getfield 14, 3) := by decide +kernel
theorem dX9_setString_20 : decode cX9_setString 20 = .ok (.lload_n 1, 1) := by decide +kernel
theorem dX9_setString_21 : decode cX9_setString 21 = .ok (.putfield 155, 3) := by decide +kernel
theorem dX9_setString_24 : decode cX9_setString 24 = .ok (.lload_n 1, 1) := by decide +kernel
theorem dX9_setString_25 : decode cX9_setString 25 = .ok (.invokestatic 194, 3) := by decide +kernel
theorem dX9_setString_28 : decode cX9_setString 28 = .ok (.ireturn, 1) := by decide +kernel
theorem dX9_stringLength_0 : decode cX9_stringLength 0 = .ok (.aload_n 0, 1) := by decide +kernel
theorem dX9_stringLength_1 : decode cX9_stringLength 1 = .ok (.getfield 14, 3) := by decide +kernel
theorem dX9_stringLength_4 : decode cX9_stringLength 4 = .ok (.getfield 155, 3) := by decide +kernel
theorem dX9_stringLength_7 : decode cX9_stringLength 7 = .ok (.invokestatic 194, 3) := by decide +kernel
theorem dX9_stringLength_10 : decode cX9_stringLength 10 = .ok (.ireturn, 1) := by decide +kernel
theorem dX9_stringLetter_0 : decode cX9_stringLetter 0 = .ok (.aload_n 0, 1) := by decide +kernel
theorem dX9_stringLetter_1 : decode cX9_stringLetter 1 = .ok (.getfield 14, 3) := by decide +kernel
theorem dX9_stringLetter_4 : decode cX9_stringLetter 4 = .ok (.getfield 155, 3) := by decide +kernel
theorem dX9_stringLetter_7 : decode cX9_stringLetter 7 = .ok (.iload_n 1, 1) := by decide +kernel
theorem dX9_stringLetter_8 : decode cX9_stringLetter 8 = .ok (.invokestatic 124, 3) := by decide +kernel
theorem dX9_stringLetter_11 : decode cX9_stringLetter 11 = .ok (.ireturn, 1) := by decide +kernel
theorem dX9_stringWeight_0 : decode cX9_stringWeight 0 = .ok (.aload_n 0, 1) := by decide +kernel
theorem dX9_stringWeight_1 : decode cX9_stringWeight 1 = .ok (.getfield 14, 3) := by decide +kernel
theorem dX9_stringWeight_4 : decode cX9_stringWeight 4 = .ok (.aload_n 0, 1) := by decide +kernel
theorem dX9_stringWeight_5 : decode cX9_stringWeight 5 = .ok (.getfield 14, 3) := by decide +kernel
theorem dX9_stringWeight_8 : decode cX9_stringWeight 8 = .ok (.getfield 155, 3) := by decide +kernel
theorem dX9_stringWeight_11 : decode cX9_stringWeight 11 = .ok (.invokevirtual 197, 3) := by decide +kernel
theorem dX9_stringWeight_14 : decode cX9_stringWeight 14 = .ok (.ireturn, 1) := by decide +kernel
theorem dX9_rewrite_0 : decode cX9_rewrite 0 = .ok (.aload_n 0, 1) := by decide +kernel
theorem dX9_rewrite_1 : decode cX9_rewrite 1 = .ok (.getfield 14, 3) := by decide +kernel
theorem dX9_rewrite_4 : decode cX9_rewrite 4 = .ok (.iload_n 1, 1) := by decide +kernel
theorem dX9_rewrite_5 : decode cX9_rewrite 5 = .ok (.invokevirtual 110, 3) := by decide +kernel
theorem dX9_rewrite_8 : decode cX9_rewrite 8 = .ok (.ifCond .ne 6, 3) := by decide +kernel
theorem dX9_rewrite_11 : decode cX9_rewrite 11 = .ok (.bipush (-3), 2) := by decide +kernel
theorem dX9_rewrite_13 : decode cX9_rewrite 13 = .ok (.ireturn, 1) := by decide +kernel
theorem dX9_rewrite_14 : decode cX9_rewrite 14 = .ok (.aload_n 0, 1) := by decide +kernel
theorem dX9_rewrite_15 : decode cX9_rewrite 15 = .ok (.getfield 14, 3) := by decide +kernel
theorem dX9_rewrite_18 : decode cX9_rewrite 18 = .ok (.aload_n 0, 1) := by decide +kernel
theorem dX9_rewrite_19 : decode cX9_rewrite 19 = .ok (.getfield 14, 3) := by decide +kernel
theorem dX9_rewrite_22 : decode cX9_rewrite 22 = .ok (.getfield 155, 3) := by decide +kernel
theorem dX9_rewrite_25 : decode cX9_rewrite 25 = .ok (.iload_n 1, 1) := by decide +kernel
theorem dX9_rewrite_26 : decode cX9_rewrite 26 = .ok (.iload_n 2, 1) := by decide +kernel
theorem dX9_rewrite_27 : decode cX9_rewrite 27 = .ok (.invokevirtual 200, 3) := by decide +kernel
theorem dX9_rewrite_30 : decode cX9_rewrite 30 = .ok (.lstore_n 3, 1) := by decide +kernel
theorem dX9_rewrite_31 : decode cX9_rewrite 31 = .ok (.lload_n 3, 1) := by decide +kernel
theorem dX9_rewrite_32 : decode cX9_rewrite 32 = .ok (.ldc2_w 104, 3) := by decide +kernel
theorem dX9_rewrite_35 : decode cX9_rewrite 35 = .ok (.lcmp, 1) := by decide +kernel
theorem dX9_rewrite_36 : decode cX9_rewrite 36 = .ok (.ifCond .ne 6, 3) := by decide +kernel
theorem dX9_rewrite_39 : decode cX9_rewrite 39 = .ok (.bipush (-9), 2) := by decide +kernel
theorem dX9_rewrite_41 : decode cX9_rewrite 41 = .ok (.ireturn, 1) := by decide +kernel
theorem dX9_rewrite_42 : decode cX9_rewrite 42 = .ok (.aload_n 0, 1) := by decide +kernel
theorem dX9_rewrite_43 : decode cX9_rewrite 43 = .ok (.getfield 14, 3) := by decide +kernel
theorem dX9_rewrite_46 : decode cX9_rewrite 46 = .ok (.lload_n 3, 1) := by decide +kernel
theorem dX9_rewrite_47 : decode cX9_rewrite 47 = .ok (.putfield 155, 3) := by decide +kernel
theorem dX9_rewrite_50 : decode cX9_rewrite 50 = .ok (.lload_n 3, 1) := by decide +kernel
theorem dX9_rewrite_51 : decode cX9_rewrite 51 = .ok (.invokestatic 194, 3) := by decide +kernel
theorem dX9_rewrite_54 : decode cX9_rewrite 54 = .ok (.ireturn, 1) := by decide +kernel
theorem dX9_normalize_0 : decode cX9_normalize 0 = .ok (.iload_n 1, 1) := by decide +kernel
theorem dX9_normalize_1 : decode cX9_normalize 1 = .ok (.ifCond .lt 10, 3) := by decide +kernel
theorem dX9_normalize_4 : decode cX9_normalize 4 = .ok (.iload_n 1, 1) := by decide +kernel
theorem dX9_normalize_5 : decode cX9_normalize 5 = .ok (.sipush 1000, 3) := by decide +kernel
theorem dX9_normalize_8 : decode cX9_normalize 8 = .ok (.if_icmp .le 5, 3) := by decide +kernel
theorem dX9_normalize_11 : decode cX9_normalize 11 = .ok (.iconst (-1), 1) := by decide +kernel
theorem dX9_normalize_12 : decode cX9_normalize 12 = .ok (.ireturn, 1) := by decide +kernel
theorem dX9_normalize_13 : decode cX9_normalize 13 = .ok (.iconst 0, 1) := by decide +kernel
theorem dX9_normalize_14 : decode cX9_normalize 14 = .ok (.istore_n 2, 1) := by decide +kernel
theorem dX9_normalize_15 : decode cX9_normalize 15 = .ok (.iload_n 2, 1) := by decide +kernel
theorem dX9_normalize_16 : decode cX9_normalize 16 = .ok (.iload_n 1, 1) := by decide +kernel
theorem dX9_normalize_17 : decode cX9_normalize 17 = .ok (.if_icmp .ge 42, 3) := by decide +kernel
theorem dX9_normalize_20 : decode cX9_normalize 20 = .ok (.aload_n 0, 1) := by decide +kernel
theorem dX9_normalize_21 : decode cX9_normalize 21 = .ok (.getfield 14, 3) := by decide +kernel
theorem dX9_normalize_24 : decode cX9_normalize 24 = .ok (.aload_n 0, 1) := by decide +kernel
theorem dX9_normalize_25 : decode cX9_normalize 25 = .ok (.getfield 14, 3) := by decide +kernel
theorem dX9_normalize_28 : decode cX9_normalize 28 = .ok (.getfield 155, 3) := by decide +kernel
theorem dX9_normalize_31 : decode cX9_normalize 31 = .ok (.invokevirtual 204, 3) := by decide +kernel
theorem dX9_normalize_34 : decode cX9_normalize 34 = .ok (.lstore_n 3, 1) := by decide +kernel
theorem dX9_normalize_35 : decode cX9_normalize 35 = .ok (.lload_n 3, 1) := by decide +kernel
theorem dX9_normalize_36 : decode cX9_normalize 36 = .ok (.ldc2_w 104, 3) := by decide +kernel
theorem dX9_normalize_39 : decode cX9_normalize 39 = .ok (.lcmp, 1) := by decide +kernel
theorem dX9_normalize_40 : decode cX9_normalize 40 = .ok (.ifCond .ne 5, 3) := by decide +kernel
theorem dX9_normalize_43 : decode cX9_normalize 43 = .ok (.iload_n 2, 1) := by decide +kernel
theorem dX9_normalize_44 : decode cX9_normalize 44 = .ok (.ireturn, 1) := by decide +kernel
theorem dX9_normalize_45 : decode cX9_normalize 45 = .ok (.aload_n 0, 1) := by decide +kernel
theorem dX9_normalize_46 : decode cX9_normalize 46 = .ok (.getfield 14, 3) := by decide +kernel
theorem dX9_normalize_49 : decode cX9_normalize 49 = .ok (.lload_n 3, 1) := by decide +kernel
theorem dX9_normalize_50 : decode cX9_normalize 50 = .ok (.putfield 155, 3) := by decide +kernel
theorem dX9_normalize_53 : decode cX9_normalize 53 = .ok (.iinc 2 1, 3) := by decide +kernel
theorem dX9_normalize_56 : decode cX9_normalize 56 = .ok (.goto (-41), 3) := by decide +kernel
theorem dX9_normalize_59 : decode cX9_normalize 59 = .ok (.iload_n 1, 1) := by decide +kernel
theorem dX9_normalize_60 : decode cX9_normalize 60 = .ok (.ireturn, 1) := by decide +kernel
theorem dX9_longestDerivation_0 : decode cX9_longestDerivation 0 = .ok (.aload_n 0, 1) := by decide +kernel
theorem dX9_longestDerivation_1 : decode cX9_longestDerivation 1 = .ok (.getfield 42, 3) := by decide +kernel
theorem dX9_longestDerivation_4 : decode cX9_longestDerivation 4 = .ok (.aload_n 0, 1) := by decide +kernel
theorem dX9_longestDerivation_5 : decode cX9_longestDerivation 5 = .ok (.getfield 14, 3) := by decide +kernel
theorem dX9_longestDerivation_8 : decode cX9_longestDerivation 8 = .ok (.invokevirtual 208, 3) := by decide +kernel
theorem dX9_longestDerivation_11 : decode cX9_longestDerivation 11 = .ok (.ifCond .eq 17, 3) := by decide +kernel
theorem dX9_longestDerivation_14 : decode cX9_longestDerivation 14 = .ok (.aload_n 0, 1) := by decide +kernel
theorem dX9_longestDerivation_15 : decode cX9_longestDerivation 15 = .ok (.getfield 42, 3) := by decide +kernel
theorem dX9_longestDerivation_18 : decode cX9_longestDerivation 18 = .ok (.aload_n 0, 1) := by decide +kernel
theorem dX9_longestDerivation_19 : decode cX9_longestDerivation 19 = .ok (.getfield 14, 3) := by decide +kernel
theorem dX9_longestDerivation_22 : decode cX9_longestDerivation 22 = .ok (.invokevirtual 212, 3) := by decide +kernel
theorem dX9_longestDerivation_25 : decode cX9_longestDerivation 25 = .ok (.goto 5, 3) := by decide +kernel
theorem dX9_longestDerivation_28 : decode cX9_longestDerivation 28 = .ok (.bipush (-7), 2) := by decide +kernel
theorem dX9_longestDerivation_30 : decode cX9_longestDerivation 30 = .ok (.ireturn, 1) := by decide +kernel
theorem dX9_findLoop_0 : decode cX9_findLoop 0 = .ok (.aload_n 0, 1) := by decide +kernel
theorem dX9_findLoop_1 : decode cX9_findLoop 1 = .ok (.getfield 14, 3) := by decide +kernel
theorem dX9_findLoop_4 : decode cX9_findLoop 4 = .ok (.iload_n 1, 1) := by decide +kernel
theorem dX9_findLoop_5 : decode cX9_findLoop 5 = .ok (.invokevirtual 110, 3) := by decide +kernel
theorem dX9_findLoop_8 : decode cX9_findLoop 8 = .ok (.ifCond .eq 30, 3) := by decide +kernel
theorem dX9_findLoop_11 : decode cX9_findLoop 11 = .ok (.aload_n 0, 1) := by decide +kernel
theorem dX9_findLoop_12 : decode cX9_findLoop 12 = .ok (.getfield 42, 3) := by decide +kernel
theorem dX9_findLoop_15 : decode cX9_findLoop 15 = .ok (.aload_n 0, 1) := by decide +kernel
theorem dX9_findLoop_16 : decode cX9_findLoop 16 = .ok (.getfield 14, 3) := by decide +kernel
theorem dX9_findLoop_19 : decode cX9_findLoop 19 = .ok (.aload_n 0, 1) := by decide +kernel
theorem dX9_findLoop_20 : decode cX9_findLoop 20 = .ok (.getfield 14, 3) := by decide +kernel
theorem dX9_findLoop_23 : decode cX9_findLoop 23 = .ok (.getfield 117, 3) := by decide +kernel
theorem dX9_findLoop_26 : decode cX9_findLoop 26 = .ok (.iload_n 1, 1) := by decide +kernel
theorem dX9_findLoop_27 : decode cX9_findLoop 27 = .ok (.laload, 1) := by decide +kernel
theorem dX9_findLoop_28 : decode cX9_findLoop 28 = .ok (.aload_n 0, 1) := by decide +kernel
theorem dX9_findLoop_29 : decode cX9_findLoop 29 = .ok (.getfield 35, 3) := by decide +kernel
theorem dX9_findLoop_32 : decode cX9_findLoop 32 = .ok (.invokevirtual 216, 3) := by decide +kernel
theorem dX9_findLoop_35 : decode cX9_findLoop 35 = .ok (.goto 5, 3) := by decide +kernel
theorem dX9_findLoop_38 : decode cX9_findLoop 38 = .ok (.bipush (-3), 2) := by decide +kernel
theorem dX9_findLoop_40 : decode cX9_findLoop 40 = .ok (.ireturn, 1) := by decide +kernel
theorem dX9_loopStep_0 : decode cX9_loopStep 0 = .ok (.iload_n 2, 1) := by decide +kernel
theorem dX9_loopStep_1 : decode cX9_loopStep 1 = .ok (.ifCond .lt 8, 3) := by decide +kernel
theorem dX9_loopStep_4 : decode cX9_loopStep 4 = .ok (.iload_n 2, 1) := by decide +kernel
theorem dX9_loopStep_5 : decode cX9_loopStep 5 = .ok (.iconst 1, 1) := by decide +kernel
theorem dX9_loopStep_6 : decode cX9_loopStep 6 = .ok (.if_icmp .le 5, 3) := by decide +kernel
theorem dX9_loopStep_9 : decode cX9_loopStep 9 = .ok (.iconst (-1), 1) := by decide +kernel
theorem dX9_loopStep_10 : decode cX9_loopStep 10 = .ok (.ireturn, 1) := by decide +kernel
theorem dX9_loopStep_11 : decode cX9_loopStep 11 = .ok (.iload_n 1, 1) := by decide +kernel
theorem dX9_loopStep_12 : decode cX9_loopStep 12 = .ok (.ifCond .lt 14, 3) := by decide +kernel
theorem dX9_loopStep_15 : decode cX9_loopStep 15 = .ok (.iload_n 1, 1) := by decide +kernel
theorem dX9_loopStep_16 : decode cX9_loopStep 16 = .ok (.aload_n 0, 1) := by decide +kernel
theorem dX9_loopStep_17 : decode cX9_loopStep 17 = .ok (.getfield 35, 3) := by decide +kernel
theorem dX9_loopStep_20 : decode cX9_loopStep 20 = .ok (.getfield 79, 3) := by decide +kernel
theorem dX9_loopStep_23 : decode cX9_loopStep 23 = .ok (.if_icmp .lt 6, 3) := by decide +kernel
theorem dX9_loopStep_26 : decode cX9_loopStep 26 = .ok (.bipush (-6), 2) := by decide +kernel
theorem dX9_loopStep_28 : decode cX9_loopStep 28 = .ok (.ireturn, 1) := by decide +kernel
theorem dX9_loopStep_29 : decode cX9_loopStep 29 = .ok (.iload_n 2, 1) := by decide +kernel
theorem dX9_loopStep_30 : decode cX9_loopStep 30 = .ok (.ifCond .ne 15, 3) := by decide +kernel
theorem dX9_loopStep_33 : decode cX9_loopStep 33 = .ok (.aload_n 0, 1) := by decide +kernel
theorem dX9_loopStep_34 : decode cX9_loopStep 34 = .ok (.getfield 35, 3) := by decide +kernel
theorem dX9_loopStep_37 : decode cX9_loopStep 37 = .ok (.getfield 220, 3) := by decide +kernel
theorem dX9_loopStep_40 : decode cX9_loopStep 40 = .ok (.iload_n 1, 1) := by decide +kernel
theorem dX9_loopStep_41 : decode cX9_loopStep 41 = .ok (.iaload, 1) := by decide +kernel
theorem dX9_loopStep_42 : decode cX9_loopStep 42 = .ok (.goto 12, 3) := by decide +kernel
theorem dX9_loopStep_45 : decode cX9_loopStep 45 = .ok (.aload_n 0, 1) := by decide +kernel
theorem dX9_loopStep_46 : decode cX9_loopStep 46 = .ok (.getfield 35, 3) := by decide +kernel
theorem dX9_loopStep_49 : decode cX9_loopStep 49 = .ok (.getfield 222, 3) := by decide +kernel
theorem dX9_loopStep_52 : decode cX9_loopStep 52 = .ok (.iload_n 1, 1) := by decide +kernel
theorem dX9_loopStep_53 : decode cX9_loopStep 53 = .ok (.iaload, 1) := by decide +kernel
theorem dX9_loopStep_54 : decode cX9_loopStep 54 = .ok (.ireturn, 1) := by decide +kernel
theorem dX9_improve_0 : decode cX9_improve 0 = .ok (.iload_n 1, 1) := by decide +kernel
theorem dX9_improve_1 : decode cX9_improve 1 = .ok (.iconst 1, 1) := by decide +kernel
theorem dX9_improve_2 : decode cX9_improve 2 = .ok (.if_icmp .lt 9, 3) := by decide +kernel
theorem dX9_improve_5 : decode cX9_improve 5 = .ok (.iload_n 1, 1) := by decide +kernel
theorem dX9_improve_6 : decode cX9_improve 6 = .ok (.bipush 100, 2) := by decide +kernel
theorem dX9_improve_8 : decode cX9_improve 8 = .ok (.if_icmp .le 5, 3) := by decide +kernel
theorem dX9_improve_11 : decode cX9_improve 11 = .ok (.iconst (-1), 1) := by decide +kernel
theorem dX9_improve_12 : decode cX9_improve 12 = .ok (.ireturn, 1) := by decide +kernel
theorem dX9_improve_13 : decode cX9_improve 13 = .ok (.iconst 0, 1) := by decide +kernel
theorem dX9_improve_14 : decode cX9_improve 14 = .ok (.istore_n 2, 1) := by decide +kernel
theorem dX9_improve_15 : decode cX9_improve 15 = .ok (.iload_n 2, 1) := by decide +kernel
theorem dX9_improve_16 : decode cX9_improve 16 = .ok (.iload_n 1, 1) := by decide +kernel
theorem dX9_improve_17 : decode cX9_improve 17 = .ok (.if_icmp .ge 50, 3) := by decide +kernel
theorem dX9_improve_20 : decode cX9_improve 20 = .ok (.iconst 0, 1) := by decide +kernel
theorem dX9_improve_21 : decode cX9_improve 21 = .ok (.istore_n 3, 1) := by decide +kernel
theorem dX9_improve_22 : decode cX9_improve 22 = .ok (.iload_n 3, 1) := by decide +kernel
theorem dX9_improve_23 : decode cX9_improve 23 = .ok (.aload_n 0, 1) := by decide +kernel
theorem dX9_improve_24 : decode cX9_improve 24 = .ok (.getfield 14, 3) := by decide +kernel
theorem dX9_improve_27 : decode cX9_improve 27 = .ok (.getfield 93, 3) := by decide +kernel
theorem dX9_improve_30 : decode cX9_improve 30 = .ok (.if_icmp .ge 31, 3) := by decide +kernel
theorem dX9_improve_33 : decode cX9_improve 33 = .ok (.aload_n 0, 1) := by decide +kernel
theorem dX9_improve_34 : decode cX9_improve 34 = .ok (.getfield 14, 3) := by decide +kernel
theorem dX9_improve_37 : decode cX9_improve 37 = .ok (.iload_n 3, 1) := by decide +kernel
theorem dX9_improve_38 : decode cX9_improve 38 = .ok (.invokevirtual 225, 3) := by decide +kernel
theorem dX9_improve_41 : decode cX9_improve 41 = .ok (.ldc 229, 2) := by decide +kernel
theorem dX9_improve_43 : decode cX9_improve 43 = .ok (.fcmp .g, 1) := by decide +kernel
theorem dX9_improve_44 : decode cX9_improve 44 = .ok (.ifCond .ge 11, 3) := by decide +kernel
theorem dX9_improve_47 : decode cX9_improve 47 = .ok (.aload_n 0, 1) := by decide +kernel
theorem dX9_improve_48 : decode cX9_improve 48 = .ok (.getfield 14, 3) := by decide +kernel
theorem dX9_improve_51 : decode cX9_improve 51 = .ok (.iload_n 3, 1) := by decide +kernel
theorem dX9_improve_52 : decode cX9_improve 52 = .ok (.invokevirtual 230, 3) := by decide +kernel
theorem dX9_improve_55 : decode cX9_improve 55 = .ok (.iinc 3 1, 3) := by decide +kernel
theorem dX9_improve_58 : decode cX9_improve 58 = .ok (.goto (-36), 3) := by decide +kernel
theorem dX9_improve_61 : decode cX9_improve 61 = .ok (.iinc 2 1, 3) := by decide +kernel
theorem dX9_improve_64 : decode cX9_improve 64 = .ok (.goto (-49), 3) := by decide +kernel
theorem dX9_improve_67 : decode cX9_improve 67 = .ok (.iconst 0, 1) := by decide +kernel
theorem dX9_improve_68 : decode cX9_improve 68 = .ok (.istore_n 2, 1) := by decide +kernel
theorem dX9_improve_69 : decode cX9_improve 69 = .ok (.iconst 0, 1) := by decide +kernel
theorem dX9_improve_70 : decode cX9_improve 70 = .ok (.istore_n 3, 1) := by decide +kernel
theorem dX9_improve_71 : decode cX9_improve 71 = .ok (.iload_n 3, 1) := by decide +kernel
theorem dX9_improve_72 : decode cX9_improve 72 = .ok (.aload_n 0, 1) := by decide +kernel
theorem dX9_improve_73 : decode cX9_improve 73 = .ok (.getfield 14, 3) := by decide +kernel
theorem dX9_improve_76 : decode cX9_improve 76 = .ok (.getfield 93, 3) := by decide +kernel
theorem dX9_improve_79 : decode cX9_improve 79 = .ok (.if_icmp .ge 26, 3) := by decide +kernel
theorem dX9_improve_82 : decode cX9_improve 82 = .ok (.aload_n 0, 1) := by decide +kernel
theorem dX9_improve_83 : decode cX9_improve 83 = .ok (.getfield 14, 3) := by decide +kernel
theorem dX9_improve_86 : decode cX9_improve 86 = .ok (.iload_n 3, 1) := by decide +kernel
theorem dX9_improve_87 : decode cX9_improve 87 = .ok (.invokevirtual 225, 3) := by decide +kernel
theorem dX9_improve_90 : decode cX9_improve 90 = .ok (.ldc 229, 2) := by decide +kernel
theorem dX9_improve_92 : decode cX9_improve 92 = .ok (.fcmp .l, 1) := by decide +kernel
theorem dX9_improve_93 : decode cX9_improve 93 = .ok (.ifCond .lt 6, 3) := by decide +kernel
theorem dX9_improve_96 : decode cX9_improve 96 = .ok (.iinc 2 1, 3) := by decide +kernel
theorem dX9_improve_99 : decode cX9_improve 99 = .ok (.iinc 3 1, 3) := by decide +kernel
theorem dX9_improve_102 : decode cX9_improve 102 = .ok (.goto (-31), 3) := by decide +kernel
theorem dX9_improve_105 : decode cX9_improve 105 = .ok (.iload_n 2, 1) := by decide +kernel
theorem dX9_improve_106 : decode cX9_improve 106 = .ok (.ireturn, 1) := by decide +kernel
theorem dX9_setApproximateWeight_0 : decode cX9_setApproximateWeight 0 = .ok (.aload_n 0, 1) := by decide +kernel
theorem dX9_setApproximateWeight_1 : decode cX9_setApproximateWeight 1 = .ok (.getfield 14, 3) := by decide +kernel
theorem dX9_setApproximateWeight_4 : decode cX9_setApproximateWeight 4 = .ok (.iload_n 1, 1) := by decide +kernel
theorem dX9_setApproximateWeight_5 : decode cX9_setApproximateWeight 5 = .ok (.invokevirtual 128, 3) := by decide +kernel
theorem dX9_setApproximateWeight_8 : decode cX9_setApproximateWeight 8 = .ok (.ifCond .ne 6, 3) := by decide +kernel
theorem dX9_setApproximateWeight_11 : decode cX9_setApproximateWeight 11 = .ok (.bipush (-2), 2) := by decide +kernel
theorem dX9_setApproximateWeight_13 : decode cX9_setApproximateWeight 13 = .ok (.ireturn, 1) := by decide +kernel
theorem dX9_setApproximateWeight_14 : decode cX9_setApproximateWeight 14 = .ok (.iload_n 2, 1) := by decide +kernel
theorem dX9_setApproximateWeight_15 : decode cX9_setApproximateWeight 15 = .ok (.ifCond .lt 20, 3) := by decide +kernel
theorem dX9_setApproximateWeight_18 : decode cX9_setApproximateWeight 18 = .ok (.iload_n 2, 1) := by decide +kernel
theorem dX9_setApproximateWeight_19 : decode cX9_setApproximateWeight 19 = .ok (.ldc 233, 2) := by decide +kernel
theorem dX9_setApproximateWeight_21 : decode cX9_setApproximateWeight 21 = .ok (.if_icmp .gt 14, 3) := by decide +kernel
theorem dX9_setApproximateWeight_24 : decode cX9_setApproximateWeight 24 = .ok (.iload_n 3, 1) := by decide +kernel
theorem dX9_setApproximateWeight_25 : decode cX9_setApproximateWeight 25 = .ok (.iconst 1, 1) := by decide +kernel
theorem dX9_setApproximateWeight_26 : decode cX9_setApproximateWeight 26 = .ok (.if_icmp .lt 9, 3) := by decide +kernel
theorem dX9_setApproximateWeight_29 : decode cX9_setApproximateWeight 29 = .ok (.iload_n 3, 1) := by decide +kernel
theorem dX9_setApproximateWeight_30 : decode cX9_setApproximateWeight 30 = .ok (.ldc 233, 2) := by decide +kernel
theorem dX9_setApproximateWeight_32 : decode cX9_setApproximateWeight 32 = .ok (.if_icmp .le 5, 3) := by decide +kernel
theorem dX9_setApproximateWeight_35 : decode cX9_setApproximateWeight 35 = .ok (.iconst (-1), 1) := by decide +kernel
theorem dX9_setApproximateWeight_36 : decode cX9_setApproximateWeight 36 = .ok (.ireturn, 1) := by decide +kernel
theorem dX9_setApproximateWeight_37 : decode cX9_setApproximateWeight 37 = .ok (.aload_n 0, 1) := by decide +kernel
theorem dX9_setApproximateWeight_38 : decode cX9_setApproximateWeight 38 = .ok (.getfield 14, 3) := by decide +kernel
theorem dX9_setApproximateWeight_41 : decode cX9_setApproximateWeight 41 = .ok (.getfield 234, 3) := by decide +kernel
theorem dX9_setApproximateWeight_44 : decode cX9_setApproximateWeight 44 = .ok (.iload_n 1, 1) := by decide +kernel
theorem dX9_setApproximateWeight_45 : decode cX9_setApproximateWeight 45 = .ok (.faload, 1) := by decide +kernel
theorem dX9_setApproximateWeight_46 : decode cX9_setApproximateWeight 46 = .ok (.fstore 4, 2) := by decide +kernel
theorem dX9_setApproximateWeight_48 : decode cX9_setApproximateWeight 48 = .ok (.aload_n 0, 1) := by decide +kernel
theorem dX9_setApproximateWeight_49 : decode cX9_setApproximateWeight 49 = .ok (.getfield 14, 3) := by decide +kernel
theorem dX9_setApproximateWeight_52 : decode cX9_setApproximateWeight 52 = .ok (.getfield 234, 3) := by decide +kernel
theorem dX9_setApproximateWeight_55 : decode cX9_setApproximateWeight 55 = .ok (.iload_n 1, 1) := by decide +kernel
theorem dX9_setApproximateWeight_56 : decode cX9_setApproximateWeight 56 = .ok (.iload_n 2, 1) := by decide +kernel
theorem dX9_setApproximateWeight_57 : decode cX9_setApproximateWeight 57 = .ok (.i2f, 1) := by decide +kernel
theorem dX9_setApproximateWeight_58 : decode cX9_setApproximateWeight 58 = .ok (.iload_n 3, 1) := by decide +kernel
theorem dX9_setApproximateWeight_59 : decode cX9_setApproximateWeight 59 = .ok (.i2f, 1) := by decide +kernel
theorem dX9_setApproximateWeight_60 : decode cX9_setApproximateWeight 60 = .ok (.fdiv, 1) := by decide +kernel
theorem dX9_setApproximateWeight_61 : decode cX9_setApproximateWeight 61 = .ok (.fastore, 1) := by decide +kernel
theorem dX9_setApproximateWeight_62 : decode cX9_setApproximateWeight 62 = .ok (.aload_n 0, 1) := by decide +kernel
theorem dX9_setApproximateWeight_63 : decode cX9_setApproximateWeight 63 = .ok (.getfield 14, 3) := by decide +kernel
theorem dX9_setApproximateWeight_66 : decode cX9_setApproximateWeight 66 = .ok (.getfield 234, 3) := by decide +kernel
theorem dX9_setApproximateWeight_69 : decode cX9_setApproximateWeight 69 = .ok (.iload_n 1, 1) := by decide +kernel
theorem dX9_setApproximateWeight_70 : decode cX9_setApproximateWeight 70 = .ok (.faload, 1) := by decide +kernel
theorem dX9_setApproximateWeight_71 : decode cX9_setApproximateWeight 71 = .ok (.fload 4, 2) := by decide +kernel
theorem dX9_setApproximateWeight_73 : decode cX9_setApproximateWeight 73 = .ok (.fcmp .l, 1) := by decide +kernel
theorem dX9_setApproximateWeight_74 : decode cX9_setApproximateWeight 74 = .ok (.ifCond .eq 7, 3) := by decide +kernel
theorem dX9_setApproximateWeight_77 : decode cX9_setApproximateWeight 77 = .ok (.iconst 1, 1) := by decide +kernel
theorem dX9_setApproximateWeight_78 : decode cX9_setApproximateWeight 78 = .ok (.goto 4, 3) := by decide +kernel
theorem dX9_setApproximateWeight_81 : decode cX9_setApproximateWeight 81 = .ok (.iconst 0, 1) := by decide +kernel
theorem dX9_setApproximateWeight_82 : decode cX9_setApproximateWeight 82 = .ok (.ireturn, 1) := by decide +kernel
theorem dX9_approximateWeight_0 : decode cX9_approximateWeight 0 = .ok (.aload_n 0, 1) := by decide +kernel
theorem dX9_approximateWeight_1 : decode cX9_approximateWeight 1 = .ok (.getfield 14, 3) := by decide +kernel
theorem dX9_approximateWeight_4 : decode cX9_approximateWeight 4 = .ok (.iload_n 1, 1) := by decide +kernel
theorem dX9_approximateWeight_5 : decode cX9_approximateWeight 5 = .ok (.invokevirtual 128, 3) := by decide +kernel
theorem dX9_approximateWeight_8 : decode cX9_approximateWeight 8 = .ok (.ifCond .eq 18, 3) := by decide +kernel
theorem dX9_approximateWeight_11 : decode cX9_approximateWeight 11 = .ok (.aload_n 0, 1) := by decide +kernel
theorem dX9_approximateWeight_12 : decode cX9_approximateWeight 12 = .ok (.getfield 14, 3) := by decide +kernel
theorem dX9_approximateWeight_15 : decode cX9_approximateWeight 15 = .ok (.getfield 234, 3) := by decide +kernel
theorem dX9_approximateWeight_18 : decode cX9_approximateWeight 18 = .ok (.iload_n 1, 1) := by decide +kernel
theorem dX9_approximateWeight_19 : decode cX9_approximateWeight 19 = .ok (.faload, 1) := by decide +kernel
theorem dX9_approximateWeight_20 : decode cX9_approximateWeight 20 = .ok (.invokestatic 238, 3) := by decide +kernel
theorem dX9_approximateWeight_23 : decode cX9_approximateWeight 23 = .ok (.goto 6, 3) := by decide +kernel
theorem dX9_approximateWeight_26 : decode cX9_approximateWeight 26 = .ok (.ldc2_w 242, 3) := by decide +kernel
theorem dX9_approximateWeight_29 : decode cX9_approximateWeight 29 = .ok (.lreturn, 1) := by decide +kernel
theorem dX9_margin_0 : decode cX9_margin 0 = .ok (.aload_n 0, 1) := by decide +kernel
theorem dX9_margin_1 : decode cX9_margin 1 = .ok (.getfield 14, 3) := by decide +kernel
theorem dX9_margin_4 : decode cX9_margin 4 = .ok (.iload_n 1, 1) := by decide +kernel
theorem dX9_margin_5 : decode cX9_margin 5 = .ok (.invokevirtual 110, 3) := by decide +kernel
theorem dX9_margin_8 : decode cX9_margin 8 = .ok (.ifCond .eq 17, 3) := by decide +kernel
theorem dX9_margin_11 : decode cX9_margin 11 = .ok (.aload_n 0, 1) := by decide +kernel
theorem dX9_margin_12 : decode cX9_margin 12 = .ok (.getfield 14, 3) := by decide +kernel
theorem dX9_margin_15 : decode cX9_margin 15 = .ok (.iload_n 1, 1) := by decide +kernel
theorem dX9_margin_16 : decode cX9_margin 16 = .ok (.invokevirtual 225, 3) := by decide +kernel
theorem dX9_margin_19 : decode cX9_margin 19 = .ok (.invokestatic 238, 3) := by decide +kernel
theorem dX9_margin_22 : decode cX9_margin 22 = .ok (.goto 6, 3) := by decide +kernel
theorem dX9_margin_25 : decode cX9_margin 25 = .ok (.ldc2_w 242, 3) := by decide +kernel
theorem dX9_margin_28 : decode cX9_margin 28 = .ok (.lreturn, 1) := by decide +kernel
theorem dX9_roundWeights_0 : decode cX9_roundWeights 0 = .ok (.iload_n 1, 1) := by decide +kernel
theorem dX9_roundWeights_1 : decode cX9_roundWeights 1 = .ok (.iconst 1, 1) := by decide +kernel
theorem dX9_roundWeights_2 : decode cX9_roundWeights 2 = .ok (.if_icmp .lt 9, 3) := by decide +kernel
theorem dX9_roundWeights_5 : decode cX9_roundWeights 5 = .ok (.iload_n 1, 1) := by decide +kernel
theorem dX9_roundWeights_6 : decode cX9_roundWeights 6 = .ok (.bipush 100, 2) := by decide +kernel
theorem dX9_roundWeights_8 : decode cX9_roundWeights 8 = .ok (.if_icmp .le 5, 3) := by decide +kernel
theorem dX9_roundWeights_11 : decode cX9_roundWeights 11 = .ok (.iconst (-1), 1) := by decide +kernel
theorem dX9_roundWeights_12 : decode cX9_roundWeights 12 = .ok (.ireturn, 1) := by decide +kernel
theorem dX9_roundWeights_13 : decode cX9_roundWeights 13 = .ok (.iconst 0, 1) := by decide +kernel
theorem dX9_roundWeights_14 : decode cX9_roundWeights 14 = .ok (.istore_n 2, 1) := by decide +kernel
theorem dX9_roundWeights_15 : decode cX9_roundWeights 15 = .ok (.iload_n 2, 1) := by decide +kernel
theorem dX9_roundWeights_16 : decode cX9_roundWeights 16 = .ok (.aload_n 0, 1) := by decide +kernel
theorem dX9_roundWeights_17 : decode cX9_roundWeights 17 = .ok (.getfield 14, 3) := by decide +kernel
theorem dX9_roundWeights_20 : decode cX9_roundWeights 20 = .ok (.getfield 71, 3) := by decide +kernel
theorem dX9_roundWeights_23 : decode cX9_roundWeights 23 = .ok (.if_icmp .ge 34, 3) := by decide +kernel
theorem dX9_roundWeights_26 : decode cX9_roundWeights 26 = .ok (.aload_n 0, 1) := by decide +kernel
theorem dX9_roundWeights_27 : decode cX9_roundWeights 27 = .ok (.getfield 14, 3) := by decide +kernel
theorem dX9_roundWeights_30 : decode cX9_roundWeights 30 = .ok (.getfield 135, 3) := by decide +kernel
theorem dX9_roundWeights_33 : decode cX9_roundWeights 33 = .ok (.iload_n 2, 1) := by decide +kernel
theorem dX9_roundWeights_34 : decode cX9_roundWeights 34 = .ok (.aload_n 0, 1) := by decide +kernel
theorem dX9_roundWeights_35 : decode cX9_roundWeights 35 = .ok (.getfield 14, 3) := by decide +kernel
theorem dX9_roundWeights_38 : decode cX9_roundWeights 38 = .ok (.getfield 234, 3) := by decide +kernel
theorem dX9_roundWeights_41 : decode cX9_roundWeights 41 = .ok (.iload_n 2, 1) := by decide +kernel
theorem dX9_roundWeights_42 : decode cX9_roundWeights 42 = .ok (.faload, 1) := by decide +kernel
theorem dX9_roundWeights_43 : decode cX9_roundWeights 43 = .ok (.f2d, 1) := by decide +kernel
theorem dX9_roundWeights_44 : decode cX9_roundWeights 44 = .ok (.iload_n 1, 1) := by decide +kernel
theorem dX9_roundWeights_45 : decode cX9_roundWeights 45 = .ok (.i2d, 1) := by decide +kernel
theorem dX9_roundWeights_46 : decode cX9_roundWeights 46 = .ok (.dmul, 1) := by decide +kernel
theorem dX9_roundWeights_47 : decode cX9_roundWeights 47 = .ok (.invokestatic 244, 3) := by decide +kernel
theorem dX9_roundWeights_50 : decode cX9_roundWeights 50 = .ok (.iastore, 1) := by decide +kernel
theorem dX9_roundWeights_51 : decode cX9_roundWeights 51 = .ok (.iinc 2 1, 3) := by decide +kernel
theorem dX9_roundWeights_54 : decode cX9_roundWeights 54 = .ok (.goto (-39), 3) := by decide +kernel
theorem dX9_roundWeights_57 : decode cX9_roundWeights 57 = .ok (.iconst 0, 1) := by decide +kernel
theorem dX9_roundWeights_58 : decode cX9_roundWeights 58 = .ok (.istore_n 2, 1) := by decide +kernel
theorem dX9_roundWeights_59 : decode cX9_roundWeights 59 = .ok (.iconst 0, 1) := by decide +kernel
theorem dX9_roundWeights_60 : decode cX9_roundWeights 60 = .ok (.istore_n 3, 1) := by decide +kernel
theorem dX9_roundWeights_61 : decode cX9_roundWeights 61 = .ok (.iload_n 3, 1) := by decide +kernel
theorem dX9_roundWeights_62 : decode cX9_roundWeights 62 = .ok (.aload_n 0, 1) := by decide +kernel
theorem dX9_roundWeights_63 : decode cX9_roundWeights 63 = .ok (.getfield 14, 3) := by decide +kernel
theorem dX9_roundWeights_66 : decode cX9_roundWeights 66 = .ok (.getfield 93, 3) := by decide +kernel
theorem dX9_roundWeights_69 : decode cX9_roundWeights 69 = .ok (.if_icmp .ge 47, 3) := by decide +kernel
theorem dX9_roundWeights_72 : decode cX9_roundWeights 72 = .ok (.aload_n 0, 1) := by decide +kernel
theorem dX9_roundWeights_73 : decode cX9_roundWeights 73 = .ok (.getfield 14, 3) := by decide +kernel
theorem dX9_roundWeights_76 : decode cX9_roundWeights 76 = .ok (.aload_n 0, 1) := by decide +kernel
theorem dX9_roundWeights_77 : decode cX9_roundWeights 77 = .ok (.getfield 14, 3) := by decide +kernel
theorem dX9_roundWeights_80 : decode cX9_roundWeights 80 = .ok (.getfield 117, 3) := by decide +kernel
theorem dX9_roundWeights_83 : decode cX9_roundWeights 83 = .ok (.iload_n 3, 1) := by decide +kernel
theorem dX9_roundWeights_84 : decode cX9_roundWeights 84 = .ok (.laload, 1) := by decide +kernel
theorem dX9_roundWeights_85 : decode cX9_roundWeights 85 = .ok (.invokevirtual 197, 3) := by decide +kernel
theorem dX9_roundWeights_88 : decode cX9_roundWeights 88 = .ok (.aload_n 0, 1) := by decide +kernel
theorem dX9_roundWeights_89 : decode cX9_roundWeights 89 = .ok (.getfield 14, 3) := by decide +kernel
theorem dX9_roundWeights_92 : decode cX9_roundWeights 92 = .ok (.aload_n 0, 1) := by decide +kernel
theorem dX9_roundWeights_93 : decode cX9_roundWeights 93 = .ok (.getfield 14, 3) := by decide +kernel
theorem dX9_roundWeights_96 : decode cX9_roundWeights 96 = .ok (.getfield 121, 3) := by decide +kernel
theorem dX9_roundWeights_99 : decode cX9_roundWeights 99 = .ok (.iload_n 3, 1) := by decide +kernel
theorem dX9_roundWeights_100 : decode cX9_roundWeights 100 = .ok (.laload, 1) := by decide +kernel
theorem dX9_roundWeights_101 : decode cX9_roundWeights 101 = .ok (.invokevirtual 197, 3) := by decide +kernel
theorem dX9_roundWeights_104 : decode cX9_roundWeights 104 = .ok (.if_icmp .le 6, 3) := by decide +kernel
theorem dX9_roundWeights_107 : decode cX9_roundWeights 107 = .ok (.iinc 2 1, 3) := by decide +kernel
theorem dX9_roundWeights_110 : decode cX9_roundWeights 110 = .ok (.iinc 3 1, 3) := by decide +kernel
theorem dX9_roundWeights_113 : decode cX9_roundWeights 113 = .ok (.goto (-52), 3) := by decide +kernel
theorem dX9_roundWeights_116 : decode cX9_roundWeights 116 = .ok (.iload_n 2, 1) := by decide +kernel
theorem dX9_roundWeights_117 : decode cX9_roundWeights 117 = .ok (.ireturn, 1) := by decide +kernel
theorem dX9_allocate_0 : decode cX9_allocate 0 = .ok (.iload_n 1, 1) := by decide +kernel
theorem dX9_allocate_1 : decode cX9_allocate 1 = .ok (.invokestatic 248, 3) := by decide +kernel
theorem dX9_allocate_4 : decode cX9_allocate 4 = .ok (.ifCond .eq 18, 3) := by decide +kernel
theorem dX9_allocate_7 : decode cX9_allocate 7 = .ok (.iload_n 2, 1) := by decide +kernel
theorem dX9_allocate_8 : decode cX9_allocate 8 = .ok (.ifCond .lt 14, 3) := by decide +kernel
theorem dX9_allocate_11 : decode cX9_allocate 11 = .ok (.iload_n 2, 1) := by decide +kernel
theorem dX9_allocate_12 : decode cX9_allocate 12 = .ok (.iconst 3, 1) := by decide +kernel
theorem dX9_allocate_13 : decode cX9_allocate 13 = .ok (.if_icmp .gt 9, 3) := by decide +kernel
theorem dX9_allocate_16 : decode cX9_allocate 16 = .ok (.iload_n 3, 1) := by decide +kernel
theorem dX9_allocate_17 : decode cX9_allocate 17 = .ok (.bipush 40, 2) := by decide +kernel
theorem dX9_allocate_19 : decode cX9_allocate 19 = .ok (.if_icmp .le 5, 3) := by decide +kernel
theorem dX9_allocate_22 : decode cX9_allocate 22 = .ok (.iconst (-1), 1) := by decide +kernel
theorem dX9_allocate_23 : decode cX9_allocate 23 = .ok (.ireturn, 1) := by decide +kernel
theorem dX9_allocate_24 : decode cX9_allocate 24 = .ok (.iload_n 3, 1) := by decide +kernel
theorem dX9_allocate_25 : decode cX9_allocate 25 = .ok (.ifCond .ge 6, 3) := by decide +kernel
theorem dX9_allocate_28 : decode cX9_allocate 28 = .ok (.bipush (-14), 2) := by decide +kernel
theorem dX9_allocate_30 : decode cX9_allocate 30 = .ok (.ireturn, 1) := by decide +kernel
theorem dX9_allocate_31 : decode cX9_allocate 31 = .ok (.aload_n 0, 1) := by decide +kernel
theorem dX9_allocate_32 : decode cX9_allocate 32 = .ok (.getfield 66, 3) := by decide +kernel
theorem dX9_allocate_35 : decode cX9_allocate 35 = .ok (.iload_n 1, 1) := by decide +kernel
theorem dX9_allocate_36 : decode cX9_allocate 36 = .ok (.aaload, 1) := by decide +kernel
theorem dX9_allocate_37 : decode cX9_allocate 37 = .ok (.iload_n 2, 1) := by decide +kernel
theorem dX9_allocate_38 : decode cX9_allocate 38 = .ok (.iload_n 3, 1) := by decide +kernel
theorem dX9_allocate_39 : decode cX9_allocate 39 = .ok (.invokevirtual 251, 3) := by decide +kernel
theorem dX9_allocate_42 : decode cX9_allocate 42 = .ok (.iload_n 3, 1) := by decide +kernel
theorem dX9_allocate_43 : decode cX9_allocate 43 = .ok (.ireturn, 1) := by decide +kernel
theorem dX9_release_0 : decode cX9_release 0 = .ok (.iload_n 1, 1) := by decide +kernel
theorem dX9_release_1 : decode cX9_release 1 = .ok (.invokestatic 248, 3) := by decide +kernel
theorem dX9_release_4 : decode cX9_release 4 = .ok (.ifCond .ne 5, 3) := by decide +kernel
theorem dX9_release_7 : decode cX9_release 7 = .ok (.iconst (-1), 1) := by decide +kernel
theorem dX9_release_8 : decode cX9_release 8 = .ok (.ireturn, 1) := by decide +kernel
theorem dX9_release_9 : decode cX9_release 9 = .ok (.aload_n 0, 1) := by decide +kernel
theorem dX9_release_10 : decode cX9_release 10 = .ok (.getfield 66, 3) := by decide +kernel
theorem dX9_release_13 : decode cX9_release 13 = .ok (.iload_n 1, 1) := by decide +kernel
theorem dX9_release_14 : decode cX9_release 14 = .ok (.aaload, 1) := by decide +kernel
theorem dX9_release_15 : decode cX9_release 15 = .ok (.invokevirtual 255, 3) := by decide +kernel
theorem dX9_release_18 : decode cX9_release 18 = .ok (.ifCond .ne 7, 3) := by decide +kernel
theorem dX9_release_21 : decode cX9_release 21 = .ok (.iconst 1, 1) := by decide +kernel
theorem dX9_release_22 : decode cX9_release 22 = .ok (.goto 4, 3) := by decide +kernel
theorem dX9_release_25 : decode cX9_release 25 = .ok (.iconst 0, 1) := by decide +kernel
theorem dX9_release_26 : decode cX9_release 26 = .ok (.istore_n 2, 1) := by decide +kernel
theorem dX9_release_27 : decode cX9_release 27 = .ok (.aload_n 0, 1) := by decide +kernel
theorem dX9_release_28 : decode cX9_release 28 = .ok (.getfield 66, 3) := by decide +kernel
theorem dX9_release_31 : decode cX9_release 31 = .ok (.iload_n 1, 1) := by decide +kernel
theorem dX9_release_32 : decode cX9_release 32 = .ok (.aaload, 1) := by decide +kernel
theorem dX9_release_33 : decode cX9_release 33 = .ok (.iconst (-1), 1) := by decide +kernel
theorem dX9_release_34 : decode cX9_release 34 = .ok (.iconst 0, 1) := by decide +kernel
theorem dX9_release_35 : decode cX9_release 35 = .ok (.invokevirtual 251, 3) := by decide +kernel
theorem dX9_release_38 : decode cX9_release 38 = .ok (.iload_n 2, 1) := by decide +kernel
theorem dX9_release_39 : decode cX9_release 39 = .ok (.ifCond .eq 7, 3) := by decide +kernel
theorem dX9_release_42 : decode cX9_release 42 = .ok (.iconst 1, 1) := by decide +kernel
theorem dX9_release_43 : decode cX9_release 43 = .ok (.goto 4, 3) := by decide +kernel
theorem dX9_release_46 : decode cX9_release 46 = .ok (.iconst 0, 1) := by decide +kernel
theorem dX9_release_47 : decode cX9_release 47 = .ok (.ireturn, 1) := by decide +kernel
theorem dX9_putElement_0 : decode cX9_putElement 0 = .ok (.iload_n 1, 1) := by decide +kernel
theorem dX9_putElement_1 : decode cX9_putElement 1 = .ok (.invokestatic 248, 3) := by decide +kernel
theorem dX9_putElement_4 : decode cX9_putElement 4 = .ok (.ifCond .ne 5, 3) := by decide +kernel
theorem dX9_putElement_7 : decode cX9_putElement 7 = .ok (.iconst (-1), 1) := by decide +kernel
theorem dX9_putElement_8 : decode cX9_putElement 8 = .ok (.ireturn, 1) := by decide +kernel
theorem dX9_putElement_9 : decode cX9_putElement 9 = .ok (.aload_n 0, 1) := by decide +kernel
theorem dX9_putElement_10 : decode cX9_putElement 10 = .ok (.getfield 66, 3) := by decide +kernel
theorem dX9_putElement_13 : decode cX9_putElement 13 = .ok (.iload_n 1, 1) := by decide +kernel
theorem dX9_putElement_14 : decode cX9_putElement 14 = .ok (.aaload, 1) := by decide +kernel
theorem dX9_putElement_15 : decode cX9_putElement 15 = .ok (.invokevirtual 255, 3) := by decide +kernel
theorem dX9_putElement_18 : decode cX9_putElement 18 = .ok (.ifCond .eq 6, 3) := by decide +kernel
theorem dX9_putElement_21 : decode cX9_putElement 21 = .ok (.bipush (-11), 2) := by decide +kernel
theorem dX9_putElement_23 : decode cX9_putElement 23 = .ok (.ireturn, 1) := by decide +kernel
theorem dX9_putElement_24 : decode cX9_putElement 24 = .ok (.aload_n 0, 1) := by decide +kernel
theorem dX9_putElement_25 : decode cX9_putElement 25 = .ok (.getfield 66, 3) := by decide +kernel
theorem dX9_putElement_28 : decode cX9_putElement 28 = .ok (.iload_n 1, 1) := by decide +kernel
theorem dX9_putElement_29 : decode cX9_putElement 29 = .ok (.aaload, 1) := by decide +kernel
theorem dX9_putElement_30 : decode cX9_putElement 30 = .ok (.iload_n 2, 1) := by decide +kernel
theorem dX9_putElement_31 : decode cX9_putElement 31 = .ok (.invokevirtual 258, 3) := by decide +kernel
theorem dX9_putElement_34 : decode cX9_putElement 34 = .ok (.ifCond .ne 6, 3) := by decide +kernel
theorem dX9_putElement_37 : decode cX9_putElement 37 = .ok (.bipush (-13), 2) := by decide +kernel
theorem dX9_putElement_39 : decode cX9_putElement 39 = .ok (.ireturn, 1) := by decide +kernel
theorem dX9_putElement_40 : decode cX9_putElement 40 = .ok (.aload_n 0, 1) := by decide +kernel
theorem dX9_putElement_41 : decode cX9_putElement 41 = .ok (.getfield 66, 3) := by decide +kernel
theorem dX9_putElement_44 : decode cX9_putElement 44 = .ok (.iload_n 1, 1) := by decide +kernel
theorem dX9_putElement_45 : decode cX9_putElement 45 = .ok (.aaload, 1) := by decide +kernel
theorem dX9_putElement_46 : decode cX9_putElement 46 = .ok (.iload_n 2, 1) := by decide +kernel
theorem dX9_putElement_47 : decode cX9_putElement 47 = .ok (.lload_n 3, 1) := by decide +kernel
theorem dX9_putElement_48 : decode cX9_putElement 48 = .ok (.invokevirtual 261, 3) := by decide +kernel
theorem dX9_putElement_51 : decode cX9_putElement 51 = .ok (.iconst 1, 1) := by decide +kernel
theorem dX9_putElement_52 : decode cX9_putElement 52 = .ok (.ireturn, 1) := by decide +kernel
theorem dX9_divideElement_0 : decode cX9_divideElement 0 = .ok (.iload_n 1, 1) := by decide +kernel
theorem dX9_divideElement_1 : decode cX9_divideElement 1 = .ok (.invokestatic 248, 3) := by decide +kernel
theorem dX9_divideElement_4 : decode cX9_divideElement 4 = .ok (.ifCond .ne 5, 3) := by decide +kernel
theorem dX9_divideElement_7 : decode cX9_divideElement 7 = .ok (.iconst (-1), 1) := by decide +kernel
theorem dX9_divideElement_8 : decode cX9_divideElement 8 = .ok (.ireturn, 1) := by decide +kernel
theorem dX9_divideElement_9 : decode cX9_divideElement 9 = .ok (.aload_n 0, 1) := by decide +kernel
theorem dX9_divideElement_10 : decode cX9_divideElement 10 = .ok (.getfield 66, 3) := by decide +kernel
theorem dX9_divideElement_13 : decode cX9_divideElement 13 = .ok (.iload_n 1, 1) := by decide +kernel
theorem dX9_divideElement_14 : decode cX9_divideElement 14 = .ok (.aaload, 1) := by decide +kernel
theorem dX9_divideElement_15 : decode cX9_divideElement 15 = .ok (.invokevirtual 255, 3) := by decide +kernel
theorem dX9_divideElement_18 : decode cX9_divideElement 18 = .ok (.ifCond .eq 6, 3) := by decide +kernel
theorem dX9_divideElement_21 : decode cX9_divideElement 21 = .ok (.bipush (-11), 2) := by decide +kernel
theorem dX9_divideElement_23 : decode cX9_divideElement 23 = .ok (.ireturn, 1) := by decide +kernel
theorem dX9_divideElement_24 : decode cX9_divideElement 24 = .ok (.aload_n 0, 1) := by decide +kernel
theorem dX9_divideElement_25 : decode cX9_divideElement 25 = .ok (.getfield 66, 3) := by decide +kernel
theorem dX9_divideElement_28 : decode cX9_divideElement 28 = .ok (.iload_n 1, 1) := by decide +kernel
theorem dX9_divideElement_29 : decode cX9_divideElement 29 = .ok (.aaload, 1) := by decide +kernel
theorem dX9_divideElement_30 : decode cX9_divideElement 30 = .ok (.getfield 264, 3) := by decide +kernel
theorem dX9_divideElement_33 : decode cX9_divideElement 33 = .ok (.iconst 2, 1) := by decide +kernel
theorem dX9_divideElement_34 : decode cX9_divideElement 34 = .ok (.if_icmp .ge 6, 3) := by decide +kernel
theorem dX9_divideElement_37 : decode cX9_divideElement 37 = .ok (.bipush (-12), 2) := by decide +kernel
theorem dX9_divideElement_39 : decode cX9_divideElement 39 = .ok (.ireturn, 1) := by decide +kernel
theorem dX9_divideElement_40 : decode cX9_divideElement 40 = .ok (.aload_n 0, 1) := by decide +kernel
theorem dX9_divideElement_41 : decode cX9_divideElement 41 = .ok (.getfield 66, 3) := by decide +kernel
theorem dX9_divideElement_44 : decode cX9_divideElement 44 = .ok (.iload_n 1, 1) := by decide +kernel
theorem dX9_divideElement_45 : decode cX9_divideElement 45 = .ok (.aaload, 1) := by decide +kernel
theorem dX9_divideElement_46 : decode cX9_divideElement 46 = .ok (.iload_n 2, 1) := by decide +kernel
theorem dX9_divideElement_47 : decode cX9_divideElement 47 = .ok (.invokevirtual 258, 3) := by decide +kernel
theorem dX9_divideElement_50 : decode cX9_divideElement 50 = .ok (.ifCond .ne 6, 3) := by decide +kernel
theorem dX9_divideElement_53 : decode cX9_divideElement 53 = .ok (.bipush (-13), 2) := by decide +kernel
theorem dX9_divideElement_55 : decode cX9_divideElement 55 = .ok (.ireturn, 1) := by decide +kernel
theorem dX9_divideElement_56 : decode cX9_divideElement 56 = .ok (.aload_n 0, 1) := by decide +kernel
theorem dX9_divideElement_57 : decode cX9_divideElement 57 = .ok (.getfield 66, 3) := by decide +kernel
theorem dX9_divideElement_60 : decode cX9_divideElement 60 = .ok (.iload_n 1, 1) := by decide +kernel
theorem dX9_divideElement_61 : decode cX9_divideElement 61 = .ok (.aaload, 1) := by decide +kernel
theorem dX9_divideElement_62 : decode cX9_divideElement 62 = .ok (.iload_n 2, 1) := by decide +kernel
theorem dX9_divideElement_63 : decode cX9_divideElement 63 = .ok (.iload_n 3, 1) := by decide +kernel
theorem dX9_divideElement_64 : decode cX9_divideElement 64 = .ok (.invokevirtual 267, 3) := by decide +kernel
theorem dX9_divideElement_67 : decode cX9_divideElement 67 = .ok (.iconst 1, 1) := by decide +kernel
theorem dX9_divideElement_68 : decode cX9_divideElement 68 = .ok (.ireturn, 1) := by decide +kernel
theorem dX9_element_0 : decode cX9_element 0 = .ok (.iload_n 1, 1) := by decide +kernel
theorem dX9_element_1 : decode cX9_element 1 = .ok (.invokestatic 248, 3) := by decide +kernel
theorem dX9_element_4 : decode cX9_element 4 = .ok (.ifCond .eq 29, 3) := by decide +kernel
theorem dX9_element_7 : decode cX9_element 7 = .ok (.aload_n 0, 1) := by decide +kernel
theorem dX9_element_8 : decode cX9_element 8 = .ok (.getfield 66, 3) := by decide +kernel
theorem dX9_element_11 : decode cX9_element 11 = .ok (.iload_n 1, 1) := by decide +kernel
theorem dX9_element_12 : decode cX9_element 12 = .ok (.aaload, 1) := by decide +kernel
theorem dX9_element_13 : decode cX9_element 13 = .ok (.iload_n 2, 1) := by decide +kernel
theorem dX9_element_14 : decode cX9_element 14 = .ok (.invokevirtual 258, 3) := by decide +kernel
theorem dX9_element_17 : decode cX9_element 17 = .ok (.ifCond .eq 16, 3) := by decide +kernel
theorem dX9_element_20 : decode cX9_element 20 = .ok (.aload_n 0, 1) := by decide +kernel
theorem dX9_element_21 : decode cX9_element 21 = .ok (.getfield 66, 3) := by decide +kernel
theorem dX9_element_24 : decode cX9_element 24 = .ok (.iload_n 1, 1) := by decide +kernel
theorem dX9_element_25 : decode cX9_element 25 = .ok (.aaload, 1) := by decide +kernel
theorem dX9_element_26 : decode cX9_element 26 = .ok (.iload_n 2, 1) := by decide +kernel
theorem dX9_element_27 : decode cX9_element 27 = .ok (.invokevirtual 270, 3) := by decide +kernel
theorem dX9_element_30 : decode cX9_element 30 = .ok (.goto 6, 3) := by decide +kernel
theorem dX9_element_33 : decode cX9_element 33 = .ok (.ldc2_w 242, 3) := by decide +kernel
theorem dX9_element_36 : decode cX9_element 36 = .ok (.lreturn, 1) := by decide +kernel
theorem dX9_copyElements_0 : decode cX9_copyElements 0 = .ok (.iload_n 1, 1) := by decide +kernel
theorem dX9_copyElements_1 : decode cX9_copyElements 1 = .ok (.invokestatic 248, 3) := by decide +kernel
theorem dX9_copyElements_4 : decode cX9_copyElements 4 = .ok (.ifCond .eq 10, 3) := by decide +kernel
theorem dX9_copyElements_7 : decode cX9_copyElements 7 = .ok (.iload_n 3, 1) := by decide +kernel
theorem dX9_copyElements_8 : decode cX9_copyElements 8 = .ok (.invokestatic 248, 3) := by decide +kernel
theorem dX9_copyElements_11 : decode cX9_copyElements 11 = .ok (.ifCond .ne 5, 3) := by decide +kernel
theorem dX9_copyElements_14 : decode cX9_copyElements 14 = .ok (.iconst (-1), 1) := by decide +kernel
theorem dX9_copyElements_15 : decode cX9_copyElements 15 = .ok (.ireturn, 1) := by decide +kernel
theorem dX9_copyElements_16 : decode cX9_copyElements 16 = .ok (.aload_n 0, 1) := by decide +kernel
theorem dX9_copyElements_17 : decode cX9_copyElements 17 = .ok (.getfield 66, 3) := by decide +kernel
theorem dX9_copyElements_20 : decode cX9_copyElements 20 = .ok (.iload_n 1, 1) := by decide +kernel
theorem dX9_copyElements_21 : decode cX9_copyElements 21 = .ok (.aaload, 1) := by decide +kernel
theorem dX9_copyElements_22 : decode cX9_copyElements 22 = .ok (.invokevirtual 255, 3) := by decide +kernel
theorem dX9_copyElements_25 : decode cX9_copyElements 25 = .ok (.ifCond .ne 15, 3) := by decide +kernel
theorem dX9_copyElements_28 : decode cX9_copyElements 28 = .ok (.aload_n 0, 1) := by decide +kernel
theorem dX9_copyElements_29 : decode cX9_copyElements 29 = .ok (.getfield 66, 3) := by decide +kernel
theorem dX9_copyElements_32 : decode cX9_copyElements 32 = .ok (.iload_n 3, 1) := by decide +kernel
theorem dX9_copyElements_33 : decode cX9_copyElements 33 = .ok (.aaload, 1) := by decide +kernel
theorem dX9_copyElements_34 : decode cX9_copyElements 34 = .ok (.invokevirtual 255, 3) := by decide +kernel
theorem dX9_copyElements_37 : decode cX9_copyElements 37 = .ok (.ifCond .eq 6, 3) := by decide +kernel
theorem dX9_copyElements_40 : decode cX9_copyElements 40 = .ok (.bipush (-11), 2) := by decide +kernel
theorem dX9_copyElements_42 : decode cX9_copyElements 42 = .ok (.ireturn, 1) := by decide +kernel
theorem dX9_copyElements_43 : decode cX9_copyElements 43 = .ok (.aload_n 0, 1) := by decide +kernel
theorem dX9_copyElements_44 : decode cX9_copyElements 44 = .ok (.getfield 66, 3) := by decide +kernel
theorem dX9_copyElements_47 : decode cX9_copyElements 47 = .ok (.iload_n 1, 1) := by decide +kernel
theorem dX9_copyElements_48 : decode cX9_copyElements 48 = .ok (.aaload, 1) := by decide +kernel
theorem dX9_copyElements_49 : decode cX9_copyElements 49 = .ok (.getfield 264, 3) := by decide +kernel
theorem dX9_copyElements_52 : decode cX9_copyElements 52 = .ok (.aload_n 0, 1) := by decide +kernel
theorem dX9_copyElements_53 : decode cX9_copyElements 53 = .ok (.getfield 66, 3) := by decide +kernel
theorem dX9_copyElements_56 : decode cX9_copyElements 56 = .ok (.iload_n 3, 1) := by decide +kernel
theorem dX9_copyElements_57 : decode cX9_copyElements 57 = .ok (.aaload, 1) := by decide +kernel
theorem dX9_copyElements_58 : decode cX9_copyElements 58 = .ok (.getfield 264, 3) := by decide +kernel
theorem dX9_copyElements_61 : decode cX9_copyElements 61 = .ok (.if_icmp .eq 6, 3) := by decide +kernel
theorem dX9_copyElements_64 : decode cX9_copyElements 64 = .ok (.bipush (-12), 2) := by decide +kernel
theorem dX9_copyElements_66 : decode cX9_copyElements 66 = .ok (.ireturn, 1) := by decide +kernel
theorem dX9_copyElements_67 : decode cX9_copyElements 67 = .ok (.aload_n 0, 1) := by decide +kernel
theorem dX9_copyElements_68 : decode cX9_copyElements 68 = .ok (.getfield 66, 3) := by decide +kernel
theorem dX9_copyElements_71 : decode cX9_copyElements 71 = .ok (.iload_n 1, 1) := by decide +kernel
theorem dX9_copyElements_72 : decode cX9_copyElements 72 = .ok (.aaload, 1) := by decide +kernel
theorem dX9_copyElements_73 : decode cX9_copyElements 73 = .ok (.iload_n 2, 1) := by decide +kernel
theorem dX9_copyElements_74 : decode cX9_copyElements 74 = .ok (.iload 5, 2) := by decide +kernel
theorem dX9_copyElements_76 : decode cX9_copyElements 76 = .ok (.invokevirtual 274, 3) := by decide +kernel
theorem dX9_copyElements_79 : decode cX9_copyElements 79 = .ok (.ifCond .eq 19, 3) := by decide +kernel
theorem dX9_copyElements_82 : decode cX9_copyElements 82 = .ok (.aload_n 0, 1) := by decide +kernel
theorem dX9_copyElements_83 : decode cX9_copyElements 83 = .ok (.getfield 66, 3) := by decide +kernel
theorem dX9_copyElements_86 : decode cX9_copyElements 86 = .ok (.iload_n 3, 1) := by decide +kernel
theorem dX9_copyElements_87 : decode cX9_copyElements 87 = .ok (.aaload, 1) := by decide +kernel
theorem dX9_copyElements_88 : decode cX9_copyElements 88 = .ok (.iload 4, 2) := by decide +kernel
theorem dX9_copyElements_90 : decode cX9_copyElements 90 = .ok (.iload 5, 2) := by decide +kernel
theorem dX9_copyElements_92 : decode cX9_copyElements 92 = .ok (.invokevirtual 274, 3) := by decide +kernel
theorem dX9_copyElements_95 : decode cX9_copyElements 95 = .ok (.ifCond .ne 6, 3) := by decide +kernel
theorem dX9_copyElements_98 : decode cX9_copyElements 98 = .ok (.bipush (-13), 2) := by decide +kernel
theorem dX9_copyElements_100 : decode cX9_copyElements 100 = .ok (.ireturn, 1) := by decide +kernel
theorem dX9_copyElements_101 : decode cX9_copyElements 101 = .ok (.aload_n 0, 1) := by decide +kernel
theorem dX9_copyElements_102 : decode cX9_copyElements 102 = .ok (.getfield 66, 3) := by decide +kernel
theorem dX9_copyElements_105 : decode cX9_copyElements 105 = .ok (.iload_n 3, 1) := by decide +kernel
theorem dX9_copyElements_106 : decode cX9_copyElements 106 = .ok (.aaload, 1) := by decide +kernel
theorem dX9_copyElements_107 : decode cX9_copyElements 107 = .ok (.aload_n 0, 1) := by decide +kernel
theorem dX9_copyElements_108 : decode cX9_copyElements 108 = .ok (.getfield 66, 3) := by decide +kernel
theorem dX9_copyElements_111 : decode cX9_copyElements 111 = .ok (.iload_n 1, 1) := by decide +kernel
theorem dX9_copyElements_112 : decode cX9_copyElements 112 = .ok (.aaload, 1) := by decide +kernel
theorem dX9_copyElements_113 : decode cX9_copyElements 113 = .ok (.iload_n 2, 1) := by decide +kernel
theorem dX9_copyElements_114 : decode cX9_copyElements 114 = .ok (.iload 4, 2) := by decide +kernel
theorem dX9_copyElements_116 : decode cX9_copyElements 116 = .ok (.iload 5, 2) := by decide +kernel
theorem dX9_copyElements_118 : decode cX9_copyElements 118 = .ok (.invokevirtual 277, 3) := by decide +kernel
theorem dX9_copyElements_121 : decode cX9_copyElements 121 = .ok (.iload 5, 2) := by decide +kernel
theorem dX9_copyElements_123 : decode cX9_copyElements 123 = .ok (.ireturn, 1) := by decide +kernel
theorem dX9_checkCertificate_0 : decode cX9_checkCertificate 0 = .ok (.iload_n 1, 1) := by decide +kernel
theorem dX9_checkCertificate_1 : decode cX9_checkCertificate 1 = .ok (.invokestatic 248, 3) := by decide +kernel
theorem dX9_checkCertificate_4 : decode cX9_checkCertificate 4 = .ok (.ifCond .ne 5, 3) := by decide +kernel
theorem dX9_checkCertificate_7 : decode cX9_checkCertificate 7 = .ok (.iconst (-1), 1) := by decide +kernel
theorem dX9_checkCertificate_8 : decode cX9_checkCertificate 8 = .ok (.ireturn, 1) := by decide +kernel
theorem dX9_checkCertificate_9 : decode cX9_checkCertificate 9 = .ok (.aload_n 0, 1) := by decide +kernel
theorem dX9_checkCertificate_10 : decode cX9_checkCertificate 10 = .ok (.getfield 66, 3) := by decide +kernel
theorem dX9_checkCertificate_13 : decode cX9_checkCertificate 13 = .ok (.iload_n 1, 1) := by decide +kernel
theorem dX9_checkCertificate_14 : decode cX9_checkCertificate 14 = .ok (.aaload, 1) := by decide +kernel
theorem dX9_checkCertificate_15 : decode cX9_checkCertificate 15 = .ok (.invokevirtual 255, 3) := by decide +kernel
theorem dX9_checkCertificate_18 : decode cX9_checkCertificate 18 = .ok (.ifCond .eq 6, 3) := by decide +kernel
theorem dX9_checkCertificate_21 : decode cX9_checkCertificate 21 = .ok (.bipush (-11), 2) := by decide +kernel
theorem dX9_checkCertificate_23 : decode cX9_checkCertificate 23 = .ok (.ireturn, 1) := by decide +kernel
theorem dX9_checkCertificate_24 : decode cX9_checkCertificate 24 = .ok (.aload_n 0, 1) := by decide +kernel
theorem dX9_checkCertificate_25 : decode cX9_checkCertificate 25 = .ok (.getfield 66, 3) := by decide +kernel
theorem dX9_checkCertificate_28 : decode cX9_checkCertificate 28 = .ok (.iload_n 1, 1) := by decide +kernel
theorem dX9_checkCertificate_29 : decode cX9_checkCertificate 29 = .ok (.aaload, 1) := by decide +kernel
theorem dX9_checkCertificate_30 : decode cX9_checkCertificate 30 = .ok (.getfield 264, 3) := by decide +kernel
theorem dX9_checkCertificate_33 : decode cX9_checkCertificate 33 = .ok (.ifCond .eq 6, 3) := by decide +kernel
theorem dX9_checkCertificate_36 : decode cX9_checkCertificate 36 = .ok (.bipush (-12), 2) := by decide +kernel
theorem dX9_checkCertificate_38 : decode cX9_checkCertificate 38 = .ok (.ireturn, 1) := by decide +kernel
theorem dX9_checkCertificate_39 : decode cX9_checkCertificate 39 = .ok (.aload_n 0, 1) := by decide +kernel
theorem dX9_checkCertificate_40 : decode cX9_checkCertificate 40 = .ok (.getfield 66, 3) := by decide +kernel
theorem dX9_checkCertificate_43 : decode cX9_checkCertificate 43 = .ok (.iload_n 1, 1) := by decide +kernel
theorem dX9_checkCertificate_44 : decode cX9_checkCertificate 44 = .ok (.aaload, 1) := by decide +kernel
theorem dX9_checkCertificate_45 : decode cX9_checkCertificate 45 = .ok (.getfield 281, 3) := by decide +kernel
theorem dX9_checkCertificate_48 : decode cX9_checkCertificate 48 = .ok (.aload_n 0, 1) := by decide +kernel
theorem dX9_checkCertificate_49 : decode cX9_checkCertificate 49 = .ok (.getfield 14, 3) := by decide +kernel
theorem dX9_checkCertificate_52 : decode cX9_checkCertificate 52 = .ok (.getfield 93, 3) := by decide +kernel
theorem dX9_checkCertificate_55 : decode cX9_checkCertificate 55 = .ok (.if_icmp .ge 6, 3) := by decide +kernel
theorem dX9_checkCertificate_58 : decode cX9_checkCertificate 58 = .ok (.bipush (-13), 2) := by decide +kernel
theorem dX9_checkCertificate_60 : decode cX9_checkCertificate 60 = .ok (.ireturn, 1) := by decide +kernel
theorem dX9_checkCertificate_61 : decode cX9_checkCertificate 61 = .ok (.aload_n 0, 1) := by decide +kernel
theorem dX9_checkCertificate_62 : decode cX9_checkCertificate 62 = .ok (.aload_n 0, 1) := by decide +kernel
theorem dX9_checkCertificate_63 : decode cX9_checkCertificate 63 = .ok (.getfield 66, 3) := by decide +kernel
theorem dX9_checkCertificate_66 : decode cX9_checkCertificate 66 = .ok (.iload_n 1, 1) := by decide +kernel
theorem dX9_checkCertificate_67 : decode cX9_checkCertificate 67 = .ok (.aaload, 1) := by decide +kernel
theorem dX9_checkCertificate_68 : decode cX9_checkCertificate 68 = .ok (.getfield 284, 3) := by decide +kernel
theorem dX9_checkCertificate_71 : decode cX9_checkCertificate 71 = .ok (.invokevirtual 287, 3) := by decide +kernel
theorem dX9_checkCertificate_74 : decode cX9_checkCertificate 74 = .ok (.ifCond .eq 7, 3) := by decide +kernel
theorem dX9_checkCertificate_77 : decode cX9_checkCertificate 77 = .ok (.iconst 1, 1) := by decide +kernel
theorem dX9_checkCertificate_78 : decode cX9_checkCertificate 78 = .ok (.goto 4, 3) := by decide +kernel
theorem dX9_checkCertificate_81 : decode cX9_checkCertificate 81 = .ok (.iconst 0, 1) := by decide +kernel
theorem dX9_checkCertificate_82 : decode cX9_checkCertificate 82 = .ok (.ireturn, 1) := by decide +kernel
theorem dX9_snapshot_0 : decode cX9_snapshot 0 = .ok (.aload_n 0, 1) := by decide +kernel
theorem dX9_snapshot_1 : decode cX9_snapshot 1 = .ok (.getfield 18, 3) := by decide +kernel
theorem dX9_snapshot_4 : decode cX9_snapshot 4 = .ok (.aload_n 0, 1) := by decide +kernel
theorem dX9_snapshot_5 : decode cX9_snapshot 5 = .ok (.getfield 14, 3) := by decide +kernel
theorem dX9_snapshot_8 : decode cX9_snapshot 8 = .ok (.invokevirtual 291, 3) := by decide +kernel
theorem dX9_snapshot_11 : decode cX9_snapshot 11 = .ok (.aload_n 0, 1) := by decide +kernel
theorem dX9_snapshot_12 : decode cX9_snapshot 12 = .ok (.iconst 1, 1) := by decide +kernel
theorem dX9_snapshot_13 : decode cX9_snapshot 13 = .ok (.putfield 21, 3) := by decide +kernel
theorem dX9_snapshot_16 : decode cX9_snapshot 16 = .ok (.aload_n 0, 1) := by decide +kernel
theorem dX9_snapshot_17 : decode cX9_snapshot 17 = .ok (.getfield 14, 3) := by decide +kernel
theorem dX9_snapshot_20 : decode cX9_snapshot 20 = .ok (.getfield 93, 3) := by decide +kernel
theorem dX9_snapshot_23 : decode cX9_snapshot 23 = .ok (.ireturn, 1) := by decide +kernel
theorem dX9_restore_0 : decode cX9_restore 0 = .ok (.aload_n 0, 1) := by decide +kernel
theorem dX9_restore_1 : decode cX9_restore 1 = .ok (.getfield 21, 3) := by decide +kernel
theorem dX9_restore_4 : decode cX9_restore 4 = .ok (.ifCond .ne 6, 3) := by decide +kernel
theorem dX9_restore_7 : decode cX9_restore 7 = .ok (.bipush (-6), 2) := by decide +kernel
theorem dX9_restore_9 : decode cX9_restore 9 = .ok (.ireturn, 1) := by decide +kernel
theorem dX9_restore_10 : decode cX9_restore 10 = .ok (.aload_n 0, 1) := by decide +kernel
theorem dX9_restore_11 : decode cX9_restore 11 = .ok (.getfield 14, 3) := by decide +kernel
theorem dX9_restore_14 : decode cX9_restore 14 = .ok (.aload_n 0, 1) := by decide +kernel
theorem dX9_restore_15 : decode cX9_restore 15 = .ok (.getfield 18, 3) := by decide +kernel
theorem dX9_restore_18 : decode cX9_restore 18 = .ok (.invokevirtual 291, 3) := by decide +kernel
theorem dX9_restore_21 : decode cX9_restore 21 = .ok (.aload_n 0, 1) := by decide +kernel
theorem dX9_restore_22 : decode cX9_restore 22 = .ok (.getfield 35, 3) := by decide +kernel
theorem dX9_restore_25 : decode cX9_restore 25 = .ok (.iconst 0, 1) := by decide +kernel
theorem dX9_restore_26 : decode cX9_restore 26 = .ok (.putfield 79, 3) := by decide +kernel
theorem dX9_restore_29 : decode cX9_restore 29 = .ok (.aload_n 0, 1) := by decide +kernel
theorem dX9_restore_30 : decode cX9_restore 30 = .ok (.getfield 14, 3) := by decide +kernel
theorem dX9_restore_33 : decode cX9_restore 33 = .ok (.getfield 93, 3) := by decide +kernel
theorem dX9_restore_36 : decode cX9_restore 36 = .ok (.ireturn, 1) := by decide +kernel
theorem dX9_letterOrNone_0 : decode cX9_letterOrNone 0 = .ok (.iload_n 2, 1) := by decide +kernel
theorem dX9_letterOrNone_1 : decode cX9_letterOrNone 1 = .ok (.ifCond .lt 19, 3) := by decide +kernel
theorem dX9_letterOrNone_4 : decode cX9_letterOrNone 4 = .ok (.iload_n 2, 1) := by decide +kernel
theorem dX9_letterOrNone_5 : decode cX9_letterOrNone 5 = .ok (.lload_n 0, 1) := by decide +kernel
theorem dX9_letterOrNone_6 : decode cX9_letterOrNone 6 = .ok (.invokestatic 194, 3) := by decide +kernel
theorem dX9_letterOrNone_9 : decode cX9_letterOrNone 9 = .ok (.if_icmp .ge 11, 3) := by decide +kernel
theorem dX9_letterOrNone_12 : decode cX9_letterOrNone 12 = .ok (.lload_n 0, 1) := by decide +kernel
theorem dX9_letterOrNone_13 : decode cX9_letterOrNone 13 = .ok (.iload_n 2, 1) := by decide +kernel
theorem dX9_letterOrNone_14 : decode cX9_letterOrNone 14 = .ok (.invokestatic 294, 3) := by decide +kernel
theorem dX9_letterOrNone_17 : decode cX9_letterOrNone 17 = .ok (.goto 5, 3) := by decide +kernel
theorem dX9_letterOrNone_20 : decode cX9_letterOrNone 20 = .ok (.bipush (-6), 2) := by decide +kernel
theorem dX9_letterOrNone_22 : decode cX9_letterOrNone 22 = .ok (.ireturn, 1) := by decide +kernel
theorem dX9_takeString_0 : decode cX9_takeString 0 = .ok (.aload_n 0, 1) := by decide +kernel
theorem dX9_takeString_1 : decode cX9_takeString 1 = .ok (.getfield 28, 3) := by decide +kernel
theorem dX9_takeString_4 : decode cX9_takeString 4 = .ok (.invokevirtual 89, 3) := by decide +kernel
theorem dX9_takeString_7 : decode cX9_takeString 7 = .ok (.istore_n 1, 1) := by decide +kernel
theorem dX9_takeString_8 : decode cX9_takeString 8 = .ok (.aload_n 0, 1) := by decide +kernel
theorem dX9_takeString_9 : decode cX9_takeString 9 = .ok (.getfield 28, 3) := by decide +kernel
theorem dX9_takeString_12 : decode cX9_takeString 12 = .ok (.iconst 0, 1) := by decide +kernel
theorem dX9_takeString_13 : decode cX9_takeString 13 = .ok (.iload_n 1, 1) := by decide +kernel
theorem dX9_takeString_14 : decode cX9_takeString 14 = .ok (.bipush 12, 2) := by decide +kernel
theorem dX9_takeString_16 : decode cX9_takeString 16 = .ok (.aload_n 0, 1) := by decide +kernel
theorem dX9_takeString_17 : decode cX9_takeString 17 = .ok (.getfield 14, 3) := by decide +kernel
theorem dX9_takeString_20 : decode cX9_takeString 20 = .ok (.getfield 71, 3) := by decide +kernel
theorem dX9_takeString_23 : decode cX9_takeString 23 = .ok (.invokevirtual 100, 3) := by decide +kernel
theorem dX9_takeString_26 : decode cX9_takeString 26 = .ok (.lreturn, 1) := by decide +kernel
theorem dX9_takeFoundLevels_0 : decode cX9_takeFoundLevels 0 = .ok (.aload_n 0, 1) := by decide +kernel
theorem dX9_takeFoundLevels_1 : decode cX9_takeFoundLevels 1 = .ok (.getfield 56, 3) := by decide +kernel
theorem dX9_takeFoundLevels_4 : decode cX9_takeFoundLevels 4 = .ok (.getfield 297, 3) := by decide +kernel
theorem dX9_takeFoundLevels_7 : decode cX9_takeFoundLevels 7 = .ok (.iconst 0, 1) := by decide +kernel
theorem dX9_takeFoundLevels_8 : decode cX9_takeFoundLevels 8 = .ok (.aload_n 0, 1) := by decide +kernel
theorem dX9_takeFoundLevels_9 : decode cX9_takeFoundLevels 9 = .ok (.getfield 14, 3) := by decide +kernel
theorem dX9_takeFoundLevels_12 : decode cX9_takeFoundLevels 12 = .ok (.getfield 138, 3) := by decide +kernel
theorem dX9_takeFoundLevels_15 : decode cX9_takeFoundLevels 15 = .ok (.iconst 0, 1) := by decide +kernel
theorem dX9_takeFoundLevels_16 : decode cX9_takeFoundLevels 16 = .ok (.aload_n 0, 1) := by decide +kernel
theorem dX9_takeFoundLevels_17 : decode cX9_takeFoundLevels 17 = .ok (.getfield 14, 3) := by decide +kernel
theorem dX9_takeFoundLevels_20 : decode cX9_takeFoundLevels 20 = .ok (.getfield 71, 3) := by decide +kernel
theorem dX9_takeFoundLevels_23 : decode cX9_takeFoundLevels 23 = .ok (.invokestatic 298, 3) := by decide +kernel
theorem dX9_takeFoundLevels_26 : decode cX9_takeFoundLevels 26 = .ok (.return_, 1) := by decide +kernel
theorem dX9_writeTriedWeights_0 : decode cX9_writeTriedWeights 0 = .ok (.iload_n 1, 1) := by decide +kernel
theorem dX9_writeTriedWeights_1 : decode cX9_writeTriedWeights 1 = .ok (.istore_n 2, 1) := by decide +kernel
theorem dX9_writeTriedWeights_2 : decode cX9_writeTriedWeights 2 = .ok (.aload_n 0, 1) := by decide +kernel
theorem dX9_writeTriedWeights_3 : decode cX9_writeTriedWeights 3 = .ok (.getfield 14, 3) := by decide +kernel
theorem dX9_writeTriedWeights_6 : decode cX9_writeTriedWeights 6 = .ok (.getfield 71, 3) := by decide +kernel
theorem dX9_writeTriedWeights_9 : decode cX9_writeTriedWeights 9 = .ok (.iconst 1, 1) := by decide +kernel
theorem dX9_writeTriedWeights_10 : decode cX9_writeTriedWeights 10 = .ok (.isub, 1) := by decide +kernel
theorem dX9_writeTriedWeights_11 : decode cX9_writeTriedWeights 11 = .ok (.istore_n 3, 1) := by decide +kernel
theorem dX9_writeTriedWeights_12 : decode cX9_writeTriedWeights 12 = .ok (.iload_n 3, 1) := by decide +kernel
theorem dX9_writeTriedWeights_13 : decode cX9_writeTriedWeights 13 = .ok (.ifCond .lt 22, 3) := by decide +kernel
theorem dX9_writeTriedWeights_16 : decode cX9_writeTriedWeights 16 = .ok (.aload_n 0, 1) := by decide +kernel
theorem dX9_writeTriedWeights_17 : decode cX9_writeTriedWeights 17 = .ok (.getfield 60, 3) := by decide +kernel
theorem dX9_writeTriedWeights_20 : decode cX9_writeTriedWeights 20 = .ok (.iload_n 3, 1) := by decide +kernel
theorem dX9_writeTriedWeights_21 : decode cX9_writeTriedWeights 21 = .ok (.iload_n 2, 1) := by decide +kernel
theorem dX9_writeTriedWeights_22 : decode cX9_writeTriedWeights 22 = .ok (.iconst 3, 1) := by decide +kernel
theorem dX9_writeTriedWeights_23 : decode cX9_writeTriedWeights 23 = .ok (.irem, 1) := by decide +kernel
theorem dX9_writeTriedWeights_24 : decode cX9_writeTriedWeights 24 = .ok (.iastore, 1) := by decide +kernel
theorem dX9_writeTriedWeights_25 : decode cX9_writeTriedWeights 25 = .ok (.iload_n 2, 1) := by decide +kernel
theorem dX9_writeTriedWeights_26 : decode cX9_writeTriedWeights 26 = .ok (.iconst 3, 1) := by decide +kernel
theorem dX9_writeTriedWeights_27 : decode cX9_writeTriedWeights 27 = .ok (.idiv, 1) := by decide +kernel
theorem dX9_writeTriedWeights_28 : decode cX9_writeTriedWeights 28 = .ok (.istore_n 2, 1) := by decide +kernel
theorem dX9_writeTriedWeights_29 : decode cX9_writeTriedWeights 29 = .ok (.iinc 3 (-1), 3) := by decide +kernel
theorem dX9_writeTriedWeights_32 : decode cX9_writeTriedWeights 32 = .ok (.goto (-20), 3) := by decide +kernel
theorem dX9_writeTriedWeights_35 : decode cX9_writeTriedWeights 35 = .ok (.return_, 1) := by decide +kernel
theorem dX9_takeFoundOrder_0 : decode cX9_takeFoundOrder 0 = .ok (.aload_n 0, 1) := by decide +kernel
theorem dX9_takeFoundOrder_1 : decode cX9_takeFoundOrder 1 = .ok (.getfield 60, 3) := by decide +kernel
theorem dX9_takeFoundOrder_4 : decode cX9_takeFoundOrder 4 = .ok (.iconst 0, 1) := by decide +kernel
theorem dX9_takeFoundOrder_5 : decode cX9_takeFoundOrder 5 = .ok (.aload_n 0, 1) := by decide +kernel
theorem dX9_takeFoundOrder_6 : decode cX9_takeFoundOrder 6 = .ok (.getfield 14, 3) := by decide +kernel
theorem dX9_takeFoundOrder_9 : decode cX9_takeFoundOrder 9 = .ok (.getfield 135, 3) := by decide +kernel
theorem dX9_takeFoundOrder_12 : decode cX9_takeFoundOrder 12 = .ok (.iconst 0, 1) := by decide +kernel
theorem dX9_takeFoundOrder_13 : decode cX9_takeFoundOrder 13 = .ok (.aload_n 0, 1) := by decide +kernel
theorem dX9_takeFoundOrder_14 : decode cX9_takeFoundOrder 14 = .ok (.getfield 14, 3) := by decide +kernel
theorem dX9_takeFoundOrder_17 : decode cX9_takeFoundOrder 17 = .ok (.getfield 71, 3) := by decide +kernel
theorem dX9_takeFoundOrder_20 : decode cX9_takeFoundOrder 20 = .ok (.invokestatic 298, 3) := by decide +kernel
theorem dX9_takeFoundOrder_23 : decode cX9_takeFoundOrder 23 = .ok (.aload_n 0, 1) := by decide +kernel
theorem dX9_takeFoundOrder_24 : decode cX9_takeFoundOrder 24 = .ok (.getfield 14, 3) := by decide +kernel
theorem dX9_takeFoundOrder_27 : decode cX9_takeFoundOrder 27 = .ok (.iload_n 1, 1) := by decide +kernel
theorem dX9_takeFoundOrder_28 : decode cX9_takeFoundOrder 28 = .ok (.putfield 141, 3) := by decide +kernel
theorem dX9_takeFoundOrder_31 : decode cX9_takeFoundOrder 31 = .ok (.aload_n 0, 1) := by decide +kernel
theorem dX9_takeFoundOrder_32 : decode cX9_takeFoundOrder 32 = .ok (.invokevirtual 179, 3) := by decide +kernel
theorem dX9_takeFoundOrder_35 : decode cX9_takeFoundOrder 35 = .ok (.return_, 1) := by decide +kernel
theorem dX9_millionths_0 : decode cX9_millionths 0 = .ok (.fload_n 0, 1) := by decide +kernel
theorem dX9_millionths_1 : decode cX9_millionths 1 = .ok (.f2d, 1) := by decide +kernel
theorem dX9_millionths_2 : decode cX9_millionths 2 = .ok (.ldc2_w 304, 3) := by decide +kernel
theorem dX9_millionths_5 : decode cX9_millionths 5 = .ok (.dmul, 1) := by decide +kernel
theorem dX9_millionths_6 : decode cX9_millionths 6 = .ok (.d2l, 1) := by decide +kernel
theorem dX9_millionths_7 : decode cX9_millionths 7 = .ok (.lreturn, 1) := by decide +kernel
theorem dX9_roundedWeight_0 : decode cX9_roundedWeight 0 = .ok (.dload_n 0, 1) := by decide +kernel
theorem dX9_roundedWeight_1 : decode cX9_roundedWeight 1 = .ok (.ldc2_w 306, 3) := by decide +kernel
theorem dX9_roundedWeight_4 : decode cX9_roundedWeight 4 = .ok (.dcmp .l, 1) := by decide +kernel
theorem dX9_roundedWeight_5 : decode cX9_roundedWeight 5 = .ok (.ifCond .lt 6, 3) := by decide +kernel
theorem dX9_roundedWeight_8 : decode cX9_roundedWeight 8 = .ok (.bipush 99, 2) := by decide +kernel
theorem dX9_roundedWeight_10 : decode cX9_roundedWeight 10 = .ok (.ireturn, 1) := by decide +kernel
theorem dX9_roundedWeight_11 : decode cX9_roundedWeight 11 = .ok (.dload_n 0, 1) := by decide +kernel
theorem dX9_roundedWeight_12 : decode cX9_roundedWeight 12 = .ok (.d2i, 1) := by decide +kernel
theorem dX9_roundedWeight_13 : decode cX9_roundedWeight 13 = .ok (.istore_n 2, 1) := by decide +kernel
theorem dX9_roundedWeight_14 : decode cX9_roundedWeight 14 = .ok (.dload_n 0, 1) := by decide +kernel
theorem dX9_roundedWeight_15 : decode cX9_roundedWeight 15 = .ok (.iload_n 2, 1) := by decide +kernel
theorem dX9_roundedWeight_16 : decode cX9_roundedWeight 16 = .ok (.i2d, 1) := by decide +kernel
theorem dX9_roundedWeight_17 : decode cX9_roundedWeight 17 = .ok (.dsub, 1) := by decide +kernel
theorem dX9_roundedWeight_18 : decode cX9_roundedWeight 18 = .ok (.dstore_n 3, 1) := by decide +kernel
theorem dX9_roundedWeight_19 : decode cX9_roundedWeight 19 = .ok (.dload_n 3, 1) := by decide +kernel
theorem dX9_roundedWeight_20 : decode cX9_roundedWeight 20 = .ok (.ldc2_w 308, 3) := by decide +kernel
theorem dX9_roundedWeight_23 : decode cX9_roundedWeight 23 = .ok (.dcmp .l, 1) := by decide +kernel
theorem dX9_roundedWeight_24 : decode cX9_roundedWeight 24 = .ok (.ifCond .gt 18, 3) := by decide +kernel
theorem dX9_roundedWeight_27 : decode cX9_roundedWeight 27 = .ok (.dload_n 3, 1) := by decide +kernel
theorem dX9_roundedWeight_28 : decode cX9_roundedWeight 28 = .ok (.ldc2_w 308, 3) := by decide +kernel
theorem dX9_roundedWeight_31 : decode cX9_roundedWeight 31 = .ok (.dcmp .l, 1) := by decide +kernel
theorem dX9_roundedWeight_32 : decode cX9_roundedWeight 32 = .ok (.ifCond .ne 14, 3) := by decide +kernel
theorem dX9_roundedWeight_35 : decode cX9_roundedWeight 35 = .ok (.iload_n 2, 1) := by decide +kernel
theorem dX9_roundedWeight_36 : decode cX9_roundedWeight 36 = .ok (.iconst 2, 1) := by decide +kernel
theorem dX9_roundedWeight_37 : decode cX9_roundedWeight 37 = .ok (.irem, 1) := by decide +kernel
theorem dX9_roundedWeight_38 : decode cX9_roundedWeight 38 = .ok (.iconst 1, 1) := by decide +kernel
theorem dX9_roundedWeight_39 : decode cX9_roundedWeight 39 = .ok (.if_icmp .ne 7, 3) := by decide +kernel
theorem dX9_roundedWeight_42 : decode cX9_roundedWeight 42 = .ok (.iconst 1, 1) := by decide +kernel
theorem dX9_roundedWeight_43 : decode cX9_roundedWeight 43 = .ok (.goto 4, 3) := by decide +kernel
theorem dX9_roundedWeight_46 : decode cX9_roundedWeight 46 = .ok (.iconst 0, 1) := by decide +kernel
theorem dX9_roundedWeight_47 : decode cX9_roundedWeight 47 = .ok (.istore 5, 2) := by decide +kernel
theorem dX9_roundedWeight_49 : decode cX9_roundedWeight 49 = .ok (.iload 5, 2) := by decide +kernel
theorem dX9_roundedWeight_51 : decode cX9_roundedWeight 51 = .ok (.ifCond .eq 9, 3) := by decide +kernel
theorem dX9_roundedWeight_54 : decode cX9_roundedWeight 54 = .ok (.iload_n 2, 1) := by decide +kernel
theorem dX9_roundedWeight_55 : decode cX9_roundedWeight 55 = .ok (.iconst 1, 1) := by decide +kernel
theorem dX9_roundedWeight_56 : decode cX9_roundedWeight 56 = .ok (.iadd, 1) := by decide +kernel
theorem dX9_roundedWeight_57 : decode cX9_roundedWeight 57 = .ok (.goto 4, 3) := by decide +kernel
theorem dX9_roundedWeight_60 : decode cX9_roundedWeight 60 = .ok (.iload_n 2, 1) := by decide +kernel
theorem dX9_roundedWeight_61 : decode cX9_roundedWeight 61 = .ok (.ireturn, 1) := by decide +kernel
theorem dX9_isSlot_0 : decode cX9_isSlot 0 = .ok (.iload_n 0, 1) := by decide +kernel
theorem dX9_isSlot_1 : decode cX9_isSlot 1 = .ok (.ifCond .lt 12, 3) := by decide +kernel
theorem dX9_isSlot_4 : decode cX9_isSlot 4 = .ok (.iload_n 0, 1) := by decide +kernel
theorem dX9_isSlot_5 : decode cX9_isSlot 5 = .ok (.iconst 4, 1) := by decide +kernel
theorem dX9_isSlot_6 : decode cX9_isSlot 6 = .ok (.if_icmp .ge 7, 3) := by decide +kernel
theorem dX9_isSlot_9 : decode cX9_isSlot 9 = .ok (.iconst 1, 1) := by decide +kernel
theorem dX9_isSlot_10 : decode cX9_isSlot 10 = .ok (.goto 4, 3) := by decide +kernel
theorem dX9_isSlot_13 : decode cX9_isSlot 13 = .ok (.iconst 0, 1) := by decide +kernel
theorem dX9_isSlot_14 : decode cX9_isSlot 14 = .ok (.ireturn, 1) := by decide +kernel
theorem dX9_isCertificate_0 : decode cX9_isCertificate 0 = .ok (.iconst 1, 1) := by decide +kernel
theorem dX9_isCertificate_1 : decode cX9_isCertificate 1 = .ok (.istore_n 2, 1) := by decide +kernel
theorem dX9_isCertificate_2 : decode cX9_isCertificate 2 = .ok (.iconst 0, 1) := by decide +kernel
theorem dX9_isCertificate_3 : decode cX9_isCertificate 3 = .ok (.istore_n 3, 1) := by decide +kernel
theorem dX9_isCertificate_4 : decode cX9_isCertificate 4 = .ok (.iload_n 3, 1) := by decide +kernel
theorem dX9_isCertificate_5 : decode cX9_isCertificate 5 = .ok (.aload_n 0, 1) := by decide +kernel
theorem dX9_isCertificate_6 : decode cX9_isCertificate 6 = .ok (.getfield 14, 3) := by decide +kernel
theorem dX9_isCertificate_9 : decode cX9_isCertificate 9 = .ok (.getfield 93, 3) := by decide +kernel
theorem dX9_isCertificate_12 : decode cX9_isCertificate 12 = .ok (.if_icmp .ge 37, 3) := by decide +kernel
theorem dX9_isCertificate_15 : decode cX9_isCertificate 15 = .ok (.aload_n 1, 1) := by decide +kernel
theorem dX9_isCertificate_16 : decode cX9_isCertificate 16 = .ok (.iload_n 3, 1) := by decide +kernel
theorem dX9_isCertificate_17 : decode cX9_isCertificate 17 = .ok (.laload, 1) := by decide +kernel
theorem dX9_isCertificate_18 : decode cX9_isCertificate 18 = .ok (.lconst 0, 1) := by decide +kernel
theorem dX9_isCertificate_19 : decode cX9_isCertificate 19 = .ok (.lcmp, 1) := by decide +kernel
theorem dX9_isCertificate_20 : decode cX9_isCertificate 20 = .ok (.ifCond .ge 5, 3) := by decide +kernel
theorem dX9_isCertificate_23 : decode cX9_isCertificate 23 = .ok (.iconst 0, 1) := by decide +kernel
theorem dX9_isCertificate_24 : decode cX9_isCertificate 24 = .ok (.ireturn, 1) := by decide +kernel
theorem dX9_isCertificate_25 : decode cX9_isCertificate 25 = .ok (.iload_n 2, 1) := by decide +kernel
theorem dX9_isCertificate_26 : decode cX9_isCertificate 26 = .ok (.ifCond .eq 15, 3) := by decide +kernel
theorem dX9_isCertificate_29 : decode cX9_isCertificate 29 = .ok (.aload_n 1, 1) := by decide +kernel
theorem dX9_isCertificate_30 : decode cX9_isCertificate 30 = .ok (.iload_n 3, 1) := by decide +kernel
theorem dX9_isCertificate_31 : decode cX9_isCertificate 31 = .ok (.laload, 1) := by decide +kernel
theorem dX9_isCertificate_32 : decode cX9_isCertificate 32 = .ok (.lconst 0, 1) := by decide +kernel
theorem dX9_isCertificate_33 : decode cX9_isCertificate 33 = .ok (.lcmp, 1) := by decide +kernel
theorem dX9_isCertificate_34 : decode cX9_isCertificate 34 = .ok (.ifCond .ne 7, 3) := by decide +kernel
theorem dX9_isCertificate_37 : decode cX9_isCertificate 37 = .ok (.iconst 1, 1) := by decide +kernel
theorem dX9_isCertificate_38 : decode cX9_isCertificate 38 = .ok (.goto 4, 3) := by decide +kernel
theorem dX9_isCertificate_41 : decode cX9_isCertificate 41 = .ok (.iconst 0, 1) := by decide +kernel
theorem dX9_isCertificate_42 : decode cX9_isCertificate 42 = .ok (.istore_n 2, 1) := by decide +kernel
theorem dX9_isCertificate_43 : decode cX9_isCertificate 43 = .ok (.iinc 3 1, 3) := by decide +kernel
theorem dX9_isCertificate_46 : decode cX9_isCertificate 46 = .ok (.goto (-42), 3) := by decide +kernel
theorem dX9_isCertificate_49 : decode cX9_isCertificate 49 = .ok (.iconst 0, 1) := by decide +kernel
theorem dX9_isCertificate_50 : decode cX9_isCertificate 50 = .ok (.istore_n 3, 1) := by decide +kernel
theorem dX9_isCertificate_51 : decode cX9_isCertificate 51 = .ok (.iload_n 3, 1) := by decide +kernel
theorem dX9_isCertificate_52 : decode cX9_isCertificate 52 = .ok (.aload_n 0, 1) := by decide +kernel
theorem dX9_isCertificate_53 : decode cX9_isCertificate 53 = .ok (.getfield 14, 3) := by decide +kernel
theorem dX9_isCertificate_56 : decode cX9_isCertificate 56 = .ok (.getfield 71, 3) := by decide +kernel
theorem dX9_isCertificate_59 : decode cX9_isCertificate 59 = .ok (.if_icmp .ge 65, 3) := by decide +kernel
theorem dX9_isCertificate_62 : decode cX9_isCertificate 62 = .ok (.lconst 0, 1) := by decide +kernel
theorem dX9_isCertificate_63 : decode cX9_isCertificate 63 = .ok (.lstore 4, 2) := by decide +kernel
theorem dX9_isCertificate_65 : decode cX9_isCertificate 65 = .ok (.iconst 0, 1) := by decide +kernel
theorem dX9_isCertificate_66 : decode cX9_isCertificate 66 = .ok (.istore 6, 2) := by decide +kernel
theorem dX9_isCertificate_68 : decode cX9_isCertificate 68 = .ok (.iload 6, 2) := by decide +kernel
theorem dX9_isCertificate_70 : decode cX9_isCertificate 70 = .ok (.aload_n 0, 1) := by decide +kernel
theorem dX9_isCertificate_71 : decode cX9_isCertificate 71 = .ok (.getfield 14, 3) := by decide +kernel
theorem dX9_isCertificate_74 : decode cX9_isCertificate 74 = .ok (.getfield 93, 3) := by decide +kernel
theorem dX9_isCertificate_77 : decode cX9_isCertificate 77 = .ok (.if_icmp .ge 32, 3) := by decide +kernel
theorem dX9_isCertificate_80 : decode cX9_isCertificate 80 = .ok (.lload 4, 2) := by decide +kernel
theorem dX9_isCertificate_82 : decode cX9_isCertificate 82 = .ok (.aload_n 1, 1) := by decide +kernel
theorem dX9_isCertificate_83 : decode cX9_isCertificate 83 = .ok (.iload 6, 2) := by decide +kernel
theorem dX9_isCertificate_85 : decode cX9_isCertificate 85 = .ok (.laload, 1) := by decide +kernel
theorem dX9_isCertificate_86 : decode cX9_isCertificate 86 = .ok (.aload_n 0, 1) := by decide +kernel
theorem dX9_isCertificate_87 : decode cX9_isCertificate 87 = .ok (.getfield 14, 3) := by decide +kernel
theorem dX9_isCertificate_90 : decode cX9_isCertificate 90 = .ok (.getfield 131, 3) := by decide +kernel
theorem dX9_isCertificate_93 : decode cX9_isCertificate 93 = .ok (.iload 6, 2) := by decide +kernel
theorem dX9_isCertificate_95 : decode cX9_isCertificate 95 = .ok (.aaload, 1) := by decide +kernel
theorem dX9_isCertificate_96 : decode cX9_isCertificate 96 = .ok (.iload_n 3, 1) := by decide +kernel
theorem dX9_isCertificate_97 : decode cX9_isCertificate 97 = .ok (.iaload, 1) := by decide +kernel
theorem dX9_isCertificate_98 : decode cX9_isCertificate 98 = .ok (.i2l, 1) := by decide +kernel
theorem dX9_isCertificate_99 : decode cX9_isCertificate 99 = .ok (.lmul, 1) := by decide +kernel
theorem dX9_isCertificate_100 : decode cX9_isCertificate 100 = .ok (.ladd, 1) := by decide +kernel
theorem dX9_isCertificate_101 : decode cX9_isCertificate 101 = .ok (.lstore 4, 2) := by decide +kernel
theorem dX9_isCertificate_103 : decode cX9_isCertificate 103 = .ok (.iinc 6 1, 3) := by decide +kernel
theorem dX9_isCertificate_106 : decode cX9_isCertificate 106 = .ok (.goto (-38), 3) := by decide +kernel
theorem dX9_isCertificate_109 : decode cX9_isCertificate 109 = .ok (.lload 4, 2) := by decide +kernel
theorem dX9_isCertificate_111 : decode cX9_isCertificate 111 = .ok (.lconst 0, 1) := by decide +kernel
theorem dX9_isCertificate_112 : decode cX9_isCertificate 112 = .ok (.lcmp, 1) := by decide +kernel
theorem dX9_isCertificate_113 : decode cX9_isCertificate 113 = .ok (.ifCond .le 5, 3) := by decide +kernel
theorem dX9_isCertificate_116 : decode cX9_isCertificate 116 = .ok (.iconst 0, 1) := by decide +kernel
theorem dX9_isCertificate_117 : decode cX9_isCertificate 117 = .ok (.ireturn, 1) := by decide +kernel
theorem dX9_isCertificate_118 : decode cX9_isCertificate 118 = .ok (.iinc 3 1, 3) := by decide +kernel
theorem dX9_isCertificate_121 : decode cX9_isCertificate 121 = .ok (.goto (-70), 3) := by decide +kernel
theorem dX9_isCertificate_124 : decode cX9_isCertificate 124 = .ok (.iload_n 2, 1) := by decide +kernel
theorem dX9_isCertificate_125 : decode cX9_isCertificate 125 = .ok (.ifCond .ne 7, 3) := by decide +kernel
theorem dX9_isCertificate_128 : decode cX9_isCertificate 128 = .ok (.iconst 1, 1) := by decide +kernel
theorem dX9_isCertificate_129 : decode cX9_isCertificate 129 = .ok (.goto 4, 3) := by decide +kernel
theorem dX9_isCertificate_132 : decode cX9_isCertificate 132 = .ok (.iconst 0, 1) := by decide +kernel
theorem dX9_isCertificate_133 : decode cX9_isCertificate 133 = .ok (.ireturn, 1) := by decide +kernel
theorem dX10_init_0 : decode cX10_init 0 = .ok (.aload_n 0, 1) := by decide +kernel
theorem dX10_init_1 : decode cX10_init 1 = .ok (.invokespecial 3, 3) := by decide +kernel
theorem dX10_init_4 : decode cX10_init 4 = .ok (.aload_n 0, 1) := by decide +kernel
theorem dX10_init_5 : decode cX10_init 5 = .ok (.iconst 3, 1) := by decide +kernel
theorem dX10_init_6 : decode cX10_init 6 = .ok (.putfield 9, 3) := by decide +kernel
theorem dX10_init_9 : decode cX10_init 9 = .ok (.aload_n 0, 1) := by decide +kernel
theorem dX10_init_10 : decode cX10_init 10 = .ok (.bipush 16, 2) := by decide +kernel
theorem dX10_init_12 : decode cX10_init 12 = .ok (.newarray .int, 2) := by decide +kernel
theorem dX10_init_14 : decode cX10_init 14 = .ok (.putfield 15, 3) := by decide +kernel
theorem dX10_init_17 : decode cX10_init 17 = .ok (.aload_n 0, 1) := by decide +kernel
theorem dX10_init_18 : decode cX10_init 18 = .ok (.bipush 96, 2) := by decide +kernel
theorem dX10_init_20 : decode cX10_init 20 = .ok (.newarray .int, 2) := by decide +kernel
theorem dX10_init_22 : decode cX10_init 22 = .ok (.putfield 19, 3) := by decide +kernel
theorem dX10_init_25 : decode cX10_init 25 = .ok (.aload_n 0, 1) := by decide +kernel
theorem dX10_init_26 : decode cX10_init 26 = .ok (.bipush 6, 2) := by decide +kernel
theorem dX10_init_28 : decode cX10_init 28 = .ok (.newarray .int, 2) := by decide +kernel
theorem dX10_init_30 : decode cX10_init 30 = .ok (.putfield 22, 3) := by decide +kernel
theorem dX10_init_33 : decode cX10_init 33 = .ok (.aload_n 0, 1) := by decide +kernel
theorem dX10_init_34 : decode cX10_init 34 = .ok (.bipush 6, 2) := by decide +kernel
theorem dX10_init_36 : decode cX10_init 36 = .ok (.newarray .int, 2) := by decide +kernel
theorem dX10_init_38 : decode cX10_init 38 = .ok (.putfield 25, 3) := by decide +kernel
theorem dX10_init_41 : decode cX10_init 41 = .ok (.aload_n 0, 1) := by decide +kernel
theorem dX10_init_42 : decode cX10_init 42 = .ok (.bipush 6, 2) := by decide +kernel
theorem dX10_init_44 : decode cX10_init 44 = .ok (.newarray .float, 2) := by decide +kernel
theorem dX10_init_46 : decode cX10_init 46 = .ok (.putfield 28, 3) := by decide +kernel
theorem dX10_init_49 : decode cX10_init 49 = .ok (.aload_n 0, 1) := by decide +kernel
theorem dX10_init_50 : decode cX10_init 50 = .ok (.bipush 40, 2) := by decide +kernel
theorem dX10_init_52 : decode cX10_init 52 = .ok (.newarray .int, 2) := by decide +kernel
theorem dX10_init_54 : decode cX10_init 54 = .ok (.putfield 32, 3) := by decide +kernel
theorem dX10_init_57 : decode cX10_init 57 = .ok (.aload_n 0, 1) := by decide +kernel
theorem dX10_init_58 : decode cX10_init 58 = .ok (.bipush 12, 2) := by decide +kernel
theorem dX10_init_60 : decode cX10_init 60 = .ok (.newarray .int, 2) := by decide +kernel
theorem dX10_init_62 : decode cX10_init 62 = .ok (.putfield 35, 3) := by decide +kernel
theorem dX10_init_65 : decode cX10_init 65 = .ok (.aload_n 0, 1) := by decide +kernel
theorem dX10_init_66 : decode cX10_init 66 = .ok (.sipush 201, 3) := by decide +kernel
theorem dX10_init_69 : decode cX10_init 69 = .ok (.newarray .int, 2) := by decide +kernel
theorem dX10_init_71 : decode cX10_init 71 = .ok (.putfield 38, 3) := by decide +kernel
theorem dX10_init_74 : decode cX10_init 74 = .ok (.aload_n 0, 1) := by decide +kernel
theorem dX10_init_75 : decode cX10_init 75 = .ok (.sipush 201, 3) := by decide +kernel
theorem dX10_init_78 : decode cX10_init 78 = .ok (.newarray .int, 2) := by decide +kernel
theorem dX10_init_80 : decode cX10_init 80 = .ok (.putfield 41, 3) := by decide +kernel
theorem dX10_init_83 : decode cX10_init 83 = .ok (.aload_n 0, 1) := by decide +kernel
theorem dX10_init_84 : decode cX10_init 84 = .ok (.iconst 4, 1) := by decide +kernel
theorem dX10_init_85 : decode cX10_init 85 = .ok (.newarray .int, 2) := by decide +kernel
theorem dX10_init_87 : decode cX10_init 87 = .ok (.putfield 44, 3) := by decide +kernel
theorem dX10_init_90 : decode cX10_init 90 = .ok (.aload_n 0, 1) := by decide +kernel
theorem dX10_init_91 : decode cX10_init 91 = .ok (.iconst 4, 1) := by decide +kernel
theorem dX10_init_92 : decode cX10_init 92 = .ok (.newarray .int, 2) := by decide +kernel
theorem dX10_init_94 : decode cX10_init 94 = .ok (.putfield 47, 3) := by decide +kernel
theorem dX10_init_97 : decode cX10_init 97 = .ok (.aload_n 0, 1) := by decide +kernel
theorem dX10_init_98 : decode cX10_init 98 = .ok (.sipush 160, 3) := by decide +kernel
theorem dX10_init_101 : decode cX10_init 101 = .ok (.newarray .long, 2) := by decide +kernel
theorem dX10_init_103 : decode cX10_init 103 = .ok (.putfield 50, 3) := by decide +kernel
theorem dX10_init_106 : decode cX10_init 106 = .ok (.aload_n 0, 1) := by decide +kernel
theorem dX10_init_107 : decode cX10_init 107 = .ok (.sipush 160, 3) := by decide +kernel
theorem dX10_init_110 : decode cX10_init 110 = .ok (.newarray .float, 2) := by decide +kernel
theorem dX10_init_112 : decode cX10_init 112 = .ok (.putfield 54, 3) := by decide +kernel
theorem dX10_init_115 : decode cX10_init 115 = .ok (.aload_n 0, 1) := by decide +kernel
theorem dX10_init_116 : decode cX10_init 116 = .ok (.sipush 160, 3) := by decide +kernel
theorem dX10_init_119 : decode cX10_init 119 = .ok (.newarray .double, 2) := by decide +kernel
theorem dX10_init_121 : decode cX10_init 121 = .ok (.putfield 57, 3) := by decide +kernel
theorem dX10_init_124 : decode cX10_init 124 = .ok (.aload_n 0, 1) := by decide +kernel
theorem dX10_init_125 : decode cX10_init 125 = .ok (.bipush 16, 2) := by decide +kernel
theorem dX10_init_127 : decode cX10_init 127 = .ok (.newarray .int, 2) := by decide +kernel
theorem dX10_init_129 : decode cX10_init 129 = .ok (.putfield 61, 3) := by decide +kernel
theorem dX10_init_132 : decode cX10_init 132 = .ok (.aload_n 0, 1) := by decide +kernel
theorem dX10_init_133 : decode cX10_init 133 = .ok (.bipush 96, 2) := by decide +kernel
theorem dX10_init_135 : decode cX10_init 135 = .ok (.newarray .int, 2) := by decide +kernel
theorem dX10_init_137 : decode cX10_init 137 = .ok (.putfield 64, 3) := by decide +kernel
theorem dX10_init_140 : decode cX10_init 140 = .ok (.aload_n 0, 1) := by decide +kernel
theorem dX10_init_141 : decode cX10_init 141 = .ok (.bipush 6, 2) := by decide +kernel
theorem dX10_init_143 : decode cX10_init 143 = .ok (.newarray .int, 2) := by decide +kernel
theorem dX10_init_145 : decode cX10_init 145 = .ok (.putfield 67, 3) := by decide +kernel
theorem dX10_init_148 : decode cX10_init 148 = .ok (.aload_n 0, 1) := by decide +kernel
theorem dX10_init_149 : decode cX10_init 149 = .ok (.bipush 6, 2) := by decide +kernel
theorem dX10_init_151 : decode cX10_init 151 = .ok (.newarray .int, 2) := by decide +kernel
theorem dX10_init_153 : decode cX10_init 153 = .ok (.putfield 70, 3) := by decide +kernel
theorem dX10_init_156 : decode cX10_init 156 = .ok (.aload_n 0, 1) := by decide +kernel
theorem dX10_init_157 : decode cX10_init 157 = .ok (.bipush 6, 2) := by decide +kernel
theorem dX10_init_159 : decode cX10_init 159 = .ok (.newarray .float, 2) := by decide +kernel
theorem dX10_init_161 : decode cX10_init 161 = .ok (.putfield 73, 3) := by decide +kernel
theorem dX10_init_164 : decode cX10_init 164 = .ok (.aload_n 0, 1) := by decide +kernel
theorem dX10_init_165 : decode cX10_init 165 = .ok (.bipush 12, 2) := by decide +kernel
theorem dX10_init_167 : decode cX10_init 167 = .ok (.newarray .int, 2) := by decide +kernel
theorem dX10_init_169 : decode cX10_init 169 = .ok (.putfield 76, 3) := by decide +kernel
theorem dX10_init_172 : decode cX10_init 172 = .ok (.aload_n 0, 1) := by decide +kernel
theorem dX10_init_173 : decode cX10_init 173 = .ok (.bipush 40, 2) := by decide +kernel
theorem dX10_init_175 : decode cX10_init 175 = .ok (.newarray .int, 2) := by decide +kernel
theorem dX10_init_177 : decode cX10_init 177 = .ok (.putfield 79, 3) := by decide +kernel
theorem dX10_init_180 : decode cX10_init 180 = .ok (.aload_n 0, 1) := by decide +kernel
theorem dX10_init_181 : decode cX10_init 181 = .ok (.bipush 40, 2) := by decide +kernel
theorem dX10_init_183 : decode cX10_init 183 = .ok (.newarray .int, 2) := by decide +kernel
theorem dX10_init_185 : decode cX10_init 185 = .ok (.putfield 82, 3) := by decide +kernel
theorem dX10_init_188 : decode cX10_init 188 = .ok (.aload_n 0, 1) := by decide +kernel
theorem dX10_init_189 : decode cX10_init 189 = .ok (.bipush 8, 2) := by decide +kernel
theorem dX10_init_191 : decode cX10_init 191 = .ok (.newarray .int, 2) := by decide +kernel
theorem dX10_init_193 : decode cX10_init 193 = .ok (.putfield 85, 3) := by decide +kernel
theorem dX10_init_196 : decode cX10_init 196 = .ok (.aload_n 0, 1) := by decide +kernel
theorem dX10_init_197 : decode cX10_init 197 = .ok (.bipush 6, 2) := by decide +kernel
theorem dX10_init_199 : decode cX10_init 199 = .ok (.newarray .int, 2) := by decide +kernel
theorem dX10_init_201 : decode cX10_init 201 = .ok (.putfield 88, 3) := by decide +kernel
theorem dX10_init_204 : decode cX10_init 204 = .ok (.aload_n 0, 1) := by decide +kernel
theorem dX10_init_205 : decode cX10_init 205 = .ok (.bipush 6, 2) := by decide +kernel
theorem dX10_init_207 : decode cX10_init 207 = .ok (.newarray .int, 2) := by decide +kernel
theorem dX10_init_209 : decode cX10_init 209 = .ok (.putfield 91, 3) := by decide +kernel
theorem dX10_init_212 : decode cX10_init 212 = .ok (.aload_n 0, 1) := by decide +kernel
theorem dX10_init_213 : decode cX10_init 213 = .ok (.sipush 200, 3) := by decide +kernel
theorem dX10_init_216 : decode cX10_init 216 = .ok (.newarray .long, 2) := by decide +kernel
theorem dX10_init_218 : decode cX10_init 218 = .ok (.putfield 94, 3) := by decide +kernel
theorem dX10_init_221 : decode cX10_init 221 = .ok (.aload_n 0, 1) := by decide +kernel
theorem dX10_init_222 : decode cX10_init 222 = .ok (.sipush 200, 3) := by decide +kernel
theorem dX10_init_225 : decode cX10_init 225 = .ok (.newarray .int, 2) := by decide +kernel
theorem dX10_init_227 : decode cX10_init 227 = .ok (.putfield 97, 3) := by decide +kernel
theorem dX10_init_230 : decode cX10_init 230 = .ok (.aload_n 0, 1) := by decide +kernel
theorem dX10_init_231 : decode cX10_init 231 = .ok (.sipush 200, 3) := by decide +kernel
theorem dX10_init_234 : decode cX10_init 234 = .ok (.newarray .int, 2) := by decide +kernel
theorem dX10_init_236 : decode cX10_init 236 = .ok (.putfield 100, 3) := by decide +kernel
theorem dX10_init_239 : decode cX10_init 239 = .ok (.aload_n 0, 1) := by decide +kernel
theorem dX10_init_240 : decode cX10_init 240 = .ok (.sipush 200, 3) := by decide +kernel
theorem dX10_init_243 : decode cX10_init 243 = .ok (.newarray .int, 2) := by decide +kernel
theorem dX10_init_245 : decode cX10_init 245 = .ok (.putfield 103, 3) := by decide +kernel
theorem dX10_init_248 : decode cX10_init 248 = .ok (.aload_n 0, 1) := by decide +kernel
theorem dX10_init_249 : decode cX10_init 249 = .ok (.sipush 200, 3) := by decide +kernel
theorem dX10_init_252 : decode cX10_init 252 = .ok (.newarray .int, 2) := by decide +kernel
theorem dX10_init_254 : decode cX10_init 254 = .ok (.putfield 106, 3) := by decide +kernel
theorem dX10_init_257 : decode cX10_init 257 = .ok (.aload_n 0, 1) := by decide +kernel
theorem dX10_init_258 : decode cX10_init 258 = .ok (.sipush 19200, 3) := by decide +kernel
theorem dX10_init_261 : decode cX10_init 261 = .ok (.newarray .int, 2) := by decide +kernel
theorem dX10_init_263 : decode cX10_init 263 = .ok (.putfield 109, 3) := by decide +kernel
theorem dX10_init_266 : decode cX10_init 266 = .ok (.aload_n 0, 1) := by decide +kernel
theorem dX10_init_267 : decode cX10_init 267 = .ok (.sipush 200, 3) := by decide +kernel
theorem dX10_init_270 : decode cX10_init 270 = .ok (.newarray .int, 2) := by decide +kernel
theorem dX10_init_272 : decode cX10_init 272 = .ok (.putfield 112, 3) := by decide +kernel
theorem dX10_init_275 : decode cX10_init 275 = .ok (.iconst 0, 1) := by decide +kernel
theorem dX10_init_276 : decode cX10_init 276 = .ok (.istore_n 1, 1) := by decide +kernel
theorem dX10_init_277 : decode cX10_init 277 = .ok (.iload_n 1, 1) := by decide +kernel
theorem dX10_init_278 : decode cX10_init 278 = .ok (.bipush 6, 2) := by decide +kernel
theorem dX10_init_280 : decode cX10_init 280 = .ok (.if_icmp .ge 23, 3) := by decide +kernel
theorem dX10_init_283 : decode cX10_init 283 = .ok (.aload_n 0, 1) := by decide +kernel
theorem dX10_init_284 : decode cX10_init 284 = .ok (.getfield 22, 3) := by decide +kernel
theorem dX10_init_287 : decode cX10_init 287 = .ok (.iload_n 1, 1) := by decide +kernel
theorem dX10_init_288 : decode cX10_init 288 = .ok (.iconst 1, 1) := by decide +kernel
theorem dX10_init_289 : decode cX10_init 289 = .ok (.iastore, 1) := by decide +kernel
theorem dX10_init_290 : decode cX10_init 290 = .ok (.aload_n 0, 1) := by decide +kernel
theorem dX10_init_291 : decode cX10_init 291 = .ok (.getfield 28, 3) := by decide +kernel
theorem dX10_init_294 : decode cX10_init 294 = .ok (.iload_n 1, 1) := by decide +kernel
theorem dX10_init_295 : decode cX10_init 295 = .ok (.fconst 1, 1) := by decide +kernel
theorem dX10_init_296 : decode cX10_init 296 = .ok (.fastore, 1) := by decide +kernel
theorem dX10_init_297 : decode cX10_init 297 = .ok (.iinc 1 1, 3) := by decide +kernel
theorem dX10_init_300 : decode cX10_init 300 = .ok (.goto (-23), 3) := by decide +kernel
theorem dX10_init_303 : decode cX10_init 303 = .ok (.iconst 0, 1) := by decide +kernel
theorem dX10_init_304 : decode cX10_init 304 = .ok (.istore_n 1, 1) := by decide +kernel
theorem dX10_init_305 : decode cX10_init 305 = .ok (.iload_n 1, 1) := by decide +kernel
theorem dX10_init_306 : decode cX10_init 306 = .ok (.iconst 4, 1) := by decide +kernel
theorem dX10_init_307 : decode cX10_init 307 = .ok (.if_icmp .ge 16, 3) := by decide +kernel
theorem dX10_init_310 : decode cX10_init 310 = .ok (.aload_n 0, 1) := by decide +kernel
theorem dX10_init_311 : decode cX10_init 311 = .ok (.getfield 44, 3) := by decide +kernel
theorem dX10_init_314 : decode cX10_init 314 = .ok (.iload_n 1, 1) := by decide +kernel
theorem dX10_init_315 : decode cX10_init 315 = .ok (.iconst (-1), 1) := by decide +kernel
theorem dX10_init_316 : decode cX10_init 316 = .ok (.iastore, 1) := by decide +kernel
theorem dX10_init_317 : decode cX10_init 317 = .ok (.iinc 1 1, 3) := by decide +kernel
theorem dX10_init_320 : decode cX10_init 320 = .ok (.goto (-15), 3) := by decide +kernel
theorem dX10_init_323 : decode cX10_init 323 = .ok (.return_, 1) := by decide +kernel
theorem dX10_in_0 : decode cX10_in 0 = .ok (.lload_n 0, 1) := by decide +kernel
theorem dX10_in_1 : decode cX10_in 1 = .ok (.lload_n 2, 1) := by decide +kernel
theorem dX10_in_2 : decode cX10_in 2 = .ok (.lcmp, 1) := by decide +kernel
theorem dX10_in_3 : decode cX10_in 3 = .ok (.ifCond .lt 14, 3) := by decide +kernel
theorem dX10_in_6 : decode cX10_in 6 = .ok (.lload_n 0, 1) := by decide +kernel
theorem dX10_in_7 : decode cX10_in 7 = .ok (.lload 4, 2) := by decide +kernel
theorem dX10_in_9 : decode cX10_in 9 = .ok (.lcmp, 1) := by decide +kernel
theorem dX10_in_10 : decode cX10_in 10 = .ok (.ifCond .gt 7, 3) := by decide +kernel
theorem dX10_in_13 : decode cX10_in 13 = .ok (.iconst 1, 1) := by decide +kernel
theorem dX10_in_14 : decode cX10_in 14 = .ok (.goto 4, 3) := by decide +kernel
theorem dX10_in_17 : decode cX10_in 17 = .ok (.iconst 0, 1) := by decide +kernel
theorem dX10_in_18 : decode cX10_in 18 = .ok (.ireturn, 1) := by decide +kernel
theorem dX10_isLetter_0 : decode cX10_isLetter 0 = .ok (.iload_n 1, 1) := by decide +kernel
theorem dX10_isLetter_1 : decode cX10_isLetter 1 = .ok (.i2l, 1) := by decide +kernel
theorem dX10_isLetter_2 : decode cX10_isLetter 2 = .ok (.lconst 0, 1) := by decide +kernel
theorem dX10_isLetter_3 : decode cX10_isLetter 3 = .ok (.aload_n 0, 1) := by decide +kernel
theorem dX10_isLetter_4 : decode cX10_isLetter 4 = .ok (.getfield 9, 3) := by decide +kernel
theorem dX10_isLetter_7 : decode cX10_isLetter 7 = .ok (.iconst 1, 1) := by decide +kernel
theorem dX10_isLetter_8 : decode cX10_isLetter 8 = .ok (.isub, 1) := by decide +kernel
theorem dX10_isLetter_9 : decode cX10_isLetter 9 = .ok (.i2l, 1) := by decide +kernel
theorem dX10_isLetter_10 : decode cX10_isLetter 10 = .ok (.invokestatic 115, 3) := by decide +kernel
theorem dX10_isLetter_13 : decode cX10_isLetter 13 = .ok (.ireturn, 1) := by decide +kernel
theorem dX10_isRule_0 : decode cX10_isRule 0 = .ok (.iload_n 1, 1) := by decide +kernel
theorem dX10_isRule_1 : decode cX10_isRule 1 = .ok (.i2l, 1) := by decide +kernel
theorem dX10_isRule_2 : decode cX10_isRule 2 = .ok (.lconst 0, 1) := by decide +kernel
theorem dX10_isRule_3 : decode cX10_isRule 3 = .ok (.aload_n 0, 1) := by decide +kernel
theorem dX10_isRule_4 : decode cX10_isRule 4 = .ok (.getfield 119, 3) := by decide +kernel
theorem dX10_isRule_7 : decode cX10_isRule 7 = .ok (.iconst 1, 1) := by decide +kernel
theorem dX10_isRule_8 : decode cX10_isRule 8 = .ok (.isub, 1) := by decide +kernel
theorem dX10_isRule_9 : decode cX10_isRule 9 = .ok (.i2l, 1) := by decide +kernel
theorem dX10_isRule_10 : decode cX10_isRule 10 = .ok (.invokestatic 115, 3) := by decide +kernel
theorem dX10_isRule_13 : decode cX10_isRule 13 = .ok (.ireturn, 1) := by decide +kernel
theorem dX10_reset_0 : decode cX10_reset 0 = .ok (.iload_n 1, 1) := by decide +kernel
theorem dX10_reset_1 : decode cX10_reset 1 = .ok (.i2l, 1) := by decide +kernel
theorem dX10_reset_2 : decode cX10_reset 2 = .ok (.lconst 1, 1) := by decide +kernel
theorem dX10_reset_3 : decode cX10_reset 3 = .ok (.ldc2_w 122, 3) := by decide +kernel
theorem dX10_reset_6 : decode cX10_reset 6 = .ok (.invokestatic 115, 3) := by decide +kernel
theorem dX10_reset_9 : decode cX10_reset 9 = .ok (.ifCond .ne 5, 3) := by decide +kernel
theorem dX10_reset_12 : decode cX10_reset 12 = .ok (.iconst (-1), 1) := by decide +kernel
theorem dX10_reset_13 : decode cX10_reset 13 = .ok (.ireturn, 1) := by decide +kernel
theorem dX10_reset_14 : decode cX10_reset 14 = .ok (.aload_n 0, 1) := by decide +kernel
theorem dX10_reset_15 : decode cX10_reset 15 = .ok (.getfield 9, 3) := by decide +kernel
theorem dX10_reset_18 : decode cX10_reset 18 = .ok (.istore_n 2, 1) := by decide +kernel
theorem dX10_reset_19 : decode cX10_reset 19 = .ok (.aload_n 0, 1) := by decide +kernel
theorem dX10_reset_20 : decode cX10_reset 20 = .ok (.iload_n 1, 1) := by decide +kernel
theorem dX10_reset_21 : decode cX10_reset 21 = .ok (.putfield 9, 3) := by decide +kernel
theorem dX10_reset_24 : decode cX10_reset 24 = .ok (.aload_n 0, 1) := by decide +kernel
theorem dX10_reset_25 : decode cX10_reset 25 = .ok (.iconst 0, 1) := by decide +kernel
theorem dX10_reset_26 : decode cX10_reset 26 = .ok (.putfield 119, 3) := by decide +kernel
theorem dX10_reset_29 : decode cX10_reset 29 = .ok (.aload_n 0, 1) := by decide +kernel
theorem dX10_reset_30 : decode cX10_reset 30 = .ok (.iconst 0, 1) := by decide +kernel
theorem dX10_reset_31 : decode cX10_reset 31 = .ok (.putfield 124, 3) := by decide +kernel
theorem dX10_reset_34 : decode cX10_reset 34 = .ok (.aload_n 0, 1) := by decide +kernel
theorem dX10_reset_35 : decode cX10_reset 35 = .ok (.iconst 0, 1) := by decide +kernel
theorem dX10_reset_36 : decode cX10_reset 36 = .ok (.putfield 127, 3) := by decide +kernel
theorem dX10_reset_39 : decode cX10_reset 39 = .ok (.aload_n 0, 1) := by decide +kernel
theorem dX10_reset_40 : decode cX10_reset 40 = .ok (.iconst 0, 1) := by decide +kernel
theorem dX10_reset_41 : decode cX10_reset 41 = .ok (.putfield 130, 3) := by decide +kernel
theorem dX10_reset_44 : decode cX10_reset 44 = .ok (.iconst 0, 1) := by decide +kernel
theorem dX10_reset_45 : decode cX10_reset 45 = .ok (.istore_n 3, 1) := by decide +kernel
theorem dX10_reset_46 : decode cX10_reset 46 = .ok (.iload_n 3, 1) := by decide +kernel
theorem dX10_reset_47 : decode cX10_reset 47 = .ok (.bipush 6, 2) := by decide +kernel
theorem dX10_reset_49 : decode cX10_reset 49 = .ok (.if_icmp .ge 30, 3) := by decide +kernel
theorem dX10_reset_52 : decode cX10_reset 52 = .ok (.aload_n 0, 1) := by decide +kernel
theorem dX10_reset_53 : decode cX10_reset 53 = .ok (.getfield 22, 3) := by decide +kernel
theorem dX10_reset_56 : decode cX10_reset 56 = .ok (.iload_n 3, 1) := by decide +kernel
theorem dX10_reset_57 : decode cX10_reset 57 = .ok (.iconst 1, 1) := by decide +kernel
theorem dX10_reset_58 : decode cX10_reset 58 = .ok (.iastore, 1) := by decide +kernel
theorem dX10_reset_59 : decode cX10_reset 59 = .ok (.aload_n 0, 1) := by decide +kernel
theorem dX10_reset_60 : decode cX10_reset 60 = .ok (.getfield 25, 3) := by decide +kernel
theorem dX10_reset_63 : decode cX10_reset 63 = .ok (.iload_n 3, 1) := by decide +kernel
theorem dX10_reset_64 : decode cX10_reset 64 = .ok (.iconst 0, 1) := by decide +kernel
theorem dX10_reset_65 : decode cX10_reset 65 = .ok (.iastore, 1) := by decide +kernel
theorem dX10_reset_66 : decode cX10_reset 66 = .ok (.aload_n 0, 1) := by decide +kernel
theorem dX10_reset_67 : decode cX10_reset 67 = .ok (.getfield 28, 3) := by decide +kernel
theorem dX10_reset_70 : decode cX10_reset 70 = .ok (.iload_n 3, 1) := by decide +kernel
theorem dX10_reset_71 : decode cX10_reset 71 = .ok (.fconst 1, 1) := by decide +kernel
theorem dX10_reset_72 : decode cX10_reset 72 = .ok (.fastore, 1) := by decide +kernel
theorem dX10_reset_73 : decode cX10_reset 73 = .ok (.iinc 3 1, 3) := by decide +kernel
theorem dX10_reset_76 : decode cX10_reset 76 = .ok (.goto (-30), 3) := by decide +kernel
theorem dX10_reset_79 : decode cX10_reset 79 = .ok (.iload_n 2, 1) := by decide +kernel
theorem dX10_reset_80 : decode cX10_reset 80 = .ok (.ireturn, 1) := by decide +kernel
theorem dX10_letters_0 : decode cX10_letters 0 = .ok (.aload_n 0, 1) := by decide +kernel
theorem dX10_letters_1 : decode cX10_letters 1 = .ok (.getfield 9, 3) := by decide +kernel
theorem dX10_letters_4 : decode cX10_letters 4 = .ok (.ireturn, 1) := by decide +kernel
theorem dX10_append_0 : decode cX10_append 0 = .ok (.iload_n 1, 1) := by decide +kernel
theorem dX10_append_1 : decode cX10_append 1 = .ok (.i2l, 1) := by decide +kernel
theorem dX10_append_2 : decode cX10_append 2 = .ok (.lconst 0, 1) := by decide +kernel
theorem dX10_append_3 : decode cX10_append 3 = .ok (.ldc2_w 133, 3) := by decide +kernel
theorem dX10_append_6 : decode cX10_append 6 = .ok (.invokestatic 115, 3) := by decide +kernel
theorem dX10_append_9 : decode cX10_append 9 = .ok (.ifCond .eq 15, 3) := by decide +kernel
theorem dX10_append_12 : decode cX10_append 12 = .ok (.iload_n 2, 1) := by decide +kernel
theorem dX10_append_13 : decode cX10_append 13 = .ok (.i2l, 1) := by decide +kernel
theorem dX10_append_14 : decode cX10_append 14 = .ok (.lconst 1, 1) := by decide +kernel
theorem dX10_append_15 : decode cX10_append 15 = .ok (.ldc2_w 135, 3) := by decide +kernel
theorem dX10_append_18 : decode cX10_append 18 = .ok (.invokestatic 115, 3) := by decide +kernel
theorem dX10_append_21 : decode cX10_append 21 = .ok (.ifCond .ne 5, 3) := by decide +kernel
theorem dX10_append_24 : decode cX10_append 24 = .ok (.iconst (-1), 1) := by decide +kernel
theorem dX10_append_25 : decode cX10_append 25 = .ok (.ireturn, 1) := by decide +kernel
theorem dX10_append_26 : decode cX10_append 26 = .ok (.aload_n 0, 1) := by decide +kernel
theorem dX10_append_27 : decode cX10_append 27 = .ok (.getfield 137, 3) := by decide +kernel
theorem dX10_append_30 : decode cX10_append 30 = .ok (.iload_n 2, 1) := by decide +kernel
theorem dX10_append_31 : decode cX10_append 31 = .ok (.iadd, 1) := by decide +kernel
theorem dX10_append_32 : decode cX10_append 32 = .ok (.bipush 40, 2) := by decide +kernel
theorem dX10_append_34 : decode cX10_append 34 = .ok (.if_icmp .le 6, 3) := by decide +kernel
theorem dX10_append_37 : decode cX10_append 37 = .ok (.bipush (-4), 2) := by decide +kernel
theorem dX10_append_39 : decode cX10_append 39 = .ok (.ireturn, 1) := by decide +kernel
theorem dX10_append_40 : decode cX10_append 40 = .ok (.iconst 0, 1) := by decide +kernel
theorem dX10_append_41 : decode cX10_append 41 = .ok (.istore_n 3, 1) := by decide +kernel
theorem dX10_append_42 : decode cX10_append 42 = .ok (.iload_n 3, 1) := by decide +kernel
theorem dX10_append_43 : decode cX10_append 43 = .ok (.iload_n 2, 1) := by decide +kernel
theorem dX10_append_44 : decode cX10_append 44 = .ok (.if_icmp .ge 29, 3) := by decide +kernel
theorem dX10_append_47 : decode cX10_append 47 = .ok (.aload_n 0, 1) := by decide +kernel
theorem dX10_append_48 : decode cX10_append 48 = .ok (.getfield 32, 3) := by decide +kernel
theorem dX10_append_51 : decode cX10_append 51 = .ok (.aload_n 0, 1) := by decide +kernel
theorem dX10_append_52 : decode cX10_append 52 = .ok (.getfield 137, 3) := by decide +kernel
theorem dX10_append_55 : decode cX10_append 55 = .ok (.iload_n 1, 1) := by decide +kernel
theorem dX10_append_56 : decode cX10_append 56 = .ok (.iastore, 1) := by decide +kernel
theorem dX10_append_57 : decode cX10_append 57 = .ok (.aload_n 0, 1) := by decide +kernel
theorem dX10_append_58 : decode cX10_append 58 = .ok (.dup, 1) := by decide +kernel
theorem dX10_append_59 : decode cX10_append 59 = .ok (.getfield 137, 3) := by decide +kernel
theorem dX10_append_62 : decode cX10_append 62 = .ok (.iconst 1, 1) := by decide +kernel
theorem dX10_append_63 : decode cX10_append 63 = .ok (.iadd, 1) := by decide +kernel
theorem dX10_append_64 : decode cX10_append 64 = .ok (.putfield 137, 3) := by decide +kernel
theorem dX10_append_67 : decode cX10_append 67 = .ok (.iinc 3 1, 3) := by decide +kernel
theorem dX10_append_70 : decode cX10_append 70 = .ok (.goto (-28), 3) := by decide +kernel
theorem dX10_append_73 : decode cX10_append 73 = .ok (.aload_n 0, 1) := by decide +kernel
theorem dX10_append_74 : decode cX10_append 74 = .ok (.getfield 137, 3) := by decide +kernel
theorem dX10_append_77 : decode cX10_append 77 = .ok (.ireturn, 1) := by decide +kernel
theorem dX10_clearInput_0 : decode cX10_clearInput 0 = .ok (.aload_n 0, 1) := by decide +kernel
theorem dX10_clearInput_1 : decode cX10_clearInput 1 = .ok (.getfield 137, 3) := by decide +kernel
theorem dX10_clearInput_4 : decode cX10_clearInput 4 = .ok (.istore_n 1, 1) := by decide +kernel
theorem dX10_clearInput_5 : decode cX10_clearInput 5 = .ok (.aload_n 0, 1) := by decide +kernel
theorem dX10_clearInput_6 : decode cX10_clearInput 6 = .ok (.iconst 0, 1) := by decide +kernel
theorem dX10_clearInput_7 : decode cX10_clearInput 7 = .ok (.putfield 137, 3) := by decide +kernel
theorem dX10_clearInput_10 : decode cX10_clearInput 10 = .ok (.iload_n 1, 1) := by decide +kernel
theorem dX10_clearInput_11 : decode cX10_clearInput 11 = .ok (.ireturn, 1) := by decide +kernel
theorem dX10_lettersFrom_0 : decode cX10_lettersFrom 0 = .ok (.iload_n 1, 1) := by decide +kernel
theorem dX10_lettersFrom_1 : decode cX10_lettersFrom 1 = .ok (.istore_n 2, 1) := by decide +kernel
theorem dX10_lettersFrom_2 : decode cX10_lettersFrom 2 = .ok (.iload_n 2, 1) := by decide +kernel
theorem dX10_lettersFrom_3 : decode cX10_lettersFrom 3 = .ok (.aload_n 0, 1) := by decide +kernel
theorem dX10_lettersFrom_4 : decode cX10_lettersFrom 4 = .ok (.getfield 137, 3) := by decide +kernel
theorem dX10_lettersFrom_7 : decode cX10_lettersFrom 7 = .ok (.if_icmp .ge 25, 3) := by decide +kernel
theorem dX10_lettersFrom_10 : decode cX10_lettersFrom 10 = .ok (.aload_n 0, 1) := by decide +kernel
theorem dX10_lettersFrom_11 : decode cX10_lettersFrom 11 = .ok (.aload_n 0, 1) := by decide +kernel
theorem dX10_lettersFrom_12 : decode cX10_lettersFrom 12 = .ok (.getfield 32, 3) := by decide +kernel
theorem dX10_lettersFrom_15 : decode cX10_lettersFrom 15 = .ok (.iload_n 2, 1) := by decide +kernel
theorem dX10_lettersFrom_16 : decode cX10_lettersFrom 16 = .ok (.iaload, 1) := by decide +kernel
theorem dX10_lettersFrom_17 : decode cX10_lettersFrom 17 = .ok (.bipush 97, 2) := by decide +kernel
theorem dX10_lettersFrom_19 : decode cX10_lettersFrom 19 = .ok (.isub, 1) := by decide +kernel
theorem dX10_lettersFrom_20 : decode cX10_lettersFrom 20 = .ok (.invokevirtual 140, 3) := by decide +kernel
theorem dX10_lettersFrom_23 : decode cX10_lettersFrom 23 = .ok (.ifCond .eq 9, 3) := by decide +kernel
theorem dX10_lettersFrom_26 : decode cX10_lettersFrom 26 = .ok (.iinc 2 1, 3) := by decide +kernel
theorem dX10_lettersFrom_29 : decode cX10_lettersFrom 29 = .ok (.goto (-27), 3) := by decide +kernel
theorem dX10_lettersFrom_32 : decode cX10_lettersFrom 32 = .ok (.iload_n 2, 1) := by decide +kernel
theorem dX10_lettersFrom_33 : decode cX10_lettersFrom 33 = .ok (.iload_n 1, 1) := by decide +kernel
theorem dX10_lettersFrom_34 : decode cX10_lettersFrom 34 = .ok (.isub, 1) := by decide +kernel
theorem dX10_lettersFrom_35 : decode cX10_lettersFrom 35 = .ok (.ireturn, 1) := by decide +kernel
theorem dX10_addRule_0 : decode cX10_addRule 0 = .ok (.aload_n 0, 1) := by decide +kernel
theorem dX10_addRule_1 : decode cX10_addRule 1 = .ok (.invokevirtual 144, 3) := by decide +kernel
theorem dX10_addRule_4 : decode cX10_addRule 4 = .ok (.istore_n 1, 1) := by decide +kernel
theorem dX10_addRule_5 : decode cX10_addRule 5 = .ok (.aload_n 0, 1) := by decide +kernel
theorem dX10_addRule_6 : decode cX10_addRule 6 = .ok (.getfield 119, 3) := by decide +kernel
theorem dX10_addRule_9 : decode cX10_addRule 9 = .ok (.bipush 8, 2) := by decide +kernel
theorem dX10_addRule_11 : decode cX10_addRule 11 = .ok (.if_icmp .ne 6, 3) := by decide +kernel
theorem dX10_addRule_14 : decode cX10_addRule 14 = .ok (.bipush (-4), 2) := by decide +kernel
theorem dX10_addRule_16 : decode cX10_addRule 16 = .ok (.ireturn, 1) := by decide +kernel
theorem dX10_addRule_17 : decode cX10_addRule 17 = .ok (.aload_n 0, 1) := by decide +kernel
theorem dX10_addRule_18 : decode cX10_addRule 18 = .ok (.iload_n 1, 1) := by decide +kernel
theorem dX10_addRule_19 : decode cX10_addRule 19 = .ok (.putfield 137, 3) := by decide +kernel
theorem dX10_addRule_22 : decode cX10_addRule 22 = .ok (.aload_n 0, 1) := by decide +kernel
theorem dX10_addRule_23 : decode cX10_addRule 23 = .ok (.iconst 0, 1) := by decide +kernel
theorem dX10_addRule_24 : decode cX10_addRule 24 = .ok (.invokevirtual 148, 3) := by decide +kernel
theorem dX10_addRule_27 : decode cX10_addRule 27 = .ok (.istore_n 2, 1) := by decide +kernel
theorem dX10_addRule_28 : decode cX10_addRule 28 = .ok (.iload_n 2, 1) := by decide +kernel
theorem dX10_addRule_29 : decode cX10_addRule 29 = .ok (.aload_n 0, 1) := by decide +kernel
theorem dX10_addRule_30 : decode cX10_addRule 30 = .ok (.getfield 137, 3) := by decide +kernel
theorem dX10_addRule_33 : decode cX10_addRule 33 = .ok (.if_icmp .ge 24, 3) := by decide +kernel
theorem dX10_addRule_36 : decode cX10_addRule 36 = .ok (.aload_n 0, 1) := by decide +kernel
theorem dX10_addRule_37 : decode cX10_addRule 37 = .ok (.getfield 32, 3) := by decide +kernel
theorem dX10_addRule_40 : decode cX10_addRule 40 = .ok (.iload_n 2, 1) := by decide +kernel
theorem dX10_addRule_41 : decode cX10_addRule 41 = .ok (.iaload, 1) := by decide +kernel
theorem dX10_addRule_42 : decode cX10_addRule 42 = .ok (.bipush 62, 2) := by decide +kernel
theorem dX10_addRule_44 : decode cX10_addRule 44 = .ok (.if_icmp .ne 13, 3) := by decide +kernel
theorem dX10_addRule_47 : decode cX10_addRule 47 = .ok (.aload_n 0, 1) := by decide +kernel
theorem dX10_addRule_48 : decode cX10_addRule 48 = .ok (.iload_n 2, 1) := by decide +kernel
theorem dX10_addRule_49 : decode cX10_addRule 49 = .ok (.iconst 1, 1) := by decide +kernel
theorem dX10_addRule_50 : decode cX10_addRule 50 = .ok (.iadd, 1) := by decide +kernel
theorem dX10_addRule_51 : decode cX10_addRule 51 = .ok (.invokevirtual 148, 3) := by decide +kernel
theorem dX10_addRule_54 : decode cX10_addRule 54 = .ok (.goto 4, 3) := by decide +kernel
theorem dX10_addRule_57 : decode cX10_addRule 57 = .ok (.iconst (-1), 1) := by decide +kernel
theorem dX10_addRule_58 : decode cX10_addRule 58 = .ok (.istore_n 3, 1) := by decide +kernel
theorem dX10_addRule_59 : decode cX10_addRule 59 = .ok (.aload_n 0, 1) := by decide +kernel
theorem dX10_addRule_60 : decode cX10_addRule 60 = .ok (.iconst 0, 1) := by decide +kernel
theorem dX10_addRule_61 : decode cX10_addRule 61 = .ok (.putfield 137, 3) := by decide +kernel
theorem dX10_addRule_64 : decode cX10_addRule 64 = .ok (.iload_n 2, 1) := by decide +kernel
theorem dX10_addRule_65 : decode cX10_addRule 65 = .ok (.i2l, 1) := by decide +kernel
theorem dX10_addRule_66 : decode cX10_addRule 66 = .ok (.lconst 1, 1) := by decide +kernel
theorem dX10_addRule_67 : decode cX10_addRule 67 = .ok (.ldc2_w 122, 3) := by decide +kernel
theorem dX10_addRule_70 : decode cX10_addRule 70 = .ok (.invokestatic 115, 3) := by decide +kernel
theorem dX10_addRule_73 : decode cX10_addRule 73 = .ok (.ifCond .eq 24, 3) := by decide +kernel
theorem dX10_addRule_76 : decode cX10_addRule 76 = .ok (.iload_n 3, 1) := by decide +kernel
theorem dX10_addRule_77 : decode cX10_addRule 77 = .ok (.i2l, 1) := by decide +kernel
theorem dX10_addRule_78 : decode cX10_addRule 78 = .ok (.lconst 0, 1) := by decide +kernel
theorem dX10_addRule_79 : decode cX10_addRule 79 = .ok (.ldc2_w 122, 3) := by decide +kernel
theorem dX10_addRule_82 : decode cX10_addRule 82 = .ok (.invokestatic 115, 3) := by decide +kernel
theorem dX10_addRule_85 : decode cX10_addRule 85 = .ok (.ifCond .eq 12, 3) := by decide +kernel
theorem dX10_addRule_88 : decode cX10_addRule 88 = .ok (.iload_n 2, 1) := by decide +kernel
theorem dX10_addRule_89 : decode cX10_addRule 89 = .ok (.iconst 1, 1) := by decide +kernel
theorem dX10_addRule_90 : decode cX10_addRule 90 = .ok (.iadd, 1) := by decide +kernel
theorem dX10_addRule_91 : decode cX10_addRule 91 = .ok (.iload_n 3, 1) := by decide +kernel
theorem dX10_addRule_92 : decode cX10_addRule 92 = .ok (.iadd, 1) := by decide +kernel
theorem dX10_addRule_93 : decode cX10_addRule 93 = .ok (.iload_n 1, 1) := by decide +kernel
theorem dX10_addRule_94 : decode cX10_addRule 94 = .ok (.if_icmp .eq 6, 3) := by decide +kernel
theorem dX10_addRule_97 : decode cX10_addRule 97 = .ok (.bipush (-5), 2) := by decide +kernel
theorem dX10_addRule_99 : decode cX10_addRule 99 = .ok (.ireturn, 1) := by decide +kernel
theorem dX10_addRule_100 : decode cX10_addRule 100 = .ok (.iconst 0, 1) := by decide +kernel
theorem dX10_addRule_101 : decode cX10_addRule 101 = .ok (.istore 4, 2) := by decide +kernel
theorem dX10_addRule_103 : decode cX10_addRule 103 = .ok (.iload 4, 2) := by decide +kernel
theorem dX10_addRule_105 : decode cX10_addRule 105 = .ok (.iload_n 2, 1) := by decide +kernel
theorem dX10_addRule_106 : decode cX10_addRule 106 = .ok (.if_icmp .ge 34, 3) := by decide +kernel
theorem dX10_addRule_109 : decode cX10_addRule 109 = .ok (.aload_n 0, 1) := by decide +kernel
theorem dX10_addRule_110 : decode cX10_addRule 110 = .ok (.getfield 19, 3) := by decide +kernel
theorem dX10_addRule_113 : decode cX10_addRule 113 = .ok (.bipush 12, 2) := by decide +kernel
theorem dX10_addRule_115 : decode cX10_addRule 115 = .ok (.aload_n 0, 1) := by decide +kernel
theorem dX10_addRule_116 : decode cX10_addRule 116 = .ok (.getfield 119, 3) := by decide +kernel
theorem dX10_addRule_119 : decode cX10_addRule 119 = .ok (.imul, 1) := by decide +kernel
theorem dX10_addRule_120 : decode cX10_addRule 120 = .ok (.iload 4, 2) := by decide +kernel
theorem dX10_addRule_122 : decode cX10_addRule 122 = .ok (.iadd, 1) := by decide +kernel
theorem dX10_addRule_123 : decode cX10_addRule 123 = .ok (.aload_n 0, 1) := by decide +kernel
theorem dX10_addRule_124 : decode cX10_addRule 124 = .ok (.getfield 32, 3) := by decide +kernel
theorem dX10_addRule_127 : decode cX10_addRule 127 = .ok (.iload 4, 2) := by decide +kernel
theorem dX10_addRule_129 : decode cX10_addRule 129 = .ok (.iaload, 1) := by decide +kernel
theorem dX10_addRule_130 : decode cX10_addRule 130 = .ok (.bipush 97, 2) := by decide +kernel
theorem dX10_addRule_132 : decode cX10_addRule 132 = .ok (.isub, 1) := by decide +kernel
theorem dX10_addRule_133 : decode cX10_addRule 133 = .ok (.iastore, 1) := by decide +kernel
theorem dX10_addRule_134 : decode cX10_addRule 134 = .ok (.iinc 4 1, 3) := by decide +kernel
theorem dX10_addRule_137 : decode cX10_addRule 137 = .ok (.goto (-34), 3) := by decide +kernel
theorem dX10_addRule_140 : decode cX10_addRule 140 = .ok (.iconst 0, 1) := by decide +kernel
theorem dX10_addRule_141 : decode cX10_addRule 141 = .ok (.istore 4, 2) := by decide +kernel
theorem dX10_addRule_143 : decode cX10_addRule 143 = .ok (.iload 4, 2) := by decide +kernel
theorem dX10_addRule_145 : decode cX10_addRule 145 = .ok (.iload_n 3, 1) := by decide +kernel
theorem dX10_addRule_146 : decode cX10_addRule 146 = .ok (.if_icmp .ge 41, 3) := by decide +kernel
theorem dX10_addRule_149 : decode cX10_addRule 149 = .ok (.aload_n 0, 1) := by decide +kernel
theorem dX10_addRule_150 : decode cX10_addRule 150 = .ok (.getfield 19, 3) := by decide +kernel
theorem dX10_addRule_153 : decode cX10_addRule 153 = .ok (.bipush 12, 2) := by decide +kernel
theorem dX10_addRule_155 : decode cX10_addRule 155 = .ok (.aload_n 0, 1) := by decide +kernel
theorem dX10_addRule_156 : decode cX10_addRule 156 = .ok (.getfield 119, 3) := by decide +kernel
theorem dX10_addRule_159 : decode cX10_addRule 159 = .ok (.imul, 1) := by decide +kernel
theorem dX10_addRule_160 : decode cX10_addRule 160 = .ok (.bipush 6, 2) := by decide +kernel
theorem dX10_addRule_162 : decode cX10_addRule 162 = .ok (.iadd, 1) := by decide +kernel
theorem dX10_addRule_163 : decode cX10_addRule 163 = .ok (.iload 4, 2) := by decide +kernel
theorem dX10_addRule_165 : decode cX10_addRule 165 = .ok (.iadd, 1) := by decide +kernel
theorem dX10_addRule_166 : decode cX10_addRule 166 = .ok (.aload_n 0, 1) := by decide +kernel
theorem dX10_addRule_167 : decode cX10_addRule 167 = .ok (.getfield 32, 3) := by decide +kernel
theorem dX10_addRule_170 : decode cX10_addRule 170 = .ok (.iload_n 2, 1) := by decide +kernel
theorem dX10_addRule_171 : decode cX10_addRule 171 = .ok (.iconst 1, 1) := by decide +kernel
theorem dX10_addRule_172 : decode cX10_addRule 172 = .ok (.iadd, 1) := by decide +kernel
theorem dX10_addRule_173 : decode cX10_addRule 173 = .ok (.iload 4, 2) := by decide +kernel
theorem dX10_addRule_175 : decode cX10_addRule 175 = .ok (.iadd, 1) := by decide +kernel
theorem dX10_addRule_176 : decode cX10_addRule 176 = .ok (.iaload, 1) := by decide +kernel
theorem dX10_addRule_177 : decode cX10_addRule 177 = .ok (.bipush 97, 2) := by decide +kernel
theorem dX10_addRule_179 : decode cX10_addRule 179 = .ok (.isub, 1) := by decide +kernel
theorem dX10_addRule_180 : decode cX10_addRule 180 = .ok (.iastore, 1) := by decide +kernel
theorem dX10_addRule_181 : decode cX10_addRule 181 = .ok (.iinc 4 1, 3) := by decide +kernel
theorem dX10_addRule_184 : decode cX10_addRule 184 = .ok (.goto (-41), 3) := by decide +kernel
theorem dX10_addRule_187 : decode cX10_addRule 187 = .ok (.aload_n 0, 1) := by decide +kernel
theorem dX10_addRule_188 : decode cX10_addRule 188 = .ok (.getfield 15, 3) := by decide +kernel
theorem dX10_addRule_191 : decode cX10_addRule 191 = .ok (.iconst 2, 1) := by decide +kernel
theorem dX10_addRule_192 : decode cX10_addRule 192 = .ok (.aload_n 0, 1) := by decide +kernel
theorem dX10_addRule_193 : decode cX10_addRule 193 = .ok (.getfield 119, 3) := by decide +kernel
theorem dX10_addRule_196 : decode cX10_addRule 196 = .ok (.imul, 1) := by decide +kernel
theorem dX10_addRule_197 : decode cX10_addRule 197 = .ok (.iload_n 2, 1) := by decide +kernel
theorem dX10_addRule_198 : decode cX10_addRule 198 = .ok (.iastore, 1) := by decide +kernel
theorem dX10_addRule_199 : decode cX10_addRule 199 = .ok (.aload_n 0, 1) := by decide +kernel
theorem dX10_addRule_200 : decode cX10_addRule 200 = .ok (.getfield 15, 3) := by decide +kernel
theorem dX10_addRule_203 : decode cX10_addRule 203 = .ok (.iconst 2, 1) := by decide +kernel
theorem dX10_addRule_204 : decode cX10_addRule 204 = .ok (.aload_n 0, 1) := by decide +kernel
theorem dX10_addRule_205 : decode cX10_addRule 205 = .ok (.getfield 119, 3) := by decide +kernel
theorem dX10_addRule_208 : decode cX10_addRule 208 = .ok (.imul, 1) := by decide +kernel
end
section
theorem dX10_addRule_209 : decode cX10_addRule 209 = .ok (.iconst 1, 1) := by decide +kernel
theorem dX10_addRule_210 : decode cX10_addRule 210 = .ok (.iadd, 1) := by decide +kernel
theorem dX10_addRule_211 : decode cX10_addRule 211 = .ok (.iload_n 3, 1) := by decide +kernel
theorem dX10_addRule_212 : decode cX10_addRule 212 = .ok (.iastore, 1) := by decide +kernel
theorem dX10_addRule_213 : decode cX10_addRule 213 = .ok (.aload_n 0, 1) := by decide +kernel
theorem dX10_addRule_214 : decode cX10_addRule 214 = .ok (.dup, 1) := by decide +kernel
theorem dX10_addRule_215 : decode cX10_addRule 215 = .ok (.getfield 119, 3) := by decide +kernel
theorem dX10_addRule_218 : decode cX10_addRule 218 = .ok (.iconst 1, 1) := by decide +kernel
theorem dX10_addRule_219 : decode cX10_addRule 219 = .ok (.iadd, 1) := by decide +kernel
theorem dX10_addRule_220 : decode cX10_addRule 220 = .ok (.putfield 119, 3) := by decide +kernel
theorem dX10_addRule_223 : decode cX10_addRule 223 = .ok (.aload_n 0, 1) := by decide +kernel
theorem dX10_addRule_224 : decode cX10_addRule 224 = .ok (.getfield 119, 3) := by decide +kernel
theorem dX10_addRule_227 : decode cX10_addRule 227 = .ok (.iconst 1, 1) := by decide +kernel
theorem dX10_addRule_228 : decode cX10_addRule 228 = .ok (.isub, 1) := by decide +kernel
theorem dX10_addRule_229 : decode cX10_addRule 229 = .ok (.ireturn, 1) := by decide +kernel
theorem dX10_removeRule_0 : decode cX10_removeRule 0 = .ok (.aload_n 0, 1) := by decide +kernel
theorem dX10_removeRule_1 : decode cX10_removeRule 1 = .ok (.iload_n 1, 1) := by decide +kernel
theorem dX10_removeRule_2 : decode cX10_removeRule 2 = .ok (.invokevirtual 152, 3) := by decide +kernel
theorem dX10_removeRule_5 : decode cX10_removeRule 5 = .ok (.ifCond .ne 6, 3) := by decide +kernel
theorem dX10_removeRule_8 : decode cX10_removeRule 8 = .ok (.bipush (-3), 2) := by decide +kernel
theorem dX10_removeRule_10 : decode cX10_removeRule 10 = .ok (.ireturn, 1) := by decide +kernel
theorem dX10_removeRule_11 : decode cX10_removeRule 11 = .ok (.iload_n 1, 1) := by decide +kernel
theorem dX10_removeRule_12 : decode cX10_removeRule 12 = .ok (.istore_n 2, 1) := by decide +kernel
theorem dX10_removeRule_13 : decode cX10_removeRule 13 = .ok (.iload_n 2, 1) := by decide +kernel
theorem dX10_removeRule_14 : decode cX10_removeRule 14 = .ok (.aload_n 0, 1) := by decide +kernel
theorem dX10_removeRule_15 : decode cX10_removeRule 15 = .ok (.getfield 119, 3) := by decide +kernel
theorem dX10_removeRule_18 : decode cX10_removeRule 18 = .ok (.iconst 1, 1) := by decide +kernel
theorem dX10_removeRule_19 : decode cX10_removeRule 19 = .ok (.isub, 1) := by decide +kernel
theorem dX10_removeRule_20 : decode cX10_removeRule 20 = .ok (.if_icmp .ge 86, 3) := by decide +kernel
theorem dX10_removeRule_23 : decode cX10_removeRule 23 = .ok (.iconst 0, 1) := by decide +kernel
theorem dX10_removeRule_24 : decode cX10_removeRule 24 = .ok (.istore_n 3, 1) := by decide +kernel
theorem dX10_removeRule_25 : decode cX10_removeRule 25 = .ok (.iload_n 3, 1) := by decide +kernel
theorem dX10_removeRule_26 : decode cX10_removeRule 26 = .ok (.bipush 12, 2) := by decide +kernel
theorem dX10_removeRule_28 : decode cX10_removeRule 28 = .ok (.if_icmp .ge 34, 3) := by decide +kernel
theorem dX10_removeRule_31 : decode cX10_removeRule 31 = .ok (.aload_n 0, 1) := by decide +kernel
theorem dX10_removeRule_32 : decode cX10_removeRule 32 = .ok (.getfield 19, 3) := by decide +kernel
theorem dX10_removeRule_35 : decode cX10_removeRule 35 = .ok (.bipush 12, 2) := by decide +kernel
theorem dX10_removeRule_37 : decode cX10_removeRule 37 = .ok (.iload_n 2, 1) := by decide +kernel
theorem dX10_removeRule_38 : decode cX10_removeRule 38 = .ok (.imul, 1) := by decide +kernel
theorem dX10_removeRule_39 : decode cX10_removeRule 39 = .ok (.iload_n 3, 1) := by decide +kernel
theorem dX10_removeRule_40 : decode cX10_removeRule 40 = .ok (.iadd, 1) := by decide +kernel
theorem dX10_removeRule_41 : decode cX10_removeRule 41 = .ok (.aload_n 0, 1) := by decide +kernel
theorem dX10_removeRule_42 : decode cX10_removeRule 42 = .ok (.getfield 19, 3) := by decide +kernel
theorem dX10_removeRule_45 : decode cX10_removeRule 45 = .ok (.bipush 12, 2) := by decide +kernel
theorem dX10_removeRule_47 : decode cX10_removeRule 47 = .ok (.iload_n 2, 1) := by decide +kernel
theorem dX10_removeRule_48 : decode cX10_removeRule 48 = .ok (.imul, 1) := by decide +kernel
theorem dX10_removeRule_49 : decode cX10_removeRule 49 = .ok (.bipush 12, 2) := by decide +kernel
theorem dX10_removeRule_51 : decode cX10_removeRule 51 = .ok (.iadd, 1) := by decide +kernel
theorem dX10_removeRule_52 : decode cX10_removeRule 52 = .ok (.iload_n 3, 1) := by decide +kernel
theorem dX10_removeRule_53 : decode cX10_removeRule 53 = .ok (.iadd, 1) := by decide +kernel
theorem dX10_removeRule_54 : decode cX10_removeRule 54 = .ok (.iaload, 1) := by decide +kernel
theorem dX10_removeRule_55 : decode cX10_removeRule 55 = .ok (.iastore, 1) := by decide +kernel
theorem dX10_removeRule_56 : decode cX10_removeRule 56 = .ok (.iinc 3 1, 3) := by decide +kernel
theorem dX10_removeRule_59 : decode cX10_removeRule 59 = .ok (.goto (-34), 3) := by decide +kernel
theorem dX10_removeRule_62 : decode cX10_removeRule 62 = .ok (.aload_n 0, 1) := by decide +kernel
theorem dX10_removeRule_63 : decode cX10_removeRule 63 = .ok (.getfield 15, 3) := by decide +kernel
theorem dX10_removeRule_66 : decode cX10_removeRule 66 = .ok (.iconst 2, 1) := by decide +kernel
theorem dX10_removeRule_67 : decode cX10_removeRule 67 = .ok (.iload_n 2, 1) := by decide +kernel
theorem dX10_removeRule_68 : decode cX10_removeRule 68 = .ok (.imul, 1) := by decide +kernel
theorem dX10_removeRule_69 : decode cX10_removeRule 69 = .ok (.aload_n 0, 1) := by decide +kernel
theorem dX10_removeRule_70 : decode cX10_removeRule 70 = .ok (.getfield 15, 3) := by decide +kernel
theorem dX10_removeRule_73 : decode cX10_removeRule 73 = .ok (.iconst 2, 1) := by decide +kernel
theorem dX10_removeRule_74 : decode cX10_removeRule 74 = .ok (.iload_n 2, 1) := by decide +kernel
theorem dX10_removeRule_75 : decode cX10_removeRule 75 = .ok (.imul, 1) := by decide +kernel
theorem dX10_removeRule_76 : decode cX10_removeRule 76 = .ok (.iconst 2, 1) := by decide +kernel
theorem dX10_removeRule_77 : decode cX10_removeRule 77 = .ok (.iadd, 1) := by decide +kernel
theorem dX10_removeRule_78 : decode cX10_removeRule 78 = .ok (.iaload, 1) := by decide +kernel
theorem dX10_removeRule_79 : decode cX10_removeRule 79 = .ok (.iastore, 1) := by decide +kernel
theorem dX10_removeRule_80 : decode cX10_removeRule 80 = .ok (.aload_n 0, 1) := by decide +kernel
theorem dX10_removeRule_81 : decode cX10_removeRule 81 = .ok (.getfield 15, 3) := by decide +kernel
theorem dX10_removeRule_84 : decode cX10_removeRule 84 = .ok (.iconst 2, 1) := by decide +kernel
theorem dX10_removeRule_85 : decode cX10_removeRule 85 = .ok (.iload_n 2, 1) := by decide +kernel
theorem dX10_removeRule_86 : decode cX10_removeRule 86 = .ok (.imul, 1) := by decide +kernel
theorem dX10_removeRule_87 : decode cX10_removeRule 87 = .ok (.iconst 1, 1) := by decide +kernel
theorem dX10_removeRule_88 : decode cX10_removeRule 88 = .ok (.iadd, 1) := by decide +kernel
theorem dX10_removeRule_89 : decode cX10_removeRule 89 = .ok (.aload_n 0, 1) := by decide +kernel
theorem dX10_removeRule_90 : decode cX10_removeRule 90 = .ok (.getfield 15, 3) := by decide +kernel
theorem dX10_removeRule_93 : decode cX10_removeRule 93 = .ok (.iconst 2, 1) := by decide +kernel
theorem dX10_removeRule_94 : decode cX10_removeRule 94 = .ok (.iload_n 2, 1) := by decide +kernel
theorem dX10_removeRule_95 : decode cX10_removeRule 95 = .ok (.imul, 1) := by decide +kernel
theorem dX10_removeRule_96 : decode cX10_removeRule 96 = .ok (.iconst 3, 1) := by decide +kernel
theorem dX10_removeRule_97 : decode cX10_removeRule 97 = .ok (.iadd, 1) := by decide +kernel
theorem dX10_removeRule_98 : decode cX10_removeRule 98 = .ok (.iaload, 1) := by decide +kernel
theorem dX10_removeRule_99 : decode cX10_removeRule 99 = .ok (.iastore, 1) := by decide +kernel
theorem dX10_removeRule_100 : decode cX10_removeRule 100 = .ok (.iinc 2 1, 3) := by decide +kernel
theorem dX10_removeRule_103 : decode cX10_removeRule 103 = .ok (.goto (-90), 3) := by decide +kernel
theorem dX10_removeRule_106 : decode cX10_removeRule 106 = .ok (.aload_n 0, 1) := by decide +kernel
theorem dX10_removeRule_107 : decode cX10_removeRule 107 = .ok (.dup, 1) := by decide +kernel
theorem dX10_removeRule_108 : decode cX10_removeRule 108 = .ok (.getfield 119, 3) := by decide +kernel
theorem dX10_removeRule_111 : decode cX10_removeRule 111 = .ok (.iconst 1, 1) := by decide +kernel
theorem dX10_removeRule_112 : decode cX10_removeRule 112 = .ok (.isub, 1) := by decide +kernel
theorem dX10_removeRule_113 : decode cX10_removeRule 113 = .ok (.putfield 119, 3) := by decide +kernel
theorem dX10_removeRule_116 : decode cX10_removeRule 116 = .ok (.aload_n 0, 1) := by decide +kernel
theorem dX10_removeRule_117 : decode cX10_removeRule 117 = .ok (.iconst 0, 1) := by decide +kernel
theorem dX10_removeRule_118 : decode cX10_removeRule 118 = .ok (.putfield 127, 3) := by decide +kernel
theorem dX10_removeRule_121 : decode cX10_removeRule 121 = .ok (.aload_n 0, 1) := by decide +kernel
theorem dX10_removeRule_122 : decode cX10_removeRule 122 = .ok (.getfield 119, 3) := by decide +kernel
theorem dX10_removeRule_125 : decode cX10_removeRule 125 = .ok (.ireturn, 1) := by decide +kernel
theorem dX10_ruleCount_0 : decode cX10_ruleCount 0 = .ok (.aload_n 0, 1) := by decide +kernel
theorem dX10_ruleCount_1 : decode cX10_ruleCount 1 = .ok (.getfield 119, 3) := by decide +kernel
theorem dX10_ruleCount_4 : decode cX10_ruleCount 4 = .ok (.ireturn, 1) := by decide +kernel
theorem dX10_ruleLetter_0 : decode cX10_ruleLetter 0 = .ok (.aload_n 0, 1) := by decide +kernel
theorem dX10_ruleLetter_1 : decode cX10_ruleLetter 1 = .ok (.iload_n 1, 1) := by decide +kernel
theorem dX10_ruleLetter_2 : decode cX10_ruleLetter 2 = .ok (.invokevirtual 152, 3) := by decide +kernel
theorem dX10_ruleLetter_5 : decode cX10_ruleLetter 5 = .ok (.ifCond .ne 6, 3) := by decide +kernel
theorem dX10_ruleLetter_8 : decode cX10_ruleLetter 8 = .ok (.bipush (-3), 2) := by decide +kernel
theorem dX10_ruleLetter_10 : decode cX10_ruleLetter 10 = .ok (.ireturn, 1) := by decide +kernel
theorem dX10_ruleLetter_11 : decode cX10_ruleLetter 11 = .ok (.iload_n 2, 1) := by decide +kernel
theorem dX10_ruleLetter_12 : decode cX10_ruleLetter 12 = .ok (.i2l, 1) := by decide +kernel
theorem dX10_ruleLetter_13 : decode cX10_ruleLetter 13 = .ok (.lconst 0, 1) := by decide +kernel
theorem dX10_ruleLetter_14 : decode cX10_ruleLetter 14 = .ok (.lconst 1, 1) := by decide +kernel
theorem dX10_ruleLetter_15 : decode cX10_ruleLetter 15 = .ok (.invokestatic 115, 3) := by decide +kernel
theorem dX10_ruleLetter_18 : decode cX10_ruleLetter 18 = .ok (.ifCond .ne 5, 3) := by decide +kernel
theorem dX10_ruleLetter_21 : decode cX10_ruleLetter 21 = .ok (.iconst (-1), 1) := by decide +kernel
theorem dX10_ruleLetter_22 : decode cX10_ruleLetter 22 = .ok (.ireturn, 1) := by decide +kernel
theorem dX10_ruleLetter_23 : decode cX10_ruleLetter 23 = .ok (.iload_n 3, 1) := by decide +kernel
theorem dX10_ruleLetter_24 : decode cX10_ruleLetter 24 = .ok (.i2l, 1) := by decide +kernel
theorem dX10_ruleLetter_25 : decode cX10_ruleLetter 25 = .ok (.lconst 0, 1) := by decide +kernel
theorem dX10_ruleLetter_26 : decode cX10_ruleLetter 26 = .ok (.aload_n 0, 1) := by decide +kernel
theorem dX10_ruleLetter_27 : decode cX10_ruleLetter 27 = .ok (.getfield 15, 3) := by decide +kernel
theorem dX10_ruleLetter_30 : decode cX10_ruleLetter 30 = .ok (.iconst 2, 1) := by decide +kernel
theorem dX10_ruleLetter_31 : decode cX10_ruleLetter 31 = .ok (.iload_n 1, 1) := by decide +kernel
theorem dX10_ruleLetter_32 : decode cX10_ruleLetter 32 = .ok (.imul, 1) := by decide +kernel
theorem dX10_ruleLetter_33 : decode cX10_ruleLetter 33 = .ok (.iload_n 2, 1) := by decide +kernel
theorem dX10_ruleLetter_34 : decode cX10_ruleLetter 34 = .ok (.iadd, 1) := by decide +kernel
theorem dX10_ruleLetter_35 : decode cX10_ruleLetter 35 = .ok (.iaload, 1) := by decide +kernel
theorem dX10_ruleLetter_36 : decode cX10_ruleLetter 36 = .ok (.iconst 1, 1) := by decide +kernel
theorem dX10_ruleLetter_37 : decode cX10_ruleLetter 37 = .ok (.isub, 1) := by decide +kernel
theorem dX10_ruleLetter_38 : decode cX10_ruleLetter 38 = .ok (.i2l, 1) := by decide +kernel
theorem dX10_ruleLetter_39 : decode cX10_ruleLetter 39 = .ok (.invokestatic 115, 3) := by decide +kernel
theorem dX10_ruleLetter_42 : decode cX10_ruleLetter 42 = .ok (.ifCond .eq 22, 3) := by decide +kernel
theorem dX10_ruleLetter_45 : decode cX10_ruleLetter 45 = .ok (.aload_n 0, 1) := by decide +kernel
theorem dX10_ruleLetter_46 : decode cX10_ruleLetter 46 = .ok (.getfield 19, 3) := by decide +kernel
theorem dX10_ruleLetter_49 : decode cX10_ruleLetter 49 = .ok (.bipush 12, 2) := by decide +kernel
theorem dX10_ruleLetter_51 : decode cX10_ruleLetter 51 = .ok (.iload_n 1, 1) := by decide +kernel
theorem dX10_ruleLetter_52 : decode cX10_ruleLetter 52 = .ok (.imul, 1) := by decide +kernel
theorem dX10_ruleLetter_53 : decode cX10_ruleLetter 53 = .ok (.bipush 6, 2) := by decide +kernel
theorem dX10_ruleLetter_55 : decode cX10_ruleLetter 55 = .ok (.iload_n 2, 1) := by decide +kernel
theorem dX10_ruleLetter_56 : decode cX10_ruleLetter 56 = .ok (.imul, 1) := by decide +kernel
theorem dX10_ruleLetter_57 : decode cX10_ruleLetter 57 = .ok (.iadd, 1) := by decide +kernel
theorem dX10_ruleLetter_58 : decode cX10_ruleLetter 58 = .ok (.iload_n 3, 1) := by decide +kernel
theorem dX10_ruleLetter_59 : decode cX10_ruleLetter 59 = .ok (.iadd, 1) := by decide +kernel
theorem dX10_ruleLetter_60 : decode cX10_ruleLetter 60 = .ok (.iaload, 1) := by decide +kernel
theorem dX10_ruleLetter_61 : decode cX10_ruleLetter 61 = .ok (.goto 5, 3) := by decide +kernel
theorem dX10_ruleLetter_64 : decode cX10_ruleLetter 64 = .ok (.bipush (-6), 2) := by decide +kernel
theorem dX10_ruleLetter_66 : decode cX10_ruleLetter 66 = .ok (.ireturn, 1) := by decide +kernel
theorem dX10_occurs_0 : decode cX10_occurs 0 = .ok (.iconst 0, 1) := by decide +kernel
theorem dX10_occurs_1 : decode cX10_occurs 1 = .ok (.istore 4, 2) := by decide +kernel
theorem dX10_occurs_3 : decode cX10_occurs 3 = .ok (.iconst 0, 1) := by decide +kernel
theorem dX10_occurs_4 : decode cX10_occurs 4 = .ok (.istore 5, 2) := by decide +kernel
theorem dX10_occurs_6 : decode cX10_occurs 6 = .ok (.iload 5, 2) := by decide +kernel
theorem dX10_occurs_8 : decode cX10_occurs 8 = .ok (.aload_n 0, 1) := by decide +kernel
theorem dX10_occurs_9 : decode cX10_occurs 9 = .ok (.getfield 15, 3) := by decide +kernel
theorem dX10_occurs_12 : decode cX10_occurs 12 = .ok (.iconst 2, 1) := by decide +kernel
theorem dX10_occurs_13 : decode cX10_occurs 13 = .ok (.iload_n 1, 1) := by decide +kernel
theorem dX10_occurs_14 : decode cX10_occurs 14 = .ok (.imul, 1) := by decide +kernel
theorem dX10_occurs_15 : decode cX10_occurs 15 = .ok (.iload_n 2, 1) := by decide +kernel
theorem dX10_occurs_16 : decode cX10_occurs 16 = .ok (.iadd, 1) := by decide +kernel
theorem dX10_occurs_17 : decode cX10_occurs 17 = .ok (.iaload, 1) := by decide +kernel
theorem dX10_occurs_18 : decode cX10_occurs 18 = .ok (.if_icmp .ge 40, 3) := by decide +kernel
theorem dX10_occurs_21 : decode cX10_occurs 21 = .ok (.iload 4, 2) := by decide +kernel
theorem dX10_occurs_23 : decode cX10_occurs 23 = .ok (.aload_n 0, 1) := by decide +kernel
theorem dX10_occurs_24 : decode cX10_occurs 24 = .ok (.getfield 19, 3) := by decide +kernel
theorem dX10_occurs_27 : decode cX10_occurs 27 = .ok (.bipush 12, 2) := by decide +kernel
theorem dX10_occurs_29 : decode cX10_occurs 29 = .ok (.iload_n 1, 1) := by decide +kernel
theorem dX10_occurs_30 : decode cX10_occurs 30 = .ok (.imul, 1) := by decide +kernel
theorem dX10_occurs_31 : decode cX10_occurs 31 = .ok (.bipush 6, 2) := by decide +kernel
theorem dX10_occurs_33 : decode cX10_occurs 33 = .ok (.iload_n 2, 1) := by decide +kernel
theorem dX10_occurs_34 : decode cX10_occurs 34 = .ok (.imul, 1) := by decide +kernel
theorem dX10_occurs_35 : decode cX10_occurs 35 = .ok (.iadd, 1) := by decide +kernel
theorem dX10_occurs_36 : decode cX10_occurs 36 = .ok (.iload 5, 2) := by decide +kernel
theorem dX10_occurs_38 : decode cX10_occurs 38 = .ok (.iadd, 1) := by decide +kernel
theorem dX10_occurs_39 : decode cX10_occurs 39 = .ok (.iaload, 1) := by decide +kernel
theorem dX10_occurs_40 : decode cX10_occurs 40 = .ok (.iload_n 3, 1) := by decide +kernel
theorem dX10_occurs_41 : decode cX10_occurs 41 = .ok (.if_icmp .ne 7, 3) := by decide +kernel
theorem dX10_occurs_44 : decode cX10_occurs 44 = .ok (.iconst 1, 1) := by decide +kernel
theorem dX10_occurs_45 : decode cX10_occurs 45 = .ok (.goto 4, 3) := by decide +kernel
theorem dX10_occurs_48 : decode cX10_occurs 48 = .ok (.iconst 0, 1) := by decide +kernel
theorem dX10_occurs_49 : decode cX10_occurs 49 = .ok (.iadd, 1) := by decide +kernel
theorem dX10_occurs_50 : decode cX10_occurs 50 = .ok (.istore 4, 2) := by decide +kernel
theorem dX10_occurs_52 : decode cX10_occurs 52 = .ok (.iinc 5 1, 3) := by decide +kernel
theorem dX10_occurs_55 : decode cX10_occurs 55 = .ok (.goto (-49), 3) := by decide +kernel
theorem dX10_occurs_58 : decode cX10_occurs 58 = .ok (.iload 4, 2) := by decide +kernel
theorem dX10_occurs_60 : decode cX10_occurs 60 = .ok (.ireturn, 1) := by decide +kernel
theorem dX10_balanceOf_0 : decode cX10_balanceOf 0 = .ok (.aload_n 0, 1) := by decide +kernel
theorem dX10_balanceOf_1 : decode cX10_balanceOf 1 = .ok (.iload_n 1, 1) := by decide +kernel
theorem dX10_balanceOf_2 : decode cX10_balanceOf 2 = .ok (.iconst 0, 1) := by decide +kernel
theorem dX10_balanceOf_3 : decode cX10_balanceOf 3 = .ok (.iload_n 2, 1) := by decide +kernel
theorem dX10_balanceOf_4 : decode cX10_balanceOf 4 = .ok (.invokevirtual 155, 3) := by decide +kernel
theorem dX10_balanceOf_7 : decode cX10_balanceOf 7 = .ok (.aload_n 0, 1) := by decide +kernel
theorem dX10_balanceOf_8 : decode cX10_balanceOf 8 = .ok (.iload_n 1, 1) := by decide +kernel
theorem dX10_balanceOf_9 : decode cX10_balanceOf 9 = .ok (.iconst 1, 1) := by decide +kernel
theorem dX10_balanceOf_10 : decode cX10_balanceOf 10 = .ok (.iload_n 2, 1) := by decide +kernel
theorem dX10_balanceOf_11 : decode cX10_balanceOf 11 = .ok (.invokevirtual 155, 3) := by decide +kernel
theorem dX10_balanceOf_14 : decode cX10_balanceOf 14 = .ok (.isub, 1) := by decide +kernel
theorem dX10_balanceOf_15 : decode cX10_balanceOf 15 = .ok (.ireturn, 1) := by decide +kernel
theorem dX10_balance_0 : decode cX10_balance 0 = .ok (.aload_n 0, 1) := by decide +kernel
theorem dX10_balance_1 : decode cX10_balance 1 = .ok (.iload_n 1, 1) := by decide +kernel
theorem dX10_balance_2 : decode cX10_balance 2 = .ok (.invokevirtual 152, 3) := by decide +kernel
theorem dX10_balance_5 : decode cX10_balance 5 = .ok (.ifCond .ne 6, 3) := by decide +kernel
theorem dX10_balance_8 : decode cX10_balance 8 = .ok (.bipush (-3), 2) := by decide +kernel
theorem dX10_balance_10 : decode cX10_balance 10 = .ok (.ireturn, 1) := by decide +kernel
theorem dX10_balance_11 : decode cX10_balance 11 = .ok (.aload_n 0, 1) := by decide +kernel
theorem dX10_balance_12 : decode cX10_balance 12 = .ok (.iload_n 2, 1) := by decide +kernel
theorem dX10_balance_13 : decode cX10_balance 13 = .ok (.invokevirtual 140, 3) := by decide +kernel
theorem dX10_balance_16 : decode cX10_balance 16 = .ok (.ifCond .eq 15, 3) := by decide +kernel
theorem dX10_balance_19 : decode cX10_balance 19 = .ok (.aload_n 0, 1) := by decide +kernel
theorem dX10_balance_20 : decode cX10_balance 20 = .ok (.iload_n 1, 1) := by decide +kernel
theorem dX10_balance_21 : decode cX10_balance 21 = .ok (.iload_n 2, 1) := by decide +kernel
theorem dX10_balance_22 : decode cX10_balance 22 = .ok (.invokevirtual 159, 3) := by decide +kernel
theorem dX10_balance_25 : decode cX10_balance 25 = .ok (.bipush 100, 2) := by decide +kernel
theorem dX10_balance_27 : decode cX10_balance 27 = .ok (.iadd, 1) := by decide +kernel
theorem dX10_balance_28 : decode cX10_balance 28 = .ok (.goto 5, 3) := by decide +kernel
theorem dX10_balance_31 : decode cX10_balance 31 = .ok (.bipush (-2), 2) := by decide +kernel
theorem dX10_balance_33 : decode cX10_balance 33 = .ok (.ireturn, 1) := by decide +kernel
theorem dX10_setWeight_0 : decode cX10_setWeight 0 = .ok (.aload_n 0, 1) := by decide +kernel
theorem dX10_setWeight_1 : decode cX10_setWeight 1 = .ok (.iload_n 1, 1) := by decide +kernel
theorem dX10_setWeight_2 : decode cX10_setWeight 2 = .ok (.invokevirtual 140, 3) := by decide +kernel
theorem dX10_setWeight_5 : decode cX10_setWeight 5 = .ok (.ifCond .ne 6, 3) := by decide +kernel
theorem dX10_setWeight_8 : decode cX10_setWeight 8 = .ok (.bipush (-2), 2) := by decide +kernel
theorem dX10_setWeight_10 : decode cX10_setWeight 10 = .ok (.ireturn, 1) := by decide +kernel
theorem dX10_setWeight_11 : decode cX10_setWeight 11 = .ok (.iload_n 2, 1) := by decide +kernel
theorem dX10_setWeight_12 : decode cX10_setWeight 12 = .ok (.i2l, 1) := by decide +kernel
theorem dX10_setWeight_13 : decode cX10_setWeight 13 = .ok (.lconst 0, 1) := by decide +kernel
theorem dX10_setWeight_14 : decode cX10_setWeight 14 = .ok (.ldc2_w 163, 3) := by decide +kernel
theorem dX10_setWeight_17 : decode cX10_setWeight 17 = .ok (.invokestatic 115, 3) := by decide +kernel
theorem dX10_setWeight_20 : decode cX10_setWeight 20 = .ok (.ifCond .ne 5, 3) := by decide +kernel
theorem dX10_setWeight_23 : decode cX10_setWeight 23 = .ok (.iconst (-1), 1) := by decide +kernel
theorem dX10_setWeight_24 : decode cX10_setWeight 24 = .ok (.ireturn, 1) := by decide +kernel
theorem dX10_setWeight_25 : decode cX10_setWeight 25 = .ok (.aload_n 0, 1) := by decide +kernel
theorem dX10_setWeight_26 : decode cX10_setWeight 26 = .ok (.getfield 22, 3) := by decide +kernel
theorem dX10_setWeight_29 : decode cX10_setWeight 29 = .ok (.iload_n 1, 1) := by decide +kernel
theorem dX10_setWeight_30 : decode cX10_setWeight 30 = .ok (.iaload, 1) := by decide +kernel
theorem dX10_setWeight_31 : decode cX10_setWeight 31 = .ok (.istore_n 3, 1) := by decide +kernel
theorem dX10_setWeight_32 : decode cX10_setWeight 32 = .ok (.aload_n 0, 1) := by decide +kernel
theorem dX10_setWeight_33 : decode cX10_setWeight 33 = .ok (.getfield 22, 3) := by decide +kernel
theorem dX10_setWeight_36 : decode cX10_setWeight 36 = .ok (.iload_n 1, 1) := by decide +kernel
theorem dX10_setWeight_37 : decode cX10_setWeight 37 = .ok (.iload_n 2, 1) := by decide +kernel
theorem dX10_setWeight_38 : decode cX10_setWeight 38 = .ok (.iastore, 1) := by decide +kernel
theorem dX10_setWeight_39 : decode cX10_setWeight 39 = .ok (.iload_n 3, 1) := by decide +kernel
theorem dX10_setWeight_40 : decode cX10_setWeight 40 = .ok (.ireturn, 1) := by decide +kernel
theorem dX10_weight_0 : decode cX10_weight 0 = .ok (.aload_n 0, 1) := by decide +kernel
theorem dX10_weight_1 : decode cX10_weight 1 = .ok (.iload_n 1, 1) := by decide +kernel
theorem dX10_weight_2 : decode cX10_weight 2 = .ok (.invokevirtual 140, 3) := by decide +kernel
theorem dX10_weight_5 : decode cX10_weight 5 = .ok (.ifCond .eq 12, 3) := by decide +kernel
theorem dX10_weight_8 : decode cX10_weight 8 = .ok (.aload_n 0, 1) := by decide +kernel
theorem dX10_weight_9 : decode cX10_weight 9 = .ok (.getfield 22, 3) := by decide +kernel
theorem dX10_weight_12 : decode cX10_weight 12 = .ok (.iload_n 1, 1) := by decide +kernel
theorem dX10_weight_13 : decode cX10_weight 13 = .ok (.iaload, 1) := by decide +kernel
theorem dX10_weight_14 : decode cX10_weight 14 = .ok (.goto 5, 3) := by decide +kernel
theorem dX10_weight_17 : decode cX10_weight 17 = .ok (.bipush (-2), 2) := by decide +kernel
theorem dX10_weight_19 : decode cX10_weight 19 = .ok (.ireturn, 1) := by decide +kernel
theorem dX10_setLevel_0 : decode cX10_setLevel 0 = .ok (.aload_n 0, 1) := by decide +kernel
theorem dX10_setLevel_1 : decode cX10_setLevel 1 = .ok (.iload_n 1, 1) := by decide +kernel
theorem dX10_setLevel_2 : decode cX10_setLevel 2 = .ok (.invokevirtual 140, 3) := by decide +kernel
theorem dX10_setLevel_5 : decode cX10_setLevel 5 = .ok (.ifCond .ne 6, 3) := by decide +kernel
theorem dX10_setLevel_8 : decode cX10_setLevel 8 = .ok (.bipush (-2), 2) := by decide +kernel
theorem dX10_setLevel_10 : decode cX10_setLevel 10 = .ok (.ireturn, 1) := by decide +kernel
theorem dX10_setLevel_11 : decode cX10_setLevel 11 = .ok (.iload_n 2, 1) := by decide +kernel
theorem dX10_setLevel_12 : decode cX10_setLevel 12 = .ok (.i2l, 1) := by decide +kernel
theorem dX10_setLevel_13 : decode cX10_setLevel 13 = .ok (.lconst 0, 1) := by decide +kernel
theorem dX10_setLevel_14 : decode cX10_setLevel 14 = .ok (.ldc2_w 165, 3) := by decide +kernel
theorem dX10_setLevel_17 : decode cX10_setLevel 17 = .ok (.invokestatic 115, 3) := by decide +kernel
theorem dX10_setLevel_20 : decode cX10_setLevel 20 = .ok (.ifCond .ne 5, 3) := by decide +kernel
theorem dX10_setLevel_23 : decode cX10_setLevel 23 = .ok (.iconst (-1), 1) := by decide +kernel
theorem dX10_setLevel_24 : decode cX10_setLevel 24 = .ok (.ireturn, 1) := by decide +kernel
theorem dX10_setLevel_25 : decode cX10_setLevel 25 = .ok (.aload_n 0, 1) := by decide +kernel
theorem dX10_setLevel_26 : decode cX10_setLevel 26 = .ok (.getfield 25, 3) := by decide +kernel
theorem dX10_setLevel_29 : decode cX10_setLevel 29 = .ok (.iload_n 1, 1) := by decide +kernel
theorem dX10_setLevel_30 : decode cX10_setLevel 30 = .ok (.iaload, 1) := by decide +kernel
theorem dX10_setLevel_31 : decode cX10_setLevel 31 = .ok (.istore_n 3, 1) := by decide +kernel
theorem dX10_setLevel_32 : decode cX10_setLevel 32 = .ok (.aload_n 0, 1) := by decide +kernel
theorem dX10_setLevel_33 : decode cX10_setLevel 33 = .ok (.getfield 25, 3) := by decide +kernel
theorem dX10_setLevel_36 : decode cX10_setLevel 36 = .ok (.iload_n 1, 1) := by decide +kernel
theorem dX10_setLevel_37 : decode cX10_setLevel 37 = .ok (.iload_n 2, 1) := by decide +kernel
theorem dX10_setLevel_38 : decode cX10_setLevel 38 = .ok (.iastore, 1) := by decide +kernel
theorem dX10_setLevel_39 : decode cX10_setLevel 39 = .ok (.iload_n 3, 1) := by decide +kernel
theorem dX10_setLevel_40 : decode cX10_setLevel 40 = .ok (.ireturn, 1) := by decide +kernel
theorem dX10_level_0 : decode cX10_level 0 = .ok (.aload_n 0, 1) := by decide +kernel
theorem dX10_level_1 : decode cX10_level 1 = .ok (.iload_n 1, 1) := by decide +kernel
theorem dX10_level_2 : decode cX10_level 2 = .ok (.invokevirtual 140, 3) := by decide +kernel
theorem dX10_level_5 : decode cX10_level 5 = .ok (.ifCond .eq 12, 3) := by decide +kernel
theorem dX10_level_8 : decode cX10_level 8 = .ok (.aload_n 0, 1) := by decide +kernel
theorem dX10_level_9 : decode cX10_level 9 = .ok (.getfield 25, 3) := by decide +kernel
theorem dX10_level_12 : decode cX10_level 12 = .ok (.iload_n 1, 1) := by decide +kernel
theorem dX10_level_13 : decode cX10_level 13 = .ok (.iaload, 1) := by decide +kernel
theorem dX10_level_14 : decode cX10_level 14 = .ok (.goto 5, 3) := by decide +kernel
theorem dX10_level_17 : decode cX10_level 17 = .ok (.bipush (-2), 2) := by decide +kernel
theorem dX10_level_19 : decode cX10_level 19 = .ok (.ireturn, 1) := by decide +kernel
theorem dX10_setStatus_0 : decode cX10_setStatus 0 = .ok (.iload_n 1, 1) := by decide +kernel
theorem dX10_setStatus_1 : decode cX10_setStatus 1 = .ok (.i2l, 1) := by decide +kernel
theorem dX10_setStatus_2 : decode cX10_setStatus 2 = .ok (.lconst 0, 1) := by decide +kernel
theorem dX10_setStatus_3 : decode cX10_setStatus 3 = .ok (.lconst 1, 1) := by decide +kernel
theorem dX10_setStatus_4 : decode cX10_setStatus 4 = .ok (.invokestatic 115, 3) := by decide +kernel
theorem dX10_setStatus_7 : decode cX10_setStatus 7 = .ok (.ifCond .ne 5, 3) := by decide +kernel
theorem dX10_setStatus_10 : decode cX10_setStatus 10 = .ok (.iconst (-1), 1) := by decide +kernel
theorem dX10_setStatus_11 : decode cX10_setStatus 11 = .ok (.ireturn, 1) := by decide +kernel
theorem dX10_setStatus_12 : decode cX10_setStatus 12 = .ok (.aload_n 0, 1) := by decide +kernel
theorem dX10_setStatus_13 : decode cX10_setStatus 13 = .ok (.getfield 130, 3) := by decide +kernel
theorem dX10_setStatus_16 : decode cX10_setStatus 16 = .ok (.istore_n 2, 1) := by decide +kernel
theorem dX10_setStatus_17 : decode cX10_setStatus 17 = .ok (.aload_n 0, 1) := by decide +kernel
theorem dX10_setStatus_18 : decode cX10_setStatus 18 = .ok (.iload_n 1, 1) := by decide +kernel
theorem dX10_setStatus_19 : decode cX10_setStatus 19 = .ok (.putfield 130, 3) := by decide +kernel
theorem dX10_setStatus_22 : decode cX10_setStatus 22 = .ok (.iload_n 2, 1) := by decide +kernel
theorem dX10_setStatus_23 : decode cX10_setStatus 23 = .ok (.ireturn, 1) := by decide +kernel
theorem dX10_isGood_0 : decode cX10_isGood 0 = .ok (.iconst 0, 1) := by decide +kernel
theorem dX10_isGood_1 : decode cX10_isGood 1 = .ok (.istore_n 1, 1) := by decide +kernel
theorem dX10_isGood_2 : decode cX10_isGood 2 = .ok (.iconst 0, 1) := by decide +kernel
theorem dX10_isGood_3 : decode cX10_isGood 3 = .ok (.istore_n 2, 1) := by decide +kernel
theorem dX10_isGood_4 : decode cX10_isGood 4 = .ok (.iconst 0, 1) := by decide +kernel
theorem dX10_isGood_5 : decode cX10_isGood 5 = .ok (.istore_n 3, 1) := by decide +kernel
theorem dX10_isGood_6 : decode cX10_isGood 6 = .ok (.iload_n 3, 1) := by decide +kernel
theorem dX10_isGood_7 : decode cX10_isGood 7 = .ok (.aload_n 0, 1) := by decide +kernel
theorem dX10_isGood_8 : decode cX10_isGood 8 = .ok (.getfield 9, 3) := by decide +kernel
theorem dX10_isGood_11 : decode cX10_isGood 11 = .ok (.if_icmp .ge 23, 3) := by decide +kernel
theorem dX10_isGood_14 : decode cX10_isGood 14 = .ok (.aload_n 0, 1) := by decide +kernel
theorem dX10_isGood_15 : decode cX10_isGood 15 = .ok (.getfield 22, 3) := by decide +kernel
theorem dX10_isGood_18 : decode cX10_isGood 18 = .ok (.iload_n 3, 1) := by decide +kernel
theorem dX10_isGood_19 : decode cX10_isGood 19 = .ok (.iaload, 1) := by decide +kernel
theorem dX10_isGood_20 : decode cX10_isGood 20 = .ok (.ifCond .ne 8, 3) := by decide +kernel
theorem dX10_isGood_23 : decode cX10_isGood 23 = .ok (.iinc 1 1, 3) := by decide +kernel
theorem dX10_isGood_26 : decode cX10_isGood 26 = .ok (.iload_n 3, 1) := by decide +kernel
theorem dX10_isGood_27 : decode cX10_isGood 27 = .ok (.istore_n 2, 1) := by decide +kernel
theorem dX10_isGood_28 : decode cX10_isGood 28 = .ok (.iinc 3 1, 3) := by decide +kernel
theorem dX10_isGood_31 : decode cX10_isGood 31 = .ok (.goto (-25), 3) := by decide +kernel
theorem dX10_isGood_34 : decode cX10_isGood 34 = .ok (.iload_n 1, 1) := by decide +kernel
theorem dX10_isGood_35 : decode cX10_isGood 35 = .ok (.iconst 1, 1) := by decide +kernel
theorem dX10_isGood_36 : decode cX10_isGood 36 = .ok (.if_icmp .gt 7, 3) := by decide +kernel
theorem dX10_isGood_39 : decode cX10_isGood 39 = .ok (.iconst 1, 1) := by decide +kernel
theorem dX10_isGood_40 : decode cX10_isGood 40 = .ok (.goto 4, 3) := by decide +kernel
theorem dX10_isGood_43 : decode cX10_isGood 43 = .ok (.iconst 0, 1) := by decide +kernel
theorem dX10_isGood_44 : decode cX10_isGood 44 = .ok (.istore_n 3, 1) := by decide +kernel
theorem dX10_isGood_45 : decode cX10_isGood 45 = .ok (.iconst 0, 1) := by decide +kernel
theorem dX10_isGood_46 : decode cX10_isGood 46 = .ok (.istore 4, 2) := by decide +kernel
theorem dX10_isGood_48 : decode cX10_isGood 48 = .ok (.iload 4, 2) := by decide +kernel
theorem dX10_isGood_50 : decode cX10_isGood 50 = .ok (.aload_n 0, 1) := by decide +kernel
theorem dX10_isGood_51 : decode cX10_isGood 51 = .ok (.getfield 9, 3) := by decide +kernel
theorem dX10_isGood_54 : decode cX10_isGood 54 = .ok (.if_icmp .ge 46, 3) := by decide +kernel
theorem dX10_isGood_57 : decode cX10_isGood 57 = .ok (.iload_n 1, 1) := by decide +kernel
theorem dX10_isGood_58 : decode cX10_isGood 58 = .ok (.iconst 1, 1) := by decide +kernel
theorem dX10_isGood_59 : decode cX10_isGood 59 = .ok (.if_icmp .ne 41, 3) := by decide +kernel
theorem dX10_isGood_62 : decode cX10_isGood 62 = .ok (.iload_n 3, 1) := by decide +kernel
theorem dX10_isGood_63 : decode cX10_isGood 63 = .ok (.ifCond .eq 29, 3) := by decide +kernel
theorem dX10_isGood_66 : decode cX10_isGood 66 = .ok (.iload 4, 2) := by decide +kernel
theorem dX10_isGood_68 : decode cX10_isGood 68 = .ok (.iload_n 2, 1) := by decide +kernel
theorem dX10_isGood_69 : decode cX10_isGood 69 = .ok (.if_icmp .eq 19, 3) := by decide +kernel
theorem dX10_isGood_72 : decode cX10_isGood 72 = .ok (.aload_n 0, 1) := by decide +kernel
theorem dX10_isGood_73 : decode cX10_isGood 73 = .ok (.getfield 25, 3) := by decide +kernel
theorem dX10_isGood_76 : decode cX10_isGood 76 = .ok (.iload_n 2, 1) := by decide +kernel
theorem dX10_isGood_77 : decode cX10_isGood 77 = .ok (.iaload, 1) := by decide +kernel
theorem dX10_isGood_78 : decode cX10_isGood 78 = .ok (.aload_n 0, 1) := by decide +kernel
theorem dX10_isGood_79 : decode cX10_isGood 79 = .ok (.getfield 25, 3) := by decide +kernel
theorem dX10_isGood_82 : decode cX10_isGood 82 = .ok (.iload 4, 2) := by decide +kernel
theorem dX10_isGood_84 : decode cX10_isGood 84 = .ok (.iaload, 1) := by decide +kernel
theorem dX10_isGood_85 : decode cX10_isGood 85 = .ok (.if_icmp .le 7, 3) := by decide +kernel
theorem dX10_isGood_88 : decode cX10_isGood 88 = .ok (.iconst 1, 1) := by decide +kernel
theorem dX10_isGood_89 : decode cX10_isGood 89 = .ok (.goto 4, 3) := by decide +kernel
theorem dX10_isGood_92 : decode cX10_isGood 92 = .ok (.iconst 0, 1) := by decide +kernel
theorem dX10_isGood_93 : decode cX10_isGood 93 = .ok (.istore_n 3, 1) := by decide +kernel
theorem dX10_isGood_94 : decode cX10_isGood 94 = .ok (.iinc 4 1, 3) := by decide +kernel
theorem dX10_isGood_97 : decode cX10_isGood 97 = .ok (.goto (-49), 3) := by decide +kernel
theorem dX10_isGood_100 : decode cX10_isGood 100 = .ok (.iload_n 3, 1) := by decide +kernel
theorem dX10_isGood_101 : decode cX10_isGood 101 = .ok (.ireturn, 1) := by decide +kernel
theorem dX10_isAdmissible_0 : decode cX10_isAdmissible 0 = .ok (.aload_n 0, 1) := by decide +kernel
theorem dX10_isAdmissible_1 : decode cX10_isAdmissible 1 = .ok (.invokevirtual 167, 3) := by decide +kernel
theorem dX10_isAdmissible_4 : decode cX10_isAdmissible 4 = .ok (.ifCond .eq 7, 3) := by decide +kernel
theorem dX10_isAdmissible_7 : decode cX10_isAdmissible 7 = .ok (.iconst 1, 1) := by decide +kernel
theorem dX10_isAdmissible_8 : decode cX10_isAdmissible 8 = .ok (.goto 4, 3) := by decide +kernel
theorem dX10_isAdmissible_11 : decode cX10_isAdmissible 11 = .ok (.iconst 0, 1) := by decide +kernel
theorem dX10_isAdmissible_12 : decode cX10_isAdmissible 12 = .ok (.ireturn, 1) := by decide +kernel
theorem dX10_compared_0 : decode cX10_compared 0 = .ok (.iconst 0, 1) := by decide +kernel
theorem dX10_compared_1 : decode cX10_compared 1 = .ok (.istore_n 3, 1) := by decide +kernel
theorem dX10_compared_2 : decode cX10_compared 2 = .ok (.iconst 0, 1) := by decide +kernel
theorem dX10_compared_3 : decode cX10_compared 3 = .ok (.istore 4, 2) := by decide +kernel
theorem dX10_compared_5 : decode cX10_compared 5 = .ok (.iload 4, 2) := by decide +kernel
theorem dX10_compared_7 : decode cX10_compared 7 = .ok (.iload_n 1, 1) := by decide +kernel
theorem dX10_compared_8 : decode cX10_compared 8 = .ok (.if_icmp .ge 24, 3) := by decide +kernel
theorem dX10_compared_11 : decode cX10_compared 11 = .ok (.iload_n 3, 1) := by decide +kernel
theorem dX10_compared_12 : decode cX10_compared 12 = .ok (.aload_n 0, 1) := by decide +kernel
theorem dX10_compared_13 : decode cX10_compared 13 = .ok (.getfield 22, 3) := by decide +kernel
theorem dX10_compared_16 : decode cX10_compared 16 = .ok (.aload_n 0, 1) := by decide +kernel
theorem dX10_compared_17 : decode cX10_compared 17 = .ok (.getfield 79, 3) := by decide +kernel
theorem dX10_compared_20 : decode cX10_compared 20 = .ok (.iload 4, 2) := by decide +kernel
theorem dX10_compared_22 : decode cX10_compared 22 = .ok (.iaload, 1) := by decide +kernel
theorem dX10_compared_23 : decode cX10_compared 23 = .ok (.iaload, 1) := by decide +kernel
theorem dX10_compared_24 : decode cX10_compared 24 = .ok (.iadd, 1) := by decide +kernel
theorem dX10_compared_25 : decode cX10_compared 25 = .ok (.istore_n 3, 1) := by decide +kernel
theorem dX10_compared_26 : decode cX10_compared 26 = .ok (.iinc 4 1, 3) := by decide +kernel
theorem dX10_compared_29 : decode cX10_compared 29 = .ok (.goto (-24), 3) := by decide +kernel
theorem dX10_compared_32 : decode cX10_compared 32 = .ok (.iconst 0, 1) := by decide +kernel
theorem dX10_compared_33 : decode cX10_compared 33 = .ok (.istore 4, 2) := by decide +kernel
theorem dX10_compared_35 : decode cX10_compared 35 = .ok (.iload 4, 2) := by decide +kernel
theorem dX10_compared_37 : decode cX10_compared 37 = .ok (.iload_n 2, 1) := by decide +kernel
theorem dX10_compared_38 : decode cX10_compared 38 = .ok (.if_icmp .ge 24, 3) := by decide +kernel
theorem dX10_compared_41 : decode cX10_compared 41 = .ok (.iload_n 3, 1) := by decide +kernel
theorem dX10_compared_42 : decode cX10_compared 42 = .ok (.aload_n 0, 1) := by decide +kernel
theorem dX10_compared_43 : decode cX10_compared 43 = .ok (.getfield 22, 3) := by decide +kernel
theorem dX10_compared_46 : decode cX10_compared 46 = .ok (.aload_n 0, 1) := by decide +kernel
theorem dX10_compared_47 : decode cX10_compared 47 = .ok (.getfield 82, 3) := by decide +kernel
theorem dX10_compared_50 : decode cX10_compared 50 = .ok (.iload 4, 2) := by decide +kernel
theorem dX10_compared_52 : decode cX10_compared 52 = .ok (.iaload, 1) := by decide +kernel
theorem dX10_compared_53 : decode cX10_compared 53 = .ok (.iaload, 1) := by decide +kernel
theorem dX10_compared_54 : decode cX10_compared 54 = .ok (.isub, 1) := by decide +kernel
theorem dX10_compared_55 : decode cX10_compared 55 = .ok (.istore_n 3, 1) := by decide +kernel
theorem dX10_compared_56 : decode cX10_compared 56 = .ok (.iinc 4 1, 3) := by decide +kernel
theorem dX10_compared_59 : decode cX10_compared 59 = .ok (.goto (-24), 3) := by decide +kernel
theorem dX10_compared_62 : decode cX10_compared 62 = .ok (.iload_n 3, 1) := by decide +kernel
theorem dX10_compared_63 : decode cX10_compared 63 = .ok (.ifCond .eq 13, 3) := by decide +kernel
theorem dX10_compared_66 : decode cX10_compared 66 = .ok (.iload_n 3, 1) := by decide +kernel
theorem dX10_compared_67 : decode cX10_compared 67 = .ok (.ifCond .le 7, 3) := by decide +kernel
theorem dX10_compared_70 : decode cX10_compared 70 = .ok (.iconst 2, 1) := by decide +kernel
theorem dX10_compared_71 : decode cX10_compared 71 = .ok (.goto 4, 3) := by decide +kernel
theorem dX10_compared_74 : decode cX10_compared 74 = .ok (.iconst 0, 1) := by decide +kernel
theorem dX10_compared_75 : decode cX10_compared 75 = .ok (.ireturn, 1) := by decide +kernel
theorem dX10_compared_76 : decode cX10_compared 76 = .ok (.iconst 0, 1) := by decide +kernel
theorem dX10_compared_77 : decode cX10_compared 77 = .ok (.istore 4, 2) := by decide +kernel
theorem dX10_compared_79 : decode cX10_compared 79 = .ok (.iload 4, 2) := by decide +kernel
theorem dX10_compared_81 : decode cX10_compared 81 = .ok (.iload_n 1, 1) := by decide +kernel
theorem dX10_compared_82 : decode cX10_compared 82 = .ok (.if_icmp .ge 105, 3) := by decide +kernel
theorem dX10_compared_85 : decode cX10_compared 85 = .ok (.iload 4, 2) := by decide +kernel
theorem dX10_compared_87 : decode cX10_compared 87 = .ok (.iload_n 2, 1) := by decide +kernel
theorem dX10_compared_88 : decode cX10_compared 88 = .ok (.if_icmp .ge 99, 3) := by decide +kernel
theorem dX10_compared_91 : decode cX10_compared 91 = .ok (.aload_n 0, 1) := by decide +kernel
theorem dX10_compared_92 : decode cX10_compared 92 = .ok (.getfield 25, 3) := by decide +kernel
theorem dX10_compared_95 : decode cX10_compared 95 = .ok (.aload_n 0, 1) := by decide +kernel
theorem dX10_compared_96 : decode cX10_compared 96 = .ok (.getfield 130, 3) := by decide +kernel
theorem dX10_compared_99 : decode cX10_compared 99 = .ok (.ifCond .ne 13, 3) := by decide +kernel
theorem dX10_compared_102 : decode cX10_compared 102 = .ok (.aload_n 0, 1) := by decide +kernel
theorem dX10_compared_103 : decode cX10_compared 103 = .ok (.getfield 79, 3) := by decide +kernel
theorem dX10_compared_106 : decode cX10_compared 106 = .ok (.iload 4, 2) := by decide +kernel
theorem dX10_compared_108 : decode cX10_compared 108 = .ok (.iaload, 1) := by decide +kernel
theorem dX10_compared_109 : decode cX10_compared 109 = .ok (.goto 14, 3) := by decide +kernel
theorem dX10_compared_112 : decode cX10_compared 112 = .ok (.aload_n 0, 1) := by decide +kernel
theorem dX10_compared_113 : decode cX10_compared 113 = .ok (.getfield 79, 3) := by decide +kernel
theorem dX10_compared_116 : decode cX10_compared 116 = .ok (.iload_n 1, 1) := by decide +kernel
theorem dX10_compared_117 : decode cX10_compared 117 = .ok (.iconst 1, 1) := by decide +kernel
theorem dX10_compared_118 : decode cX10_compared 118 = .ok (.isub, 1) := by decide +kernel
theorem dX10_compared_119 : decode cX10_compared 119 = .ok (.iload 4, 2) := by decide +kernel
theorem dX10_compared_121 : decode cX10_compared 121 = .ok (.isub, 1) := by decide +kernel
theorem dX10_compared_122 : decode cX10_compared 122 = .ok (.iaload, 1) := by decide +kernel
theorem dX10_compared_123 : decode cX10_compared 123 = .ok (.iaload, 1) := by decide +kernel
theorem dX10_compared_124 : decode cX10_compared 124 = .ok (.istore 5, 2) := by decide +kernel
theorem dX10_compared_126 : decode cX10_compared 126 = .ok (.aload_n 0, 1) := by decide +kernel
theorem dX10_compared_127 : decode cX10_compared 127 = .ok (.getfield 25, 3) := by decide +kernel
theorem dX10_compared_130 : decode cX10_compared 130 = .ok (.aload_n 0, 1) := by decide +kernel
theorem dX10_compared_131 : decode cX10_compared 131 = .ok (.getfield 130, 3) := by decide +kernel
theorem dX10_compared_134 : decode cX10_compared 134 = .ok (.ifCond .ne 13, 3) := by decide +kernel
theorem dX10_compared_137 : decode cX10_compared 137 = .ok (.aload_n 0, 1) := by decide +kernel
theorem dX10_compared_138 : decode cX10_compared 138 = .ok (.getfield 82, 3) := by decide +kernel
theorem dX10_compared_141 : decode cX10_compared 141 = .ok (.iload 4, 2) := by decide +kernel
theorem dX10_compared_143 : decode cX10_compared 143 = .ok (.iaload, 1) := by decide +kernel
theorem dX10_compared_144 : decode cX10_compared 144 = .ok (.goto 14, 3) := by decide +kernel
theorem dX10_compared_147 : decode cX10_compared 147 = .ok (.aload_n 0, 1) := by decide +kernel
theorem dX10_compared_148 : decode cX10_compared 148 = .ok (.getfield 82, 3) := by decide +kernel
theorem dX10_compared_151 : decode cX10_compared 151 = .ok (.iload_n 2, 1) := by decide +kernel
theorem dX10_compared_152 : decode cX10_compared 152 = .ok (.iconst 1, 1) := by decide +kernel
theorem dX10_compared_153 : decode cX10_compared 153 = .ok (.isub, 1) := by decide +kernel
theorem dX10_compared_154 : decode cX10_compared 154 = .ok (.iload 4, 2) := by decide +kernel
theorem dX10_compared_156 : decode cX10_compared 156 = .ok (.isub, 1) := by decide +kernel
theorem dX10_compared_157 : decode cX10_compared 157 = .ok (.iaload, 1) := by decide +kernel
theorem dX10_compared_158 : decode cX10_compared 158 = .ok (.iaload, 1) := by decide +kernel
theorem dX10_compared_159 : decode cX10_compared 159 = .ok (.istore 6, 2) := by decide +kernel
theorem dX10_compared_161 : decode cX10_compared 161 = .ok (.iload 5, 2) := by decide +kernel
theorem dX10_compared_163 : decode cX10_compared 163 = .ok (.iload 6, 2) := by decide +kernel
theorem dX10_compared_165 : decode cX10_compared 165 = .ok (.if_icmp .eq 16, 3) := by decide +kernel
theorem dX10_compared_168 : decode cX10_compared 168 = .ok (.iload 5, 2) := by decide +kernel
theorem dX10_compared_170 : decode cX10_compared 170 = .ok (.iload 6, 2) := by decide +kernel
theorem dX10_compared_172 : decode cX10_compared 172 = .ok (.if_icmp .le 7, 3) := by decide +kernel
theorem dX10_compared_175 : decode cX10_compared 175 = .ok (.iconst 2, 1) := by decide +kernel
theorem dX10_compared_176 : decode cX10_compared 176 = .ok (.goto 4, 3) := by decide +kernel
theorem dX10_compared_179 : decode cX10_compared 179 = .ok (.iconst 0, 1) := by decide +kernel
theorem dX10_compared_180 : decode cX10_compared 180 = .ok (.ireturn, 1) := by decide +kernel
theorem dX10_compared_181 : decode cX10_compared 181 = .ok (.iinc 4 1, 3) := by decide +kernel
theorem dX10_compared_184 : decode cX10_compared 184 = .ok (.goto (-105), 3) := by decide +kernel
theorem dX10_compared_187 : decode cX10_compared 187 = .ok (.iload_n 1, 1) := by decide +kernel
theorem dX10_compared_188 : decode cX10_compared 188 = .ok (.iload_n 2, 1) := by decide +kernel
theorem dX10_compared_189 : decode cX10_compared 189 = .ok (.if_icmp .le 7, 3) := by decide +kernel
theorem dX10_compared_192 : decode cX10_compared 192 = .ok (.iconst 2, 1) := by decide +kernel
theorem dX10_compared_193 : decode cX10_compared 193 = .ok (.goto 13, 3) := by decide +kernel
theorem dX10_compared_196 : decode cX10_compared 196 = .ok (.iload_n 1, 1) := by decide +kernel
theorem dX10_compared_197 : decode cX10_compared 197 = .ok (.iload_n 2, 1) := by decide +kernel
theorem dX10_compared_198 : decode cX10_compared 198 = .ok (.if_icmp .ne 7, 3) := by decide +kernel
theorem dX10_compared_201 : decode cX10_compared 201 = .ok (.iconst 1, 1) := by decide +kernel
theorem dX10_compared_202 : decode cX10_compared 202 = .ok (.goto 4, 3) := by decide +kernel
theorem dX10_compared_205 : decode cX10_compared 205 = .ok (.iconst 0, 1) := by decide +kernel
theorem dX10_compared_206 : decode cX10_compared 206 = .ok (.ireturn, 1) := by decide +kernel
theorem dX10_sidesOf_0 : decode cX10_sidesOf 0 = .ok (.iconst 0, 1) := by decide +kernel
theorem dX10_sidesOf_1 : decode cX10_sidesOf 1 = .ok (.istore_n 2, 1) := by decide +kernel
theorem dX10_sidesOf_2 : decode cX10_sidesOf 2 = .ok (.iload_n 2, 1) := by decide +kernel
theorem dX10_sidesOf_3 : decode cX10_sidesOf 3 = .ok (.bipush 6, 2) := by decide +kernel
theorem dX10_sidesOf_5 : decode cX10_sidesOf 5 = .ok (.if_icmp .ge 46, 3) := by decide +kernel
theorem dX10_sidesOf_8 : decode cX10_sidesOf 8 = .ok (.aload_n 0, 1) := by decide +kernel
theorem dX10_sidesOf_9 : decode cX10_sidesOf 9 = .ok (.getfield 79, 3) := by decide +kernel
theorem dX10_sidesOf_12 : decode cX10_sidesOf 12 = .ok (.iload_n 2, 1) := by decide +kernel
theorem dX10_sidesOf_13 : decode cX10_sidesOf 13 = .ok (.aload_n 0, 1) := by decide +kernel
theorem dX10_sidesOf_14 : decode cX10_sidesOf 14 = .ok (.getfield 19, 3) := by decide +kernel
theorem dX10_sidesOf_17 : decode cX10_sidesOf 17 = .ok (.bipush 12, 2) := by decide +kernel
theorem dX10_sidesOf_19 : decode cX10_sidesOf 19 = .ok (.iload_n 1, 1) := by decide +kernel
theorem dX10_sidesOf_20 : decode cX10_sidesOf 20 = .ok (.imul, 1) := by decide +kernel
theorem dX10_sidesOf_21 : decode cX10_sidesOf 21 = .ok (.iload_n 2, 1) := by decide +kernel
theorem dX10_sidesOf_22 : decode cX10_sidesOf 22 = .ok (.iadd, 1) := by decide +kernel
theorem dX10_sidesOf_23 : decode cX10_sidesOf 23 = .ok (.iaload, 1) := by decide +kernel
theorem dX10_sidesOf_24 : decode cX10_sidesOf 24 = .ok (.iastore, 1) := by decide +kernel
theorem dX10_sidesOf_25 : decode cX10_sidesOf 25 = .ok (.aload_n 0, 1) := by decide +kernel
theorem dX10_sidesOf_26 : decode cX10_sidesOf 26 = .ok (.getfield 82, 3) := by decide +kernel
theorem dX10_sidesOf_29 : decode cX10_sidesOf 29 = .ok (.iload_n 2, 1) := by decide +kernel
theorem dX10_sidesOf_30 : decode cX10_sidesOf 30 = .ok (.aload_n 0, 1) := by decide +kernel
theorem dX10_sidesOf_31 : decode cX10_sidesOf 31 = .ok (.getfield 19, 3) := by decide +kernel
theorem dX10_sidesOf_34 : decode cX10_sidesOf 34 = .ok (.bipush 12, 2) := by decide +kernel
theorem dX10_sidesOf_36 : decode cX10_sidesOf 36 = .ok (.iload_n 1, 1) := by decide +kernel
theorem dX10_sidesOf_37 : decode cX10_sidesOf 37 = .ok (.imul, 1) := by decide +kernel
theorem dX10_sidesOf_38 : decode cX10_sidesOf 38 = .ok (.bipush 6, 2) := by decide +kernel
theorem dX10_sidesOf_40 : decode cX10_sidesOf 40 = .ok (.iadd, 1) := by decide +kernel
theorem dX10_sidesOf_41 : decode cX10_sidesOf 41 = .ok (.iload_n 2, 1) := by decide +kernel
theorem dX10_sidesOf_42 : decode cX10_sidesOf 42 = .ok (.iadd, 1) := by decide +kernel
theorem dX10_sidesOf_43 : decode cX10_sidesOf 43 = .ok (.iaload, 1) := by decide +kernel
theorem dX10_sidesOf_44 : decode cX10_sidesOf 44 = .ok (.iastore, 1) := by decide +kernel
theorem dX10_sidesOf_45 : decode cX10_sidesOf 45 = .ok (.iinc 2 1, 3) := by decide +kernel
theorem dX10_sidesOf_48 : decode cX10_sidesOf 48 = .ok (.goto (-46), 3) := by decide +kernel
theorem dX10_sidesOf_51 : decode cX10_sidesOf 51 = .ok (.aload_n 0, 1) := by decide +kernel
theorem dX10_sidesOf_52 : decode cX10_sidesOf 52 = .ok (.aload_n 0, 1) := by decide +kernel
theorem dX10_sidesOf_53 : decode cX10_sidesOf 53 = .ok (.getfield 15, 3) := by decide +kernel
theorem dX10_sidesOf_56 : decode cX10_sidesOf 56 = .ok (.iconst 2, 1) := by decide +kernel
theorem dX10_sidesOf_57 : decode cX10_sidesOf 57 = .ok (.iload_n 1, 1) := by decide +kernel
theorem dX10_sidesOf_58 : decode cX10_sidesOf 58 = .ok (.imul, 1) := by decide +kernel
theorem dX10_sidesOf_59 : decode cX10_sidesOf 59 = .ok (.iaload, 1) := by decide +kernel
theorem dX10_sidesOf_60 : decode cX10_sidesOf 60 = .ok (.aload_n 0, 1) := by decide +kernel
theorem dX10_sidesOf_61 : decode cX10_sidesOf 61 = .ok (.getfield 15, 3) := by decide +kernel
theorem dX10_sidesOf_64 : decode cX10_sidesOf 64 = .ok (.iconst 2, 1) := by decide +kernel
theorem dX10_sidesOf_65 : decode cX10_sidesOf 65 = .ok (.iload_n 1, 1) := by decide +kernel
theorem dX10_sidesOf_66 : decode cX10_sidesOf 66 = .ok (.imul, 1) := by decide +kernel
theorem dX10_sidesOf_67 : decode cX10_sidesOf 67 = .ok (.iconst 1, 1) := by decide +kernel
theorem dX10_sidesOf_68 : decode cX10_sidesOf 68 = .ok (.iadd, 1) := by decide +kernel
theorem dX10_sidesOf_69 : decode cX10_sidesOf 69 = .ok (.iaload, 1) := by decide +kernel
theorem dX10_sidesOf_70 : decode cX10_sidesOf 70 = .ok (.invokevirtual 171, 3) := by decide +kernel
theorem dX10_sidesOf_73 : decode cX10_sidesOf 73 = .ok (.ireturn, 1) := by decide +kernel
theorem dX10_compareSides_0 : decode cX10_compareSides 0 = .ok (.aload_n 0, 1) := by decide +kernel
theorem dX10_compareSides_1 : decode cX10_compareSides 1 = .ok (.iload_n 1, 1) := by decide +kernel
theorem dX10_compareSides_2 : decode cX10_compareSides 2 = .ok (.invokevirtual 152, 3) := by decide +kernel
theorem dX10_compareSides_5 : decode cX10_compareSides 5 = .ok (.ifCond .eq 11, 3) := by decide +kernel
theorem dX10_compareSides_8 : decode cX10_compareSides 8 = .ok (.aload_n 0, 1) := by decide +kernel
theorem dX10_compareSides_9 : decode cX10_compareSides 9 = .ok (.iload_n 1, 1) := by decide +kernel
theorem dX10_compareSides_10 : decode cX10_compareSides 10 = .ok (.invokevirtual 174, 3) := by decide +kernel
theorem dX10_compareSides_13 : decode cX10_compareSides 13 = .ok (.goto 5, 3) := by decide +kernel
theorem dX10_compareSides_16 : decode cX10_compareSides 16 = .ok (.bipush (-3), 2) := by decide +kernel
theorem dX10_compareSides_18 : decode cX10_compareSides 18 = .ok (.ireturn, 1) := by decide +kernel
theorem dX10_taken_0 : decode cX10_taken 0 = .ok (.aload_n 0, 1) := by decide +kernel
theorem dX10_taken_1 : decode cX10_taken 1 = .ok (.getfield 137, 3) := by decide +kernel
theorem dX10_taken_4 : decode cX10_taken 4 = .ok (.istore_n 1, 1) := by decide +kernel
theorem dX10_taken_5 : decode cX10_taken 5 = .ok (.aload_n 0, 1) := by decide +kernel
theorem dX10_taken_6 : decode cX10_taken 6 = .ok (.iconst 0, 1) := by decide +kernel
theorem dX10_taken_7 : decode cX10_taken 7 = .ok (.invokevirtual 148, 3) := by decide +kernel
theorem dX10_taken_10 : decode cX10_taken 10 = .ok (.aload_n 0, 1) := by decide +kernel
theorem dX10_taken_11 : decode cX10_taken 11 = .ok (.getfield 137, 3) := by decide +kernel
theorem dX10_taken_14 : decode cX10_taken 14 = .ok (.if_icmp .ne 16, 3) := by decide +kernel
theorem dX10_taken_17 : decode cX10_taken 17 = .ok (.aload_n 0, 1) := by decide +kernel
theorem dX10_taken_18 : decode cX10_taken 18 = .ok (.getfield 137, 3) := by decide +kernel
theorem dX10_taken_21 : decode cX10_taken 21 = .ok (.bipush 12, 2) := by decide +kernel
theorem dX10_taken_23 : decode cX10_taken 23 = .ok (.if_icmp .gt 7, 3) := by decide +kernel
theorem dX10_taken_26 : decode cX10_taken 26 = .ok (.iconst 1, 1) := by decide +kernel
theorem dX10_taken_27 : decode cX10_taken 27 = .ok (.goto 4, 3) := by decide +kernel
theorem dX10_taken_30 : decode cX10_taken 30 = .ok (.iconst 0, 1) := by decide +kernel
theorem dX10_taken_31 : decode cX10_taken 31 = .ok (.istore_n 2, 1) := by decide +kernel
theorem dX10_taken_32 : decode cX10_taken 32 = .ok (.aload_n 0, 1) := by decide +kernel
theorem dX10_taken_33 : decode cX10_taken 33 = .ok (.iconst 0, 1) := by decide +kernel
theorem dX10_taken_34 : decode cX10_taken 34 = .ok (.putfield 137, 3) := by decide +kernel
theorem dX10_taken_37 : decode cX10_taken 37 = .ok (.iload_n 2, 1) := by decide +kernel
theorem dX10_taken_38 : decode cX10_taken 38 = .ok (.ifCond .eq 7, 3) := by decide +kernel
theorem dX10_taken_41 : decode cX10_taken 41 = .ok (.iload_n 1, 1) := by decide +kernel
theorem dX10_taken_42 : decode cX10_taken 42 = .ok (.goto 4, 3) := by decide +kernel
theorem dX10_taken_45 : decode cX10_taken 45 = .ok (.iconst (-1), 1) := by decide +kernel
theorem dX10_taken_46 : decode cX10_taken 46 = .ok (.ireturn, 1) := by decide +kernel
theorem dX10_compareWithInput_0 : decode cX10_compareWithInput 0 = .ok (.aload_n 0, 1) := by decide +kernel
theorem dX10_compareWithInput_1 : decode cX10_compareWithInput 1 = .ok (.invokevirtual 177, 3) := by decide +kernel
theorem dX10_compareWithInput_4 : decode cX10_compareWithInput 4 = .ok (.istore_n 1, 1) := by decide +kernel
theorem dX10_compareWithInput_5 : decode cX10_compareWithInput 5 = .ok (.iload_n 1, 1) := by decide +kernel
theorem dX10_compareWithInput_6 : decode cX10_compareWithInput 6 = .ok (.iconst (-1), 1) := by decide +kernel
theorem dX10_compareWithInput_7 : decode cX10_compareWithInput 7 = .ok (.if_icmp .ne 6, 3) := by decide +kernel
theorem dX10_compareWithInput_10 : decode cX10_compareWithInput 10 = .ok (.bipush (-5), 2) := by decide +kernel
theorem dX10_compareWithInput_12 : decode cX10_compareWithInput 12 = .ok (.ireturn, 1) := by decide +kernel
theorem dX10_compareWithInput_13 : decode cX10_compareWithInput 13 = .ok (.iconst 0, 1) := by decide +kernel
theorem dX10_compareWithInput_14 : decode cX10_compareWithInput 14 = .ok (.istore_n 2, 1) := by decide +kernel
theorem dX10_compareWithInput_15 : decode cX10_compareWithInput 15 = .ok (.iload_n 2, 1) := by decide +kernel
theorem dX10_compareWithInput_16 : decode cX10_compareWithInput 16 = .ok (.aload_n 0, 1) := by decide +kernel
theorem dX10_compareWithInput_17 : decode cX10_compareWithInput 17 = .ok (.getfield 124, 3) := by decide +kernel
theorem dX10_compareWithInput_20 : decode cX10_compareWithInput 20 = .ok (.if_icmp .ge 21, 3) := by decide +kernel
theorem dX10_compareWithInput_23 : decode cX10_compareWithInput 23 = .ok (.aload_n 0, 1) := by decide +kernel
theorem dX10_compareWithInput_24 : decode cX10_compareWithInput 24 = .ok (.getfield 79, 3) := by decide +kernel
theorem dX10_compareWithInput_27 : decode cX10_compareWithInput 27 = .ok (.iload_n 2, 1) := by decide +kernel
theorem dX10_compareWithInput_28 : decode cX10_compareWithInput 28 = .ok (.aload_n 0, 1) := by decide +kernel
theorem dX10_compareWithInput_29 : decode cX10_compareWithInput 29 = .ok (.getfield 35, 3) := by decide +kernel
theorem dX10_compareWithInput_32 : decode cX10_compareWithInput 32 = .ok (.iload_n 2, 1) := by decide +kernel
theorem dX10_compareWithInput_33 : decode cX10_compareWithInput 33 = .ok (.iaload, 1) := by decide +kernel
theorem dX10_compareWithInput_34 : decode cX10_compareWithInput 34 = .ok (.iastore, 1) := by decide +kernel
theorem dX10_compareWithInput_35 : decode cX10_compareWithInput 35 = .ok (.iinc 2 1, 3) := by decide +kernel
theorem dX10_compareWithInput_38 : decode cX10_compareWithInput 38 = .ok (.goto (-23), 3) := by decide +kernel
theorem dX10_compareWithInput_41 : decode cX10_compareWithInput 41 = .ok (.iconst 0, 1) := by decide +kernel
theorem dX10_compareWithInput_42 : decode cX10_compareWithInput 42 = .ok (.istore_n 2, 1) := by decide +kernel
theorem dX10_compareWithInput_43 : decode cX10_compareWithInput 43 = .ok (.iload_n 2, 1) := by decide +kernel
theorem dX10_compareWithInput_44 : decode cX10_compareWithInput 44 = .ok (.iload_n 1, 1) := by decide +kernel
theorem dX10_compareWithInput_45 : decode cX10_compareWithInput 45 = .ok (.if_icmp .ge 24, 3) := by decide +kernel
theorem dX10_compareWithInput_48 : decode cX10_compareWithInput 48 = .ok (.aload_n 0, 1) := by decide +kernel
theorem dX10_compareWithInput_49 : decode cX10_compareWithInput 49 = .ok (.getfield 82, 3) := by decide +kernel
theorem dX10_compareWithInput_52 : decode cX10_compareWithInput 52 = .ok (.iload_n 2, 1) := by decide +kernel
theorem dX10_compareWithInput_53 : decode cX10_compareWithInput 53 = .ok (.aload_n 0, 1) := by decide +kernel
theorem dX10_compareWithInput_54 : decode cX10_compareWithInput 54 = .ok (.getfield 32, 3) := by decide +kernel
theorem dX10_compareWithInput_57 : decode cX10_compareWithInput 57 = .ok (.iload_n 2, 1) := by decide +kernel
theorem dX10_compareWithInput_58 : decode cX10_compareWithInput 58 = .ok (.iaload, 1) := by decide +kernel
theorem dX10_compareWithInput_59 : decode cX10_compareWithInput 59 = .ok (.bipush 97, 2) := by decide +kernel
theorem dX10_compareWithInput_61 : decode cX10_compareWithInput 61 = .ok (.isub, 1) := by decide +kernel
theorem dX10_compareWithInput_62 : decode cX10_compareWithInput 62 = .ok (.iastore, 1) := by decide +kernel
theorem dX10_compareWithInput_63 : decode cX10_compareWithInput 63 = .ok (.iinc 2 1, 3) := by decide +kernel
theorem dX10_compareWithInput_66 : decode cX10_compareWithInput 66 = .ok (.goto (-23), 3) := by decide +kernel
theorem dX10_compareWithInput_69 : decode cX10_compareWithInput 69 = .ok (.aload_n 0, 1) := by decide +kernel
theorem dX10_compareWithInput_70 : decode cX10_compareWithInput 70 = .ok (.aload_n 0, 1) := by decide +kernel
theorem dX10_compareWithInput_71 : decode cX10_compareWithInput 71 = .ok (.getfield 124, 3) := by decide +kernel
theorem dX10_compareWithInput_74 : decode cX10_compareWithInput 74 = .ok (.iload_n 1, 1) := by decide +kernel
theorem dX10_compareWithInput_75 : decode cX10_compareWithInput 75 = .ok (.invokevirtual 171, 3) := by decide +kernel
theorem dX10_compareWithInput_78 : decode cX10_compareWithInput 78 = .ok (.ireturn, 1) := by decide +kernel
theorem dX10_firstUnoriented_0 : decode cX10_firstUnoriented 0 = .ok (.iconst 0, 1) := by decide +kernel
theorem dX10_firstUnoriented_1 : decode cX10_firstUnoriented 1 = .ok (.istore_n 1, 1) := by decide +kernel
theorem dX10_firstUnoriented_2 : decode cX10_firstUnoriented 2 = .ok (.iload_n 1, 1) := by decide +kernel
theorem dX10_firstUnoriented_3 : decode cX10_firstUnoriented 3 = .ok (.aload_n 0, 1) := by decide +kernel
theorem dX10_firstUnoriented_4 : decode cX10_firstUnoriented 4 = .ok (.getfield 119, 3) := by decide +kernel
theorem dX10_firstUnoriented_7 : decode cX10_firstUnoriented 7 = .ok (.if_icmp .ge 20, 3) := by decide +kernel
theorem dX10_firstUnoriented_10 : decode cX10_firstUnoriented 10 = .ok (.aload_n 0, 1) := by decide +kernel
theorem dX10_firstUnoriented_11 : decode cX10_firstUnoriented 11 = .ok (.iload_n 1, 1) := by decide +kernel
theorem dX10_firstUnoriented_12 : decode cX10_firstUnoriented 12 = .ok (.invokevirtual 174, 3) := by decide +kernel
theorem dX10_firstUnoriented_15 : decode cX10_firstUnoriented 15 = .ok (.iconst 2, 1) := by decide +kernel
theorem dX10_firstUnoriented_16 : decode cX10_firstUnoriented 16 = .ok (.if_icmp .eq 5, 3) := by decide +kernel
theorem dX10_firstUnoriented_19 : decode cX10_firstUnoriented 19 = .ok (.iload_n 1, 1) := by decide +kernel
theorem dX10_firstUnoriented_20 : decode cX10_firstUnoriented 20 = .ok (.ireturn, 1) := by decide +kernel
theorem dX10_firstUnoriented_21 : decode cX10_firstUnoriented 21 = .ok (.iinc 1 1, 3) := by decide +kernel
theorem dX10_firstUnoriented_24 : decode cX10_firstUnoriented 24 = .ok (.goto (-22), 3) := by decide +kernel
theorem dX10_firstUnoriented_27 : decode cX10_firstUnoriented 27 = .ok (.bipush (-6), 2) := by decide +kernel
theorem dX10_firstUnoriented_29 : decode cX10_firstUnoriented 29 = .ok (.ireturn, 1) := by decide +kernel
theorem dX10_next_0 : decode cX10_next 0 = .ok (.iload_n 1, 1) := by decide +kernel
theorem dX10_next_1 : decode cX10_next 1 = .ok (.iconst 1, 1) := by decide +kernel
theorem dX10_next_2 : decode cX10_next 2 = .ok (.isub, 1) := by decide +kernel
theorem dX10_next_3 : decode cX10_next 3 = .ok (.istore_n 3, 1) := by decide +kernel
theorem dX10_next_4 : decode cX10_next 4 = .ok (.iload_n 3, 1) := by decide +kernel
theorem dX10_next_5 : decode cX10_next 5 = .ok (.ifCond .lt 28, 3) := by decide +kernel
theorem dX10_next_8 : decode cX10_next 8 = .ok (.aload_n 0, 1) := by decide +kernel
theorem dX10_next_9 : decode cX10_next 9 = .ok (.getfield 85, 3) := by decide +kernel
theorem dX10_next_12 : decode cX10_next 12 = .ok (.iload_n 3, 1) := by decide +kernel
theorem dX10_next_13 : decode cX10_next 13 = .ok (.iaload, 1) := by decide +kernel
theorem dX10_next_14 : decode cX10_next 14 = .ok (.iload_n 2, 1) := by decide +kernel
theorem dX10_next_15 : decode cX10_next 15 = .ok (.iconst 1, 1) := by decide +kernel
theorem dX10_next_16 : decode cX10_next 16 = .ok (.isub, 1) := by decide +kernel
theorem dX10_next_17 : decode cX10_next 17 = .ok (.if_icmp .ne 16, 3) := by decide +kernel
theorem dX10_next_20 : decode cX10_next 20 = .ok (.aload_n 0, 1) := by decide +kernel
theorem dX10_next_21 : decode cX10_next 21 = .ok (.getfield 85, 3) := by decide +kernel
theorem dX10_next_24 : decode cX10_next 24 = .ok (.iload_n 3, 1) := by decide +kernel
theorem dX10_next_25 : decode cX10_next 25 = .ok (.iconst 0, 1) := by decide +kernel
theorem dX10_next_26 : decode cX10_next 26 = .ok (.iastore, 1) := by decide +kernel
theorem dX10_next_27 : decode cX10_next 27 = .ok (.iinc 3 (-1), 3) := by decide +kernel
theorem dX10_next_30 : decode cX10_next 30 = .ok (.goto (-26), 3) := by decide +kernel
theorem dX10_next_33 : decode cX10_next 33 = .ok (.iload_n 3, 1) := by decide +kernel
theorem dX10_next_34 : decode cX10_next 34 = .ok (.ifCond .lt 13, 3) := by decide +kernel
theorem dX10_next_37 : decode cX10_next 37 = .ok (.aload_n 0, 1) := by decide +kernel
theorem dX10_next_38 : decode cX10_next 38 = .ok (.getfield 85, 3) := by decide +kernel
theorem dX10_next_41 : decode cX10_next 41 = .ok (.iload_n 3, 1) := by decide +kernel
theorem dX10_next_42 : decode cX10_next 42 = .ok (.dup2, 1) := by decide +kernel
theorem dX10_next_43 : decode cX10_next 43 = .ok (.iaload, 1) := by decide +kernel
theorem dX10_next_44 : decode cX10_next 44 = .ok (.iconst 1, 1) := by decide +kernel
theorem dX10_next_45 : decode cX10_next 45 = .ok (.iadd, 1) := by decide +kernel
theorem dX10_next_46 : decode cX10_next 46 = .ok (.iastore, 1) := by decide +kernel
theorem dX10_next_47 : decode cX10_next 47 = .ok (.iload_n 3, 1) := by decide +kernel
theorem dX10_next_48 : decode cX10_next 48 = .ok (.ifCond .lt 7, 3) := by decide +kernel
theorem dX10_next_51 : decode cX10_next 51 = .ok (.iconst 1, 1) := by decide +kernel
theorem dX10_next_52 : decode cX10_next 52 = .ok (.goto 4, 3) := by decide +kernel
theorem dX10_next_55 : decode cX10_next 55 = .ok (.iconst 0, 1) := by decide +kernel
theorem dX10_next_56 : decode cX10_next 56 = .ok (.ireturn, 1) := by decide +kernel
theorem dX10_begin_0 : decode cX10_begin 0 = .ok (.iconst 0, 1) := by decide +kernel
theorem dX10_begin_1 : decode cX10_begin 1 = .ok (.istore_n 1, 1) := by decide +kernel
theorem dX10_begin_2 : decode cX10_begin 2 = .ok (.iload_n 1, 1) := by decide +kernel
theorem dX10_begin_3 : decode cX10_begin 3 = .ok (.bipush 8, 2) := by decide +kernel
theorem dX10_begin_5 : decode cX10_begin 5 = .ok (.if_icmp .ge 16, 3) := by decide +kernel
theorem dX10_begin_8 : decode cX10_begin 8 = .ok (.aload_n 0, 1) := by decide +kernel
theorem dX10_begin_9 : decode cX10_begin 9 = .ok (.getfield 85, 3) := by decide +kernel
theorem dX10_begin_12 : decode cX10_begin 12 = .ok (.iload_n 1, 1) := by decide +kernel
theorem dX10_begin_13 : decode cX10_begin 13 = .ok (.iconst 0, 1) := by decide +kernel
theorem dX10_begin_14 : decode cX10_begin 14 = .ok (.iastore, 1) := by decide +kernel
theorem dX10_begin_15 : decode cX10_begin 15 = .ok (.iinc 1 1, 3) := by decide +kernel
theorem dX10_begin_18 : decode cX10_begin 18 = .ok (.goto (-16), 3) := by decide +kernel
theorem dX10_begin_21 : decode cX10_begin 21 = .ok (.return_, 1) := by decide +kernel
theorem dX10_less_0 : decode cX10_less 0 = .ok (.iconst 0, 1) := by decide +kernel
theorem dX10_less_1 : decode cX10_less 1 = .ok (.istore_n 2, 1) := by decide +kernel
theorem dX10_less_2 : decode cX10_less 2 = .ok (.iconst 0, 1) := by decide +kernel
theorem dX10_less_3 : decode cX10_less 3 = .ok (.istore_n 3, 1) := by decide +kernel
theorem dX10_less_4 : decode cX10_less 4 = .ok (.iload_n 3, 1) := by decide +kernel
theorem dX10_less_5 : decode cX10_less 5 = .ok (.aload_n 0, 1) := by decide +kernel
theorem dX10_less_6 : decode cX10_less 6 = .ok (.getfield 9, 3) := by decide +kernel
theorem dX10_less_9 : decode cX10_less 9 = .ok (.if_icmp .ge 25, 3) := by decide +kernel
theorem dX10_less_12 : decode cX10_less 12 = .ok (.iload_n 2, 1) := by decide +kernel
theorem dX10_less_13 : decode cX10_less 13 = .ok (.aload_n 0, 1) := by decide +kernel
theorem dX10_less_14 : decode cX10_less 14 = .ok (.iload_n 1, 1) := by decide +kernel
theorem dX10_less_15 : decode cX10_less 15 = .ok (.iload_n 3, 1) := by decide +kernel
theorem dX10_less_16 : decode cX10_less 16 = .ok (.invokevirtual 159, 3) := by decide +kernel
theorem dX10_less_19 : decode cX10_less 19 = .ok (.aload_n 0, 1) := by decide +kernel
theorem dX10_less_20 : decode cX10_less 20 = .ok (.getfield 85, 3) := by decide +kernel
theorem dX10_less_23 : decode cX10_less 23 = .ok (.iload_n 3, 1) := by decide +kernel
theorem dX10_less_24 : decode cX10_less 24 = .ok (.iaload, 1) := by decide +kernel
theorem dX10_less_25 : decode cX10_less 25 = .ok (.imul, 1) := by decide +kernel
theorem dX10_less_26 : decode cX10_less 26 = .ok (.iadd, 1) := by decide +kernel
theorem dX10_less_27 : decode cX10_less 27 = .ok (.istore_n 2, 1) := by decide +kernel
theorem dX10_less_28 : decode cX10_less 28 = .ok (.iinc 3 1, 3) := by decide +kernel
theorem dX10_less_31 : decode cX10_less 31 = .ok (.goto (-27), 3) := by decide +kernel
theorem dX10_less_34 : decode cX10_less 34 = .ok (.iload_n 2, 1) := by decide +kernel
theorem dX10_less_35 : decode cX10_less 35 = .ok (.ireturn, 1) := by decide +kernel
theorem dX10_findWeights_0 : decode cX10_findWeights 0 = .ok (.iload_n 1, 1) := by decide +kernel
theorem dX10_findWeights_1 : decode cX10_findWeights 1 = .ok (.i2l, 1) := by decide +kernel
theorem dX10_findWeights_2 : decode cX10_findWeights 2 = .ok (.lconst 1, 1) := by decide +kernel
theorem dX10_findWeights_3 : decode cX10_findWeights 3 = .ok (.ldc2_w 122, 3) := by decide +kernel
theorem dX10_findWeights_6 : decode cX10_findWeights 6 = .ok (.invokestatic 115, 3) := by decide +kernel
theorem dX10_findWeights_9 : decode cX10_findWeights 9 = .ok (.ifCond .ne 5, 3) := by decide +kernel
theorem dX10_findWeights_12 : decode cX10_findWeights 12 = .ok (.iconst (-1), 1) := by decide +kernel
theorem dX10_findWeights_13 : decode cX10_findWeights 13 = .ok (.ireturn, 1) := by decide +kernel
theorem dX10_findWeights_14 : decode cX10_findWeights 14 = .ok (.aload_n 0, 1) := by decide +kernel
theorem dX10_findWeights_15 : decode cX10_findWeights 15 = .ok (.invokevirtual 180, 3) := by decide +kernel
theorem dX10_findWeights_18 : decode cX10_findWeights 18 = .ok (.iconst 1, 1) := by decide +kernel
theorem dX10_findWeights_19 : decode cX10_findWeights 19 = .ok (.istore_n 2, 1) := by decide +kernel
theorem dX10_findWeights_20 : decode cX10_findWeights 20 = .ok (.iload_n 2, 1) := by decide +kernel
theorem dX10_findWeights_21 : decode cX10_findWeights 21 = .ok (.ifCond .eq 111, 3) := by decide +kernel
theorem dX10_findWeights_24 : decode cX10_findWeights 24 = .ok (.iconst 1, 1) := by decide +kernel
theorem dX10_findWeights_25 : decode cX10_findWeights 25 = .ok (.istore_n 3, 1) := by decide +kernel
theorem dX10_findWeights_26 : decode cX10_findWeights 26 = .ok (.iconst 0, 1) := by decide +kernel
theorem dX10_findWeights_27 : decode cX10_findWeights 27 = .ok (.istore 4, 2) := by decide +kernel
theorem dX10_findWeights_29 : decode cX10_findWeights 29 = .ok (.iload 4, 2) := by decide +kernel
theorem dX10_findWeights_31 : decode cX10_findWeights 31 = .ok (.aload_n 0, 1) := by decide +kernel
theorem dX10_findWeights_32 : decode cX10_findWeights 32 = .ok (.getfield 119, 3) := by decide +kernel
theorem dX10_findWeights_35 : decode cX10_findWeights 35 = .ok (.if_icmp .ge 28, 3) := by decide +kernel
theorem dX10_findWeights_38 : decode cX10_findWeights 38 = .ok (.iload_n 3, 1) := by decide +kernel
theorem dX10_findWeights_39 : decode cX10_findWeights 39 = .ok (.ifCond .eq 24, 3) := by decide +kernel
theorem dX10_findWeights_42 : decode cX10_findWeights 42 = .ok (.aload_n 0, 1) := by decide +kernel
theorem dX10_findWeights_43 : decode cX10_findWeights 43 = .ok (.iload 4, 2) := by decide +kernel
theorem dX10_findWeights_45 : decode cX10_findWeights 45 = .ok (.invokevirtual 183, 3) := by decide +kernel
theorem dX10_findWeights_48 : decode cX10_findWeights 48 = .ok (.ifCond .le 7, 3) := by decide +kernel
theorem dX10_findWeights_51 : decode cX10_findWeights 51 = .ok (.iconst 1, 1) := by decide +kernel
theorem dX10_findWeights_52 : decode cX10_findWeights 52 = .ok (.goto 4, 3) := by decide +kernel
theorem dX10_findWeights_55 : decode cX10_findWeights 55 = .ok (.iconst 0, 1) := by decide +kernel
theorem dX10_findWeights_56 : decode cX10_findWeights 56 = .ok (.istore_n 3, 1) := by decide +kernel
theorem dX10_findWeights_57 : decode cX10_findWeights 57 = .ok (.iinc 4 1, 3) := by decide +kernel
theorem dX10_findWeights_60 : decode cX10_findWeights 60 = .ok (.goto (-31), 3) := by decide +kernel
theorem dX10_findWeights_63 : decode cX10_findWeights 63 = .ok (.iload_n 3, 1) := by decide +kernel
theorem dX10_findWeights_64 : decode cX10_findWeights 64 = .ok (.ifCond .eq 53, 3) := by decide +kernel
theorem dX10_findWeights_67 : decode cX10_findWeights 67 = .ok (.iconst 0, 1) := by decide +kernel
theorem dX10_findWeights_68 : decode cX10_findWeights 68 = .ok (.istore 4, 2) := by decide +kernel
theorem dX10_findWeights_70 : decode cX10_findWeights 70 = .ok (.iconst 0, 1) := by decide +kernel
theorem dX10_findWeights_71 : decode cX10_findWeights 71 = .ok (.istore 5, 2) := by decide +kernel
theorem dX10_findWeights_73 : decode cX10_findWeights 73 = .ok (.iload 5, 2) := by decide +kernel
theorem dX10_findWeights_75 : decode cX10_findWeights 75 = .ok (.aload_n 0, 1) := by decide +kernel
theorem dX10_findWeights_76 : decode cX10_findWeights 76 = .ok (.getfield 9, 3) := by decide +kernel
theorem dX10_findWeights_79 : decode cX10_findWeights 79 = .ok (.if_icmp .ge 35, 3) := by decide +kernel
theorem dX10_findWeights_82 : decode cX10_findWeights 82 = .ok (.aload_n 0, 1) := by decide +kernel
theorem dX10_findWeights_83 : decode cX10_findWeights 83 = .ok (.getfield 22, 3) := by decide +kernel
theorem dX10_findWeights_86 : decode cX10_findWeights 86 = .ok (.iload 5, 2) := by decide +kernel
theorem dX10_findWeights_88 : decode cX10_findWeights 88 = .ok (.aload_n 0, 1) := by decide +kernel
theorem dX10_findWeights_89 : decode cX10_findWeights 89 = .ok (.getfield 85, 3) := by decide +kernel
theorem dX10_findWeights_92 : decode cX10_findWeights 92 = .ok (.iload 5, 2) := by decide +kernel
theorem dX10_findWeights_94 : decode cX10_findWeights 94 = .ok (.iaload, 1) := by decide +kernel
theorem dX10_findWeights_95 : decode cX10_findWeights 95 = .ok (.iastore, 1) := by decide +kernel
theorem dX10_findWeights_96 : decode cX10_findWeights 96 = .ok (.iload 4, 2) := by decide +kernel
theorem dX10_findWeights_98 : decode cX10_findWeights 98 = .ok (.aload_n 0, 1) := by decide +kernel
theorem dX10_findWeights_99 : decode cX10_findWeights 99 = .ok (.getfield 85, 3) := by decide +kernel
theorem dX10_findWeights_102 : decode cX10_findWeights 102 = .ok (.iload 5, 2) := by decide +kernel
theorem dX10_findWeights_104 : decode cX10_findWeights 104 = .ok (.iaload, 1) := by decide +kernel
theorem dX10_findWeights_105 : decode cX10_findWeights 105 = .ok (.iadd, 1) := by decide +kernel
theorem dX10_findWeights_106 : decode cX10_findWeights 106 = .ok (.istore 4, 2) := by decide +kernel
theorem dX10_findWeights_108 : decode cX10_findWeights 108 = .ok (.iinc 5 1, 3) := by decide +kernel
theorem dX10_findWeights_111 : decode cX10_findWeights 111 = .ok (.goto (-38), 3) := by decide +kernel
theorem dX10_findWeights_114 : decode cX10_findWeights 114 = .ok (.iload 4, 2) := by decide +kernel
theorem dX10_findWeights_116 : decode cX10_findWeights 116 = .ok (.ireturn, 1) := by decide +kernel
theorem dX10_findWeights_117 : decode cX10_findWeights 117 = .ok (.aload_n 0, 1) := by decide +kernel
theorem dX10_findWeights_118 : decode cX10_findWeights 118 = .ok (.aload_n 0, 1) := by decide +kernel
theorem dX10_findWeights_119 : decode cX10_findWeights 119 = .ok (.getfield 9, 3) := by decide +kernel
theorem dX10_findWeights_122 : decode cX10_findWeights 122 = .ok (.iload_n 1, 1) := by decide +kernel
theorem dX10_findWeights_123 : decode cX10_findWeights 123 = .ok (.iconst 1, 1) := by decide +kernel
theorem dX10_findWeights_124 : decode cX10_findWeights 124 = .ok (.iadd, 1) := by decide +kernel
theorem dX10_findWeights_125 : decode cX10_findWeights 125 = .ok (.invokevirtual 186, 3) := by decide +kernel
theorem dX10_findWeights_128 : decode cX10_findWeights 128 = .ok (.istore_n 2, 1) := by decide +kernel
theorem dX10_findWeights_129 : decode cX10_findWeights 129 = .ok (.goto (-109), 3) := by decide +kernel
theorem dX10_findWeights_132 : decode cX10_findWeights 132 = .ok (.bipush (-6), 2) := by decide +kernel
theorem dX10_findWeights_134 : decode cX10_findWeights 134 = .ok (.ireturn, 1) := by decide +kernel
theorem dX10_findCertificate_0 : decode cX10_findCertificate 0 = .ok (.aload_n 0, 1) := by decide +kernel
theorem dX10_findCertificate_1 : decode cX10_findCertificate 1 = .ok (.invokevirtual 180, 3) := by decide +kernel
theorem dX10_findCertificate_4 : decode cX10_findCertificate 4 = .ok (.aload_n 0, 1) := by decide +kernel
theorem dX10_findCertificate_5 : decode cX10_findCertificate 5 = .ok (.aload_n 0, 1) := by decide +kernel
theorem dX10_findCertificate_6 : decode cX10_findCertificate 6 = .ok (.getfield 119, 3) := by decide +kernel
theorem dX10_findCertificate_9 : decode cX10_findCertificate 9 = .ok (.iconst 4, 1) := by decide +kernel
theorem dX10_findCertificate_10 : decode cX10_findCertificate 10 = .ok (.invokevirtual 186, 3) := by decide +kernel
theorem dX10_findCertificate_13 : decode cX10_findCertificate 13 = .ok (.ifCond .eq 115, 3) := by decide +kernel
theorem dX10_findCertificate_16 : decode cX10_findCertificate 16 = .ok (.iconst 1, 1) := by decide +kernel
theorem dX10_findCertificate_17 : decode cX10_findCertificate 17 = .ok (.istore_n 1, 1) := by decide +kernel
theorem dX10_findCertificate_18 : decode cX10_findCertificate 18 = .ok (.iconst 0, 1) := by decide +kernel
theorem dX10_findCertificate_19 : decode cX10_findCertificate 19 = .ok (.istore_n 2, 1) := by decide +kernel
theorem dX10_findCertificate_20 : decode cX10_findCertificate 20 = .ok (.iconst 0, 1) := by decide +kernel
theorem dX10_findCertificate_21 : decode cX10_findCertificate 21 = .ok (.istore_n 3, 1) := by decide +kernel
theorem dX10_findCertificate_22 : decode cX10_findCertificate 22 = .ok (.iload_n 3, 1) := by decide +kernel
theorem dX10_findCertificate_23 : decode cX10_findCertificate 23 = .ok (.aload_n 0, 1) := by decide +kernel
theorem dX10_findCertificate_24 : decode cX10_findCertificate 24 = .ok (.getfield 9, 3) := by decide +kernel
theorem dX10_findCertificate_27 : decode cX10_findCertificate 27 = .ok (.if_icmp .ge 65, 3) := by decide +kernel
theorem dX10_findCertificate_30 : decode cX10_findCertificate 30 = .ok (.iconst 0, 1) := by decide +kernel
theorem dX10_findCertificate_31 : decode cX10_findCertificate 31 = .ok (.istore 4, 2) := by decide +kernel
theorem dX10_findCertificate_33 : decode cX10_findCertificate 33 = .ok (.iconst 0, 1) := by decide +kernel
theorem dX10_findCertificate_34 : decode cX10_findCertificate 34 = .ok (.istore 5, 2) := by decide +kernel
theorem dX10_findCertificate_36 : decode cX10_findCertificate 36 = .ok (.iload 5, 2) := by decide +kernel
theorem dX10_findCertificate_38 : decode cX10_findCertificate 38 = .ok (.aload_n 0, 1) := by decide +kernel
theorem dX10_findCertificate_39 : decode cX10_findCertificate 39 = .ok (.getfield 119, 3) := by decide +kernel
theorem dX10_findCertificate_42 : decode cX10_findCertificate 42 = .ok (.if_icmp .ge 29, 3) := by decide +kernel
theorem dX10_findCertificate_45 : decode cX10_findCertificate 45 = .ok (.iload 4, 2) := by decide +kernel
theorem dX10_findCertificate_47 : decode cX10_findCertificate 47 = .ok (.aload_n 0, 1) := by decide +kernel
theorem dX10_findCertificate_48 : decode cX10_findCertificate 48 = .ok (.getfield 85, 3) := by decide +kernel
theorem dX10_findCertificate_51 : decode cX10_findCertificate 51 = .ok (.iload 5, 2) := by decide +kernel
theorem dX10_findCertificate_53 : decode cX10_findCertificate 53 = .ok (.iaload, 1) := by decide +kernel
theorem dX10_findCertificate_54 : decode cX10_findCertificate 54 = .ok (.aload_n 0, 1) := by decide +kernel
theorem dX10_findCertificate_55 : decode cX10_findCertificate 55 = .ok (.iload 5, 2) := by decide +kernel
theorem dX10_findCertificate_57 : decode cX10_findCertificate 57 = .ok (.iload_n 3, 1) := by decide +kernel
theorem dX10_findCertificate_58 : decode cX10_findCertificate 58 = .ok (.invokevirtual 159, 3) := by decide +kernel
theorem dX10_findCertificate_61 : decode cX10_findCertificate 61 = .ok (.imul, 1) := by decide +kernel
theorem dX10_findCertificate_62 : decode cX10_findCertificate 62 = .ok (.iadd, 1) := by decide +kernel
theorem dX10_findCertificate_63 : decode cX10_findCertificate 63 = .ok (.istore 4, 2) := by decide +kernel
theorem dX10_findCertificate_65 : decode cX10_findCertificate 65 = .ok (.iinc 5 1, 3) := by decide +kernel
theorem dX10_findCertificate_68 : decode cX10_findCertificate 68 = .ok (.goto (-32), 3) := by decide +kernel
theorem dX10_findCertificate_71 : decode cX10_findCertificate 71 = .ok (.iload_n 1, 1) := by decide +kernel
theorem dX10_findCertificate_72 : decode cX10_findCertificate 72 = .ok (.ifCond .eq 12, 3) := by decide +kernel
theorem dX10_findCertificate_75 : decode cX10_findCertificate 75 = .ok (.iload 4, 2) := by decide +kernel
theorem dX10_findCertificate_77 : decode cX10_findCertificate 77 = .ok (.ifCond .gt 7, 3) := by decide +kernel
theorem dX10_findCertificate_80 : decode cX10_findCertificate 80 = .ok (.iconst 1, 1) := by decide +kernel
theorem dX10_findCertificate_81 : decode cX10_findCertificate 81 = .ok (.goto 4, 3) := by decide +kernel
theorem dX10_findCertificate_84 : decode cX10_findCertificate 84 = .ok (.iconst 0, 1) := by decide +kernel
theorem dX10_findCertificate_85 : decode cX10_findCertificate 85 = .ok (.istore_n 1, 1) := by decide +kernel
theorem dX10_findCertificate_86 : decode cX10_findCertificate 86 = .ok (.iinc 3 1, 3) := by decide +kernel
theorem dX10_findCertificate_89 : decode cX10_findCertificate 89 = .ok (.goto (-67), 3) := by decide +kernel
theorem dX10_findCertificate_92 : decode cX10_findCertificate 92 = .ok (.iconst 0, 1) := by decide +kernel
theorem dX10_findCertificate_93 : decode cX10_findCertificate 93 = .ok (.istore_n 3, 1) := by decide +kernel
theorem dX10_findCertificate_94 : decode cX10_findCertificate 94 = .ok (.iload_n 3, 1) := by decide +kernel
theorem dX10_findCertificate_95 : decode cX10_findCertificate 95 = .ok (.aload_n 0, 1) := by decide +kernel
theorem dX10_findCertificate_96 : decode cX10_findCertificate 96 = .ok (.getfield 119, 3) := by decide +kernel
theorem dX10_findCertificate_99 : decode cX10_findCertificate 99 = .ok (.if_icmp .ge 20, 3) := by decide +kernel
theorem dX10_findCertificate_102 : decode cX10_findCertificate 102 = .ok (.iconst 4, 1) := by decide +kernel
theorem dX10_findCertificate_103 : decode cX10_findCertificate 103 = .ok (.iload_n 2, 1) := by decide +kernel
theorem dX10_findCertificate_104 : decode cX10_findCertificate 104 = .ok (.imul, 1) := by decide +kernel
theorem dX10_findCertificate_105 : decode cX10_findCertificate 105 = .ok (.aload_n 0, 1) := by decide +kernel
theorem dX10_findCertificate_106 : decode cX10_findCertificate 106 = .ok (.getfield 85, 3) := by decide +kernel
theorem dX10_findCertificate_109 : decode cX10_findCertificate 109 = .ok (.iload_n 3, 1) := by decide +kernel
theorem dX10_findCertificate_110 : decode cX10_findCertificate 110 = .ok (.iaload, 1) := by decide +kernel
theorem dX10_findCertificate_111 : decode cX10_findCertificate 111 = .ok (.iadd, 1) := by decide +kernel
theorem dX10_findCertificate_112 : decode cX10_findCertificate 112 = .ok (.istore_n 2, 1) := by decide +kernel
theorem dX10_findCertificate_113 : decode cX10_findCertificate 113 = .ok (.iinc 3 1, 3) := by decide +kernel
theorem dX10_findCertificate_116 : decode cX10_findCertificate 116 = .ok (.goto (-22), 3) := by decide +kernel
theorem dX10_findCertificate_119 : decode cX10_findCertificate 119 = .ok (.iload_n 1, 1) := by decide +kernel
theorem dX10_findCertificate_120 : decode cX10_findCertificate 120 = .ok (.ifCond .eq 5, 3) := by decide +kernel
theorem dX10_findCertificate_123 : decode cX10_findCertificate 123 = .ok (.iload_n 2, 1) := by decide +kernel
theorem dX10_findCertificate_124 : decode cX10_findCertificate 124 = .ok (.ireturn, 1) := by decide +kernel
theorem dX10_findCertificate_125 : decode cX10_findCertificate 125 = .ok (.goto (-121), 3) := by decide +kernel
theorem dX10_findCertificate_128 : decode cX10_findCertificate 128 = .ok (.bipush (-6), 2) := by decide +kernel
theorem dX10_findCertificate_130 : decode cX10_findCertificate 130 = .ok (.ireturn, 1) := by decide +kernel
theorem dX10_levels_0 : decode cX10_levels 0 = .ok (.iconst 0, 1) := by decide +kernel
theorem dX10_levels_1 : decode cX10_levels 1 = .ok (.istore_n 1, 1) := by decide +kernel
theorem dX10_levels_2 : decode cX10_levels 2 = .ok (.iload_n 1, 1) := by decide +kernel
theorem dX10_levels_3 : decode cX10_levels 3 = .ok (.bipush 6, 2) := by decide +kernel
theorem dX10_levels_5 : decode cX10_levels 5 = .ok (.if_icmp .ge 21, 3) := by decide +kernel
theorem dX10_levels_8 : decode cX10_levels 8 = .ok (.aload_n 0, 1) := by decide +kernel
theorem dX10_levels_9 : decode cX10_levels 9 = .ok (.getfield 88, 3) := by decide +kernel
theorem dX10_levels_12 : decode cX10_levels 12 = .ok (.iload_n 1, 1) := by decide +kernel
theorem dX10_levels_13 : decode cX10_levels 13 = .ok (.aload_n 0, 1) := by decide +kernel
theorem dX10_levels_14 : decode cX10_levels 14 = .ok (.getfield 25, 3) := by decide +kernel
theorem dX10_levels_17 : decode cX10_levels 17 = .ok (.iload_n 1, 1) := by decide +kernel
theorem dX10_levels_18 : decode cX10_levels 18 = .ok (.iaload, 1) := by decide +kernel
theorem dX10_levels_19 : decode cX10_levels 19 = .ok (.iastore, 1) := by decide +kernel
theorem dX10_levels_20 : decode cX10_levels 20 = .ok (.iinc 1 1, 3) := by decide +kernel
theorem dX10_levels_23 : decode cX10_levels 23 = .ok (.goto (-21), 3) := by decide +kernel
theorem dX10_levels_26 : decode cX10_levels 26 = .ok (.aload_n 0, 1) := by decide +kernel
theorem dX10_levels_27 : decode cX10_levels 27 = .ok (.invokevirtual 180, 3) := by decide +kernel
theorem dX10_levels_30 : decode cX10_levels 30 = .ok (.iconst 1, 1) := by decide +kernel
theorem dX10_levels_31 : decode cX10_levels 31 = .ok (.istore_n 1, 1) := by decide +kernel
theorem dX10_levels_32 : decode cX10_levels 32 = .ok (.iload_n 1, 1) := by decide +kernel
theorem dX10_levels_33 : decode cX10_levels 33 = .ok (.ifCond .eq 65, 3) := by decide +kernel
theorem dX10_levels_36 : decode cX10_levels 36 = .ok (.iconst 0, 1) := by decide +kernel
theorem dX10_levels_37 : decode cX10_levels 37 = .ok (.istore_n 2, 1) := by decide +kernel
theorem dX10_levels_38 : decode cX10_levels 38 = .ok (.iload_n 2, 1) := by decide +kernel
theorem dX10_levels_39 : decode cX10_levels 39 = .ok (.aload_n 0, 1) := by decide +kernel
theorem dX10_levels_40 : decode cX10_levels 40 = .ok (.getfield 9, 3) := by decide +kernel
theorem dX10_levels_43 : decode cX10_levels 43 = .ok (.if_icmp .ge 21, 3) := by decide +kernel
theorem dX10_levels_46 : decode cX10_levels 46 = .ok (.aload_n 0, 1) := by decide +kernel
theorem dX10_levels_47 : decode cX10_levels 47 = .ok (.getfield 25, 3) := by decide +kernel
theorem dX10_levels_50 : decode cX10_levels 50 = .ok (.iload_n 2, 1) := by decide +kernel
theorem dX10_levels_51 : decode cX10_levels 51 = .ok (.aload_n 0, 1) := by decide +kernel
theorem dX10_levels_52 : decode cX10_levels 52 = .ok (.getfield 85, 3) := by decide +kernel
theorem dX10_levels_55 : decode cX10_levels 55 = .ok (.iload_n 2, 1) := by decide +kernel
theorem dX10_levels_56 : decode cX10_levels 56 = .ok (.iaload, 1) := by decide +kernel
theorem dX10_levels_57 : decode cX10_levels 57 = .ok (.iastore, 1) := by decide +kernel
theorem dX10_levels_58 : decode cX10_levels 58 = .ok (.iinc 2 1, 3) := by decide +kernel
theorem dX10_levels_61 : decode cX10_levels 61 = .ok (.goto (-23), 3) := by decide +kernel
theorem dX10_levels_64 : decode cX10_levels 64 = .ok (.aload_n 0, 1) := by decide +kernel
theorem dX10_levels_65 : decode cX10_levels 65 = .ok (.invokevirtual 167, 3) := by decide +kernel
theorem dX10_levels_68 : decode cX10_levels 68 = .ok (.ifCond .eq 14, 3) := by decide +kernel
theorem dX10_levels_71 : decode cX10_levels 71 = .ok (.aload_n 0, 1) := by decide +kernel
theorem dX10_levels_72 : decode cX10_levels 72 = .ok (.invokevirtual 190, 3) := by decide +kernel
theorem dX10_levels_75 : decode cX10_levels 75 = .ok (.bipush (-6), 2) := by decide +kernel
theorem dX10_levels_77 : decode cX10_levels 77 = .ok (.if_icmp .ne 5, 3) := by decide +kernel
theorem dX10_levels_80 : decode cX10_levels 80 = .ok (.iconst 1, 1) := by decide +kernel
theorem dX10_levels_81 : decode cX10_levels 81 = .ok (.ireturn, 1) := by decide +kernel
theorem dX10_levels_82 : decode cX10_levels 82 = .ok (.aload_n 0, 1) := by decide +kernel
theorem dX10_levels_83 : decode cX10_levels 83 = .ok (.aload_n 0, 1) := by decide +kernel
theorem dX10_levels_84 : decode cX10_levels 84 = .ok (.getfield 9, 3) := by decide +kernel
theorem dX10_levels_87 : decode cX10_levels 87 = .ok (.aload_n 0, 1) := by decide +kernel
theorem dX10_levels_88 : decode cX10_levels 88 = .ok (.getfield 9, 3) := by decide +kernel
theorem dX10_levels_91 : decode cX10_levels 91 = .ok (.invokevirtual 186, 3) := by decide +kernel
theorem dX10_levels_94 : decode cX10_levels 94 = .ok (.istore_n 1, 1) := by decide +kernel
theorem dX10_levels_95 : decode cX10_levels 95 = .ok (.goto (-63), 3) := by decide +kernel
theorem dX10_levels_98 : decode cX10_levels 98 = .ok (.iconst 0, 1) := by decide +kernel
theorem dX10_levels_99 : decode cX10_levels 99 = .ok (.istore_n 2, 1) := by decide +kernel
theorem dX10_levels_100 : decode cX10_levels 100 = .ok (.iload_n 2, 1) := by decide +kernel
theorem dX10_levels_101 : decode cX10_levels 101 = .ok (.bipush 6, 2) := by decide +kernel
theorem dX10_levels_103 : decode cX10_levels 103 = .ok (.if_icmp .ge 21, 3) := by decide +kernel
theorem dX10_levels_106 : decode cX10_levels 106 = .ok (.aload_n 0, 1) := by decide +kernel
theorem dX10_levels_107 : decode cX10_levels 107 = .ok (.getfield 25, 3) := by decide +kernel
theorem dX10_levels_110 : decode cX10_levels 110 = .ok (.iload_n 2, 1) := by decide +kernel
theorem dX10_levels_111 : decode cX10_levels 111 = .ok (.aload_n 0, 1) := by decide +kernel
theorem dX10_levels_112 : decode cX10_levels 112 = .ok (.getfield 88, 3) := by decide +kernel
theorem dX10_levels_115 : decode cX10_levels 115 = .ok (.iload_n 2, 1) := by decide +kernel
theorem dX10_levels_116 : decode cX10_levels 116 = .ok (.iaload, 1) := by decide +kernel
theorem dX10_levels_117 : decode cX10_levels 117 = .ok (.iastore, 1) := by decide +kernel
theorem dX10_levels_118 : decode cX10_levels 118 = .ok (.iinc 2 1, 3) := by decide +kernel
theorem dX10_levels_121 : decode cX10_levels 121 = .ok (.goto (-21), 3) := by decide +kernel
theorem dX10_levels_124 : decode cX10_levels 124 = .ok (.iconst 0, 1) := by decide +kernel
theorem dX10_levels_125 : decode cX10_levels 125 = .ok (.ireturn, 1) := by decide +kernel
theorem dX10_findLevels_0 : decode cX10_findLevels 0 = .ok (.aload_n 0, 1) := by decide +kernel
theorem dX10_findLevels_1 : decode cX10_findLevels 1 = .ok (.invokevirtual 193, 3) := by decide +kernel
theorem dX10_findLevels_4 : decode cX10_findLevels 4 = .ok (.ifCond .ne 6, 3) := by decide +kernel
theorem dX10_findLevels_7 : decode cX10_findLevels 7 = .ok (.bipush (-6), 2) := by decide +kernel
theorem dX10_findLevels_9 : decode cX10_findLevels 9 = .ok (.ireturn, 1) := by decide +kernel
theorem dX10_findLevels_10 : decode cX10_findLevels 10 = .ok (.iconst 0, 1) := by decide +kernel
theorem dX10_findLevels_11 : decode cX10_findLevels 11 = .ok (.istore_n 1, 1) := by decide +kernel
theorem dX10_findLevels_12 : decode cX10_findLevels 12 = .ok (.aload_n 0, 1) := by decide +kernel
theorem dX10_findLevels_13 : decode cX10_findLevels 13 = .ok (.getfield 9, 3) := by decide +kernel
theorem dX10_findLevels_16 : decode cX10_findLevels 16 = .ok (.iconst 1, 1) := by decide +kernel
theorem dX10_findLevels_17 : decode cX10_findLevels 17 = .ok (.isub, 1) := by decide +kernel
theorem dX10_findLevels_18 : decode cX10_findLevels 18 = .ok (.istore_n 2, 1) := by decide +kernel
theorem dX10_findLevels_19 : decode cX10_findLevels 19 = .ok (.iload_n 2, 1) := by decide +kernel
theorem dX10_findLevels_20 : decode cX10_findLevels 20 = .ok (.ifCond .lt 21, 3) := by decide +kernel
theorem dX10_findLevels_23 : decode cX10_findLevels 23 = .ok (.bipush 10, 2) := by decide +kernel
theorem dX10_findLevels_25 : decode cX10_findLevels 25 = .ok (.iload_n 1, 1) := by decide +kernel
theorem dX10_findLevels_26 : decode cX10_findLevels 26 = .ok (.imul, 1) := by decide +kernel
theorem dX10_findLevels_27 : decode cX10_findLevels 27 = .ok (.aload_n 0, 1) := by decide +kernel
theorem dX10_findLevels_28 : decode cX10_findLevels 28 = .ok (.getfield 25, 3) := by decide +kernel
theorem dX10_findLevels_31 : decode cX10_findLevels 31 = .ok (.iload_n 2, 1) := by decide +kernel
theorem dX10_findLevels_32 : decode cX10_findLevels 32 = .ok (.iaload, 1) := by decide +kernel
theorem dX10_findLevels_33 : decode cX10_findLevels 33 = .ok (.iadd, 1) := by decide +kernel
theorem dX10_findLevels_34 : decode cX10_findLevels 34 = .ok (.istore_n 1, 1) := by decide +kernel
theorem dX10_findLevels_35 : decode cX10_findLevels 35 = .ok (.iinc 2 (-1), 3) := by decide +kernel
theorem dX10_findLevels_38 : decode cX10_findLevels 38 = .ok (.goto (-19), 3) := by decide +kernel
theorem dX10_findLevels_41 : decode cX10_findLevels 41 = .ok (.iload_n 1, 1) := by decide +kernel
theorem dX10_findLevels_42 : decode cX10_findLevels 42 = .ok (.ireturn, 1) := by decide +kernel
theorem dX10_findOrder_0 : decode cX10_findOrder 0 = .ok (.aload_n 0, 1) := by decide +kernel
theorem dX10_findOrder_1 : decode cX10_findOrder 1 = .ok (.getfield 9, 3) := by decide +kernel
theorem dX10_findOrder_4 : decode cX10_findOrder 4 = .ok (.iconst 4, 1) := by decide +kernel
theorem dX10_findOrder_5 : decode cX10_findOrder 5 = .ok (.if_icmp .le 6, 3) := by decide +kernel
theorem dX10_findOrder_8 : decode cX10_findOrder 8 = .ok (.bipush (-8), 2) := by decide +kernel
theorem dX10_findOrder_10 : decode cX10_findOrder 10 = .ok (.ireturn, 1) := by decide +kernel
theorem dX10_findOrder_11 : decode cX10_findOrder 11 = .ok (.aload_n 0, 1) := by decide +kernel
theorem dX10_findOrder_12 : decode cX10_findOrder 12 = .ok (.getfield 130, 3) := by decide +kernel
theorem dX10_findOrder_15 : decode cX10_findOrder 15 = .ok (.istore_n 1, 1) := by decide +kernel
theorem dX10_findOrder_16 : decode cX10_findOrder 16 = .ok (.iconst 1, 1) := by decide +kernel
theorem dX10_findOrder_17 : decode cX10_findOrder 17 = .ok (.istore_n 2, 1) := by decide +kernel
theorem dX10_findOrder_18 : decode cX10_findOrder 18 = .ok (.iconst 0, 1) := by decide +kernel
theorem dX10_findOrder_19 : decode cX10_findOrder 19 = .ok (.istore_n 3, 1) := by decide +kernel
theorem dX10_findOrder_20 : decode cX10_findOrder 20 = .ok (.iload_n 3, 1) := by decide +kernel
theorem dX10_findOrder_21 : decode cX10_findOrder 21 = .ok (.aload_n 0, 1) := by decide +kernel
theorem dX10_findOrder_22 : decode cX10_findOrder 22 = .ok (.getfield 9, 3) := by decide +kernel
theorem dX10_findOrder_25 : decode cX10_findOrder 25 = .ok (.if_icmp .ge 25, 3) := by decide +kernel
theorem dX10_findOrder_28 : decode cX10_findOrder 28 = .ok (.aload_n 0, 1) := by decide +kernel
theorem dX10_findOrder_29 : decode cX10_findOrder 29 = .ok (.getfield 91, 3) := by decide +kernel
theorem dX10_findOrder_32 : decode cX10_findOrder 32 = .ok (.iload_n 3, 1) := by decide +kernel
theorem dX10_findOrder_33 : decode cX10_findOrder 33 = .ok (.aload_n 0, 1) := by decide +kernel
theorem dX10_findOrder_34 : decode cX10_findOrder 34 = .ok (.getfield 22, 3) := by decide +kernel
theorem dX10_findOrder_37 : decode cX10_findOrder 37 = .ok (.iload_n 3, 1) := by decide +kernel
theorem dX10_findOrder_38 : decode cX10_findOrder 38 = .ok (.iaload, 1) := by decide +kernel
theorem dX10_findOrder_39 : decode cX10_findOrder 39 = .ok (.iastore, 1) := by decide +kernel
theorem dX10_findOrder_40 : decode cX10_findOrder 40 = .ok (.iload_n 2, 1) := by decide +kernel
theorem dX10_findOrder_41 : decode cX10_findOrder 41 = .ok (.iconst 3, 1) := by decide +kernel
theorem dX10_findOrder_42 : decode cX10_findOrder 42 = .ok (.imul, 1) := by decide +kernel
theorem dX10_findOrder_43 : decode cX10_findOrder 43 = .ok (.istore_n 2, 1) := by decide +kernel
theorem dX10_findOrder_44 : decode cX10_findOrder 44 = .ok (.iinc 3 1, 3) := by decide +kernel
theorem dX10_findOrder_47 : decode cX10_findOrder 47 = .ok (.goto (-27), 3) := by decide +kernel
theorem dX10_findOrder_50 : decode cX10_findOrder 50 = .ok (.iconst 0, 1) := by decide +kernel
theorem dX10_findOrder_51 : decode cX10_findOrder 51 = .ok (.istore_n 3, 1) := by decide +kernel
theorem dX10_findOrder_52 : decode cX10_findOrder 52 = .ok (.iload_n 3, 1) := by decide +kernel
theorem dX10_findOrder_53 : decode cX10_findOrder 53 = .ok (.iload_n 2, 1) := by decide +kernel
theorem dX10_findOrder_54 : decode cX10_findOrder 54 = .ok (.if_icmp .ge 78, 3) := by decide +kernel
theorem dX10_findOrder_57 : decode cX10_findOrder 57 = .ok (.iload_n 3, 1) := by decide +kernel
theorem dX10_findOrder_58 : decode cX10_findOrder 58 = .ok (.istore 4, 2) := by decide +kernel
theorem dX10_findOrder_60 : decode cX10_findOrder 60 = .ok (.aload_n 0, 1) := by decide +kernel
theorem dX10_findOrder_61 : decode cX10_findOrder 61 = .ok (.getfield 9, 3) := by decide +kernel
theorem dX10_findOrder_64 : decode cX10_findOrder 64 = .ok (.iconst 1, 1) := by decide +kernel
theorem dX10_findOrder_65 : decode cX10_findOrder 65 = .ok (.isub, 1) := by decide +kernel
theorem dX10_findOrder_66 : decode cX10_findOrder 66 = .ok (.istore 5, 2) := by decide +kernel
theorem dX10_findOrder_68 : decode cX10_findOrder 68 = .ok (.iload 5, 2) := by decide +kernel
theorem dX10_findOrder_70 : decode cX10_findOrder 70 = .ok (.ifCond .lt 26, 3) := by decide +kernel
theorem dX10_findOrder_73 : decode cX10_findOrder 73 = .ok (.aload_n 0, 1) := by decide +kernel
theorem dX10_findOrder_74 : decode cX10_findOrder 74 = .ok (.getfield 22, 3) := by decide +kernel
theorem dX10_findOrder_77 : decode cX10_findOrder 77 = .ok (.iload 5, 2) := by decide +kernel
theorem dX10_findOrder_79 : decode cX10_findOrder 79 = .ok (.iload 4, 2) := by decide +kernel
theorem dX10_findOrder_81 : decode cX10_findOrder 81 = .ok (.iconst 3, 1) := by decide +kernel
theorem dX10_findOrder_82 : decode cX10_findOrder 82 = .ok (.irem, 1) := by decide +kernel
theorem dX10_findOrder_83 : decode cX10_findOrder 83 = .ok (.iastore, 1) := by decide +kernel
theorem dX10_findOrder_84 : decode cX10_findOrder 84 = .ok (.iload 4, 2) := by decide +kernel
theorem dX10_findOrder_86 : decode cX10_findOrder 86 = .ok (.iconst 3, 1) := by decide +kernel
theorem dX10_findOrder_87 : decode cX10_findOrder 87 = .ok (.idiv, 1) := by decide +kernel
theorem dX10_findOrder_88 : decode cX10_findOrder 88 = .ok (.istore 4, 2) := by decide +kernel
theorem dX10_findOrder_90 : decode cX10_findOrder 90 = .ok (.iinc 5 (-1), 3) := by decide +kernel
theorem dX10_findOrder_93 : decode cX10_findOrder 93 = .ok (.goto (-25), 3) := by decide +kernel
theorem dX10_findOrder_96 : decode cX10_findOrder 96 = .ok (.iconst 0, 1) := by decide +kernel
theorem dX10_findOrder_97 : decode cX10_findOrder 97 = .ok (.istore 5, 2) := by decide +kernel
theorem dX10_findOrder_99 : decode cX10_findOrder 99 = .ok (.iload 5, 2) := by decide +kernel
theorem dX10_findOrder_101 : decode cX10_findOrder 101 = .ok (.iconst 2, 1) := by decide +kernel
theorem dX10_findOrder_102 : decode cX10_findOrder 102 = .ok (.if_icmp .ge 24, 3) := by decide +kernel
theorem dX10_findOrder_105 : decode cX10_findOrder 105 = .ok (.aload_n 0, 1) := by decide +kernel
theorem dX10_findOrder_106 : decode cX10_findOrder 106 = .ok (.iload 5, 2) := by decide +kernel
theorem dX10_findOrder_108 : decode cX10_findOrder 108 = .ok (.putfield 130, 3) := by decide +kernel
theorem dX10_findOrder_111 : decode cX10_findOrder 111 = .ok (.aload_n 0, 1) := by decide +kernel
theorem dX10_findOrder_112 : decode cX10_findOrder 112 = .ok (.invokevirtual 193, 3) := by decide +kernel
theorem dX10_findOrder_115 : decode cX10_findOrder 115 = .ok (.ifCond .eq 5, 3) := by decide +kernel
theorem dX10_findOrder_118 : decode cX10_findOrder 118 = .ok (.iconst 1, 1) := by decide +kernel
theorem dX10_findOrder_119 : decode cX10_findOrder 119 = .ok (.ireturn, 1) := by decide +kernel
theorem dX10_findOrder_120 : decode cX10_findOrder 120 = .ok (.iinc 5 1, 3) := by decide +kernel
theorem dX10_findOrder_123 : decode cX10_findOrder 123 = .ok (.goto (-24), 3) := by decide +kernel
theorem dX10_findOrder_126 : decode cX10_findOrder 126 = .ok (.iinc 3 1, 3) := by decide +kernel
theorem dX10_findOrder_129 : decode cX10_findOrder 129 = .ok (.goto (-77), 3) := by decide +kernel
theorem dX10_findOrder_132 : decode cX10_findOrder 132 = .ok (.aload_n 0, 1) := by decide +kernel
theorem dX10_findOrder_133 : decode cX10_findOrder 133 = .ok (.iload_n 1, 1) := by decide +kernel
theorem dX10_findOrder_134 : decode cX10_findOrder 134 = .ok (.putfield 130, 3) := by decide +kernel
theorem dX10_findOrder_137 : decode cX10_findOrder 137 = .ok (.iconst 0, 1) := by decide +kernel
theorem dX10_findOrder_138 : decode cX10_findOrder 138 = .ok (.istore_n 3, 1) := by decide +kernel
theorem dX10_findOrder_139 : decode cX10_findOrder 139 = .ok (.iload_n 3, 1) := by decide +kernel
theorem dX10_findOrder_140 : decode cX10_findOrder 140 = .ok (.aload_n 0, 1) := by decide +kernel
theorem dX10_findOrder_141 : decode cX10_findOrder 141 = .ok (.getfield 9, 3) := by decide +kernel
theorem dX10_findOrder_144 : decode cX10_findOrder 144 = .ok (.if_icmp .ge 21, 3) := by decide +kernel
theorem dX10_findOrder_147 : decode cX10_findOrder 147 = .ok (.aload_n 0, 1) := by decide +kernel
theorem dX10_findOrder_148 : decode cX10_findOrder 148 = .ok (.getfield 22, 3) := by decide +kernel
theorem dX10_findOrder_151 : decode cX10_findOrder 151 = .ok (.iload_n 3, 1) := by decide +kernel
theorem dX10_findOrder_152 : decode cX10_findOrder 152 = .ok (.aload_n 0, 1) := by decide +kernel
theorem dX10_findOrder_153 : decode cX10_findOrder 153 = .ok (.getfield 91, 3) := by decide +kernel
theorem dX10_findOrder_156 : decode cX10_findOrder 156 = .ok (.iload_n 3, 1) := by decide +kernel
theorem dX10_findOrder_157 : decode cX10_findOrder 157 = .ok (.iaload, 1) := by decide +kernel
theorem dX10_findOrder_158 : decode cX10_findOrder 158 = .ok (.iastore, 1) := by decide +kernel
theorem dX10_findOrder_159 : decode cX10_findOrder 159 = .ok (.iinc 3 1, 3) := by decide +kernel
theorem dX10_findOrder_162 : decode cX10_findOrder 162 = .ok (.goto (-23), 3) := by decide +kernel
theorem dX10_findOrder_165 : decode cX10_findOrder 165 = .ok (.bipush (-6), 2) := by decide +kernel
theorem dX10_findOrder_167 : decode cX10_findOrder 167 = .ok (.ireturn, 1) := by decide +kernel
theorem dX10_reachableLetters_0 : decode cX10_reachableLetters 0 = .ok (.aload_n 0, 1) := by decide +kernel
theorem dX10_reachableLetters_1 : decode cX10_reachableLetters 1 = .ok (.iload_n 1, 1) := by decide +kernel
theorem dX10_reachableLetters_2 : decode cX10_reachableLetters 2 = .ok (.invokevirtual 140, 3) := by decide +kernel
theorem dX10_reachableLetters_5 : decode cX10_reachableLetters 5 = .ok (.ifCond .ne 6, 3) := by decide +kernel
theorem dX10_reachableLetters_8 : decode cX10_reachableLetters 8 = .ok (.bipush (-2), 2) := by decide +kernel
theorem dX10_reachableLetters_10 : decode cX10_reachableLetters 10 = .ok (.ireturn, 1) := by decide +kernel
theorem dX10_reachableLetters_11 : decode cX10_reachableLetters 11 = .ok (.iconst 0, 1) := by decide +kernel
theorem dX10_reachableLetters_12 : decode cX10_reachableLetters 12 = .ok (.istore_n 2, 1) := by decide +kernel
theorem dX10_reachableLetters_13 : decode cX10_reachableLetters 13 = .ok (.iconst 1, 1) := by decide +kernel
theorem dX10_reachableLetters_14 : decode cX10_reachableLetters 14 = .ok (.istore_n 3, 1) := by decide +kernel
theorem dX10_reachableLetters_15 : decode cX10_reachableLetters 15 = .ok (.iload_n 3, 1) := by decide +kernel
theorem dX10_reachableLetters_16 : decode cX10_reachableLetters 16 = .ok (.ifCond .eq 156, 3) := by decide +kernel
theorem dX10_reachableLetters_19 : decode cX10_reachableLetters 19 = .ok (.iload_n 2, 1) := by decide +kernel
theorem dX10_reachableLetters_20 : decode cX10_reachableLetters 20 = .ok (.istore 4, 2) := by decide +kernel
theorem dX10_reachableLetters_22 : decode cX10_reachableLetters 22 = .ok (.iconst 0, 1) := by decide +kernel
theorem dX10_reachableLetters_23 : decode cX10_reachableLetters 23 = .ok (.istore 5, 2) := by decide +kernel
theorem dX10_reachableLetters_25 : decode cX10_reachableLetters 25 = .ok (.iload 5, 2) := by decide +kernel
theorem dX10_reachableLetters_27 : decode cX10_reachableLetters 27 = .ok (.aload_n 0, 1) := by decide +kernel
theorem dX10_reachableLetters_28 : decode cX10_reachableLetters 28 = .ok (.getfield 119, 3) := by decide +kernel
theorem dX10_reachableLetters_31 : decode cX10_reachableLetters 31 = .ok (.if_icmp .ge 126, 3) := by decide +kernel
theorem dX10_reachableLetters_34 : decode cX10_reachableLetters 34 = .ok (.aload_n 0, 1) := by decide +kernel
theorem dX10_reachableLetters_35 : decode cX10_reachableLetters 35 = .ok (.iload 5, 2) := by decide +kernel
theorem dX10_reachableLetters_37 : decode cX10_reachableLetters 37 = .ok (.iconst 0, 1) := by decide +kernel
theorem dX10_reachableLetters_38 : decode cX10_reachableLetters 38 = .ok (.iload_n 1, 1) := by decide +kernel
theorem dX10_reachableLetters_39 : decode cX10_reachableLetters 39 = .ok (.invokevirtual 155, 3) := by decide +kernel
theorem dX10_reachableLetters_42 : decode cX10_reachableLetters 42 = .ok (.ifCond .le 7, 3) := by decide +kernel
theorem dX10_reachableLetters_45 : decode cX10_reachableLetters 45 = .ok (.iconst 1, 1) := by decide +kernel
theorem dX10_reachableLetters_46 : decode cX10_reachableLetters 46 = .ok (.goto 4, 3) := by decide +kernel
theorem dX10_reachableLetters_49 : decode cX10_reachableLetters 49 = .ok (.iconst 0, 1) := by decide +kernel
theorem dX10_reachableLetters_50 : decode cX10_reachableLetters 50 = .ok (.istore 6, 2) := by decide +kernel
theorem dX10_reachableLetters_52 : decode cX10_reachableLetters 52 = .ok (.iconst 0, 1) := by decide +kernel
theorem dX10_reachableLetters_53 : decode cX10_reachableLetters 53 = .ok (.istore 7, 2) := by decide +kernel
theorem dX10_reachableLetters_55 : decode cX10_reachableLetters 55 = .ok (.iload 7, 2) := by decide +kernel
theorem dX10_reachableLetters_57 : decode cX10_reachableLetters 57 = .ok (.aload_n 0, 1) := by decide +kernel
theorem dX10_reachableLetters_58 : decode cX10_reachableLetters 58 = .ok (.getfield 9, 3) := by decide +kernel
theorem dX10_reachableLetters_61 : decode cX10_reachableLetters 61 = .ok (.if_icmp .ge 44, 3) := by decide +kernel
theorem dX10_reachableLetters_64 : decode cX10_reachableLetters 64 = .ok (.iload 6, 2) := by decide +kernel
theorem dX10_reachableLetters_66 : decode cX10_reachableLetters 66 = .ok (.ifCond .ne 26, 3) := by decide +kernel
theorem dX10_reachableLetters_69 : decode cX10_reachableLetters 69 = .ok (.iload 4, 2) := by decide +kernel
theorem dX10_reachableLetters_71 : decode cX10_reachableLetters 71 = .ok (.iload 7, 2) := by decide +kernel
theorem dX10_reachableLetters_73 : decode cX10_reachableLetters 73 = .ok (.ishr, 1) := by decide +kernel
theorem dX10_reachableLetters_74 : decode cX10_reachableLetters 74 = .ok (.iconst 1, 1) := by decide +kernel
theorem dX10_reachableLetters_75 : decode cX10_reachableLetters 75 = .ok (.iand, 1) := by decide +kernel
theorem dX10_reachableLetters_76 : decode cX10_reachableLetters 76 = .ok (.iconst 1, 1) := by decide +kernel
theorem dX10_reachableLetters_77 : decode cX10_reachableLetters 77 = .ok (.if_icmp .ne 19, 3) := by decide +kernel
theorem dX10_reachableLetters_80 : decode cX10_reachableLetters 80 = .ok (.aload_n 0, 1) := by decide +kernel
theorem dX10_reachableLetters_81 : decode cX10_reachableLetters 81 = .ok (.iload 5, 2) := by decide +kernel
theorem dX10_reachableLetters_83 : decode cX10_reachableLetters 83 = .ok (.iconst 0, 1) := by decide +kernel
theorem dX10_reachableLetters_84 : decode cX10_reachableLetters 84 = .ok (.iload 7, 2) := by decide +kernel
theorem dX10_reachableLetters_86 : decode cX10_reachableLetters 86 = .ok (.invokevirtual 155, 3) := by decide +kernel
theorem dX10_reachableLetters_89 : decode cX10_reachableLetters 89 = .ok (.ifCond .le 7, 3) := by decide +kernel
theorem dX10_reachableLetters_92 : decode cX10_reachableLetters 92 = .ok (.iconst 1, 1) := by decide +kernel
theorem dX10_reachableLetters_93 : decode cX10_reachableLetters 93 = .ok (.goto 4, 3) := by decide +kernel
theorem dX10_reachableLetters_96 : decode cX10_reachableLetters 96 = .ok (.iconst 0, 1) := by decide +kernel
theorem dX10_reachableLetters_97 : decode cX10_reachableLetters 97 = .ok (.istore 6, 2) := by decide +kernel
theorem dX10_reachableLetters_99 : decode cX10_reachableLetters 99 = .ok (.iinc 7 1, 3) := by decide +kernel
theorem dX10_reachableLetters_102 : decode cX10_reachableLetters 102 = .ok (.goto (-47), 3) := by decide +kernel
theorem dX10_reachableLetters_105 : decode cX10_reachableLetters 105 = .ok (.iconst 0, 1) := by decide +kernel
theorem dX10_reachableLetters_106 : decode cX10_reachableLetters 106 = .ok (.istore 7, 2) := by decide +kernel
theorem dX10_reachableLetters_108 : decode cX10_reachableLetters 108 = .ok (.iload 7, 2) := by decide +kernel
theorem dX10_reachableLetters_110 : decode cX10_reachableLetters 110 = .ok (.aload_n 0, 1) := by decide +kernel
theorem dX10_reachableLetters_111 : decode cX10_reachableLetters 111 = .ok (.getfield 9, 3) := by decide +kernel
theorem dX10_reachableLetters_114 : decode cX10_reachableLetters 114 = .ok (.if_icmp .ge 37, 3) := by decide +kernel
theorem dX10_reachableLetters_117 : decode cX10_reachableLetters 117 = .ok (.iload 6, 2) := by decide +kernel
theorem dX10_reachableLetters_119 : decode cX10_reachableLetters 119 = .ok (.ifCond .eq 32, 3) := by decide +kernel
theorem dX10_reachableLetters_122 : decode cX10_reachableLetters 122 = .ok (.iload_n 2, 1) := by decide +kernel
theorem dX10_reachableLetters_123 : decode cX10_reachableLetters 123 = .ok (.aload_n 0, 1) := by decide +kernel
theorem dX10_reachableLetters_124 : decode cX10_reachableLetters 124 = .ok (.iload 5, 2) := by decide +kernel
theorem dX10_reachableLetters_126 : decode cX10_reachableLetters 126 = .ok (.iconst 1, 1) := by decide +kernel
theorem dX10_reachableLetters_127 : decode cX10_reachableLetters 127 = .ok (.iload 7, 2) := by decide +kernel
theorem dX10_reachableLetters_129 : decode cX10_reachableLetters 129 = .ok (.invokevirtual 155, 3) := by decide +kernel
theorem dX10_reachableLetters_132 : decode cX10_reachableLetters 132 = .ok (.ifCond .le 10, 3) := by decide +kernel
theorem dX10_reachableLetters_135 : decode cX10_reachableLetters 135 = .ok (.iconst 1, 1) := by decide +kernel
theorem dX10_reachableLetters_136 : decode cX10_reachableLetters 136 = .ok (.iload 7, 2) := by decide +kernel
theorem dX10_reachableLetters_138 : decode cX10_reachableLetters 138 = .ok (.ishl, 1) := by decide +kernel
theorem dX10_reachableLetters_139 : decode cX10_reachableLetters 139 = .ok (.goto 4, 3) := by decide +kernel
theorem dX10_reachableLetters_142 : decode cX10_reachableLetters 142 = .ok (.iconst 0, 1) := by decide +kernel
theorem dX10_reachableLetters_143 : decode cX10_reachableLetters 143 = .ok (.ior, 1) := by decide +kernel
theorem dX10_reachableLetters_144 : decode cX10_reachableLetters 144 = .ok (.istore_n 2, 1) := by decide +kernel
theorem dX10_reachableLetters_145 : decode cX10_reachableLetters 145 = .ok (.iinc 7 1, 3) := by decide +kernel
theorem dX10_reachableLetters_148 : decode cX10_reachableLetters 148 = .ok (.goto (-40), 3) := by decide +kernel
theorem dX10_reachableLetters_151 : decode cX10_reachableLetters 151 = .ok (.iinc 5 1, 3) := by decide +kernel
theorem dX10_reachableLetters_154 : decode cX10_reachableLetters 154 = .ok (.goto (-129), 3) := by decide +kernel
theorem dX10_reachableLetters_157 : decode cX10_reachableLetters 157 = .ok (.iload_n 2, 1) := by decide +kernel
theorem dX10_reachableLetters_158 : decode cX10_reachableLetters 158 = .ok (.iload 4, 2) := by decide +kernel
theorem dX10_reachableLetters_160 : decode cX10_reachableLetters 160 = .ok (.if_icmp .eq 7, 3) := by decide +kernel
theorem dX10_reachableLetters_163 : decode cX10_reachableLetters 163 = .ok (.iconst 1, 1) := by decide +kernel
theorem dX10_reachableLetters_164 : decode cX10_reachableLetters 164 = .ok (.goto 4, 3) := by decide +kernel
theorem dX10_reachableLetters_167 : decode cX10_reachableLetters 167 = .ok (.iconst 0, 1) := by decide +kernel
theorem dX10_reachableLetters_168 : decode cX10_reachableLetters 168 = .ok (.istore_n 3, 1) := by decide +kernel
theorem dX10_reachableLetters_169 : decode cX10_reachableLetters 169 = .ok (.goto (-154), 3) := by decide +kernel
theorem dX10_reachableLetters_172 : decode cX10_reachableLetters 172 = .ok (.iload_n 2, 1) := by decide +kernel
theorem dX10_reachableLetters_173 : decode cX10_reachableLetters 173 = .ok (.ireturn, 1) := by decide +kernel
theorem dX10_setString_0 : decode cX10_setString 0 = .ok (.aload_n 0, 1) := by decide +kernel
theorem dX10_setString_1 : decode cX10_setString 1 = .ok (.invokevirtual 177, 3) := by decide +kernel
theorem dX10_setString_4 : decode cX10_setString 4 = .ok (.istore_n 1, 1) := by decide +kernel
theorem dX10_setString_5 : decode cX10_setString 5 = .ok (.iload_n 1, 1) := by decide +kernel
theorem dX10_setString_6 : decode cX10_setString 6 = .ok (.iconst (-1), 1) := by decide +kernel
theorem dX10_setString_7 : decode cX10_setString 7 = .ok (.if_icmp .ne 6, 3) := by decide +kernel
theorem dX10_setString_10 : decode cX10_setString 10 = .ok (.bipush (-5), 2) := by decide +kernel
theorem dX10_setString_12 : decode cX10_setString 12 = .ok (.ireturn, 1) := by decide +kernel
theorem dX10_setString_13 : decode cX10_setString 13 = .ok (.iconst 0, 1) := by decide +kernel
theorem dX10_setString_14 : decode cX10_setString 14 = .ok (.istore_n 2, 1) := by decide +kernel
theorem dX10_setString_15 : decode cX10_setString 15 = .ok (.iload_n 2, 1) := by decide +kernel
theorem dX10_setString_16 : decode cX10_setString 16 = .ok (.iload_n 1, 1) := by decide +kernel
theorem dX10_setString_17 : decode cX10_setString 17 = .ok (.if_icmp .ge 24, 3) := by decide +kernel
theorem dX10_setString_20 : decode cX10_setString 20 = .ok (.aload_n 0, 1) := by decide +kernel
theorem dX10_setString_21 : decode cX10_setString 21 = .ok (.getfield 35, 3) := by decide +kernel
theorem dX10_setString_24 : decode cX10_setString 24 = .ok (.iload_n 2, 1) := by decide +kernel
theorem dX10_setString_25 : decode cX10_setString 25 = .ok (.aload_n 0, 1) := by decide +kernel
theorem dX10_setString_26 : decode cX10_setString 26 = .ok (.getfield 32, 3) := by decide +kernel
theorem dX10_setString_29 : decode cX10_setString 29 = .ok (.iload_n 2, 1) := by decide +kernel
theorem dX10_setString_30 : decode cX10_setString 30 = .ok (.iaload, 1) := by decide +kernel
theorem dX10_setString_31 : decode cX10_setString 31 = .ok (.bipush 97, 2) := by decide +kernel
theorem dX10_setString_33 : decode cX10_setString 33 = .ok (.isub, 1) := by decide +kernel
theorem dX10_setString_34 : decode cX10_setString 34 = .ok (.iastore, 1) := by decide +kernel
theorem dX10_setString_35 : decode cX10_setString 35 = .ok (.iinc 2 1, 3) := by decide +kernel
theorem dX10_setString_38 : decode cX10_setString 38 = .ok (.goto (-23), 3) := by decide +kernel
theorem dX10_setString_41 : decode cX10_setString 41 = .ok (.aload_n 0, 1) := by decide +kernel
theorem dX10_setString_42 : decode cX10_setString 42 = .ok (.iload_n 1, 1) := by decide +kernel
theorem dX10_setString_43 : decode cX10_setString 43 = .ok (.putfield 124, 3) := by decide +kernel
theorem dX10_setString_46 : decode cX10_setString 46 = .ok (.aload_n 0, 1) := by decide +kernel
theorem dX10_setString_47 : decode cX10_setString 47 = .ok (.getfield 124, 3) := by decide +kernel
theorem dX10_setString_50 : decode cX10_setString 50 = .ok (.ireturn, 1) := by decide +kernel
theorem dX10_stringLength_0 : decode cX10_stringLength 0 = .ok (.aload_n 0, 1) := by decide +kernel
theorem dX10_stringLength_1 : decode cX10_stringLength 1 = .ok (.getfield 124, 3) := by decide +kernel
theorem dX10_stringLength_4 : decode cX10_stringLength 4 = .ok (.ireturn, 1) := by decide +kernel
theorem dX10_stringLetter_0 : decode cX10_stringLetter 0 = .ok (.iload_n 1, 1) := by decide +kernel
theorem dX10_stringLetter_1 : decode cX10_stringLetter 1 = .ok (.i2l, 1) := by decide +kernel
theorem dX10_stringLetter_2 : decode cX10_stringLetter 2 = .ok (.lconst 0, 1) := by decide +kernel
theorem dX10_stringLetter_3 : decode cX10_stringLetter 3 = .ok (.aload_n 0, 1) := by decide +kernel
theorem dX10_stringLetter_4 : decode cX10_stringLetter 4 = .ok (.getfield 124, 3) := by decide +kernel
theorem dX10_stringLetter_7 : decode cX10_stringLetter 7 = .ok (.iconst 1, 1) := by decide +kernel
theorem dX10_stringLetter_8 : decode cX10_stringLetter 8 = .ok (.isub, 1) := by decide +kernel
theorem dX10_stringLetter_9 : decode cX10_stringLetter 9 = .ok (.i2l, 1) := by decide +kernel
theorem dX10_stringLetter_10 : decode cX10_stringLetter 10 = .ok (.invokestatic 115, 3) := by decide +kernel
theorem dX10_stringLetter_13 : decode cX10_stringLetter 13 = .ok (.ifCond .eq 12, 3) := by decide +kernel
theorem dX10_stringLetter_16 : decode cX10_stringLetter 16 = .ok (.aload_n 0, 1) := by decide +kernel
theorem dX10_stringLetter_17 : decode cX10_stringLetter 17 = .ok (.getfield 35, 3) := by decide +kernel
theorem dX10_stringLetter_20 : decode cX10_stringLetter 20 = .ok (.iload_n 1, 1) := by decide +kernel
theorem dX10_stringLetter_21 : decode cX10_stringLetter 21 = .ok (.iaload, 1) := by decide +kernel
theorem dX10_stringLetter_22 : decode cX10_stringLetter 22 = .ok (.goto 5, 3) := by decide +kernel
theorem dX10_stringLetter_25 : decode cX10_stringLetter 25 = .ok (.bipush (-6), 2) := by decide +kernel
theorem dX10_stringLetter_27 : decode cX10_stringLetter 27 = .ok (.ireturn, 1) := by decide +kernel
theorem dX10_stringWeight_0 : decode cX10_stringWeight 0 = .ok (.iconst 0, 1) := by decide +kernel
theorem dX10_stringWeight_1 : decode cX10_stringWeight 1 = .ok (.istore_n 1, 1) := by decide +kernel
theorem dX10_stringWeight_2 : decode cX10_stringWeight 2 = .ok (.iconst 0, 1) := by decide +kernel
theorem dX10_stringWeight_3 : decode cX10_stringWeight 3 = .ok (.istore_n 2, 1) := by decide +kernel
theorem dX10_stringWeight_4 : decode cX10_stringWeight 4 = .ok (.iload_n 2, 1) := by decide +kernel
theorem dX10_stringWeight_5 : decode cX10_stringWeight 5 = .ok (.aload_n 0, 1) := by decide +kernel
theorem dX10_stringWeight_6 : decode cX10_stringWeight 6 = .ok (.getfield 124, 3) := by decide +kernel
theorem dX10_stringWeight_9 : decode cX10_stringWeight 9 = .ok (.if_icmp .ge 23, 3) := by decide +kernel
theorem dX10_stringWeight_12 : decode cX10_stringWeight 12 = .ok (.iload_n 1, 1) := by decide +kernel
theorem dX10_stringWeight_13 : decode cX10_stringWeight 13 = .ok (.aload_n 0, 1) := by decide +kernel
theorem dX10_stringWeight_14 : decode cX10_stringWeight 14 = .ok (.getfield 22, 3) := by decide +kernel
theorem dX10_stringWeight_17 : decode cX10_stringWeight 17 = .ok (.aload_n 0, 1) := by decide +kernel
theorem dX10_stringWeight_18 : decode cX10_stringWeight 18 = .ok (.getfield 35, 3) := by decide +kernel
theorem dX10_stringWeight_21 : decode cX10_stringWeight 21 = .ok (.iload_n 2, 1) := by decide +kernel
theorem dX10_stringWeight_22 : decode cX10_stringWeight 22 = .ok (.iaload, 1) := by decide +kernel
theorem dX10_stringWeight_23 : decode cX10_stringWeight 23 = .ok (.iaload, 1) := by decide +kernel
theorem dX10_stringWeight_24 : decode cX10_stringWeight 24 = .ok (.iadd, 1) := by decide +kernel
theorem dX10_stringWeight_25 : decode cX10_stringWeight 25 = .ok (.istore_n 1, 1) := by decide +kernel
theorem dX10_stringWeight_26 : decode cX10_stringWeight 26 = .ok (.iinc 2 1, 3) := by decide +kernel
theorem dX10_stringWeight_29 : decode cX10_stringWeight 29 = .ok (.goto (-25), 3) := by decide +kernel
theorem dX10_stringWeight_32 : decode cX10_stringWeight 32 = .ok (.iload_n 1, 1) := by decide +kernel
theorem dX10_stringWeight_33 : decode cX10_stringWeight 33 = .ok (.ireturn, 1) := by decide +kernel
theorem dX10_sizeOf_0 : decode cX10_sizeOf 0 = .ok (.iconst 0, 1) := by decide +kernel
theorem dX10_sizeOf_1 : decode cX10_sizeOf 1 = .ok (.istore_n 2, 1) := by decide +kernel
theorem dX10_sizeOf_2 : decode cX10_sizeOf 2 = .ok (.lload_n 0, 1) := by decide +kernel
theorem dX10_sizeOf_3 : decode cX10_sizeOf 3 = .ok (.lstore_n 3, 1) := by decide +kernel
theorem dX10_sizeOf_4 : decode cX10_sizeOf 4 = .ok (.lload_n 3, 1) := by decide +kernel
theorem dX10_sizeOf_5 : decode cX10_sizeOf 5 = .ok (.lconst 0, 1) := by decide +kernel
theorem dX10_sizeOf_6 : decode cX10_sizeOf 6 = .ok (.lcmp, 1) := by decide +kernel
theorem dX10_sizeOf_7 : decode cX10_sizeOf 7 = .ok (.ifCond .le 13, 3) := by decide +kernel
theorem dX10_sizeOf_10 : decode cX10_sizeOf 10 = .ok (.iinc 2 1, 3) := by decide +kernel
theorem dX10_sizeOf_13 : decode cX10_sizeOf 13 = .ok (.lload_n 3, 1) := by decide +kernel
theorem dX10_sizeOf_14 : decode cX10_sizeOf 14 = .ok (.iconst 3, 1) := by decide +kernel
theorem dX10_sizeOf_15 : decode cX10_sizeOf 15 = .ok (.lshr, 1) := by decide +kernel
theorem dX10_sizeOf_16 : decode cX10_sizeOf 16 = .ok (.lstore_n 3, 1) := by decide +kernel
theorem dX10_sizeOf_17 : decode cX10_sizeOf 17 = .ok (.goto (-13), 3) := by decide +kernel
theorem dX10_sizeOf_20 : decode cX10_sizeOf 20 = .ok (.iload_n 2, 1) := by decide +kernel
theorem dX10_sizeOf_21 : decode cX10_sizeOf 21 = .ok (.ireturn, 1) := by decide +kernel
theorem dX10_letterOf_0 : decode cX10_letterOf 0 = .ok (.lload_n 0, 1) := by decide +kernel
theorem dX10_letterOf_1 : decode cX10_letterOf 1 = .ok (.iconst 3, 1) := by decide +kernel
theorem dX10_letterOf_2 : decode cX10_letterOf 2 = .ok (.iload_n 2, 1) := by decide +kernel
theorem dX10_letterOf_3 : decode cX10_letterOf 3 = .ok (.iconst 1, 1) := by decide +kernel
theorem dX10_letterOf_4 : decode cX10_letterOf 4 = .ok (.isub, 1) := by decide +kernel
theorem dX10_letterOf_5 : decode cX10_letterOf 5 = .ok (.iload_n 3, 1) := by decide +kernel
theorem dX10_letterOf_6 : decode cX10_letterOf 6 = .ok (.isub, 1) := by decide +kernel
theorem dX10_letterOf_7 : decode cX10_letterOf 7 = .ok (.imul, 1) := by decide +kernel
theorem dX10_letterOf_8 : decode cX10_letterOf 8 = .ok (.lshr, 1) := by decide +kernel
theorem dX10_letterOf_9 : decode cX10_letterOf 9 = .ok (.ldc2_w 196, 3) := by decide +kernel
theorem dX10_letterOf_12 : decode cX10_letterOf 12 = .ok (.land, 1) := by decide +kernel
theorem dX10_letterOf_13 : decode cX10_letterOf 13 = .ok (.l2i, 1) := by decide +kernel
theorem dX10_letterOf_14 : decode cX10_letterOf 14 = .ok (.iconst 1, 1) := by decide +kernel
theorem dX10_letterOf_15 : decode cX10_letterOf 15 = .ok (.isub, 1) := by decide +kernel
theorem dX10_letterOf_16 : decode cX10_letterOf 16 = .ok (.ireturn, 1) := by decide +kernel
theorem dX10_with_0 : decode cX10_with 0 = .ok (.ldc2_w 198, 3) := by decide +kernel
theorem dX10_with_3 : decode cX10_with 3 = .ok (.lload_n 0, 1) := by decide +kernel
theorem dX10_with_4 : decode cX10_with 4 = .ok (.lmul, 1) := by decide +kernel
theorem dX10_with_5 : decode cX10_with 5 = .ok (.iload_n 2, 1) := by decide +kernel
theorem dX10_with_6 : decode cX10_with 6 = .ok (.i2l, 1) := by decide +kernel
theorem dX10_with_7 : decode cX10_with 7 = .ok (.ladd, 1) := by decide +kernel
theorem dX10_with_8 : decode cX10_with 8 = .ok (.lconst 1, 1) := by decide +kernel
theorem dX10_with_9 : decode cX10_with 9 = .ok (.ladd, 1) := by decide +kernel
theorem dX10_with_10 : decode cX10_with 10 = .ok (.lreturn, 1) := by decide +kernel
theorem dX10_stands_0 : decode cX10_stands 0 = .ok (.aload_n 0, 1) := by decide +kernel
theorem dX10_stands_1 : decode cX10_stands 1 = .ok (.getfield 15, 3) := by decide +kernel
theorem dX10_stands_4 : decode cX10_stands 4 = .ok (.iconst 2, 1) := by decide +kernel
theorem dX10_stands_5 : decode cX10_stands 5 = .ok (.iload 4, 2) := by decide +kernel
theorem dX10_stands_7 : decode cX10_stands 7 = .ok (.imul, 1) := by decide +kernel
theorem dX10_stands_8 : decode cX10_stands 8 = .ok (.iaload, 1) := by decide +kernel
theorem dX10_stands_9 : decode cX10_stands 9 = .ok (.istore 6, 2) := by decide +kernel
theorem dX10_stands_11 : decode cX10_stands 11 = .ok (.iload 5, 2) := by decide +kernel
theorem dX10_stands_13 : decode cX10_stands 13 = .ok (.i2l, 1) := by decide +kernel
theorem dX10_stands_14 : decode cX10_stands 14 = .ok (.lconst 0, 1) := by decide +kernel
theorem dX10_stands_15 : decode cX10_stands 15 = .ok (.iload_n 3, 1) := by decide +kernel
theorem dX10_stands_16 : decode cX10_stands 16 = .ok (.iload 6, 2) := by decide +kernel
theorem dX10_stands_18 : decode cX10_stands 18 = .ok (.isub, 1) := by decide +kernel
theorem dX10_stands_19 : decode cX10_stands 19 = .ok (.i2l, 1) := by decide +kernel
theorem dX10_stands_20 : decode cX10_stands 20 = .ok (.invokestatic 115, 3) := by decide +kernel
theorem dX10_stands_23 : decode cX10_stands 23 = .ok (.istore 7, 2) := by decide +kernel
theorem dX10_stands_25 : decode cX10_stands 25 = .ok (.iconst 0, 1) := by decide +kernel
theorem dX10_stands_26 : decode cX10_stands 26 = .ok (.istore 8, 2) := by decide +kernel
theorem dX10_stands_28 : decode cX10_stands 28 = .ok (.iload 8, 2) := by decide +kernel
theorem dX10_stands_30 : decode cX10_stands 30 = .ok (.iload 6, 2) := by decide +kernel
theorem dX10_stands_32 : decode cX10_stands 32 = .ok (.if_icmp .ge 47, 3) := by decide +kernel
theorem dX10_stands_35 : decode cX10_stands 35 = .ok (.iload 7, 2) := by decide +kernel
theorem dX10_stands_37 : decode cX10_stands 37 = .ok (.ifCond .eq 42, 3) := by decide +kernel
theorem dX10_stands_40 : decode cX10_stands 40 = .ok (.lload_n 1, 1) := by decide +kernel
theorem dX10_stands_41 : decode cX10_stands 41 = .ok (.iload_n 3, 1) := by decide +kernel
theorem dX10_stands_42 : decode cX10_stands 42 = .ok (.iload 5, 2) := by decide +kernel
theorem dX10_stands_44 : decode cX10_stands 44 = .ok (.iload 8, 2) := by decide +kernel
theorem dX10_stands_46 : decode cX10_stands 46 = .ok (.iadd, 1) := by decide +kernel
theorem dX10_stands_47 : decode cX10_stands 47 = .ok (.invokestatic 200, 3) := by decide +kernel
theorem dX10_stands_50 : decode cX10_stands 50 = .ok (.aload_n 0, 1) := by decide +kernel
theorem dX10_stands_51 : decode cX10_stands 51 = .ok (.getfield 19, 3) := by decide +kernel
theorem dX10_stands_54 : decode cX10_stands 54 = .ok (.bipush 12, 2) := by decide +kernel
theorem dX10_stands_56 : decode cX10_stands 56 = .ok (.iload 4, 2) := by decide +kernel
theorem dX10_stands_58 : decode cX10_stands 58 = .ok (.imul, 1) := by decide +kernel
theorem dX10_stands_59 : decode cX10_stands 59 = .ok (.iload 8, 2) := by decide +kernel
theorem dX10_stands_61 : decode cX10_stands 61 = .ok (.iadd, 1) := by decide +kernel
theorem dX10_stands_62 : decode cX10_stands 62 = .ok (.iaload, 1) := by decide +kernel
theorem dX10_stands_63 : decode cX10_stands 63 = .ok (.if_icmp .ne 7, 3) := by decide +kernel
theorem dX10_stands_66 : decode cX10_stands 66 = .ok (.iconst 1, 1) := by decide +kernel
theorem dX10_stands_67 : decode cX10_stands 67 = .ok (.goto 4, 3) := by decide +kernel
theorem dX10_stands_70 : decode cX10_stands 70 = .ok (.iconst 0, 1) := by decide +kernel
theorem dX10_stands_71 : decode cX10_stands 71 = .ok (.istore 7, 2) := by decide +kernel
theorem dX10_stands_73 : decode cX10_stands 73 = .ok (.iinc 8 1, 3) := by decide +kernel
theorem dX10_stands_76 : decode cX10_stands 76 = .ok (.goto (-48), 3) := by decide +kernel
theorem dX10_stands_79 : decode cX10_stands 79 = .ok (.iload 7, 2) := by decide +kernel
theorem dX10_stands_81 : decode cX10_stands 81 = .ok (.ireturn, 1) := by decide +kernel
theorem dX10_stepped_0 : decode cX10_stepped 0 = .ok (.lload_n 1, 1) := by decide +kernel
theorem dX10_stepped_1 : decode cX10_stepped 1 = .ok (.invokestatic 204, 3) := by decide +kernel
theorem dX10_stepped_4 : decode cX10_stepped 4 = .ok (.istore 5, 2) := by decide +kernel
theorem dX10_stepped_6 : decode cX10_stepped 6 = .ok (.aload_n 0, 1) := by decide +kernel
theorem dX10_stepped_7 : decode cX10_stepped 7 = .ok (.getfield 15, 3) := by decide +kernel
theorem dX10_stepped_10 : decode cX10_stepped 10 = .ok (.iconst 2, 1) := by decide +kernel
theorem dX10_stepped_11 : decode cX10_stepped 11 = .ok (.iload_n 3, 1) := by decide +kernel
theorem dX10_stepped_12 : decode cX10_stepped 12 = .ok (.imul, 1) := by decide +kernel
theorem dX10_stepped_13 : decode cX10_stepped 13 = .ok (.iaload, 1) := by decide +kernel
theorem dX10_stepped_14 : decode cX10_stepped 14 = .ok (.istore 6, 2) := by decide +kernel
theorem dX10_stepped_16 : decode cX10_stepped 16 = .ok (.aload_n 0, 1) := by decide +kernel
theorem dX10_stepped_17 : decode cX10_stepped 17 = .ok (.getfield 15, 3) := by decide +kernel
theorem dX10_stepped_20 : decode cX10_stepped 20 = .ok (.iconst 2, 1) := by decide +kernel
theorem dX10_stepped_21 : decode cX10_stepped 21 = .ok (.iload_n 3, 1) := by decide +kernel
theorem dX10_stepped_22 : decode cX10_stepped 22 = .ok (.imul, 1) := by decide +kernel
theorem dX10_stepped_23 : decode cX10_stepped 23 = .ok (.iconst 1, 1) := by decide +kernel
theorem dX10_stepped_24 : decode cX10_stepped 24 = .ok (.iadd, 1) := by decide +kernel
theorem dX10_stepped_25 : decode cX10_stepped 25 = .ok (.iaload, 1) := by decide +kernel
theorem dX10_stepped_26 : decode cX10_stepped 26 = .ok (.istore 7, 2) := by decide +kernel
theorem dX10_stepped_28 : decode cX10_stepped 28 = .ok (.aload_n 0, 1) := by decide +kernel
theorem dX10_stepped_29 : decode cX10_stepped 29 = .ok (.lload_n 1, 1) := by decide +kernel
theorem dX10_stepped_30 : decode cX10_stepped 30 = .ok (.iload 5, 2) := by decide +kernel
theorem dX10_stepped_32 : decode cX10_stepped 32 = .ok (.iload_n 3, 1) := by decide +kernel
theorem dX10_stepped_33 : decode cX10_stepped 33 = .ok (.iload 4, 2) := by decide +kernel
theorem dX10_stepped_35 : decode cX10_stepped 35 = .ok (.invokevirtual 208, 3) := by decide +kernel
theorem dX10_stepped_38 : decode cX10_stepped 38 = .ok (.ifCond .eq 16, 3) := by decide +kernel
theorem dX10_stepped_41 : decode cX10_stepped 41 = .ok (.iload 5, 2) := by decide +kernel
theorem dX10_stepped_43 : decode cX10_stepped 43 = .ok (.iload 6, 2) := by decide +kernel
theorem dX10_stepped_45 : decode cX10_stepped 45 = .ok (.isub, 1) := by decide +kernel
theorem dX10_stepped_46 : decode cX10_stepped 46 = .ok (.iload 7, 2) := by decide +kernel
theorem dX10_stepped_48 : decode cX10_stepped 48 = .ok (.iadd, 1) := by decide +kernel
theorem dX10_stepped_49 : decode cX10_stepped 49 = .ok (.bipush 12, 2) := by decide +kernel
theorem dX10_stepped_51 : decode cX10_stepped 51 = .ok (.if_icmp .le 7, 3) := by decide +kernel
theorem dX10_stepped_54 : decode cX10_stepped 54 = .ok (.ldc2_w 212, 3) := by decide +kernel
theorem dX10_stepped_57 : decode cX10_stepped 57 = .ok (.lreturn, 1) := by decide +kernel
theorem dX10_stepped_58 : decode cX10_stepped 58 = .ok (.lconst 0, 1) := by decide +kernel
theorem dX10_stepped_59 : decode cX10_stepped 59 = .ok (.lstore 8, 2) := by decide +kernel
theorem dX10_stepped_61 : decode cX10_stepped 61 = .ok (.iconst 0, 1) := by decide +kernel
theorem dX10_stepped_62 : decode cX10_stepped 62 = .ok (.istore 10, 2) := by decide +kernel
theorem dX10_stepped_64 : decode cX10_stepped 64 = .ok (.iload 10, 2) := by decide +kernel
theorem dX10_stepped_66 : decode cX10_stepped 66 = .ok (.iload 4, 2) := by decide +kernel
theorem dX10_stepped_68 : decode cX10_stepped 68 = .ok (.if_icmp .ge 24, 3) := by decide +kernel
theorem dX10_stepped_71 : decode cX10_stepped 71 = .ok (.lload 8, 2) := by decide +kernel
theorem dX10_stepped_73 : decode cX10_stepped 73 = .ok (.lload_n 1, 1) := by decide +kernel
theorem dX10_stepped_74 : decode cX10_stepped 74 = .ok (.iload 5, 2) := by decide +kernel
theorem dX10_stepped_76 : decode cX10_stepped 76 = .ok (.iload 10, 2) := by decide +kernel
theorem dX10_stepped_78 : decode cX10_stepped 78 = .ok (.invokestatic 200, 3) := by decide +kernel
theorem dX10_stepped_81 : decode cX10_stepped 81 = .ok (.invokestatic 214, 3) := by decide +kernel
theorem dX10_stepped_84 : decode cX10_stepped 84 = .ok (.lstore 8, 2) := by decide +kernel
theorem dX10_stepped_86 : decode cX10_stepped 86 = .ok (.iinc 10 1, 3) := by decide +kernel
theorem dX10_stepped_89 : decode cX10_stepped 89 = .ok (.goto (-25), 3) := by decide +kernel
theorem dX10_stepped_92 : decode cX10_stepped 92 = .ok (.iconst 0, 1) := by decide +kernel
theorem dX10_stepped_93 : decode cX10_stepped 93 = .ok (.istore 10, 2) := by decide +kernel
theorem dX10_stepped_95 : decode cX10_stepped 95 = .ok (.iload 10, 2) := by decide +kernel
theorem dX10_stepped_97 : decode cX10_stepped 97 = .ok (.iload 7, 2) := by decide +kernel
theorem dX10_stepped_99 : decode cX10_stepped 99 = .ok (.if_icmp .ge 31, 3) := by decide +kernel
theorem dX10_stepped_102 : decode cX10_stepped 102 = .ok (.lload 8, 2) := by decide +kernel
theorem dX10_stepped_104 : decode cX10_stepped 104 = .ok (.aload_n 0, 1) := by decide +kernel
theorem dX10_stepped_105 : decode cX10_stepped 105 = .ok (.getfield 19, 3) := by decide +kernel
theorem dX10_stepped_108 : decode cX10_stepped 108 = .ok (.bipush 12, 2) := by decide +kernel
theorem dX10_stepped_110 : decode cX10_stepped 110 = .ok (.iload_n 3, 1) := by decide +kernel
theorem dX10_stepped_111 : decode cX10_stepped 111 = .ok (.imul, 1) := by decide +kernel
theorem dX10_stepped_112 : decode cX10_stepped 112 = .ok (.bipush 6, 2) := by decide +kernel
theorem dX10_stepped_114 : decode cX10_stepped 114 = .ok (.iadd, 1) := by decide +kernel
theorem dX10_stepped_115 : decode cX10_stepped 115 = .ok (.iload 10, 2) := by decide +kernel
theorem dX10_stepped_117 : decode cX10_stepped 117 = .ok (.iadd, 1) := by decide +kernel
theorem dX10_stepped_118 : decode cX10_stepped 118 = .ok (.iaload, 1) := by decide +kernel
theorem dX10_stepped_119 : decode cX10_stepped 119 = .ok (.invokestatic 214, 3) := by decide +kernel
theorem dX10_stepped_122 : decode cX10_stepped 122 = .ok (.lstore 8, 2) := by decide +kernel
theorem dX10_stepped_124 : decode cX10_stepped 124 = .ok (.iinc 10 1, 3) := by decide +kernel
theorem dX10_stepped_127 : decode cX10_stepped 127 = .ok (.goto (-32), 3) := by decide +kernel
theorem dX10_stepped_130 : decode cX10_stepped 130 = .ok (.iload 4, 2) := by decide +kernel
theorem dX10_stepped_132 : decode cX10_stepped 132 = .ok (.iload 6, 2) := by decide +kernel
theorem dX10_stepped_134 : decode cX10_stepped 134 = .ok (.iadd, 1) := by decide +kernel
theorem dX10_stepped_135 : decode cX10_stepped 135 = .ok (.istore 10, 2) := by decide +kernel
theorem dX10_stepped_137 : decode cX10_stepped 137 = .ok (.iload 10, 2) := by decide +kernel
theorem dX10_stepped_139 : decode cX10_stepped 139 = .ok (.iload 5, 2) := by decide +kernel
theorem dX10_stepped_141 : decode cX10_stepped 141 = .ok (.if_icmp .ge 24, 3) := by decide +kernel
theorem dX10_stepped_144 : decode cX10_stepped 144 = .ok (.lload 8, 2) := by decide +kernel
theorem dX10_stepped_146 : decode cX10_stepped 146 = .ok (.lload_n 1, 1) := by decide +kernel
theorem dX10_stepped_147 : decode cX10_stepped 147 = .ok (.iload 5, 2) := by decide +kernel
theorem dX10_stepped_149 : decode cX10_stepped 149 = .ok (.iload 10, 2) := by decide +kernel
theorem dX10_stepped_151 : decode cX10_stepped 151 = .ok (.invokestatic 200, 3) := by decide +kernel
theorem dX10_stepped_154 : decode cX10_stepped 154 = .ok (.invokestatic 214, 3) := by decide +kernel
theorem dX10_stepped_157 : decode cX10_stepped 157 = .ok (.lstore 8, 2) := by decide +kernel
theorem dX10_stepped_159 : decode cX10_stepped 159 = .ok (.iinc 10 1, 3) := by decide +kernel
theorem dX10_stepped_162 : decode cX10_stepped 162 = .ok (.goto (-25), 3) := by decide +kernel
theorem dX10_stepped_165 : decode cX10_stepped 165 = .ok (.lload 8, 2) := by decide +kernel
theorem dX10_stepped_167 : decode cX10_stepped 167 = .ok (.lreturn, 1) := by decide +kernel
theorem dX10_current_0 : decode cX10_current 0 = .ok (.lconst 0, 1) := by decide +kernel
theorem dX10_current_1 : decode cX10_current 1 = .ok (.lstore_n 1, 1) := by decide +kernel
theorem dX10_current_2 : decode cX10_current 2 = .ok (.iconst 0, 1) := by decide +kernel
theorem dX10_current_3 : decode cX10_current 3 = .ok (.istore_n 3, 1) := by decide +kernel
theorem dX10_current_4 : decode cX10_current 4 = .ok (.iload_n 3, 1) := by decide +kernel
theorem dX10_current_5 : decode cX10_current 5 = .ok (.aload_n 0, 1) := by decide +kernel
theorem dX10_current_6 : decode cX10_current 6 = .ok (.getfield 124, 3) := by decide +kernel
theorem dX10_current_9 : decode cX10_current 9 = .ok (.if_icmp .ge 20, 3) := by decide +kernel
theorem dX10_current_12 : decode cX10_current 12 = .ok (.lload_n 1, 1) := by decide +kernel
theorem dX10_current_13 : decode cX10_current 13 = .ok (.aload_n 0, 1) := by decide +kernel
theorem dX10_current_14 : decode cX10_current 14 = .ok (.getfield 35, 3) := by decide +kernel
theorem dX10_current_17 : decode cX10_current 17 = .ok (.iload_n 3, 1) := by decide +kernel
theorem dX10_current_18 : decode cX10_current 18 = .ok (.iaload, 1) := by decide +kernel
theorem dX10_current_19 : decode cX10_current 19 = .ok (.invokestatic 214, 3) := by decide +kernel
theorem dX10_current_22 : decode cX10_current 22 = .ok (.lstore_n 1, 1) := by decide +kernel
theorem dX10_current_23 : decode cX10_current 23 = .ok (.iinc 3 1, 3) := by decide +kernel
theorem dX10_current_26 : decode cX10_current 26 = .ok (.goto (-22), 3) := by decide +kernel
theorem dX10_current_29 : decode cX10_current 29 = .ok (.lload_n 1, 1) := by decide +kernel
theorem dX10_current_30 : decode cX10_current 30 = .ok (.lreturn, 1) := by decide +kernel
theorem dX10_becomes_0 : decode cX10_becomes 0 = .ok (.aload_n 0, 1) := by decide +kernel
theorem dX10_becomes_1 : decode cX10_becomes 1 = .ok (.lload_n 1, 1) := by decide +kernel
theorem dX10_becomes_2 : decode cX10_becomes 2 = .ok (.invokestatic 204, 3) := by decide +kernel
theorem dX10_becomes_5 : decode cX10_becomes 5 = .ok (.putfield 124, 3) := by decide +kernel
theorem dX10_becomes_8 : decode cX10_becomes 8 = .ok (.iconst 0, 1) := by decide +kernel
theorem dX10_becomes_9 : decode cX10_becomes 9 = .ok (.istore_n 3, 1) := by decide +kernel
theorem dX10_becomes_10 : decode cX10_becomes 10 = .ok (.iload_n 3, 1) := by decide +kernel
theorem dX10_becomes_11 : decode cX10_becomes 11 = .ok (.aload_n 0, 1) := by decide +kernel
theorem dX10_becomes_12 : decode cX10_becomes 12 = .ok (.getfield 124, 3) := by decide +kernel
theorem dX10_becomes_15 : decode cX10_becomes 15 = .ok (.if_icmp .ge 24, 3) := by decide +kernel
theorem dX10_becomes_18 : decode cX10_becomes 18 = .ok (.aload_n 0, 1) := by decide +kernel
theorem dX10_becomes_19 : decode cX10_becomes 19 = .ok (.getfield 35, 3) := by decide +kernel
theorem dX10_becomes_22 : decode cX10_becomes 22 = .ok (.iload_n 3, 1) := by decide +kernel
theorem dX10_becomes_23 : decode cX10_becomes 23 = .ok (.lload_n 1, 1) := by decide +kernel
theorem dX10_becomes_24 : decode cX10_becomes 24 = .ok (.aload_n 0, 1) := by decide +kernel
theorem dX10_becomes_25 : decode cX10_becomes 25 = .ok (.getfield 124, 3) := by decide +kernel
theorem dX10_becomes_28 : decode cX10_becomes 28 = .ok (.iload_n 3, 1) := by decide +kernel
theorem dX10_becomes_29 : decode cX10_becomes 29 = .ok (.invokestatic 200, 3) := by decide +kernel
theorem dX10_becomes_32 : decode cX10_becomes 32 = .ok (.iastore, 1) := by decide +kernel
theorem dX10_becomes_33 : decode cX10_becomes 33 = .ok (.iinc 3 1, 3) := by decide +kernel
theorem dX10_becomes_36 : decode cX10_becomes 36 = .ok (.goto (-26), 3) := by decide +kernel
theorem dX10_becomes_39 : decode cX10_becomes 39 = .ok (.return_, 1) := by decide +kernel
theorem dX10_rewrite_0 : decode cX10_rewrite 0 = .ok (.aload_n 0, 1) := by decide +kernel
theorem dX10_rewrite_1 : decode cX10_rewrite 1 = .ok (.iload_n 1, 1) := by decide +kernel
theorem dX10_rewrite_2 : decode cX10_rewrite 2 = .ok (.invokevirtual 152, 3) := by decide +kernel
theorem dX10_rewrite_5 : decode cX10_rewrite 5 = .ok (.ifCond .ne 6, 3) := by decide +kernel
theorem dX10_rewrite_8 : decode cX10_rewrite 8 = .ok (.bipush (-3), 2) := by decide +kernel
theorem dX10_rewrite_10 : decode cX10_rewrite 10 = .ok (.ireturn, 1) := by decide +kernel
theorem dX10_rewrite_11 : decode cX10_rewrite 11 = .ok (.aload_n 0, 1) := by decide +kernel
theorem dX10_rewrite_12 : decode cX10_rewrite 12 = .ok (.aload_n 0, 1) := by decide +kernel
theorem dX10_rewrite_13 : decode cX10_rewrite 13 = .ok (.invokevirtual 218, 3) := by decide +kernel
theorem dX10_rewrite_16 : decode cX10_rewrite 16 = .ok (.iload_n 1, 1) := by decide +kernel
theorem dX10_rewrite_17 : decode cX10_rewrite 17 = .ok (.iload_n 2, 1) := by decide +kernel
theorem dX10_rewrite_18 : decode cX10_rewrite 18 = .ok (.invokevirtual 222, 3) := by decide +kernel
theorem dX10_rewrite_21 : decode cX10_rewrite 21 = .ok (.lstore_n 3, 1) := by decide +kernel
theorem dX10_rewrite_22 : decode cX10_rewrite 22 = .ok (.lload_n 3, 1) := by decide +kernel
theorem dX10_rewrite_23 : decode cX10_rewrite 23 = .ok (.ldc2_w 212, 3) := by decide +kernel
theorem dX10_rewrite_26 : decode cX10_rewrite 26 = .ok (.lcmp, 1) := by decide +kernel
theorem dX10_rewrite_27 : decode cX10_rewrite 27 = .ok (.ifCond .ne 6, 3) := by decide +kernel
theorem dX10_rewrite_30 : decode cX10_rewrite 30 = .ok (.bipush (-9), 2) := by decide +kernel
theorem dX10_rewrite_32 : decode cX10_rewrite 32 = .ok (.ireturn, 1) := by decide +kernel
theorem dX10_rewrite_33 : decode cX10_rewrite 33 = .ok (.aload_n 0, 1) := by decide +kernel
theorem dX10_rewrite_34 : decode cX10_rewrite 34 = .ok (.lload_n 3, 1) := by decide +kernel
theorem dX10_rewrite_35 : decode cX10_rewrite 35 = .ok (.invokevirtual 226, 3) := by decide +kernel
theorem dX10_rewrite_38 : decode cX10_rewrite 38 = .ok (.aload_n 0, 1) := by decide +kernel
theorem dX10_rewrite_39 : decode cX10_rewrite 39 = .ok (.getfield 124, 3) := by decide +kernel
theorem dX10_rewrite_42 : decode cX10_rewrite 42 = .ok (.ireturn, 1) := by decide +kernel
theorem dX10_steps_0 : decode cX10_steps 0 = .ok (.aload_n 0, 1) := by decide +kernel
theorem dX10_steps_1 : decode cX10_steps 1 = .ok (.invokevirtual 218, 3) := by decide +kernel
theorem dX10_steps_4 : decode cX10_steps 4 = .ok (.lstore_n 1, 1) := by decide +kernel
theorem dX10_steps_5 : decode cX10_steps 5 = .ok (.iconst 0, 1) := by decide +kernel
theorem dX10_steps_6 : decode cX10_steps 6 = .ok (.istore_n 3, 1) := by decide +kernel
theorem dX10_steps_7 : decode cX10_steps 7 = .ok (.iload_n 3, 1) := by decide +kernel
theorem dX10_steps_8 : decode cX10_steps 8 = .ok (.aload_n 0, 1) := by decide +kernel
theorem dX10_steps_9 : decode cX10_steps 9 = .ok (.getfield 124, 3) := by decide +kernel
theorem dX10_steps_12 : decode cX10_steps 12 = .ok (.if_icmp .ge 54, 3) := by decide +kernel
theorem dX10_steps_15 : decode cX10_steps 15 = .ok (.iconst 0, 1) := by decide +kernel
theorem dX10_steps_16 : decode cX10_steps 16 = .ok (.istore 4, 2) := by decide +kernel
theorem dX10_steps_18 : decode cX10_steps 18 = .ok (.iload 4, 2) := by decide +kernel
theorem dX10_steps_20 : decode cX10_steps 20 = .ok (.aload_n 0, 1) := by decide +kernel
theorem dX10_steps_21 : decode cX10_steps 21 = .ok (.getfield 119, 3) := by decide +kernel
theorem dX10_steps_24 : decode cX10_steps 24 = .ok (.if_icmp .ge 36, 3) := by decide +kernel
theorem dX10_steps_27 : decode cX10_steps 27 = .ok (.aload_n 0, 1) := by decide +kernel
theorem dX10_steps_28 : decode cX10_steps 28 = .ok (.lload_n 1, 1) := by decide +kernel
theorem dX10_steps_29 : decode cX10_steps 29 = .ok (.iload 4, 2) := by decide +kernel
theorem dX10_steps_31 : decode cX10_steps 31 = .ok (.iload_n 3, 1) := by decide +kernel
theorem dX10_steps_32 : decode cX10_steps 32 = .ok (.invokevirtual 222, 3) := by decide +kernel
theorem dX10_steps_35 : decode cX10_steps 35 = .ok (.lstore 5, 2) := by decide +kernel
theorem dX10_steps_37 : decode cX10_steps 37 = .ok (.lload 5, 2) := by decide +kernel
theorem dX10_steps_39 : decode cX10_steps 39 = .ok (.ldc2_w 212, 3) := by decide +kernel
theorem dX10_steps_42 : decode cX10_steps 42 = .ok (.lcmp, 1) := by decide +kernel
theorem dX10_steps_43 : decode cX10_steps 43 = .ok (.ifCond .eq 11, 3) := by decide +kernel
theorem dX10_steps_46 : decode cX10_steps 46 = .ok (.aload_n 0, 1) := by decide +kernel
theorem dX10_steps_47 : decode cX10_steps 47 = .ok (.lload 5, 2) := by decide +kernel
theorem dX10_steps_49 : decode cX10_steps 49 = .ok (.invokevirtual 226, 3) := by decide +kernel
theorem dX10_steps_52 : decode cX10_steps 52 = .ok (.iconst 1, 1) := by decide +kernel
theorem dX10_steps_53 : decode cX10_steps 53 = .ok (.ireturn, 1) := by decide +kernel
theorem dX10_steps_54 : decode cX10_steps 54 = .ok (.iinc 4 1, 3) := by decide +kernel
theorem dX10_steps_57 : decode cX10_steps 57 = .ok (.goto (-39), 3) := by decide +kernel
theorem dX10_steps_60 : decode cX10_steps 60 = .ok (.iinc 3 1, 3) := by decide +kernel
theorem dX10_steps_63 : decode cX10_steps 63 = .ok (.goto (-56), 3) := by decide +kernel
theorem dX10_steps_66 : decode cX10_steps 66 = .ok (.iconst 0, 1) := by decide +kernel
theorem dX10_steps_67 : decode cX10_steps 67 = .ok (.ireturn, 1) := by decide +kernel
theorem dX10_normalize_0 : decode cX10_normalize 0 = .ok (.iload_n 1, 1) := by decide +kernel
theorem dX10_normalize_1 : decode cX10_normalize 1 = .ok (.i2l, 1) := by decide +kernel
theorem dX10_normalize_2 : decode cX10_normalize 2 = .ok (.lconst 0, 1) := by decide +kernel
theorem dX10_normalize_3 : decode cX10_normalize 3 = .ok (.ldc2_w 230, 3) := by decide +kernel
theorem dX10_normalize_6 : decode cX10_normalize 6 = .ok (.invokestatic 115, 3) := by decide +kernel
theorem dX10_normalize_9 : decode cX10_normalize 9 = .ok (.ifCond .ne 5, 3) := by decide +kernel
theorem dX10_normalize_12 : decode cX10_normalize 12 = .ok (.iconst (-1), 1) := by decide +kernel
theorem dX10_normalize_13 : decode cX10_normalize 13 = .ok (.ireturn, 1) := by decide +kernel
theorem dX10_normalize_14 : decode cX10_normalize 14 = .ok (.iconst 0, 1) := by decide +kernel
theorem dX10_normalize_15 : decode cX10_normalize 15 = .ok (.istore_n 2, 1) := by decide +kernel
theorem dX10_normalize_16 : decode cX10_normalize 16 = .ok (.iload_n 2, 1) := by decide +kernel
theorem dX10_normalize_17 : decode cX10_normalize 17 = .ok (.iload_n 1, 1) := by decide +kernel
theorem dX10_normalize_18 : decode cX10_normalize 18 = .ok (.if_icmp .ge 16, 3) := by decide +kernel
theorem dX10_normalize_21 : decode cX10_normalize 21 = .ok (.aload_n 0, 1) := by decide +kernel
theorem dX10_normalize_22 : decode cX10_normalize 22 = .ok (.invokevirtual 232, 3) := by decide +kernel
theorem dX10_normalize_25 : decode cX10_normalize 25 = .ok (.ifCond .eq 9, 3) := by decide +kernel
theorem dX10_normalize_28 : decode cX10_normalize 28 = .ok (.iinc 2 1, 3) := by decide +kernel
theorem dX10_normalize_31 : decode cX10_normalize 31 = .ok (.goto (-15), 3) := by decide +kernel
theorem dX10_normalize_34 : decode cX10_normalize 34 = .ok (.iload_n 2, 1) := by decide +kernel
theorem dX10_normalize_35 : decode cX10_normalize 35 = .ok (.ireturn, 1) := by decide +kernel
theorem dX10_placeOf_0 : decode cX10_placeOf 0 = .ok (.iconst 0, 1) := by decide +kernel
theorem dX10_placeOf_1 : decode cX10_placeOf 1 = .ok (.istore_n 3, 1) := by decide +kernel
theorem dX10_placeOf_2 : decode cX10_placeOf 2 = .ok (.iload_n 3, 1) := by decide +kernel
theorem dX10_placeOf_3 : decode cX10_placeOf 3 = .ok (.aload_n 0, 1) := by decide +kernel
theorem dX10_placeOf_4 : decode cX10_placeOf 4 = .ok (.getfield 235, 3) := by decide +kernel
theorem dX10_placeOf_7 : decode cX10_placeOf 7 = .ok (.if_icmp .ge 20, 3) := by decide +kernel
theorem dX10_placeOf_10 : decode cX10_placeOf 10 = .ok (.aload_n 0, 1) := by decide +kernel
theorem dX10_placeOf_11 : decode cX10_placeOf 11 = .ok (.getfield 94, 3) := by decide +kernel
theorem dX10_placeOf_14 : decode cX10_placeOf 14 = .ok (.iload_n 3, 1) := by decide +kernel
theorem dX10_placeOf_15 : decode cX10_placeOf 15 = .ok (.laload, 1) := by decide +kernel
theorem dX10_placeOf_16 : decode cX10_placeOf 16 = .ok (.lload_n 1, 1) := by decide +kernel
theorem dX10_placeOf_17 : decode cX10_placeOf 17 = .ok (.lcmp, 1) := by decide +kernel
theorem dX10_placeOf_18 : decode cX10_placeOf 18 = .ok (.ifCond .eq 9, 3) := by decide +kernel
theorem dX10_placeOf_21 : decode cX10_placeOf 21 = .ok (.iinc 3 1, 3) := by decide +kernel
theorem dX10_placeOf_24 : decode cX10_placeOf 24 = .ok (.goto (-22), 3) := by decide +kernel
theorem dX10_placeOf_27 : decode cX10_placeOf 27 = .ok (.iload_n 3, 1) := by decide +kernel
theorem dX10_placeOf_28 : decode cX10_placeOf 28 = .ok (.ireturn, 1) := by decide +kernel
theorem dX10_longestDerivation_0 : decode cX10_longestDerivation 0 = .ok (.aload_n 0, 1) := by decide +kernel
theorem dX10_longestDerivation_1 : decode cX10_longestDerivation 1 = .ok (.getfield 94, 3) := by decide +kernel
theorem dX10_longestDerivation_4 : decode cX10_longestDerivation 4 = .ok (.iconst 0, 1) := by decide +kernel
theorem dX10_longestDerivation_5 : decode cX10_longestDerivation 5 = .ok (.aload_n 0, 1) := by decide +kernel
theorem dX10_longestDerivation_6 : decode cX10_longestDerivation 6 = .ok (.invokevirtual 218, 3) := by decide +kernel
theorem dX10_longestDerivation_9 : decode cX10_longestDerivation 9 = .ok (.lastore, 1) := by decide +kernel
theorem dX10_longestDerivation_10 : decode cX10_longestDerivation 10 = .ok (.aload_n 0, 1) := by decide +kernel
theorem dX10_longestDerivation_11 : decode cX10_longestDerivation 11 = .ok (.iconst 1, 1) := by decide +kernel
theorem dX10_longestDerivation_12 : decode cX10_longestDerivation 12 = .ok (.putfield 235, 3) := by decide +kernel
theorem dX10_longestDerivation_15 : decode cX10_longestDerivation 15 = .ok (.iconst 0, 1) := by decide +kernel
theorem dX10_longestDerivation_16 : decode cX10_longestDerivation 16 = .ok (.istore_n 1, 1) := by decide +kernel
theorem dX10_longestDerivation_17 : decode cX10_longestDerivation 17 = .ok (.iload_n 1, 1) := by decide +kernel
theorem dX10_longestDerivation_18 : decode cX10_longestDerivation 18 = .ok (.aload_n 0, 1) := by decide +kernel
theorem dX10_longestDerivation_19 : decode cX10_longestDerivation 19 = .ok (.getfield 235, 3) := by decide +kernel
theorem dX10_longestDerivation_22 : decode cX10_longestDerivation 22 = .ok (.if_icmp .ge 163, 3) := by decide +kernel
theorem dX10_longestDerivation_25 : decode cX10_longestDerivation 25 = .ok (.aload_n 0, 1) := by decide +kernel
theorem dX10_longestDerivation_26 : decode cX10_longestDerivation 26 = .ok (.getfield 94, 3) := by decide +kernel
theorem dX10_longestDerivation_29 : decode cX10_longestDerivation 29 = .ok (.iload_n 1, 1) := by decide +kernel
theorem dX10_longestDerivation_30 : decode cX10_longestDerivation 30 = .ok (.laload, 1) := by decide +kernel
theorem dX10_longestDerivation_31 : decode cX10_longestDerivation 31 = .ok (.invokestatic 204, 3) := by decide +kernel
theorem dX10_longestDerivation_34 : decode cX10_longestDerivation 34 = .ok (.istore_n 2, 1) := by decide +kernel
theorem dX10_longestDerivation_35 : decode cX10_longestDerivation 35 = .ok (.aload_n 0, 1) := by decide +kernel
theorem dX10_longestDerivation_36 : decode cX10_longestDerivation 36 = .ok (.getfield 112, 3) := by decide +kernel
theorem dX10_longestDerivation_39 : decode cX10_longestDerivation 39 = .ok (.iload_n 1, 1) := by decide +kernel
theorem dX10_longestDerivation_40 : decode cX10_longestDerivation 40 = .ok (.iconst 0, 1) := by decide +kernel
theorem dX10_longestDerivation_41 : decode cX10_longestDerivation 41 = .ok (.iastore, 1) := by decide +kernel
theorem dX10_longestDerivation_42 : decode cX10_longestDerivation 42 = .ok (.iconst 0, 1) := by decide +kernel
theorem dX10_longestDerivation_43 : decode cX10_longestDerivation 43 = .ok (.istore_n 3, 1) := by decide +kernel
theorem dX10_longestDerivation_44 : decode cX10_longestDerivation 44 = .ok (.iload_n 3, 1) := by decide +kernel
theorem dX10_longestDerivation_45 : decode cX10_longestDerivation 45 = .ok (.iload_n 2, 1) := by decide +kernel
theorem dX10_longestDerivation_46 : decode cX10_longestDerivation 46 = .ok (.if_icmp .ge 133, 3) := by decide +kernel
theorem dX10_longestDerivation_49 : decode cX10_longestDerivation 49 = .ok (.iconst 0, 1) := by decide +kernel
theorem dX10_longestDerivation_50 : decode cX10_longestDerivation 50 = .ok (.istore 4, 2) := by decide +kernel
theorem dX10_longestDerivation_52 : decode cX10_longestDerivation 52 = .ok (.iload 4, 2) := by decide +kernel
theorem dX10_longestDerivation_54 : decode cX10_longestDerivation 54 = .ok (.aload_n 0, 1) := by decide +kernel
theorem dX10_longestDerivation_55 : decode cX10_longestDerivation 55 = .ok (.getfield 119, 3) := by decide +kernel
theorem dX10_longestDerivation_58 : decode cX10_longestDerivation 58 = .ok (.if_icmp .ge 115, 3) := by decide +kernel
theorem dX10_longestDerivation_61 : decode cX10_longestDerivation 61 = .ok (.aload_n 0, 1) := by decide +kernel
theorem dX10_longestDerivation_62 : decode cX10_longestDerivation 62 = .ok (.aload_n 0, 1) := by decide +kernel
theorem dX10_longestDerivation_63 : decode cX10_longestDerivation 63 = .ok (.getfield 94, 3) := by decide +kernel
theorem dX10_longestDerivation_66 : decode cX10_longestDerivation 66 = .ok (.iload_n 1, 1) := by decide +kernel
theorem dX10_longestDerivation_67 : decode cX10_longestDerivation 67 = .ok (.laload, 1) := by decide +kernel
theorem dX10_longestDerivation_68 : decode cX10_longestDerivation 68 = .ok (.iload 4, 2) := by decide +kernel
theorem dX10_longestDerivation_70 : decode cX10_longestDerivation 70 = .ok (.iload_n 3, 1) := by decide +kernel
theorem dX10_longestDerivation_71 : decode cX10_longestDerivation 71 = .ok (.invokevirtual 222, 3) := by decide +kernel
theorem dX10_longestDerivation_74 : decode cX10_longestDerivation 74 = .ok (.lstore 5, 2) := by decide +kernel
theorem dX10_longestDerivation_76 : decode cX10_longestDerivation 76 = .ok (.lload 5, 2) := by decide +kernel
theorem dX10_longestDerivation_78 : decode cX10_longestDerivation 78 = .ok (.ldc2_w 212, 3) := by decide +kernel
theorem dX10_longestDerivation_81 : decode cX10_longestDerivation 81 = .ok (.lcmp, 1) := by decide +kernel
theorem dX10_longestDerivation_82 : decode cX10_longestDerivation 82 = .ok (.ifCond .eq 85, 3) := by decide +kernel
theorem dX10_longestDerivation_85 : decode cX10_longestDerivation 85 = .ok (.aload_n 0, 1) := by decide +kernel
theorem dX10_longestDerivation_86 : decode cX10_longestDerivation 86 = .ok (.lload 5, 2) := by decide +kernel
theorem dX10_longestDerivation_88 : decode cX10_longestDerivation 88 = .ok (.invokevirtual 238, 3) := by decide +kernel
theorem dX10_longestDerivation_91 : decode cX10_longestDerivation 91 = .ok (.istore 7, 2) := by decide +kernel
theorem dX10_longestDerivation_93 : decode cX10_longestDerivation 93 = .ok (.iload 7, 2) := by decide +kernel
theorem dX10_longestDerivation_95 : decode cX10_longestDerivation 95 = .ok (.sipush 200, 3) := by decide +kernel
theorem dX10_longestDerivation_98 : decode cX10_longestDerivation 98 = .ok (.if_icmp .ne 6, 3) := by decide +kernel
theorem dX10_longestDerivation_101 : decode cX10_longestDerivation 101 = .ok (.bipush (-7), 2) := by decide +kernel
theorem dX10_longestDerivation_103 : decode cX10_longestDerivation 103 = .ok (.ireturn, 1) := by decide +kernel
theorem dX10_longestDerivation_104 : decode cX10_longestDerivation 104 = .ok (.aload_n 0, 1) := by decide +kernel
theorem dX10_longestDerivation_105 : decode cX10_longestDerivation 105 = .ok (.getfield 94, 3) := by decide +kernel
theorem dX10_longestDerivation_108 : decode cX10_longestDerivation 108 = .ok (.iload 7, 2) := by decide +kernel
theorem dX10_longestDerivation_110 : decode cX10_longestDerivation 110 = .ok (.lload 5, 2) := by decide +kernel
theorem dX10_longestDerivation_112 : decode cX10_longestDerivation 112 = .ok (.lastore, 1) := by decide +kernel
theorem dX10_longestDerivation_113 : decode cX10_longestDerivation 113 = .ok (.aload_n 0, 1) := by decide +kernel
theorem dX10_longestDerivation_114 : decode cX10_longestDerivation 114 = .ok (.iload 7, 2) := by decide +kernel
theorem dX10_longestDerivation_116 : decode cX10_longestDerivation 116 = .ok (.aload_n 0, 1) := by decide +kernel
theorem dX10_longestDerivation_117 : decode cX10_longestDerivation 117 = .ok (.getfield 235, 3) := by decide +kernel
theorem dX10_longestDerivation_120 : decode cX10_longestDerivation 120 = .ok (.if_icmp .ne 12, 3) := by decide +kernel
theorem dX10_longestDerivation_123 : decode cX10_longestDerivation 123 = .ok (.aload_n 0, 1) := by decide +kernel
theorem dX10_longestDerivation_124 : decode cX10_longestDerivation 124 = .ok (.getfield 235, 3) := by decide +kernel
theorem dX10_longestDerivation_127 : decode cX10_longestDerivation 127 = .ok (.iconst 1, 1) := by decide +kernel
theorem dX10_longestDerivation_128 : decode cX10_longestDerivation 128 = .ok (.iadd, 1) := by decide +kernel
theorem dX10_longestDerivation_129 : decode cX10_longestDerivation 129 = .ok (.goto 7, 3) := by decide +kernel
theorem dX10_longestDerivation_132 : decode cX10_longestDerivation 132 = .ok (.aload_n 0, 1) := by decide +kernel
theorem dX10_longestDerivation_133 : decode cX10_longestDerivation 133 = .ok (.getfield 235, 3) := by decide +kernel
theorem dX10_longestDerivation_136 : decode cX10_longestDerivation 136 = .ok (.putfield 235, 3) := by decide +kernel
theorem dX10_longestDerivation_139 : decode cX10_longestDerivation 139 = .ok (.aload_n 0, 1) := by decide +kernel
theorem dX10_longestDerivation_140 : decode cX10_longestDerivation 140 = .ok (.getfield 109, 3) := by decide +kernel
theorem dX10_longestDerivation_143 : decode cX10_longestDerivation 143 = .ok (.bipush 96, 2) := by decide +kernel
theorem dX10_longestDerivation_145 : decode cX10_longestDerivation 145 = .ok (.iload_n 1, 1) := by decide +kernel
theorem dX10_longestDerivation_146 : decode cX10_longestDerivation 146 = .ok (.imul, 1) := by decide +kernel
theorem dX10_longestDerivation_147 : decode cX10_longestDerivation 147 = .ok (.aload_n 0, 1) := by decide +kernel
theorem dX10_longestDerivation_148 : decode cX10_longestDerivation 148 = .ok (.getfield 112, 3) := by decide +kernel
theorem dX10_longestDerivation_151 : decode cX10_longestDerivation 151 = .ok (.iload_n 1, 1) := by decide +kernel
theorem dX10_longestDerivation_152 : decode cX10_longestDerivation 152 = .ok (.iaload, 1) := by decide +kernel
theorem dX10_longestDerivation_153 : decode cX10_longestDerivation 153 = .ok (.iadd, 1) := by decide +kernel
theorem dX10_longestDerivation_154 : decode cX10_longestDerivation 154 = .ok (.iload 7, 2) := by decide +kernel
theorem dX10_longestDerivation_156 : decode cX10_longestDerivation 156 = .ok (.iastore, 1) := by decide +kernel
theorem dX10_longestDerivation_157 : decode cX10_longestDerivation 157 = .ok (.aload_n 0, 1) := by decide +kernel
theorem dX10_longestDerivation_158 : decode cX10_longestDerivation 158 = .ok (.getfield 112, 3) := by decide +kernel
theorem dX10_longestDerivation_161 : decode cX10_longestDerivation 161 = .ok (.iload_n 1, 1) := by decide +kernel
theorem dX10_longestDerivation_162 : decode cX10_longestDerivation 162 = .ok (.dup2, 1) := by decide +kernel
theorem dX10_longestDerivation_163 : decode cX10_longestDerivation 163 = .ok (.iaload, 1) := by decide +kernel
theorem dX10_longestDerivation_164 : decode cX10_longestDerivation 164 = .ok (.iconst 1, 1) := by decide +kernel
theorem dX10_longestDerivation_165 : decode cX10_longestDerivation 165 = .ok (.iadd, 1) := by decide +kernel
theorem dX10_longestDerivation_166 : decode cX10_longestDerivation 166 = .ok (.iastore, 1) := by decide +kernel
theorem dX10_longestDerivation_167 : decode cX10_longestDerivation 167 = .ok (.iinc 4 1, 3) := by decide +kernel
theorem dX10_longestDerivation_170 : decode cX10_longestDerivation 170 = .ok (.goto (-118), 3) := by decide +kernel
theorem dX10_longestDerivation_173 : decode cX10_longestDerivation 173 = .ok (.iinc 3 1, 3) := by decide +kernel
theorem dX10_longestDerivation_176 : decode cX10_longestDerivation 176 = .ok (.goto (-132), 3) := by decide +kernel
theorem dX10_longestDerivation_179 : decode cX10_longestDerivation 179 = .ok (.iinc 1 1, 3) := by decide +kernel
theorem dX10_longestDerivation_182 : decode cX10_longestDerivation 182 = .ok (.goto (-165), 3) := by decide +kernel
theorem dX10_longestDerivation_185 : decode cX10_longestDerivation 185 = .ok (.aload_n 0, 1) := by decide +kernel
theorem dX10_longestDerivation_186 : decode cX10_longestDerivation 186 = .ok (.invokevirtual 241, 3) := by decide +kernel
theorem dX10_longestDerivation_189 : decode cX10_longestDerivation 189 = .ok (.ireturn, 1) := by decide +kernel
theorem dX10_deepestOf_0 : decode cX10_deepestOf 0 = .ok (.iconst 0, 1) := by decide +kernel
theorem dX10_deepestOf_1 : decode cX10_deepestOf 1 = .ok (.istore_n 1, 1) := by decide +kernel
theorem dX10_deepestOf_2 : decode cX10_deepestOf 2 = .ok (.iload_n 1, 1) := by decide +kernel
theorem dX10_deepestOf_3 : decode cX10_deepestOf 3 = .ok (.aload_n 0, 1) := by decide +kernel
theorem dX10_deepestOf_4 : decode cX10_deepestOf 4 = .ok (.getfield 235, 3) := by decide +kernel
theorem dX10_deepestOf_7 : decode cX10_deepestOf 7 = .ok (.if_icmp .ge 16, 3) := by decide +kernel
theorem dX10_deepestOf_10 : decode cX10_deepestOf 10 = .ok (.aload_n 0, 1) := by decide +kernel
theorem dX10_deepestOf_11 : decode cX10_deepestOf 11 = .ok (.getfield 106, 3) := by decide +kernel
theorem dX10_deepestOf_14 : decode cX10_deepestOf 14 = .ok (.iload_n 1, 1) := by decide +kernel
theorem dX10_deepestOf_15 : decode cX10_deepestOf 15 = .ok (.iconst 0, 1) := by decide +kernel
theorem dX10_deepestOf_16 : decode cX10_deepestOf 16 = .ok (.iastore, 1) := by decide +kernel
theorem dX10_deepestOf_17 : decode cX10_deepestOf 17 = .ok (.iinc 1 1, 3) := by decide +kernel
theorem dX10_deepestOf_20 : decode cX10_deepestOf 20 = .ok (.goto (-18), 3) := by decide +kernel
theorem dX10_deepestOf_23 : decode cX10_deepestOf 23 = .ok (.iconst 1, 1) := by decide +kernel
theorem dX10_deepestOf_24 : decode cX10_deepestOf 24 = .ok (.istore_n 1, 1) := by decide +kernel
theorem dX10_deepestOf_25 : decode cX10_deepestOf 25 = .ok (.iload_n 1, 1) := by decide +kernel
theorem dX10_deepestOf_26 : decode cX10_deepestOf 26 = .ok (.ifCond .eq 128, 3) := by decide +kernel
theorem dX10_deepestOf_29 : decode cX10_deepestOf 29 = .ok (.iconst 0, 1) := by decide +kernel
theorem dX10_deepestOf_30 : decode cX10_deepestOf 30 = .ok (.istore_n 1, 1) := by decide +kernel
theorem dX10_deepestOf_31 : decode cX10_deepestOf 31 = .ok (.aload_n 0, 1) := by decide +kernel
theorem dX10_deepestOf_32 : decode cX10_deepestOf 32 = .ok (.getfield 235, 3) := by decide +kernel
theorem dX10_deepestOf_35 : decode cX10_deepestOf 35 = .ok (.iconst 1, 1) := by decide +kernel
theorem dX10_deepestOf_36 : decode cX10_deepestOf 36 = .ok (.isub, 1) := by decide +kernel
theorem dX10_deepestOf_37 : decode cX10_deepestOf 37 = .ok (.istore_n 2, 1) := by decide +kernel
theorem dX10_deepestOf_38 : decode cX10_deepestOf 38 = .ok (.iload_n 2, 1) := by decide +kernel
theorem dX10_deepestOf_39 : decode cX10_deepestOf 39 = .ok (.ifCond .lt 112, 3) := by decide +kernel
theorem dX10_deepestOf_42 : decode cX10_deepestOf 42 = .ok (.iconst 0, 1) := by decide +kernel
theorem dX10_deepestOf_43 : decode cX10_deepestOf 43 = .ok (.istore_n 3, 1) := by decide +kernel
theorem dX10_deepestOf_44 : decode cX10_deepestOf 44 = .ok (.iload_n 3, 1) := by decide +kernel
theorem dX10_deepestOf_45 : decode cX10_deepestOf 45 = .ok (.aload_n 0, 1) := by decide +kernel
theorem dX10_deepestOf_46 : decode cX10_deepestOf 46 = .ok (.getfield 112, 3) := by decide +kernel
theorem dX10_deepestOf_49 : decode cX10_deepestOf 49 = .ok (.iload_n 2, 1) := by decide +kernel
theorem dX10_deepestOf_50 : decode cX10_deepestOf 50 = .ok (.iaload, 1) := by decide +kernel
theorem dX10_deepestOf_51 : decode cX10_deepestOf 51 = .ok (.if_icmp .ge 78, 3) := by decide +kernel
theorem dX10_deepestOf_54 : decode cX10_deepestOf 54 = .ok (.aload_n 0, 1) := by decide +kernel
theorem dX10_deepestOf_55 : decode cX10_deepestOf 55 = .ok (.getfield 106, 3) := by decide +kernel
theorem dX10_deepestOf_58 : decode cX10_deepestOf 58 = .ok (.aload_n 0, 1) := by decide +kernel
theorem dX10_deepestOf_59 : decode cX10_deepestOf 59 = .ok (.getfield 109, 3) := by decide +kernel
theorem dX10_deepestOf_62 : decode cX10_deepestOf 62 = .ok (.bipush 96, 2) := by decide +kernel
theorem dX10_deepestOf_64 : decode cX10_deepestOf 64 = .ok (.iload_n 2, 1) := by decide +kernel
theorem dX10_deepestOf_65 : decode cX10_deepestOf 65 = .ok (.imul, 1) := by decide +kernel
theorem dX10_deepestOf_66 : decode cX10_deepestOf 66 = .ok (.iload_n 3, 1) := by decide +kernel
theorem dX10_deepestOf_67 : decode cX10_deepestOf 67 = .ok (.iadd, 1) := by decide +kernel
theorem dX10_deepestOf_68 : decode cX10_deepestOf 68 = .ok (.iaload, 1) := by decide +kernel
theorem dX10_deepestOf_69 : decode cX10_deepestOf 69 = .ok (.iaload, 1) := by decide +kernel
theorem dX10_deepestOf_70 : decode cX10_deepestOf 70 = .ok (.iconst 1, 1) := by decide +kernel
theorem dX10_deepestOf_71 : decode cX10_deepestOf 71 = .ok (.iadd, 1) := by decide +kernel
theorem dX10_deepestOf_72 : decode cX10_deepestOf 72 = .ok (.istore 4, 2) := by decide +kernel
theorem dX10_deepestOf_74 : decode cX10_deepestOf 74 = .ok (.iload_n 1, 1) := by decide +kernel
theorem dX10_deepestOf_75 : decode cX10_deepestOf 75 = .ok (.ifCond .ne 14, 3) := by decide +kernel
theorem dX10_deepestOf_78 : decode cX10_deepestOf 78 = .ok (.iload 4, 2) := by decide +kernel
theorem dX10_deepestOf_80 : decode cX10_deepestOf 80 = .ok (.aload_n 0, 1) := by decide +kernel
theorem dX10_deepestOf_81 : decode cX10_deepestOf 81 = .ok (.getfield 106, 3) := by decide +kernel
theorem dX10_deepestOf_84 : decode cX10_deepestOf 84 = .ok (.iload_n 2, 1) := by decide +kernel
theorem dX10_deepestOf_85 : decode cX10_deepestOf 85 = .ok (.iaload, 1) := by decide +kernel
theorem dX10_deepestOf_86 : decode cX10_deepestOf 86 = .ok (.if_icmp .le 7, 3) := by decide +kernel
theorem dX10_deepestOf_89 : decode cX10_deepestOf 89 = .ok (.iconst 1, 1) := by decide +kernel
theorem dX10_deepestOf_90 : decode cX10_deepestOf 90 = .ok (.goto 4, 3) := by decide +kernel
theorem dX10_deepestOf_93 : decode cX10_deepestOf 93 = .ok (.iconst 0, 1) := by decide +kernel
theorem dX10_deepestOf_94 : decode cX10_deepestOf 94 = .ok (.istore_n 1, 1) := by decide +kernel
theorem dX10_deepestOf_95 : decode cX10_deepestOf 95 = .ok (.aload_n 0, 1) := by decide +kernel
theorem dX10_deepestOf_96 : decode cX10_deepestOf 96 = .ok (.getfield 106, 3) := by decide +kernel
theorem dX10_deepestOf_99 : decode cX10_deepestOf 99 = .ok (.iload_n 2, 1) := by decide +kernel
theorem dX10_deepestOf_100 : decode cX10_deepestOf 100 = .ok (.iload 4, 2) := by decide +kernel
theorem dX10_deepestOf_102 : decode cX10_deepestOf 102 = .ok (.aload_n 0, 1) := by decide +kernel
theorem dX10_deepestOf_103 : decode cX10_deepestOf 103 = .ok (.getfield 106, 3) := by decide +kernel
theorem dX10_deepestOf_106 : decode cX10_deepestOf 106 = .ok (.iload_n 2, 1) := by decide +kernel
theorem dX10_deepestOf_107 : decode cX10_deepestOf 107 = .ok (.iaload, 1) := by decide +kernel
theorem dX10_deepestOf_108 : decode cX10_deepestOf 108 = .ok (.if_icmp .le 8, 3) := by decide +kernel
theorem dX10_deepestOf_111 : decode cX10_deepestOf 111 = .ok (.iload 4, 2) := by decide +kernel
theorem dX10_deepestOf_113 : decode cX10_deepestOf 113 = .ok (.goto 9, 3) := by decide +kernel
theorem dX10_deepestOf_116 : decode cX10_deepestOf 116 = .ok (.aload_n 0, 1) := by decide +kernel
theorem dX10_deepestOf_117 : decode cX10_deepestOf 117 = .ok (.getfield 106, 3) := by decide +kernel
theorem dX10_deepestOf_120 : decode cX10_deepestOf 120 = .ok (.iload_n 2, 1) := by decide +kernel
theorem dX10_deepestOf_121 : decode cX10_deepestOf 121 = .ok (.iaload, 1) := by decide +kernel
theorem dX10_deepestOf_122 : decode cX10_deepestOf 122 = .ok (.iastore, 1) := by decide +kernel
theorem dX10_deepestOf_123 : decode cX10_deepestOf 123 = .ok (.iinc 3 1, 3) := by decide +kernel
theorem dX10_deepestOf_126 : decode cX10_deepestOf 126 = .ok (.goto (-82), 3) := by decide +kernel
theorem dX10_deepestOf_129 : decode cX10_deepestOf 129 = .ok (.aload_n 0, 1) := by decide +kernel
theorem dX10_deepestOf_130 : decode cX10_deepestOf 130 = .ok (.getfield 106, 3) := by decide +kernel
theorem dX10_deepestOf_133 : decode cX10_deepestOf 133 = .ok (.iload_n 2, 1) := by decide +kernel
theorem dX10_deepestOf_134 : decode cX10_deepestOf 134 = .ok (.iaload, 1) := by decide +kernel
theorem dX10_deepestOf_135 : decode cX10_deepestOf 135 = .ok (.aload_n 0, 1) := by decide +kernel
theorem dX10_deepestOf_136 : decode cX10_deepestOf 136 = .ok (.getfield 235, 3) := by decide +kernel
theorem dX10_deepestOf_139 : decode cX10_deepestOf 139 = .ok (.if_icmp .lt 6, 3) := by decide +kernel
theorem dX10_deepestOf_142 : decode cX10_deepestOf 142 = .ok (.bipush (-6), 2) := by decide +kernel
theorem dX10_deepestOf_144 : decode cX10_deepestOf 144 = .ok (.ireturn, 1) := by decide +kernel
theorem dX10_deepestOf_145 : decode cX10_deepestOf 145 = .ok (.iinc 2 (-1), 3) := by decide +kernel
theorem dX10_deepestOf_148 : decode cX10_deepestOf 148 = .ok (.goto (-110), 3) := by decide +kernel
theorem dX10_deepestOf_151 : decode cX10_deepestOf 151 = .ok (.goto (-126), 3) := by decide +kernel
theorem dX10_deepestOf_154 : decode cX10_deepestOf 154 = .ok (.aload_n 0, 1) := by decide +kernel
theorem dX10_deepestOf_155 : decode cX10_deepestOf 155 = .ok (.getfield 106, 3) := by decide +kernel
theorem dX10_deepestOf_158 : decode cX10_deepestOf 158 = .ok (.iconst 0, 1) := by decide +kernel
theorem dX10_deepestOf_159 : decode cX10_deepestOf 159 = .ok (.iaload, 1) := by decide +kernel
theorem dX10_deepestOf_160 : decode cX10_deepestOf 160 = .ok (.ireturn, 1) := by decide +kernel
theorem dX10_contains_0 : decode cX10_contains 0 = .ok (.lload_n 1, 1) := by decide +kernel
theorem dX10_contains_1 : decode cX10_contains 1 = .ok (.invokestatic 204, 3) := by decide +kernel
theorem dX10_contains_4 : decode cX10_contains 4 = .ok (.istore 4, 2) := by decide +kernel
theorem dX10_contains_6 : decode cX10_contains 6 = .ok (.iconst 0, 1) := by decide +kernel
theorem dX10_contains_7 : decode cX10_contains 7 = .ok (.istore 5, 2) := by decide +kernel
theorem dX10_contains_9 : decode cX10_contains 9 = .ok (.iconst 0, 1) := by decide +kernel
theorem dX10_contains_10 : decode cX10_contains 10 = .ok (.istore 6, 2) := by decide +kernel
theorem dX10_contains_12 : decode cX10_contains 12 = .ok (.iload 6, 2) := by decide +kernel
theorem dX10_contains_14 : decode cX10_contains 14 = .ok (.iload 4, 2) := by decide +kernel
theorem dX10_contains_16 : decode cX10_contains 16 = .ok (.if_icmp .ge 34, 3) := by decide +kernel
theorem dX10_contains_19 : decode cX10_contains 19 = .ok (.iload 5, 2) := by decide +kernel
theorem dX10_contains_21 : decode cX10_contains 21 = .ok (.ifCond .ne 16, 3) := by decide +kernel
theorem dX10_contains_24 : decode cX10_contains 24 = .ok (.aload_n 0, 1) := by decide +kernel
theorem dX10_contains_25 : decode cX10_contains 25 = .ok (.lload_n 1, 1) := by decide +kernel
theorem dX10_contains_26 : decode cX10_contains 26 = .ok (.iload 4, 2) := by decide +kernel
theorem dX10_contains_28 : decode cX10_contains 28 = .ok (.iload_n 3, 1) := by decide +kernel
theorem dX10_contains_29 : decode cX10_contains 29 = .ok (.iload 6, 2) := by decide +kernel
theorem dX10_contains_31 : decode cX10_contains 31 = .ok (.invokevirtual 208, 3) := by decide +kernel
theorem dX10_contains_34 : decode cX10_contains 34 = .ok (.ifCond .eq 7, 3) := by decide +kernel
theorem dX10_contains_37 : decode cX10_contains 37 = .ok (.iconst 1, 1) := by decide +kernel
theorem dX10_contains_38 : decode cX10_contains 38 = .ok (.goto 4, 3) := by decide +kernel
theorem dX10_contains_41 : decode cX10_contains 41 = .ok (.iconst 0, 1) := by decide +kernel
theorem dX10_contains_42 : decode cX10_contains 42 = .ok (.istore 5, 2) := by decide +kernel
theorem dX10_contains_44 : decode cX10_contains 44 = .ok (.iinc 6 1, 3) := by decide +kernel
theorem dX10_contains_47 : decode cX10_contains 47 = .ok (.goto (-35), 3) := by decide +kernel
theorem dX10_contains_50 : decode cX10_contains 50 = .ok (.iload 5, 2) := by decide +kernel
theorem dX10_contains_52 : decode cX10_contains 52 = .ok (.ireturn, 1) := by decide +kernel
theorem dX10_findLoop_0 : decode cX10_findLoop 0 = .ok (.aload_n 0, 1) := by decide +kernel
theorem dX10_findLoop_1 : decode cX10_findLoop 1 = .ok (.iload_n 1, 1) := by decide +kernel
theorem dX10_findLoop_2 : decode cX10_findLoop 2 = .ok (.invokevirtual 152, 3) := by decide +kernel
theorem dX10_findLoop_5 : decode cX10_findLoop 5 = .ok (.ifCond .ne 6, 3) := by decide +kernel
theorem dX10_findLoop_8 : decode cX10_findLoop 8 = .ok (.bipush (-3), 2) := by decide +kernel
theorem dX10_findLoop_10 : decode cX10_findLoop 10 = .ok (.ireturn, 1) := by decide +kernel
theorem dX10_findLoop_11 : decode cX10_findLoop 11 = .ok (.aload_n 0, 1) := by decide +kernel
theorem dX10_findLoop_12 : decode cX10_findLoop 12 = .ok (.getfield 94, 3) := by decide +kernel
theorem dX10_findLoop_15 : decode cX10_findLoop 15 = .ok (.iconst 0, 1) := by decide +kernel
theorem dX10_findLoop_16 : decode cX10_findLoop 16 = .ok (.lconst 0, 1) := by decide +kernel
theorem dX10_findLoop_17 : decode cX10_findLoop 17 = .ok (.lastore, 1) := by decide +kernel
theorem dX10_findLoop_18 : decode cX10_findLoop 18 = .ok (.iconst 0, 1) := by decide +kernel
theorem dX10_findLoop_19 : decode cX10_findLoop 19 = .ok (.istore_n 2, 1) := by decide +kernel
theorem dX10_findLoop_20 : decode cX10_findLoop 20 = .ok (.iload_n 2, 1) := by decide +kernel
theorem dX10_findLoop_21 : decode cX10_findLoop 21 = .ok (.aload_n 0, 1) := by decide +kernel
theorem dX10_findLoop_22 : decode cX10_findLoop 22 = .ok (.getfield 15, 3) := by decide +kernel
theorem dX10_findLoop_25 : decode cX10_findLoop 25 = .ok (.iconst 2, 1) := by decide +kernel
theorem dX10_findLoop_26 : decode cX10_findLoop 26 = .ok (.iload_n 1, 1) := by decide +kernel
theorem dX10_findLoop_27 : decode cX10_findLoop 27 = .ok (.imul, 1) := by decide +kernel
theorem dX10_findLoop_28 : decode cX10_findLoop 28 = .ok (.iaload, 1) := by decide +kernel
theorem dX10_findLoop_29 : decode cX10_findLoop 29 = .ok (.if_icmp .ge 35, 3) := by decide +kernel
theorem dX10_findLoop_32 : decode cX10_findLoop 32 = .ok (.aload_n 0, 1) := by decide +kernel
theorem dX10_findLoop_33 : decode cX10_findLoop 33 = .ok (.getfield 94, 3) := by decide +kernel
theorem dX10_findLoop_36 : decode cX10_findLoop 36 = .ok (.iconst 0, 1) := by decide +kernel
theorem dX10_findLoop_37 : decode cX10_findLoop 37 = .ok (.aload_n 0, 1) := by decide +kernel
theorem dX10_findLoop_38 : decode cX10_findLoop 38 = .ok (.getfield 94, 3) := by decide +kernel
theorem dX10_findLoop_41 : decode cX10_findLoop 41 = .ok (.iconst 0, 1) := by decide +kernel
theorem dX10_findLoop_42 : decode cX10_findLoop 42 = .ok (.laload, 1) := by decide +kernel
theorem dX10_findLoop_43 : decode cX10_findLoop 43 = .ok (.aload_n 0, 1) := by decide +kernel
theorem dX10_findLoop_44 : decode cX10_findLoop 44 = .ok (.getfield 19, 3) := by decide +kernel
theorem dX10_findLoop_47 : decode cX10_findLoop 47 = .ok (.bipush 12, 2) := by decide +kernel
theorem dX10_findLoop_49 : decode cX10_findLoop 49 = .ok (.iload_n 1, 1) := by decide +kernel
theorem dX10_findLoop_50 : decode cX10_findLoop 50 = .ok (.imul, 1) := by decide +kernel
theorem dX10_findLoop_51 : decode cX10_findLoop 51 = .ok (.iload_n 2, 1) := by decide +kernel
theorem dX10_findLoop_52 : decode cX10_findLoop 52 = .ok (.iadd, 1) := by decide +kernel
theorem dX10_findLoop_53 : decode cX10_findLoop 53 = .ok (.iaload, 1) := by decide +kernel
theorem dX10_findLoop_54 : decode cX10_findLoop 54 = .ok (.invokestatic 214, 3) := by decide +kernel
theorem dX10_findLoop_57 : decode cX10_findLoop 57 = .ok (.lastore, 1) := by decide +kernel
theorem dX10_findLoop_58 : decode cX10_findLoop 58 = .ok (.iinc 2 1, 3) := by decide +kernel
theorem dX10_findLoop_61 : decode cX10_findLoop 61 = .ok (.goto (-41), 3) := by decide +kernel
theorem dX10_findLoop_64 : decode cX10_findLoop 64 = .ok (.aload_n 0, 1) := by decide +kernel
theorem dX10_findLoop_65 : decode cX10_findLoop 65 = .ok (.iconst 1, 1) := by decide +kernel
theorem dX10_findLoop_66 : decode cX10_findLoop 66 = .ok (.putfield 235, 3) := by decide +kernel
theorem dX10_findLoop_69 : decode cX10_findLoop 69 = .ok (.iconst 0, 1) := by decide +kernel
theorem dX10_findLoop_70 : decode cX10_findLoop 70 = .ok (.istore_n 2, 1) := by decide +kernel
theorem dX10_findLoop_71 : decode cX10_findLoop 71 = .ok (.iload_n 2, 1) := by decide +kernel
theorem dX10_findLoop_72 : decode cX10_findLoop 72 = .ok (.aload_n 0, 1) := by decide +kernel
theorem dX10_findLoop_73 : decode cX10_findLoop 73 = .ok (.getfield 235, 3) := by decide +kernel
theorem dX10_findLoop_76 : decode cX10_findLoop 76 = .ok (.if_icmp .ge 183, 3) := by decide +kernel
theorem dX10_findLoop_79 : decode cX10_findLoop 79 = .ok (.aload_n 0, 1) := by decide +kernel
theorem dX10_findLoop_80 : decode cX10_findLoop 80 = .ok (.getfield 94, 3) := by decide +kernel
theorem dX10_findLoop_83 : decode cX10_findLoop 83 = .ok (.iload_n 2, 1) := by decide +kernel
theorem dX10_findLoop_84 : decode cX10_findLoop 84 = .ok (.laload, 1) := by decide +kernel
theorem dX10_findLoop_85 : decode cX10_findLoop 85 = .ok (.invokestatic 204, 3) := by decide +kernel
theorem dX10_findLoop_88 : decode cX10_findLoop 88 = .ok (.istore_n 3, 1) := by decide +kernel
theorem dX10_findLoop_89 : decode cX10_findLoop 89 = .ok (.iconst 0, 1) := by decide +kernel
theorem dX10_findLoop_90 : decode cX10_findLoop 90 = .ok (.istore 4, 2) := by decide +kernel
theorem dX10_findLoop_92 : decode cX10_findLoop 92 = .ok (.iload 4, 2) := by decide +kernel
theorem dX10_findLoop_94 : decode cX10_findLoop 94 = .ok (.iload_n 3, 1) := by decide +kernel
theorem dX10_findLoop_95 : decode cX10_findLoop 95 = .ok (.if_icmp .ge 158, 3) := by decide +kernel
theorem dX10_findLoop_98 : decode cX10_findLoop 98 = .ok (.iconst 0, 1) := by decide +kernel
theorem dX10_findLoop_99 : decode cX10_findLoop 99 = .ok (.istore 5, 2) := by decide +kernel
theorem dX10_findLoop_101 : decode cX10_findLoop 101 = .ok (.iload 5, 2) := by decide +kernel
theorem dX10_findLoop_103 : decode cX10_findLoop 103 = .ok (.aload_n 0, 1) := by decide +kernel
theorem dX10_findLoop_104 : decode cX10_findLoop 104 = .ok (.getfield 119, 3) := by decide +kernel
theorem dX10_findLoop_107 : decode cX10_findLoop 107 = .ok (.if_icmp .ge 140, 3) := by decide +kernel
theorem dX10_findLoop_110 : decode cX10_findLoop 110 = .ok (.aload_n 0, 1) := by decide +kernel
theorem dX10_findLoop_111 : decode cX10_findLoop 111 = .ok (.aload_n 0, 1) := by decide +kernel
theorem dX10_findLoop_112 : decode cX10_findLoop 112 = .ok (.getfield 94, 3) := by decide +kernel
theorem dX10_findLoop_115 : decode cX10_findLoop 115 = .ok (.iload_n 2, 1) := by decide +kernel
theorem dX10_findLoop_116 : decode cX10_findLoop 116 = .ok (.laload, 1) := by decide +kernel
theorem dX10_findLoop_117 : decode cX10_findLoop 117 = .ok (.iload 5, 2) := by decide +kernel
theorem dX10_findLoop_119 : decode cX10_findLoop 119 = .ok (.iload 4, 2) := by decide +kernel
theorem dX10_findLoop_121 : decode cX10_findLoop 121 = .ok (.invokevirtual 222, 3) := by decide +kernel
theorem dX10_findLoop_124 : decode cX10_findLoop 124 = .ok (.lstore 6, 2) := by decide +kernel
theorem dX10_findLoop_126 : decode cX10_findLoop 126 = .ok (.lload 6, 2) := by decide +kernel
theorem dX10_findLoop_128 : decode cX10_findLoop 128 = .ok (.ldc2_w 212, 3) := by decide +kernel
theorem dX10_findLoop_131 : decode cX10_findLoop 131 = .ok (.lcmp, 1) := by decide +kernel
theorem dX10_findLoop_132 : decode cX10_findLoop 132 = .ok (.ifCond .eq 23, 3) := by decide +kernel
theorem dX10_findLoop_135 : decode cX10_findLoop 135 = .ok (.aload_n 0, 1) := by decide +kernel
theorem dX10_findLoop_136 : decode cX10_findLoop 136 = .ok (.lload 6, 2) := by decide +kernel
theorem dX10_findLoop_138 : decode cX10_findLoop 138 = .ok (.iload_n 1, 1) := by decide +kernel
theorem dX10_findLoop_139 : decode cX10_findLoop 139 = .ok (.invokevirtual 244, 3) := by decide +kernel
theorem dX10_findLoop_142 : decode cX10_findLoop 142 = .ok (.ifCond .eq 13, 3) := by decide +kernel
theorem dX10_findLoop_145 : decode cX10_findLoop 145 = .ok (.aload_n 0, 1) := by decide +kernel
theorem dX10_findLoop_146 : decode cX10_findLoop 146 = .ok (.iload_n 2, 1) := by decide +kernel
theorem dX10_findLoop_147 : decode cX10_findLoop 147 = .ok (.iload 5, 2) := by decide +kernel
theorem dX10_findLoop_149 : decode cX10_findLoop 149 = .ok (.iload 4, 2) := by decide +kernel
theorem dX10_findLoop_151 : decode cX10_findLoop 151 = .ok (.invokevirtual 248, 3) := by decide +kernel
theorem dX10_findLoop_154 : decode cX10_findLoop 154 = .ok (.ireturn, 1) := by decide +kernel
theorem dX10_findLoop_155 : decode cX10_findLoop 155 = .ok (.lload 6, 2) := by decide +kernel
theorem dX10_findLoop_157 : decode cX10_findLoop 157 = .ok (.ldc2_w 212, 3) := by decide +kernel
theorem dX10_findLoop_160 : decode cX10_findLoop 160 = .ok (.lcmp, 1) := by decide +kernel
theorem dX10_findLoop_161 : decode cX10_findLoop 161 = .ok (.ifCond .ne 7, 3) := by decide +kernel
theorem dX10_findLoop_164 : decode cX10_findLoop 164 = .ok (.iconst (-1), 1) := by decide +kernel
theorem dX10_findLoop_165 : decode cX10_findLoop 165 = .ok (.goto 9, 3) := by decide +kernel
theorem dX10_findLoop_168 : decode cX10_findLoop 168 = .ok (.aload_n 0, 1) := by decide +kernel
theorem dX10_findLoop_169 : decode cX10_findLoop 169 = .ok (.lload 6, 2) := by decide +kernel
theorem dX10_findLoop_171 : decode cX10_findLoop 171 = .ok (.invokevirtual 238, 3) := by decide +kernel
theorem dX10_findLoop_174 : decode cX10_findLoop 174 = .ok (.istore 8, 2) := by decide +kernel
theorem dX10_findLoop_176 : decode cX10_findLoop 176 = .ok (.iload 8, 2) := by decide +kernel
theorem dX10_findLoop_178 : decode cX10_findLoop 178 = .ok (.sipush 200, 3) := by decide +kernel
theorem dX10_findLoop_181 : decode cX10_findLoop 181 = .ok (.if_icmp .ne 6, 3) := by decide +kernel
theorem dX10_findLoop_184 : decode cX10_findLoop 184 = .ok (.bipush (-7), 2) := by decide +kernel
theorem dX10_findLoop_186 : decode cX10_findLoop 186 = .ok (.ireturn, 1) := by decide +kernel
theorem dX10_findLoop_187 : decode cX10_findLoop 187 = .ok (.iload 8, 2) := by decide +kernel
theorem dX10_findLoop_189 : decode cX10_findLoop 189 = .ok (.aload_n 0, 1) := by decide +kernel
theorem dX10_findLoop_190 : decode cX10_findLoop 190 = .ok (.getfield 235, 3) := by decide +kernel
theorem dX10_findLoop_193 : decode cX10_findLoop 193 = .ok (.if_icmp .ne 48, 3) := by decide +kernel
theorem dX10_findLoop_196 : decode cX10_findLoop 196 = .ok (.aload_n 0, 1) := by decide +kernel
theorem dX10_findLoop_197 : decode cX10_findLoop 197 = .ok (.getfield 94, 3) := by decide +kernel
theorem dX10_findLoop_200 : decode cX10_findLoop 200 = .ok (.iload 8, 2) := by decide +kernel
theorem dX10_findLoop_202 : decode cX10_findLoop 202 = .ok (.lload 6, 2) := by decide +kernel
theorem dX10_findLoop_204 : decode cX10_findLoop 204 = .ok (.lastore, 1) := by decide +kernel
theorem dX10_findLoop_205 : decode cX10_findLoop 205 = .ok (.aload_n 0, 1) := by decide +kernel
theorem dX10_findLoop_206 : decode cX10_findLoop 206 = .ok (.getfield 97, 3) := by decide +kernel
theorem dX10_findLoop_209 : decode cX10_findLoop 209 = .ok (.iload 8, 2) := by decide +kernel
theorem dX10_findLoop_211 : decode cX10_findLoop 211 = .ok (.iload_n 2, 1) := by decide +kernel
theorem dX10_findLoop_212 : decode cX10_findLoop 212 = .ok (.iastore, 1) := by decide +kernel
theorem dX10_findLoop_213 : decode cX10_findLoop 213 = .ok (.aload_n 0, 1) := by decide +kernel
theorem dX10_findLoop_214 : decode cX10_findLoop 214 = .ok (.getfield 100, 3) := by decide +kernel
theorem dX10_findLoop_217 : decode cX10_findLoop 217 = .ok (.iload 8, 2) := by decide +kernel
theorem dX10_findLoop_219 : decode cX10_findLoop 219 = .ok (.iload 5, 2) := by decide +kernel
theorem dX10_findLoop_221 : decode cX10_findLoop 221 = .ok (.iastore, 1) := by decide +kernel
theorem dX10_findLoop_222 : decode cX10_findLoop 222 = .ok (.aload_n 0, 1) := by decide +kernel
theorem dX10_findLoop_223 : decode cX10_findLoop 223 = .ok (.getfield 103, 3) := by decide +kernel
theorem dX10_findLoop_226 : decode cX10_findLoop 226 = .ok (.iload 8, 2) := by decide +kernel
theorem dX10_findLoop_228 : decode cX10_findLoop 228 = .ok (.iload 4, 2) := by decide +kernel
theorem dX10_findLoop_230 : decode cX10_findLoop 230 = .ok (.iastore, 1) := by decide +kernel
theorem dX10_findLoop_231 : decode cX10_findLoop 231 = .ok (.aload_n 0, 1) := by decide +kernel
theorem dX10_findLoop_232 : decode cX10_findLoop 232 = .ok (.dup, 1) := by decide +kernel
theorem dX10_findLoop_233 : decode cX10_findLoop 233 = .ok (.getfield 235, 3) := by decide +kernel
theorem dX10_findLoop_236 : decode cX10_findLoop 236 = .ok (.iconst 1, 1) := by decide +kernel
theorem dX10_findLoop_237 : decode cX10_findLoop 237 = .ok (.iadd, 1) := by decide +kernel
theorem dX10_findLoop_238 : decode cX10_findLoop 238 = .ok (.putfield 235, 3) := by decide +kernel
theorem dX10_findLoop_241 : decode cX10_findLoop 241 = .ok (.iinc 5 1, 3) := by decide +kernel
theorem dX10_findLoop_244 : decode cX10_findLoop 244 = .ok (.goto (-143), 3) := by decide +kernel
theorem dX10_findLoop_247 : decode cX10_findLoop 247 = .ok (.iinc 4 1, 3) := by decide +kernel
theorem dX10_findLoop_250 : decode cX10_findLoop 250 = .ok (.goto (-158), 3) := by decide +kernel
theorem dX10_findLoop_253 : decode cX10_findLoop 253 = .ok (.iinc 2 1, 3) := by decide +kernel
theorem dX10_findLoop_256 : decode cX10_findLoop 256 = .ok (.goto (-185), 3) := by decide +kernel
theorem dX10_findLoop_259 : decode cX10_findLoop 259 = .ok (.bipush (-6), 2) := by decide +kernel
theorem dX10_findLoop_261 : decode cX10_findLoop 261 = .ok (.ireturn, 1) := by decide +kernel
theorem dX10_loops_0 : decode cX10_loops 0 = .ok (.aload_n 0, 1) := by decide +kernel
theorem dX10_loops_1 : decode cX10_loops 1 = .ok (.iconst 1, 1) := by decide +kernel
theorem dX10_loops_2 : decode cX10_loops 2 = .ok (.putfield 127, 3) := by decide +kernel
theorem dX10_loops_5 : decode cX10_loops 5 = .ok (.iload_n 1, 1) := by decide +kernel
theorem dX10_loops_6 : decode cX10_loops 6 = .ok (.istore 4, 2) := by decide +kernel
theorem dX10_loops_8 : decode cX10_loops 8 = .ok (.iload 4, 2) := by decide +kernel
theorem dX10_loops_10 : decode cX10_loops 10 = .ok (.ifCond .eq 25, 3) := by decide +kernel
theorem dX10_loops_13 : decode cX10_loops 13 = .ok (.aload_n 0, 1) := by decide +kernel
theorem dX10_loops_14 : decode cX10_loops 14 = .ok (.dup, 1) := by decide +kernel
theorem dX10_loops_15 : decode cX10_loops 15 = .ok (.getfield 127, 3) := by decide +kernel
theorem dX10_loops_18 : decode cX10_loops 18 = .ok (.iconst 1, 1) := by decide +kernel
theorem dX10_loops_19 : decode cX10_loops 19 = .ok (.iadd, 1) := by decide +kernel
theorem dX10_loops_20 : decode cX10_loops 20 = .ok (.putfield 127, 3) := by decide +kernel
theorem dX10_loops_23 : decode cX10_loops 23 = .ok (.aload_n 0, 1) := by decide +kernel
theorem dX10_loops_24 : decode cX10_loops 24 = .ok (.getfield 97, 3) := by decide +kernel
theorem dX10_loops_27 : decode cX10_loops 27 = .ok (.iload 4, 2) := by decide +kernel
theorem dX10_loops_29 : decode cX10_loops 29 = .ok (.iaload, 1) := by decide +kernel
theorem dX10_loops_30 : decode cX10_loops 30 = .ok (.istore 4, 2) := by decide +kernel
theorem dX10_loops_32 : decode cX10_loops 32 = .ok (.goto (-24), 3) := by decide +kernel
theorem dX10_loops_35 : decode cX10_loops 35 = .ok (.aload_n 0, 1) := by decide +kernel
theorem dX10_loops_36 : decode cX10_loops 36 = .ok (.getfield 38, 3) := by decide +kernel
theorem dX10_loops_39 : decode cX10_loops 39 = .ok (.aload_n 0, 1) := by decide +kernel
theorem dX10_loops_40 : decode cX10_loops 40 = .ok (.getfield 127, 3) := by decide +kernel
theorem dX10_loops_43 : decode cX10_loops 43 = .ok (.iconst 1, 1) := by decide +kernel
theorem dX10_loops_44 : decode cX10_loops 44 = .ok (.isub, 1) := by decide +kernel
theorem dX10_loops_45 : decode cX10_loops 45 = .ok (.iload_n 2, 1) := by decide +kernel
theorem dX10_loops_46 : decode cX10_loops 46 = .ok (.iastore, 1) := by decide +kernel
theorem dX10_loops_47 : decode cX10_loops 47 = .ok (.aload_n 0, 1) := by decide +kernel
theorem dX10_loops_48 : decode cX10_loops 48 = .ok (.getfield 41, 3) := by decide +kernel
theorem dX10_loops_51 : decode cX10_loops 51 = .ok (.aload_n 0, 1) := by decide +kernel
theorem dX10_loops_52 : decode cX10_loops 52 = .ok (.getfield 127, 3) := by decide +kernel
theorem dX10_loops_55 : decode cX10_loops 55 = .ok (.iconst 1, 1) := by decide +kernel
theorem dX10_loops_56 : decode cX10_loops 56 = .ok (.isub, 1) := by decide +kernel
theorem dX10_loops_57 : decode cX10_loops 57 = .ok (.iload_n 3, 1) := by decide +kernel
theorem dX10_loops_58 : decode cX10_loops 58 = .ok (.iastore, 1) := by decide +kernel
theorem dX10_loops_59 : decode cX10_loops 59 = .ok (.aload_n 0, 1) := by decide +kernel
theorem dX10_loops_60 : decode cX10_loops 60 = .ok (.getfield 127, 3) := by decide +kernel
theorem dX10_loops_63 : decode cX10_loops 63 = .ok (.iconst 2, 1) := by decide +kernel
theorem dX10_loops_64 : decode cX10_loops 64 = .ok (.isub, 1) := by decide +kernel
theorem dX10_loops_65 : decode cX10_loops 65 = .ok (.istore 4, 2) := by decide +kernel
theorem dX10_loops_67 : decode cX10_loops 67 = .ok (.iload_n 1, 1) := by decide +kernel
theorem dX10_loops_68 : decode cX10_loops 68 = .ok (.istore 5, 2) := by decide +kernel
theorem dX10_loops_70 : decode cX10_loops 70 = .ok (.iload 5, 2) := by decide +kernel
theorem dX10_loops_72 : decode cX10_loops 72 = .ok (.ifCond .eq 46, 3) := by decide +kernel
theorem dX10_loops_75 : decode cX10_loops 75 = .ok (.aload_n 0, 1) := by decide +kernel
theorem dX10_loops_76 : decode cX10_loops 76 = .ok (.getfield 38, 3) := by decide +kernel
theorem dX10_loops_79 : decode cX10_loops 79 = .ok (.iload 4, 2) := by decide +kernel
theorem dX10_loops_81 : decode cX10_loops 81 = .ok (.aload_n 0, 1) := by decide +kernel
theorem dX10_loops_82 : decode cX10_loops 82 = .ok (.getfield 100, 3) := by decide +kernel
theorem dX10_loops_85 : decode cX10_loops 85 = .ok (.iload 5, 2) := by decide +kernel
theorem dX10_loops_87 : decode cX10_loops 87 = .ok (.iaload, 1) := by decide +kernel
theorem dX10_loops_88 : decode cX10_loops 88 = .ok (.iastore, 1) := by decide +kernel
theorem dX10_loops_89 : decode cX10_loops 89 = .ok (.aload_n 0, 1) := by decide +kernel
theorem dX10_loops_90 : decode cX10_loops 90 = .ok (.getfield 41, 3) := by decide +kernel
theorem dX10_loops_93 : decode cX10_loops 93 = .ok (.iload 4, 2) := by decide +kernel
theorem dX10_loops_95 : decode cX10_loops 95 = .ok (.aload_n 0, 1) := by decide +kernel
theorem dX10_loops_96 : decode cX10_loops 96 = .ok (.getfield 103, 3) := by decide +kernel
theorem dX10_loops_99 : decode cX10_loops 99 = .ok (.iload 5, 2) := by decide +kernel
theorem dX10_loops_101 : decode cX10_loops 101 = .ok (.iaload, 1) := by decide +kernel
theorem dX10_loops_102 : decode cX10_loops 102 = .ok (.iastore, 1) := by decide +kernel
theorem dX10_loops_103 : decode cX10_loops 103 = .ok (.iinc 4 (-1), 3) := by decide +kernel
theorem dX10_loops_106 : decode cX10_loops 106 = .ok (.aload_n 0, 1) := by decide +kernel
theorem dX10_loops_107 : decode cX10_loops 107 = .ok (.getfield 97, 3) := by decide +kernel
theorem dX10_loops_110 : decode cX10_loops 110 = .ok (.iload 5, 2) := by decide +kernel
theorem dX10_loops_112 : decode cX10_loops 112 = .ok (.iaload, 1) := by decide +kernel
theorem dX10_loops_113 : decode cX10_loops 113 = .ok (.istore 5, 2) := by decide +kernel
theorem dX10_loops_115 : decode cX10_loops 115 = .ok (.goto (-45), 3) := by decide +kernel
theorem dX10_loops_118 : decode cX10_loops 118 = .ok (.aload_n 0, 1) := by decide +kernel
theorem dX10_loops_119 : decode cX10_loops 119 = .ok (.getfield 127, 3) := by decide +kernel
theorem dX10_loops_122 : decode cX10_loops 122 = .ok (.ireturn, 1) := by decide +kernel
theorem dX10_loopStep_0 : decode cX10_loopStep 0 = .ok (.iload_n 2, 1) := by decide +kernel
theorem dX10_loopStep_1 : decode cX10_loopStep 1 = .ok (.i2l, 1) := by decide +kernel
theorem dX10_loopStep_2 : decode cX10_loopStep 2 = .ok (.lconst 0, 1) := by decide +kernel
theorem dX10_loopStep_3 : decode cX10_loopStep 3 = .ok (.lconst 1, 1) := by decide +kernel
theorem dX10_loopStep_4 : decode cX10_loopStep 4 = .ok (.invokestatic 115, 3) := by decide +kernel
theorem dX10_loopStep_7 : decode cX10_loopStep 7 = .ok (.ifCond .ne 5, 3) := by decide +kernel
theorem dX10_loopStep_10 : decode cX10_loopStep 10 = .ok (.iconst (-1), 1) := by decide +kernel
theorem dX10_loopStep_11 : decode cX10_loopStep 11 = .ok (.ireturn, 1) := by decide +kernel
theorem dX10_loopStep_12 : decode cX10_loopStep 12 = .ok (.iload_n 1, 1) := by decide +kernel
theorem dX10_loopStep_13 : decode cX10_loopStep 13 = .ok (.i2l, 1) := by decide +kernel
theorem dX10_loopStep_14 : decode cX10_loopStep 14 = .ok (.lconst 0, 1) := by decide +kernel
theorem dX10_loopStep_15 : decode cX10_loopStep 15 = .ok (.aload_n 0, 1) := by decide +kernel
theorem dX10_loopStep_16 : decode cX10_loopStep 16 = .ok (.getfield 127, 3) := by decide +kernel
theorem dX10_loopStep_19 : decode cX10_loopStep 19 = .ok (.iconst 1, 1) := by decide +kernel
theorem dX10_loopStep_20 : decode cX10_loopStep 20 = .ok (.isub, 1) := by decide +kernel
theorem dX10_loopStep_21 : decode cX10_loopStep 21 = .ok (.i2l, 1) := by decide +kernel
theorem dX10_loopStep_22 : decode cX10_loopStep 22 = .ok (.invokestatic 115, 3) := by decide +kernel
theorem dX10_loopStep_25 : decode cX10_loopStep 25 = .ok (.ifCond .eq 25, 3) := by decide +kernel
theorem dX10_loopStep_28 : decode cX10_loopStep 28 = .ok (.iload_n 2, 1) := by decide +kernel
theorem dX10_loopStep_29 : decode cX10_loopStep 29 = .ok (.ifCond .ne 12, 3) := by decide +kernel
theorem dX10_loopStep_32 : decode cX10_loopStep 32 = .ok (.aload_n 0, 1) := by decide +kernel
theorem dX10_loopStep_33 : decode cX10_loopStep 33 = .ok (.getfield 38, 3) := by decide +kernel
theorem dX10_loopStep_36 : decode cX10_loopStep 36 = .ok (.iload_n 1, 1) := by decide +kernel
theorem dX10_loopStep_37 : decode cX10_loopStep 37 = .ok (.iaload, 1) := by decide +kernel
theorem dX10_loopStep_38 : decode cX10_loopStep 38 = .ok (.goto 14, 3) := by decide +kernel
theorem dX10_loopStep_41 : decode cX10_loopStep 41 = .ok (.aload_n 0, 1) := by decide +kernel
theorem dX10_loopStep_42 : decode cX10_loopStep 42 = .ok (.getfield 41, 3) := by decide +kernel
theorem dX10_loopStep_45 : decode cX10_loopStep 45 = .ok (.iload_n 1, 1) := by decide +kernel
theorem dX10_loopStep_46 : decode cX10_loopStep 46 = .ok (.iaload, 1) := by decide +kernel
theorem dX10_loopStep_47 : decode cX10_loopStep 47 = .ok (.goto 5, 3) := by decide +kernel
theorem dX10_loopStep_50 : decode cX10_loopStep 50 = .ok (.bipush (-6), 2) := by decide +kernel
theorem dX10_loopStep_52 : decode cX10_loopStep 52 = .ok (.ireturn, 1) := by decide +kernel
theorem dX10_marginOf_0 : decode cX10_marginOf 0 = .ok (.fconst 0, 1) := by decide +kernel
theorem dX10_marginOf_1 : decode cX10_marginOf 1 = .ok (.fstore_n 2, 1) := by decide +kernel
theorem dX10_marginOf_2 : decode cX10_marginOf 2 = .ok (.iconst 0, 1) := by decide +kernel
theorem dX10_marginOf_3 : decode cX10_marginOf 3 = .ok (.istore_n 3, 1) := by decide +kernel
theorem dX10_marginOf_4 : decode cX10_marginOf 4 = .ok (.iload_n 3, 1) := by decide +kernel
theorem dX10_marginOf_5 : decode cX10_marginOf 5 = .ok (.aload_n 0, 1) := by decide +kernel
theorem dX10_marginOf_6 : decode cX10_marginOf 6 = .ok (.getfield 9, 3) := by decide +kernel
theorem dX10_marginOf_9 : decode cX10_marginOf 9 = .ok (.if_icmp .ge 26, 3) := by decide +kernel
theorem dX10_marginOf_12 : decode cX10_marginOf 12 = .ok (.fload_n 2, 1) := by decide +kernel
theorem dX10_marginOf_13 : decode cX10_marginOf 13 = .ok (.aload_n 0, 1) := by decide +kernel
theorem dX10_marginOf_14 : decode cX10_marginOf 14 = .ok (.iload_n 1, 1) := by decide +kernel
theorem dX10_marginOf_15 : decode cX10_marginOf 15 = .ok (.iload_n 3, 1) := by decide +kernel
theorem dX10_marginOf_16 : decode cX10_marginOf 16 = .ok (.invokevirtual 159, 3) := by decide +kernel
theorem dX10_marginOf_19 : decode cX10_marginOf 19 = .ok (.i2f, 1) := by decide +kernel
theorem dX10_marginOf_20 : decode cX10_marginOf 20 = .ok (.aload_n 0, 1) := by decide +kernel
theorem dX10_marginOf_21 : decode cX10_marginOf 21 = .ok (.getfield 28, 3) := by decide +kernel
theorem dX10_marginOf_24 : decode cX10_marginOf 24 = .ok (.iload_n 3, 1) := by decide +kernel
theorem dX10_marginOf_25 : decode cX10_marginOf 25 = .ok (.faload, 1) := by decide +kernel
theorem dX10_marginOf_26 : decode cX10_marginOf 26 = .ok (.fmul, 1) := by decide +kernel
theorem dX10_marginOf_27 : decode cX10_marginOf 27 = .ok (.fadd, 1) := by decide +kernel
theorem dX10_marginOf_28 : decode cX10_marginOf 28 = .ok (.fstore_n 2, 1) := by decide +kernel
theorem dX10_marginOf_29 : decode cX10_marginOf 29 = .ok (.iinc 3 1, 3) := by decide +kernel
theorem dX10_marginOf_32 : decode cX10_marginOf 32 = .ok (.goto (-28), 3) := by decide +kernel
theorem dX10_marginOf_35 : decode cX10_marginOf 35 = .ok (.fload_n 2, 1) := by decide +kernel
theorem dX10_marginOf_36 : decode cX10_marginOf 36 = .ok (.freturn, 1) := by decide +kernel
theorem dX10_improve_0 : decode cX10_improve 0 = .ok (.iload_n 1, 1) := by decide +kernel
theorem dX10_improve_1 : decode cX10_improve 1 = .ok (.i2l, 1) := by decide +kernel
theorem dX10_improve_2 : decode cX10_improve 2 = .ok (.lconst 1, 1) := by decide +kernel
theorem dX10_improve_3 : decode cX10_improve 3 = .ok (.ldc2_w 251, 3) := by decide +kernel
theorem dX10_improve_6 : decode cX10_improve 6 = .ok (.invokestatic 115, 3) := by decide +kernel
theorem dX10_improve_9 : decode cX10_improve 9 = .ok (.ifCond .ne 5, 3) := by decide +kernel
theorem dX10_improve_12 : decode cX10_improve 12 = .ok (.iconst (-1), 1) := by decide +kernel
theorem dX10_improve_13 : decode cX10_improve 13 = .ok (.ireturn, 1) := by decide +kernel
theorem dX10_improve_14 : decode cX10_improve 14 = .ok (.iconst 0, 1) := by decide +kernel
theorem dX10_improve_15 : decode cX10_improve 15 = .ok (.istore_n 2, 1) := by decide +kernel
theorem dX10_improve_16 : decode cX10_improve 16 = .ok (.iload_n 2, 1) := by decide +kernel
theorem dX10_improve_17 : decode cX10_improve 17 = .ok (.iload_n 1, 1) := by decide +kernel
theorem dX10_improve_18 : decode cX10_improve 18 = .ok (.if_icmp .ge 97, 3) := by decide +kernel
theorem dX10_improve_21 : decode cX10_improve 21 = .ok (.iconst 0, 1) := by decide +kernel
theorem dX10_improve_22 : decode cX10_improve 22 = .ok (.istore_n 3, 1) := by decide +kernel
theorem dX10_improve_23 : decode cX10_improve 23 = .ok (.iload_n 3, 1) := by decide +kernel
theorem dX10_improve_24 : decode cX10_improve 24 = .ok (.aload_n 0, 1) := by decide +kernel
theorem dX10_improve_25 : decode cX10_improve 25 = .ok (.getfield 119, 3) := by decide +kernel
theorem dX10_improve_28 : decode cX10_improve 28 = .ok (.if_icmp .ge 81, 3) := by decide +kernel
theorem dX10_improve_31 : decode cX10_improve 31 = .ok (.aload_n 0, 1) := by decide +kernel
theorem dX10_improve_32 : decode cX10_improve 32 = .ok (.iload_n 3, 1) := by decide +kernel
theorem dX10_improve_33 : decode cX10_improve 33 = .ok (.invokevirtual 253, 3) := by decide +kernel
theorem dX10_improve_36 : decode cX10_improve 36 = .ok (.ldc_w 257, 3) := by decide +kernel
theorem dX10_improve_39 : decode cX10_improve 39 = .ok (.fcmp .g, 1) := by decide +kernel
theorem dX10_improve_40 : decode cX10_improve 40 = .ok (.ifCond .ge 63, 3) := by decide +kernel
theorem dX10_improve_43 : decode cX10_improve 43 = .ok (.iconst 0, 1) := by decide +kernel
theorem dX10_improve_44 : decode cX10_improve 44 = .ok (.istore 4, 2) := by decide +kernel
theorem dX10_improve_46 : decode cX10_improve 46 = .ok (.iload 4, 2) := by decide +kernel
theorem dX10_improve_48 : decode cX10_improve 48 = .ok (.aload_n 0, 1) := by decide +kernel
theorem dX10_improve_49 : decode cX10_improve 49 = .ok (.getfield 9, 3) := by decide +kernel
theorem dX10_improve_52 : decode cX10_improve 52 = .ok (.if_icmp .ge 51, 3) := by decide +kernel
theorem dX10_improve_55 : decode cX10_improve 55 = .ok (.aload_n 0, 1) := by decide +kernel
theorem dX10_improve_56 : decode cX10_improve 56 = .ok (.getfield 28, 3) := by decide +kernel
theorem dX10_improve_59 : decode cX10_improve 59 = .ok (.iload 4, 2) := by decide +kernel
theorem dX10_improve_61 : decode cX10_improve 61 = .ok (.faload, 1) := by decide +kernel
theorem dX10_improve_62 : decode cX10_improve 62 = .ok (.aload_n 0, 1) := by decide +kernel
theorem dX10_improve_63 : decode cX10_improve 63 = .ok (.iload_n 3, 1) := by decide +kernel
theorem dX10_improve_64 : decode cX10_improve 64 = .ok (.iload 4, 2) := by decide +kernel
theorem dX10_improve_66 : decode cX10_improve 66 = .ok (.invokevirtual 159, 3) := by decide +kernel
theorem dX10_improve_69 : decode cX10_improve 69 = .ok (.i2f, 1) := by decide +kernel
theorem dX10_improve_70 : decode cX10_improve 70 = .ok (.ldc_w 258, 3) := by decide +kernel
theorem dX10_improve_73 : decode cX10_improve 73 = .ok (.fmul, 1) := by decide +kernel
theorem dX10_improve_74 : decode cX10_improve 74 = .ok (.fadd, 1) := by decide +kernel
theorem dX10_improve_75 : decode cX10_improve 75 = .ok (.fstore 5, 2) := by decide +kernel
theorem dX10_improve_77 : decode cX10_improve 77 = .ok (.aload_n 0, 1) := by decide +kernel
theorem dX10_improve_78 : decode cX10_improve 78 = .ok (.getfield 28, 3) := by decide +kernel
theorem dX10_improve_81 : decode cX10_improve 81 = .ok (.iload 4, 2) := by decide +kernel
theorem dX10_improve_83 : decode cX10_improve 83 = .ok (.fload 5, 2) := by decide +kernel
theorem dX10_improve_85 : decode cX10_improve 85 = .ok (.fconst 0, 1) := by decide +kernel
theorem dX10_improve_86 : decode cX10_improve 86 = .ok (.fcmp .g, 1) := by decide +kernel
theorem dX10_improve_87 : decode cX10_improve 87 = .ok (.ifCond .ge 7, 3) := by decide +kernel
theorem dX10_improve_90 : decode cX10_improve 90 = .ok (.fconst 0, 1) := by decide +kernel
theorem dX10_improve_91 : decode cX10_improve 91 = .ok (.goto 5, 3) := by decide +kernel
theorem dX10_improve_94 : decode cX10_improve 94 = .ok (.fload 5, 2) := by decide +kernel
theorem dX10_improve_96 : decode cX10_improve 96 = .ok (.fastore, 1) := by decide +kernel
theorem dX10_improve_97 : decode cX10_improve 97 = .ok (.iinc 4 1, 3) := by decide +kernel
theorem dX10_improve_100 : decode cX10_improve 100 = .ok (.goto (-54), 3) := by decide +kernel
theorem dX10_improve_103 : decode cX10_improve 103 = .ok (.iinc 3 1, 3) := by decide +kernel
theorem dX10_improve_106 : decode cX10_improve 106 = .ok (.goto (-83), 3) := by decide +kernel
theorem dX10_improve_109 : decode cX10_improve 109 = .ok (.iinc 2 1, 3) := by decide +kernel
theorem dX10_improve_112 : decode cX10_improve 112 = .ok (.goto (-96), 3) := by decide +kernel
theorem dX10_improve_115 : decode cX10_improve 115 = .ok (.iconst 0, 1) := by decide +kernel
theorem dX10_improve_116 : decode cX10_improve 116 = .ok (.istore_n 2, 1) := by decide +kernel
theorem dX10_improve_117 : decode cX10_improve 117 = .ok (.iconst 0, 1) := by decide +kernel
theorem dX10_improve_118 : decode cX10_improve 118 = .ok (.istore_n 3, 1) := by decide +kernel
theorem dX10_improve_119 : decode cX10_improve 119 = .ok (.iload_n 3, 1) := by decide +kernel
theorem dX10_improve_120 : decode cX10_improve 120 = .ok (.aload_n 0, 1) := by decide +kernel
theorem dX10_improve_121 : decode cX10_improve 121 = .ok (.getfield 119, 3) := by decide +kernel
theorem dX10_improve_124 : decode cX10_improve 124 = .ok (.if_icmp .ge 29, 3) := by decide +kernel
theorem dX10_improve_127 : decode cX10_improve 127 = .ok (.iload_n 2, 1) := by decide +kernel
end
section
theorem dX10_improve_128 : decode cX10_improve 128 = .ok (.aload_n 0, 1) := by decide +kernel
theorem dX10_improve_129 : decode cX10_improve 129 = .ok (.iload_n 3, 1) := by decide +kernel
theorem dX10_improve_130 : decode cX10_improve 130 = .ok (.invokevirtual 253, 3) := by decide +kernel
theorem dX10_improve_133 : decode cX10_improve 133 = .ok (.ldc_w 257, 3) := by decide +kernel
theorem dX10_improve_136 : decode cX10_improve 136 = .ok (.fcmp .l, 1) := by decide +kernel
theorem dX10_improve_137 : decode cX10_improve 137 = .ok (.ifCond .lt 7, 3) := by decide +kernel
theorem dX10_improve_140 : decode cX10_improve 140 = .ok (.iconst 1, 1) := by decide +kernel
theorem dX10_improve_141 : decode cX10_improve 141 = .ok (.goto 4, 3) := by decide +kernel
theorem dX10_improve_144 : decode cX10_improve 144 = .ok (.iconst 0, 1) := by decide +kernel
theorem dX10_improve_145 : decode cX10_improve 145 = .ok (.iadd, 1) := by decide +kernel
theorem dX10_improve_146 : decode cX10_improve 146 = .ok (.istore_n 2, 1) := by decide +kernel
theorem dX10_improve_147 : decode cX10_improve 147 = .ok (.iinc 3 1, 3) := by decide +kernel
theorem dX10_improve_150 : decode cX10_improve 150 = .ok (.goto (-31), 3) := by decide +kernel
theorem dX10_improve_153 : decode cX10_improve 153 = .ok (.iload_n 2, 1) := by decide +kernel
theorem dX10_improve_154 : decode cX10_improve 154 = .ok (.ireturn, 1) := by decide +kernel
theorem dX10_setApproximateWeight_0 : decode cX10_setApproximateWeight 0 = .ok (.aload_n 0, 1) := by decide +kernel
theorem dX10_setApproximateWeight_1 : decode cX10_setApproximateWeight 1 = .ok (.iload_n 1, 1) := by decide +kernel
theorem dX10_setApproximateWeight_2 : decode cX10_setApproximateWeight 2 = .ok (.invokevirtual 140, 3) := by decide +kernel
theorem dX10_setApproximateWeight_5 : decode cX10_setApproximateWeight 5 = .ok (.ifCond .ne 6, 3) := by decide +kernel
theorem dX10_setApproximateWeight_8 : decode cX10_setApproximateWeight 8 = .ok (.bipush (-2), 2) := by decide +kernel
theorem dX10_setApproximateWeight_10 : decode cX10_setApproximateWeight 10 = .ok (.ireturn, 1) := by decide +kernel
theorem dX10_setApproximateWeight_11 : decode cX10_setApproximateWeight 11 = .ok (.iload_n 2, 1) := by decide +kernel
theorem dX10_setApproximateWeight_12 : decode cX10_setApproximateWeight 12 = .ok (.i2l, 1) := by decide +kernel
theorem dX10_setApproximateWeight_13 : decode cX10_setApproximateWeight 13 = .ok (.lconst 0, 1) := by decide +kernel
theorem dX10_setApproximateWeight_14 : decode cX10_setApproximateWeight 14 = .ok (.ldc2_w 259, 3) := by decide +kernel
theorem dX10_setApproximateWeight_17 : decode cX10_setApproximateWeight 17 = .ok (.invokestatic 115, 3) := by decide +kernel
theorem dX10_setApproximateWeight_20 : decode cX10_setApproximateWeight 20 = .ok (.ifCond .eq 15, 3) := by decide +kernel
theorem dX10_setApproximateWeight_23 : decode cX10_setApproximateWeight 23 = .ok (.iload_n 3, 1) := by decide +kernel
theorem dX10_setApproximateWeight_24 : decode cX10_setApproximateWeight 24 = .ok (.i2l, 1) := by decide +kernel
theorem dX10_setApproximateWeight_25 : decode cX10_setApproximateWeight 25 = .ok (.lconst 1, 1) := by decide +kernel
theorem dX10_setApproximateWeight_26 : decode cX10_setApproximateWeight 26 = .ok (.ldc2_w 259, 3) := by decide +kernel
theorem dX10_setApproximateWeight_29 : decode cX10_setApproximateWeight 29 = .ok (.invokestatic 115, 3) := by decide +kernel
theorem dX10_setApproximateWeight_32 : decode cX10_setApproximateWeight 32 = .ok (.ifCond .ne 5, 3) := by decide +kernel
theorem dX10_setApproximateWeight_35 : decode cX10_setApproximateWeight 35 = .ok (.iconst (-1), 1) := by decide +kernel
theorem dX10_setApproximateWeight_36 : decode cX10_setApproximateWeight 36 = .ok (.ireturn, 1) := by decide +kernel
theorem dX10_setApproximateWeight_37 : decode cX10_setApproximateWeight 37 = .ok (.iload_n 2, 1) := by decide +kernel
theorem dX10_setApproximateWeight_38 : decode cX10_setApproximateWeight 38 = .ok (.i2f, 1) := by decide +kernel
theorem dX10_setApproximateWeight_39 : decode cX10_setApproximateWeight 39 = .ok (.iload_n 3, 1) := by decide +kernel
theorem dX10_setApproximateWeight_40 : decode cX10_setApproximateWeight 40 = .ok (.i2f, 1) := by decide +kernel
theorem dX10_setApproximateWeight_41 : decode cX10_setApproximateWeight 41 = .ok (.fdiv, 1) := by decide +kernel
theorem dX10_setApproximateWeight_42 : decode cX10_setApproximateWeight 42 = .ok (.fstore 4, 2) := by decide +kernel
theorem dX10_setApproximateWeight_44 : decode cX10_setApproximateWeight 44 = .ok (.fload 4, 2) := by decide +kernel
theorem dX10_setApproximateWeight_46 : decode cX10_setApproximateWeight 46 = .ok (.aload_n 0, 1) := by decide +kernel
theorem dX10_setApproximateWeight_47 : decode cX10_setApproximateWeight 47 = .ok (.getfield 28, 3) := by decide +kernel
theorem dX10_setApproximateWeight_50 : decode cX10_setApproximateWeight 50 = .ok (.iload_n 1, 1) := by decide +kernel
theorem dX10_setApproximateWeight_51 : decode cX10_setApproximateWeight 51 = .ok (.faload, 1) := by decide +kernel
theorem dX10_setApproximateWeight_52 : decode cX10_setApproximateWeight 52 = .ok (.fcmp .l, 1) := by decide +kernel
theorem dX10_setApproximateWeight_53 : decode cX10_setApproximateWeight 53 = .ok (.ifCond .eq 7, 3) := by decide +kernel
theorem dX10_setApproximateWeight_56 : decode cX10_setApproximateWeight 56 = .ok (.iconst 1, 1) := by decide +kernel
theorem dX10_setApproximateWeight_57 : decode cX10_setApproximateWeight 57 = .ok (.goto 4, 3) := by decide +kernel
theorem dX10_setApproximateWeight_60 : decode cX10_setApproximateWeight 60 = .ok (.iconst 0, 1) := by decide +kernel
theorem dX10_setApproximateWeight_61 : decode cX10_setApproximateWeight 61 = .ok (.istore 5, 2) := by decide +kernel
theorem dX10_setApproximateWeight_63 : decode cX10_setApproximateWeight 63 = .ok (.aload_n 0, 1) := by decide +kernel
theorem dX10_setApproximateWeight_64 : decode cX10_setApproximateWeight 64 = .ok (.getfield 28, 3) := by decide +kernel
theorem dX10_setApproximateWeight_67 : decode cX10_setApproximateWeight 67 = .ok (.iload_n 1, 1) := by decide +kernel
theorem dX10_setApproximateWeight_68 : decode cX10_setApproximateWeight 68 = .ok (.fload 4, 2) := by decide +kernel
theorem dX10_setApproximateWeight_70 : decode cX10_setApproximateWeight 70 = .ok (.fastore, 1) := by decide +kernel
theorem dX10_setApproximateWeight_71 : decode cX10_setApproximateWeight 71 = .ok (.iload 5, 2) := by decide +kernel
theorem dX10_setApproximateWeight_73 : decode cX10_setApproximateWeight 73 = .ok (.ireturn, 1) := by decide +kernel
theorem dX10_approximateWeight_0 : decode cX10_approximateWeight 0 = .ok (.aload_n 0, 1) := by decide +kernel
theorem dX10_approximateWeight_1 : decode cX10_approximateWeight 1 = .ok (.iload_n 1, 1) := by decide +kernel
theorem dX10_approximateWeight_2 : decode cX10_approximateWeight 2 = .ok (.invokevirtual 140, 3) := by decide +kernel
theorem dX10_approximateWeight_5 : decode cX10_approximateWeight 5 = .ok (.ifCond .eq 18, 3) := by decide +kernel
theorem dX10_approximateWeight_8 : decode cX10_approximateWeight 8 = .ok (.aload_n 0, 1) := by decide +kernel
theorem dX10_approximateWeight_9 : decode cX10_approximateWeight 9 = .ok (.getfield 28, 3) := by decide +kernel
theorem dX10_approximateWeight_12 : decode cX10_approximateWeight 12 = .ok (.iload_n 1, 1) := by decide +kernel
theorem dX10_approximateWeight_13 : decode cX10_approximateWeight 13 = .ok (.faload, 1) := by decide +kernel
theorem dX10_approximateWeight_14 : decode cX10_approximateWeight 14 = .ok (.f2d, 1) := by decide +kernel
theorem dX10_approximateWeight_15 : decode cX10_approximateWeight 15 = .ok (.ldc2_w 261, 3) := by decide +kernel
theorem dX10_approximateWeight_18 : decode cX10_approximateWeight 18 = .ok (.dmul, 1) := by decide +kernel
theorem dX10_approximateWeight_19 : decode cX10_approximateWeight 19 = .ok (.d2l, 1) := by decide +kernel
theorem dX10_approximateWeight_20 : decode cX10_approximateWeight 20 = .ok (.goto 6, 3) := by decide +kernel
theorem dX10_approximateWeight_23 : decode cX10_approximateWeight 23 = .ok (.ldc2_w 263, 3) := by decide +kernel
theorem dX10_approximateWeight_26 : decode cX10_approximateWeight 26 = .ok (.lreturn, 1) := by decide +kernel
theorem dX10_margin_0 : decode cX10_margin 0 = .ok (.aload_n 0, 1) := by decide +kernel
theorem dX10_margin_1 : decode cX10_margin 1 = .ok (.iload_n 1, 1) := by decide +kernel
theorem dX10_margin_2 : decode cX10_margin 2 = .ok (.invokevirtual 152, 3) := by decide +kernel
theorem dX10_margin_5 : decode cX10_margin 5 = .ok (.ifCond .eq 17, 3) := by decide +kernel
theorem dX10_margin_8 : decode cX10_margin 8 = .ok (.aload_n 0, 1) := by decide +kernel
theorem dX10_margin_9 : decode cX10_margin 9 = .ok (.iload_n 1, 1) := by decide +kernel
theorem dX10_margin_10 : decode cX10_margin 10 = .ok (.invokevirtual 253, 3) := by decide +kernel
theorem dX10_margin_13 : decode cX10_margin 13 = .ok (.f2d, 1) := by decide +kernel
theorem dX10_margin_14 : decode cX10_margin 14 = .ok (.ldc2_w 261, 3) := by decide +kernel
theorem dX10_margin_17 : decode cX10_margin 17 = .ok (.dmul, 1) := by decide +kernel
theorem dX10_margin_18 : decode cX10_margin 18 = .ok (.d2l, 1) := by decide +kernel
theorem dX10_margin_19 : decode cX10_margin 19 = .ok (.goto 6, 3) := by decide +kernel
theorem dX10_margin_22 : decode cX10_margin 22 = .ok (.ldc2_w 263, 3) := by decide +kernel
theorem dX10_margin_25 : decode cX10_margin 25 = .ok (.lreturn, 1) := by decide +kernel
theorem dX10_roundWeights_0 : decode cX10_roundWeights 0 = .ok (.iload_n 1, 1) := by decide +kernel
theorem dX10_roundWeights_1 : decode cX10_roundWeights 1 = .ok (.i2l, 1) := by decide +kernel
theorem dX10_roundWeights_2 : decode cX10_roundWeights 2 = .ok (.lconst 1, 1) := by decide +kernel
theorem dX10_roundWeights_3 : decode cX10_roundWeights 3 = .ok (.ldc2_w 251, 3) := by decide +kernel
theorem dX10_roundWeights_6 : decode cX10_roundWeights 6 = .ok (.invokestatic 115, 3) := by decide +kernel
theorem dX10_roundWeights_9 : decode cX10_roundWeights 9 = .ok (.ifCond .ne 5, 3) := by decide +kernel
theorem dX10_roundWeights_12 : decode cX10_roundWeights 12 = .ok (.iconst (-1), 1) := by decide +kernel
theorem dX10_roundWeights_13 : decode cX10_roundWeights 13 = .ok (.ireturn, 1) := by decide +kernel
theorem dX10_roundWeights_14 : decode cX10_roundWeights 14 = .ok (.iconst 0, 1) := by decide +kernel
theorem dX10_roundWeights_15 : decode cX10_roundWeights 15 = .ok (.istore_n 2, 1) := by decide +kernel
theorem dX10_roundWeights_16 : decode cX10_roundWeights 16 = .ok (.iload_n 2, 1) := by decide +kernel
theorem dX10_roundWeights_17 : decode cX10_roundWeights 17 = .ok (.aload_n 0, 1) := by decide +kernel
theorem dX10_roundWeights_18 : decode cX10_roundWeights 18 = .ok (.getfield 9, 3) := by decide +kernel
theorem dX10_roundWeights_21 : decode cX10_roundWeights 21 = .ok (.if_icmp .ge 44, 3) := by decide +kernel
theorem dX10_roundWeights_24 : decode cX10_roundWeights 24 = .ok (.aload_n 0, 1) := by decide +kernel
theorem dX10_roundWeights_25 : decode cX10_roundWeights 25 = .ok (.getfield 28, 3) := by decide +kernel
theorem dX10_roundWeights_28 : decode cX10_roundWeights 28 = .ok (.iload_n 2, 1) := by decide +kernel
theorem dX10_roundWeights_29 : decode cX10_roundWeights 29 = .ok (.faload, 1) := by decide +kernel
theorem dX10_roundWeights_30 : decode cX10_roundWeights 30 = .ok (.f2d, 1) := by decide +kernel
theorem dX10_roundWeights_31 : decode cX10_roundWeights 31 = .ok (.iload_n 1, 1) := by decide +kernel
theorem dX10_roundWeights_32 : decode cX10_roundWeights 32 = .ok (.i2d, 1) := by decide +kernel
theorem dX10_roundWeights_33 : decode cX10_roundWeights 33 = .ok (.dmul, 1) := by decide +kernel
theorem dX10_roundWeights_34 : decode cX10_roundWeights 34 = .ok (.invokestatic 265, 3) := by decide +kernel
theorem dX10_roundWeights_37 : decode cX10_roundWeights 37 = .ok (.dstore_n 3, 1) := by decide +kernel
theorem dX10_roundWeights_38 : decode cX10_roundWeights 38 = .ok (.aload_n 0, 1) := by decide +kernel
theorem dX10_roundWeights_39 : decode cX10_roundWeights 39 = .ok (.getfield 22, 3) := by decide +kernel
theorem dX10_roundWeights_42 : decode cX10_roundWeights 42 = .ok (.iload_n 2, 1) := by decide +kernel
theorem dX10_roundWeights_43 : decode cX10_roundWeights 43 = .ok (.dload_n 3, 1) := by decide +kernel
theorem dX10_roundWeights_44 : decode cX10_roundWeights 44 = .ok (.ldc2_w 271, 3) := by decide +kernel
theorem dX10_roundWeights_47 : decode cX10_roundWeights 47 = .ok (.dcmp .l, 1) := by decide +kernel
theorem dX10_roundWeights_48 : decode cX10_roundWeights 48 = .ok (.ifCond .le 8, 3) := by decide +kernel
theorem dX10_roundWeights_51 : decode cX10_roundWeights 51 = .ok (.bipush 99, 2) := by decide +kernel
theorem dX10_roundWeights_53 : decode cX10_roundWeights 53 = .ok (.goto 5, 3) := by decide +kernel
theorem dX10_roundWeights_56 : decode cX10_roundWeights 56 = .ok (.dload_n 3, 1) := by decide +kernel
theorem dX10_roundWeights_57 : decode cX10_roundWeights 57 = .ok (.d2i, 1) := by decide +kernel
theorem dX10_roundWeights_58 : decode cX10_roundWeights 58 = .ok (.iastore, 1) := by decide +kernel
theorem dX10_roundWeights_59 : decode cX10_roundWeights 59 = .ok (.iinc 2 1, 3) := by decide +kernel
theorem dX10_roundWeights_62 : decode cX10_roundWeights 62 = .ok (.goto (-46), 3) := by decide +kernel
theorem dX10_roundWeights_65 : decode cX10_roundWeights 65 = .ok (.iconst 0, 1) := by decide +kernel
theorem dX10_roundWeights_66 : decode cX10_roundWeights 66 = .ok (.istore_n 2, 1) := by decide +kernel
theorem dX10_roundWeights_67 : decode cX10_roundWeights 67 = .ok (.iconst 0, 1) := by decide +kernel
theorem dX10_roundWeights_68 : decode cX10_roundWeights 68 = .ok (.istore_n 3, 1) := by decide +kernel
theorem dX10_roundWeights_69 : decode cX10_roundWeights 69 = .ok (.iload_n 3, 1) := by decide +kernel
theorem dX10_roundWeights_70 : decode cX10_roundWeights 70 = .ok (.aload_n 0, 1) := by decide +kernel
theorem dX10_roundWeights_71 : decode cX10_roundWeights 71 = .ok (.getfield 119, 3) := by decide +kernel
theorem dX10_roundWeights_74 : decode cX10_roundWeights 74 = .ok (.if_icmp .ge 63, 3) := by decide +kernel
theorem dX10_roundWeights_77 : decode cX10_roundWeights 77 = .ok (.iconst 0, 1) := by decide +kernel
theorem dX10_roundWeights_78 : decode cX10_roundWeights 78 = .ok (.istore 4, 2) := by decide +kernel
theorem dX10_roundWeights_80 : decode cX10_roundWeights 80 = .ok (.iconst 0, 1) := by decide +kernel
theorem dX10_roundWeights_81 : decode cX10_roundWeights 81 = .ok (.istore 5, 2) := by decide +kernel
theorem dX10_roundWeights_83 : decode cX10_roundWeights 83 = .ok (.iload 5, 2) := by decide +kernel
theorem dX10_roundWeights_85 : decode cX10_roundWeights 85 = .ok (.aload_n 0, 1) := by decide +kernel
theorem dX10_roundWeights_86 : decode cX10_roundWeights 86 = .ok (.getfield 9, 3) := by decide +kernel
theorem dX10_roundWeights_89 : decode cX10_roundWeights 89 = .ok (.if_icmp .ge 29, 3) := by decide +kernel
theorem dX10_roundWeights_92 : decode cX10_roundWeights 92 = .ok (.iload 4, 2) := by decide +kernel
theorem dX10_roundWeights_94 : decode cX10_roundWeights 94 = .ok (.aload_n 0, 1) := by decide +kernel
theorem dX10_roundWeights_95 : decode cX10_roundWeights 95 = .ok (.iload_n 3, 1) := by decide +kernel
theorem dX10_roundWeights_96 : decode cX10_roundWeights 96 = .ok (.iload 5, 2) := by decide +kernel
theorem dX10_roundWeights_98 : decode cX10_roundWeights 98 = .ok (.invokevirtual 159, 3) := by decide +kernel
theorem dX10_roundWeights_101 : decode cX10_roundWeights 101 = .ok (.aload_n 0, 1) := by decide +kernel
theorem dX10_roundWeights_102 : decode cX10_roundWeights 102 = .ok (.getfield 22, 3) := by decide +kernel
theorem dX10_roundWeights_105 : decode cX10_roundWeights 105 = .ok (.iload 5, 2) := by decide +kernel
theorem dX10_roundWeights_107 : decode cX10_roundWeights 107 = .ok (.iaload, 1) := by decide +kernel
theorem dX10_roundWeights_108 : decode cX10_roundWeights 108 = .ok (.imul, 1) := by decide +kernel
theorem dX10_roundWeights_109 : decode cX10_roundWeights 109 = .ok (.iadd, 1) := by decide +kernel
theorem dX10_roundWeights_110 : decode cX10_roundWeights 110 = .ok (.istore 4, 2) := by decide +kernel
theorem dX10_roundWeights_112 : decode cX10_roundWeights 112 = .ok (.iinc 5 1, 3) := by decide +kernel
theorem dX10_roundWeights_115 : decode cX10_roundWeights 115 = .ok (.goto (-32), 3) := by decide +kernel
theorem dX10_roundWeights_118 : decode cX10_roundWeights 118 = .ok (.iload_n 2, 1) := by decide +kernel
theorem dX10_roundWeights_119 : decode cX10_roundWeights 119 = .ok (.iload 4, 2) := by decide +kernel
theorem dX10_roundWeights_121 : decode cX10_roundWeights 121 = .ok (.ifCond .le 7, 3) := by decide +kernel
theorem dX10_roundWeights_124 : decode cX10_roundWeights 124 = .ok (.iconst 1, 1) := by decide +kernel
theorem dX10_roundWeights_125 : decode cX10_roundWeights 125 = .ok (.goto 4, 3) := by decide +kernel
theorem dX10_roundWeights_128 : decode cX10_roundWeights 128 = .ok (.iconst 0, 1) := by decide +kernel
theorem dX10_roundWeights_129 : decode cX10_roundWeights 129 = .ok (.iadd, 1) := by decide +kernel
theorem dX10_roundWeights_130 : decode cX10_roundWeights 130 = .ok (.istore_n 2, 1) := by decide +kernel
theorem dX10_roundWeights_131 : decode cX10_roundWeights 131 = .ok (.iinc 3 1, 3) := by decide +kernel
theorem dX10_roundWeights_134 : decode cX10_roundWeights 134 = .ok (.goto (-65), 3) := by decide +kernel
theorem dX10_roundWeights_137 : decode cX10_roundWeights 137 = .ok (.iload_n 2, 1) := by decide +kernel
theorem dX10_roundWeights_138 : decode cX10_roundWeights 138 = .ok (.ireturn, 1) := by decide +kernel
theorem dX10_isSlot_0 : decode cX10_isSlot 0 = .ok (.iload_n 0, 1) := by decide +kernel
theorem dX10_isSlot_1 : decode cX10_isSlot 1 = .ok (.i2l, 1) := by decide +kernel
theorem dX10_isSlot_2 : decode cX10_isSlot 2 = .ok (.lconst 0, 1) := by decide +kernel
theorem dX10_isSlot_3 : decode cX10_isSlot 3 = .ok (.ldc2_w 273, 3) := by decide +kernel
theorem dX10_isSlot_6 : decode cX10_isSlot 6 = .ok (.invokestatic 115, 3) := by decide +kernel
theorem dX10_isSlot_9 : decode cX10_isSlot 9 = .ok (.ireturn, 1) := by decide +kernel
theorem dX10_allocate_0 : decode cX10_allocate 0 = .ok (.iload_n 1, 1) := by decide +kernel
theorem dX10_allocate_1 : decode cX10_allocate 1 = .ok (.invokestatic 275, 3) := by decide +kernel
theorem dX10_allocate_4 : decode cX10_allocate 4 = .ok (.ifCond .eq 21, 3) := by decide +kernel
theorem dX10_allocate_7 : decode cX10_allocate 7 = .ok (.iload_n 2, 1) := by decide +kernel
theorem dX10_allocate_8 : decode cX10_allocate 8 = .ok (.i2l, 1) := by decide +kernel
theorem dX10_allocate_9 : decode cX10_allocate 9 = .ok (.lconst 0, 1) := by decide +kernel
theorem dX10_allocate_10 : decode cX10_allocate 10 = .ok (.ldc2_w 273, 3) := by decide +kernel
theorem dX10_allocate_13 : decode cX10_allocate 13 = .ok (.invokestatic 115, 3) := by decide +kernel
theorem dX10_allocate_16 : decode cX10_allocate 16 = .ok (.ifCond .eq 9, 3) := by decide +kernel
theorem dX10_allocate_19 : decode cX10_allocate 19 = .ok (.iload_n 3, 1) := by decide +kernel
theorem dX10_allocate_20 : decode cX10_allocate 20 = .ok (.bipush 40, 2) := by decide +kernel
theorem dX10_allocate_22 : decode cX10_allocate 22 = .ok (.if_icmp .le 5, 3) := by decide +kernel
theorem dX10_allocate_25 : decode cX10_allocate 25 = .ok (.iconst (-1), 1) := by decide +kernel
theorem dX10_allocate_26 : decode cX10_allocate 26 = .ok (.ireturn, 1) := by decide +kernel
theorem dX10_allocate_27 : decode cX10_allocate 27 = .ok (.iload_n 3, 1) := by decide +kernel
theorem dX10_allocate_28 : decode cX10_allocate 28 = .ok (.ifCond .ge 6, 3) := by decide +kernel
theorem dX10_allocate_31 : decode cX10_allocate 31 = .ok (.bipush (-14), 2) := by decide +kernel
theorem dX10_allocate_33 : decode cX10_allocate 33 = .ok (.ireturn, 1) := by decide +kernel
theorem dX10_allocate_34 : decode cX10_allocate 34 = .ok (.aload_n 0, 1) := by decide +kernel
theorem dX10_allocate_35 : decode cX10_allocate 35 = .ok (.getfield 44, 3) := by decide +kernel
theorem dX10_allocate_38 : decode cX10_allocate 38 = .ok (.iload_n 1, 1) := by decide +kernel
theorem dX10_allocate_39 : decode cX10_allocate 39 = .ok (.iload_n 2, 1) := by decide +kernel
theorem dX10_allocate_40 : decode cX10_allocate 40 = .ok (.iastore, 1) := by decide +kernel
theorem dX10_allocate_41 : decode cX10_allocate 41 = .ok (.aload_n 0, 1) := by decide +kernel
theorem dX10_allocate_42 : decode cX10_allocate 42 = .ok (.getfield 47, 3) := by decide +kernel
theorem dX10_allocate_45 : decode cX10_allocate 45 = .ok (.iload_n 1, 1) := by decide +kernel
theorem dX10_allocate_46 : decode cX10_allocate 46 = .ok (.iload_n 3, 1) := by decide +kernel
theorem dX10_allocate_47 : decode cX10_allocate 47 = .ok (.iastore, 1) := by decide +kernel
theorem dX10_allocate_48 : decode cX10_allocate 48 = .ok (.iconst 0, 1) := by decide +kernel
theorem dX10_allocate_49 : decode cX10_allocate 49 = .ok (.istore 4, 2) := by decide +kernel
theorem dX10_allocate_51 : decode cX10_allocate 51 = .ok (.iload 4, 2) := by decide +kernel
theorem dX10_allocate_53 : decode cX10_allocate 53 = .ok (.bipush 40, 2) := by decide +kernel
theorem dX10_allocate_55 : decode cX10_allocate 55 = .ok (.if_icmp .ge 48, 3) := by decide +kernel
theorem dX10_allocate_58 : decode cX10_allocate 58 = .ok (.aload_n 0, 1) := by decide +kernel
theorem dX10_allocate_59 : decode cX10_allocate 59 = .ok (.getfield 50, 3) := by decide +kernel
theorem dX10_allocate_62 : decode cX10_allocate 62 = .ok (.bipush 40, 2) := by decide +kernel
theorem dX10_allocate_64 : decode cX10_allocate 64 = .ok (.iload_n 1, 1) := by decide +kernel
theorem dX10_allocate_65 : decode cX10_allocate 65 = .ok (.imul, 1) := by decide +kernel
theorem dX10_allocate_66 : decode cX10_allocate 66 = .ok (.iload 4, 2) := by decide +kernel
theorem dX10_allocate_68 : decode cX10_allocate 68 = .ok (.iadd, 1) := by decide +kernel
theorem dX10_allocate_69 : decode cX10_allocate 69 = .ok (.lconst 0, 1) := by decide +kernel
theorem dX10_allocate_70 : decode cX10_allocate 70 = .ok (.lastore, 1) := by decide +kernel
theorem dX10_allocate_71 : decode cX10_allocate 71 = .ok (.aload_n 0, 1) := by decide +kernel
theorem dX10_allocate_72 : decode cX10_allocate 72 = .ok (.getfield 54, 3) := by decide +kernel
theorem dX10_allocate_75 : decode cX10_allocate 75 = .ok (.bipush 40, 2) := by decide +kernel
theorem dX10_allocate_77 : decode cX10_allocate 77 = .ok (.iload_n 1, 1) := by decide +kernel
theorem dX10_allocate_78 : decode cX10_allocate 78 = .ok (.imul, 1) := by decide +kernel
theorem dX10_allocate_79 : decode cX10_allocate 79 = .ok (.iload 4, 2) := by decide +kernel
theorem dX10_allocate_81 : decode cX10_allocate 81 = .ok (.iadd, 1) := by decide +kernel
theorem dX10_allocate_82 : decode cX10_allocate 82 = .ok (.fconst 0, 1) := by decide +kernel
theorem dX10_allocate_83 : decode cX10_allocate 83 = .ok (.fastore, 1) := by decide +kernel
theorem dX10_allocate_84 : decode cX10_allocate 84 = .ok (.aload_n 0, 1) := by decide +kernel
theorem dX10_allocate_85 : decode cX10_allocate 85 = .ok (.getfield 57, 3) := by decide +kernel
theorem dX10_allocate_88 : decode cX10_allocate 88 = .ok (.bipush 40, 2) := by decide +kernel
theorem dX10_allocate_90 : decode cX10_allocate 90 = .ok (.iload_n 1, 1) := by decide +kernel
theorem dX10_allocate_91 : decode cX10_allocate 91 = .ok (.imul, 1) := by decide +kernel
theorem dX10_allocate_92 : decode cX10_allocate 92 = .ok (.iload 4, 2) := by decide +kernel
theorem dX10_allocate_94 : decode cX10_allocate 94 = .ok (.iadd, 1) := by decide +kernel
theorem dX10_allocate_95 : decode cX10_allocate 95 = .ok (.dconst 0, 1) := by decide +kernel
theorem dX10_allocate_96 : decode cX10_allocate 96 = .ok (.dastore, 1) := by decide +kernel
theorem dX10_allocate_97 : decode cX10_allocate 97 = .ok (.iinc 4 1, 3) := by decide +kernel
theorem dX10_allocate_100 : decode cX10_allocate 100 = .ok (.goto (-49), 3) := by decide +kernel
theorem dX10_allocate_103 : decode cX10_allocate 103 = .ok (.iload_n 3, 1) := by decide +kernel
theorem dX10_allocate_104 : decode cX10_allocate 104 = .ok (.ireturn, 1) := by decide +kernel
theorem dX10_release_0 : decode cX10_release 0 = .ok (.iload_n 1, 1) := by decide +kernel
theorem dX10_release_1 : decode cX10_release 1 = .ok (.invokestatic 275, 3) := by decide +kernel
theorem dX10_release_4 : decode cX10_release 4 = .ok (.ifCond .ne 5, 3) := by decide +kernel
theorem dX10_release_7 : decode cX10_release 7 = .ok (.iconst (-1), 1) := by decide +kernel
theorem dX10_release_8 : decode cX10_release 8 = .ok (.ireturn, 1) := by decide +kernel
theorem dX10_release_9 : decode cX10_release 9 = .ok (.aload_n 0, 1) := by decide +kernel
theorem dX10_release_10 : decode cX10_release 10 = .ok (.getfield 44, 3) := by decide +kernel
theorem dX10_release_13 : decode cX10_release 13 = .ok (.iload_n 1, 1) := by decide +kernel
theorem dX10_release_14 : decode cX10_release 14 = .ok (.iaload, 1) := by decide +kernel
theorem dX10_release_15 : decode cX10_release 15 = .ok (.iconst (-1), 1) := by decide +kernel
theorem dX10_release_16 : decode cX10_release 16 = .ok (.if_icmp .ne 7, 3) := by decide +kernel
theorem dX10_release_19 : decode cX10_release 19 = .ok (.iconst 0, 1) := by decide +kernel
theorem dX10_release_20 : decode cX10_release 20 = .ok (.goto 4, 3) := by decide +kernel
theorem dX10_release_23 : decode cX10_release 23 = .ok (.iconst 1, 1) := by decide +kernel
theorem dX10_release_24 : decode cX10_release 24 = .ok (.istore_n 2, 1) := by decide +kernel
theorem dX10_release_25 : decode cX10_release 25 = .ok (.aload_n 0, 1) := by decide +kernel
theorem dX10_release_26 : decode cX10_release 26 = .ok (.getfield 44, 3) := by decide +kernel
theorem dX10_release_29 : decode cX10_release 29 = .ok (.iload_n 1, 1) := by decide +kernel
theorem dX10_release_30 : decode cX10_release 30 = .ok (.iconst (-1), 1) := by decide +kernel
theorem dX10_release_31 : decode cX10_release 31 = .ok (.iastore, 1) := by decide +kernel
theorem dX10_release_32 : decode cX10_release 32 = .ok (.iload_n 2, 1) := by decide +kernel
theorem dX10_release_33 : decode cX10_release 33 = .ok (.ireturn, 1) := by decide +kernel
theorem dX10_isPlace_0 : decode cX10_isPlace 0 = .ok (.iload_n 2, 1) := by decide +kernel
theorem dX10_isPlace_1 : decode cX10_isPlace 1 = .ok (.i2l, 1) := by decide +kernel
theorem dX10_isPlace_2 : decode cX10_isPlace 2 = .ok (.lconst 0, 1) := by decide +kernel
theorem dX10_isPlace_3 : decode cX10_isPlace 3 = .ok (.aload_n 0, 1) := by decide +kernel
theorem dX10_isPlace_4 : decode cX10_isPlace 4 = .ok (.getfield 47, 3) := by decide +kernel
theorem dX10_isPlace_7 : decode cX10_isPlace 7 = .ok (.iload_n 1, 1) := by decide +kernel
theorem dX10_isPlace_8 : decode cX10_isPlace 8 = .ok (.iaload, 1) := by decide +kernel
theorem dX10_isPlace_9 : decode cX10_isPlace 9 = .ok (.iconst 1, 1) := by decide +kernel
theorem dX10_isPlace_10 : decode cX10_isPlace 10 = .ok (.isub, 1) := by decide +kernel
theorem dX10_isPlace_11 : decode cX10_isPlace 11 = .ok (.i2l, 1) := by decide +kernel
theorem dX10_isPlace_12 : decode cX10_isPlace 12 = .ok (.invokestatic 115, 3) := by decide +kernel
theorem dX10_isPlace_15 : decode cX10_isPlace 15 = .ok (.ireturn, 1) := by decide +kernel
theorem dX10_putElement_0 : decode cX10_putElement 0 = .ok (.iload_n 1, 1) := by decide +kernel
theorem dX10_putElement_1 : decode cX10_putElement 1 = .ok (.invokestatic 275, 3) := by decide +kernel
theorem dX10_putElement_4 : decode cX10_putElement 4 = .ok (.ifCond .ne 5, 3) := by decide +kernel
theorem dX10_putElement_7 : decode cX10_putElement 7 = .ok (.iconst (-1), 1) := by decide +kernel
theorem dX10_putElement_8 : decode cX10_putElement 8 = .ok (.ireturn, 1) := by decide +kernel
theorem dX10_putElement_9 : decode cX10_putElement 9 = .ok (.aload_n 0, 1) := by decide +kernel
theorem dX10_putElement_10 : decode cX10_putElement 10 = .ok (.getfield 44, 3) := by decide +kernel
theorem dX10_putElement_13 : decode cX10_putElement 13 = .ok (.iload_n 1, 1) := by decide +kernel
theorem dX10_putElement_14 : decode cX10_putElement 14 = .ok (.iaload, 1) := by decide +kernel
theorem dX10_putElement_15 : decode cX10_putElement 15 = .ok (.iconst (-1), 1) := by decide +kernel
theorem dX10_putElement_16 : decode cX10_putElement 16 = .ok (.if_icmp .ne 6, 3) := by decide +kernel
theorem dX10_putElement_19 : decode cX10_putElement 19 = .ok (.bipush (-11), 2) := by decide +kernel
theorem dX10_putElement_21 : decode cX10_putElement 21 = .ok (.ireturn, 1) := by decide +kernel
theorem dX10_putElement_22 : decode cX10_putElement 22 = .ok (.aload_n 0, 1) := by decide +kernel
theorem dX10_putElement_23 : decode cX10_putElement 23 = .ok (.iload_n 1, 1) := by decide +kernel
theorem dX10_putElement_24 : decode cX10_putElement 24 = .ok (.iload_n 2, 1) := by decide +kernel
theorem dX10_putElement_25 : decode cX10_putElement 25 = .ok (.invokevirtual 278, 3) := by decide +kernel
theorem dX10_putElement_28 : decode cX10_putElement 28 = .ok (.ifCond .ne 6, 3) := by decide +kernel
theorem dX10_putElement_31 : decode cX10_putElement 31 = .ok (.bipush (-13), 2) := by decide +kernel
theorem dX10_putElement_33 : decode cX10_putElement 33 = .ok (.ireturn, 1) := by decide +kernel
theorem dX10_putElement_34 : decode cX10_putElement 34 = .ok (.bipush 40, 2) := by decide +kernel
theorem dX10_putElement_36 : decode cX10_putElement 36 = .ok (.iload_n 1, 1) := by decide +kernel
theorem dX10_putElement_37 : decode cX10_putElement 37 = .ok (.imul, 1) := by decide +kernel
theorem dX10_putElement_38 : decode cX10_putElement 38 = .ok (.iload_n 2, 1) := by decide +kernel
theorem dX10_putElement_39 : decode cX10_putElement 39 = .ok (.iadd, 1) := by decide +kernel
theorem dX10_putElement_40 : decode cX10_putElement 40 = .ok (.istore 5, 2) := by decide +kernel
theorem dX10_putElement_42 : decode cX10_putElement 42 = .ok (.aload_n 0, 1) := by decide +kernel
theorem dX10_putElement_43 : decode cX10_putElement 43 = .ok (.getfield 50, 3) := by decide +kernel
theorem dX10_putElement_46 : decode cX10_putElement 46 = .ok (.iload 5, 2) := by decide +kernel
theorem dX10_putElement_48 : decode cX10_putElement 48 = .ok (.aload_n 0, 1) := by decide +kernel
theorem dX10_putElement_49 : decode cX10_putElement 49 = .ok (.getfield 44, 3) := by decide +kernel
theorem dX10_putElement_52 : decode cX10_putElement 52 = .ok (.iload_n 1, 1) := by decide +kernel
theorem dX10_putElement_53 : decode cX10_putElement 53 = .ok (.iaload, 1) := by decide +kernel
theorem dX10_putElement_54 : decode cX10_putElement 54 = .ok (.ifCond .ne 9, 3) := by decide +kernel
theorem dX10_putElement_57 : decode cX10_putElement 57 = .ok (.lload_n 3, 1) := by decide +kernel
theorem dX10_putElement_58 : decode cX10_putElement 58 = .ok (.l2i, 1) := by decide +kernel
theorem dX10_putElement_59 : decode cX10_putElement 59 = .ok (.i2l, 1) := by decide +kernel
theorem dX10_putElement_60 : decode cX10_putElement 60 = .ok (.goto 4, 3) := by decide +kernel
theorem dX10_putElement_63 : decode cX10_putElement 63 = .ok (.lload_n 3, 1) := by decide +kernel
theorem dX10_putElement_64 : decode cX10_putElement 64 = .ok (.lastore, 1) := by decide +kernel
theorem dX10_putElement_65 : decode cX10_putElement 65 = .ok (.aload_n 0, 1) := by decide +kernel
theorem dX10_putElement_66 : decode cX10_putElement 66 = .ok (.getfield 54, 3) := by decide +kernel
theorem dX10_putElement_69 : decode cX10_putElement 69 = .ok (.iload 5, 2) := by decide +kernel
theorem dX10_putElement_71 : decode cX10_putElement 71 = .ok (.lload_n 3, 1) := by decide +kernel
theorem dX10_putElement_72 : decode cX10_putElement 72 = .ok (.l2f, 1) := by decide +kernel
theorem dX10_putElement_73 : decode cX10_putElement 73 = .ok (.fastore, 1) := by decide +kernel
theorem dX10_putElement_74 : decode cX10_putElement 74 = .ok (.aload_n 0, 1) := by decide +kernel
theorem dX10_putElement_75 : decode cX10_putElement 75 = .ok (.getfield 57, 3) := by decide +kernel
theorem dX10_putElement_78 : decode cX10_putElement 78 = .ok (.iload 5, 2) := by decide +kernel
theorem dX10_putElement_80 : decode cX10_putElement 80 = .ok (.lload_n 3, 1) := by decide +kernel
theorem dX10_putElement_81 : decode cX10_putElement 81 = .ok (.l2d, 1) := by decide +kernel
theorem dX10_putElement_82 : decode cX10_putElement 82 = .ok (.dastore, 1) := by decide +kernel
theorem dX10_putElement_83 : decode cX10_putElement 83 = .ok (.iconst 1, 1) := by decide +kernel
theorem dX10_putElement_84 : decode cX10_putElement 84 = .ok (.ireturn, 1) := by decide +kernel
theorem dX10_divideElement_0 : decode cX10_divideElement 0 = .ok (.iload_n 1, 1) := by decide +kernel
theorem dX10_divideElement_1 : decode cX10_divideElement 1 = .ok (.invokestatic 275, 3) := by decide +kernel
theorem dX10_divideElement_4 : decode cX10_divideElement 4 = .ok (.ifCond .ne 5, 3) := by decide +kernel
theorem dX10_divideElement_7 : decode cX10_divideElement 7 = .ok (.iconst (-1), 1) := by decide +kernel
theorem dX10_divideElement_8 : decode cX10_divideElement 8 = .ok (.ireturn, 1) := by decide +kernel
theorem dX10_divideElement_9 : decode cX10_divideElement 9 = .ok (.aload_n 0, 1) := by decide +kernel
theorem dX10_divideElement_10 : decode cX10_divideElement 10 = .ok (.getfield 44, 3) := by decide +kernel
theorem dX10_divideElement_13 : decode cX10_divideElement 13 = .ok (.iload_n 1, 1) := by decide +kernel
theorem dX10_divideElement_14 : decode cX10_divideElement 14 = .ok (.iaload, 1) := by decide +kernel
theorem dX10_divideElement_15 : decode cX10_divideElement 15 = .ok (.iconst (-1), 1) := by decide +kernel
theorem dX10_divideElement_16 : decode cX10_divideElement 16 = .ok (.if_icmp .ne 6, 3) := by decide +kernel
theorem dX10_divideElement_19 : decode cX10_divideElement 19 = .ok (.bipush (-11), 2) := by decide +kernel
theorem dX10_divideElement_21 : decode cX10_divideElement 21 = .ok (.ireturn, 1) := by decide +kernel
theorem dX10_divideElement_22 : decode cX10_divideElement 22 = .ok (.aload_n 0, 1) := by decide +kernel
theorem dX10_divideElement_23 : decode cX10_divideElement 23 = .ok (.getfield 44, 3) := by decide +kernel
theorem dX10_divideElement_26 : decode cX10_divideElement 26 = .ok (.iload_n 1, 1) := by decide +kernel
theorem dX10_divideElement_27 : decode cX10_divideElement 27 = .ok (.iaload, 1) := by decide +kernel
theorem dX10_divideElement_28 : decode cX10_divideElement 28 = .ok (.iconst 2, 1) := by decide +kernel
theorem dX10_divideElement_29 : decode cX10_divideElement 29 = .ok (.if_icmp .ge 6, 3) := by decide +kernel
theorem dX10_divideElement_32 : decode cX10_divideElement 32 = .ok (.bipush (-12), 2) := by decide +kernel
theorem dX10_divideElement_34 : decode cX10_divideElement 34 = .ok (.ireturn, 1) := by decide +kernel
theorem dX10_divideElement_35 : decode cX10_divideElement 35 = .ok (.aload_n 0, 1) := by decide +kernel
theorem dX10_divideElement_36 : decode cX10_divideElement 36 = .ok (.iload_n 1, 1) := by decide +kernel
theorem dX10_divideElement_37 : decode cX10_divideElement 37 = .ok (.iload_n 2, 1) := by decide +kernel
theorem dX10_divideElement_38 : decode cX10_divideElement 38 = .ok (.invokevirtual 278, 3) := by decide +kernel
theorem dX10_divideElement_41 : decode cX10_divideElement 41 = .ok (.ifCond .ne 6, 3) := by decide +kernel
theorem dX10_divideElement_44 : decode cX10_divideElement 44 = .ok (.bipush (-13), 2) := by decide +kernel
theorem dX10_divideElement_46 : decode cX10_divideElement 46 = .ok (.ireturn, 1) := by decide +kernel
theorem dX10_divideElement_47 : decode cX10_divideElement 47 = .ok (.bipush 40, 2) := by decide +kernel
theorem dX10_divideElement_49 : decode cX10_divideElement 49 = .ok (.iload_n 1, 1) := by decide +kernel
theorem dX10_divideElement_50 : decode cX10_divideElement 50 = .ok (.imul, 1) := by decide +kernel
theorem dX10_divideElement_51 : decode cX10_divideElement 51 = .ok (.iload_n 2, 1) := by decide +kernel
theorem dX10_divideElement_52 : decode cX10_divideElement 52 = .ok (.iadd, 1) := by decide +kernel
theorem dX10_divideElement_53 : decode cX10_divideElement 53 = .ok (.istore 4, 2) := by decide +kernel
theorem dX10_divideElement_55 : decode cX10_divideElement 55 = .ok (.aload_n 0, 1) := by decide +kernel
theorem dX10_divideElement_56 : decode cX10_divideElement 56 = .ok (.getfield 54, 3) := by decide +kernel
theorem dX10_divideElement_59 : decode cX10_divideElement 59 = .ok (.iload 4, 2) := by decide +kernel
theorem dX10_divideElement_61 : decode cX10_divideElement 61 = .ok (.aload_n 0, 1) := by decide +kernel
theorem dX10_divideElement_62 : decode cX10_divideElement 62 = .ok (.getfield 54, 3) := by decide +kernel
theorem dX10_divideElement_65 : decode cX10_divideElement 65 = .ok (.iload 4, 2) := by decide +kernel
theorem dX10_divideElement_67 : decode cX10_divideElement 67 = .ok (.faload, 1) := by decide +kernel
theorem dX10_divideElement_68 : decode cX10_divideElement 68 = .ok (.iload_n 3, 1) := by decide +kernel
theorem dX10_divideElement_69 : decode cX10_divideElement 69 = .ok (.i2f, 1) := by decide +kernel
theorem dX10_divideElement_70 : decode cX10_divideElement 70 = .ok (.fdiv, 1) := by decide +kernel
theorem dX10_divideElement_71 : decode cX10_divideElement 71 = .ok (.fastore, 1) := by decide +kernel
theorem dX10_divideElement_72 : decode cX10_divideElement 72 = .ok (.aload_n 0, 1) := by decide +kernel
theorem dX10_divideElement_73 : decode cX10_divideElement 73 = .ok (.getfield 57, 3) := by decide +kernel
theorem dX10_divideElement_76 : decode cX10_divideElement 76 = .ok (.iload 4, 2) := by decide +kernel
theorem dX10_divideElement_78 : decode cX10_divideElement 78 = .ok (.aload_n 0, 1) := by decide +kernel
theorem dX10_divideElement_79 : decode cX10_divideElement 79 = .ok (.getfield 57, 3) := by decide +kernel
theorem dX10_divideElement_82 : decode cX10_divideElement 82 = .ok (.iload 4, 2) := by decide +kernel
theorem dX10_divideElement_84 : decode cX10_divideElement 84 = .ok (.daload, 1) := by decide +kernel
theorem dX10_divideElement_85 : decode cX10_divideElement 85 = .ok (.iload_n 3, 1) := by decide +kernel
theorem dX10_divideElement_86 : decode cX10_divideElement 86 = .ok (.i2d, 1) := by decide +kernel
theorem dX10_divideElement_87 : decode cX10_divideElement 87 = .ok (.ddiv, 1) := by decide +kernel
theorem dX10_divideElement_88 : decode cX10_divideElement 88 = .ok (.dastore, 1) := by decide +kernel
theorem dX10_divideElement_89 : decode cX10_divideElement 89 = .ok (.iconst 1, 1) := by decide +kernel
theorem dX10_divideElement_90 : decode cX10_divideElement 90 = .ok (.ireturn, 1) := by decide +kernel
theorem dX10_element_0 : decode cX10_element 0 = .ok (.iload_n 1, 1) := by decide +kernel
theorem dX10_element_1 : decode cX10_element 1 = .ok (.invokestatic 275, 3) := by decide +kernel
theorem dX10_element_4 : decode cX10_element 4 = .ok (.ifCond .eq 22, 3) := by decide +kernel
theorem dX10_element_7 : decode cX10_element 7 = .ok (.aload_n 0, 1) := by decide +kernel
theorem dX10_element_8 : decode cX10_element 8 = .ok (.getfield 44, 3) := by decide +kernel
theorem dX10_element_11 : decode cX10_element 11 = .ok (.iload_n 1, 1) := by decide +kernel
theorem dX10_element_12 : decode cX10_element 12 = .ok (.iaload, 1) := by decide +kernel
theorem dX10_element_13 : decode cX10_element 13 = .ok (.iconst (-1), 1) := by decide +kernel
theorem dX10_element_14 : decode cX10_element 14 = .ok (.if_icmp .eq 12, 3) := by decide +kernel
theorem dX10_element_17 : decode cX10_element 17 = .ok (.aload_n 0, 1) := by decide +kernel
theorem dX10_element_18 : decode cX10_element 18 = .ok (.iload_n 1, 1) := by decide +kernel
theorem dX10_element_19 : decode cX10_element 19 = .ok (.iload_n 2, 1) := by decide +kernel
theorem dX10_element_20 : decode cX10_element 20 = .ok (.invokevirtual 278, 3) := by decide +kernel
theorem dX10_element_23 : decode cX10_element 23 = .ok (.ifCond .ne 7, 3) := by decide +kernel
theorem dX10_element_26 : decode cX10_element 26 = .ok (.ldc2_w 263, 3) := by decide +kernel
theorem dX10_element_29 : decode cX10_element 29 = .ok (.lreturn, 1) := by decide +kernel
theorem dX10_element_30 : decode cX10_element 30 = .ok (.bipush 40, 2) := by decide +kernel
theorem dX10_element_32 : decode cX10_element 32 = .ok (.iload_n 1, 1) := by decide +kernel
theorem dX10_element_33 : decode cX10_element 33 = .ok (.imul, 1) := by decide +kernel
theorem dX10_element_34 : decode cX10_element 34 = .ok (.iload_n 2, 1) := by decide +kernel
theorem dX10_element_35 : decode cX10_element 35 = .ok (.iadd, 1) := by decide +kernel
theorem dX10_element_36 : decode cX10_element 36 = .ok (.istore_n 3, 1) := by decide +kernel
theorem dX10_element_37 : decode cX10_element 37 = .ok (.aload_n 0, 1) := by decide +kernel
theorem dX10_element_38 : decode cX10_element 38 = .ok (.getfield 44, 3) := by decide +kernel
theorem dX10_element_41 : decode cX10_element 41 = .ok (.iload_n 1, 1) := by decide +kernel
theorem dX10_element_42 : decode cX10_element 42 = .ok (.iaload, 1) := by decide +kernel
theorem dX10_element_43 : decode cX10_element 43 = .ok (.iconst 2, 1) := by decide +kernel
theorem dX10_element_44 : decode cX10_element 44 = .ok (.if_icmp .ge 12, 3) := by decide +kernel
theorem dX10_element_47 : decode cX10_element 47 = .ok (.aload_n 0, 1) := by decide +kernel
theorem dX10_element_48 : decode cX10_element 48 = .ok (.getfield 50, 3) := by decide +kernel
theorem dX10_element_51 : decode cX10_element 51 = .ok (.iload_n 3, 1) := by decide +kernel
theorem dX10_element_52 : decode cX10_element 52 = .ok (.laload, 1) := by decide +kernel
theorem dX10_element_53 : decode cX10_element 53 = .ok (.goto 30, 3) := by decide +kernel
theorem dX10_element_56 : decode cX10_element 56 = .ok (.aload_n 0, 1) := by decide +kernel
theorem dX10_element_57 : decode cX10_element 57 = .ok (.getfield 44, 3) := by decide +kernel
theorem dX10_element_60 : decode cX10_element 60 = .ok (.iload_n 1, 1) := by decide +kernel
theorem dX10_element_61 : decode cX10_element 61 = .ok (.iaload, 1) := by decide +kernel
theorem dX10_element_62 : decode cX10_element 62 = .ok (.iconst 2, 1) := by decide +kernel
theorem dX10_element_63 : decode cX10_element 63 = .ok (.if_icmp .ne 13, 3) := by decide +kernel
theorem dX10_element_66 : decode cX10_element 66 = .ok (.aload_n 0, 1) := by decide +kernel
theorem dX10_element_67 : decode cX10_element 67 = .ok (.getfield 54, 3) := by decide +kernel
theorem dX10_element_70 : decode cX10_element 70 = .ok (.iload_n 3, 1) := by decide +kernel
theorem dX10_element_71 : decode cX10_element 71 = .ok (.faload, 1) := by decide +kernel
theorem dX10_element_72 : decode cX10_element 72 = .ok (.f2l, 1) := by decide +kernel
theorem dX10_element_73 : decode cX10_element 73 = .ok (.goto 10, 3) := by decide +kernel
theorem dX10_element_76 : decode cX10_element 76 = .ok (.aload_n 0, 1) := by decide +kernel
theorem dX10_element_77 : decode cX10_element 77 = .ok (.getfield 57, 3) := by decide +kernel
theorem dX10_element_80 : decode cX10_element 80 = .ok (.iload_n 3, 1) := by decide +kernel
theorem dX10_element_81 : decode cX10_element 81 = .ok (.daload, 1) := by decide +kernel
theorem dX10_element_82 : decode cX10_element 82 = .ok (.d2l, 1) := by decide +kernel
theorem dX10_element_83 : decode cX10_element 83 = .ok (.lreturn, 1) := by decide +kernel
theorem dX10_copyElements_0 : decode cX10_copyElements 0 = .ok (.iload_n 1, 1) := by decide +kernel
theorem dX10_copyElements_1 : decode cX10_copyElements 1 = .ok (.invokestatic 275, 3) := by decide +kernel
theorem dX10_copyElements_4 : decode cX10_copyElements 4 = .ok (.ifCond .eq 10, 3) := by decide +kernel
theorem dX10_copyElements_7 : decode cX10_copyElements 7 = .ok (.iload_n 3, 1) := by decide +kernel
theorem dX10_copyElements_8 : decode cX10_copyElements 8 = .ok (.invokestatic 275, 3) := by decide +kernel
theorem dX10_copyElements_11 : decode cX10_copyElements 11 = .ok (.ifCond .ne 5, 3) := by decide +kernel
theorem dX10_copyElements_14 : decode cX10_copyElements 14 = .ok (.iconst (-1), 1) := by decide +kernel
theorem dX10_copyElements_15 : decode cX10_copyElements 15 = .ok (.ireturn, 1) := by decide +kernel
theorem dX10_copyElements_16 : decode cX10_copyElements 16 = .ok (.aload_n 0, 1) := by decide +kernel
theorem dX10_copyElements_17 : decode cX10_copyElements 17 = .ok (.getfield 44, 3) := by decide +kernel
theorem dX10_copyElements_20 : decode cX10_copyElements 20 = .ok (.iload_n 1, 1) := by decide +kernel
theorem dX10_copyElements_21 : decode cX10_copyElements 21 = .ok (.iaload, 1) := by decide +kernel
theorem dX10_copyElements_22 : decode cX10_copyElements 22 = .ok (.iconst (-1), 1) := by decide +kernel
theorem dX10_copyElements_23 : decode cX10_copyElements 23 = .ok (.if_icmp .eq 13, 3) := by decide +kernel
theorem dX10_copyElements_26 : decode cX10_copyElements 26 = .ok (.aload_n 0, 1) := by decide +kernel
theorem dX10_copyElements_27 : decode cX10_copyElements 27 = .ok (.getfield 44, 3) := by decide +kernel
theorem dX10_copyElements_30 : decode cX10_copyElements 30 = .ok (.iload_n 3, 1) := by decide +kernel
theorem dX10_copyElements_31 : decode cX10_copyElements 31 = .ok (.iaload, 1) := by decide +kernel
theorem dX10_copyElements_32 : decode cX10_copyElements 32 = .ok (.iconst (-1), 1) := by decide +kernel
theorem dX10_copyElements_33 : decode cX10_copyElements 33 = .ok (.if_icmp .ne 6, 3) := by decide +kernel
theorem dX10_copyElements_36 : decode cX10_copyElements 36 = .ok (.bipush (-11), 2) := by decide +kernel
theorem dX10_copyElements_38 : decode cX10_copyElements 38 = .ok (.ireturn, 1) := by decide +kernel
theorem dX10_copyElements_39 : decode cX10_copyElements 39 = .ok (.aload_n 0, 1) := by decide +kernel
theorem dX10_copyElements_40 : decode cX10_copyElements 40 = .ok (.getfield 44, 3) := by decide +kernel
theorem dX10_copyElements_43 : decode cX10_copyElements 43 = .ok (.iload_n 1, 1) := by decide +kernel
theorem dX10_copyElements_44 : decode cX10_copyElements 44 = .ok (.iaload, 1) := by decide +kernel
theorem dX10_copyElements_45 : decode cX10_copyElements 45 = .ok (.aload_n 0, 1) := by decide +kernel
theorem dX10_copyElements_46 : decode cX10_copyElements 46 = .ok (.getfield 44, 3) := by decide +kernel
theorem dX10_copyElements_49 : decode cX10_copyElements 49 = .ok (.iload_n 3, 1) := by decide +kernel
theorem dX10_copyElements_50 : decode cX10_copyElements 50 = .ok (.iaload, 1) := by decide +kernel
theorem dX10_copyElements_51 : decode cX10_copyElements 51 = .ok (.if_icmp .eq 6, 3) := by decide +kernel
theorem dX10_copyElements_54 : decode cX10_copyElements 54 = .ok (.bipush (-12), 2) := by decide +kernel
theorem dX10_copyElements_56 : decode cX10_copyElements 56 = .ok (.ireturn, 1) := by decide +kernel
theorem dX10_copyElements_57 : decode cX10_copyElements 57 = .ok (.iload_n 2, 1) := by decide +kernel
theorem dX10_copyElements_58 : decode cX10_copyElements 58 = .ok (.ifCond .lt 17, 3) := by decide +kernel
theorem dX10_copyElements_61 : decode cX10_copyElements 61 = .ok (.iload 4, 2) := by decide +kernel
theorem dX10_copyElements_63 : decode cX10_copyElements 63 = .ok (.ifCond .lt 12, 3) := by decide +kernel
theorem dX10_copyElements_66 : decode cX10_copyElements 66 = .ok (.iload 5, 2) := by decide +kernel
theorem dX10_copyElements_68 : decode cX10_copyElements 68 = .ok (.ifCond .lt 7, 3) := by decide +kernel
theorem dX10_copyElements_71 : decode cX10_copyElements 71 = .ok (.iconst 1, 1) := by decide +kernel
theorem dX10_copyElements_72 : decode cX10_copyElements 72 = .ok (.goto 4, 3) := by decide +kernel
theorem dX10_copyElements_75 : decode cX10_copyElements 75 = .ok (.iconst 0, 1) := by decide +kernel
theorem dX10_copyElements_76 : decode cX10_copyElements 76 = .ok (.istore 6, 2) := by decide +kernel
theorem dX10_copyElements_78 : decode cX10_copyElements 78 = .ok (.iload 6, 2) := by decide +kernel
theorem dX10_copyElements_80 : decode cX10_copyElements 80 = .ok (.ifCond .eq 38, 3) := by decide +kernel
theorem dX10_copyElements_83 : decode cX10_copyElements 83 = .ok (.iload_n 2, 1) := by decide +kernel
theorem dX10_copyElements_84 : decode cX10_copyElements 84 = .ok (.i2l, 1) := by decide +kernel
theorem dX10_copyElements_85 : decode cX10_copyElements 85 = .ok (.iload 5, 2) := by decide +kernel
theorem dX10_copyElements_87 : decode cX10_copyElements 87 = .ok (.i2l, 1) := by decide +kernel
theorem dX10_copyElements_88 : decode cX10_copyElements 88 = .ok (.ladd, 1) := by decide +kernel
theorem dX10_copyElements_89 : decode cX10_copyElements 89 = .ok (.aload_n 0, 1) := by decide +kernel
theorem dX10_copyElements_90 : decode cX10_copyElements 90 = .ok (.getfield 47, 3) := by decide +kernel
theorem dX10_copyElements_93 : decode cX10_copyElements 93 = .ok (.iload_n 1, 1) := by decide +kernel
theorem dX10_copyElements_94 : decode cX10_copyElements 94 = .ok (.iaload, 1) := by decide +kernel
theorem dX10_copyElements_95 : decode cX10_copyElements 95 = .ok (.i2l, 1) := by decide +kernel
theorem dX10_copyElements_96 : decode cX10_copyElements 96 = .ok (.lcmp, 1) := by decide +kernel
theorem dX10_copyElements_97 : decode cX10_copyElements 97 = .ok (.ifCond .gt 21, 3) := by decide +kernel
theorem dX10_copyElements_100 : decode cX10_copyElements 100 = .ok (.iload 4, 2) := by decide +kernel
theorem dX10_copyElements_102 : decode cX10_copyElements 102 = .ok (.i2l, 1) := by decide +kernel
theorem dX10_copyElements_103 : decode cX10_copyElements 103 = .ok (.iload 5, 2) := by decide +kernel
theorem dX10_copyElements_105 : decode cX10_copyElements 105 = .ok (.i2l, 1) := by decide +kernel
theorem dX10_copyElements_106 : decode cX10_copyElements 106 = .ok (.ladd, 1) := by decide +kernel
theorem dX10_copyElements_107 : decode cX10_copyElements 107 = .ok (.aload_n 0, 1) := by decide +kernel
theorem dX10_copyElements_108 : decode cX10_copyElements 108 = .ok (.getfield 47, 3) := by decide +kernel
theorem dX10_copyElements_111 : decode cX10_copyElements 111 = .ok (.iload_n 3, 1) := by decide +kernel
theorem dX10_copyElements_112 : decode cX10_copyElements 112 = .ok (.iaload, 1) := by decide +kernel
theorem dX10_copyElements_113 : decode cX10_copyElements 113 = .ok (.i2l, 1) := by decide +kernel
theorem dX10_copyElements_114 : decode cX10_copyElements 114 = .ok (.lcmp, 1) := by decide +kernel
theorem dX10_copyElements_115 : decode cX10_copyElements 115 = .ok (.ifCond .le 6, 3) := by decide +kernel
theorem dX10_copyElements_118 : decode cX10_copyElements 118 = .ok (.bipush (-13), 2) := by decide +kernel
theorem dX10_copyElements_120 : decode cX10_copyElements 120 = .ok (.ireturn, 1) := by decide +kernel
theorem dX10_copyElements_121 : decode cX10_copyElements 121 = .ok (.bipush 40, 2) := by decide +kernel
theorem dX10_copyElements_123 : decode cX10_copyElements 123 = .ok (.iload_n 1, 1) := by decide +kernel
theorem dX10_copyElements_124 : decode cX10_copyElements 124 = .ok (.imul, 1) := by decide +kernel
theorem dX10_copyElements_125 : decode cX10_copyElements 125 = .ok (.iload_n 2, 1) := by decide +kernel
theorem dX10_copyElements_126 : decode cX10_copyElements 126 = .ok (.iadd, 1) := by decide +kernel
theorem dX10_copyElements_127 : decode cX10_copyElements 127 = .ok (.istore 7, 2) := by decide +kernel
theorem dX10_copyElements_129 : decode cX10_copyElements 129 = .ok (.bipush 40, 2) := by decide +kernel
theorem dX10_copyElements_131 : decode cX10_copyElements 131 = .ok (.iload_n 3, 1) := by decide +kernel
theorem dX10_copyElements_132 : decode cX10_copyElements 132 = .ok (.imul, 1) := by decide +kernel
theorem dX10_copyElements_133 : decode cX10_copyElements 133 = .ok (.iload 4, 2) := by decide +kernel
theorem dX10_copyElements_135 : decode cX10_copyElements 135 = .ok (.iadd, 1) := by decide +kernel
theorem dX10_copyElements_136 : decode cX10_copyElements 136 = .ok (.istore 8, 2) := by decide +kernel
theorem dX10_copyElements_138 : decode cX10_copyElements 138 = .ok (.iconst 0, 1) := by decide +kernel
theorem dX10_copyElements_139 : decode cX10_copyElements 139 = .ok (.istore 9, 2) := by decide +kernel
theorem dX10_copyElements_141 : decode cX10_copyElements 141 = .ok (.iload 9, 2) := by decide +kernel
theorem dX10_copyElements_143 : decode cX10_copyElements 143 = .ok (.iload 5, 2) := by decide +kernel
theorem dX10_copyElements_145 : decode cX10_copyElements 145 = .ok (.if_icmp .ge 90, 3) := by decide +kernel
theorem dX10_copyElements_148 : decode cX10_copyElements 148 = .ok (.iload 7, 2) := by decide +kernel
theorem dX10_copyElements_150 : decode cX10_copyElements 150 = .ok (.iload 8, 2) := by decide +kernel
theorem dX10_copyElements_152 : decode cX10_copyElements 152 = .ok (.if_icmp .ge 13, 3) := by decide +kernel
theorem dX10_copyElements_155 : decode cX10_copyElements 155 = .ok (.iload 5, 2) := by decide +kernel
theorem dX10_copyElements_157 : decode cX10_copyElements 157 = .ok (.iconst 1, 1) := by decide +kernel
theorem dX10_copyElements_158 : decode cX10_copyElements 158 = .ok (.isub, 1) := by decide +kernel
theorem dX10_copyElements_159 : decode cX10_copyElements 159 = .ok (.iload 9, 2) := by decide +kernel
theorem dX10_copyElements_161 : decode cX10_copyElements 161 = .ok (.isub, 1) := by decide +kernel
theorem dX10_copyElements_162 : decode cX10_copyElements 162 = .ok (.goto 5, 3) := by decide +kernel
theorem dX10_copyElements_165 : decode cX10_copyElements 165 = .ok (.iload 9, 2) := by decide +kernel
theorem dX10_copyElements_167 : decode cX10_copyElements 167 = .ok (.istore 10, 2) := by decide +kernel
theorem dX10_copyElements_169 : decode cX10_copyElements 169 = .ok (.aload_n 0, 1) := by decide +kernel
theorem dX10_copyElements_170 : decode cX10_copyElements 170 = .ok (.getfield 50, 3) := by decide +kernel
theorem dX10_copyElements_173 : decode cX10_copyElements 173 = .ok (.iload 8, 2) := by decide +kernel
theorem dX10_copyElements_175 : decode cX10_copyElements 175 = .ok (.iload 10, 2) := by decide +kernel
theorem dX10_copyElements_177 : decode cX10_copyElements 177 = .ok (.iadd, 1) := by decide +kernel
theorem dX10_copyElements_178 : decode cX10_copyElements 178 = .ok (.aload_n 0, 1) := by decide +kernel
theorem dX10_copyElements_179 : decode cX10_copyElements 179 = .ok (.getfield 50, 3) := by decide +kernel
theorem dX10_copyElements_182 : decode cX10_copyElements 182 = .ok (.iload 7, 2) := by decide +kernel
theorem dX10_copyElements_184 : decode cX10_copyElements 184 = .ok (.iload 10, 2) := by decide +kernel
theorem dX10_copyElements_186 : decode cX10_copyElements 186 = .ok (.iadd, 1) := by decide +kernel
theorem dX10_copyElements_187 : decode cX10_copyElements 187 = .ok (.laload, 1) := by decide +kernel
theorem dX10_copyElements_188 : decode cX10_copyElements 188 = .ok (.lastore, 1) := by decide +kernel
theorem dX10_copyElements_189 : decode cX10_copyElements 189 = .ok (.aload_n 0, 1) := by decide +kernel
theorem dX10_copyElements_190 : decode cX10_copyElements 190 = .ok (.getfield 54, 3) := by decide +kernel
theorem dX10_copyElements_193 : decode cX10_copyElements 193 = .ok (.iload 8, 2) := by decide +kernel
theorem dX10_copyElements_195 : decode cX10_copyElements 195 = .ok (.iload 10, 2) := by decide +kernel
theorem dX10_copyElements_197 : decode cX10_copyElements 197 = .ok (.iadd, 1) := by decide +kernel
theorem dX10_copyElements_198 : decode cX10_copyElements 198 = .ok (.aload_n 0, 1) := by decide +kernel
theorem dX10_copyElements_199 : decode cX10_copyElements 199 = .ok (.getfield 54, 3) := by decide +kernel
theorem dX10_copyElements_202 : decode cX10_copyElements 202 = .ok (.iload 7, 2) := by decide +kernel
theorem dX10_copyElements_204 : decode cX10_copyElements 204 = .ok (.iload 10, 2) := by decide +kernel
theorem dX10_copyElements_206 : decode cX10_copyElements 206 = .ok (.iadd, 1) := by decide +kernel
theorem dX10_copyElements_207 : decode cX10_copyElements 207 = .ok (.faload, 1) := by decide +kernel
theorem dX10_copyElements_208 : decode cX10_copyElements 208 = .ok (.fastore, 1) := by decide +kernel
theorem dX10_copyElements_209 : decode cX10_copyElements 209 = .ok (.aload_n 0, 1) := by decide +kernel
theorem dX10_copyElements_210 : decode cX10_copyElements 210 = .ok (.getfield 57, 3) := by decide +kernel
theorem dX10_copyElements_213 : decode cX10_copyElements 213 = .ok (.iload 8, 2) := by decide +kernel
theorem dX10_copyElements_215 : decode cX10_copyElements 215 = .ok (.iload 10, 2) := by decide +kernel
theorem dX10_copyElements_217 : decode cX10_copyElements 217 = .ok (.iadd, 1) := by decide +kernel
theorem dX10_copyElements_218 : decode cX10_copyElements 218 = .ok (.aload_n 0, 1) := by decide +kernel
theorem dX10_copyElements_219 : decode cX10_copyElements 219 = .ok (.getfield 57, 3) := by decide +kernel
theorem dX10_copyElements_222 : decode cX10_copyElements 222 = .ok (.iload 7, 2) := by decide +kernel
theorem dX10_copyElements_224 : decode cX10_copyElements 224 = .ok (.iload 10, 2) := by decide +kernel
theorem dX10_copyElements_226 : decode cX10_copyElements 226 = .ok (.iadd, 1) := by decide +kernel
theorem dX10_copyElements_227 : decode cX10_copyElements 227 = .ok (.daload, 1) := by decide +kernel
theorem dX10_copyElements_228 : decode cX10_copyElements 228 = .ok (.dastore, 1) := by decide +kernel
theorem dX10_copyElements_229 : decode cX10_copyElements 229 = .ok (.iinc 9 1, 3) := by decide +kernel
theorem dX10_copyElements_232 : decode cX10_copyElements 232 = .ok (.goto (-91), 3) := by decide +kernel
theorem dX10_copyElements_235 : decode cX10_copyElements 235 = .ok (.iload 5, 2) := by decide +kernel
theorem dX10_copyElements_237 : decode cX10_copyElements 237 = .ok (.ireturn, 1) := by decide +kernel
theorem dX10_checkCertificate_0 : decode cX10_checkCertificate 0 = .ok (.iload_n 1, 1) := by decide +kernel
theorem dX10_checkCertificate_1 : decode cX10_checkCertificate 1 = .ok (.invokestatic 275, 3) := by decide +kernel
theorem dX10_checkCertificate_4 : decode cX10_checkCertificate 4 = .ok (.ifCond .ne 5, 3) := by decide +kernel
theorem dX10_checkCertificate_7 : decode cX10_checkCertificate 7 = .ok (.iconst (-1), 1) := by decide +kernel
theorem dX10_checkCertificate_8 : decode cX10_checkCertificate 8 = .ok (.ireturn, 1) := by decide +kernel
theorem dX10_checkCertificate_9 : decode cX10_checkCertificate 9 = .ok (.aload_n 0, 1) := by decide +kernel
theorem dX10_checkCertificate_10 : decode cX10_checkCertificate 10 = .ok (.getfield 44, 3) := by decide +kernel
theorem dX10_checkCertificate_13 : decode cX10_checkCertificate 13 = .ok (.iload_n 1, 1) := by decide +kernel
theorem dX10_checkCertificate_14 : decode cX10_checkCertificate 14 = .ok (.iaload, 1) := by decide +kernel
theorem dX10_checkCertificate_15 : decode cX10_checkCertificate 15 = .ok (.iconst (-1), 1) := by decide +kernel
theorem dX10_checkCertificate_16 : decode cX10_checkCertificate 16 = .ok (.if_icmp .ne 6, 3) := by decide +kernel
theorem dX10_checkCertificate_19 : decode cX10_checkCertificate 19 = .ok (.bipush (-11), 2) := by decide +kernel
theorem dX10_checkCertificate_21 : decode cX10_checkCertificate 21 = .ok (.ireturn, 1) := by decide +kernel
theorem dX10_checkCertificate_22 : decode cX10_checkCertificate 22 = .ok (.aload_n 0, 1) := by decide +kernel
theorem dX10_checkCertificate_23 : decode cX10_checkCertificate 23 = .ok (.getfield 44, 3) := by decide +kernel
theorem dX10_checkCertificate_26 : decode cX10_checkCertificate 26 = .ok (.iload_n 1, 1) := by decide +kernel
theorem dX10_checkCertificate_27 : decode cX10_checkCertificate 27 = .ok (.iaload, 1) := by decide +kernel
theorem dX10_checkCertificate_28 : decode cX10_checkCertificate 28 = .ok (.ifCond .eq 6, 3) := by decide +kernel
theorem dX10_checkCertificate_31 : decode cX10_checkCertificate 31 = .ok (.bipush (-12), 2) := by decide +kernel
theorem dX10_checkCertificate_33 : decode cX10_checkCertificate 33 = .ok (.ireturn, 1) := by decide +kernel
theorem dX10_checkCertificate_34 : decode cX10_checkCertificate 34 = .ok (.aload_n 0, 1) := by decide +kernel
theorem dX10_checkCertificate_35 : decode cX10_checkCertificate 35 = .ok (.getfield 47, 3) := by decide +kernel
theorem dX10_checkCertificate_38 : decode cX10_checkCertificate 38 = .ok (.iload_n 1, 1) := by decide +kernel
theorem dX10_checkCertificate_39 : decode cX10_checkCertificate 39 = .ok (.iaload, 1) := by decide +kernel
theorem dX10_checkCertificate_40 : decode cX10_checkCertificate 40 = .ok (.aload_n 0, 1) := by decide +kernel
theorem dX10_checkCertificate_41 : decode cX10_checkCertificate 41 = .ok (.getfield 119, 3) := by decide +kernel
theorem dX10_checkCertificate_44 : decode cX10_checkCertificate 44 = .ok (.if_icmp .ge 6, 3) := by decide +kernel
theorem dX10_checkCertificate_47 : decode cX10_checkCertificate 47 = .ok (.bipush (-13), 2) := by decide +kernel
theorem dX10_checkCertificate_49 : decode cX10_checkCertificate 49 = .ok (.ireturn, 1) := by decide +kernel
theorem dX10_checkCertificate_50 : decode cX10_checkCertificate 50 = .ok (.iconst 0, 1) := by decide +kernel
theorem dX10_checkCertificate_51 : decode cX10_checkCertificate 51 = .ok (.istore_n 2, 1) := by decide +kernel
theorem dX10_checkCertificate_52 : decode cX10_checkCertificate 52 = .ok (.iconst 1, 1) := by decide +kernel
theorem dX10_checkCertificate_53 : decode cX10_checkCertificate 53 = .ok (.istore_n 3, 1) := by decide +kernel
theorem dX10_checkCertificate_54 : decode cX10_checkCertificate 54 = .ok (.iconst 0, 1) := by decide +kernel
theorem dX10_checkCertificate_55 : decode cX10_checkCertificate 55 = .ok (.istore 4, 2) := by decide +kernel
theorem dX10_checkCertificate_57 : decode cX10_checkCertificate 57 = .ok (.iload 4, 2) := by decide +kernel
theorem dX10_checkCertificate_59 : decode cX10_checkCertificate 59 = .ok (.aload_n 0, 1) := by decide +kernel
theorem dX10_checkCertificate_60 : decode cX10_checkCertificate 60 = .ok (.getfield 119, 3) := by decide +kernel
theorem dX10_checkCertificate_63 : decode cX10_checkCertificate 63 = .ok (.if_icmp .ge 63, 3) := by decide +kernel
theorem dX10_checkCertificate_66 : decode cX10_checkCertificate 66 = .ok (.iload_n 2, 1) := by decide +kernel
theorem dX10_checkCertificate_67 : decode cX10_checkCertificate 67 = .ok (.ifCond .ne 20, 3) := by decide +kernel
theorem dX10_checkCertificate_70 : decode cX10_checkCertificate 70 = .ok (.aload_n 0, 1) := by decide +kernel
theorem dX10_checkCertificate_71 : decode cX10_checkCertificate 71 = .ok (.getfield 50, 3) := by decide +kernel
theorem dX10_checkCertificate_74 : decode cX10_checkCertificate 74 = .ok (.bipush 40, 2) := by decide +kernel
theorem dX10_checkCertificate_76 : decode cX10_checkCertificate 76 = .ok (.iload_n 1, 1) := by decide +kernel
theorem dX10_checkCertificate_77 : decode cX10_checkCertificate 77 = .ok (.imul, 1) := by decide +kernel
theorem dX10_checkCertificate_78 : decode cX10_checkCertificate 78 = .ok (.iload 4, 2) := by decide +kernel
theorem dX10_checkCertificate_80 : decode cX10_checkCertificate 80 = .ok (.iadd, 1) := by decide +kernel
theorem dX10_checkCertificate_81 : decode cX10_checkCertificate 81 = .ok (.laload, 1) := by decide +kernel
theorem dX10_checkCertificate_82 : decode cX10_checkCertificate 82 = .ok (.lconst 0, 1) := by decide +kernel
theorem dX10_checkCertificate_83 : decode cX10_checkCertificate 83 = .ok (.lcmp, 1) := by decide +kernel
theorem dX10_checkCertificate_84 : decode cX10_checkCertificate 84 = .ok (.ifCond .eq 7, 3) := by decide +kernel
theorem dX10_checkCertificate_87 : decode cX10_checkCertificate 87 = .ok (.iconst 1, 1) := by decide +kernel
theorem dX10_checkCertificate_88 : decode cX10_checkCertificate 88 = .ok (.goto 4, 3) := by decide +kernel
theorem dX10_checkCertificate_91 : decode cX10_checkCertificate 91 = .ok (.iconst 0, 1) := by decide +kernel
theorem dX10_checkCertificate_92 : decode cX10_checkCertificate 92 = .ok (.istore_n 2, 1) := by decide +kernel
theorem dX10_checkCertificate_93 : decode cX10_checkCertificate 93 = .ok (.iload_n 3, 1) := by decide +kernel
theorem dX10_checkCertificate_94 : decode cX10_checkCertificate 94 = .ok (.ifCond .eq 24, 3) := by decide +kernel
theorem dX10_checkCertificate_97 : decode cX10_checkCertificate 97 = .ok (.aload_n 0, 1) := by decide +kernel
theorem dX10_checkCertificate_98 : decode cX10_checkCertificate 98 = .ok (.getfield 50, 3) := by decide +kernel
theorem dX10_checkCertificate_101 : decode cX10_checkCertificate 101 = .ok (.bipush 40, 2) := by decide +kernel
theorem dX10_checkCertificate_103 : decode cX10_checkCertificate 103 = .ok (.iload_n 1, 1) := by decide +kernel
theorem dX10_checkCertificate_104 : decode cX10_checkCertificate 104 = .ok (.imul, 1) := by decide +kernel
theorem dX10_checkCertificate_105 : decode cX10_checkCertificate 105 = .ok (.iload 4, 2) := by decide +kernel
theorem dX10_checkCertificate_107 : decode cX10_checkCertificate 107 = .ok (.iadd, 1) := by decide +kernel
theorem dX10_checkCertificate_108 : decode cX10_checkCertificate 108 = .ok (.laload, 1) := by decide +kernel
theorem dX10_checkCertificate_109 : decode cX10_checkCertificate 109 = .ok (.lconst 0, 1) := by decide +kernel
theorem dX10_checkCertificate_110 : decode cX10_checkCertificate 110 = .ok (.lcmp, 1) := by decide +kernel
theorem dX10_checkCertificate_111 : decode cX10_checkCertificate 111 = .ok (.ifCond .lt 7, 3) := by decide +kernel
theorem dX10_checkCertificate_114 : decode cX10_checkCertificate 114 = .ok (.iconst 1, 1) := by decide +kernel
theorem dX10_checkCertificate_115 : decode cX10_checkCertificate 115 = .ok (.goto 4, 3) := by decide +kernel
theorem dX10_checkCertificate_118 : decode cX10_checkCertificate 118 = .ok (.iconst 0, 1) := by decide +kernel
theorem dX10_checkCertificate_119 : decode cX10_checkCertificate 119 = .ok (.istore_n 3, 1) := by decide +kernel
theorem dX10_checkCertificate_120 : decode cX10_checkCertificate 120 = .ok (.iinc 4 1, 3) := by decide +kernel
theorem dX10_checkCertificate_123 : decode cX10_checkCertificate 123 = .ok (.goto (-66), 3) := by decide +kernel
theorem dX10_checkCertificate_126 : decode cX10_checkCertificate 126 = .ok (.iconst 0, 1) := by decide +kernel
theorem dX10_checkCertificate_127 : decode cX10_checkCertificate 127 = .ok (.istore 4, 2) := by decide +kernel
theorem dX10_checkCertificate_129 : decode cX10_checkCertificate 129 = .ok (.iload 4, 2) := by decide +kernel
theorem dX10_checkCertificate_131 : decode cX10_checkCertificate 131 = .ok (.aload_n 0, 1) := by decide +kernel
theorem dX10_checkCertificate_132 : decode cX10_checkCertificate 132 = .ok (.getfield 9, 3) := by decide +kernel
theorem dX10_checkCertificate_135 : decode cX10_checkCertificate 135 = .ok (.if_icmp .ge 74, 3) := by decide +kernel
theorem dX10_checkCertificate_138 : decode cX10_checkCertificate 138 = .ok (.lconst 0, 1) := by decide +kernel
theorem dX10_checkCertificate_139 : decode cX10_checkCertificate 139 = .ok (.lstore 5, 2) := by decide +kernel
theorem dX10_checkCertificate_141 : decode cX10_checkCertificate 141 = .ok (.iconst 0, 1) := by decide +kernel
theorem dX10_checkCertificate_142 : decode cX10_checkCertificate 142 = .ok (.istore 7, 2) := by decide +kernel
theorem dX10_checkCertificate_144 : decode cX10_checkCertificate 144 = .ok (.iload 7, 2) := by decide +kernel
theorem dX10_checkCertificate_146 : decode cX10_checkCertificate 146 = .ok (.aload_n 0, 1) := by decide +kernel
theorem dX10_checkCertificate_147 : decode cX10_checkCertificate 147 = .ok (.getfield 119, 3) := by decide +kernel
theorem dX10_checkCertificate_150 : decode cX10_checkCertificate 150 = .ok (.if_icmp .ge 36, 3) := by decide +kernel
theorem dX10_checkCertificate_153 : decode cX10_checkCertificate 153 = .ok (.lload 5, 2) := by decide +kernel
theorem dX10_checkCertificate_155 : decode cX10_checkCertificate 155 = .ok (.aload_n 0, 1) := by decide +kernel
theorem dX10_checkCertificate_156 : decode cX10_checkCertificate 156 = .ok (.getfield 50, 3) := by decide +kernel
theorem dX10_checkCertificate_159 : decode cX10_checkCertificate 159 = .ok (.bipush 40, 2) := by decide +kernel
theorem dX10_checkCertificate_161 : decode cX10_checkCertificate 161 = .ok (.iload_n 1, 1) := by decide +kernel
theorem dX10_checkCertificate_162 : decode cX10_checkCertificate 162 = .ok (.imul, 1) := by decide +kernel
theorem dX10_checkCertificate_163 : decode cX10_checkCertificate 163 = .ok (.iload 7, 2) := by decide +kernel
theorem dX10_checkCertificate_165 : decode cX10_checkCertificate 165 = .ok (.iadd, 1) := by decide +kernel
theorem dX10_checkCertificate_166 : decode cX10_checkCertificate 166 = .ok (.laload, 1) := by decide +kernel
theorem dX10_checkCertificate_167 : decode cX10_checkCertificate 167 = .ok (.aload_n 0, 1) := by decide +kernel
theorem dX10_checkCertificate_168 : decode cX10_checkCertificate 168 = .ok (.iload 7, 2) := by decide +kernel
theorem dX10_checkCertificate_170 : decode cX10_checkCertificate 170 = .ok (.iload 4, 2) := by decide +kernel
theorem dX10_checkCertificate_172 : decode cX10_checkCertificate 172 = .ok (.invokevirtual 159, 3) := by decide +kernel
theorem dX10_checkCertificate_175 : decode cX10_checkCertificate 175 = .ok (.i2l, 1) := by decide +kernel
theorem dX10_checkCertificate_176 : decode cX10_checkCertificate 176 = .ok (.lmul, 1) := by decide +kernel
theorem dX10_checkCertificate_177 : decode cX10_checkCertificate 177 = .ok (.ladd, 1) := by decide +kernel
theorem dX10_checkCertificate_178 : decode cX10_checkCertificate 178 = .ok (.lstore 5, 2) := by decide +kernel
theorem dX10_checkCertificate_180 : decode cX10_checkCertificate 180 = .ok (.iinc 7 1, 3) := by decide +kernel
theorem dX10_checkCertificate_183 : decode cX10_checkCertificate 183 = .ok (.goto (-39), 3) := by decide +kernel
theorem dX10_checkCertificate_186 : decode cX10_checkCertificate 186 = .ok (.iload_n 3, 1) := by decide +kernel
theorem dX10_checkCertificate_187 : decode cX10_checkCertificate 187 = .ok (.ifCond .eq 14, 3) := by decide +kernel
theorem dX10_checkCertificate_190 : decode cX10_checkCertificate 190 = .ok (.lload 5, 2) := by decide +kernel
theorem dX10_checkCertificate_192 : decode cX10_checkCertificate 192 = .ok (.lconst 0, 1) := by decide +kernel
theorem dX10_checkCertificate_193 : decode cX10_checkCertificate 193 = .ok (.lcmp, 1) := by decide +kernel
theorem dX10_checkCertificate_194 : decode cX10_checkCertificate 194 = .ok (.ifCond .gt 7, 3) := by decide +kernel
theorem dX10_checkCertificate_197 : decode cX10_checkCertificate 197 = .ok (.iconst 1, 1) := by decide +kernel
theorem dX10_checkCertificate_198 : decode cX10_checkCertificate 198 = .ok (.goto 4, 3) := by decide +kernel
theorem dX10_checkCertificate_201 : decode cX10_checkCertificate 201 = .ok (.iconst 0, 1) := by decide +kernel
theorem dX10_checkCertificate_202 : decode cX10_checkCertificate 202 = .ok (.istore_n 3, 1) := by decide +kernel
theorem dX10_checkCertificate_203 : decode cX10_checkCertificate 203 = .ok (.iinc 4 1, 3) := by decide +kernel
theorem dX10_checkCertificate_206 : decode cX10_checkCertificate 206 = .ok (.goto (-77), 3) := by decide +kernel
theorem dX10_checkCertificate_209 : decode cX10_checkCertificate 209 = .ok (.iload_n 2, 1) := by decide +kernel
theorem dX10_checkCertificate_210 : decode cX10_checkCertificate 210 = .ok (.ifCond .eq 11, 3) := by decide +kernel
theorem dX10_checkCertificate_213 : decode cX10_checkCertificate 213 = .ok (.iload_n 3, 1) := by decide +kernel
theorem dX10_checkCertificate_214 : decode cX10_checkCertificate 214 = .ok (.ifCond .eq 7, 3) := by decide +kernel
theorem dX10_checkCertificate_217 : decode cX10_checkCertificate 217 = .ok (.iconst 1, 1) := by decide +kernel
theorem dX10_checkCertificate_218 : decode cX10_checkCertificate 218 = .ok (.goto 4, 3) := by decide +kernel
theorem dX10_checkCertificate_221 : decode cX10_checkCertificate 221 = .ok (.iconst 0, 1) := by decide +kernel
theorem dX10_checkCertificate_222 : decode cX10_checkCertificate 222 = .ok (.ireturn, 1) := by decide +kernel
theorem dX10_snapshot_0 : decode cX10_snapshot 0 = .ok (.aload_n 0, 1) := by decide +kernel
theorem dX10_snapshot_1 : decode cX10_snapshot 1 = .ok (.iconst 1, 1) := by decide +kernel
theorem dX10_snapshot_2 : decode cX10_snapshot 2 = .ok (.putfield 281, 3) := by decide +kernel
theorem dX10_snapshot_5 : decode cX10_snapshot 5 = .ok (.aload_n 0, 1) := by decide +kernel
theorem dX10_snapshot_6 : decode cX10_snapshot 6 = .ok (.aload_n 0, 1) := by decide +kernel
theorem dX10_snapshot_7 : decode cX10_snapshot 7 = .ok (.getfield 9, 3) := by decide +kernel
theorem dX10_snapshot_10 : decode cX10_snapshot 10 = .ok (.putfield 285, 3) := by decide +kernel
theorem dX10_snapshot_13 : decode cX10_snapshot 13 = .ok (.aload_n 0, 1) := by decide +kernel
theorem dX10_snapshot_14 : decode cX10_snapshot 14 = .ok (.aload_n 0, 1) := by decide +kernel
theorem dX10_snapshot_15 : decode cX10_snapshot 15 = .ok (.getfield 119, 3) := by decide +kernel
theorem dX10_snapshot_18 : decode cX10_snapshot 18 = .ok (.putfield 288, 3) := by decide +kernel
theorem dX10_snapshot_21 : decode cX10_snapshot 21 = .ok (.aload_n 0, 1) := by decide +kernel
theorem dX10_snapshot_22 : decode cX10_snapshot 22 = .ok (.aload_n 0, 1) := by decide +kernel
theorem dX10_snapshot_23 : decode cX10_snapshot 23 = .ok (.getfield 130, 3) := by decide +kernel
theorem dX10_snapshot_26 : decode cX10_snapshot 26 = .ok (.putfield 291, 3) := by decide +kernel
theorem dX10_snapshot_29 : decode cX10_snapshot 29 = .ok (.aload_n 0, 1) := by decide +kernel
theorem dX10_snapshot_30 : decode cX10_snapshot 30 = .ok (.aload_n 0, 1) := by decide +kernel
theorem dX10_snapshot_31 : decode cX10_snapshot 31 = .ok (.getfield 124, 3) := by decide +kernel
theorem dX10_snapshot_34 : decode cX10_snapshot 34 = .ok (.putfield 294, 3) := by decide +kernel
theorem dX10_snapshot_37 : decode cX10_snapshot 37 = .ok (.iconst 0, 1) := by decide +kernel
theorem dX10_snapshot_38 : decode cX10_snapshot 38 = .ok (.istore_n 1, 1) := by decide +kernel
theorem dX10_snapshot_39 : decode cX10_snapshot 39 = .ok (.iload_n 1, 1) := by decide +kernel
theorem dX10_snapshot_40 : decode cX10_snapshot 40 = .ok (.bipush 96, 2) := by decide +kernel
theorem dX10_snapshot_42 : decode cX10_snapshot 42 = .ok (.if_icmp .ge 21, 3) := by decide +kernel
theorem dX10_snapshot_45 : decode cX10_snapshot 45 = .ok (.aload_n 0, 1) := by decide +kernel
theorem dX10_snapshot_46 : decode cX10_snapshot 46 = .ok (.getfield 64, 3) := by decide +kernel
theorem dX10_snapshot_49 : decode cX10_snapshot 49 = .ok (.iload_n 1, 1) := by decide +kernel
theorem dX10_snapshot_50 : decode cX10_snapshot 50 = .ok (.aload_n 0, 1) := by decide +kernel
theorem dX10_snapshot_51 : decode cX10_snapshot 51 = .ok (.getfield 19, 3) := by decide +kernel
theorem dX10_snapshot_54 : decode cX10_snapshot 54 = .ok (.iload_n 1, 1) := by decide +kernel
theorem dX10_snapshot_55 : decode cX10_snapshot 55 = .ok (.iaload, 1) := by decide +kernel
theorem dX10_snapshot_56 : decode cX10_snapshot 56 = .ok (.iastore, 1) := by decide +kernel
theorem dX10_snapshot_57 : decode cX10_snapshot 57 = .ok (.iinc 1 1, 3) := by decide +kernel
theorem dX10_snapshot_60 : decode cX10_snapshot 60 = .ok (.goto (-21), 3) := by decide +kernel
theorem dX10_snapshot_63 : decode cX10_snapshot 63 = .ok (.iconst 0, 1) := by decide +kernel
theorem dX10_snapshot_64 : decode cX10_snapshot 64 = .ok (.istore_n 1, 1) := by decide +kernel
theorem dX10_snapshot_65 : decode cX10_snapshot 65 = .ok (.iload_n 1, 1) := by decide +kernel
theorem dX10_snapshot_66 : decode cX10_snapshot 66 = .ok (.bipush 16, 2) := by decide +kernel
theorem dX10_snapshot_68 : decode cX10_snapshot 68 = .ok (.if_icmp .ge 21, 3) := by decide +kernel
theorem dX10_snapshot_71 : decode cX10_snapshot 71 = .ok (.aload_n 0, 1) := by decide +kernel
theorem dX10_snapshot_72 : decode cX10_snapshot 72 = .ok (.getfield 61, 3) := by decide +kernel
theorem dX10_snapshot_75 : decode cX10_snapshot 75 = .ok (.iload_n 1, 1) := by decide +kernel
theorem dX10_snapshot_76 : decode cX10_snapshot 76 = .ok (.aload_n 0, 1) := by decide +kernel
theorem dX10_snapshot_77 : decode cX10_snapshot 77 = .ok (.getfield 15, 3) := by decide +kernel
theorem dX10_snapshot_80 : decode cX10_snapshot 80 = .ok (.iload_n 1, 1) := by decide +kernel
theorem dX10_snapshot_81 : decode cX10_snapshot 81 = .ok (.iaload, 1) := by decide +kernel
theorem dX10_snapshot_82 : decode cX10_snapshot 82 = .ok (.iastore, 1) := by decide +kernel
theorem dX10_snapshot_83 : decode cX10_snapshot 83 = .ok (.iinc 1 1, 3) := by decide +kernel
theorem dX10_snapshot_86 : decode cX10_snapshot 86 = .ok (.goto (-21), 3) := by decide +kernel
theorem dX10_snapshot_89 : decode cX10_snapshot 89 = .ok (.iconst 0, 1) := by decide +kernel
theorem dX10_snapshot_90 : decode cX10_snapshot 90 = .ok (.istore_n 1, 1) := by decide +kernel
theorem dX10_snapshot_91 : decode cX10_snapshot 91 = .ok (.iload_n 1, 1) := by decide +kernel
theorem dX10_snapshot_92 : decode cX10_snapshot 92 = .ok (.bipush 6, 2) := by decide +kernel
theorem dX10_snapshot_94 : decode cX10_snapshot 94 = .ok (.if_icmp .ge 45, 3) := by decide +kernel
theorem dX10_snapshot_97 : decode cX10_snapshot 97 = .ok (.aload_n 0, 1) := by decide +kernel
theorem dX10_snapshot_98 : decode cX10_snapshot 98 = .ok (.getfield 67, 3) := by decide +kernel
theorem dX10_snapshot_101 : decode cX10_snapshot 101 = .ok (.iload_n 1, 1) := by decide +kernel
theorem dX10_snapshot_102 : decode cX10_snapshot 102 = .ok (.aload_n 0, 1) := by decide +kernel
theorem dX10_snapshot_103 : decode cX10_snapshot 103 = .ok (.getfield 22, 3) := by decide +kernel
theorem dX10_snapshot_106 : decode cX10_snapshot 106 = .ok (.iload_n 1, 1) := by decide +kernel
theorem dX10_snapshot_107 : decode cX10_snapshot 107 = .ok (.iaload, 1) := by decide +kernel
theorem dX10_snapshot_108 : decode cX10_snapshot 108 = .ok (.iastore, 1) := by decide +kernel
theorem dX10_snapshot_109 : decode cX10_snapshot 109 = .ok (.aload_n 0, 1) := by decide +kernel
theorem dX10_snapshot_110 : decode cX10_snapshot 110 = .ok (.getfield 70, 3) := by decide +kernel
theorem dX10_snapshot_113 : decode cX10_snapshot 113 = .ok (.iload_n 1, 1) := by decide +kernel
theorem dX10_snapshot_114 : decode cX10_snapshot 114 = .ok (.aload_n 0, 1) := by decide +kernel
theorem dX10_snapshot_115 : decode cX10_snapshot 115 = .ok (.getfield 25, 3) := by decide +kernel
theorem dX10_snapshot_118 : decode cX10_snapshot 118 = .ok (.iload_n 1, 1) := by decide +kernel
theorem dX10_snapshot_119 : decode cX10_snapshot 119 = .ok (.iaload, 1) := by decide +kernel
theorem dX10_snapshot_120 : decode cX10_snapshot 120 = .ok (.iastore, 1) := by decide +kernel
theorem dX10_snapshot_121 : decode cX10_snapshot 121 = .ok (.aload_n 0, 1) := by decide +kernel
theorem dX10_snapshot_122 : decode cX10_snapshot 122 = .ok (.getfield 73, 3) := by decide +kernel
theorem dX10_snapshot_125 : decode cX10_snapshot 125 = .ok (.iload_n 1, 1) := by decide +kernel
theorem dX10_snapshot_126 : decode cX10_snapshot 126 = .ok (.aload_n 0, 1) := by decide +kernel
theorem dX10_snapshot_127 : decode cX10_snapshot 127 = .ok (.getfield 28, 3) := by decide +kernel
theorem dX10_snapshot_130 : decode cX10_snapshot 130 = .ok (.iload_n 1, 1) := by decide +kernel
theorem dX10_snapshot_131 : decode cX10_snapshot 131 = .ok (.faload, 1) := by decide +kernel
theorem dX10_snapshot_132 : decode cX10_snapshot 132 = .ok (.fastore, 1) := by decide +kernel
theorem dX10_snapshot_133 : decode cX10_snapshot 133 = .ok (.iinc 1 1, 3) := by decide +kernel
theorem dX10_snapshot_136 : decode cX10_snapshot 136 = .ok (.goto (-45), 3) := by decide +kernel
theorem dX10_snapshot_139 : decode cX10_snapshot 139 = .ok (.iconst 0, 1) := by decide +kernel
theorem dX10_snapshot_140 : decode cX10_snapshot 140 = .ok (.istore_n 1, 1) := by decide +kernel
theorem dX10_snapshot_141 : decode cX10_snapshot 141 = .ok (.iload_n 1, 1) := by decide +kernel
theorem dX10_snapshot_142 : decode cX10_snapshot 142 = .ok (.bipush 12, 2) := by decide +kernel
theorem dX10_snapshot_144 : decode cX10_snapshot 144 = .ok (.if_icmp .ge 21, 3) := by decide +kernel
theorem dX10_snapshot_147 : decode cX10_snapshot 147 = .ok (.aload_n 0, 1) := by decide +kernel
theorem dX10_snapshot_148 : decode cX10_snapshot 148 = .ok (.getfield 76, 3) := by decide +kernel
theorem dX10_snapshot_151 : decode cX10_snapshot 151 = .ok (.iload_n 1, 1) := by decide +kernel
theorem dX10_snapshot_152 : decode cX10_snapshot 152 = .ok (.aload_n 0, 1) := by decide +kernel
theorem dX10_snapshot_153 : decode cX10_snapshot 153 = .ok (.getfield 35, 3) := by decide +kernel
theorem dX10_snapshot_156 : decode cX10_snapshot 156 = .ok (.iload_n 1, 1) := by decide +kernel
theorem dX10_snapshot_157 : decode cX10_snapshot 157 = .ok (.iaload, 1) := by decide +kernel
theorem dX10_snapshot_158 : decode cX10_snapshot 158 = .ok (.iastore, 1) := by decide +kernel
theorem dX10_snapshot_159 : decode cX10_snapshot 159 = .ok (.iinc 1 1, 3) := by decide +kernel
theorem dX10_snapshot_162 : decode cX10_snapshot 162 = .ok (.goto (-21), 3) := by decide +kernel
theorem dX10_snapshot_165 : decode cX10_snapshot 165 = .ok (.aload_n 0, 1) := by decide +kernel
theorem dX10_snapshot_166 : decode cX10_snapshot 166 = .ok (.getfield 119, 3) := by decide +kernel
theorem dX10_snapshot_169 : decode cX10_snapshot 169 = .ok (.ireturn, 1) := by decide +kernel
theorem dX10_restore_0 : decode cX10_restore 0 = .ok (.aload_n 0, 1) := by decide +kernel
theorem dX10_restore_1 : decode cX10_restore 1 = .ok (.getfield 281, 3) := by decide +kernel
theorem dX10_restore_4 : decode cX10_restore 4 = .ok (.ifCond .ne 6, 3) := by decide +kernel
theorem dX10_restore_7 : decode cX10_restore 7 = .ok (.bipush (-6), 2) := by decide +kernel
theorem dX10_restore_9 : decode cX10_restore 9 = .ok (.ireturn, 1) := by decide +kernel
theorem dX10_restore_10 : decode cX10_restore 10 = .ok (.aload_n 0, 1) := by decide +kernel
theorem dX10_restore_11 : decode cX10_restore 11 = .ok (.aload_n 0, 1) := by decide +kernel
theorem dX10_restore_12 : decode cX10_restore 12 = .ok (.getfield 285, 3) := by decide +kernel
theorem dX10_restore_15 : decode cX10_restore 15 = .ok (.putfield 9, 3) := by decide +kernel
theorem dX10_restore_18 : decode cX10_restore 18 = .ok (.aload_n 0, 1) := by decide +kernel
theorem dX10_restore_19 : decode cX10_restore 19 = .ok (.aload_n 0, 1) := by decide +kernel
theorem dX10_restore_20 : decode cX10_restore 20 = .ok (.getfield 288, 3) := by decide +kernel
theorem dX10_restore_23 : decode cX10_restore 23 = .ok (.putfield 119, 3) := by decide +kernel
theorem dX10_restore_26 : decode cX10_restore 26 = .ok (.aload_n 0, 1) := by decide +kernel
theorem dX10_restore_27 : decode cX10_restore 27 = .ok (.aload_n 0, 1) := by decide +kernel
theorem dX10_restore_28 : decode cX10_restore 28 = .ok (.getfield 291, 3) := by decide +kernel
theorem dX10_restore_31 : decode cX10_restore 31 = .ok (.putfield 130, 3) := by decide +kernel
theorem dX10_restore_34 : decode cX10_restore 34 = .ok (.aload_n 0, 1) := by decide +kernel
theorem dX10_restore_35 : decode cX10_restore 35 = .ok (.aload_n 0, 1) := by decide +kernel
theorem dX10_restore_36 : decode cX10_restore 36 = .ok (.getfield 294, 3) := by decide +kernel
theorem dX10_restore_39 : decode cX10_restore 39 = .ok (.putfield 124, 3) := by decide +kernel
theorem dX10_restore_42 : decode cX10_restore 42 = .ok (.aload_n 0, 1) := by decide +kernel
theorem dX10_restore_43 : decode cX10_restore 43 = .ok (.iconst 0, 1) := by decide +kernel
theorem dX10_restore_44 : decode cX10_restore 44 = .ok (.putfield 127, 3) := by decide +kernel
theorem dX10_restore_47 : decode cX10_restore 47 = .ok (.iconst 0, 1) := by decide +kernel
theorem dX10_restore_48 : decode cX10_restore 48 = .ok (.istore_n 1, 1) := by decide +kernel
theorem dX10_restore_49 : decode cX10_restore 49 = .ok (.iload_n 1, 1) := by decide +kernel
theorem dX10_restore_50 : decode cX10_restore 50 = .ok (.bipush 96, 2) := by decide +kernel
theorem dX10_restore_52 : decode cX10_restore 52 = .ok (.if_icmp .ge 21, 3) := by decide +kernel
theorem dX10_restore_55 : decode cX10_restore 55 = .ok (.aload_n 0, 1) := by decide +kernel
theorem dX10_restore_56 : decode cX10_restore 56 = .ok (.getfield 19, 3) := by decide +kernel
theorem dX10_restore_59 : decode cX10_restore 59 = .ok (.iload_n 1, 1) := by decide +kernel
theorem dX10_restore_60 : decode cX10_restore 60 = .ok (.aload_n 0, 1) := by decide +kernel
theorem dX10_restore_61 : decode cX10_restore 61 = .ok (.getfield 64, 3) := by decide +kernel
theorem dX10_restore_64 : decode cX10_restore 64 = .ok (.iload_n 1, 1) := by decide +kernel
theorem dX10_restore_65 : decode cX10_restore 65 = .ok (.iaload, 1) := by decide +kernel
theorem dX10_restore_66 : decode cX10_restore 66 = .ok (.iastore, 1) := by decide +kernel
theorem dX10_restore_67 : decode cX10_restore 67 = .ok (.iinc 1 1, 3) := by decide +kernel
theorem dX10_restore_70 : decode cX10_restore 70 = .ok (.goto (-21), 3) := by decide +kernel
theorem dX10_restore_73 : decode cX10_restore 73 = .ok (.iconst 0, 1) := by decide +kernel
theorem dX10_restore_74 : decode cX10_restore 74 = .ok (.istore_n 1, 1) := by decide +kernel
theorem dX10_restore_75 : decode cX10_restore 75 = .ok (.iload_n 1, 1) := by decide +kernel
theorem dX10_restore_76 : decode cX10_restore 76 = .ok (.bipush 16, 2) := by decide +kernel
theorem dX10_restore_78 : decode cX10_restore 78 = .ok (.if_icmp .ge 21, 3) := by decide +kernel
theorem dX10_restore_81 : decode cX10_restore 81 = .ok (.aload_n 0, 1) := by decide +kernel
theorem dX10_restore_82 : decode cX10_restore 82 = .ok (.getfield 15, 3) := by decide +kernel
theorem dX10_restore_85 : decode cX10_restore 85 = .ok (.iload_n 1, 1) := by decide +kernel
theorem dX10_restore_86 : decode cX10_restore 86 = .ok (.aload_n 0, 1) := by decide +kernel
theorem dX10_restore_87 : decode cX10_restore 87 = .ok (.getfield 61, 3) := by decide +kernel
theorem dX10_restore_90 : decode cX10_restore 90 = .ok (.iload_n 1, 1) := by decide +kernel
theorem dX10_restore_91 : decode cX10_restore 91 = .ok (.iaload, 1) := by decide +kernel
theorem dX10_restore_92 : decode cX10_restore 92 = .ok (.iastore, 1) := by decide +kernel
theorem dX10_restore_93 : decode cX10_restore 93 = .ok (.iinc 1 1, 3) := by decide +kernel
theorem dX10_restore_96 : decode cX10_restore 96 = .ok (.goto (-21), 3) := by decide +kernel
theorem dX10_restore_99 : decode cX10_restore 99 = .ok (.iconst 0, 1) := by decide +kernel
theorem dX10_restore_100 : decode cX10_restore 100 = .ok (.istore_n 1, 1) := by decide +kernel
theorem dX10_restore_101 : decode cX10_restore 101 = .ok (.iload_n 1, 1) := by decide +kernel
theorem dX10_restore_102 : decode cX10_restore 102 = .ok (.bipush 6, 2) := by decide +kernel
theorem dX10_restore_104 : decode cX10_restore 104 = .ok (.if_icmp .ge 45, 3) := by decide +kernel
theorem dX10_restore_107 : decode cX10_restore 107 = .ok (.aload_n 0, 1) := by decide +kernel
theorem dX10_restore_108 : decode cX10_restore 108 = .ok (.getfield 22, 3) := by decide +kernel
theorem dX10_restore_111 : decode cX10_restore 111 = .ok (.iload_n 1, 1) := by decide +kernel
theorem dX10_restore_112 : decode cX10_restore 112 = .ok (.aload_n 0, 1) := by decide +kernel
theorem dX10_restore_113 : decode cX10_restore 113 = .ok (.getfield 67, 3) := by decide +kernel
theorem dX10_restore_116 : decode cX10_restore 116 = .ok (.iload_n 1, 1) := by decide +kernel
theorem dX10_restore_117 : decode cX10_restore 117 = .ok (.iaload, 1) := by decide +kernel
theorem dX10_restore_118 : decode cX10_restore 118 = .ok (.iastore, 1) := by decide +kernel
theorem dX10_restore_119 : decode cX10_restore 119 = .ok (.aload_n 0, 1) := by decide +kernel
theorem dX10_restore_120 : decode cX10_restore 120 = .ok (.getfield 25, 3) := by decide +kernel
theorem dX10_restore_123 : decode cX10_restore 123 = .ok (.iload_n 1, 1) := by decide +kernel
theorem dX10_restore_124 : decode cX10_restore 124 = .ok (.aload_n 0, 1) := by decide +kernel
theorem dX10_restore_125 : decode cX10_restore 125 = .ok (.getfield 70, 3) := by decide +kernel
theorem dX10_restore_128 : decode cX10_restore 128 = .ok (.iload_n 1, 1) := by decide +kernel
theorem dX10_restore_129 : decode cX10_restore 129 = .ok (.iaload, 1) := by decide +kernel
theorem dX10_restore_130 : decode cX10_restore 130 = .ok (.iastore, 1) := by decide +kernel
theorem dX10_restore_131 : decode cX10_restore 131 = .ok (.aload_n 0, 1) := by decide +kernel
theorem dX10_restore_132 : decode cX10_restore 132 = .ok (.getfield 28, 3) := by decide +kernel
theorem dX10_restore_135 : decode cX10_restore 135 = .ok (.iload_n 1, 1) := by decide +kernel
theorem dX10_restore_136 : decode cX10_restore 136 = .ok (.aload_n 0, 1) := by decide +kernel
theorem dX10_restore_137 : decode cX10_restore 137 = .ok (.getfield 73, 3) := by decide +kernel
theorem dX10_restore_140 : decode cX10_restore 140 = .ok (.iload_n 1, 1) := by decide +kernel
theorem dX10_restore_141 : decode cX10_restore 141 = .ok (.faload, 1) := by decide +kernel
theorem dX10_restore_142 : decode cX10_restore 142 = .ok (.fastore, 1) := by decide +kernel
theorem dX10_restore_143 : decode cX10_restore 143 = .ok (.iinc 1 1, 3) := by decide +kernel
theorem dX10_restore_146 : decode cX10_restore 146 = .ok (.goto (-45), 3) := by decide +kernel
theorem dX10_restore_149 : decode cX10_restore 149 = .ok (.iconst 0, 1) := by decide +kernel
theorem dX10_restore_150 : decode cX10_restore 150 = .ok (.istore_n 1, 1) := by decide +kernel
theorem dX10_restore_151 : decode cX10_restore 151 = .ok (.iload_n 1, 1) := by decide +kernel
theorem dX10_restore_152 : decode cX10_restore 152 = .ok (.bipush 12, 2) := by decide +kernel
theorem dX10_restore_154 : decode cX10_restore 154 = .ok (.if_icmp .ge 21, 3) := by decide +kernel
theorem dX10_restore_157 : decode cX10_restore 157 = .ok (.aload_n 0, 1) := by decide +kernel
theorem dX10_restore_158 : decode cX10_restore 158 = .ok (.getfield 35, 3) := by decide +kernel
theorem dX10_restore_161 : decode cX10_restore 161 = .ok (.iload_n 1, 1) := by decide +kernel
theorem dX10_restore_162 : decode cX10_restore 162 = .ok (.aload_n 0, 1) := by decide +kernel
theorem dX10_restore_163 : decode cX10_restore 163 = .ok (.getfield 76, 3) := by decide +kernel
theorem dX10_restore_166 : decode cX10_restore 166 = .ok (.iload_n 1, 1) := by decide +kernel
theorem dX10_restore_167 : decode cX10_restore 167 = .ok (.iaload, 1) := by decide +kernel
theorem dX10_restore_168 : decode cX10_restore 168 = .ok (.iastore, 1) := by decide +kernel
theorem dX10_restore_169 : decode cX10_restore 169 = .ok (.iinc 1 1, 3) := by decide +kernel
theorem dX10_restore_172 : decode cX10_restore 172 = .ok (.goto (-21), 3) := by decide +kernel
theorem dX10_restore_175 : decode cX10_restore 175 = .ok (.aload_n 0, 1) := by decide +kernel
theorem dX10_restore_176 : decode cX10_restore 176 = .ok (.getfield 119, 3) := by decide +kernel
theorem dX10_restore_179 : decode cX10_restore 179 = .ok (.ireturn, 1) := by decide +kernel
theorem dJ9_rint_294c1_0 : decode cJ9_rint_294c1 0 = .ok (.dload_n 0, 1) := by decide +kernel
theorem dJ9_rint_294c1_1 : decode cJ9_rint_294c1 1 = .ok (.invokestatic 59, 3) := by decide +kernel
theorem dJ9_rint_294c1_4 : decode cJ9_rint_294c1 4 = .ok (.dreturn, 1) := by decide +kernel
theorem dJ9_abs_294c1_0 : decode cJ9_abs_294c1 0 = .ok (.dload_n 0, 1) := by decide +kernel
theorem dJ9_abs_294c1_1 : decode cJ9_abs_294c1 1 = .ok (.invokestatic 79, 3) := by decide +kernel
theorem dJ9_abs_294c1_4 : decode cJ9_abs_294c1 4 = .ok (.ldc2_w 135, 3) := by decide +kernel
theorem dJ9_abs_294c1_7 : decode cJ9_abs_294c1 7 = .ok (.land, 1) := by decide +kernel
theorem dJ9_abs_294c1_8 : decode cJ9_abs_294c1 8 = .ok (.invokestatic 166, 3) := by decide +kernel
theorem dJ9_abs_294c1_11 : decode cJ9_abs_294c1 11 = .ok (.dreturn, 1) := by decide +kernel
theorem dJ9_max_7cf53_0 : decode cJ9_max_7cf53 0 = .ok (.iload_n 0, 1) := by decide +kernel
theorem dJ9_max_7cf53_1 : decode cJ9_max_7cf53 1 = .ok (.iload_n 1, 1) := by decide +kernel
theorem dJ9_max_7cf53_2 : decode cJ9_max_7cf53 2 = .ok (.if_icmp .lt 7, 3) := by decide +kernel
theorem dJ9_max_7cf53_5 : decode cJ9_max_7cf53 5 = .ok (.iload_n 0, 1) := by decide +kernel
theorem dJ9_max_7cf53_6 : decode cJ9_max_7cf53 6 = .ok (.goto 4, 3) := by decide +kernel
theorem dJ9_max_7cf53_9 : decode cJ9_max_7cf53 9 = .ok (.iload_n 1, 1) := by decide +kernel
theorem dJ9_max_7cf53_10 : decode cJ9_max_7cf53 10 = .ok (.ireturn, 1) := by decide +kernel
theorem dJ9_min_7cf53_0 : decode cJ9_min_7cf53 0 = .ok (.iload_n 0, 1) := by decide +kernel
theorem dJ9_min_7cf53_1 : decode cJ9_min_7cf53 1 = .ok (.iload_n 1, 1) := by decide +kernel
theorem dJ9_min_7cf53_2 : decode cJ9_min_7cf53 2 = .ok (.if_icmp .gt 7, 3) := by decide +kernel
theorem dJ9_min_7cf53_5 : decode cJ9_min_7cf53 5 = .ok (.iload_n 0, 1) := by decide +kernel
theorem dJ9_min_7cf53_6 : decode cJ9_min_7cf53 6 = .ok (.goto 4, 3) := by decide +kernel
theorem dJ9_min_7cf53_9 : decode cJ9_min_7cf53 9 = .ok (.iload_n 1, 1) := by decide +kernel
theorem dJ9_min_7cf53_10 : decode cJ9_min_7cf53 10 = .ok (.ireturn, 1) := by decide +kernel
theorem dJ9_copySign_eb370_0 : decode cJ9_copySign_eb370 0 = .ok (.dload_n 2, 1) := by decide +kernel
theorem dJ9_copySign_eb370_1 : decode cJ9_copySign_eb370 1 = .ok (.invokestatic 79, 3) := by decide +kernel
theorem dJ9_copySign_eb370_4 : decode cJ9_copySign_eb370 4 = .ok (.ldc2_w 128, 3) := by decide +kernel
theorem dJ9_copySign_eb370_7 : decode cJ9_copySign_eb370 7 = .ok (.land, 1) := by decide +kernel
theorem dJ9_copySign_eb370_8 : decode cJ9_copySign_eb370 8 = .ok (.dload_n 0, 1) := by decide +kernel
theorem dJ9_copySign_eb370_9 : decode cJ9_copySign_eb370 9 = .ok (.invokestatic 79, 3) := by decide +kernel
theorem dJ9_copySign_eb370_12 : decode cJ9_copySign_eb370 12 = .ok (.ldc2_w 135, 3) := by decide +kernel
theorem dJ9_copySign_eb370_15 : decode cJ9_copySign_eb370 15 = .ok (.land, 1) := by decide +kernel
theorem dJ9_copySign_eb370_16 : decode cJ9_copySign_eb370 16 = .ok (.lor, 1) := by decide +kernel
theorem dJ9_copySign_eb370_17 : decode cJ9_copySign_eb370 17 = .ok (.invokestatic 166, 3) := by decide +kernel
theorem dJ9_copySign_eb370_20 : decode cJ9_copySign_eb370 20 = .ok (.dreturn, 1) := by decide +kernel
theorem dJxfc994_rint_294c1_0 : decode cJxfc994_rint_294c1 0 = .ok (.ldc2_w 93, 3) := by decide +kernel
theorem dJxfc994_rint_294c1_3 : decode cJxfc994_rint_294c1 3 = .ok (.dstore_n 2, 1) := by decide +kernel
theorem dJxfc994_rint_294c1_4 : decode cJxfc994_rint_294c1 4 = .ok (.dconst 1, 1) := by decide +kernel
theorem dJxfc994_rint_294c1_5 : decode cJxfc994_rint_294c1 5 = .ok (.dload_n 0, 1) := by decide +kernel
theorem dJxfc994_rint_294c1_6 : decode cJxfc994_rint_294c1 6 = .ok (.invokestatic 95, 3) := by decide +kernel
theorem dJxfc994_rint_294c1_9 : decode cJxfc994_rint_294c1 9 = .ok (.dstore 4, 2) := by decide +kernel
theorem dJxfc994_rint_294c1_11 : decode cJxfc994_rint_294c1 11 = .ok (.dload_n 0, 1) := by decide +kernel
theorem dJxfc994_rint_294c1_12 : decode cJxfc994_rint_294c1 12 = .ok (.invokestatic 98, 3) := by decide +kernel
theorem dJxfc994_rint_294c1_15 : decode cJxfc994_rint_294c1 15 = .ok (.dstore_n 0, 1) := by decide +kernel
theorem dJxfc994_rint_294c1_16 : decode cJxfc994_rint_294c1 16 = .ok (.dload_n 0, 1) := by decide +kernel
theorem dJxfc994_rint_294c1_17 : decode cJxfc994_rint_294c1 17 = .ok (.dload_n 2, 1) := by decide +kernel
theorem dJxfc994_rint_294c1_18 : decode cJxfc994_rint_294c1 18 = .ok (.dcmp .g, 1) := by decide +kernel
theorem dJxfc994_rint_294c1_19 : decode cJxfc994_rint_294c1 19 = .ok (.ifCond .ge 9, 3) := by decide +kernel
theorem dJxfc994_rint_294c1_22 : decode cJxfc994_rint_294c1 22 = .ok (.dload_n 2, 1) := by decide +kernel
theorem dJxfc994_rint_294c1_23 : decode cJxfc994_rint_294c1 23 = .ok (.dload_n 0, 1) := by decide +kernel
theorem dJxfc994_rint_294c1_24 : decode cJxfc994_rint_294c1 24 = .ok (.dadd, 1) := by decide +kernel
theorem dJxfc994_rint_294c1_25 : decode cJxfc994_rint_294c1 25 = .ok (.dload_n 2, 1) := by decide +kernel
theorem dJxfc994_rint_294c1_26 : decode cJxfc994_rint_294c1 26 = .ok (.dsub, 1) := by decide +kernel
theorem dJxfc994_rint_294c1_27 : decode cJxfc994_rint_294c1 27 = .ok (.dstore_n 0, 1) := by decide +kernel
theorem dJxfc994_rint_294c1_28 : decode cJxfc994_rint_294c1 28 = .ok (.dload 4, 2) := by decide +kernel
theorem dJxfc994_rint_294c1_30 : decode cJxfc994_rint_294c1 30 = .ok (.dload_n 0, 1) := by decide +kernel
theorem dJxfc994_rint_294c1_31 : decode cJxfc994_rint_294c1 31 = .ok (.dmul, 1) := by decide +kernel
theorem dJxfc994_rint_294c1_32 : decode cJxfc994_rint_294c1 32 = .ok (.dreturn, 1) := by decide +kernel
theorem dJ7_fill_53178_0 : decode cJ7_fill_53178 0 = .ok (.iconst 0, 1) := by decide +kernel
theorem dJ7_fill_53178_1 : decode cJ7_fill_53178 1 = .ok (.istore_n 2, 1) := by decide +kernel
theorem dJ7_fill_53178_2 : decode cJ7_fill_53178 2 = .ok (.aload_n 0, 1) := by decide +kernel
theorem dJ7_fill_53178_3 : decode cJ7_fill_53178 3 = .ok (.arraylength, 1) := by decide +kernel
theorem dJ7_fill_53178_4 : decode cJ7_fill_53178 4 = .ok (.istore_n 3, 1) := by decide +kernel
theorem dJ7_fill_53178_5 : decode cJ7_fill_53178 5 = .ok (.iload_n 2, 1) := by decide +kernel
theorem dJ7_fill_53178_6 : decode cJ7_fill_53178 6 = .ok (.iload_n 3, 1) := by decide +kernel
theorem dJ7_fill_53178_7 : decode cJ7_fill_53178 7 = .ok (.if_icmp .ge 13, 3) := by decide +kernel
theorem dJ7_fill_53178_10 : decode cJ7_fill_53178 10 = .ok (.aload_n 0, 1) := by decide +kernel
theorem dJ7_fill_53178_11 : decode cJ7_fill_53178 11 = .ok (.iload_n 2, 1) := by decide +kernel
theorem dJ7_fill_53178_12 : decode cJ7_fill_53178 12 = .ok (.iload_n 1, 1) := by decide +kernel
theorem dJ7_fill_53178_13 : decode cJ7_fill_53178 13 = .ok (.iastore, 1) := by decide +kernel
theorem dJ7_fill_53178_14 : decode cJ7_fill_53178 14 = .ok (.iinc 2 1, 3) := by decide +kernel
theorem dJ7_fill_53178_17 : decode cJ7_fill_53178 17 = .ok (.goto (-12), 3) := by decide +kernel
theorem dJ7_fill_53178_20 : decode cJ7_fill_53178 20 = .ok (.return_, 1) := by decide +kernel
theorem dL_law_0 : decode cL_law 0 = .ok (.new 7, 3) := by decide +kernel
theorem dL_law_3 : decode cL_law 3 = .ok (.dup, 1) := by decide +kernel
theorem dL_law_4 : decode cL_law 4 = .ok (.invokespecial 9, 3) := by decide +kernel
theorem dL_law_7 : decode cL_law 7 = .ok (.astore_n 1, 1) := by decide +kernel
theorem dL_law_8 : decode cL_law 8 = .ok (.new 10, 3) := by decide +kernel
theorem dL_law_11 : decode cL_law 11 = .ok (.dup, 1) := by decide +kernel
theorem dL_law_12 : decode cL_law 12 = .ok (.invokespecial 12, 3) := by decide +kernel
theorem dL_law_15 : decode cL_law 15 = .ok (.astore_n 2, 1) := by decide +kernel
theorem dL_law_16 : decode cL_law 16 = .ok (.iconst 0, 1) := by decide +kernel
theorem dL_law_17 : decode cL_law 17 = .ok (.istore_n 3, 1) := by decide +kernel
theorem dL_law_18 : decode cL_law 18 = .ok (.iload_n 3, 1) := by decide +kernel
theorem dL_law_19 : decode cL_law 19 = .ok (.aload_n 0, 1) := by decide +kernel
theorem dL_law_20 : decode cL_law 20 = .ok (.arraylength, 1) := by decide +kernel
theorem dL_law_21 : decode cL_law 21 = .ok (.bipush 6, 2) := by decide +kernel
theorem dL_law_23 : decode cL_law 23 = .ok (.isub, 1) := by decide +kernel
theorem dL_law_24 : decode cL_law 24 = .ok (.if_icmp .gt 1355, 3) := by decide +kernel
theorem dL_law_27 : decode cL_law 27 = .ok (.aload_n 0, 1) := by decide +kernel
theorem dL_law_28 : decode cL_law 28 = .ok (.iload_n 3, 1) := by decide +kernel
theorem dL_law_29 : decode cL_law 29 = .ok (.iaload, 1) := by decide +kernel
theorem dL_law_30 : decode cL_law 30 = .ok (.bipush 63, 2) := by decide +kernel
theorem dL_law_32 : decode cL_law 32 = .ok (.iand, 1) := by decide +kernel
theorem dL_law_33 : decode cL_law 33 = .ok (.tableswitch 1340 0 45 #[199, 222, 235, 268, 281, 294, 317, 330, 373, 406, 439, 462, 495, 518, 541, 554, 577, 590, 603, 626, 639, 652, 665, 688, 701, 714, 737, 750, 783, 806, 819, 842, 875, 898, 941, 965, 989, 1012, 1055, 1078, 1151, 1194, 1228, 1291, 1314, 1327], 199) := by decide +kernel
theorem dL_law_232 : decode cL_law 232 = .ok (.aload_n 1, 1) := by decide +kernel
theorem dL_law_233 : decode cL_law 233 = .ok (.aload_n 0, 1) := by decide +kernel
theorem dL_law_234 : decode cL_law 234 = .ok (.iload_n 3, 1) := by decide +kernel
theorem dL_law_235 : decode cL_law 235 = .ok (.iconst 1, 1) := by decide +kernel
theorem dL_law_236 : decode cL_law 236 = .ok (.iadd, 1) := by decide +kernel
theorem dL_law_237 : decode cL_law 237 = .ok (.iaload, 1) := by decide +kernel
theorem dL_law_238 : decode cL_law 238 = .ok (.invokevirtual 13, 3) := by decide +kernel
theorem dL_law_241 : decode cL_law 241 = .ok (.aload_n 2, 1) := by decide +kernel
theorem dL_law_242 : decode cL_law 242 = .ok (.aload_n 0, 1) := by decide +kernel
theorem dL_law_243 : decode cL_law 243 = .ok (.iload_n 3, 1) := by decide +kernel
theorem dL_law_244 : decode cL_law 244 = .ok (.iconst 1, 1) := by decide +kernel
theorem dL_law_245 : decode cL_law 245 = .ok (.iadd, 1) := by decide +kernel
theorem dL_law_246 : decode cL_law 246 = .ok (.iaload, 1) := by decide +kernel
theorem dL_law_247 : decode cL_law 247 = .ok (.invokevirtual 17, 3) := by decide +kernel
theorem dL_law_250 : decode cL_law 250 = .ok (.if_icmp .eq 1123, 3) := by decide +kernel
theorem dL_law_253 : decode cL_law 253 = .ok (.iconst 0, 1) := by decide +kernel
theorem dL_law_254 : decode cL_law 254 = .ok (.ireturn, 1) := by decide +kernel
theorem dL_law_255 : decode cL_law 255 = .ok (.aload_n 1, 1) := by decide +kernel
theorem dL_law_256 : decode cL_law 256 = .ok (.invokevirtual 18, 3) := by decide +kernel
theorem dL_law_259 : decode cL_law 259 = .ok (.aload_n 2, 1) := by decide +kernel
theorem dL_law_260 : decode cL_law 260 = .ok (.invokevirtual 22, 3) := by decide +kernel
theorem dL_law_263 : decode cL_law 263 = .ok (.if_icmp .eq 1110, 3) := by decide +kernel
theorem dL_law_266 : decode cL_law 266 = .ok (.iconst 0, 1) := by decide +kernel
theorem dL_law_267 : decode cL_law 267 = .ok (.ireturn, 1) := by decide +kernel
theorem dL_law_268 : decode cL_law 268 = .ok (.aload_n 1, 1) := by decide +kernel
theorem dL_law_269 : decode cL_law 269 = .ok (.aload_n 0, 1) := by decide +kernel
theorem dL_law_270 : decode cL_law 270 = .ok (.iload_n 3, 1) := by decide +kernel
theorem dL_law_271 : decode cL_law 271 = .ok (.iconst 1, 1) := by decide +kernel
theorem dL_law_272 : decode cL_law 272 = .ok (.iadd, 1) := by decide +kernel
theorem dL_law_273 : decode cL_law 273 = .ok (.iaload, 1) := by decide +kernel
theorem dL_law_274 : decode cL_law 274 = .ok (.aload_n 0, 1) := by decide +kernel
theorem dL_law_275 : decode cL_law 275 = .ok (.iload_n 3, 1) := by decide +kernel
theorem dL_law_276 : decode cL_law 276 = .ok (.iconst 2, 1) := by decide +kernel
theorem dL_law_277 : decode cL_law 277 = .ok (.iadd, 1) := by decide +kernel
theorem dL_law_278 : decode cL_law 278 = .ok (.iaload, 1) := by decide +kernel
theorem dL_law_279 : decode cL_law 279 = .ok (.invokevirtual 23, 3) := by decide +kernel
theorem dL_law_282 : decode cL_law 282 = .ok (.aload_n 2, 1) := by decide +kernel
theorem dL_law_283 : decode cL_law 283 = .ok (.aload_n 0, 1) := by decide +kernel
theorem dL_law_284 : decode cL_law 284 = .ok (.iload_n 3, 1) := by decide +kernel
theorem dL_law_285 : decode cL_law 285 = .ok (.iconst 1, 1) := by decide +kernel
theorem dL_law_286 : decode cL_law 286 = .ok (.iadd, 1) := by decide +kernel
theorem dL_law_287 : decode cL_law 287 = .ok (.iaload, 1) := by decide +kernel
theorem dL_law_288 : decode cL_law 288 = .ok (.aload_n 0, 1) := by decide +kernel
theorem dL_law_289 : decode cL_law 289 = .ok (.iload_n 3, 1) := by decide +kernel
theorem dL_law_290 : decode cL_law 290 = .ok (.iconst 2, 1) := by decide +kernel
theorem dL_law_291 : decode cL_law 291 = .ok (.iadd, 1) := by decide +kernel
theorem dL_law_292 : decode cL_law 292 = .ok (.iaload, 1) := by decide +kernel
theorem dL_law_293 : decode cL_law 293 = .ok (.invokevirtual 27, 3) := by decide +kernel
theorem dL_law_296 : decode cL_law 296 = .ok (.if_icmp .eq 1077, 3) := by decide +kernel
theorem dL_law_299 : decode cL_law 299 = .ok (.iconst 0, 1) := by decide +kernel
theorem dL_law_300 : decode cL_law 300 = .ok (.ireturn, 1) := by decide +kernel
theorem dL_law_301 : decode cL_law 301 = .ok (.aload_n 1, 1) := by decide +kernel
theorem dL_law_302 : decode cL_law 302 = .ok (.invokevirtual 28, 3) := by decide +kernel
theorem dL_law_305 : decode cL_law 305 = .ok (.aload_n 2, 1) := by decide +kernel
theorem dL_law_306 : decode cL_law 306 = .ok (.invokevirtual 31, 3) := by decide +kernel
theorem dL_law_309 : decode cL_law 309 = .ok (.if_icmp .eq 1064, 3) := by decide +kernel
theorem dL_law_312 : decode cL_law 312 = .ok (.iconst 0, 1) := by decide +kernel
theorem dL_law_313 : decode cL_law 313 = .ok (.ireturn, 1) := by decide +kernel
theorem dL_law_314 : decode cL_law 314 = .ok (.aload_n 1, 1) := by decide +kernel
theorem dL_law_315 : decode cL_law 315 = .ok (.invokevirtual 32, 3) := by decide +kernel
theorem dL_law_318 : decode cL_law 318 = .ok (.aload_n 2, 1) := by decide +kernel
theorem dL_law_319 : decode cL_law 319 = .ok (.invokevirtual 35, 3) := by decide +kernel
theorem dL_law_322 : decode cL_law 322 = .ok (.if_icmp .eq 1051, 3) := by decide +kernel
theorem dL_law_325 : decode cL_law 325 = .ok (.iconst 0, 1) := by decide +kernel
theorem dL_law_326 : decode cL_law 326 = .ok (.ireturn, 1) := by decide +kernel
theorem dL_law_327 : decode cL_law 327 = .ok (.aload_n 1, 1) := by decide +kernel
theorem dL_law_328 : decode cL_law 328 = .ok (.aload_n 0, 1) := by decide +kernel
theorem dL_law_329 : decode cL_law 329 = .ok (.iload_n 3, 1) := by decide +kernel
theorem dL_law_330 : decode cL_law 330 = .ok (.iconst 1, 1) := by decide +kernel
theorem dL_law_331 : decode cL_law 331 = .ok (.iadd, 1) := by decide +kernel
theorem dL_law_332 : decode cL_law 332 = .ok (.iaload, 1) := by decide +kernel
theorem dL_law_333 : decode cL_law 333 = .ok (.invokevirtual 36, 3) := by decide +kernel
theorem dL_law_336 : decode cL_law 336 = .ok (.aload_n 2, 1) := by decide +kernel
theorem dL_law_337 : decode cL_law 337 = .ok (.aload_n 0, 1) := by decide +kernel
theorem dL_law_338 : decode cL_law 338 = .ok (.iload_n 3, 1) := by decide +kernel
theorem dL_law_339 : decode cL_law 339 = .ok (.iconst 1, 1) := by decide +kernel
theorem dL_law_340 : decode cL_law 340 = .ok (.iadd, 1) := by decide +kernel
theorem dL_law_341 : decode cL_law 341 = .ok (.iaload, 1) := by decide +kernel
theorem dL_law_342 : decode cL_law 342 = .ok (.invokevirtual 39, 3) := by decide +kernel
theorem dL_law_345 : decode cL_law 345 = .ok (.if_icmp .eq 1028, 3) := by decide +kernel
theorem dL_law_348 : decode cL_law 348 = .ok (.iconst 0, 1) := by decide +kernel
theorem dL_law_349 : decode cL_law 349 = .ok (.ireturn, 1) := by decide +kernel
theorem dL_law_350 : decode cL_law 350 = .ok (.aload_n 1, 1) := by decide +kernel
theorem dL_law_351 : decode cL_law 351 = .ok (.invokevirtual 40, 3) := by decide +kernel
theorem dL_law_354 : decode cL_law 354 = .ok (.aload_n 2, 1) := by decide +kernel
theorem dL_law_355 : decode cL_law 355 = .ok (.invokevirtual 43, 3) := by decide +kernel
theorem dL_law_358 : decode cL_law 358 = .ok (.if_icmp .eq 1015, 3) := by decide +kernel
theorem dL_law_361 : decode cL_law 361 = .ok (.iconst 0, 1) := by decide +kernel
theorem dL_law_362 : decode cL_law 362 = .ok (.ireturn, 1) := by decide +kernel
theorem dL_law_363 : decode cL_law 363 = .ok (.aload_n 1, 1) := by decide +kernel
theorem dL_law_364 : decode cL_law 364 = .ok (.aload_n 0, 1) := by decide +kernel
theorem dL_law_365 : decode cL_law 365 = .ok (.iload_n 3, 1) := by decide +kernel
theorem dL_law_366 : decode cL_law 366 = .ok (.iconst 1, 1) := by decide +kernel
theorem dL_law_367 : decode cL_law 367 = .ok (.iadd, 1) := by decide +kernel
theorem dL_law_368 : decode cL_law 368 = .ok (.iaload, 1) := by decide +kernel
theorem dL_law_369 : decode cL_law 369 = .ok (.aload_n 0, 1) := by decide +kernel
theorem dL_law_370 : decode cL_law 370 = .ok (.iload_n 3, 1) := by decide +kernel
theorem dL_law_371 : decode cL_law 371 = .ok (.iconst 2, 1) := by decide +kernel
theorem dL_law_372 : decode cL_law 372 = .ok (.iadd, 1) := by decide +kernel
theorem dL_law_373 : decode cL_law 373 = .ok (.iaload, 1) := by decide +kernel
theorem dL_law_374 : decode cL_law 374 = .ok (.aload_n 0, 1) := by decide +kernel
theorem dL_law_375 : decode cL_law 375 = .ok (.iload_n 3, 1) := by decide +kernel
theorem dL_law_376 : decode cL_law 376 = .ok (.iconst 3, 1) := by decide +kernel
theorem dL_law_377 : decode cL_law 377 = .ok (.iadd, 1) := by decide +kernel
theorem dL_law_378 : decode cL_law 378 = .ok (.iaload, 1) := by decide +kernel
theorem dL_law_379 : decode cL_law 379 = .ok (.invokevirtual 44, 3) := by decide +kernel
theorem dL_law_382 : decode cL_law 382 = .ok (.aload_n 2, 1) := by decide +kernel
theorem dL_law_383 : decode cL_law 383 = .ok (.aload_n 0, 1) := by decide +kernel
theorem dL_law_384 : decode cL_law 384 = .ok (.iload_n 3, 1) := by decide +kernel
theorem dL_law_385 : decode cL_law 385 = .ok (.iconst 1, 1) := by decide +kernel
theorem dL_law_386 : decode cL_law 386 = .ok (.iadd, 1) := by decide +kernel
theorem dL_law_387 : decode cL_law 387 = .ok (.iaload, 1) := by decide +kernel
theorem dL_law_388 : decode cL_law 388 = .ok (.aload_n 0, 1) := by decide +kernel
theorem dL_law_389 : decode cL_law 389 = .ok (.iload_n 3, 1) := by decide +kernel
theorem dL_law_390 : decode cL_law 390 = .ok (.iconst 2, 1) := by decide +kernel
theorem dL_law_391 : decode cL_law 391 = .ok (.iadd, 1) := by decide +kernel
theorem dL_law_392 : decode cL_law 392 = .ok (.iaload, 1) := by decide +kernel
theorem dL_law_393 : decode cL_law 393 = .ok (.aload_n 0, 1) := by decide +kernel
theorem dL_law_394 : decode cL_law 394 = .ok (.iload_n 3, 1) := by decide +kernel
theorem dL_law_395 : decode cL_law 395 = .ok (.iconst 3, 1) := by decide +kernel
theorem dL_law_396 : decode cL_law 396 = .ok (.iadd, 1) := by decide +kernel
theorem dL_law_397 : decode cL_law 397 = .ok (.iaload, 1) := by decide +kernel
theorem dL_law_398 : decode cL_law 398 = .ok (.invokevirtual 48, 3) := by decide +kernel
theorem dL_law_401 : decode cL_law 401 = .ok (.if_icmp .eq 972, 3) := by decide +kernel
theorem dL_law_404 : decode cL_law 404 = .ok (.iconst 0, 1) := by decide +kernel
theorem dL_law_405 : decode cL_law 405 = .ok (.ireturn, 1) := by decide +kernel
theorem dL_law_406 : decode cL_law 406 = .ok (.aload_n 1, 1) := by decide +kernel
theorem dL_law_407 : decode cL_law 407 = .ok (.aload_n 0, 1) := by decide +kernel
theorem dL_law_408 : decode cL_law 408 = .ok (.iload_n 3, 1) := by decide +kernel
theorem dL_law_409 : decode cL_law 409 = .ok (.iconst 1, 1) := by decide +kernel
theorem dL_law_410 : decode cL_law 410 = .ok (.iadd, 1) := by decide +kernel
theorem dL_law_411 : decode cL_law 411 = .ok (.iaload, 1) := by decide +kernel
theorem dL_law_412 : decode cL_law 412 = .ok (.aload_n 0, 1) := by decide +kernel
theorem dL_law_413 : decode cL_law 413 = .ok (.iload_n 3, 1) := by decide +kernel
theorem dL_law_414 : decode cL_law 414 = .ok (.iconst 2, 1) := by decide +kernel
theorem dL_law_415 : decode cL_law 415 = .ok (.iadd, 1) := by decide +kernel
theorem dL_law_416 : decode cL_law 416 = .ok (.iaload, 1) := by decide +kernel
theorem dL_law_417 : decode cL_law 417 = .ok (.invokevirtual 49, 3) := by decide +kernel
theorem dL_law_420 : decode cL_law 420 = .ok (.aload_n 2, 1) := by decide +kernel
theorem dL_law_421 : decode cL_law 421 = .ok (.aload_n 0, 1) := by decide +kernel
theorem dL_law_422 : decode cL_law 422 = .ok (.iload_n 3, 1) := by decide +kernel
theorem dL_law_423 : decode cL_law 423 = .ok (.iconst 1, 1) := by decide +kernel
theorem dL_law_424 : decode cL_law 424 = .ok (.iadd, 1) := by decide +kernel
theorem dL_law_425 : decode cL_law 425 = .ok (.iaload, 1) := by decide +kernel
theorem dL_law_426 : decode cL_law 426 = .ok (.aload_n 0, 1) := by decide +kernel
theorem dL_law_427 : decode cL_law 427 = .ok (.iload_n 3, 1) := by decide +kernel
theorem dL_law_428 : decode cL_law 428 = .ok (.iconst 2, 1) := by decide +kernel
theorem dL_law_429 : decode cL_law 429 = .ok (.iadd, 1) := by decide +kernel
theorem dL_law_430 : decode cL_law 430 = .ok (.iaload, 1) := by decide +kernel
theorem dL_law_431 : decode cL_law 431 = .ok (.invokevirtual 52, 3) := by decide +kernel
theorem dL_law_434 : decode cL_law 434 = .ok (.if_icmp .eq 939, 3) := by decide +kernel
theorem dL_law_437 : decode cL_law 437 = .ok (.iconst 0, 1) := by decide +kernel
theorem dL_law_438 : decode cL_law 438 = .ok (.ireturn, 1) := by decide +kernel
theorem dL_law_439 : decode cL_law 439 = .ok (.aload_n 1, 1) := by decide +kernel
theorem dL_law_440 : decode cL_law 440 = .ok (.aload_n 0, 1) := by decide +kernel
theorem dL_law_441 : decode cL_law 441 = .ok (.iload_n 3, 1) := by decide +kernel
theorem dL_law_442 : decode cL_law 442 = .ok (.iconst 1, 1) := by decide +kernel
theorem dL_law_443 : decode cL_law 443 = .ok (.iadd, 1) := by decide +kernel
theorem dL_law_444 : decode cL_law 444 = .ok (.iaload, 1) := by decide +kernel
theorem dL_law_445 : decode cL_law 445 = .ok (.aload_n 0, 1) := by decide +kernel
theorem dL_law_446 : decode cL_law 446 = .ok (.iload_n 3, 1) := by decide +kernel
theorem dL_law_447 : decode cL_law 447 = .ok (.iconst 2, 1) := by decide +kernel
theorem dL_law_448 : decode cL_law 448 = .ok (.iadd, 1) := by decide +kernel
theorem dL_law_449 : decode cL_law 449 = .ok (.iaload, 1) := by decide +kernel
theorem dL_law_450 : decode cL_law 450 = .ok (.invokevirtual 53, 3) := by decide +kernel
theorem dL_law_453 : decode cL_law 453 = .ok (.aload_n 2, 1) := by decide +kernel
theorem dL_law_454 : decode cL_law 454 = .ok (.aload_n 0, 1) := by decide +kernel
theorem dL_law_455 : decode cL_law 455 = .ok (.iload_n 3, 1) := by decide +kernel
theorem dL_law_456 : decode cL_law 456 = .ok (.iconst 1, 1) := by decide +kernel
theorem dL_law_457 : decode cL_law 457 = .ok (.iadd, 1) := by decide +kernel
theorem dL_law_458 : decode cL_law 458 = .ok (.iaload, 1) := by decide +kernel
theorem dL_law_459 : decode cL_law 459 = .ok (.aload_n 0, 1) := by decide +kernel
theorem dL_law_460 : decode cL_law 460 = .ok (.iload_n 3, 1) := by decide +kernel
theorem dL_law_461 : decode cL_law 461 = .ok (.iconst 2, 1) := by decide +kernel
theorem dL_law_462 : decode cL_law 462 = .ok (.iadd, 1) := by decide +kernel
theorem dL_law_463 : decode cL_law 463 = .ok (.iaload, 1) := by decide +kernel
theorem dL_law_464 : decode cL_law 464 = .ok (.invokevirtual 56, 3) := by decide +kernel
theorem dL_law_467 : decode cL_law 467 = .ok (.if_icmp .eq 906, 3) := by decide +kernel
theorem dL_law_470 : decode cL_law 470 = .ok (.iconst 0, 1) := by decide +kernel
theorem dL_law_471 : decode cL_law 471 = .ok (.ireturn, 1) := by decide +kernel
theorem dL_law_472 : decode cL_law 472 = .ok (.aload_n 1, 1) := by decide +kernel
theorem dL_law_473 : decode cL_law 473 = .ok (.aload_n 0, 1) := by decide +kernel
theorem dL_law_474 : decode cL_law 474 = .ok (.iload_n 3, 1) := by decide +kernel
theorem dL_law_475 : decode cL_law 475 = .ok (.iconst 1, 1) := by decide +kernel
theorem dL_law_476 : decode cL_law 476 = .ok (.iadd, 1) := by decide +kernel
theorem dL_law_477 : decode cL_law 477 = .ok (.iaload, 1) := by decide +kernel
theorem dL_law_478 : decode cL_law 478 = .ok (.invokevirtual 57, 3) := by decide +kernel
theorem dL_law_481 : decode cL_law 481 = .ok (.aload_n 2, 1) := by decide +kernel
theorem dL_law_482 : decode cL_law 482 = .ok (.aload_n 0, 1) := by decide +kernel
theorem dL_law_483 : decode cL_law 483 = .ok (.iload_n 3, 1) := by decide +kernel
theorem dL_law_484 : decode cL_law 484 = .ok (.iconst 1, 1) := by decide +kernel
theorem dL_law_485 : decode cL_law 485 = .ok (.iadd, 1) := by decide +kernel
theorem dL_law_486 : decode cL_law 486 = .ok (.iaload, 1) := by decide +kernel
theorem dL_law_487 : decode cL_law 487 = .ok (.invokevirtual 60, 3) := by decide +kernel
theorem dL_law_490 : decode cL_law 490 = .ok (.if_icmp .eq 883, 3) := by decide +kernel
theorem dL_law_493 : decode cL_law 493 = .ok (.iconst 0, 1) := by decide +kernel
theorem dL_law_494 : decode cL_law 494 = .ok (.ireturn, 1) := by decide +kernel
theorem dL_law_495 : decode cL_law 495 = .ok (.aload_n 1, 1) := by decide +kernel
theorem dL_law_496 : decode cL_law 496 = .ok (.aload_n 0, 1) := by decide +kernel
theorem dL_law_497 : decode cL_law 497 = .ok (.iload_n 3, 1) := by decide +kernel
theorem dL_law_498 : decode cL_law 498 = .ok (.iconst 1, 1) := by decide +kernel
theorem dL_law_499 : decode cL_law 499 = .ok (.iadd, 1) := by decide +kernel
theorem dL_law_500 : decode cL_law 500 = .ok (.iaload, 1) := by decide +kernel
theorem dL_law_501 : decode cL_law 501 = .ok (.aload_n 0, 1) := by decide +kernel
theorem dL_law_502 : decode cL_law 502 = .ok (.iload_n 3, 1) := by decide +kernel
theorem dL_law_503 : decode cL_law 503 = .ok (.iconst 2, 1) := by decide +kernel
theorem dL_law_504 : decode cL_law 504 = .ok (.iadd, 1) := by decide +kernel
theorem dL_law_505 : decode cL_law 505 = .ok (.iaload, 1) := by decide +kernel
theorem dL_law_506 : decode cL_law 506 = .ok (.invokevirtual 61, 3) := by decide +kernel
theorem dL_law_509 : decode cL_law 509 = .ok (.aload_n 2, 1) := by decide +kernel
theorem dL_law_510 : decode cL_law 510 = .ok (.aload_n 0, 1) := by decide +kernel
theorem dL_law_511 : decode cL_law 511 = .ok (.iload_n 3, 1) := by decide +kernel
theorem dL_law_512 : decode cL_law 512 = .ok (.iconst 1, 1) := by decide +kernel
theorem dL_law_513 : decode cL_law 513 = .ok (.iadd, 1) := by decide +kernel
theorem dL_law_514 : decode cL_law 514 = .ok (.iaload, 1) := by decide +kernel
theorem dL_law_515 : decode cL_law 515 = .ok (.aload_n 0, 1) := by decide +kernel
theorem dL_law_516 : decode cL_law 516 = .ok (.iload_n 3, 1) := by decide +kernel
theorem dL_law_517 : decode cL_law 517 = .ok (.iconst 2, 1) := by decide +kernel
theorem dL_law_518 : decode cL_law 518 = .ok (.iadd, 1) := by decide +kernel
theorem dL_law_519 : decode cL_law 519 = .ok (.iaload, 1) := by decide +kernel
theorem dL_law_520 : decode cL_law 520 = .ok (.invokevirtual 64, 3) := by decide +kernel
theorem dL_law_523 : decode cL_law 523 = .ok (.if_icmp .eq 850, 3) := by decide +kernel
theorem dL_law_526 : decode cL_law 526 = .ok (.iconst 0, 1) := by decide +kernel
theorem dL_law_527 : decode cL_law 527 = .ok (.ireturn, 1) := by decide +kernel
theorem dL_law_528 : decode cL_law 528 = .ok (.aload_n 1, 1) := by decide +kernel
theorem dL_law_529 : decode cL_law 529 = .ok (.aload_n 0, 1) := by decide +kernel
theorem dL_law_530 : decode cL_law 530 = .ok (.iload_n 3, 1) := by decide +kernel
theorem dL_law_531 : decode cL_law 531 = .ok (.iconst 1, 1) := by decide +kernel
theorem dL_law_532 : decode cL_law 532 = .ok (.iadd, 1) := by decide +kernel
theorem dL_law_533 : decode cL_law 533 = .ok (.iaload, 1) := by decide +kernel
theorem dL_law_534 : decode cL_law 534 = .ok (.invokevirtual 65, 3) := by decide +kernel
theorem dL_law_537 : decode cL_law 537 = .ok (.aload_n 2, 1) := by decide +kernel
theorem dL_law_538 : decode cL_law 538 = .ok (.aload_n 0, 1) := by decide +kernel
theorem dL_law_539 : decode cL_law 539 = .ok (.iload_n 3, 1) := by decide +kernel
theorem dL_law_540 : decode cL_law 540 = .ok (.iconst 1, 1) := by decide +kernel
theorem dL_law_541 : decode cL_law 541 = .ok (.iadd, 1) := by decide +kernel
theorem dL_law_542 : decode cL_law 542 = .ok (.iaload, 1) := by decide +kernel
theorem dL_law_543 : decode cL_law 543 = .ok (.invokevirtual 68, 3) := by decide +kernel
theorem dL_law_546 : decode cL_law 546 = .ok (.if_icmp .eq 827, 3) := by decide +kernel
theorem dL_law_549 : decode cL_law 549 = .ok (.iconst 0, 1) := by decide +kernel
theorem dL_law_550 : decode cL_law 550 = .ok (.ireturn, 1) := by decide +kernel
theorem dL_law_551 : decode cL_law 551 = .ok (.aload_n 1, 1) := by decide +kernel
theorem dL_law_552 : decode cL_law 552 = .ok (.aload_n 0, 1) := by decide +kernel
theorem dL_law_553 : decode cL_law 553 = .ok (.iload_n 3, 1) := by decide +kernel
theorem dL_law_554 : decode cL_law 554 = .ok (.iconst 1, 1) := by decide +kernel
theorem dL_law_555 : decode cL_law 555 = .ok (.iadd, 1) := by decide +kernel
theorem dL_law_556 : decode cL_law 556 = .ok (.iaload, 1) := by decide +kernel
theorem dL_law_557 : decode cL_law 557 = .ok (.invokevirtual 69, 3) := by decide +kernel
theorem dL_law_560 : decode cL_law 560 = .ok (.aload_n 2, 1) := by decide +kernel
theorem dL_law_561 : decode cL_law 561 = .ok (.aload_n 0, 1) := by decide +kernel
theorem dL_law_562 : decode cL_law 562 = .ok (.iload_n 3, 1) := by decide +kernel
theorem dL_law_563 : decode cL_law 563 = .ok (.iconst 1, 1) := by decide +kernel
theorem dL_law_564 : decode cL_law 564 = .ok (.iadd, 1) := by decide +kernel
theorem dL_law_565 : decode cL_law 565 = .ok (.iaload, 1) := by decide +kernel
theorem dL_law_566 : decode cL_law 566 = .ok (.invokevirtual 72, 3) := by decide +kernel
theorem dL_law_569 : decode cL_law 569 = .ok (.if_icmp .eq 804, 3) := by decide +kernel
theorem dL_law_572 : decode cL_law 572 = .ok (.iconst 0, 1) := by decide +kernel
theorem dL_law_573 : decode cL_law 573 = .ok (.ireturn, 1) := by decide +kernel
theorem dL_law_574 : decode cL_law 574 = .ok (.aload_n 1, 1) := by decide +kernel
theorem dL_law_575 : decode cL_law 575 = .ok (.invokevirtual 73, 3) := by decide +kernel
theorem dL_law_578 : decode cL_law 578 = .ok (.aload_n 2, 1) := by decide +kernel
theorem dL_law_579 : decode cL_law 579 = .ok (.invokevirtual 76, 3) := by decide +kernel
theorem dL_law_582 : decode cL_law 582 = .ok (.if_icmp .eq 791, 3) := by decide +kernel
theorem dL_law_585 : decode cL_law 585 = .ok (.iconst 0, 1) := by decide +kernel
theorem dL_law_586 : decode cL_law 586 = .ok (.ireturn, 1) := by decide +kernel
theorem dL_law_587 : decode cL_law 587 = .ok (.aload_n 1, 1) := by decide +kernel
theorem dL_law_588 : decode cL_law 588 = .ok (.aload_n 0, 1) := by decide +kernel
theorem dL_law_589 : decode cL_law 589 = .ok (.iload_n 3, 1) := by decide +kernel
theorem dL_law_590 : decode cL_law 590 = .ok (.iconst 1, 1) := by decide +kernel
theorem dL_law_591 : decode cL_law 591 = .ok (.iadd, 1) := by decide +kernel
theorem dL_law_592 : decode cL_law 592 = .ok (.iaload, 1) := by decide +kernel
theorem dL_law_593 : decode cL_law 593 = .ok (.invokevirtual 77, 3) := by decide +kernel
theorem dL_law_596 : decode cL_law 596 = .ok (.aload_n 2, 1) := by decide +kernel
theorem dL_law_597 : decode cL_law 597 = .ok (.aload_n 0, 1) := by decide +kernel
theorem dL_law_598 : decode cL_law 598 = .ok (.iload_n 3, 1) := by decide +kernel
theorem dL_law_599 : decode cL_law 599 = .ok (.iconst 1, 1) := by decide +kernel
theorem dL_law_600 : decode cL_law 600 = .ok (.iadd, 1) := by decide +kernel
theorem dL_law_601 : decode cL_law 601 = .ok (.iaload, 1) := by decide +kernel
theorem dL_law_602 : decode cL_law 602 = .ok (.invokevirtual 80, 3) := by decide +kernel
theorem dL_law_605 : decode cL_law 605 = .ok (.if_icmp .eq 768, 3) := by decide +kernel
theorem dL_law_608 : decode cL_law 608 = .ok (.iconst 0, 1) := by decide +kernel
theorem dL_law_609 : decode cL_law 609 = .ok (.ireturn, 1) := by decide +kernel
theorem dL_law_610 : decode cL_law 610 = .ok (.aload_n 1, 1) := by decide +kernel
theorem dL_law_611 : decode cL_law 611 = .ok (.invokevirtual 81, 3) := by decide +kernel
theorem dL_law_614 : decode cL_law 614 = .ok (.aload_n 2, 1) := by decide +kernel
theorem dL_law_615 : decode cL_law 615 = .ok (.invokevirtual 84, 3) := by decide +kernel
theorem dL_law_618 : decode cL_law 618 = .ok (.if_icmp .eq 755, 3) := by decide +kernel
theorem dL_law_621 : decode cL_law 621 = .ok (.iconst 0, 1) := by decide +kernel
theorem dL_law_622 : decode cL_law 622 = .ok (.ireturn, 1) := by decide +kernel
theorem dL_law_623 : decode cL_law 623 = .ok (.aload_n 1, 1) := by decide +kernel
theorem dL_law_624 : decode cL_law 624 = .ok (.invokevirtual 85, 3) := by decide +kernel
theorem dL_law_627 : decode cL_law 627 = .ok (.aload_n 2, 1) := by decide +kernel
theorem dL_law_628 : decode cL_law 628 = .ok (.invokevirtual 88, 3) := by decide +kernel
theorem dL_law_631 : decode cL_law 631 = .ok (.if_icmp .eq 742, 3) := by decide +kernel
theorem dL_law_634 : decode cL_law 634 = .ok (.iconst 0, 1) := by decide +kernel
theorem dL_law_635 : decode cL_law 635 = .ok (.ireturn, 1) := by decide +kernel
theorem dL_law_636 : decode cL_law 636 = .ok (.aload_n 1, 1) := by decide +kernel
theorem dL_law_637 : decode cL_law 637 = .ok (.aload_n 0, 1) := by decide +kernel
theorem dL_law_638 : decode cL_law 638 = .ok (.iload_n 3, 1) := by decide +kernel
theorem dL_law_639 : decode cL_law 639 = .ok (.iconst 1, 1) := by decide +kernel
theorem dL_law_640 : decode cL_law 640 = .ok (.iadd, 1) := by decide +kernel
theorem dL_law_641 : decode cL_law 641 = .ok (.iaload, 1) := by decide +kernel
theorem dL_law_642 : decode cL_law 642 = .ok (.invokevirtual 89, 3) := by decide +kernel
theorem dL_law_645 : decode cL_law 645 = .ok (.aload_n 2, 1) := by decide +kernel
theorem dL_law_646 : decode cL_law 646 = .ok (.aload_n 0, 1) := by decide +kernel
theorem dL_law_647 : decode cL_law 647 = .ok (.iload_n 3, 1) := by decide +kernel
theorem dL_law_648 : decode cL_law 648 = .ok (.iconst 1, 1) := by decide +kernel
theorem dL_law_649 : decode cL_law 649 = .ok (.iadd, 1) := by decide +kernel
theorem dL_law_650 : decode cL_law 650 = .ok (.iaload, 1) := by decide +kernel
theorem dL_law_651 : decode cL_law 651 = .ok (.invokevirtual 92, 3) := by decide +kernel
theorem dL_law_654 : decode cL_law 654 = .ok (.if_icmp .eq 719, 3) := by decide +kernel
theorem dL_law_657 : decode cL_law 657 = .ok (.iconst 0, 1) := by decide +kernel
theorem dL_law_658 : decode cL_law 658 = .ok (.ireturn, 1) := by decide +kernel
theorem dL_law_659 : decode cL_law 659 = .ok (.aload_n 1, 1) := by decide +kernel
theorem dL_law_660 : decode cL_law 660 = .ok (.invokevirtual 93, 3) := by decide +kernel
theorem dL_law_663 : decode cL_law 663 = .ok (.aload_n 2, 1) := by decide +kernel
theorem dL_law_664 : decode cL_law 664 = .ok (.invokevirtual 96, 3) := by decide +kernel
theorem dL_law_667 : decode cL_law 667 = .ok (.if_icmp .eq 706, 3) := by decide +kernel
theorem dL_law_670 : decode cL_law 670 = .ok (.iconst 0, 1) := by decide +kernel
theorem dL_law_671 : decode cL_law 671 = .ok (.ireturn, 1) := by decide +kernel
theorem dL_law_672 : decode cL_law 672 = .ok (.aload_n 1, 1) := by decide +kernel
theorem dL_law_673 : decode cL_law 673 = .ok (.invokevirtual 97, 3) := by decide +kernel
theorem dL_law_676 : decode cL_law 676 = .ok (.aload_n 2, 1) := by decide +kernel
theorem dL_law_677 : decode cL_law 677 = .ok (.invokevirtual 100, 3) := by decide +kernel
theorem dL_law_680 : decode cL_law 680 = .ok (.if_icmp .eq 693, 3) := by decide +kernel
theorem dL_law_683 : decode cL_law 683 = .ok (.iconst 0, 1) := by decide +kernel
theorem dL_law_684 : decode cL_law 684 = .ok (.ireturn, 1) := by decide +kernel
theorem dL_law_685 : decode cL_law 685 = .ok (.aload_n 1, 1) := by decide +kernel
theorem dL_law_686 : decode cL_law 686 = .ok (.invokevirtual 101, 3) := by decide +kernel
theorem dL_law_689 : decode cL_law 689 = .ok (.aload_n 2, 1) := by decide +kernel
theorem dL_law_690 : decode cL_law 690 = .ok (.invokevirtual 104, 3) := by decide +kernel
theorem dL_law_693 : decode cL_law 693 = .ok (.if_icmp .eq 680, 3) := by decide +kernel
theorem dL_law_696 : decode cL_law 696 = .ok (.iconst 0, 1) := by decide +kernel
theorem dL_law_697 : decode cL_law 697 = .ok (.ireturn, 1) := by decide +kernel
theorem dL_law_698 : decode cL_law 698 = .ok (.aload_n 1, 1) := by decide +kernel
theorem dL_law_699 : decode cL_law 699 = .ok (.aload_n 0, 1) := by decide +kernel
theorem dL_law_700 : decode cL_law 700 = .ok (.iload_n 3, 1) := by decide +kernel
theorem dL_law_701 : decode cL_law 701 = .ok (.iconst 1, 1) := by decide +kernel
theorem dL_law_702 : decode cL_law 702 = .ok (.iadd, 1) := by decide +kernel
theorem dL_law_703 : decode cL_law 703 = .ok (.iaload, 1) := by decide +kernel
theorem dL_law_704 : decode cL_law 704 = .ok (.invokevirtual 105, 3) := by decide +kernel
theorem dL_law_707 : decode cL_law 707 = .ok (.aload_n 2, 1) := by decide +kernel
theorem dL_law_708 : decode cL_law 708 = .ok (.aload_n 0, 1) := by decide +kernel
theorem dL_law_709 : decode cL_law 709 = .ok (.iload_n 3, 1) := by decide +kernel
theorem dL_law_710 : decode cL_law 710 = .ok (.iconst 1, 1) := by decide +kernel
theorem dL_law_711 : decode cL_law 711 = .ok (.iadd, 1) := by decide +kernel
theorem dL_law_712 : decode cL_law 712 = .ok (.iaload, 1) := by decide +kernel
theorem dL_law_713 : decode cL_law 713 = .ok (.invokevirtual 108, 3) := by decide +kernel
theorem dL_law_716 : decode cL_law 716 = .ok (.if_icmp .eq 657, 3) := by decide +kernel
theorem dL_law_719 : decode cL_law 719 = .ok (.iconst 0, 1) := by decide +kernel
theorem dL_law_720 : decode cL_law 720 = .ok (.ireturn, 1) := by decide +kernel
theorem dL_law_721 : decode cL_law 721 = .ok (.aload_n 1, 1) := by decide +kernel
theorem dL_law_722 : decode cL_law 722 = .ok (.invokevirtual 109, 3) := by decide +kernel
theorem dL_law_725 : decode cL_law 725 = .ok (.aload_n 2, 1) := by decide +kernel
theorem dL_law_726 : decode cL_law 726 = .ok (.invokevirtual 112, 3) := by decide +kernel
theorem dL_law_729 : decode cL_law 729 = .ok (.if_icmp .eq 644, 3) := by decide +kernel
theorem dL_law_732 : decode cL_law 732 = .ok (.iconst 0, 1) := by decide +kernel
theorem dL_law_733 : decode cL_law 733 = .ok (.ireturn, 1) := by decide +kernel
theorem dL_law_734 : decode cL_law 734 = .ok (.aload_n 1, 1) := by decide +kernel
theorem dL_law_735 : decode cL_law 735 = .ok (.invokevirtual 113, 3) := by decide +kernel
theorem dL_law_738 : decode cL_law 738 = .ok (.aload_n 2, 1) := by decide +kernel
theorem dL_law_739 : decode cL_law 739 = .ok (.invokevirtual 116, 3) := by decide +kernel
theorem dL_law_742 : decode cL_law 742 = .ok (.if_icmp .eq 631, 3) := by decide +kernel
theorem dL_law_745 : decode cL_law 745 = .ok (.iconst 0, 1) := by decide +kernel
theorem dL_law_746 : decode cL_law 746 = .ok (.ireturn, 1) := by decide +kernel
theorem dL_law_747 : decode cL_law 747 = .ok (.aload_n 1, 1) := by decide +kernel
theorem dL_law_748 : decode cL_law 748 = .ok (.aload_n 0, 1) := by decide +kernel
theorem dL_law_749 : decode cL_law 749 = .ok (.iload_n 3, 1) := by decide +kernel
theorem dL_law_750 : decode cL_law 750 = .ok (.iconst 1, 1) := by decide +kernel
theorem dL_law_751 : decode cL_law 751 = .ok (.iadd, 1) := by decide +kernel
theorem dL_law_752 : decode cL_law 752 = .ok (.iaload, 1) := by decide +kernel
theorem dL_law_753 : decode cL_law 753 = .ok (.invokevirtual 117, 3) := by decide +kernel
theorem dL_law_756 : decode cL_law 756 = .ok (.aload_n 2, 1) := by decide +kernel
theorem dL_law_757 : decode cL_law 757 = .ok (.aload_n 0, 1) := by decide +kernel
theorem dL_law_758 : decode cL_law 758 = .ok (.iload_n 3, 1) := by decide +kernel
theorem dL_law_759 : decode cL_law 759 = .ok (.iconst 1, 1) := by decide +kernel
theorem dL_law_760 : decode cL_law 760 = .ok (.iadd, 1) := by decide +kernel
theorem dL_law_761 : decode cL_law 761 = .ok (.iaload, 1) := by decide +kernel
theorem dL_law_762 : decode cL_law 762 = .ok (.invokevirtual 120, 3) := by decide +kernel
theorem dL_law_765 : decode cL_law 765 = .ok (.if_icmp .eq 608, 3) := by decide +kernel
theorem dL_law_768 : decode cL_law 768 = .ok (.iconst 0, 1) := by decide +kernel
theorem dL_law_769 : decode cL_law 769 = .ok (.ireturn, 1) := by decide +kernel
theorem dL_law_770 : decode cL_law 770 = .ok (.aload_n 1, 1) := by decide +kernel
theorem dL_law_771 : decode cL_law 771 = .ok (.invokevirtual 121, 3) := by decide +kernel
theorem dL_law_774 : decode cL_law 774 = .ok (.aload_n 2, 1) := by decide +kernel
theorem dL_law_775 : decode cL_law 775 = .ok (.invokevirtual 124, 3) := by decide +kernel
theorem dL_law_778 : decode cL_law 778 = .ok (.if_icmp .eq 595, 3) := by decide +kernel
theorem dL_law_781 : decode cL_law 781 = .ok (.iconst 0, 1) := by decide +kernel
theorem dL_law_782 : decode cL_law 782 = .ok (.ireturn, 1) := by decide +kernel
theorem dL_law_783 : decode cL_law 783 = .ok (.aload_n 1, 1) := by decide +kernel
theorem dL_law_784 : decode cL_law 784 = .ok (.aload_n 0, 1) := by decide +kernel
theorem dL_law_785 : decode cL_law 785 = .ok (.iload_n 3, 1) := by decide +kernel
theorem dL_law_786 : decode cL_law 786 = .ok (.iconst 1, 1) := by decide +kernel
theorem dL_law_787 : decode cL_law 787 = .ok (.iadd, 1) := by decide +kernel
theorem dL_law_788 : decode cL_law 788 = .ok (.iaload, 1) := by decide +kernel
theorem dL_law_789 : decode cL_law 789 = .ok (.aload_n 0, 1) := by decide +kernel
theorem dL_law_790 : decode cL_law 790 = .ok (.iload_n 3, 1) := by decide +kernel
theorem dL_law_791 : decode cL_law 791 = .ok (.iconst 2, 1) := by decide +kernel
theorem dL_law_792 : decode cL_law 792 = .ok (.iadd, 1) := by decide +kernel
theorem dL_law_793 : decode cL_law 793 = .ok (.iaload, 1) := by decide +kernel
theorem dL_law_794 : decode cL_law 794 = .ok (.invokevirtual 125, 3) := by decide +kernel
theorem dL_law_797 : decode cL_law 797 = .ok (.aload_n 2, 1) := by decide +kernel
theorem dL_law_798 : decode cL_law 798 = .ok (.aload_n 0, 1) := by decide +kernel
theorem dL_law_799 : decode cL_law 799 = .ok (.iload_n 3, 1) := by decide +kernel
theorem dL_law_800 : decode cL_law 800 = .ok (.iconst 1, 1) := by decide +kernel
theorem dL_law_801 : decode cL_law 801 = .ok (.iadd, 1) := by decide +kernel
theorem dL_law_802 : decode cL_law 802 = .ok (.iaload, 1) := by decide +kernel
theorem dL_law_803 : decode cL_law 803 = .ok (.aload_n 0, 1) := by decide +kernel
theorem dL_law_804 : decode cL_law 804 = .ok (.iload_n 3, 1) := by decide +kernel
theorem dL_law_805 : decode cL_law 805 = .ok (.iconst 2, 1) := by decide +kernel
theorem dL_law_806 : decode cL_law 806 = .ok (.iadd, 1) := by decide +kernel
theorem dL_law_807 : decode cL_law 807 = .ok (.iaload, 1) := by decide +kernel
theorem dL_law_808 : decode cL_law 808 = .ok (.invokevirtual 128, 3) := by decide +kernel
theorem dL_law_811 : decode cL_law 811 = .ok (.if_icmp .eq 562, 3) := by decide +kernel
theorem dL_law_814 : decode cL_law 814 = .ok (.iconst 0, 1) := by decide +kernel
theorem dL_law_815 : decode cL_law 815 = .ok (.ireturn, 1) := by decide +kernel
theorem dL_law_816 : decode cL_law 816 = .ok (.aload_n 1, 1) := by decide +kernel
theorem dL_law_817 : decode cL_law 817 = .ok (.aload_n 0, 1) := by decide +kernel
theorem dL_law_818 : decode cL_law 818 = .ok (.iload_n 3, 1) := by decide +kernel
theorem dL_law_819 : decode cL_law 819 = .ok (.iconst 1, 1) := by decide +kernel
theorem dL_law_820 : decode cL_law 820 = .ok (.iadd, 1) := by decide +kernel
theorem dL_law_821 : decode cL_law 821 = .ok (.iaload, 1) := by decide +kernel
theorem dL_law_822 : decode cL_law 822 = .ok (.invokevirtual 129, 3) := by decide +kernel
theorem dL_law_825 : decode cL_law 825 = .ok (.aload_n 2, 1) := by decide +kernel
theorem dL_law_826 : decode cL_law 826 = .ok (.aload_n 0, 1) := by decide +kernel
theorem dL_law_827 : decode cL_law 827 = .ok (.iload_n 3, 1) := by decide +kernel
theorem dL_law_828 : decode cL_law 828 = .ok (.iconst 1, 1) := by decide +kernel
theorem dL_law_829 : decode cL_law 829 = .ok (.iadd, 1) := by decide +kernel
theorem dL_law_830 : decode cL_law 830 = .ok (.iaload, 1) := by decide +kernel
theorem dL_law_831 : decode cL_law 831 = .ok (.invokevirtual 132, 3) := by decide +kernel
theorem dL_law_834 : decode cL_law 834 = .ok (.if_icmp .eq 539, 3) := by decide +kernel
theorem dL_law_837 : decode cL_law 837 = .ok (.iconst 0, 1) := by decide +kernel
theorem dL_law_838 : decode cL_law 838 = .ok (.ireturn, 1) := by decide +kernel
theorem dL_law_839 : decode cL_law 839 = .ok (.aload_n 1, 1) := by decide +kernel
theorem dL_law_840 : decode cL_law 840 = .ok (.invokevirtual 133, 3) := by decide +kernel
theorem dL_law_843 : decode cL_law 843 = .ok (.aload_n 2, 1) := by decide +kernel
theorem dL_law_844 : decode cL_law 844 = .ok (.invokevirtual 136, 3) := by decide +kernel
theorem dL_law_847 : decode cL_law 847 = .ok (.if_icmp .eq 526, 3) := by decide +kernel
theorem dL_law_850 : decode cL_law 850 = .ok (.iconst 0, 1) := by decide +kernel
theorem dL_law_851 : decode cL_law 851 = .ok (.ireturn, 1) := by decide +kernel
theorem dL_law_852 : decode cL_law 852 = .ok (.aload_n 1, 1) := by decide +kernel
theorem dL_law_853 : decode cL_law 853 = .ok (.aload_n 0, 1) := by decide +kernel
theorem dL_law_854 : decode cL_law 854 = .ok (.iload_n 3, 1) := by decide +kernel
theorem dL_law_855 : decode cL_law 855 = .ok (.iconst 1, 1) := by decide +kernel
theorem dL_law_856 : decode cL_law 856 = .ok (.iadd, 1) := by decide +kernel
theorem dL_law_857 : decode cL_law 857 = .ok (.iaload, 1) := by decide +kernel
theorem dL_law_858 : decode cL_law 858 = .ok (.invokevirtual 137, 3) := by decide +kernel
theorem dL_law_861 : decode cL_law 861 = .ok (.aload_n 2, 1) := by decide +kernel
theorem dL_law_862 : decode cL_law 862 = .ok (.aload_n 0, 1) := by decide +kernel
theorem dL_law_863 : decode cL_law 863 = .ok (.iload_n 3, 1) := by decide +kernel
theorem dL_law_864 : decode cL_law 864 = .ok (.iconst 1, 1) := by decide +kernel
theorem dL_law_865 : decode cL_law 865 = .ok (.iadd, 1) := by decide +kernel
theorem dL_law_866 : decode cL_law 866 = .ok (.iaload, 1) := by decide +kernel
theorem dL_law_867 : decode cL_law 867 = .ok (.invokevirtual 140, 3) := by decide +kernel
theorem dL_law_870 : decode cL_law 870 = .ok (.if_icmp .eq 503, 3) := by decide +kernel
theorem dL_law_873 : decode cL_law 873 = .ok (.iconst 0, 1) := by decide +kernel
theorem dL_law_874 : decode cL_law 874 = .ok (.ireturn, 1) := by decide +kernel
theorem dL_law_875 : decode cL_law 875 = .ok (.aload_n 1, 1) := by decide +kernel
theorem dL_law_876 : decode cL_law 876 = .ok (.aload_n 0, 1) := by decide +kernel
theorem dL_law_877 : decode cL_law 877 = .ok (.iload_n 3, 1) := by decide +kernel
theorem dL_law_878 : decode cL_law 878 = .ok (.iconst 1, 1) := by decide +kernel
theorem dL_law_879 : decode cL_law 879 = .ok (.iadd, 1) := by decide +kernel
theorem dL_law_880 : decode cL_law 880 = .ok (.iaload, 1) := by decide +kernel
theorem dL_law_881 : decode cL_law 881 = .ok (.aload_n 0, 1) := by decide +kernel
theorem dL_law_882 : decode cL_law 882 = .ok (.iload_n 3, 1) := by decide +kernel
theorem dL_law_883 : decode cL_law 883 = .ok (.iconst 2, 1) := by decide +kernel
theorem dL_law_884 : decode cL_law 884 = .ok (.iadd, 1) := by decide +kernel
theorem dL_law_885 : decode cL_law 885 = .ok (.iaload, 1) := by decide +kernel
theorem dL_law_886 : decode cL_law 886 = .ok (.invokevirtual 141, 3) := by decide +kernel
theorem dL_law_889 : decode cL_law 889 = .ok (.aload_n 2, 1) := by decide +kernel
theorem dL_law_890 : decode cL_law 890 = .ok (.aload_n 0, 1) := by decide +kernel
theorem dL_law_891 : decode cL_law 891 = .ok (.iload_n 3, 1) := by decide +kernel
theorem dL_law_892 : decode cL_law 892 = .ok (.iconst 1, 1) := by decide +kernel
theorem dL_law_893 : decode cL_law 893 = .ok (.iadd, 1) := by decide +kernel
theorem dL_law_894 : decode cL_law 894 = .ok (.iaload, 1) := by decide +kernel
theorem dL_law_895 : decode cL_law 895 = .ok (.aload_n 0, 1) := by decide +kernel
theorem dL_law_896 : decode cL_law 896 = .ok (.iload_n 3, 1) := by decide +kernel
theorem dL_law_897 : decode cL_law 897 = .ok (.iconst 2, 1) := by decide +kernel
theorem dL_law_898 : decode cL_law 898 = .ok (.iadd, 1) := by decide +kernel
theorem dL_law_899 : decode cL_law 899 = .ok (.iaload, 1) := by decide +kernel
theorem dL_law_900 : decode cL_law 900 = .ok (.invokevirtual 144, 3) := by decide +kernel
theorem dL_law_903 : decode cL_law 903 = .ok (.if_icmp .eq 470, 3) := by decide +kernel
theorem dL_law_906 : decode cL_law 906 = .ok (.iconst 0, 1) := by decide +kernel
theorem dL_law_907 : decode cL_law 907 = .ok (.ireturn, 1) := by decide +kernel
theorem dL_law_908 : decode cL_law 908 = .ok (.aload_n 1, 1) := by decide +kernel
theorem dL_law_909 : decode cL_law 909 = .ok (.aload_n 0, 1) := by decide +kernel
theorem dL_law_910 : decode cL_law 910 = .ok (.iload_n 3, 1) := by decide +kernel
theorem dL_law_911 : decode cL_law 911 = .ok (.iconst 1, 1) := by decide +kernel
theorem dL_law_912 : decode cL_law 912 = .ok (.iadd, 1) := by decide +kernel
theorem dL_law_913 : decode cL_law 913 = .ok (.iaload, 1) := by decide +kernel
theorem dL_law_914 : decode cL_law 914 = .ok (.invokevirtual 145, 3) := by decide +kernel
theorem dL_law_917 : decode cL_law 917 = .ok (.aload_n 2, 1) := by decide +kernel
theorem dL_law_918 : decode cL_law 918 = .ok (.aload_n 0, 1) := by decide +kernel
theorem dL_law_919 : decode cL_law 919 = .ok (.iload_n 3, 1) := by decide +kernel
theorem dL_law_920 : decode cL_law 920 = .ok (.iconst 1, 1) := by decide +kernel
theorem dL_law_921 : decode cL_law 921 = .ok (.iadd, 1) := by decide +kernel
theorem dL_law_922 : decode cL_law 922 = .ok (.iaload, 1) := by decide +kernel
theorem dL_law_923 : decode cL_law 923 = .ok (.invokevirtual 148, 3) := by decide +kernel
theorem dL_law_926 : decode cL_law 926 = .ok (.if_icmp .eq 447, 3) := by decide +kernel
theorem dL_law_929 : decode cL_law 929 = .ok (.iconst 0, 1) := by decide +kernel
theorem dL_law_930 : decode cL_law 930 = .ok (.ireturn, 1) := by decide +kernel
theorem dL_law_931 : decode cL_law 931 = .ok (.aload_n 1, 1) := by decide +kernel
theorem dL_law_932 : decode cL_law 932 = .ok (.aload_n 0, 1) := by decide +kernel
theorem dL_law_933 : decode cL_law 933 = .ok (.iload_n 3, 1) := by decide +kernel
theorem dL_law_934 : decode cL_law 934 = .ok (.iconst 1, 1) := by decide +kernel
theorem dL_law_935 : decode cL_law 935 = .ok (.iadd, 1) := by decide +kernel
theorem dL_law_936 : decode cL_law 936 = .ok (.iaload, 1) := by decide +kernel
theorem dL_law_937 : decode cL_law 937 = .ok (.aload_n 0, 1) := by decide +kernel
theorem dL_law_938 : decode cL_law 938 = .ok (.iload_n 3, 1) := by decide +kernel
theorem dL_law_939 : decode cL_law 939 = .ok (.iconst 2, 1) := by decide +kernel
theorem dL_law_940 : decode cL_law 940 = .ok (.iadd, 1) := by decide +kernel
theorem dL_law_941 : decode cL_law 941 = .ok (.iaload, 1) := by decide +kernel
theorem dL_law_942 : decode cL_law 942 = .ok (.aload_n 0, 1) := by decide +kernel
theorem dL_law_943 : decode cL_law 943 = .ok (.iload_n 3, 1) := by decide +kernel
theorem dL_law_944 : decode cL_law 944 = .ok (.iconst 3, 1) := by decide +kernel
theorem dL_law_945 : decode cL_law 945 = .ok (.iadd, 1) := by decide +kernel
theorem dL_law_946 : decode cL_law 946 = .ok (.iaload, 1) := by decide +kernel
theorem dL_law_947 : decode cL_law 947 = .ok (.invokevirtual 149, 3) := by decide +kernel
theorem dL_law_950 : decode cL_law 950 = .ok (.aload_n 2, 1) := by decide +kernel
theorem dL_law_951 : decode cL_law 951 = .ok (.aload_n 0, 1) := by decide +kernel
theorem dL_law_952 : decode cL_law 952 = .ok (.iload_n 3, 1) := by decide +kernel
theorem dL_law_953 : decode cL_law 953 = .ok (.iconst 1, 1) := by decide +kernel
theorem dL_law_954 : decode cL_law 954 = .ok (.iadd, 1) := by decide +kernel
theorem dL_law_955 : decode cL_law 955 = .ok (.iaload, 1) := by decide +kernel
theorem dL_law_956 : decode cL_law 956 = .ok (.aload_n 0, 1) := by decide +kernel
theorem dL_law_957 : decode cL_law 957 = .ok (.iload_n 3, 1) := by decide +kernel
theorem dL_law_958 : decode cL_law 958 = .ok (.iconst 2, 1) := by decide +kernel
theorem dL_law_959 : decode cL_law 959 = .ok (.iadd, 1) := by decide +kernel
theorem dL_law_960 : decode cL_law 960 = .ok (.iaload, 1) := by decide +kernel
theorem dL_law_961 : decode cL_law 961 = .ok (.aload_n 0, 1) := by decide +kernel
theorem dL_law_962 : decode cL_law 962 = .ok (.iload_n 3, 1) := by decide +kernel
theorem dL_law_963 : decode cL_law 963 = .ok (.iconst 3, 1) := by decide +kernel
theorem dL_law_964 : decode cL_law 964 = .ok (.iadd, 1) := by decide +kernel
theorem dL_law_965 : decode cL_law 965 = .ok (.iaload, 1) := by decide +kernel
theorem dL_law_966 : decode cL_law 966 = .ok (.invokevirtual 152, 3) := by decide +kernel
theorem dL_law_969 : decode cL_law 969 = .ok (.if_icmp .eq 404, 3) := by decide +kernel
theorem dL_law_972 : decode cL_law 972 = .ok (.iconst 0, 1) := by decide +kernel
theorem dL_law_973 : decode cL_law 973 = .ok (.ireturn, 1) := by decide +kernel
theorem dL_law_974 : decode cL_law 974 = .ok (.aload_n 1, 1) := by decide +kernel
theorem dL_law_975 : decode cL_law 975 = .ok (.aload_n 0, 1) := by decide +kernel
theorem dL_law_976 : decode cL_law 976 = .ok (.iload_n 3, 1) := by decide +kernel
theorem dL_law_977 : decode cL_law 977 = .ok (.iconst 1, 1) := by decide +kernel
theorem dL_law_978 : decode cL_law 978 = .ok (.iadd, 1) := by decide +kernel
theorem dL_law_979 : decode cL_law 979 = .ok (.iaload, 1) := by decide +kernel
theorem dL_law_980 : decode cL_law 980 = .ok (.invokevirtual 153, 3) := by decide +kernel
theorem dL_law_983 : decode cL_law 983 = .ok (.aload_n 2, 1) := by decide +kernel
theorem dL_law_984 : decode cL_law 984 = .ok (.aload_n 0, 1) := by decide +kernel
theorem dL_law_985 : decode cL_law 985 = .ok (.iload_n 3, 1) := by decide +kernel
theorem dL_law_986 : decode cL_law 986 = .ok (.iconst 1, 1) := by decide +kernel
theorem dL_law_987 : decode cL_law 987 = .ok (.iadd, 1) := by decide +kernel
theorem dL_law_988 : decode cL_law 988 = .ok (.iaload, 1) := by decide +kernel
theorem dL_law_989 : decode cL_law 989 = .ok (.invokevirtual 157, 3) := by decide +kernel
theorem dL_law_992 : decode cL_law 992 = .ok (.lcmp, 1) := by decide +kernel
theorem dL_law_993 : decode cL_law 993 = .ok (.ifCond .eq 380, 3) := by decide +kernel
theorem dL_law_996 : decode cL_law 996 = .ok (.iconst 0, 1) := by decide +kernel
theorem dL_law_997 : decode cL_law 997 = .ok (.ireturn, 1) := by decide +kernel
theorem dL_law_998 : decode cL_law 998 = .ok (.aload_n 1, 1) := by decide +kernel
theorem dL_law_999 : decode cL_law 999 = .ok (.aload_n 0, 1) := by decide +kernel
theorem dL_law_1000 : decode cL_law 1000 = .ok (.iload_n 3, 1) := by decide +kernel
theorem dL_law_1001 : decode cL_law 1001 = .ok (.iconst 1, 1) := by decide +kernel
theorem dL_law_1002 : decode cL_law 1002 = .ok (.iadd, 1) := by decide +kernel
theorem dL_law_1003 : decode cL_law 1003 = .ok (.iaload, 1) := by decide +kernel
theorem dL_law_1004 : decode cL_law 1004 = .ok (.invokevirtual 158, 3) := by decide +kernel
theorem dL_law_1007 : decode cL_law 1007 = .ok (.aload_n 2, 1) := by decide +kernel
theorem dL_law_1008 : decode cL_law 1008 = .ok (.aload_n 0, 1) := by decide +kernel
theorem dL_law_1009 : decode cL_law 1009 = .ok (.iload_n 3, 1) := by decide +kernel
theorem dL_law_1010 : decode cL_law 1010 = .ok (.iconst 1, 1) := by decide +kernel
theorem dL_law_1011 : decode cL_law 1011 = .ok (.iadd, 1) := by decide +kernel
theorem dL_law_1012 : decode cL_law 1012 = .ok (.iaload, 1) := by decide +kernel
theorem dL_law_1013 : decode cL_law 1013 = .ok (.invokevirtual 161, 3) := by decide +kernel
theorem dL_law_1016 : decode cL_law 1016 = .ok (.lcmp, 1) := by decide +kernel
theorem dL_law_1017 : decode cL_law 1017 = .ok (.ifCond .eq 356, 3) := by decide +kernel
theorem dL_law_1020 : decode cL_law 1020 = .ok (.iconst 0, 1) := by decide +kernel
theorem dL_law_1021 : decode cL_law 1021 = .ok (.ireturn, 1) := by decide +kernel
theorem dL_law_1022 : decode cL_law 1022 = .ok (.aload_n 1, 1) := by decide +kernel
theorem dL_law_1023 : decode cL_law 1023 = .ok (.aload_n 0, 1) := by decide +kernel
theorem dL_law_1024 : decode cL_law 1024 = .ok (.iload_n 3, 1) := by decide +kernel
theorem dL_law_1025 : decode cL_law 1025 = .ok (.iconst 1, 1) := by decide +kernel
theorem dL_law_1026 : decode cL_law 1026 = .ok (.iadd, 1) := by decide +kernel
theorem dL_law_1027 : decode cL_law 1027 = .ok (.iaload, 1) := by decide +kernel
theorem dL_law_1028 : decode cL_law 1028 = .ok (.invokevirtual 162, 3) := by decide +kernel
theorem dL_law_1031 : decode cL_law 1031 = .ok (.aload_n 2, 1) := by decide +kernel
theorem dL_law_1032 : decode cL_law 1032 = .ok (.aload_n 0, 1) := by decide +kernel
theorem dL_law_1033 : decode cL_law 1033 = .ok (.iload_n 3, 1) := by decide +kernel
theorem dL_law_1034 : decode cL_law 1034 = .ok (.iconst 1, 1) := by decide +kernel
theorem dL_law_1035 : decode cL_law 1035 = .ok (.iadd, 1) := by decide +kernel
theorem dL_law_1036 : decode cL_law 1036 = .ok (.iaload, 1) := by decide +kernel
theorem dL_law_1037 : decode cL_law 1037 = .ok (.invokevirtual 165, 3) := by decide +kernel
theorem dL_law_1040 : decode cL_law 1040 = .ok (.if_icmp .eq 333, 3) := by decide +kernel
theorem dL_law_1043 : decode cL_law 1043 = .ok (.iconst 0, 1) := by decide +kernel
theorem dL_law_1044 : decode cL_law 1044 = .ok (.ireturn, 1) := by decide +kernel
theorem dL_law_1045 : decode cL_law 1045 = .ok (.aload_n 1, 1) := by decide +kernel
theorem dL_law_1046 : decode cL_law 1046 = .ok (.aload_n 0, 1) := by decide +kernel
theorem dL_law_1047 : decode cL_law 1047 = .ok (.iload_n 3, 1) := by decide +kernel
theorem dL_law_1048 : decode cL_law 1048 = .ok (.iconst 1, 1) := by decide +kernel
theorem dL_law_1049 : decode cL_law 1049 = .ok (.iadd, 1) := by decide +kernel
theorem dL_law_1050 : decode cL_law 1050 = .ok (.iaload, 1) := by decide +kernel
theorem dL_law_1051 : decode cL_law 1051 = .ok (.aload_n 0, 1) := by decide +kernel
theorem dL_law_1052 : decode cL_law 1052 = .ok (.iload_n 3, 1) := by decide +kernel
theorem dL_law_1053 : decode cL_law 1053 = .ok (.iconst 2, 1) := by decide +kernel
theorem dL_law_1054 : decode cL_law 1054 = .ok (.iadd, 1) := by decide +kernel
theorem dL_law_1055 : decode cL_law 1055 = .ok (.iaload, 1) := by decide +kernel
theorem dL_law_1056 : decode cL_law 1056 = .ok (.aload_n 0, 1) := by decide +kernel
theorem dL_law_1057 : decode cL_law 1057 = .ok (.iload_n 3, 1) := by decide +kernel
theorem dL_law_1058 : decode cL_law 1058 = .ok (.iconst 3, 1) := by decide +kernel
theorem dL_law_1059 : decode cL_law 1059 = .ok (.iadd, 1) := by decide +kernel
theorem dL_law_1060 : decode cL_law 1060 = .ok (.iaload, 1) := by decide +kernel
theorem dL_law_1061 : decode cL_law 1061 = .ok (.invokevirtual 166, 3) := by decide +kernel
theorem dL_law_1064 : decode cL_law 1064 = .ok (.aload_n 2, 1) := by decide +kernel
theorem dL_law_1065 : decode cL_law 1065 = .ok (.aload_n 0, 1) := by decide +kernel
theorem dL_law_1066 : decode cL_law 1066 = .ok (.iload_n 3, 1) := by decide +kernel
theorem dL_law_1067 : decode cL_law 1067 = .ok (.iconst 1, 1) := by decide +kernel
theorem dL_law_1068 : decode cL_law 1068 = .ok (.iadd, 1) := by decide +kernel
theorem dL_law_1069 : decode cL_law 1069 = .ok (.iaload, 1) := by decide +kernel
theorem dL_law_1070 : decode cL_law 1070 = .ok (.aload_n 0, 1) := by decide +kernel
theorem dL_law_1071 : decode cL_law 1071 = .ok (.iload_n 3, 1) := by decide +kernel
theorem dL_law_1072 : decode cL_law 1072 = .ok (.iconst 2, 1) := by decide +kernel
theorem dL_law_1073 : decode cL_law 1073 = .ok (.iadd, 1) := by decide +kernel
theorem dL_law_1074 : decode cL_law 1074 = .ok (.iaload, 1) := by decide +kernel
theorem dL_law_1075 : decode cL_law 1075 = .ok (.aload_n 0, 1) := by decide +kernel
theorem dL_law_1076 : decode cL_law 1076 = .ok (.iload_n 3, 1) := by decide +kernel
theorem dL_law_1077 : decode cL_law 1077 = .ok (.iconst 3, 1) := by decide +kernel
theorem dL_law_1078 : decode cL_law 1078 = .ok (.iadd, 1) := by decide +kernel
theorem dL_law_1079 : decode cL_law 1079 = .ok (.iaload, 1) := by decide +kernel
theorem dL_law_1080 : decode cL_law 1080 = .ok (.invokevirtual 169, 3) := by decide +kernel
theorem dL_law_1083 : decode cL_law 1083 = .ok (.if_icmp .eq 290, 3) := by decide +kernel
theorem dL_law_1086 : decode cL_law 1086 = .ok (.iconst 0, 1) := by decide +kernel
theorem dL_law_1087 : decode cL_law 1087 = .ok (.ireturn, 1) := by decide +kernel
theorem dL_law_1088 : decode cL_law 1088 = .ok (.aload_n 1, 1) := by decide +kernel
theorem dL_law_1089 : decode cL_law 1089 = .ok (.aload_n 0, 1) := by decide +kernel
theorem dL_law_1090 : decode cL_law 1090 = .ok (.iload_n 3, 1) := by decide +kernel
theorem dL_law_1091 : decode cL_law 1091 = .ok (.iconst 1, 1) := by decide +kernel
theorem dL_law_1092 : decode cL_law 1092 = .ok (.iadd, 1) := by decide +kernel
theorem dL_law_1093 : decode cL_law 1093 = .ok (.iaload, 1) := by decide +kernel
theorem dL_law_1094 : decode cL_law 1094 = .ok (.invokevirtual 170, 3) := by decide +kernel
theorem dL_law_1097 : decode cL_law 1097 = .ok (.aload_n 2, 1) := by decide +kernel
theorem dL_law_1098 : decode cL_law 1098 = .ok (.aload_n 0, 1) := by decide +kernel
theorem dL_law_1099 : decode cL_law 1099 = .ok (.iload_n 3, 1) := by decide +kernel
theorem dL_law_1100 : decode cL_law 1100 = .ok (.iconst 1, 1) := by decide +kernel
theorem dL_law_1101 : decode cL_law 1101 = .ok (.iadd, 1) := by decide +kernel
theorem dL_law_1102 : decode cL_law 1102 = .ok (.iaload, 1) := by decide +kernel
theorem dL_law_1103 : decode cL_law 1103 = .ok (.invokevirtual 173, 3) := by decide +kernel
theorem dL_law_1106 : decode cL_law 1106 = .ok (.if_icmp .eq 267, 3) := by decide +kernel
theorem dL_law_1109 : decode cL_law 1109 = .ok (.iconst 0, 1) := by decide +kernel
theorem dL_law_1110 : decode cL_law 1110 = .ok (.ireturn, 1) := by decide +kernel
theorem dL_law_1111 : decode cL_law 1111 = .ok (.aload_n 1, 1) := by decide +kernel
theorem dL_law_1112 : decode cL_law 1112 = .ok (.aload_n 0, 1) := by decide +kernel
theorem dL_law_1113 : decode cL_law 1113 = .ok (.iload_n 3, 1) := by decide +kernel
theorem dL_law_1114 : decode cL_law 1114 = .ok (.iconst 1, 1) := by decide +kernel
theorem dL_law_1115 : decode cL_law 1115 = .ok (.iadd, 1) := by decide +kernel
theorem dL_law_1116 : decode cL_law 1116 = .ok (.iaload, 1) := by decide +kernel
theorem dL_law_1117 : decode cL_law 1117 = .ok (.aload_n 0, 1) := by decide +kernel
theorem dL_law_1118 : decode cL_law 1118 = .ok (.iload_n 3, 1) := by decide +kernel
theorem dL_law_1119 : decode cL_law 1119 = .ok (.iconst 2, 1) := by decide +kernel
theorem dL_law_1120 : decode cL_law 1120 = .ok (.iadd, 1) := by decide +kernel
theorem dL_law_1121 : decode cL_law 1121 = .ok (.iaload, 1) := by decide +kernel
theorem dL_law_1122 : decode cL_law 1122 = .ok (.aload_n 0, 1) := by decide +kernel
theorem dL_law_1123 : decode cL_law 1123 = .ok (.iload_n 3, 1) := by decide +kernel
theorem dL_law_1124 : decode cL_law 1124 = .ok (.iconst 3, 1) := by decide +kernel
theorem dL_law_1125 : decode cL_law 1125 = .ok (.iadd, 1) := by decide +kernel
theorem dL_law_1126 : decode cL_law 1126 = .ok (.iaload, 1) := by decide +kernel
theorem dL_law_1127 : decode cL_law 1127 = .ok (.i2l, 1) := by decide +kernel
theorem dL_law_1128 : decode cL_law 1128 = .ok (.bipush 32, 2) := by decide +kernel
theorem dL_law_1130 : decode cL_law 1130 = .ok (.lshl, 1) := by decide +kernel
theorem dL_law_1131 : decode cL_law 1131 = .ok (.aload_n 0, 1) := by decide +kernel
theorem dL_law_1132 : decode cL_law 1132 = .ok (.iload_n 3, 1) := by decide +kernel
theorem dL_law_1133 : decode cL_law 1133 = .ok (.iconst 4, 1) := by decide +kernel
theorem dL_law_1134 : decode cL_law 1134 = .ok (.iadd, 1) := by decide +kernel
theorem dL_law_1135 : decode cL_law 1135 = .ok (.iaload, 1) := by decide +kernel
theorem dL_law_1136 : decode cL_law 1136 = .ok (.i2l, 1) := by decide +kernel
theorem dL_law_1137 : decode cL_law 1137 = .ok (.ldc2_w 174, 3) := by decide +kernel
theorem dL_law_1140 : decode cL_law 1140 = .ok (.land, 1) := by decide +kernel
theorem dL_law_1141 : decode cL_law 1141 = .ok (.lor, 1) := by decide +kernel
theorem dL_law_1142 : decode cL_law 1142 = .ok (.invokevirtual 176, 3) := by decide +kernel
theorem dL_law_1145 : decode cL_law 1145 = .ok (.aload_n 2, 1) := by decide +kernel
theorem dL_law_1146 : decode cL_law 1146 = .ok (.aload_n 0, 1) := by decide +kernel
theorem dL_law_1147 : decode cL_law 1147 = .ok (.iload_n 3, 1) := by decide +kernel
theorem dL_law_1148 : decode cL_law 1148 = .ok (.iconst 1, 1) := by decide +kernel
theorem dL_law_1149 : decode cL_law 1149 = .ok (.iadd, 1) := by decide +kernel
theorem dL_law_1150 : decode cL_law 1150 = .ok (.iaload, 1) := by decide +kernel
theorem dL_law_1151 : decode cL_law 1151 = .ok (.aload_n 0, 1) := by decide +kernel
theorem dL_law_1152 : decode cL_law 1152 = .ok (.iload_n 3, 1) := by decide +kernel
theorem dL_law_1153 : decode cL_law 1153 = .ok (.iconst 2, 1) := by decide +kernel
theorem dL_law_1154 : decode cL_law 1154 = .ok (.iadd, 1) := by decide +kernel
theorem dL_law_1155 : decode cL_law 1155 = .ok (.iaload, 1) := by decide +kernel
theorem dL_law_1156 : decode cL_law 1156 = .ok (.aload_n 0, 1) := by decide +kernel
theorem dL_law_1157 : decode cL_law 1157 = .ok (.iload_n 3, 1) := by decide +kernel
theorem dL_law_1158 : decode cL_law 1158 = .ok (.iconst 3, 1) := by decide +kernel
theorem dL_law_1159 : decode cL_law 1159 = .ok (.iadd, 1) := by decide +kernel
theorem dL_law_1160 : decode cL_law 1160 = .ok (.iaload, 1) := by decide +kernel
theorem dL_law_1161 : decode cL_law 1161 = .ok (.i2l, 1) := by decide +kernel
theorem dL_law_1162 : decode cL_law 1162 = .ok (.bipush 32, 2) := by decide +kernel
theorem dL_law_1164 : decode cL_law 1164 = .ok (.lshl, 1) := by decide +kernel
theorem dL_law_1165 : decode cL_law 1165 = .ok (.aload_n 0, 1) := by decide +kernel
theorem dL_law_1166 : decode cL_law 1166 = .ok (.iload_n 3, 1) := by decide +kernel
theorem dL_law_1167 : decode cL_law 1167 = .ok (.iconst 4, 1) := by decide +kernel
theorem dL_law_1168 : decode cL_law 1168 = .ok (.iadd, 1) := by decide +kernel
theorem dL_law_1169 : decode cL_law 1169 = .ok (.iaload, 1) := by decide +kernel
theorem dL_law_1170 : decode cL_law 1170 = .ok (.i2l, 1) := by decide +kernel
theorem dL_law_1171 : decode cL_law 1171 = .ok (.ldc2_w 174, 3) := by decide +kernel
theorem dL_law_1174 : decode cL_law 1174 = .ok (.land, 1) := by decide +kernel
theorem dL_law_1175 : decode cL_law 1175 = .ok (.lor, 1) := by decide +kernel
theorem dL_law_1176 : decode cL_law 1176 = .ok (.invokevirtual 180, 3) := by decide +kernel
theorem dL_law_1179 : decode cL_law 1179 = .ok (.if_icmp .eq 194, 3) := by decide +kernel
theorem dL_law_1182 : decode cL_law 1182 = .ok (.iconst 0, 1) := by decide +kernel
theorem dL_law_1183 : decode cL_law 1183 = .ok (.ireturn, 1) := by decide +kernel
theorem dL_law_1184 : decode cL_law 1184 = .ok (.aload_n 1, 1) := by decide +kernel
theorem dL_law_1185 : decode cL_law 1185 = .ok (.aload_n 0, 1) := by decide +kernel
theorem dL_law_1186 : decode cL_law 1186 = .ok (.iload_n 3, 1) := by decide +kernel
theorem dL_law_1187 : decode cL_law 1187 = .ok (.iconst 1, 1) := by decide +kernel
theorem dL_law_1188 : decode cL_law 1188 = .ok (.iadd, 1) := by decide +kernel
theorem dL_law_1189 : decode cL_law 1189 = .ok (.iaload, 1) := by decide +kernel
theorem dL_law_1190 : decode cL_law 1190 = .ok (.aload_n 0, 1) := by decide +kernel
theorem dL_law_1191 : decode cL_law 1191 = .ok (.iload_n 3, 1) := by decide +kernel
theorem dL_law_1192 : decode cL_law 1192 = .ok (.iconst 2, 1) := by decide +kernel
theorem dL_law_1193 : decode cL_law 1193 = .ok (.iadd, 1) := by decide +kernel
theorem dL_law_1194 : decode cL_law 1194 = .ok (.iaload, 1) := by decide +kernel
theorem dL_law_1195 : decode cL_law 1195 = .ok (.aload_n 0, 1) := by decide +kernel
theorem dL_law_1196 : decode cL_law 1196 = .ok (.iload_n 3, 1) := by decide +kernel
theorem dL_law_1197 : decode cL_law 1197 = .ok (.iconst 3, 1) := by decide +kernel
theorem dL_law_1198 : decode cL_law 1198 = .ok (.iadd, 1) := by decide +kernel
theorem dL_law_1199 : decode cL_law 1199 = .ok (.iaload, 1) := by decide +kernel
theorem dL_law_1200 : decode cL_law 1200 = .ok (.invokevirtual 181, 3) := by decide +kernel
theorem dL_law_1203 : decode cL_law 1203 = .ok (.aload_n 2, 1) := by decide +kernel
theorem dL_law_1204 : decode cL_law 1204 = .ok (.aload_n 0, 1) := by decide +kernel
theorem dL_law_1205 : decode cL_law 1205 = .ok (.iload_n 3, 1) := by decide +kernel
theorem dL_law_1206 : decode cL_law 1206 = .ok (.iconst 1, 1) := by decide +kernel
theorem dL_law_1207 : decode cL_law 1207 = .ok (.iadd, 1) := by decide +kernel
theorem dL_law_1208 : decode cL_law 1208 = .ok (.iaload, 1) := by decide +kernel
theorem dL_law_1209 : decode cL_law 1209 = .ok (.aload_n 0, 1) := by decide +kernel
theorem dL_law_1210 : decode cL_law 1210 = .ok (.iload_n 3, 1) := by decide +kernel
theorem dL_law_1211 : decode cL_law 1211 = .ok (.iconst 2, 1) := by decide +kernel
theorem dL_law_1212 : decode cL_law 1212 = .ok (.iadd, 1) := by decide +kernel
theorem dL_law_1213 : decode cL_law 1213 = .ok (.iaload, 1) := by decide +kernel
theorem dL_law_1214 : decode cL_law 1214 = .ok (.aload_n 0, 1) := by decide +kernel
theorem dL_law_1215 : decode cL_law 1215 = .ok (.iload_n 3, 1) := by decide +kernel
theorem dL_law_1216 : decode cL_law 1216 = .ok (.iconst 3, 1) := by decide +kernel
theorem dL_law_1217 : decode cL_law 1217 = .ok (.iadd, 1) := by decide +kernel
theorem dL_law_1218 : decode cL_law 1218 = .ok (.iaload, 1) := by decide +kernel
theorem dL_law_1219 : decode cL_law 1219 = .ok (.invokevirtual 184, 3) := by decide +kernel
theorem dL_law_1222 : decode cL_law 1222 = .ok (.if_icmp .eq 151, 3) := by decide +kernel
theorem dL_law_1225 : decode cL_law 1225 = .ok (.iconst 0, 1) := by decide +kernel
theorem dL_law_1226 : decode cL_law 1226 = .ok (.ireturn, 1) := by decide +kernel
theorem dL_law_1227 : decode cL_law 1227 = .ok (.aload_n 1, 1) := by decide +kernel
theorem dL_law_1228 : decode cL_law 1228 = .ok (.aload_n 0, 1) := by decide +kernel
theorem dL_law_1229 : decode cL_law 1229 = .ok (.iload_n 3, 1) := by decide +kernel
theorem dL_law_1230 : decode cL_law 1230 = .ok (.iconst 1, 1) := by decide +kernel
theorem dL_law_1231 : decode cL_law 1231 = .ok (.iadd, 1) := by decide +kernel
theorem dL_law_1232 : decode cL_law 1232 = .ok (.iaload, 1) := by decide +kernel
theorem dL_law_1233 : decode cL_law 1233 = .ok (.aload_n 0, 1) := by decide +kernel
theorem dL_law_1234 : decode cL_law 1234 = .ok (.iload_n 3, 1) := by decide +kernel
theorem dL_law_1235 : decode cL_law 1235 = .ok (.iconst 2, 1) := by decide +kernel
theorem dL_law_1236 : decode cL_law 1236 = .ok (.iadd, 1) := by decide +kernel
theorem dL_law_1237 : decode cL_law 1237 = .ok (.iaload, 1) := by decide +kernel
theorem dL_law_1238 : decode cL_law 1238 = .ok (.invokevirtual 185, 3) := by decide +kernel
theorem dL_law_1241 : decode cL_law 1241 = .ok (.aload_n 2, 1) := by decide +kernel
theorem dL_law_1242 : decode cL_law 1242 = .ok (.aload_n 0, 1) := by decide +kernel
theorem dL_law_1243 : decode cL_law 1243 = .ok (.iload_n 3, 1) := by decide +kernel
theorem dL_law_1244 : decode cL_law 1244 = .ok (.iconst 1, 1) := by decide +kernel
theorem dL_law_1245 : decode cL_law 1245 = .ok (.iadd, 1) := by decide +kernel
theorem dL_law_1246 : decode cL_law 1246 = .ok (.iaload, 1) := by decide +kernel
theorem dL_law_1247 : decode cL_law 1247 = .ok (.aload_n 0, 1) := by decide +kernel
theorem dL_law_1248 : decode cL_law 1248 = .ok (.iload_n 3, 1) := by decide +kernel
theorem dL_law_1249 : decode cL_law 1249 = .ok (.iconst 2, 1) := by decide +kernel
theorem dL_law_1250 : decode cL_law 1250 = .ok (.iadd, 1) := by decide +kernel
theorem dL_law_1251 : decode cL_law 1251 = .ok (.iaload, 1) := by decide +kernel
theorem dL_law_1252 : decode cL_law 1252 = .ok (.invokevirtual 189, 3) := by decide +kernel
theorem dL_law_1255 : decode cL_law 1255 = .ok (.lcmp, 1) := by decide +kernel
theorem dL_law_1256 : decode cL_law 1256 = .ok (.ifCond .eq 117, 3) := by decide +kernel
theorem dL_law_1259 : decode cL_law 1259 = .ok (.iconst 0, 1) := by decide +kernel
theorem dL_law_1260 : decode cL_law 1260 = .ok (.ireturn, 1) := by decide +kernel
theorem dL_law_1261 : decode cL_law 1261 = .ok (.aload_n 1, 1) := by decide +kernel
theorem dL_law_1262 : decode cL_law 1262 = .ok (.aload_n 0, 1) := by decide +kernel
theorem dL_law_1263 : decode cL_law 1263 = .ok (.iload_n 3, 1) := by decide +kernel
theorem dL_law_1264 : decode cL_law 1264 = .ok (.iconst 1, 1) := by decide +kernel
theorem dL_law_1265 : decode cL_law 1265 = .ok (.iadd, 1) := by decide +kernel
theorem dL_law_1266 : decode cL_law 1266 = .ok (.iaload, 1) := by decide +kernel
theorem dL_law_1267 : decode cL_law 1267 = .ok (.aload_n 0, 1) := by decide +kernel
theorem dL_law_1268 : decode cL_law 1268 = .ok (.iload_n 3, 1) := by decide +kernel
theorem dL_law_1269 : decode cL_law 1269 = .ok (.iconst 2, 1) := by decide +kernel
theorem dL_law_1270 : decode cL_law 1270 = .ok (.iadd, 1) := by decide +kernel
theorem dL_law_1271 : decode cL_law 1271 = .ok (.iaload, 1) := by decide +kernel
theorem dL_law_1272 : decode cL_law 1272 = .ok (.aload_n 0, 1) := by decide +kernel
theorem dL_law_1273 : decode cL_law 1273 = .ok (.iload_n 3, 1) := by decide +kernel
theorem dL_law_1274 : decode cL_law 1274 = .ok (.iconst 3, 1) := by decide +kernel
theorem dL_law_1275 : decode cL_law 1275 = .ok (.iadd, 1) := by decide +kernel
theorem dL_law_1276 : decode cL_law 1276 = .ok (.iaload, 1) := by decide +kernel
theorem dL_law_1277 : decode cL_law 1277 = .ok (.aload_n 0, 1) := by decide +kernel
theorem dL_law_1278 : decode cL_law 1278 = .ok (.iload_n 3, 1) := by decide +kernel
theorem dL_law_1279 : decode cL_law 1279 = .ok (.iconst 4, 1) := by decide +kernel
theorem dL_law_1280 : decode cL_law 1280 = .ok (.iadd, 1) := by decide +kernel
theorem dL_law_1281 : decode cL_law 1281 = .ok (.iaload, 1) := by decide +kernel
theorem dL_law_1282 : decode cL_law 1282 = .ok (.aload_n 0, 1) := by decide +kernel
theorem dL_law_1283 : decode cL_law 1283 = .ok (.iload_n 3, 1) := by decide +kernel
theorem dL_law_1284 : decode cL_law 1284 = .ok (.iconst 5, 1) := by decide +kernel
theorem dL_law_1285 : decode cL_law 1285 = .ok (.iadd, 1) := by decide +kernel
theorem dL_law_1286 : decode cL_law 1286 = .ok (.iaload, 1) := by decide +kernel
theorem dL_law_1287 : decode cL_law 1287 = .ok (.invokevirtual 190, 3) := by decide +kernel
theorem dL_law_1290 : decode cL_law 1290 = .ok (.aload_n 2, 1) := by decide +kernel
theorem dL_law_1291 : decode cL_law 1291 = .ok (.aload_n 0, 1) := by decide +kernel
theorem dL_law_1292 : decode cL_law 1292 = .ok (.iload_n 3, 1) := by decide +kernel
theorem dL_law_1293 : decode cL_law 1293 = .ok (.iconst 1, 1) := by decide +kernel
theorem dL_law_1294 : decode cL_law 1294 = .ok (.iadd, 1) := by decide +kernel
theorem dL_law_1295 : decode cL_law 1295 = .ok (.iaload, 1) := by decide +kernel
theorem dL_law_1296 : decode cL_law 1296 = .ok (.aload_n 0, 1) := by decide +kernel
theorem dL_law_1297 : decode cL_law 1297 = .ok (.iload_n 3, 1) := by decide +kernel
theorem dL_law_1298 : decode cL_law 1298 = .ok (.iconst 2, 1) := by decide +kernel
theorem dL_law_1299 : decode cL_law 1299 = .ok (.iadd, 1) := by decide +kernel
theorem dL_law_1300 : decode cL_law 1300 = .ok (.iaload, 1) := by decide +kernel
theorem dL_law_1301 : decode cL_law 1301 = .ok (.aload_n 0, 1) := by decide +kernel
theorem dL_law_1302 : decode cL_law 1302 = .ok (.iload_n 3, 1) := by decide +kernel
theorem dL_law_1303 : decode cL_law 1303 = .ok (.iconst 3, 1) := by decide +kernel
theorem dL_law_1304 : decode cL_law 1304 = .ok (.iadd, 1) := by decide +kernel
theorem dL_law_1305 : decode cL_law 1305 = .ok (.iaload, 1) := by decide +kernel
theorem dL_law_1306 : decode cL_law 1306 = .ok (.aload_n 0, 1) := by decide +kernel
theorem dL_law_1307 : decode cL_law 1307 = .ok (.iload_n 3, 1) := by decide +kernel
theorem dL_law_1308 : decode cL_law 1308 = .ok (.iconst 4, 1) := by decide +kernel
theorem dL_law_1309 : decode cL_law 1309 = .ok (.iadd, 1) := by decide +kernel
theorem dL_law_1310 : decode cL_law 1310 = .ok (.iaload, 1) := by decide +kernel
theorem dL_law_1311 : decode cL_law 1311 = .ok (.aload_n 0, 1) := by decide +kernel
theorem dL_law_1312 : decode cL_law 1312 = .ok (.iload_n 3, 1) := by decide +kernel
theorem dL_law_1313 : decode cL_law 1313 = .ok (.iconst 5, 1) := by decide +kernel
theorem dL_law_1314 : decode cL_law 1314 = .ok (.iadd, 1) := by decide +kernel
theorem dL_law_1315 : decode cL_law 1315 = .ok (.iaload, 1) := by decide +kernel
theorem dL_law_1316 : decode cL_law 1316 = .ok (.invokevirtual 194, 3) := by decide +kernel
theorem dL_law_1319 : decode cL_law 1319 = .ok (.if_icmp .eq 54, 3) := by decide +kernel
theorem dL_law_1322 : decode cL_law 1322 = .ok (.iconst 0, 1) := by decide +kernel
theorem dL_law_1323 : decode cL_law 1323 = .ok (.ireturn, 1) := by decide +kernel
theorem dL_law_1324 : decode cL_law 1324 = .ok (.aload_n 1, 1) := by decide +kernel
theorem dL_law_1325 : decode cL_law 1325 = .ok (.aload_n 0, 1) := by decide +kernel
theorem dL_law_1326 : decode cL_law 1326 = .ok (.iload_n 3, 1) := by decide +kernel
theorem dL_law_1327 : decode cL_law 1327 = .ok (.iconst 1, 1) := by decide +kernel
theorem dL_law_1328 : decode cL_law 1328 = .ok (.iadd, 1) := by decide +kernel
theorem dL_law_1329 : decode cL_law 1329 = .ok (.iaload, 1) := by decide +kernel
theorem dL_law_1330 : decode cL_law 1330 = .ok (.invokevirtual 195, 3) := by decide +kernel
theorem dL_law_1333 : decode cL_law 1333 = .ok (.aload_n 2, 1) := by decide +kernel
theorem dL_law_1334 : decode cL_law 1334 = .ok (.aload_n 0, 1) := by decide +kernel
theorem dL_law_1335 : decode cL_law 1335 = .ok (.iload_n 3, 1) := by decide +kernel
theorem dL_law_1336 : decode cL_law 1336 = .ok (.iconst 1, 1) := by decide +kernel
theorem dL_law_1337 : decode cL_law 1337 = .ok (.iadd, 1) := by decide +kernel
theorem dL_law_1338 : decode cL_law 1338 = .ok (.iaload, 1) := by decide +kernel
theorem dL_law_1339 : decode cL_law 1339 = .ok (.invokevirtual 198, 3) := by decide +kernel
theorem dL_law_1342 : decode cL_law 1342 = .ok (.if_icmp .eq 31, 3) := by decide +kernel
theorem dL_law_1345 : decode cL_law 1345 = .ok (.iconst 0, 1) := by decide +kernel
theorem dL_law_1346 : decode cL_law 1346 = .ok (.ireturn, 1) := by decide +kernel
theorem dL_law_1347 : decode cL_law 1347 = .ok (.aload_n 1, 1) := by decide +kernel
theorem dL_law_1348 : decode cL_law 1348 = .ok (.invokevirtual 199, 3) := by decide +kernel
theorem dL_law_1351 : decode cL_law 1351 = .ok (.aload_n 2, 1) := by decide +kernel
theorem dL_law_1352 : decode cL_law 1352 = .ok (.invokevirtual 202, 3) := by decide +kernel
theorem dL_law_1355 : decode cL_law 1355 = .ok (.if_icmp .eq 18, 3) := by decide +kernel
theorem dL_law_1358 : decode cL_law 1358 = .ok (.iconst 0, 1) := by decide +kernel
theorem dL_law_1359 : decode cL_law 1359 = .ok (.ireturn, 1) := by decide +kernel
theorem dL_law_1360 : decode cL_law 1360 = .ok (.aload_n 1, 1) := by decide +kernel
theorem dL_law_1361 : decode cL_law 1361 = .ok (.invokevirtual 203, 3) := by decide +kernel
theorem dL_law_1364 : decode cL_law 1364 = .ok (.aload_n 2, 1) := by decide +kernel
theorem dL_law_1365 : decode cL_law 1365 = .ok (.invokevirtual 206, 3) := by decide +kernel
theorem dL_law_1368 : decode cL_law 1368 = .ok (.if_icmp .eq 5, 3) := by decide +kernel
theorem dL_law_1371 : decode cL_law 1371 = .ok (.iconst 0, 1) := by decide +kernel
theorem dL_law_1372 : decode cL_law 1372 = .ok (.ireturn, 1) := by decide +kernel
theorem dL_law_1373 : decode cL_law 1373 = .ok (.iinc 3 6, 3) := by decide +kernel
theorem dL_law_1376 : decode cL_law 1376 = .ok (.goto (-1358), 3) := by decide +kernel
theorem dL_law_1379 : decode cL_law 1379 = .ok (.iconst 1, 1) := by decide +kernel
theorem dL_law_1380 : decode cL_law 1380 = .ok (.ireturn, 1) := by decide +kernel
end
section
abbrev cls9 : List vw_C := [(RX0, TX0, 10), (RX1, TX1, 2), (RX2, TX2, 7), (RX3, TX3, 8), (RX4, TX4, 3), (RX5, TX5, 10), (RX7, TX7, 5), (RX9, TX9, 10), (RX10, TX10, 44)]
/-- the shape of the world, a pair a cell: (0, class) an object, (1..5, n) a row of n ints, longs, floats, doubles, bytes, (6, n) of Slots, (7, n) of rows of ints -/
def shL : List (Nat × Nat) := [(0, 7), (0, 5), (2, 8), (2, 8), (7, 8), (1, 8), (1, 8), (1, 8), (1, 8), (1, 8), (1, 8), (1, 8), (1, 8), (1, 8), (1, 8), (3, 8), (0, 5), (2, 8), (2, 8), (7, 8), (1, 8), (1, 8), (1, 8), (1, 8), (1, 8), (1, 8), (1, 8), (1, 8), (1, 8), (1, 8), (3, 8), (0, 1), (5, 40), (0, 4), (1, 200), (1, 200), (0, 0), (2, 200), (1, 512), (1, 200), (1, 200), (1, 200), (1, 200), (1, 200), (1, 200), (0, 3), (1, 8), (7, 8), (1, 8), (1, 8), (1, 8), (1, 8), (1, 8), (1, 8), (1, 8), (1, 8), (7, 8), (1, 9), (1, 9), (1, 9), (1, 9), (1, 9), (1, 9), (1, 9), (1, 9), (7, 9), (1, 8), (1, 8), (1, 8), (1, 8), (1, 8), (1, 8), (1, 8), (1, 8), (1, 8), (0, 2), (1, 8), (2, 8), (2, 8), (1, 8), (6, 4), (0, 6), (2, 40), (3, 40), (4, 40), (0, 6), (2, 40), (3, 40), (4, 40), (0, 6), (2, 40), (3, 40), (4, 40), (0, 6), (2, 40), (3, 40), (4, 40), (0, 8), (1, 16), (1, 96), (1, 6), (1, 6), (3, 6), (1, 40), (1, 12), (1, 201), (1, 201), (1, 4), (1, 4), (2, 160), (3, 160), (4, 160), (1, 16), (1, 96), (1, 6), (1, 6), (3, 6), (1, 12), (1, 40), (1, 40), (1, 8), (1, 6), (1, 6), (2, 200), (1, 200), (1, 200), (1, 200), (1, 200), (1, 19200), (1, 200)]
def shp (k : Nat) : Nat × Nat := shL.getD k (9, 0)
/-- the kinds of a class's fields: 0 int or boolean, 1 long, 2 a reference -/
def fkL : List (List Nat) := [[0, 2, 2, 2, 2, 2, 2, 2, 2, 0], [0, 2], [2, 0, 0, 0, 0, 2, 2], [2, 0, 0, 0, 2, 2, 2, 0], [0, 2, 2], [0, 0, 2, 2, 2, 2, 2, 0, 2, 1], [0, 0, 2, 2, 2], [2, 2, 0, 2, 2, 2, 2, 2, 2, 2], [0, 0, 2, 2, 2, 2, 0, 2, 2, 0, 2, 0, 0, 2, 2, 2, 2, 2, 2, 2, 0, 0, 0, 2, 2, 2, 2, 0, 2, 2, 0, 2, 2, 2, 2, 2, 2, 2, 2, 2, 0, 2, 2, 2]]
def fk (ci j : Nat) : Nat := (fkL.getD ci []).getD j 9
/-- what the references lead to: they never change behind the constructors -/
def rfL : List (List Nat) := [[1, 16, 0, 31, 33, 36, 45, 75, 79, 80], [0, 0, 2, 3, 4, 13, 14, 0, 15, 0], [], [], [5, 6, 7, 8, 9, 10, 11, 12], [], [], [], [], [], [], [], [], [], [], [], [0, 0, 17, 18, 19, 28, 29, 0, 30, 0], [], [], [20, 21, 22, 23, 24, 25, 26, 27], [], [], [], [], [], [], [], [], [], [], [], [0, 32], [], [0, 34, 35], [], [], [0, 37, 38, 39, 40, 41, 42, 43, 44, 0], [], [], [], [], [], [], [], [], [46, 0, 0, 0, 47, 56, 65, 0], [], [48, 49, 50, 51, 52, 53, 54, 55], [], [], [], [], [], [], [], [], [57, 58, 59, 60, 61, 62, 63, 64], [], [], [], [], [], [], [], [], [66, 67, 68, 69, 70, 71, 72, 73, 74], [], [], [], [], [], [], [], [], [], [76, 0, 0, 0, 0, 77, 78], [], [], [], [], [81, 85, 89, 93], [0, 0, 82, 83, 84], [], [], [], [0, 0, 86, 87, 88], [], [], [], [0, 0, 90, 91, 92], [], [], [], [0, 0, 94, 95, 96], [], [], [], [0, 0, 98, 99, 100, 101, 0, 102, 103, 0, 104, 0, 0, 105, 106, 107, 108, 109, 110, 111, 0, 0, 0, 112, 113, 114, 115, 0, 116, 117, 0, 118, 119, 120, 121, 122, 123, 124, 125, 126, 0, 127, 128, 129], [], [], [], [], [], [], [], [], [], [], [], [], [], [], [], [], [], [], [], [], [], [], [], [], [], [], [], [], [], [], [], []]
def rfs (k j : Nat) : Nat := (rfL.getD k []).getD j 0
abbrev NC : Nat := 130
end
section
/-! ===== the world as a pure value; the judgement Vv: a walk over the pure value; contracts Cc ===== -/
def iI (z : Int) : Int32 := Int32.ofInt z
def lI (z : Int) : Int64 := Int64.ofInt z
theorem iI_add (a b : Int) : iI (a + b) = iI a + iI b := Int32.ofInt_add a b
theorem iI_sub (a b : Int) : iI (a - b) = iI a - iI b := Int32.ofInt_sub a b
theorem iI_mul (a b : Int) : iI (a * b) = iI a * iI b := Int32.ofInt_mul a b
theorem iI_neg (a : Int) : iI (-a) = -iI a := Int32.ofInt_neg a
theorem lI_add (a b : Int) : lI (a + b) = lI a + lI b := Int64.ofInt_add a b
theorem lI_sub (a b : Int) : lI (a - b) = lI a - lI b := Int64.ofInt_sub a b
theorem lI_mul (a b : Int) : lI (a * b) = lI a * lI b := Int64.ofInt_mul a b
theorem iI_toInt {z : Int} (h1 : -2147483648 ≤ z) (h2 : z < 2147483648) : (iI z).toInt = z := Int32.toInt_ofInt_of_le (by omega) (by omega)
theorem lI_toInt {z : Int} (h1 : -9223372036854775808 ≤ z) (h2 : z < 9223372036854775808) : (lI z).toInt = z := Int64.toInt_ofInt_of_le (by omega) (by omega)
theorem iI_of (x : Int32) : iI x.toInt = x := Int32.ofInt_toInt x
theorem lI_of (x : Int64) : lI x.toInt = x := Int64.ofInt_toInt x
theorem iI_lt {a b : Int} (h : (-2147483648 ≤ a ∧ a < 2147483648) ∧ (-2147483648 ≤ b ∧ b < 2147483648)) : iI a < iI b ↔ a < b := by
  rw [Int32.lt_iff_toInt_lt, iI_toInt h.1.1 h.1.2, iI_toInt h.2.1 h.2.2]
theorem iI_le {a b : Int} (h : (-2147483648 ≤ a ∧ a < 2147483648) ∧ (-2147483648 ≤ b ∧ b < 2147483648)) : iI a ≤ iI b ↔ a ≤ b := by
  rw [Int32.le_iff_toInt_le, iI_toInt h.1.1 h.1.2, iI_toInt h.2.1 h.2.2]
theorem iI_eq {a b : Int} (h : (-2147483648 ≤ a ∧ a < 2147483648) ∧ (-2147483648 ≤ b ∧ b < 2147483648)) : iI a = iI b ↔ a = b := by
  rw [← Int32.toInt_inj, iI_toInt h.1.1 h.1.2, iI_toInt h.2.1 h.2.2]
theorem lI_lt {a b : Int} (h : (-9223372036854775808 ≤ a ∧ a < 9223372036854775808) ∧ (-9223372036854775808 ≤ b ∧ b < 9223372036854775808)) : lI a < lI b ↔ a < b := by
  rw [Int64.lt_iff_toInt_lt, lI_toInt h.1.1 h.1.2, lI_toInt h.2.1 h.2.2]
theorem lI_eq {a b : Int} (h : (-9223372036854775808 ≤ a ∧ a < 9223372036854775808) ∧ (-9223372036854775808 ≤ b ∧ b < 9223372036854775808)) : lI a = lI b ↔ a = b := by
  rw [← Int64.toInt_inj, lI_toInt h.1.1 h.1.2, lI_toInt h.2.1 h.2.2]
theorem iI_clamp {z : Int} (h1 : 0 ≤ z) (h2 : z < 2147483648) : (iI z).toNatClampNeg = z.toNat := by
  rw [Int32.toNatClampNeg, iI_toInt (by omega) h2]
theorem iI_in {z : Int} {n : Nat} (h1 : 0 ≤ z) (h2 : z < n) (hn : n < 2147483648) : vp_in (iI z) n := by
  rw [vp_in_iff, iI_toInt (by omega) (by omega)]
  exact ⟨h1, h2⟩
theorem lI_toI (z : Int) : (lI z).toInt32 = iI z := Int64.toInt32_ofInt
theorem iI_toL {z : Int} (h1 : -2147483648 ≤ z) (h2 : z < 2147483648) : (iI z).toInt64 = lI z := Int32.toInt64_ofInt (by rw [Int32.toInt_minValue]; omega) (by rw [Int32.toInt_maxValue]; omega)
/-- ints, longs, floats, doubles: what every cell holds at every place -/
abbrev S9 : Type := (Nat → Int → Int) × (Nat → Int → Int) × (Nat → Int → UInt32) × (Nat → Int → UInt64)
def gI (σ : S9) (k : Nat) (j : Int) : Int := σ.1 k j
def gL (σ : S9) (k : Nat) (j : Int) : Int := σ.2.1 k j
def gF (σ : S9) (k : Nat) (j : Int) : UInt32 := σ.2.2.1 k j
def gD (σ : S9) (k : Nat) (j : Int) : UInt64 := σ.2.2.2 k j
def aI (σ : S9) (k : Nat) (f : Int → Int) : S9 := (fun k' => if k' = k then f else σ.1 k', σ.2)
def aL (σ : S9) (k : Nat) (f : Int → Int) : S9 := (σ.1, fun k' => if k' = k then f else σ.2.1 k', σ.2.2)
def aF (σ : S9) (k : Nat) (f : Int → UInt32) : S9 := (σ.1, σ.2.1, fun k' => if k' = k then f else σ.2.2.1 k', σ.2.2.2)
def aD (σ : S9) (k : Nat) (f : Int → UInt64) : S9 := (σ.1, σ.2.1, σ.2.2.1, fun k' => if k' = k then f else σ.2.2.2 k')
/-- a row but for one place -/
def up9 {α : Type} (f : Int → α) (i : Int) (x : α) : Int → α := fun j => if j = i then x else f j
abbrev sI (σ : S9) (k : Nat) (i x : Int) : S9 := aI σ k (up9 (gI σ k) i x)
abbrev sL (σ : S9) (k : Nat) (i x : Int) : S9 := aL σ k (up9 (gL σ k) i x)
abbrev sF (σ : S9) (k : Nat) (i : Int) (x : UInt32) : S9 := aF σ k (up9 (gF σ k) i x)
abbrev sD (σ : S9) (k : Nat) (i : Int) (x : UInt64) : S9 := aD σ k (up9 (gD σ k) i x)
theorem up9_eq {α : Type} (f : Int → α) (i : Int) (x : α) : up9 f i x i = x := by simp [up9]
theorem up9_ne {α : Type} {f : Int → α} {i j : Int} {x : α} (h : j ≠ i) : up9 f i x j = f j := by simp [up9, h]
theorem up9_ap {α : Type} (f : Int → α) (i : Int) (x : α) (j : Int) : up9 f i x j = if j = i then x else f j := rfl
theorem gI_aI (σ : S9) (k : Nat) (f : Int → Int) (k' : Nat) : gI (aI σ k f) k' = if k' = k then f else gI σ k' := rfl
theorem gI_aI_eq (σ : S9) (k : Nat) (f : Int → Int) : gI (aI σ k f) k = f := by rw [gI_aI, if_pos rfl]
theorem gI_aI_ne {σ : S9} {k k' : Nat} {f : Int → Int} (h : k' ≠ k) : gI (aI σ k f) k' = gI σ k' := by rw [gI_aI, if_neg h]
theorem gL_aI (σ : S9) (k : Nat) (f : Int → Int) (k' : Nat) : gL (aI σ k f) k' = gL σ k' := rfl
theorem gF_aI (σ : S9) (k : Nat) (f : Int → Int) (k' : Nat) : gF (aI σ k f) k' = gF σ k' := rfl
theorem gD_aI (σ : S9) (k : Nat) (f : Int → Int) (k' : Nat) : gD (aI σ k f) k' = gD σ k' := rfl
theorem gL_aL (σ : S9) (k : Nat) (f : Int → Int) (k' : Nat) : gL (aL σ k f) k' = if k' = k then f else gL σ k' := rfl
theorem gL_aL_eq (σ : S9) (k : Nat) (f : Int → Int) : gL (aL σ k f) k = f := by rw [gL_aL, if_pos rfl]
theorem gL_aL_ne {σ : S9} {k k' : Nat} {f : Int → Int} (h : k' ≠ k) : gL (aL σ k f) k' = gL σ k' := by rw [gL_aL, if_neg h]
theorem gI_aL (σ : S9) (k : Nat) (f : Int → Int) (k' : Nat) : gI (aL σ k f) k' = gI σ k' := rfl
theorem gF_aL (σ : S9) (k : Nat) (f : Int → Int) (k' : Nat) : gF (aL σ k f) k' = gF σ k' := rfl
theorem gD_aL (σ : S9) (k : Nat) (f : Int → Int) (k' : Nat) : gD (aL σ k f) k' = gD σ k' := rfl
theorem gF_aF (σ : S9) (k : Nat) (f : Int → UInt32) (k' : Nat) : gF (aF σ k f) k' = if k' = k then f else gF σ k' := rfl
theorem gF_aF_eq (σ : S9) (k : Nat) (f : Int → UInt32) : gF (aF σ k f) k = f := by rw [gF_aF, if_pos rfl]
theorem gF_aF_ne {σ : S9} {k k' : Nat} {f : Int → UInt32} (h : k' ≠ k) : gF (aF σ k f) k' = gF σ k' := by rw [gF_aF, if_neg h]
theorem gI_aF (σ : S9) (k : Nat) (f : Int → UInt32) (k' : Nat) : gI (aF σ k f) k' = gI σ k' := rfl
theorem gL_aF (σ : S9) (k : Nat) (f : Int → UInt32) (k' : Nat) : gL (aF σ k f) k' = gL σ k' := rfl
theorem gD_aF (σ : S9) (k : Nat) (f : Int → UInt32) (k' : Nat) : gD (aF σ k f) k' = gD σ k' := rfl
theorem gD_aD (σ : S9) (k : Nat) (f : Int → UInt64) (k' : Nat) : gD (aD σ k f) k' = if k' = k then f else gD σ k' := rfl
theorem gD_aD_eq (σ : S9) (k : Nat) (f : Int → UInt64) : gD (aD σ k f) k = f := by rw [gD_aD, if_pos rfl]
theorem gD_aD_ne {σ : S9} {k k' : Nat} {f : Int → UInt64} (h : k' ≠ k) : gD (aD σ k f) k' = gD σ k' := by rw [gD_aD, if_neg h]
theorem gI_aD (σ : S9) (k : Nat) (f : Int → UInt64) (k' : Nat) : gI (aD σ k f) k' = gI σ k' := rfl
theorem gL_aD (σ : S9) (k : Nat) (f : Int → UInt64) (k' : Nat) : gL (aD σ k f) k' = gL σ k' := rfl
theorem gF_aD (σ : S9) (k : Nat) (f : Int → UInt64) (k' : Nat) : gF (aD σ k f) k' = gF σ k' := rfl
/-- a reference is the place of a cell in the world; ad: the cell's own address -/
def trv (ad : Nat → Nat) : Value → Value
  | .ref k => .ref (ad k)
  | v => v
theorem trv_cat (ad : Nat → Nat) (v : Value) : (trv ad v).category = v.category := by cases v <;> rfl
def fvv (ad : Nat → Nat) (σ : S9) (k j : Nat) : Nat → Value
  | 0 => .int (iI (gI σ k j))
  | 1 => .long (lI (gL σ k j))
  | _ => .ref (ad (rfs k j))
def ent (ad : Nat → Nat) (dA : Nat → ClassId) (σ : S9) (k : Nat) : va_E := match shp k with
  | (0, ci) => .inr (ci, (List.range (fkL.getD ci []).length).map (fun j => fvv ad σ k j (fk ci j)))
  | (1, n) => .inl (dA 0, n, .inl (fun j => iI (gI σ k (j : Int))))
  | (2, n) => .inl (dA 1, n, .inr (.inl (fun j => lI (gL σ k (j : Int)))))
  | (3, n) => .inl (dA 2, n, .inr (.inr (.inl (fun j => gF σ k (j : Int)))))
  | (4, n) => .inl (dA 3, n, .inr (.inr (.inr (.inl (fun j => gD σ k (j : Int))))))
  | (5, n) => .inl (dA 4, n, .inl (fun j => iI (gI σ k (j : Int))))
  | (6, n) => .inl (dA 5, n, .inr (.inr (.inr (.inr (fun j => some (ad (rfs k j)))))))
  | (_, n) => .inl (dA 6, n, .inr (.inr (.inr (.inr (fun j => some (ad (rfs k j)))))))
/-- what is fixed behind the constructors: addresses, classes' numbers and slots, array classes -/
abbrev G9 : Type := (Nat → Nat) × (Nat → ClassId) × (Nat → Nat → Nat) × (Nat → ClassId)
abbrev ws9 (γ : G9) (σ : S9) : va_W := (List.range NC).map (fun k => (γ.1 k, ent γ.1 γ.2.2.2 σ k))
def gA (γ : G9) : Nat → Prop := fun q => ∃ k, k < NC ∧ γ.1 k = q
def gOK (γ : G9) : Prop := ∀ i j, i < NC → j < NC → γ.1 i = γ.1 j → i = j
abbrev ty9 (γ : G9) : List (ClassId × FieldType) := [(γ.2.2.2 0, .int), (γ.2.2.2 1, .long), (γ.2.2.2 2, .float), (γ.2.2.2 3, .double), (γ.2.2.2 4, .byte), (γ.2.2.2 5, .object "RewritingTermination$Slot"), (γ.2.2.2 6, .array .int)]
def P9 (γ : G9) (σ : S9) (H : Heap) : Prop := va_P (γ.2.1, γ.2.2.1) cls9 (ws9 γ σ) H
def K9 (γ : G9) (U : State) : Prop := va_K (γ.2.1, γ.2.2.1) cls9 (ty9 γ) U
theorem ws9_get {γ : G9} {σ : S9} {k : Nat} (hk : k < NC) : (ws9 γ σ)[k]? = some (γ.1 k, ent γ.1 γ.2.2.2 σ k) := by
  rw [List.getElem?_map, List.getElem?_range hk]; rfl
theorem ws9_D {γ : G9} {σ : S9} (h : gOK γ) : va_D (gA γ) (ws9 γ σ) := by
  refine ⟨fun i j p q hi hj hpq => ?_, fun k q hk => ?_⟩
  · have h1 : i < NC := by have := (List.getElem?_eq_some_iff.mp hi).1; simpa using this
    have h2 : j < NC := by have := (List.getElem?_eq_some_iff.mp hj).1; simpa using this
    rw [ws9_get h1] at hi
    rw [ws9_get h2] at hj
    cases hi
    cases hj
    exact h i j h1 h2 hpq
  · have h1 : k < NC := by have := (List.getElem?_eq_some_iff.mp hk).1; simpa using this
    rw [ws9_get h1] at hk
    cases hk
    exact ⟨k, h1, rfl⟩
theorem ws9_set {γ : G9} {σ σ' : S9} {k : Nat} {e : va_E} (he : e = ent γ.1 γ.2.2.2 σ' k) (h : ∀ k' : Nat, k' ≠ k → ent γ.1 γ.2.2.2 σ' k' = ent γ.1 γ.2.2.2 σ k') : (ws9 γ σ).set k (γ.1 k, e) = ws9 γ σ' := by
  subst he
  apply List.ext_getElem?
  intro i
  by_cases hi : i < NC
  · rw [ws9_get hi, List.getElem?_set]
    by_cases hik : k = i
    · subst hik
      simp [hi]
    · rw [if_neg hik, ws9_get hi, h i (fun q => hik q.symm)]
  · rw [List.getElem?_eq_none (by simpa using Nat.not_lt.mp hi), List.getElem?_eq_none (by simpa using Nat.not_lt.mp hi)]
theorem ent_I {ad : Nat → Nat} {dA : Nat → ClassId} {σ : S9} {k n : Nat} (h : shp k = (1, n)) : ent ad dA σ k = .inl (dA 0, n, .inl (fun j => iI (gI σ k (j : Int)))) := by unfold ent; rw [h]; rfl
theorem ent_L {ad : Nat → Nat} {dA : Nat → ClassId} {σ : S9} {k n : Nat} (h : shp k = (2, n)) : ent ad dA σ k = .inl (dA 1, n, .inr (.inl (fun j => lI (gL σ k (j : Int))))) := by unfold ent; rw [h]; rfl
theorem ent_F {ad : Nat → Nat} {dA : Nat → ClassId} {σ : S9} {k n : Nat} (h : shp k = (3, n)) : ent ad dA σ k = .inl (dA 2, n, .inr (.inr (.inl (fun j => gF σ k (j : Int))))) := by unfold ent; rw [h]; rfl
theorem ent_D {ad : Nat → Nat} {dA : Nat → ClassId} {σ : S9} {k n : Nat} (h : shp k = (4, n)) : ent ad dA σ k = .inl (dA 3, n, .inr (.inr (.inr (.inl (fun j => gD σ k (j : Int)))))) := by unfold ent; rw [h]; rfl
theorem ent_B {ad : Nat → Nat} {dA : Nat → ClassId} {σ : S9} {k n : Nat} (h : shp k = (5, n)) : ent ad dA σ k = .inl (dA 4, n, .inl (fun j => iI (gI σ k (j : Int)))) := by unfold ent; rw [h]; rfl
theorem ent_S {ad : Nat → Nat} {dA : Nat → ClassId} {σ : S9} {k n : Nat} (h : shp k = (6, n)) : ent ad dA σ k = .inl (dA 5, n, .inr (.inr (.inr (.inr (fun j => some (ad (rfs k j))))))) := by unfold ent; rw [h]; rfl
theorem ent_R {ad : Nat → Nat} {dA : Nat → ClassId} {σ : S9} {k n : Nat} (h : shp k = (7, n)) : ent ad dA σ k = .inl (dA 6, n, .inr (.inr (.inr (.inr (fun j => some (ad (rfs k j))))))) := by unfold ent; rw [h]; rfl
theorem ent_O {ad : Nat → Nat} {dA : Nat → ClassId} {σ : S9} {k ci : Nat} (h : shp k = (0, ci)) : ent ad dA σ k = .inr (ci, (List.range (fkL.getD ci []).length).map (fun j => fvv ad σ k j (fk ci j))) := by unfold ent; rw [h]; rfl
/-- only cell k differs -/
theorem ent_aI {ad : Nat → Nat} {dA : Nat → ClassId} {σ : S9} {k k' : Nat} {f : Int → Int} (h : k' ≠ k) : ent ad dA (aI σ k f) k' = ent ad dA σ k' := by
  unfold ent
  have e1 : gI (aI σ k f) k' = gI σ k' := gI_aI_ne h
  have e2 : ∀ j t, fvv ad (aI σ k f) k' j t = fvv ad σ k' j t := by
    intro j t
    match t with
    | 0 => show Value.int _ = Value.int _; rw [e1]
    | 1 => rfl
    | _ + 2 => rfl
  split <;> simp only [e1, e2, gL_aI, gF_aI, gD_aI]
theorem ent_aL {ad : Nat → Nat} {dA : Nat → ClassId} {σ : S9} {k k' : Nat} {f : Int → Int} (h : k' ≠ k) : ent ad dA (aL σ k f) k' = ent ad dA σ k' := by
  unfold ent
  have e1 : gL (aL σ k f) k' = gL σ k' := gL_aL_ne h
  have e2 : ∀ j t, fvv ad (aL σ k f) k' j t = fvv ad σ k' j t := by
    intro j t
    match t with
    | 0 => rfl
    | 1 => show Value.long _ = Value.long _; rw [e1]
    | _ + 2 => rfl
  split <;> simp only [e1, e2, gI_aL, gF_aL, gD_aL]
theorem ent_aF {ad : Nat → Nat} {dA : Nat → ClassId} {σ : S9} {k k' : Nat} {f : Int → UInt32} (h : k' ≠ k) : ent ad dA (aF σ k f) k' = ent ad dA σ k' := by
  unfold ent
  have e1 : gF (aF σ k f) k' = gF σ k' := gF_aF_ne h
  have e2 : ∀ j t, fvv ad (aF σ k f) k' j t = fvv ad σ k' j t := by
    intro j t
    match t with
    | 0 => rfl
    | 1 => rfl
    | _ + 2 => rfl
  split <;> simp only [e1, e2, gI_aF, gL_aF, gD_aF]
theorem ent_aD {ad : Nat → Nat} {dA : Nat → ClassId} {σ : S9} {k k' : Nat} {f : Int → UInt64} (h : k' ≠ k) : ent ad dA (aD σ k f) k' = ent ad dA σ k' := by
  unfold ent
  have e1 : gD (aD σ k f) k' = gD σ k' := gD_aD_ne h
  have e2 : ∀ j t, fvv ad (aD σ k f) k' j t = fvv ad σ k' j t := by
    intro j t
    match t with
    | 0 => rfl
    | 1 => rfl
    | _ + 2 => rfl
  split <;> simp only [e1, e2, gI_aD, gL_aD, gF_aD]
/-! ===== locals ===== -/
/-- lv: what the locals hold; .null where nothing is known (a second half, nothing yet) -/
def lvOK (ad : Nat → Nat) (ls : Array Slot) (n : Nat) (lv : List Value) : Prop := ls.size = n ∧ lv_wf ls ∧ ∀ (i : Nat) (v : Value), lv[i]? = some v → v ≠ .null → ls[i]? = some (.val (trv ad v))
def prs (ad : Nat → Nat) (lv : List Value) : List (Nat × Value) := (List.range lv.length).filterMap (fun i => match lv[i]? with
  | some Value.null => none
  | some v => some (i, trv ad v)
  | none => none)
theorem mem_prs {ad : Nat → Nat} {lv : List Value} {q : Nat × Value} : q ∈ prs ad lv ↔ ∃ v : Value, lv[q.1]? = some v ∧ v ≠ .null ∧ q.2 = trv ad v := by
  unfold prs
  rw [List.mem_filterMap]
  constructor
  · rintro ⟨i, -, hi⟩
    cases hv : lv[i]? with
    | none => rw [hv] at hi; cases hi
    | some v =>
      rw [hv] at hi
      cases v <;> cases hi <;> exact ⟨_, hv, (fun h => by cases h), rfl⟩
  · rintro ⟨v, hv, hn, hq⟩
    refine ⟨q.1, List.mem_range.mpr (List.getElem?_eq_some_iff.mp hv).1, ?_⟩
    rw [hv]
    obtain ⟨q1, q2⟩ := q
    cases hq
    cases v <;> first | rfl | exact absurd rfl hn
theorem lvOK_has {ad : Nat → Nat} {ls : Array Slot} {n : Nat} {lv : List Value} (h : lvOK ad ls n lv) : lv_has ls n (prs ad lv) := by
  refine ⟨h.1, h.2.1, fun q hq => ?_⟩
  obtain ⟨v, h1, h2, h3⟩ := mem_prs.mp hq
  rw [h3]
  exact h.2.2 _ _ h1 h2
/-- the local before place i is no long, no double -/
def c1A (lv : List Value) : Nat → Bool
  | 0 => true
  | j + 1 => (lv.getD j .null).category == 1
theorem lvOK_st1 {ad : Nat → Nat} {ls' : Array Slot} {n i : Nat} {lv lv' : List Value} {v : Value} (hc : c1A lv i = true) (hlv : lv.set i v = lv')
    (h : lv_has ls' n ((i, trv ad v) :: (prs ad lv).filter (fun q => !(q.1 == i) && !(q.1 + 1 == i && q.2.category == 2)))) : lvOK ad ls' n lv' := by
  refine ⟨h.1, h.2.1, fun j w hw hn => ?_⟩
  subst hlv
  rw [List.getElem?_set] at hw
  by_cases hij : i = j
  · subst hij
    rw [if_pos rfl] at hw
    split at hw
    · cases hw
      exact h.2.2 (i, _) List.mem_cons_self
    · cases hw
  · rw [if_neg hij] at hw
    refine h.2.2 (j, trv ad w) (List.mem_cons_of_mem _ (List.mem_filter.mpr ⟨mem_prs.mpr ⟨w, hw, hn, rfl⟩, ?_⟩))
    by_cases h1 : j + 1 = i
    · subst h1
      have hcat : w.category = 1 := by
        have : (lv.getD j .null).category = 1 := by simpa [c1A] using hc
        rw [List.getD_eq_getElem?_getD, hw] at this
        exact this
      simp [trv_cat, hcat]
    · simp [h1]; omega
theorem lvOK_st2 {ad : Nat → Nat} {ls' : Array Slot} {n i : Nat} {lv lv' : List Value} {v : Value} (hc : c1A lv i = true) (hlv : (lv.set i v).set (i + 1) .null = lv')
    (h : lv_has ls' n ((i, trv ad v) :: (prs ad lv).filter (fun q => !(q.1 == i) && (!(q.1 == i + 1) && !(q.1 + 1 == i && q.2.category == 2))))) : lvOK ad ls' n lv' := by
  refine ⟨h.1, h.2.1, fun j w hw hn => ?_⟩
  subst hlv
  rw [List.getElem?_set] at hw
  by_cases h2 : i + 1 = j
  · subst h2
    rw [if_pos rfl] at hw
    split at hw
    · cases hw
      exact absurd rfl hn
    · cases hw
  · rw [if_neg h2, List.getElem?_set] at hw
    by_cases hij : i = j
    · subst hij
      rw [if_pos rfl] at hw
      split at hw
      · cases hw
        exact h.2.2 (i, _) List.mem_cons_self
      · cases hw
    · rw [if_neg hij] at hw
      refine h.2.2 (j, trv ad w) (List.mem_cons_of_mem _ (List.mem_filter.mpr ⟨mem_prs.mpr ⟨w, hw, hn, rfl⟩, ?_⟩))
      by_cases h1 : j + 1 = i
      · subst h1
        have hcat : w.category = 1 := by
          have : (lv.getD j .null).category = 1 := by simpa [c1A] using hc
          rw [List.getD_eq_getElem?_getD, hw] at this
          exact this
        simp [trv_cat, hcat]
        omega
      · simp [h1]; omega
/-! ===== the judgement ===== -/
/-- a method: its name, code, locals, answer's type -/
abbrev MI : Type := MethodName × ByteArray × Nat × Option FieldType
/-- the tables' words that every method may have -/
abbrev lw_sx : List Cond := [Cond.selects RX2 yX6_advance yX6_advance, Cond.selects RX3 yX6_advance yX6_advance]
def lw_w : List Cond := (lw_sx ++ lw_tbl).filter goodWord
abbrev pw9 (mi : MI) : List Cond := Cond.code mi.1 mi.2.1 mi.2.2.1 mi.2.2.2 :: lw_w
abbrev rm9 (d : Nat) : Room := { frames := d, cells := 0, slots := 0, locals := 60 * d }
def Qc9 (γ : G9) (Q : List Value → S9 → Prop) : Array Value → State → Outcome → State → Prop := fun _ st oc t =>
  (∃ (r : List Value) (σ' : S9), oc = .returned (r.head?.map (trv γ.1)) ∧ r.length ≤ 1 ∧ Q r σ' ∧ P9 γ σ' t.heap ∧ K9 γ t) ∧ va_F (gA γ) st t
def Ctx (γ : G9) (mi : MI) (p : Program) (s : State) (m : MethodId) (args : Array Value) (meth : Method) (c : Code) : Prop :=
  p.tables.exec = Jvm.exec ∧ c.code = mi.2.1 ∧ meth.sig.returnType = mi.2.2.2 ∧ c.maxLocals = mi.2.2.1 ∧ s.vm.findClass mi.1.cls = some m.cls ∧ (∀ w ∈ lw_w, w.before args s = true) ∧ meth.locks = false ∧ K9 γ s ∧ gOK γ
def Vv (d : Nat) (mi : MI) (pc : Nat) (lv st : List Value) (σ : S9) (Q : List Value → S9 → Prop) : Prop :=
  ∀ (γ : G9) (p : Program) (l : Launch) (e : Env) (s : State) (m : MethodId) (args : Array Value) (below : List Frame) (meth : Method) (c : Code) (H : Heap) (locs : List Loc) (d0 : Drawn) (ls : Array Slot),
    Ctx γ mi p s m args meth c → s.drawn.sameBut d0 lw_cs → lvOK γ.1 ls mi.2.2.1 lv → va_S (gA γ) s.heap H locs → P9 γ σ H →
    W p l e (rm9 d) (s.setDrawn d0) m args below meth c H locs 0 0 (MQD lw_cs below (Qc9 γ Q) args s 0 0 (gA γ)) (F0 m pc ls (st.map (trv γ.1)))
/-- a contract over the pure world -/
def Cc (d : Nat) (mi : MI) (av : List Value) (σ : S9) (Q : List Value → S9 → Prop) : Prop :=
  ∀ (γ : G9) (l : Launch), gOK γ → MetD lw_cs l mi.1 (pw9 mi) (rm9 d) (va_Pc (av.map (trv γ.1)) (fun U => P9 γ σ U.heap ∧ K9 γ U)) (Qc9 γ Q) 0 0 (gA γ)
abbrev QI (P : Int → S9 → Prop) : List Value → S9 → Prop := fun r σ => ∃ z : Int, r = [.int (iI z)] ∧ P z σ
abbrev QL (P : Int → S9 → Prop) : List Value → S9 → Prop := fun r σ => ∃ z : Int, r = [.long (lI z)] ∧ P z σ
abbrev QF (P : UInt32 → S9 → Prop) : List Value → S9 → Prop := fun r σ => ∃ z : UInt32, r = [.float z] ∧ P z σ
abbrev QD (P : UInt64 → S9 → Prop) : List Value → S9 → Prop := fun r σ => ∃ z : UInt64, r = [.double z] ∧ P z σ
abbrev QV (P : S9 → Prop) : List Value → S9 → Prop := fun r σ => r = [] ∧ P σ
/-- the locals with which a method begins -/
def lay9 : List Value → List Value
  | [] => []
  | v :: vs => if v.category = 2 then v :: .null :: lay9 vs else v :: lay9 vs
theorem lay9_args (ad : Nat → Nat) : ∀ (vs : List Value) (i j : Nat) (v : Value), (lay9 vs)[j]? = some v → v ≠ .null → (i + j, trv ad v) ∈ lv_args i (vs.map (trv ad))
  | [], i, j, v, h, _ => by simp [lay9] at h
  | w :: vs, i, j, v, h, hn => by
    unfold lay9 at h
    show (i + j, trv ad v) ∈ (i, trv ad w) :: lv_args (if (trv ad w).category = 2 then i + 2 else i + 1) (vs.map (trv ad))
    rw [trv_cat]
    by_cases hc : w.category = 2
    · rw [if_pos hc] at h ⊢
      match j, h with
      | 0, h => cases h; exact List.mem_cons_self
      | 1, h => cases h; exact absurd rfl hn
      | j + 2, h =>
        have := lay9_args ad vs (i + 2) j v h hn
        rw [show i + (j + 2) = i + 2 + j by omega]
        exact List.mem_cons_of_mem _ this
    · rw [if_neg hc] at h ⊢
      match j, h with
      | 0, h => cases h; exact List.mem_cons_self
      | j + 1, h =>
        have := lay9_args ad vs (i + 1) j v h hn
        rw [show i + (j + 1) = i + 1 + j by omega]
        exact List.mem_cons_of_mem _ this
/-- a contract out of a walk -/
theorem Cc_of {d : Nat} {mi : MI} {av lv : List Value} {σ : S9} {Q : List Value → S9 → Prop} (hy : plainName mi.1.cls = true) (hn : ∀ ad : Nat → Nat, (lg_sl (av.map (trv ad))).length ≤ mi.2.2.1)
    (hlv : lay9 av ++ List.replicate (mi.2.2.1 - (lay9 av).length) .null = lv) (k : Vv d mi 0 lv [] σ Q) : Cc d mi av σ Q := by
  intro γ l hG
  refine MetD.ofW (cc := mi.2.1) (maxL := mi.2.2.1) (ret := mi.2.2.2) hy rfl ?_
  intro p e s m args below meth c s₁ B hml hv hd0
  obtain ⟨rfl, hP, hK⟩ := hv
  have hts := atoms_spec (ws := pw9 mi) B.pre
  have hl := lv_entry (av.map (trv γ.1)) (n := mi.2.2.1) (hn γ.1)
  rw [lg_entry_eq]
  generalize (lg_sl (av.map (trv γ.1)) ++ List.replicate (mi.2.2.1 - (lg_sl (av.map (trv γ.1))).length) Slot.unset).toArray = ls at hl ⊢
  refine k γ p l e s m _ below meth c s.heap [] s.drawn ls ⟨B.exec, B.bytes, B.returns, hml, findClass_of_methodNamed B.named, fun w h => hts w (List.mem_cons_of_mem _ h), B.notSynchronized, hK, hG⟩ hd0 ⟨hl.1, hl.2.1, fun i v hi hnn => ?_⟩ va_S.rf hP
  refine hl.2.2 (i, trv γ.1 v) ?_
  subst hlv
  by_cases hlt : i < (lay9 av).length
  · rw [List.getElem?_append_left hlt] at hi
    have := lay9_args γ.1 av 0 i v hi hnn
    rwa [Nat.zero_add] at this
  · rw [List.getElem?_append_right (Nat.not_lt.mp hlt), List.getElem?_replicate] at hi
    split at hi
    · cases hi; exact absurd rfl hnn
    · cases hi
end
section
theorem i2b9 {a : Int} (h : -128 ≤ a ∧ a < 128) : (iI a).toInt8.toInt32 = iI a := by
  apply Int32.toInt_inj.mp
  rw [Int8.toInt_toInt32, Int32.toInt_toInt8, iI_toInt (by omega) (by omega)]
  show (if a % 256 < (256 + 1) / 2 then a % 256 else a % 256 - 256) = a
  split <;> omega
theorem lc9_lt {a b : Int} (h : (-9223372036854775808 ≤ a ∧ a < 9223372036854775808) ∧ (-9223372036854775808 ≤ b ∧ b < 9223372036854775808)) : lg_cmp (lI a) (lI b) < 0 ↔ a < b := by
  have e1 := lI_lt ⟨h.2, h.1⟩
  have e2 := lI_eq h
  unfold lg_cmp
  by_cases h1 : b < a
  · rw [if_pos (e1.mpr h1)]; exact ⟨fun q => absurd q (by decide), fun q => by omega⟩
  · rw [if_neg (fun q => h1 (e1.mp q))]
    by_cases h2 : a = b
    · rw [if_pos (e2.mpr h2)]; exact ⟨fun q => absurd q (by decide), fun q => by omega⟩
    · rw [if_neg (fun q => h2 (e2.mp q))]; exact ⟨fun _ => by omega, fun _ => by decide⟩
theorem lc9_gt {a b : Int} (h : (-9223372036854775808 ≤ a ∧ a < 9223372036854775808) ∧ (-9223372036854775808 ≤ b ∧ b < 9223372036854775808)) : 0 < lg_cmp (lI a) (lI b) ↔ b < a := by
  have e1 := lI_lt ⟨h.2, h.1⟩
  have e2 := lI_eq h
  unfold lg_cmp
  by_cases h1 : b < a
  · rw [if_pos (e1.mpr h1)]; exact ⟨fun _ => by omega, fun _ => by decide⟩
  · rw [if_neg (fun q => h1 (e1.mp q))]
    by_cases h2 : a = b
    · rw [if_pos (e2.mpr h2)]; exact ⟨fun q => absurd q (by decide), fun q => by omega⟩
    · rw [if_neg (fun q => h2 (e2.mp q))]; exact ⟨fun q => absurd q (by decide), fun q => by omega⟩
theorem lc9_eq {a b : Int} (h : (-9223372036854775808 ≤ a ∧ a < 9223372036854775808) ∧ (-9223372036854775808 ≤ b ∧ b < 9223372036854775808)) : lg_cmp (lI a) (lI b) = 0 ↔ a = b := by
  have e1 := lI_lt ⟨h.2, h.1⟩
  have e2 := lI_eq h
  unfold lg_cmp
  by_cases h1 : b < a
  · rw [if_pos (e1.mpr h1)]; exact ⟨fun q => absurd q (by decide), fun q => by omega⟩
  · rw [if_neg (fun q => h1 (e1.mp q))]
    by_cases h2 : a = b
    · rw [if_pos (e2.mpr h2)]; exact ⟨fun _ => by omega, fun _ => by decide⟩
    · rw [if_neg (fun q => h2 (e2.mp q))]; exact ⟨fun q => absurd q (by decide), fun q => by omega⟩
theorem lc9_nge {x : Int32} (h : x < 0) (q : 0 ≤ x) : False := by rw [Int32.lt_iff_toInt_lt] at h; rw [Int32.le_iff_toInt_le] at q; omega
theorem lc9_nle {x : Int32} (h : 0 < x) (q : x ≤ 0) : False := by rw [Int32.lt_iff_toInt_lt] at h; rw [Int32.le_iff_toInt_le] at q; omega
theorem lc9_ge {x : Int32} (q : ¬ 0 ≤ x) : x < 0 := by rw [Int32.lt_iff_toInt_lt]; rw [Int32.le_iff_toInt_le] at q; omega
theorem lc9_le {x : Int32} (q : ¬ x ≤ 0) : 0 < x := by rw [Int32.lt_iff_toInt_lt]; rw [Int32.le_iff_toInt_le] at q; omega
section
variable {d : Nat} {mi : MI} {pc : Nat} {lv lv' st : List Value} {σ : S9} {Q : List Value → S9 → Prop}
theorem v_iconst {n : Int} (hd : decode mi.2.1 pc = .ok (.iconst n, 1)) (k : Vv d mi (pc + 1) lv (.int (iI n) :: st) σ Q) : Vv d mi pc lv (st) σ Q := by
  intro γ p l e s m args below meth c H locs d0 ls C hd0 hl hS hP
  obtain ⟨hx, hb, hr, hml, hown, hts, hlk, hK, hG⟩ := id C
  refine lv_iconst hx hb hd rfl ?_
  exact k γ p l e s m args below meth c H locs d0 ls C hd0 hl hS hP
theorem v_bipush {n : Int} (hd : decode mi.2.1 pc = .ok (.bipush n, 2)) (hn : -128 ≤ n ∧ n < 128) (k : Vv d mi (pc + 2) lv (.int (iI n) :: st) σ Q) : Vv d mi pc lv (st) σ Q := by
  intro γ p l e s m args below meth c H locs d0 ls C hd0 hl hS hP
  obtain ⟨hx, hb, hr, hml, hown, hts, hlk, hK, hG⟩ := id C
  refine lv_bipush hx hb hd (Int8.toInt32_ofInt (by rw [Int8.toInt_minValue]; omega) (by rw [Int8.toInt_maxValue]; omega)) ?_
  exact k γ p l e s m args below meth c H locs d0 ls C hd0 hl hS hP
theorem v_sipush {n : Int} (hd : decode mi.2.1 pc = .ok (.sipush n, 3)) (hn : -32768 ≤ n ∧ n < 32768) (k : Vv d mi (pc + 3) lv (.int (iI n) :: st) σ Q) : Vv d mi pc lv (st) σ Q := by
  intro γ p l e s m args below meth c H locs d0 ls C hd0 hl hS hP
  obtain ⟨hx, hb, hr, hml, hown, hts, hlk, hK, hG⟩ := id C
  refine lv_sipush hx hb hd (Int16.toInt32_ofInt (by rw [Int16.toInt_minValue]; omega) (by rw [Int16.toInt_maxValue]; omega)) ?_
  exact k γ p l e s m args below meth c H locs d0 ls C hd0 hl hS hP
theorem v_lconst {n : Fin 2} (hd : decode mi.2.1 pc = .ok (.lconst n, 1)) (k : Vv d mi (pc + 1) lv (.long (lI (n : Nat)) :: st) σ Q) : Vv d mi pc lv (st) σ Q := by
  intro γ p l e s m args below meth c H locs d0 ls C hd0 hl hS hP
  obtain ⟨hx, hb, hr, hml, hown, hts, hlk, hK, hG⟩ := id C
  refine lv_lconst (v := lI (n : Nat)) hx hb hd Int64.ofInt_eq_ofNat.symm ?_
  exact k γ p l e s m args below meth c H locs d0 ls C hd0 hl hS hP
theorem v_fconst0  (hd : decode mi.2.1 pc = .ok (.fconst 0, 1)) (k : Vv d mi (pc + 1) lv (.float 0 :: st) σ Q) : Vv d mi pc lv (st) σ Q := by
  intro γ p l e s m args below meth c H locs d0 ls C hd0 hl hS hP
  obtain ⟨hx, hb, hr, hml, hown, hts, hlk, hK, hG⟩ := id C
  refine lv_fconst0 hx hb hd ?_
  exact k γ p l e s m args below meth c H locs d0 ls C hd0 hl hS hP
theorem v_fconst1  (hd : decode mi.2.1 pc = .ok (.fconst 1, 1)) (k : Vv d mi (pc + 1) lv (.float 0x3f800000 :: st) σ Q) : Vv d mi pc lv (st) σ Q := by
  intro γ p l e s m args below meth c H locs d0 ls C hd0 hl hS hP
  obtain ⟨hx, hb, hr, hml, hown, hts, hlk, hK, hG⟩ := id C
  refine lv_fconst1 hx hb hd ?_
  exact k γ p l e s m args below meth c H locs d0 ls C hd0 hl hS hP
theorem v_dconst0  (hd : decode mi.2.1 pc = .ok (.dconst 0, 1)) (k : Vv d mi (pc + 1) lv (.double 0 :: st) σ Q) : Vv d mi pc lv (st) σ Q := by
  intro γ p l e s m args below meth c H locs d0 ls C hd0 hl hS hP
  obtain ⟨hx, hb, hr, hml, hown, hts, hlk, hK, hG⟩ := id C
  refine lv_dconst0 hx hb hd ?_
  exact k γ p l e s m args below meth c H locs d0 ls C hd0 hl hS hP
theorem v_dconst1  (hd : decode mi.2.1 pc = .ok (.dconst 1, 1)) (k : Vv d mi (pc + 1) lv (.double 0x3ff0000000000000 :: st) σ Q) : Vv d mi pc lv (st) σ Q := by
  intro γ p l e s m args below meth c H locs d0 ls C hd0 hl hS hP
  obtain ⟨hx, hb, hr, hml, hown, hts, hlk, hK, hG⟩ := id C
  refine lv_dconst1 hx hb hd ?_
  exact k γ p l e s m args below meth c H locs d0 ls C hd0 hl hS hP
theorem v_ldc {idx : Nat} {z : Int} (hd : decode mi.2.1 pc = .ok (.ldc idx, 2)) (hw : Cond.constant mi.1.cls idx (iI z) ∈ lw_w) (k : Vv d mi (pc + 2) lv (.int (iI z) :: st) σ Q) : Vv d mi pc lv (st) σ Q := by
  intro γ p l e s m args below meth c H locs d0 ls C hd0 hl hS hP
  obtain ⟨hx, hb, hr, hml, hown, hts, hlk, hK, hG⟩ := id C
  refine lv_ldc hx hb hown (dr_words hts _ _ hw) hd ?_
  exact k γ p l e s m args below meth c H locs d0 ls C hd0 hl hS hP
theorem v_ldcw {idx : Nat} {z : Int} (hd : decode mi.2.1 pc = .ok (.ldc_w idx, 3)) (hw : Cond.constant mi.1.cls idx (iI z) ∈ lw_w) (k : Vv d mi (pc + 3) lv (.int (iI z) :: st) σ Q) : Vv d mi pc lv (st) σ Q := by
  intro γ p l e s m args below meth c H locs d0 ls C hd0 hl hS hP
  obtain ⟨hx, hb, hr, hml, hown, hts, hlk, hK, hG⟩ := id C
  refine lv_ldcw hx hb hown (dr_words hts _ _ hw) hd ?_
  exact k γ p l e s m args below meth c H locs d0 ls C hd0 hl hS hP
theorem v_ldcf {idx : Nat} {v : UInt32} (hd : decode mi.2.1 pc = .ok (.ldc idx, 2)) (hw : Cond.constantFloat mi.1.cls idx v ∈ lw_w) (k : Vv d mi (pc + 2) lv (.float v :: st) σ Q) : Vv d mi pc lv (st) σ Q := by
  intro γ p l e s m args below meth c H locs d0 ls C hd0 hl hS hP
  obtain ⟨hx, hb, hr, hml, hown, hts, hlk, hK, hG⟩ := id C
  refine lv_ldcf hx hb hown (dr_words hts _ _ hw) hd ?_
  exact k γ p l e s m args below meth c H locs d0 ls C hd0 hl hS hP
theorem v_ldc2 {idx : Nat} {z : Int} (hd : decode mi.2.1 pc = .ok (.ldc2_w idx, 3)) (hw : Cond.constantLong mi.1.cls idx (lI z) ∈ lw_w) (k : Vv d mi (pc + 3) lv (.long (lI z) :: st) σ Q) : Vv d mi pc lv (st) σ Q := by
  intro γ p l e s m args below meth c H locs d0 ls C hd0 hl hS hP
  obtain ⟨hx, hb, hr, hml, hown, hts, hlk, hK, hG⟩ := id C
  refine lv_ldc2 hx hb hown (dr_words hts _ _ hw) hd ?_
  exact k γ p l e s m args below meth c H locs d0 ls C hd0 hl hS hP
theorem v_ldc2d {idx : Nat} {v : UInt64} (hd : decode mi.2.1 pc = .ok (.ldc2_w idx, 3)) (hw : Cond.constantDouble mi.1.cls idx v ∈ lw_w) (k : Vv d mi (pc + 3) lv (.double v :: st) σ Q) : Vv d mi pc lv (st) σ Q := by
  intro γ p l e s m args below meth c H locs d0 ls C hd0 hl hS hP
  obtain ⟨hx, hb, hr, hml, hown, hts, hlk, hK, hG⟩ := id C
  refine lv_ldc2d hx hb hown (dr_words hts _ _ hw) hd ?_
  exact k γ p l e s m args below meth c H locs d0 ls C hd0 hl hS hP
theorem v_iload_n {i : Fin 4} {z : Int} (hd : decode mi.2.1 pc = .ok (.iload_n i, 1)) (hg : lv[(i : Nat)]? = some (.int (iI z))) (k : Vv d mi (pc + 1) lv (.int (iI z) :: st) σ Q) : Vv d mi pc lv (st) σ Q := by
  intro γ p l e s m args below meth c H locs d0 ls C hd0 hl hS hP
  obtain ⟨hx, hb, hr, hml, hown, hts, hlk, hK, hG⟩ := id C
  refine lv_iload_n hx hb hd rfl (hl.2.2 _ _ hg (fun h => by cases h)) ?_
  exact k γ p l e s m args below meth c H locs d0 ls C hd0 hl hS hP
theorem v_iload {i : Nat} {z : Int} (hd : decode mi.2.1 pc = .ok (.iload i, 2)) (hg : lv[i]? = some (.int (iI z))) (k : Vv d mi (pc + 2) lv (.int (iI z) :: st) σ Q) : Vv d mi pc lv (st) σ Q := by
  intro γ p l e s m args below meth c H locs d0 ls C hd0 hl hS hP
  obtain ⟨hx, hb, hr, hml, hown, hts, hlk, hK, hG⟩ := id C
  refine lv_iload hx hb hd (hl.2.2 _ _ hg (fun h => by cases h)) ?_
  exact k γ p l e s m args below meth c H locs d0 ls C hd0 hl hS hP
theorem v_lload_n {i : Fin 4} {z : Int} (hd : decode mi.2.1 pc = .ok (.lload_n i, 1)) (hg : lv[(i : Nat)]? = some (.long (lI z))) (k : Vv d mi (pc + 1) lv (.long (lI z) :: st) σ Q) : Vv d mi pc lv (st) σ Q := by
  intro γ p l e s m args below meth c H locs d0 ls C hd0 hl hS hP
  obtain ⟨hx, hb, hr, hml, hown, hts, hlk, hK, hG⟩ := id C
  refine lv_lload_n hx hb hd rfl (hl.2.2 _ _ hg (fun h => by cases h)) ?_
  exact k γ p l e s m args below meth c H locs d0 ls C hd0 hl hS hP
theorem v_lload {i : Nat} {z : Int} (hd : decode mi.2.1 pc = .ok (.lload i, 2)) (hg : lv[i]? = some (.long (lI z))) (k : Vv d mi (pc + 2) lv (.long (lI z) :: st) σ Q) : Vv d mi pc lv (st) σ Q := by
  intro γ p l e s m args below meth c H locs d0 ls C hd0 hl hS hP
  obtain ⟨hx, hb, hr, hml, hown, hts, hlk, hK, hG⟩ := id C
  refine lv_lload hx hb hd (hl.2.2 _ _ hg (fun h => by cases h)) ?_
  exact k γ p l e s m args below meth c H locs d0 ls C hd0 hl hS hP
theorem v_aload_n {i : Fin 4} {z : Nat} (hd : decode mi.2.1 pc = .ok (.aload_n i, 1)) (hg : lv[(i : Nat)]? = some (.ref z)) (k : Vv d mi (pc + 1) lv (.ref z :: st) σ Q) : Vv d mi pc lv (st) σ Q := by
  intro γ p l e s m args below meth c H locs d0 ls C hd0 hl hS hP
  obtain ⟨hx, hb, hr, hml, hown, hts, hlk, hK, hG⟩ := id C
  refine lv_aload_n hx hb hd rfl (hl.2.2 _ _ hg (fun h => by cases h)) ?_
  exact k γ p l e s m args below meth c H locs d0 ls C hd0 hl hS hP
theorem v_aload {i : Nat} {z : Nat} (hd : decode mi.2.1 pc = .ok (.aload i, 2)) (hg : lv[i]? = some (.ref z)) (k : Vv d mi (pc + 2) lv (.ref z :: st) σ Q) : Vv d mi pc lv (st) σ Q := by
  intro γ p l e s m args below meth c H locs d0 ls C hd0 hl hS hP
  obtain ⟨hx, hb, hr, hml, hown, hts, hlk, hK, hG⟩ := id C
  refine lv_aload hx hb hd (hl.2.2 _ _ hg (fun h => by cases h)) ?_
  exact k γ p l e s m args below meth c H locs d0 ls C hd0 hl hS hP
theorem v_fload_n {i : Fin 4} {z : UInt32} (hd : decode mi.2.1 pc = .ok (.fload_n i, 1)) (hg : lv[(i : Nat)]? = some (.float z)) (k : Vv d mi (pc + 1) lv (.float z :: st) σ Q) : Vv d mi pc lv (st) σ Q := by
  intro γ p l e s m args below meth c H locs d0 ls C hd0 hl hS hP
  obtain ⟨hx, hb, hr, hml, hown, hts, hlk, hK, hG⟩ := id C
  refine lv_fload_n hx hb hd rfl (hl.2.2 _ _ hg (fun h => by cases h)) ?_
  exact k γ p l e s m args below meth c H locs d0 ls C hd0 hl hS hP
theorem v_fload {i : Nat} {z : UInt32} (hd : decode mi.2.1 pc = .ok (.fload i, 2)) (hg : lv[i]? = some (.float z)) (k : Vv d mi (pc + 2) lv (.float z :: st) σ Q) : Vv d mi pc lv (st) σ Q := by
  intro γ p l e s m args below meth c H locs d0 ls C hd0 hl hS hP
  obtain ⟨hx, hb, hr, hml, hown, hts, hlk, hK, hG⟩ := id C
  refine lv_fload hx hb hd (hl.2.2 _ _ hg (fun h => by cases h)) ?_
  exact k γ p l e s m args below meth c H locs d0 ls C hd0 hl hS hP
theorem v_dload_n {i : Fin 4} {z : UInt64} (hd : decode mi.2.1 pc = .ok (.dload_n i, 1)) (hg : lv[(i : Nat)]? = some (.double z)) (k : Vv d mi (pc + 1) lv (.double z :: st) σ Q) : Vv d mi pc lv (st) σ Q := by
  intro γ p l e s m args below meth c H locs d0 ls C hd0 hl hS hP
  obtain ⟨hx, hb, hr, hml, hown, hts, hlk, hK, hG⟩ := id C
  refine lv_dload_n hx hb hd rfl (hl.2.2 _ _ hg (fun h => by cases h)) ?_
  exact k γ p l e s m args below meth c H locs d0 ls C hd0 hl hS hP
theorem v_dload {i : Nat} {z : UInt64} (hd : decode mi.2.1 pc = .ok (.dload i, 2)) (hg : lv[i]? = some (.double z)) (k : Vv d mi (pc + 2) lv (.double z :: st) σ Q) : Vv d mi pc lv (st) σ Q := by
  intro γ p l e s m args below meth c H locs d0 ls C hd0 hl hS hP
  obtain ⟨hx, hb, hr, hml, hown, hts, hlk, hK, hG⟩ := id C
  refine lv_dload hx hb hd (hl.2.2 _ _ hg (fun h => by cases h)) ?_
  exact k γ p l e s m args below meth c H locs d0 ls C hd0 hl hS hP
theorem v_istore_n {i : Fin 4} {z : Int} (hd : decode mi.2.1 pc = .ok (.istore_n i, 1)) (hn : (i : Nat) < mi.2.2.1) (hc : c1A lv (i : Nat) = true) (hlv : lv.set (i : Nat) (.int (iI z)) = lv') (k : Vv d mi (pc + 1) lv' st σ Q) : Vv d mi pc lv (.int (iI z) :: st) σ Q := by
  intro γ p l e s m args below meth c H locs d0 ls C hd0 hl hS hP
  obtain ⟨hx, hb, hr, hml, hown, hts, hlk, hK, hG⟩ := id C
  refine lv_istore_n hx hb hd rfl (lvOK_has hl) hn rfl (fun ls hl2 => ?_)
  have hl := lvOK_st1 (ad := γ.1) (v := .int (iI z)) hc hlv hl2
  exact k γ p l e s m args below meth c H locs d0 ls C hd0 hl hS hP
theorem v_istore {i : Nat} {z : Int} (hd : decode mi.2.1 pc = .ok (.istore i, 2)) (hn : i < mi.2.2.1) (hc : c1A lv i = true) (hlv : lv.set i (.int (iI z)) = lv') (k : Vv d mi (pc + 2) lv' st σ Q) : Vv d mi pc lv (.int (iI z) :: st) σ Q := by
  intro γ p l e s m args below meth c H locs d0 ls C hd0 hl hS hP
  obtain ⟨hx, hb, hr, hml, hown, hts, hlk, hK, hG⟩ := id C
  refine lv_istore hx hb hd (lvOK_has hl) hn rfl (fun ls hl2 => ?_)
  have hl := lvOK_st1 (ad := γ.1) (v := .int (iI z)) hc hlv hl2
  exact k γ p l e s m args below meth c H locs d0 ls C hd0 hl hS hP
theorem v_lstore_n {i : Fin 4} {z : Int} (hd : decode mi.2.1 pc = .ok (.lstore_n i, 1)) (hn : (i : Nat) + 1 < mi.2.2.1) (hc : c1A lv (i : Nat) = true) (hlv : (lv.set (i : Nat) (.long (lI z))).set ((i : Nat) + 1) .null = lv') (k : Vv d mi (pc + 1) lv' st σ Q) : Vv d mi pc lv (.long (lI z) :: st) σ Q := by
  intro γ p l e s m args below meth c H locs d0 ls C hd0 hl hS hP
  obtain ⟨hx, hb, hr, hml, hown, hts, hlk, hK, hG⟩ := id C
  refine lv_lstore_n hx hb hd rfl (lvOK_has hl) hn rfl (fun ls hl2 => ?_)
  have hl := lvOK_st2 (ad := γ.1) (v := .long (lI z)) hc hlv hl2
  exact k γ p l e s m args below meth c H locs d0 ls C hd0 hl hS hP
theorem v_lstore {i : Nat} {z : Int} (hd : decode mi.2.1 pc = .ok (.lstore i, 2)) (hn : i + 1 < mi.2.2.1) (hc : c1A lv i = true) (hlv : (lv.set i (.long (lI z))).set (i + 1) .null = lv') (k : Vv d mi (pc + 2) lv' st σ Q) : Vv d mi pc lv (.long (lI z) :: st) σ Q := by
  intro γ p l e s m args below meth c H locs d0 ls C hd0 hl hS hP
  obtain ⟨hx, hb, hr, hml, hown, hts, hlk, hK, hG⟩ := id C
  refine lv_lstore hx hb hd (lvOK_has hl) hn rfl (fun ls hl2 => ?_)
  have hl := lvOK_st2 (ad := γ.1) (v := .long (lI z)) hc hlv hl2
  exact k γ p l e s m args below meth c H locs d0 ls C hd0 hl hS hP
theorem v_astore_n {i : Fin 4} {z : Nat} (hd : decode mi.2.1 pc = .ok (.astore_n i, 1)) (hn : (i : Nat) < mi.2.2.1) (hc : c1A lv (i : Nat) = true) (hlv : lv.set (i : Nat) (.ref z) = lv') (k : Vv d mi (pc + 1) lv' st σ Q) : Vv d mi pc lv (.ref z :: st) σ Q := by
  intro γ p l e s m args below meth c H locs d0 ls C hd0 hl hS hP
  obtain ⟨hx, hb, hr, hml, hown, hts, hlk, hK, hG⟩ := id C
  refine lv_astore_n hx hb hd rfl (lvOK_has hl) hn rfl (fun ls hl2 => ?_)
  have hl := lvOK_st1 (ad := γ.1) (v := .ref z) hc hlv hl2
  exact k γ p l e s m args below meth c H locs d0 ls C hd0 hl hS hP
theorem v_astore {i : Nat} {z : Nat} (hd : decode mi.2.1 pc = .ok (.astore i, 2)) (hn : i < mi.2.2.1) (hc : c1A lv i = true) (hlv : lv.set i (.ref z) = lv') (k : Vv d mi (pc + 2) lv' st σ Q) : Vv d mi pc lv (.ref z :: st) σ Q := by
  intro γ p l e s m args below meth c H locs d0 ls C hd0 hl hS hP
  obtain ⟨hx, hb, hr, hml, hown, hts, hlk, hK, hG⟩ := id C
  refine lv_astore hx hb hd (lvOK_has hl) hn rfl (fun ls hl2 => ?_)
  have hl := lvOK_st1 (ad := γ.1) (v := .ref z) hc hlv hl2
  exact k γ p l e s m args below meth c H locs d0 ls C hd0 hl hS hP
theorem v_fstore_n {i : Fin 4} {z : UInt32} (hd : decode mi.2.1 pc = .ok (.fstore_n i, 1)) (hn : (i : Nat) < mi.2.2.1) (hc : c1A lv (i : Nat) = true) (hlv : lv.set (i : Nat) (.float z) = lv') (k : Vv d mi (pc + 1) lv' st σ Q) : Vv d mi pc lv (.float z :: st) σ Q := by
  intro γ p l e s m args below meth c H locs d0 ls C hd0 hl hS hP
  obtain ⟨hx, hb, hr, hml, hown, hts, hlk, hK, hG⟩ := id C
  refine lv_fstore_n hx hb hd rfl (lvOK_has hl) hn rfl (fun ls hl2 => ?_)
  have hl := lvOK_st1 (ad := γ.1) (v := .float z) hc hlv hl2
  exact k γ p l e s m args below meth c H locs d0 ls C hd0 hl hS hP
theorem v_fstore {i : Nat} {z : UInt32} (hd : decode mi.2.1 pc = .ok (.fstore i, 2)) (hn : i < mi.2.2.1) (hc : c1A lv i = true) (hlv : lv.set i (.float z) = lv') (k : Vv d mi (pc + 2) lv' st σ Q) : Vv d mi pc lv (.float z :: st) σ Q := by
  intro γ p l e s m args below meth c H locs d0 ls C hd0 hl hS hP
  obtain ⟨hx, hb, hr, hml, hown, hts, hlk, hK, hG⟩ := id C
  refine lv_fstore hx hb hd (lvOK_has hl) hn rfl (fun ls hl2 => ?_)
  have hl := lvOK_st1 (ad := γ.1) (v := .float z) hc hlv hl2
  exact k γ p l e s m args below meth c H locs d0 ls C hd0 hl hS hP
theorem v_dstore_n {i : Fin 4} {z : UInt64} (hd : decode mi.2.1 pc = .ok (.dstore_n i, 1)) (hn : (i : Nat) + 1 < mi.2.2.1) (hc : c1A lv (i : Nat) = true) (hlv : (lv.set (i : Nat) (.double z)).set ((i : Nat) + 1) .null = lv') (k : Vv d mi (pc + 1) lv' st σ Q) : Vv d mi pc lv (.double z :: st) σ Q := by
  intro γ p l e s m args below meth c H locs d0 ls C hd0 hl hS hP
  obtain ⟨hx, hb, hr, hml, hown, hts, hlk, hK, hG⟩ := id C
  refine lv_dstore_n hx hb hd rfl (lvOK_has hl) hn rfl (fun ls hl2 => ?_)
  have hl := lvOK_st2 (ad := γ.1) (v := .double z) hc hlv hl2
  exact k γ p l e s m args below meth c H locs d0 ls C hd0 hl hS hP
theorem v_dstore {i : Nat} {z : UInt64} (hd : decode mi.2.1 pc = .ok (.dstore i, 2)) (hn : i + 1 < mi.2.2.1) (hc : c1A lv i = true) (hlv : (lv.set i (.double z)).set (i + 1) .null = lv') (k : Vv d mi (pc + 2) lv' st σ Q) : Vv d mi pc lv (.double z :: st) σ Q := by
  intro γ p l e s m args below meth c H locs d0 ls C hd0 hl hS hP
  obtain ⟨hx, hb, hr, hml, hown, hts, hlk, hK, hG⟩ := id C
  refine lv_dstore hx hb hd (lvOK_has hl) hn rfl (fun ls hl2 => ?_)
  have hl := lvOK_st2 (ad := γ.1) (v := .double z) hc hlv hl2
  exact k γ p l e s m args below meth c H locs d0 ls C hd0 hl hS hP
theorem v_iinc {i : Nat} {n z : Int} (hd : decode mi.2.1 pc = .ok (.iinc i n, 3)) (hg : lv[i]? = some (.int (iI z))) (hn : i < mi.2.2.1) (hc : c1A lv i = true) (hlv : lv.set i (.int (iI (z + n))) = lv') (k : Vv d mi (pc + 3) lv' st σ Q) : Vv d mi pc lv st σ Q := by
  intro γ p l e s m args below meth c H locs d0 ls C hd0 hl hS hP
  obtain ⟨hx, hb, hr, hml, hown, hts, hlk, hK, hG⟩ := id C
  obtain ⟨q, hq⟩ := List.getElem?_of_mem (mem_prs (ad := γ.1) (lv := lv) (q := (i, .int (iI z))).mpr ⟨.int (iI z), hg, (fun h => by cases h), rfl⟩)
  refine lv_iinc (v := iI (z + n)) hx hb hd (lvOK_has hl) hq (iI_add z n).symm hn rfl (fun ls hl2 => ?_)
  have hl := lvOK_st1 (ad := γ.1) (v := .int (iI (z + n))) hc hlv hl2
  exact k γ p l e s m args below meth c H locs d0 ls C hd0 hl hS hP
theorem v_iadd {a b : Int} (hd : decode mi.2.1 pc = .ok (.iadd, 1)) (k : Vv d mi (pc + 1) lv (.int (iI (a + b)) :: st) σ Q) : Vv d mi pc lv (.int (iI b) :: .int (iI a) :: st) σ Q := by
  intro γ p l e s m args below meth c H locs d0 ls C hd0 hl hS hP
  obtain ⟨hx, hb, hr, hml, hown, hts, hlk, hK, hG⟩ := id C
  refine lv_iadd hx hb hd ?_
  rw [← iI_add]
  exact k γ p l e s m args below meth c H locs d0 ls C hd0 hl hS hP
theorem v_isub {a b : Int} (hd : decode mi.2.1 pc = .ok (.isub, 1)) (k : Vv d mi (pc + 1) lv (.int (iI (a - b)) :: st) σ Q) : Vv d mi pc lv (.int (iI b) :: .int (iI a) :: st) σ Q := by
  intro γ p l e s m args below meth c H locs d0 ls C hd0 hl hS hP
  obtain ⟨hx, hb, hr, hml, hown, hts, hlk, hK, hG⟩ := id C
  refine lv_isub hx hb hd ?_
  rw [← iI_sub]
  exact k γ p l e s m args below meth c H locs d0 ls C hd0 hl hS hP
theorem v_imul {a b : Int} (hd : decode mi.2.1 pc = .ok (.imul, 1)) (k : Vv d mi (pc + 1) lv (.int (iI (a * b)) :: st) σ Q) : Vv d mi pc lv (.int (iI b) :: .int (iI a) :: st) σ Q := by
  intro γ p l e s m args below meth c H locs d0 ls C hd0 hl hS hP
  obtain ⟨hx, hb, hr, hml, hown, hts, hlk, hK, hG⟩ := id C
  refine lv_imul hx hb hd ?_
  rw [← iI_mul]
  exact k γ p l e s m args below meth c H locs d0 ls C hd0 hl hS hP
theorem v_ladd {a b : Int} (hd : decode mi.2.1 pc = .ok (.ladd, 1)) (k : Vv d mi (pc + 1) lv (.long (lI (a + b)) :: st) σ Q) : Vv d mi pc lv (.long (lI b) :: .long (lI a) :: st) σ Q := by
  intro γ p l e s m args below meth c H locs d0 ls C hd0 hl hS hP
  obtain ⟨hx, hb, hr, hml, hown, hts, hlk, hK, hG⟩ := id C
  refine lv_ladd hx hb hd ?_
  rw [← lI_add]
  exact k γ p l e s m args below meth c H locs d0 ls C hd0 hl hS hP
theorem v_lsub {a b : Int} (hd : decode mi.2.1 pc = .ok (.lsub, 1)) (k : Vv d mi (pc + 1) lv (.long (lI (a - b)) :: st) σ Q) : Vv d mi pc lv (.long (lI b) :: .long (lI a) :: st) σ Q := by
  intro γ p l e s m args below meth c H locs d0 ls C hd0 hl hS hP
  obtain ⟨hx, hb, hr, hml, hown, hts, hlk, hK, hG⟩ := id C
  refine lv_lsub hx hb hd ?_
  rw [← lI_sub]
  exact k γ p l e s m args below meth c H locs d0 ls C hd0 hl hS hP
theorem v_lmul {a b : Int} (hd : decode mi.2.1 pc = .ok (.lmul, 1)) (k : Vv d mi (pc + 1) lv (.long (lI (a * b)) :: st) σ Q) : Vv d mi pc lv (.long (lI b) :: .long (lI a) :: st) σ Q := by
  intro γ p l e s m args below meth c H locs d0 ls C hd0 hl hS hP
  obtain ⟨hx, hb, hr, hml, hown, hts, hlk, hK, hG⟩ := id C
  refine lv_lmul hx hb hd ?_
  rw [← lI_mul]
  exact k γ p l e s m args below meth c H locs d0 ls C hd0 hl hS hP
theorem v_ineg {a : Int} (hd : decode mi.2.1 pc = .ok (.ineg, 1)) (k : Vv d mi (pc + 1) lv (.int (iI (-a)) :: st) σ Q) : Vv d mi pc lv (.int (iI a) :: st) σ Q := by
  intro γ p l e s m args below meth c H locs d0 ls C hd0 hl hS hP
  obtain ⟨hx, hb, hr, hml, hown, hts, hlk, hK, hG⟩ := id C
  refine lv_ineg hx hb hd ?_
  rw [← iI_neg]
  exact k γ p l e s m args below meth c H locs d0 ls C hd0 hl hS hP
theorem v_iand {a b z : Int} (hd : decode mi.2.1 pc = .ok (.iand, 1)) (hz : iI a &&& iI b = iI z) (k : Vv d mi (pc + 1) lv (.int (iI z) :: st) σ Q) : Vv d mi pc lv (.int (iI b) :: .int (iI a) :: st) σ Q := by
  intro γ p l e s m args below meth c H locs d0 ls C hd0 hl hS hP
  obtain ⟨hx, hb, hr, hml, hown, hts, hlk, hK, hG⟩ := id C
  refine lv_iand hx hb hd ?_
  rw [hz]
  exact k γ p l e s m args below meth c H locs d0 ls C hd0 hl hS hP
theorem v_ior {a b z : Int} (hd : decode mi.2.1 pc = .ok (.ior, 1)) (hz : iI a ||| iI b = iI z) (k : Vv d mi (pc + 1) lv (.int (iI z) :: st) σ Q) : Vv d mi pc lv (.int (iI b) :: .int (iI a) :: st) σ Q := by
  intro γ p l e s m args below meth c H locs d0 ls C hd0 hl hS hP
  obtain ⟨hx, hb, hr, hml, hown, hts, hlk, hK, hG⟩ := id C
  refine lv_ior hx hb hd ?_
  rw [hz]
  exact k γ p l e s m args below meth c H locs d0 ls C hd0 hl hS hP
theorem v_ishl {a b z : Int} (hd : decode mi.2.1 pc = .ok (.ishl, 1)) (hz : iI a <<< (iI b &&& 31) = iI z) (k : Vv d mi (pc + 1) lv (.int (iI z) :: st) σ Q) : Vv d mi pc lv (.int (iI b) :: .int (iI a) :: st) σ Q := by
  intro γ p l e s m args below meth c H locs d0 ls C hd0 hl hS hP
  obtain ⟨hx, hb, hr, hml, hown, hts, hlk, hK, hG⟩ := id C
  refine lv_ishl hx hb hd ?_
  rw [hz]
  exact k γ p l e s m args below meth c H locs d0 ls C hd0 hl hS hP
theorem v_ishr {a b z : Int} (hd : decode mi.2.1 pc = .ok (.ishr, 1)) (hz : iI a >>> (iI b &&& 31) = iI z) (k : Vv d mi (pc + 1) lv (.int (iI z) :: st) σ Q) : Vv d mi pc lv (.int (iI b) :: .int (iI a) :: st) σ Q := by
  intro γ p l e s m args below meth c H locs d0 ls C hd0 hl hS hP
  obtain ⟨hx, hb, hr, hml, hown, hts, hlk, hK, hG⟩ := id C
  refine lv_ishr hx hb hd ?_
  rw [hz]
  exact k γ p l e s m args below meth c H locs d0 ls C hd0 hl hS hP
theorem v_land {a b z : Int} (hd : decode mi.2.1 pc = .ok (.land, 1)) (hz : lI a &&& lI b = lI z) (k : Vv d mi (pc + 1) lv (.long (lI z) :: st) σ Q) : Vv d mi pc lv (.long (lI b) :: .long (lI a) :: st) σ Q := by
  intro γ p l e s m args below meth c H locs d0 ls C hd0 hl hS hP
  obtain ⟨hx, hb, hr, hml, hown, hts, hlk, hK, hG⟩ := id C
  refine lv_land hx hb hd ?_
  rw [hz]
  exact k γ p l e s m args below meth c H locs d0 ls C hd0 hl hS hP
theorem v_lor {a b z : Int} (hd : decode mi.2.1 pc = .ok (.lor, 1)) (hz : lI a ||| lI b = lI z) (k : Vv d mi (pc + 1) lv (.long (lI z) :: st) σ Q) : Vv d mi pc lv (.long (lI b) :: .long (lI a) :: st) σ Q := by
  intro γ p l e s m args below meth c H locs d0 ls C hd0 hl hS hP
  obtain ⟨hx, hb, hr, hml, hown, hts, hlk, hK, hG⟩ := id C
  refine lv_lor hx hb hd ?_
  rw [hz]
  exact k γ p l e s m args below meth c H locs d0 ls C hd0 hl hS hP
theorem v_lshl {a b z : Int} (hd : decode mi.2.1 pc = .ok (.lshl, 1)) (hz : lI a <<< ((iI b).toInt64 &&& 63) = lI z) (k : Vv d mi (pc + 1) lv (.long (lI z) :: st) σ Q) : Vv d mi pc lv (.int (iI b) :: .long (lI a) :: st) σ Q := by
  intro γ p l e s m args below meth c H locs d0 ls C hd0 hl hS hP
  obtain ⟨hx, hb, hr, hml, hown, hts, hlk, hK, hG⟩ := id C
  refine lv_lshl hx hb hd hz ?_
  exact k γ p l e s m args below meth c H locs d0 ls C hd0 hl hS hP
theorem v_lshr {a b z : Int} (hd : decode mi.2.1 pc = .ok (.lshr, 1)) (hz : lI a >>> ((iI b).toInt64 &&& 63) = lI z) (k : Vv d mi (pc + 1) lv (.long (lI z) :: st) σ Q) : Vv d mi pc lv (.int (iI b) :: .long (lI a) :: st) σ Q := by
  intro γ p l e s m args below meth c H locs d0 ls C hd0 hl hS hP
  obtain ⟨hx, hb, hr, hml, hown, hts, hlk, hK, hG⟩ := id C
  refine lv_lshr hx hb hd hz ?_
  exact k γ p l e s m args below meth c H locs d0 ls C hd0 hl hS hP
theorem v_lushr {a b z : Int} (hd : decode mi.2.1 pc = .ok (.lushr, 1)) (hz : ((lI a).toUInt64 >>> ((iI b).toInt64.toUInt64 &&& Int64.toUInt64 63)).toInt64 = lI z) (k : Vv d mi (pc + 1) lv (.long (lI z) :: st) σ Q) : Vv d mi pc lv (.int (iI b) :: .long (lI a) :: st) σ Q := by
  intro γ p l e s m args below meth c H locs d0 ls C hd0 hl hS hP
  obtain ⟨hx, hb, hr, hml, hown, hts, hlk, hK, hG⟩ := id C
  refine lv_lushr hx hb hd hz ?_
  exact k γ p l e s m args below meth c H locs d0 ls C hd0 hl hS hP
theorem v_idiv {a b z : Int} (hd : decode mi.2.1 pc = .ok (.idiv, 1)) (hne : ¬ iI b = 0) (hz : iI a / iI b = iI z) (k : Vv d mi (pc + 1) lv (.int (iI z) :: st) σ Q) : Vv d mi pc lv (.int (iI b) :: .int (iI a) :: st) σ Q := by
  intro γ p l e s m args below meth c H locs d0 ls C hd0 hl hS hP
  obtain ⟨hx, hb, hr, hml, hown, hts, hlk, hK, hG⟩ := id C
  refine lv_idiv hx hb hd hne ?_
  rw [hz]
  exact k γ p l e s m args below meth c H locs d0 ls C hd0 hl hS hP
theorem v_irem {a b z : Int} (hd : decode mi.2.1 pc = .ok (.irem, 1)) (hne : ¬ iI b = 0) (hz : iI a - iI a / iI b * iI b = iI z) (k : Vv d mi (pc + 1) lv (.int (iI z) :: st) σ Q) : Vv d mi pc lv (.int (iI b) :: .int (iI a) :: st) σ Q := by
  intro γ p l e s m args below meth c H locs d0 ls C hd0 hl hS hP
  obtain ⟨hx, hb, hr, hml, hown, hts, hlk, hK, hG⟩ := id C
  refine lv_irem hx hb hd hne ?_
  rw [hz]
  exact k γ p l e s m args below meth c H locs d0 ls C hd0 hl hS hP
theorem v_i2l {a : Int} (hd : decode mi.2.1 pc = .ok (.i2l, 1)) (ha : -2147483648 ≤ a ∧ a < 2147483648) (k : Vv d mi (pc + 1) lv (.long (lI a) :: st) σ Q) : Vv d mi pc lv (.int (iI a) :: st) σ Q := by
  intro γ p l e s m args below meth c H locs d0 ls C hd0 hl hS hP
  obtain ⟨hx, hb, hr, hml, hown, hts, hlk, hK, hG⟩ := id C
  refine lv_i2l hx hb hd (iI_toL ha.1 ha.2) ?_
  exact k γ p l e s m args below meth c H locs d0 ls C hd0 hl hS hP
theorem v_l2i {a : Int} (hd : decode mi.2.1 pc = .ok (.l2i, 1)) (k : Vv d mi (pc + 1) lv (.int (iI a) :: st) σ Q) : Vv d mi pc lv (.long (lI a) :: st) σ Q := by
  intro γ p l e s m args below meth c H locs d0 ls C hd0 hl hS hP
  obtain ⟨hx, hb, hr, hml, hown, hts, hlk, hK, hG⟩ := id C
  refine lv_l2i hx hb hd (lI_toI a) ?_
  exact k γ p l e s m args below meth c H locs d0 ls C hd0 hl hS hP
theorem v_i2b {a : Int} (hd : decode mi.2.1 pc = .ok (.i2b, 1)) (ha : -128 ≤ a ∧ a < 128) (k : Vv d mi (pc + 1) lv (.int (iI a) :: st) σ Q) : Vv d mi pc lv (.int (iI a) :: st) σ Q := by
  intro γ p l e s m args below meth c H locs d0 ls C hd0 hl hS hP
  obtain ⟨hx, hb, hr, hml, hown, hts, hlk, hK, hG⟩ := id C
  refine lv_i2b hx hb hd (i2b9 ha) ?_
  exact k γ p l e s m args below meth c H locs d0 ls C hd0 hl hS hP
theorem v_i2f {a : Int} (hd : decode mi.2.1 pc = .ok (.i2f, 1)) (k : Vv d mi (pc + 1) lv (.float (FP.i2f (iI a)) :: st) σ Q) : Vv d mi pc lv (.int (iI a) :: st) σ Q := by
  intro γ p l e s m args below meth c H locs d0 ls C hd0 hl hS hP
  obtain ⟨hx, hb, hr, hml, hown, hts, hlk, hK, hG⟩ := id C
  refine lv_i2f hx hb hd ?_
  exact k γ p l e s m args below meth c H locs d0 ls C hd0 hl hS hP
theorem v_i2d {a : Int} (hd : decode mi.2.1 pc = .ok (.i2d, 1)) (k : Vv d mi (pc + 1) lv (.double (FP.i2d (iI a)) :: st) σ Q) : Vv d mi pc lv (.int (iI a) :: st) σ Q := by
  intro γ p l e s m args below meth c H locs d0 ls C hd0 hl hS hP
  obtain ⟨hx, hb, hr, hml, hown, hts, hlk, hK, hG⟩ := id C
  refine lv_i2d hx hb hd ?_
  exact k γ p l e s m args below meth c H locs d0 ls C hd0 hl hS hP
theorem v_l2f {a : Int} (hd : decode mi.2.1 pc = .ok (.l2f, 1)) (k : Vv d mi (pc + 1) lv (.float (FP.l2f (lI a)) :: st) σ Q) : Vv d mi pc lv (.long (lI a) :: st) σ Q := by
  intro γ p l e s m args below meth c H locs d0 ls C hd0 hl hS hP
  obtain ⟨hx, hb, hr, hml, hown, hts, hlk, hK, hG⟩ := id C
  refine lv_l2f hx hb hd ?_
  exact k γ p l e s m args below meth c H locs d0 ls C hd0 hl hS hP
theorem v_l2d {a : Int} (hd : decode mi.2.1 pc = .ok (.l2d, 1)) (k : Vv d mi (pc + 1) lv (.double (FP.l2d (lI a)) :: st) σ Q) : Vv d mi pc lv (.long (lI a) :: st) σ Q := by
  intro γ p l e s m args below meth c H locs d0 ls C hd0 hl hS hP
  obtain ⟨hx, hb, hr, hml, hown, hts, hlk, hK, hG⟩ := id C
  refine lv_l2d hx hb hd ?_
  exact k γ p l e s m args below meth c H locs d0 ls C hd0 hl hS hP
theorem v_f2l {a : UInt32} {z : Int} (hd : decode mi.2.1 pc = .ok (.f2l, 1)) (hz : FP.f2l a = lI z) (k : Vv d mi (pc + 1) lv (.long (lI z) :: st) σ Q) : Vv d mi pc lv (.float a :: st) σ Q := by
  intro γ p l e s m args below meth c H locs d0 ls C hd0 hl hS hP
  obtain ⟨hx, hb, hr, hml, hown, hts, hlk, hK, hG⟩ := id C
  refine lv_f2l hx hb hd ?_
  rw [hz]
  exact k γ p l e s m args below meth c H locs d0 ls C hd0 hl hS hP
theorem v_d2l {a : UInt64} {z : Int} (hd : decode mi.2.1 pc = .ok (.d2l, 1)) (hz : FP.d2l a = lI z) (k : Vv d mi (pc + 1) lv (.long (lI z) :: st) σ Q) : Vv d mi pc lv (.double a :: st) σ Q := by
  intro γ p l e s m args below meth c H locs d0 ls C hd0 hl hS hP
  obtain ⟨hx, hb, hr, hml, hown, hts, hlk, hK, hG⟩ := id C
  refine lv_d2l hx hb hd ?_
  rw [hz]
  exact k γ p l e s m args below meth c H locs d0 ls C hd0 hl hS hP
theorem v_d2i {a : UInt64} {z : Int} (hd : decode mi.2.1 pc = .ok (.d2i, 1)) (hz : FP.d2i a = iI z) (k : Vv d mi (pc + 1) lv (.int (iI z) :: st) σ Q) : Vv d mi pc lv (.double a :: st) σ Q := by
  intro γ p l e s m args below meth c H locs d0 ls C hd0 hl hS hP
  obtain ⟨hx, hb, hr, hml, hown, hts, hlk, hK, hG⟩ := id C
  refine lv_d2i hx hb hd ?_
  rw [hz]
  exact k γ p l e s m args below meth c H locs d0 ls C hd0 hl hS hP
theorem v_fadd {a b : UInt32} (hd : decode mi.2.1 pc = .ok (.fadd, 1)) (k : ∀ r : UInt32, alike32 r (FP.fadd a b) = true → Vv d mi (pc + 1) lv (.float r :: st) σ Q) : Vv d mi pc lv (.float b :: .float a :: st) σ Q := by
  intro γ p l e s m args below meth c H locs d0 ls C hd0 hl hS hP
  obtain ⟨hx, hb, hr, hml, hown, hts, hlk, hK, hG⟩ := id C
  refine lv_fadd_any hd0 lw_bits hx hb hd (fun r d1 hal hd1 => ?_)
  exact k r hal γ p l e s m args below meth c H locs d1 ls C hd1 hl hS hP
theorem v_fmul {a b : UInt32} (hd : decode mi.2.1 pc = .ok (.fmul, 1)) (k : ∀ r : UInt32, alike32 r (FP.fmul a b) = true → Vv d mi (pc + 1) lv (.float r :: st) σ Q) : Vv d mi pc lv (.float b :: .float a :: st) σ Q := by
  intro γ p l e s m args below meth c H locs d0 ls C hd0 hl hS hP
  obtain ⟨hx, hb, hr, hml, hown, hts, hlk, hK, hG⟩ := id C
  refine lv_fmul_any hd0 lw_bits hx hb hd (fun r d1 hal hd1 => ?_)
  exact k r hal γ p l e s m args below meth c H locs d1 ls C hd1 hl hS hP
theorem v_fdiv {a b : UInt32} (hd : decode mi.2.1 pc = .ok (.fdiv, 1)) (k : ∀ r : UInt32, alike32 r (FP.fdiv a b) = true → Vv d mi (pc + 1) lv (.float r :: st) σ Q) : Vv d mi pc lv (.float b :: .float a :: st) σ Q := by
  intro γ p l e s m args below meth c H locs d0 ls C hd0 hl hS hP
  obtain ⟨hx, hb, hr, hml, hown, hts, hlk, hK, hG⟩ := id C
  refine lv_fdiv_any hd0 lw_bits hx hb hd (fun r d1 hal hd1 => ?_)
  exact k r hal γ p l e s m args below meth c H locs d1 ls C hd1 hl hS hP
theorem v_dadd {a b : UInt64} (hd : decode mi.2.1 pc = .ok (.dadd, 1)) (k : ∀ r : UInt64, alike64 r (FP.dadd a b) = true → Vv d mi (pc + 1) lv (.double r :: st) σ Q) : Vv d mi pc lv (.double b :: .double a :: st) σ Q := by
  intro γ p l e s m args below meth c H locs d0 ls C hd0 hl hS hP
  obtain ⟨hx, hb, hr, hml, hown, hts, hlk, hK, hG⟩ := id C
  refine lv_dadd_any hd0 lw_bits hx hb hd (fun r d1 hal hd1 => ?_)
  exact k r hal γ p l e s m args below meth c H locs d1 ls C hd1 hl hS hP
theorem v_dsub {a b : UInt64} (hd : decode mi.2.1 pc = .ok (.dsub, 1)) (k : ∀ r : UInt64, alike64 r (FP.dsub a b) = true → Vv d mi (pc + 1) lv (.double r :: st) σ Q) : Vv d mi pc lv (.double b :: .double a :: st) σ Q := by
  intro γ p l e s m args below meth c H locs d0 ls C hd0 hl hS hP
  obtain ⟨hx, hb, hr, hml, hown, hts, hlk, hK, hG⟩ := id C
  refine lv_dsub_any hd0 lw_bits hx hb hd (fun r d1 hal hd1 => ?_)
  exact k r hal γ p l e s m args below meth c H locs d1 ls C hd1 hl hS hP
theorem v_dmul {a b : UInt64} (hd : decode mi.2.1 pc = .ok (.dmul, 1)) (k : ∀ r : UInt64, alike64 r (FP.dmul a b) = true → Vv d mi (pc + 1) lv (.double r :: st) σ Q) : Vv d mi pc lv (.double b :: .double a :: st) σ Q := by
  intro γ p l e s m args below meth c H locs d0 ls C hd0 hl hS hP
  obtain ⟨hx, hb, hr, hml, hown, hts, hlk, hK, hG⟩ := id C
  refine lv_dmul_any hd0 lw_bits hx hb hd (fun r d1 hal hd1 => ?_)
  exact k r hal γ p l e s m args below meth c H locs d1 ls C hd1 hl hS hP
theorem v_ddiv {a b : UInt64} (hd : decode mi.2.1 pc = .ok (.ddiv, 1)) (k : ∀ r : UInt64, alike64 r (FP.ddiv a b) = true → Vv d mi (pc + 1) lv (.double r :: st) σ Q) : Vv d mi pc lv (.double b :: .double a :: st) σ Q := by
  intro γ p l e s m args below meth c H locs d0 ls C hd0 hl hS hP
  obtain ⟨hx, hb, hr, hml, hown, hts, hlk, hK, hG⟩ := id C
  refine lv_ddiv_any hd0 lw_bits hx hb hd (fun r d1 hal hd1 => ?_)
  exact k r hal γ p l e s m args below meth c H locs d1 ls C hd1 hl hS hP
theorem v_f2d {a : UInt32} (hd : decode mi.2.1 pc = .ok (.f2d, 1)) (k : ∀ r : UInt64, alike64 r (FP.f2d a) = true → Vv d mi (pc + 1) lv (.double r :: st) σ Q) : Vv d mi pc lv (.float a :: st) σ Q := by
  intro γ p l e s m args below meth c H locs d0 ls C hd0 hl hS hP
  obtain ⟨hx, hb, hr, hml, hown, hts, hlk, hK, hG⟩ := id C
  refine lv_f2d_any hd0 lw_bits hx hb hd (fun r d1 hal hd1 => ?_)
  exact k r hal γ p l e s m args below meth c H locs d1 ls C hd1 hl hS hP
theorem v_dup {v : Value} (hd : decode mi.2.1 pc = .ok (.dup, 1)) (hc : v.category = 1) (k : Vv d mi (pc + 1) lv (v :: v :: st) σ Q) : Vv d mi pc lv (v :: st) σ Q := by
  intro γ p l e s m args below meth c H locs d0 ls C hd0 hl hS hP
  obtain ⟨hx, hb, hr, hml, hown, hts, hlk, hK, hG⟩ := id C
  refine lv_dup hx hb hd (by rw [trv_cat]; exact hc) ?_
  exact k γ p l e s m args below meth c H locs d0 ls C hd0 hl hS hP
theorem v_pop {v : Value} (hd : decode mi.2.1 pc = .ok (.pop, 1)) (hc : v.category = 1) (k : Vv d mi (pc + 1) lv (st) σ Q) : Vv d mi pc lv (v :: st) σ Q := by
  intro γ p l e s m args below meth c H locs d0 ls C hd0 hl hS hP
  obtain ⟨hx, hb, hr, hml, hown, hts, hlk, hK, hG⟩ := id C
  refine lv_pop hx hb hd (by rw [trv_cat]; exact hc) ?_
  exact k γ p l e s m args below meth c H locs d0 ls C hd0 hl hS hP
theorem v_dup2 {v w : Value} (hd : decode mi.2.1 pc = .ok (.dup2, 1)) (hc : v.category = 1) (hc2 : w.category = 1) (k : Vv d mi (pc + 1) lv (v :: w :: v :: w :: st) σ Q) : Vv d mi pc lv (v :: w :: st) σ Q := by
  intro γ p l e s m args below meth c H locs d0 ls C hd0 hl hS hP
  obtain ⟨hx, hb, hr, hml, hown, hts, hlk, hK, hG⟩ := id C
  refine lv_dup2_11 hx hb hd (by rw [trv_cat]; exact hc) (by rw [trv_cat]; exact hc2) ?_
  exact k γ p l e s m args below meth c H locs d0 ls C hd0 hl hS hP
theorem v_icmp_eq {a b : Int} {off : Int} {tgt : Nat} (hd : decode mi.2.1 pc = .ok (.if_icmp .eq off, 3)) (ht : (pc : Int) + off = (tgt : Int)) (h : (-2147483648 ≤ a ∧ a < 2147483648) ∧ (-2147483648 ≤ b ∧ b < 2147483648)) (kt : a = b → Vv d mi tgt lv st σ Q) (kf : a ≠ b → Vv d mi (pc + 3) lv st σ Q) : Vv d mi pc lv (.int (iI b) :: .int (iI a) :: st) σ Q := by
  intro γ p l e s m args below meth c H locs d0 ls C hd0 hl hS hP
  obtain ⟨hx, hb, hr, hml, hown, hts, hlk, hK, hG⟩ := id C
  refine lv_icmp_eq hx hb hd ht (fun q => ?_) (fun q => ?_)
  · exact kt ((iI_eq h).mp q) γ p l e s m args below meth c H locs d0 ls C hd0 hl hS hP
  · exact kf (fun e => q ((iI_eq h).mpr e)) γ p l e s m args below meth c H locs d0 ls C hd0 hl hS hP
theorem v_if_eq {a : Int} {off : Int} {tgt : Nat} (hd : decode mi.2.1 pc = .ok (.ifCond .eq off, 3)) (ht : (pc : Int) + off = (tgt : Int)) (h0 : (-2147483648 ≤ a ∧ a < 2147483648)) (kt : a = 0 → Vv d mi tgt lv st σ Q) (kf : a ≠ 0 → Vv d mi (pc + 3) lv st σ Q) : Vv d mi pc lv (.int (iI a) :: st) σ Q := by
  intro γ p l e s m args below meth c H locs d0 ls C hd0 hl hS hP
  obtain ⟨hx, hb, hr, hml, hown, hts, hlk, hK, hG⟩ := id C
  have h : (-2147483648 ≤ a ∧ a < 2147483648) ∧ (-2147483648 ≤ (0 : Int) ∧ (0 : Int) < 2147483648) := ⟨h0, by decide⟩
  refine lv_if_eq hx hb hd ht (fun q => ?_) (fun q => ?_)
  · exact kt ((iI_eq h).mp q) γ p l e s m args below meth c H locs d0 ls C hd0 hl hS hP
  · exact kf (fun e => q ((iI_eq h).mpr e)) γ p l e s m args below meth c H locs d0 ls C hd0 hl hS hP
theorem v_icmp_ne {a b : Int} {off : Int} {tgt : Nat} (hd : decode mi.2.1 pc = .ok (.if_icmp .ne off, 3)) (ht : (pc : Int) + off = (tgt : Int)) (h : (-2147483648 ≤ a ∧ a < 2147483648) ∧ (-2147483648 ≤ b ∧ b < 2147483648)) (kt : a ≠ b → Vv d mi tgt lv st σ Q) (kf : a = b → Vv d mi (pc + 3) lv st σ Q) : Vv d mi pc lv (.int (iI b) :: .int (iI a) :: st) σ Q := by
  intro γ p l e s m args below meth c H locs d0 ls C hd0 hl hS hP
  obtain ⟨hx, hb, hr, hml, hown, hts, hlk, hK, hG⟩ := id C
  refine lv_icmp_ne hx hb hd ht (fun q => ?_) (fun q => ?_)
  · exact kt (fun e => q ((iI_eq h).mpr e)) γ p l e s m args below meth c H locs d0 ls C hd0 hl hS hP
  · exact kf ((iI_eq h).mp q) γ p l e s m args below meth c H locs d0 ls C hd0 hl hS hP
theorem v_if_ne {a : Int} {off : Int} {tgt : Nat} (hd : decode mi.2.1 pc = .ok (.ifCond .ne off, 3)) (ht : (pc : Int) + off = (tgt : Int)) (h0 : (-2147483648 ≤ a ∧ a < 2147483648)) (kt : a ≠ 0 → Vv d mi tgt lv st σ Q) (kf : a = 0 → Vv d mi (pc + 3) lv st σ Q) : Vv d mi pc lv (.int (iI a) :: st) σ Q := by
  intro γ p l e s m args below meth c H locs d0 ls C hd0 hl hS hP
  obtain ⟨hx, hb, hr, hml, hown, hts, hlk, hK, hG⟩ := id C
  have h : (-2147483648 ≤ a ∧ a < 2147483648) ∧ (-2147483648 ≤ (0 : Int) ∧ (0 : Int) < 2147483648) := ⟨h0, by decide⟩
  refine lv_if_ne hx hb hd ht (fun q => ?_) (fun q => ?_)
  · exact kt (fun e => q ((iI_eq h).mpr e)) γ p l e s m args below meth c H locs d0 ls C hd0 hl hS hP
  · exact kf ((iI_eq h).mp q) γ p l e s m args below meth c H locs d0 ls C hd0 hl hS hP
theorem v_icmp_lt {a b : Int} {off : Int} {tgt : Nat} (hd : decode mi.2.1 pc = .ok (.if_icmp .lt off, 3)) (ht : (pc : Int) + off = (tgt : Int)) (h : (-2147483648 ≤ a ∧ a < 2147483648) ∧ (-2147483648 ≤ b ∧ b < 2147483648)) (kt : a < b → Vv d mi tgt lv st σ Q) (kf : b ≤ a → Vv d mi (pc + 3) lv st σ Q) : Vv d mi pc lv (.int (iI b) :: .int (iI a) :: st) σ Q := by
  intro γ p l e s m args below meth c H locs d0 ls C hd0 hl hS hP
  obtain ⟨hx, hb, hr, hml, hown, hts, hlk, hK, hG⟩ := id C
  refine lv_icmp_lt hx hb hd ht (fun q => ?_) (fun q => ?_)
  · exact kt ((iI_lt h).mp q) γ p l e s m args below meth c H locs d0 ls C hd0 hl hS hP
  · exact kf (Int.not_lt.mp (fun e => q ((iI_lt h).mpr e))) γ p l e s m args below meth c H locs d0 ls C hd0 hl hS hP
theorem v_if_lt {a : Int} {off : Int} {tgt : Nat} (hd : decode mi.2.1 pc = .ok (.ifCond .lt off, 3)) (ht : (pc : Int) + off = (tgt : Int)) (h0 : (-2147483648 ≤ a ∧ a < 2147483648)) (kt : a < 0 → Vv d mi tgt lv st σ Q) (kf : 0 ≤ a → Vv d mi (pc + 3) lv st σ Q) : Vv d mi pc lv (.int (iI a) :: st) σ Q := by
  intro γ p l e s m args below meth c H locs d0 ls C hd0 hl hS hP
  obtain ⟨hx, hb, hr, hml, hown, hts, hlk, hK, hG⟩ := id C
  have h : (-2147483648 ≤ a ∧ a < 2147483648) ∧ (-2147483648 ≤ (0 : Int) ∧ (0 : Int) < 2147483648) := ⟨h0, by decide⟩
  refine lv_if_lt hx hb hd ht (fun q => ?_) (fun q => ?_)
  · exact kt ((iI_lt h).mp q) γ p l e s m args below meth c H locs d0 ls C hd0 hl hS hP
  · exact kf (Int.not_lt.mp (fun e => q ((iI_lt h).mpr e))) γ p l e s m args below meth c H locs d0 ls C hd0 hl hS hP
theorem v_icmp_ge {a b : Int} {off : Int} {tgt : Nat} (hd : decode mi.2.1 pc = .ok (.if_icmp .ge off, 3)) (ht : (pc : Int) + off = (tgt : Int)) (h : (-2147483648 ≤ a ∧ a < 2147483648) ∧ (-2147483648 ≤ b ∧ b < 2147483648)) (kt : b ≤ a → Vv d mi tgt lv st σ Q) (kf : a < b → Vv d mi (pc + 3) lv st σ Q) : Vv d mi pc lv (.int (iI b) :: .int (iI a) :: st) σ Q := by
  intro γ p l e s m args below meth c H locs d0 ls C hd0 hl hS hP
  obtain ⟨hx, hb, hr, hml, hown, hts, hlk, hK, hG⟩ := id C
  refine lv_icmp_ge hx hb hd ht (fun q => ?_) (fun q => ?_)
  · exact kt ((iI_le ⟨h.2, h.1⟩).mp q) γ p l e s m args below meth c H locs d0 ls C hd0 hl hS hP
  · exact kf (Int.not_le.mp (fun e => q ((iI_le ⟨h.2, h.1⟩).mpr e))) γ p l e s m args below meth c H locs d0 ls C hd0 hl hS hP
theorem v_if_ge {a : Int} {off : Int} {tgt : Nat} (hd : decode mi.2.1 pc = .ok (.ifCond .ge off, 3)) (ht : (pc : Int) + off = (tgt : Int)) (h0 : (-2147483648 ≤ a ∧ a < 2147483648)) (kt : 0 ≤ a → Vv d mi tgt lv st σ Q) (kf : a < 0 → Vv d mi (pc + 3) lv st σ Q) : Vv d mi pc lv (.int (iI a) :: st) σ Q := by
  intro γ p l e s m args below meth c H locs d0 ls C hd0 hl hS hP
  obtain ⟨hx, hb, hr, hml, hown, hts, hlk, hK, hG⟩ := id C
  have h : (-2147483648 ≤ a ∧ a < 2147483648) ∧ (-2147483648 ≤ (0 : Int) ∧ (0 : Int) < 2147483648) := ⟨h0, by decide⟩
  refine lv_if_ge hx hb hd ht (fun q => ?_) (fun q => ?_)
  · exact kt ((iI_le ⟨h.2, h.1⟩).mp q) γ p l e s m args below meth c H locs d0 ls C hd0 hl hS hP
  · exact kf (Int.not_le.mp (fun e => q ((iI_le ⟨h.2, h.1⟩).mpr e))) γ p l e s m args below meth c H locs d0 ls C hd0 hl hS hP
theorem v_icmp_gt {a b : Int} {off : Int} {tgt : Nat} (hd : decode mi.2.1 pc = .ok (.if_icmp .gt off, 3)) (ht : (pc : Int) + off = (tgt : Int)) (h : (-2147483648 ≤ a ∧ a < 2147483648) ∧ (-2147483648 ≤ b ∧ b < 2147483648)) (kt : b < a → Vv d mi tgt lv st σ Q) (kf : a ≤ b → Vv d mi (pc + 3) lv st σ Q) : Vv d mi pc lv (.int (iI b) :: .int (iI a) :: st) σ Q := by
  intro γ p l e s m args below meth c H locs d0 ls C hd0 hl hS hP
  obtain ⟨hx, hb, hr, hml, hown, hts, hlk, hK, hG⟩ := id C
  refine lv_icmp_gt hx hb hd ht (fun q => ?_) (fun q => ?_)
  · exact kt ((iI_lt ⟨h.2, h.1⟩).mp q) γ p l e s m args below meth c H locs d0 ls C hd0 hl hS hP
  · exact kf (Int.not_lt.mp (fun e => q ((iI_lt ⟨h.2, h.1⟩).mpr e))) γ p l e s m args below meth c H locs d0 ls C hd0 hl hS hP
theorem v_if_gt {a : Int} {off : Int} {tgt : Nat} (hd : decode mi.2.1 pc = .ok (.ifCond .gt off, 3)) (ht : (pc : Int) + off = (tgt : Int)) (h0 : (-2147483648 ≤ a ∧ a < 2147483648)) (kt : 0 < a → Vv d mi tgt lv st σ Q) (kf : a ≤ 0 → Vv d mi (pc + 3) lv st σ Q) : Vv d mi pc lv (.int (iI a) :: st) σ Q := by
  intro γ p l e s m args below meth c H locs d0 ls C hd0 hl hS hP
  obtain ⟨hx, hb, hr, hml, hown, hts, hlk, hK, hG⟩ := id C
  have h : (-2147483648 ≤ a ∧ a < 2147483648) ∧ (-2147483648 ≤ (0 : Int) ∧ (0 : Int) < 2147483648) := ⟨h0, by decide⟩
  refine lv_if_gt hx hb hd ht (fun q => ?_) (fun q => ?_)
  · exact kt ((iI_lt ⟨h.2, h.1⟩).mp q) γ p l e s m args below meth c H locs d0 ls C hd0 hl hS hP
  · exact kf (Int.not_lt.mp (fun e => q ((iI_lt ⟨h.2, h.1⟩).mpr e))) γ p l e s m args below meth c H locs d0 ls C hd0 hl hS hP
theorem v_icmp_le {a b : Int} {off : Int} {tgt : Nat} (hd : decode mi.2.1 pc = .ok (.if_icmp .le off, 3)) (ht : (pc : Int) + off = (tgt : Int)) (h : (-2147483648 ≤ a ∧ a < 2147483648) ∧ (-2147483648 ≤ b ∧ b < 2147483648)) (kt : a ≤ b → Vv d mi tgt lv st σ Q) (kf : b < a → Vv d mi (pc + 3) lv st σ Q) : Vv d mi pc lv (.int (iI b) :: .int (iI a) :: st) σ Q := by
  intro γ p l e s m args below meth c H locs d0 ls C hd0 hl hS hP
  obtain ⟨hx, hb, hr, hml, hown, hts, hlk, hK, hG⟩ := id C
  refine lv_icmp_le hx hb hd ht (fun q => ?_) (fun q => ?_)
  · exact kt ((iI_le h).mp q) γ p l e s m args below meth c H locs d0 ls C hd0 hl hS hP
  · exact kf (Int.not_le.mp (fun e => q ((iI_le h).mpr e))) γ p l e s m args below meth c H locs d0 ls C hd0 hl hS hP
theorem v_if_le {a : Int} {off : Int} {tgt : Nat} (hd : decode mi.2.1 pc = .ok (.ifCond .le off, 3)) (ht : (pc : Int) + off = (tgt : Int)) (h0 : (-2147483648 ≤ a ∧ a < 2147483648)) (kt : a ≤ 0 → Vv d mi tgt lv st σ Q) (kf : 0 < a → Vv d mi (pc + 3) lv st σ Q) : Vv d mi pc lv (.int (iI a) :: st) σ Q := by
  intro γ p l e s m args below meth c H locs d0 ls C hd0 hl hS hP
  obtain ⟨hx, hb, hr, hml, hown, hts, hlk, hK, hG⟩ := id C
  have h : (-2147483648 ≤ a ∧ a < 2147483648) ∧ (-2147483648 ≤ (0 : Int) ∧ (0 : Int) < 2147483648) := ⟨h0, by decide⟩
  refine lv_if_le hx hb hd ht (fun q => ?_) (fun q => ?_)
  · exact kt ((iI_le h).mp q) γ p l e s m args below meth c H locs d0 ls C hd0 hl hS hP
  · exact kf (Int.not_le.mp (fun e => q ((iI_le h).mpr e))) γ p l e s m args below meth c H locs d0 ls C hd0 hl hS hP
theorem v_goto {off : Int} {tgt : Nat} (hd : decode mi.2.1 pc = .ok (.goto off, 3)) (ht : (pc : Int) + off = (tgt : Int)) (k : Vv d mi tgt lv st σ Q) : Vv d mi pc lv st σ Q := by
  intro γ p l e s m args below meth c H locs d0 ls C hd0 hl hS hP
  obtain ⟨hx, hb, hr, hml, hown, hts, hlk, hK, hG⟩ := id C
  exact lv_goto hx hb hd ht (k γ p l e s m args below meth c H locs d0 ls C hd0 hl hS hP)
theorem v_lcmp_eq {a b : Int} {off : Int} {tgt : Nat} (hd : decode mi.2.1 pc = .ok (.lcmp, 1)) (hd2 : decode mi.2.1 (pc + 1) = .ok (.ifCond .eq off, 3)) (ht : ((pc + 1 : Nat) : Int) + off = (tgt : Int)) (h : (-9223372036854775808 ≤ a ∧ a < 9223372036854775808) ∧ (-9223372036854775808 ≤ b ∧ b < 9223372036854775808)) (kt : a = b → Vv d mi tgt lv st σ Q) (kf : a ≠ b → Vv d mi (pc + 4) lv st σ Q) : Vv d mi pc lv (.long (lI b) :: .long (lI a) :: st) σ Q := by
  intro γ p l e s m args below meth c H locs d0 ls C hd0 hl hS hP
  obtain ⟨hx, hb, hr, hml, hown, hts, hlk, hK, hG⟩ := id C
  refine W.lcmp hx hb hd ?_
  refine lv_if_eq hx hb hd2 ht (fun q => ?_) (fun q => ?_)
  · exact kt ((lc9_eq h).mp q) γ p l e s m args below meth c H locs d0 ls C hd0 hl hS hP
  · exact kf (fun e => q ((lc9_eq h).mpr e)) γ p l e s m args below meth c H locs d0 ls C hd0 hl hS hP
theorem v_lcmp_ne {a b : Int} {off : Int} {tgt : Nat} (hd : decode mi.2.1 pc = .ok (.lcmp, 1)) (hd2 : decode mi.2.1 (pc + 1) = .ok (.ifCond .ne off, 3)) (ht : ((pc + 1 : Nat) : Int) + off = (tgt : Int)) (h : (-9223372036854775808 ≤ a ∧ a < 9223372036854775808) ∧ (-9223372036854775808 ≤ b ∧ b < 9223372036854775808)) (kt : a ≠ b → Vv d mi tgt lv st σ Q) (kf : a = b → Vv d mi (pc + 4) lv st σ Q) : Vv d mi pc lv (.long (lI b) :: .long (lI a) :: st) σ Q := by
  intro γ p l e s m args below meth c H locs d0 ls C hd0 hl hS hP
  obtain ⟨hx, hb, hr, hml, hown, hts, hlk, hK, hG⟩ := id C
  refine W.lcmp hx hb hd ?_
  refine lv_if_ne hx hb hd2 ht (fun q => ?_) (fun q => ?_)
  · exact kt (fun e => q ((lc9_eq h).mpr e)) γ p l e s m args below meth c H locs d0 ls C hd0 hl hS hP
  · exact kf ((lc9_eq h).mp q) γ p l e s m args below meth c H locs d0 ls C hd0 hl hS hP
theorem v_lcmp_lt {a b : Int} {off : Int} {tgt : Nat} (hd : decode mi.2.1 pc = .ok (.lcmp, 1)) (hd2 : decode mi.2.1 (pc + 1) = .ok (.ifCond .lt off, 3)) (ht : ((pc + 1 : Nat) : Int) + off = (tgt : Int)) (h : (-9223372036854775808 ≤ a ∧ a < 9223372036854775808) ∧ (-9223372036854775808 ≤ b ∧ b < 9223372036854775808)) (kt : a < b → Vv d mi tgt lv st σ Q) (kf : b ≤ a → Vv d mi (pc + 4) lv st σ Q) : Vv d mi pc lv (.long (lI b) :: .long (lI a) :: st) σ Q := by
  intro γ p l e s m args below meth c H locs d0 ls C hd0 hl hS hP
  obtain ⟨hx, hb, hr, hml, hown, hts, hlk, hK, hG⟩ := id C
  refine W.lcmp hx hb hd ?_
  refine lv_if_lt hx hb hd2 ht (fun q => ?_) (fun q => ?_)
  · exact kt ((lc9_lt h).mp q) γ p l e s m args below meth c H locs d0 ls C hd0 hl hS hP
  · exact kf (Int.not_lt.mp (fun e => q ((lc9_lt h).mpr e))) γ p l e s m args below meth c H locs d0 ls C hd0 hl hS hP
theorem v_lcmp_ge {a b : Int} {off : Int} {tgt : Nat} (hd : decode mi.2.1 pc = .ok (.lcmp, 1)) (hd2 : decode mi.2.1 (pc + 1) = .ok (.ifCond .ge off, 3)) (ht : ((pc + 1 : Nat) : Int) + off = (tgt : Int)) (h : (-9223372036854775808 ≤ a ∧ a < 9223372036854775808) ∧ (-9223372036854775808 ≤ b ∧ b < 9223372036854775808)) (kt : b ≤ a → Vv d mi tgt lv st σ Q) (kf : a < b → Vv d mi (pc + 4) lv st σ Q) : Vv d mi pc lv (.long (lI b) :: .long (lI a) :: st) σ Q := by
  intro γ p l e s m args below meth c H locs d0 ls C hd0 hl hS hP
  obtain ⟨hx, hb, hr, hml, hown, hts, hlk, hK, hG⟩ := id C
  refine W.lcmp hx hb hd ?_
  refine lv_if_ge hx hb hd2 ht (fun q => ?_) (fun q => ?_)
  · exact kt (Int.not_lt.mp (fun e => lc9_nge ((lc9_lt h).mpr e) q)) γ p l e s m args below meth c H locs d0 ls C hd0 hl hS hP
  · exact kf ((lc9_lt h).mp (lc9_ge q)) γ p l e s m args below meth c H locs d0 ls C hd0 hl hS hP
theorem v_lcmp_gt {a b : Int} {off : Int} {tgt : Nat} (hd : decode mi.2.1 pc = .ok (.lcmp, 1)) (hd2 : decode mi.2.1 (pc + 1) = .ok (.ifCond .gt off, 3)) (ht : ((pc + 1 : Nat) : Int) + off = (tgt : Int)) (h : (-9223372036854775808 ≤ a ∧ a < 9223372036854775808) ∧ (-9223372036854775808 ≤ b ∧ b < 9223372036854775808)) (kt : b < a → Vv d mi tgt lv st σ Q) (kf : a ≤ b → Vv d mi (pc + 4) lv st σ Q) : Vv d mi pc lv (.long (lI b) :: .long (lI a) :: st) σ Q := by
  intro γ p l e s m args below meth c H locs d0 ls C hd0 hl hS hP
  obtain ⟨hx, hb, hr, hml, hown, hts, hlk, hK, hG⟩ := id C
  refine W.lcmp hx hb hd ?_
  refine lv_if_gt hx hb hd2 ht (fun q => ?_) (fun q => ?_)
  · exact kt ((lc9_gt h).mp q) γ p l e s m args below meth c H locs d0 ls C hd0 hl hS hP
  · exact kf (Int.not_lt.mp (fun e => q ((lc9_gt h).mpr e))) γ p l e s m args below meth c H locs d0 ls C hd0 hl hS hP
theorem v_lcmp_le {a b : Int} {off : Int} {tgt : Nat} (hd : decode mi.2.1 pc = .ok (.lcmp, 1)) (hd2 : decode mi.2.1 (pc + 1) = .ok (.ifCond .le off, 3)) (ht : ((pc + 1 : Nat) : Int) + off = (tgt : Int)) (h : (-9223372036854775808 ≤ a ∧ a < 9223372036854775808) ∧ (-9223372036854775808 ≤ b ∧ b < 9223372036854775808)) (kt : a ≤ b → Vv d mi tgt lv st σ Q) (kf : b < a → Vv d mi (pc + 4) lv st σ Q) : Vv d mi pc lv (.long (lI b) :: .long (lI a) :: st) σ Q := by
  intro γ p l e s m args below meth c H locs d0 ls C hd0 hl hS hP
  obtain ⟨hx, hb, hr, hml, hown, hts, hlk, hK, hG⟩ := id C
  refine W.lcmp hx hb hd ?_
  refine lv_if_le hx hb hd2 ht (fun q => ?_) (fun q => ?_)
  · exact kt (Int.not_lt.mp (fun e => lc9_nle ((lc9_gt h).mpr e) q)) γ p l e s m args below meth c H locs d0 ls C hd0 hl hS hP
  · exact kf ((lc9_gt h).mp (lc9_le q)) γ p l e s m args below meth c H locs d0 ls C hd0 hl hS hP
theorem v_fcmp_eq {a b : UInt32} {op : CmpOp} {off : Int} {tgt : Nat} (hd : decode mi.2.1 pc = .ok (.fcmp op, 1)) (hd2 : decode mi.2.1 (pc + 1) = .ok (.ifCond .eq off, 3)) (ht : ((pc + 1 : Nat) : Int) + off = (tgt : Int)) (kt : Op.cmpValue (FP.fcmp a b) op = 0 → Vv d mi tgt lv st σ Q) (kf : ¬ Op.cmpValue (FP.fcmp a b) op = 0 → Vv d mi (pc + 4) lv st σ Q) : Vv d mi pc lv (.float b :: .float a :: st) σ Q := by
  intro γ p l e s m args below meth c H locs d0 ls C hd0 hl hS hP
  obtain ⟨hx, hb, hr, hml, hown, hts, hlk, hK, hG⟩ := id C
  refine lv_fcmp hx hb hd ?_
  refine lv_if_eq hx hb hd2 ht (fun q => ?_) (fun q => ?_)
  · exact kt q γ p l e s m args below meth c H locs d0 ls C hd0 hl hS hP
  · exact kf q γ p l e s m args below meth c H locs d0 ls C hd0 hl hS hP
theorem v_fcmp_ne {a b : UInt32} {op : CmpOp} {off : Int} {tgt : Nat} (hd : decode mi.2.1 pc = .ok (.fcmp op, 1)) (hd2 : decode mi.2.1 (pc + 1) = .ok (.ifCond .ne off, 3)) (ht : ((pc + 1 : Nat) : Int) + off = (tgt : Int)) (kt : Op.cmpValue (FP.fcmp a b) op ≠ 0 → Vv d mi tgt lv st σ Q) (kf : Op.cmpValue (FP.fcmp a b) op = 0 → Vv d mi (pc + 4) lv st σ Q) : Vv d mi pc lv (.float b :: .float a :: st) σ Q := by
  intro γ p l e s m args below meth c H locs d0 ls C hd0 hl hS hP
  obtain ⟨hx, hb, hr, hml, hown, hts, hlk, hK, hG⟩ := id C
  refine lv_fcmp hx hb hd ?_
  refine lv_if_ne hx hb hd2 ht (fun q => ?_) (fun q => ?_)
  · exact kt q γ p l e s m args below meth c H locs d0 ls C hd0 hl hS hP
  · exact kf q γ p l e s m args below meth c H locs d0 ls C hd0 hl hS hP
theorem v_fcmp_lt {a b : UInt32} {op : CmpOp} {off : Int} {tgt : Nat} (hd : decode mi.2.1 pc = .ok (.fcmp op, 1)) (hd2 : decode mi.2.1 (pc + 1) = .ok (.ifCond .lt off, 3)) (ht : ((pc + 1 : Nat) : Int) + off = (tgt : Int)) (kt : Op.cmpValue (FP.fcmp a b) op < 0 → Vv d mi tgt lv st σ Q) (kf : ¬ Op.cmpValue (FP.fcmp a b) op < 0 → Vv d mi (pc + 4) lv st σ Q) : Vv d mi pc lv (.float b :: .float a :: st) σ Q := by
  intro γ p l e s m args below meth c H locs d0 ls C hd0 hl hS hP
  obtain ⟨hx, hb, hr, hml, hown, hts, hlk, hK, hG⟩ := id C
  refine lv_fcmp hx hb hd ?_
  refine lv_if_lt hx hb hd2 ht (fun q => ?_) (fun q => ?_)
  · exact kt q γ p l e s m args below meth c H locs d0 ls C hd0 hl hS hP
  · exact kf q γ p l e s m args below meth c H locs d0 ls C hd0 hl hS hP
theorem v_fcmp_ge {a b : UInt32} {op : CmpOp} {off : Int} {tgt : Nat} (hd : decode mi.2.1 pc = .ok (.fcmp op, 1)) (hd2 : decode mi.2.1 (pc + 1) = .ok (.ifCond .ge off, 3)) (ht : ((pc + 1 : Nat) : Int) + off = (tgt : Int)) (kt : Op.cmpValue (FP.fcmp a b) op ≥ 0 → Vv d mi tgt lv st σ Q) (kf : ¬ Op.cmpValue (FP.fcmp a b) op ≥ 0 → Vv d mi (pc + 4) lv st σ Q) : Vv d mi pc lv (.float b :: .float a :: st) σ Q := by
  intro γ p l e s m args below meth c H locs d0 ls C hd0 hl hS hP
  obtain ⟨hx, hb, hr, hml, hown, hts, hlk, hK, hG⟩ := id C
  refine lv_fcmp hx hb hd ?_
  refine lv_if_ge hx hb hd2 ht (fun q => ?_) (fun q => ?_)
  · exact kt q γ p l e s m args below meth c H locs d0 ls C hd0 hl hS hP
  · exact kf q γ p l e s m args below meth c H locs d0 ls C hd0 hl hS hP
theorem v_fcmp_gt {a b : UInt32} {op : CmpOp} {off : Int} {tgt : Nat} (hd : decode mi.2.1 pc = .ok (.fcmp op, 1)) (hd2 : decode mi.2.1 (pc + 1) = .ok (.ifCond .gt off, 3)) (ht : ((pc + 1 : Nat) : Int) + off = (tgt : Int)) (kt : Op.cmpValue (FP.fcmp a b) op > 0 → Vv d mi tgt lv st σ Q) (kf : ¬ Op.cmpValue (FP.fcmp a b) op > 0 → Vv d mi (pc + 4) lv st σ Q) : Vv d mi pc lv (.float b :: .float a :: st) σ Q := by
  intro γ p l e s m args below meth c H locs d0 ls C hd0 hl hS hP
  obtain ⟨hx, hb, hr, hml, hown, hts, hlk, hK, hG⟩ := id C
  refine lv_fcmp hx hb hd ?_
  refine lv_if_gt hx hb hd2 ht (fun q => ?_) (fun q => ?_)
  · exact kt q γ p l e s m args below meth c H locs d0 ls C hd0 hl hS hP
  · exact kf q γ p l e s m args below meth c H locs d0 ls C hd0 hl hS hP
theorem v_fcmp_le {a b : UInt32} {op : CmpOp} {off : Int} {tgt : Nat} (hd : decode mi.2.1 pc = .ok (.fcmp op, 1)) (hd2 : decode mi.2.1 (pc + 1) = .ok (.ifCond .le off, 3)) (ht : ((pc + 1 : Nat) : Int) + off = (tgt : Int)) (kt : Op.cmpValue (FP.fcmp a b) op ≤ 0 → Vv d mi tgt lv st σ Q) (kf : ¬ Op.cmpValue (FP.fcmp a b) op ≤ 0 → Vv d mi (pc + 4) lv st σ Q) : Vv d mi pc lv (.float b :: .float a :: st) σ Q := by
  intro γ p l e s m args below meth c H locs d0 ls C hd0 hl hS hP
  obtain ⟨hx, hb, hr, hml, hown, hts, hlk, hK, hG⟩ := id C
  refine lv_fcmp hx hb hd ?_
  refine lv_if_le hx hb hd2 ht (fun q => ?_) (fun q => ?_)
  · exact kt q γ p l e s m args below meth c H locs d0 ls C hd0 hl hS hP
  · exact kf q γ p l e s m args below meth c H locs d0 ls C hd0 hl hS hP
theorem v_dcmp_eq {a b : UInt64} {op : CmpOp} {off : Int} {tgt : Nat} (hd : decode mi.2.1 pc = .ok (.dcmp op, 1)) (hd2 : decode mi.2.1 (pc + 1) = .ok (.ifCond .eq off, 3)) (ht : ((pc + 1 : Nat) : Int) + off = (tgt : Int)) (kt : Op.cmpValue (FP.dcmp a b) op = 0 → Vv d mi tgt lv st σ Q) (kf : ¬ Op.cmpValue (FP.dcmp a b) op = 0 → Vv d mi (pc + 4) lv st σ Q) : Vv d mi pc lv (.double b :: .double a :: st) σ Q := by
  intro γ p l e s m args below meth c H locs d0 ls C hd0 hl hS hP
  obtain ⟨hx, hb, hr, hml, hown, hts, hlk, hK, hG⟩ := id C
  refine lv_dcmp hx hb hd ?_
  refine lv_if_eq hx hb hd2 ht (fun q => ?_) (fun q => ?_)
  · exact kt q γ p l e s m args below meth c H locs d0 ls C hd0 hl hS hP
  · exact kf q γ p l e s m args below meth c H locs d0 ls C hd0 hl hS hP
theorem v_dcmp_ne {a b : UInt64} {op : CmpOp} {off : Int} {tgt : Nat} (hd : decode mi.2.1 pc = .ok (.dcmp op, 1)) (hd2 : decode mi.2.1 (pc + 1) = .ok (.ifCond .ne off, 3)) (ht : ((pc + 1 : Nat) : Int) + off = (tgt : Int)) (kt : Op.cmpValue (FP.dcmp a b) op ≠ 0 → Vv d mi tgt lv st σ Q) (kf : Op.cmpValue (FP.dcmp a b) op = 0 → Vv d mi (pc + 4) lv st σ Q) : Vv d mi pc lv (.double b :: .double a :: st) σ Q := by
  intro γ p l e s m args below meth c H locs d0 ls C hd0 hl hS hP
  obtain ⟨hx, hb, hr, hml, hown, hts, hlk, hK, hG⟩ := id C
  refine lv_dcmp hx hb hd ?_
  refine lv_if_ne hx hb hd2 ht (fun q => ?_) (fun q => ?_)
  · exact kt q γ p l e s m args below meth c H locs d0 ls C hd0 hl hS hP
  · exact kf q γ p l e s m args below meth c H locs d0 ls C hd0 hl hS hP
theorem v_dcmp_lt {a b : UInt64} {op : CmpOp} {off : Int} {tgt : Nat} (hd : decode mi.2.1 pc = .ok (.dcmp op, 1)) (hd2 : decode mi.2.1 (pc + 1) = .ok (.ifCond .lt off, 3)) (ht : ((pc + 1 : Nat) : Int) + off = (tgt : Int)) (kt : Op.cmpValue (FP.dcmp a b) op < 0 → Vv d mi tgt lv st σ Q) (kf : ¬ Op.cmpValue (FP.dcmp a b) op < 0 → Vv d mi (pc + 4) lv st σ Q) : Vv d mi pc lv (.double b :: .double a :: st) σ Q := by
  intro γ p l e s m args below meth c H locs d0 ls C hd0 hl hS hP
  obtain ⟨hx, hb, hr, hml, hown, hts, hlk, hK, hG⟩ := id C
  refine lv_dcmp hx hb hd ?_
  refine lv_if_lt hx hb hd2 ht (fun q => ?_) (fun q => ?_)
  · exact kt q γ p l e s m args below meth c H locs d0 ls C hd0 hl hS hP
  · exact kf q γ p l e s m args below meth c H locs d0 ls C hd0 hl hS hP
theorem v_dcmp_ge {a b : UInt64} {op : CmpOp} {off : Int} {tgt : Nat} (hd : decode mi.2.1 pc = .ok (.dcmp op, 1)) (hd2 : decode mi.2.1 (pc + 1) = .ok (.ifCond .ge off, 3)) (ht : ((pc + 1 : Nat) : Int) + off = (tgt : Int)) (kt : Op.cmpValue (FP.dcmp a b) op ≥ 0 → Vv d mi tgt lv st σ Q) (kf : ¬ Op.cmpValue (FP.dcmp a b) op ≥ 0 → Vv d mi (pc + 4) lv st σ Q) : Vv d mi pc lv (.double b :: .double a :: st) σ Q := by
  intro γ p l e s m args below meth c H locs d0 ls C hd0 hl hS hP
  obtain ⟨hx, hb, hr, hml, hown, hts, hlk, hK, hG⟩ := id C
  refine lv_dcmp hx hb hd ?_
  refine lv_if_ge hx hb hd2 ht (fun q => ?_) (fun q => ?_)
  · exact kt q γ p l e s m args below meth c H locs d0 ls C hd0 hl hS hP
  · exact kf q γ p l e s m args below meth c H locs d0 ls C hd0 hl hS hP
theorem v_dcmp_gt {a b : UInt64} {op : CmpOp} {off : Int} {tgt : Nat} (hd : decode mi.2.1 pc = .ok (.dcmp op, 1)) (hd2 : decode mi.2.1 (pc + 1) = .ok (.ifCond .gt off, 3)) (ht : ((pc + 1 : Nat) : Int) + off = (tgt : Int)) (kt : Op.cmpValue (FP.dcmp a b) op > 0 → Vv d mi tgt lv st σ Q) (kf : ¬ Op.cmpValue (FP.dcmp a b) op > 0 → Vv d mi (pc + 4) lv st σ Q) : Vv d mi pc lv (.double b :: .double a :: st) σ Q := by
  intro γ p l e s m args below meth c H locs d0 ls C hd0 hl hS hP
  obtain ⟨hx, hb, hr, hml, hown, hts, hlk, hK, hG⟩ := id C
  refine lv_dcmp hx hb hd ?_
  refine lv_if_gt hx hb hd2 ht (fun q => ?_) (fun q => ?_)
  · exact kt q γ p l e s m args below meth c H locs d0 ls C hd0 hl hS hP
  · exact kf q γ p l e s m args below meth c H locs d0 ls C hd0 hl hS hP
theorem v_dcmp_le {a b : UInt64} {op : CmpOp} {off : Int} {tgt : Nat} (hd : decode mi.2.1 pc = .ok (.dcmp op, 1)) (hd2 : decode mi.2.1 (pc + 1) = .ok (.ifCond .le off, 3)) (ht : ((pc + 1 : Nat) : Int) + off = (tgt : Int)) (kt : Op.cmpValue (FP.dcmp a b) op ≤ 0 → Vv d mi tgt lv st σ Q) (kf : ¬ Op.cmpValue (FP.dcmp a b) op ≤ 0 → Vv d mi (pc + 4) lv st σ Q) : Vv d mi pc lv (.double b :: .double a :: st) σ Q := by
  intro γ p l e s m args below meth c H locs d0 ls C hd0 hl hS hP
  obtain ⟨hx, hb, hr, hml, hown, hts, hlk, hK, hG⟩ := id C
  refine lv_dcmp hx hb hd ?_
  refine lv_if_le hx hb hd2 ht (fun q => ?_) (fun q => ?_)
  · exact kt q γ p l e s m args below meth c H locs d0 ls C hd0 hl hS hP
  · exact kf q γ p l e s m args below meth c H locs d0 ls C hd0 hl hS hP
end
end
section
/-- cell k0's shape -/
def sh9 (k0 kind n : Nat) : Prop := k0 < NC ∧ shp k0 = (kind, n) ∧ n < 2147483648
theorem lw_good : ∀ w ∈ lw_w, (w.onTables && w.keeps) = true ∨ ∃ ty, w = .arrayClass ty := fun w hw => good_of_word (List.mem_filter.mp hw).2
theorem gi9 {ws : List Cond} (h : ∀ w ∈ ws, w ∈ lw_w) : GoodIn lw_w ws := fun w hw => ⟨h w hw, lw_good w (h w hw)⟩
/-- constant pool entry idx of class own is field j of class ci (in cls9), of kind kd -/
def fd9 (own : String) (idx ci j kd : Nat) : Prop := ∃ (C0 : String) (T : u_T) (N : Nat) (ref : String), cls9[ci]? = some (C0, T, N) ∧ j < N ∧ Cond.fieldLink own idx ref (T j).2.1 (T j).2.2.1 ∈ lw_w ∧ (∀ w ∈ u_ws C0 T N, w ∈ lw_w) ∧
  (∀ (U : State) (args : Array Value), (∀ w ∈ lw_w, w.before args U = true) → ∀ x, U.fieldFound? (T j).1 (T j).2.1 (T j).2.2.1 = some x → U.fieldFound? ref (T j).2.1 (T j).2.2.1 = some x) ∧ fk ci j = kd ∧ (fkL.getD ci []).length = N
def fp9 (own : String) (idx ci j kd : Nat) (ty : FieldType) : Prop := fd9 own idx ci j kd ∧ ∃ ty0 : Nat → FieldType, (∀ (T : u_T) (N : Nat) {C0 : String}, cls9[ci]? = some (C0, T, N) → ∀ k, k < N → parseFieldDescriptor (T k).2.2.1 = some (ty0 k)) ∧ (∀ (T : u_T) (N : Nat) {C0 : String}, cls9[ci]? = some (C0, T, N) → ∀ a, a < N → ∀ b, b < N → a ≠ b → (T a).2.1 ≠ (T b).2.1) ∧ (∀ (T : u_T) (N : Nat) {C0 : String}, cls9[ci]? = some (C0, T, N) → (T j).2.2.2 = false) ∧ (∀ (T : u_T) (N : Nat) {C0 : String}, cls9[ci]? = some (C0, T, N) → parseFieldDescriptor (T j).2.2.1 = some ty)
theorem upd9_ {α β : Type} (c : β → α) (f : Int → β) {z : Int} (x : β) (h : 0 ≤ z) (h2 : z < 2147483648) : (fun q : Nat => if q = (iI z).toNatClampNeg then c x else c (f (q : Int))) = fun j : Nat => c (up9 f z x (j : Int)) := by
  funext q
  rw [iI_clamp h h2]
  unfold up9
  by_cases e : q = z.toNat
  · rw [if_pos e, if_pos (by omega)]
  · rw [if_neg e, if_neg (by omega)]
theorem sti9 {ad : Nat → Nat} {dA : Nat → ClassId} {σ : S9} {k0 n : Nat} {z x : Int} (h : 0 ≤ z) (h2 : z < 2147483648) (hs : shp k0 = (1, n)) : (Sum.inl (dA 0, n, .inl (upd (fun j => iI (gI σ k0 (j : Int))) (iI z).toNatClampNeg (iI x))) : va_E) = ent ad dA (sI σ k0 z x) k0 := by
  rw [ent_I hs, gI_aI_eq]
  exact congrArg (fun g => (Sum.inl (dA 0, n, .inl g) : va_E)) (upd9_ iI (gI σ k0) x h h2)
theorem stb9 {ad : Nat → Nat} {dA : Nat → ClassId} {σ : S9} {k0 n : Nat} {z x : Int} (h : 0 ≤ z) (h2 : z < 2147483648) (hs : shp k0 = (5, n)) (hx8 : -128 ≤ x ∧ x < 128) : (Sum.inl (dA 4, n, .inl (upd (fun j => iI (gI σ k0 (j : Int))) (iI z).toNatClampNeg (vp_nar .byte (iI x)))) : va_E) = ent ad dA (sI σ k0 z x) k0 := by
  rw [ent_B hs, gI_aI_eq, vp_nar_byte, i2b9 hx8]
  exact congrArg (fun g => (Sum.inl (dA 4, n, .inl g) : va_E)) (upd9_ iI (gI σ k0) x h h2)
theorem stl9 {ad : Nat → Nat} {dA : Nat → ClassId} {σ : S9} {k0 n : Nat} {z x : Int} (h : 0 ≤ z) (h2 : z < 2147483648) (hs : shp k0 = (2, n)) : (Sum.inl (dA 1, n, .inr (.inl (vp_updL (fun j => lI (gL σ k0 (j : Int))) (iI z).toNatClampNeg (lI x)))) : va_E) = ent ad dA (sL σ k0 z x) k0 := by
  rw [ent_L hs, gL_aL_eq]
  exact congrArg (fun g => (Sum.inl (dA 1, n, .inr (.inl g)) : va_E)) (upd9_ lI (gL σ k0) x h h2)
theorem stf9 {ad : Nat → Nat} {dA : Nat → ClassId} {σ : S9} {k0 n : Nat} {z : Int} {x : UInt32} (h : 0 ≤ z) (h2 : z < 2147483648) (hs : shp k0 = (3, n)) : (Sum.inl (dA 2, n, .inr (.inr (.inl (vf_upd (fun j => gF σ k0 (j : Int)) (iI z).toNatClampNeg x)))) : va_E) = ent ad dA (sF σ k0 z x) k0 := by
  rw [ent_F hs, gF_aF_eq]
  exact congrArg (fun g => (Sum.inl (dA 2, n, .inr (.inr (.inl g))) : va_E)) (upd9_ id (gF σ k0) x h h2)
theorem std9 {ad : Nat → Nat} {dA : Nat → ClassId} {σ : S9} {k0 n : Nat} {z : Int} {x : UInt64} (h : 0 ≤ z) (h2 : z < 2147483648) (hs : shp k0 = (4, n)) : (Sum.inl (dA 3, n, .inr (.inr (.inr (.inl (vf_upd (fun j => gD σ k0 (j : Int)) (iI z).toNatClampNeg x))))) : va_E) = ent ad dA (sD σ k0 z x) k0 := by
  rw [ent_D hs, gD_aD_eq]
  exact congrArg (fun g => (Sum.inl (dA 3, n, .inr (.inr (.inr (.inl g)))) : va_E)) (upd9_ id (gD σ k0) x h h2)
theorem fsI9 {ad : Nat → Nat} {dA : Nat → ClassId} {σ : S9} {k0 ci j : Nat} {x : Int} (hs : shp k0 = (0, ci)) (hfk : fk ci j = 0) : (Sum.inr (ci, ((List.range (fkL.getD ci []).length).map (fun j => fvv ad σ k0 j (fk ci j))).set j (.int (iI x))) : va_E) = ent ad dA (sI σ k0 (j : Nat) x) k0 := by
  rw [ent_O hs]
  congr 2
  apply List.ext_getElem?
  intro i
  rw [List.getElem?_set, List.length_map, List.length_range]
  by_cases hi : i < (fkL.getD ci []).length
  · by_cases hij : j = i
    · subst hij
      rw [if_pos rfl, if_pos hi, List.getElem?_map, List.getElem?_range hi]
      show some _ = some (fvv _ _ _ _ _)
      rw [hfk]
      show some _ = some (Value.int (iI (gI _ _ _)))
      rw [gI_aI_eq, up9_eq]
    · rw [if_neg hij, List.getElem?_map, List.getElem?_map, List.getElem?_range hi]
      have key : ∀ t, fvv ad σ k0 i t = fvv ad (sI σ k0 (j : Nat) x) k0 i t := by
        intro t
        match t with
        | 0 => show Value.int (iI (gI _ _ _)) = Value.int (iI (gI _ _ _)); rw [gI_aI_eq, up9_ne (by omega)]
        | 1 => rfl
        | _ + 2 => rfl
      exact congrArg some (key _)
  · have h1 : (List.range (fkL.getD ci []).length)[i]? = none := List.getElem?_eq_none (by rw [List.length_range]; omega)
    rw [List.getElem?_map, List.getElem?_map, h1]
    split
    · split
      · omega
      · rfl
    · rfl
theorem fsL9 {ad : Nat → Nat} {dA : Nat → ClassId} {σ : S9} {k0 ci j : Nat} {x : Int} (hs : shp k0 = (0, ci)) (hfk : fk ci j = 1) : (Sum.inr (ci, ((List.range (fkL.getD ci []).length).map (fun j => fvv ad σ k0 j (fk ci j))).set j (.long (lI x))) : va_E) = ent ad dA (sL σ k0 (j : Nat) x) k0 := by
  rw [ent_O hs]
  congr 2
  apply List.ext_getElem?
  intro i
  rw [List.getElem?_set, List.length_map, List.length_range]
  by_cases hi : i < (fkL.getD ci []).length
  · by_cases hij : j = i
    · subst hij
      rw [if_pos rfl, if_pos hi, List.getElem?_map, List.getElem?_range hi]
      show some _ = some (fvv _ _ _ _ _)
      rw [hfk]
      show some _ = some (Value.long (lI (gL _ _ _)))
      rw [gL_aL_eq, up9_eq]
    · rw [if_neg hij, List.getElem?_map, List.getElem?_map, List.getElem?_range hi]
      have key : ∀ t, fvv ad σ k0 i t = fvv ad (sL σ k0 (j : Nat) x) k0 i t := by
        intro t
        match t with
        | 0 => rfl
        | 1 => show Value.long (lI (gL _ _ _)) = Value.long (lI (gL _ _ _)); rw [gL_aL_eq, up9_ne (by omega)]
        | _ + 2 => rfl
      exact congrArg some (key _)
  · have h1 : (List.range (fkL.getD ci []).length)[i]? = none := List.getElem?_eq_none (by rw [List.length_range]; omega)
    rw [List.getElem?_map, List.getElem?_map, h1]
    split
    · split
      · omega
      · rfl
    · rfl
section
variable {d : Nat} {mi : MI} {pc : Nat} {lv lv' st : List Value} {σ : S9} {Q : List Value → S9 → Prop}
theorem v_iaload {k0 n : Nat} {z : Int} (hd : decode mi.2.1 pc = .ok (.iaload, 1)) (hs9 : sh9 k0 1 n) (hz : 0 ≤ z ∧ z < n) (k : Vv d mi (pc + 1) lv (.int (iI (gI σ k0 z)) :: st) σ Q) : Vv d mi pc lv (.int (iI z) :: .ref k0 :: st) σ Q := by
  intro γ p l e s m args below meth c H locs d0 ls C hd0 hl hS hP
  obtain ⟨hx, hb, hr, hml, hown, hts, hlk, hK, hG⟩ := id C
  have hK1 : va_K (γ.2.1, γ.2.2.1) cls9 (ty9 γ) (s.setDrawn d0) := hK
  have hP1 : va_P (γ.2.1, γ.2.2.1) cls9 (ws9 γ σ) H := hP
  have hown1 : (s.setDrawn d0).vm.findClass mi.1.cls = some m.cls := hown
  obtain ⟨hk, hs, hn⟩ := hs9
  have hg : (ws9 γ σ)[k0]? = some (γ.1 k0, .inl (γ.2.2.2 0, n, .inl (fun j => iI (gI σ k0 (j : Int))))) := (ws9_get hk).trans (by rw [ent_I hs])
  refine va_iald hx hb hK1 hP1 k0 0 hg rfl (iI_in hz.1 hz.2 hn) hd ?_
  rw [iI_clamp hz.1 (by omega), Int.toNat_of_nonneg hz.1]
  exact k γ p l e s m args below meth c H locs d0 ls C hd0 hl hS hP
theorem v_laload {k0 n : Nat} {z : Int} (hd : decode mi.2.1 pc = .ok (.laload, 1)) (hs9 : sh9 k0 2 n) (hz : 0 ≤ z ∧ z < n) (k : Vv d mi (pc + 1) lv (.long (lI (gL σ k0 z)) :: st) σ Q) : Vv d mi pc lv (.int (iI z) :: .ref k0 :: st) σ Q := by
  intro γ p l e s m args below meth c H locs d0 ls C hd0 hl hS hP
  obtain ⟨hx, hb, hr, hml, hown, hts, hlk, hK, hG⟩ := id C
  have hK1 : va_K (γ.2.1, γ.2.2.1) cls9 (ty9 γ) (s.setDrawn d0) := hK
  have hP1 : va_P (γ.2.1, γ.2.2.1) cls9 (ws9 γ σ) H := hP
  have hown1 : (s.setDrawn d0).vm.findClass mi.1.cls = some m.cls := hown
  obtain ⟨hk, hs, hn⟩ := hs9
  have hg : (ws9 γ σ)[k0]? = some (γ.1 k0, .inl (γ.2.2.2 1, n, .inr (.inl (fun j => lI (gL σ k0 (j : Int)))))) := (ws9_get hk).trans (by rw [ent_L hs])
  refine va_lald hx hb hK1 hP1 k0 1 hg rfl (iI_in hz.1 hz.2 hn) hd ?_
  rw [iI_clamp hz.1 (by omega), Int.toNat_of_nonneg hz.1]
  exact k γ p l e s m args below meth c H locs d0 ls C hd0 hl hS hP
theorem v_faload {k0 n : Nat} {z : Int} (hd : decode mi.2.1 pc = .ok (.faload, 1)) (hs9 : sh9 k0 3 n) (hz : 0 ≤ z ∧ z < n) (k : Vv d mi (pc + 1) lv (.float (gF σ k0 z) :: st) σ Q) : Vv d mi pc lv (.int (iI z) :: .ref k0 :: st) σ Q := by
  intro γ p l e s m args below meth c H locs d0 ls C hd0 hl hS hP
  obtain ⟨hx, hb, hr, hml, hown, hts, hlk, hK, hG⟩ := id C
  have hK1 : va_K (γ.2.1, γ.2.2.1) cls9 (ty9 γ) (s.setDrawn d0) := hK
  have hP1 : va_P (γ.2.1, γ.2.2.1) cls9 (ws9 γ σ) H := hP
  have hown1 : (s.setDrawn d0).vm.findClass mi.1.cls = some m.cls := hown
  obtain ⟨hk, hs, hn⟩ := hs9
  have hg : (ws9 γ σ)[k0]? = some (γ.1 k0, .inl (γ.2.2.2 2, n, .inr (.inr (.inl (fun j => gF σ k0 (j : Int)))))) := (ws9_get hk).trans (by rw [ent_F hs])
  refine va_fald hx hb hK1 hP1 k0 2 hg rfl (iI_in hz.1 hz.2 hn) hd ?_
  rw [iI_clamp hz.1 (by omega), Int.toNat_of_nonneg hz.1]
  exact k γ p l e s m args below meth c H locs d0 ls C hd0 hl hS hP
theorem v_daload {k0 n : Nat} {z : Int} (hd : decode mi.2.1 pc = .ok (.daload, 1)) (hs9 : sh9 k0 4 n) (hz : 0 ≤ z ∧ z < n) (k : Vv d mi (pc + 1) lv (.double (gD σ k0 z) :: st) σ Q) : Vv d mi pc lv (.int (iI z) :: .ref k0 :: st) σ Q := by
  intro γ p l e s m args below meth c H locs d0 ls C hd0 hl hS hP
  obtain ⟨hx, hb, hr, hml, hown, hts, hlk, hK, hG⟩ := id C
  have hK1 : va_K (γ.2.1, γ.2.2.1) cls9 (ty9 γ) (s.setDrawn d0) := hK
  have hP1 : va_P (γ.2.1, γ.2.2.1) cls9 (ws9 γ σ) H := hP
  have hown1 : (s.setDrawn d0).vm.findClass mi.1.cls = some m.cls := hown
  obtain ⟨hk, hs, hn⟩ := hs9
  have hg : (ws9 γ σ)[k0]? = some (γ.1 k0, .inl (γ.2.2.2 3, n, .inr (.inr (.inr (.inl (fun j => gD σ k0 (j : Int))))))) := (ws9_get hk).trans (by rw [ent_D hs])
  refine va_dald hx hb hK1 hP1 k0 3 hg rfl (iI_in hz.1 hz.2 hn) hd ?_
  rw [iI_clamp hz.1 (by omega), Int.toNat_of_nonneg hz.1]
  exact k γ p l e s m args below meth c H locs d0 ls C hd0 hl hS hP
theorem v_baload {k0 n : Nat} {z : Int} (hd : decode mi.2.1 pc = .ok (.baload, 1)) (hs9 : sh9 k0 5 n) (hz : 0 ≤ z ∧ z < n) (k : Vv d mi (pc + 1) lv (.int (iI (gI σ k0 z)) :: st) σ Q) : Vv d mi pc lv (.int (iI z) :: .ref k0 :: st) σ Q := by
  intro γ p l e s m args below meth c H locs d0 ls C hd0 hl hS hP
  obtain ⟨hx, hb, hr, hml, hown, hts, hlk, hK, hG⟩ := id C
  have hK1 : va_K (γ.2.1, γ.2.2.1) cls9 (ty9 γ) (s.setDrawn d0) := hK
  have hP1 : va_P (γ.2.1, γ.2.2.1) cls9 (ws9 γ σ) H := hP
  have hown1 : (s.setDrawn d0).vm.findClass mi.1.cls = some m.cls := hown
  obtain ⟨hk, hs, hn⟩ := hs9
  have hg : (ws9 γ σ)[k0]? = some (γ.1 k0, .inl (γ.2.2.2 4, n, .inl (fun j => iI (gI σ k0 (j : Int))))) := (ws9_get hk).trans (by rw [ent_B hs])
  refine va_bald hx hb hK1 hP1 k0 4 hg rfl (iI_in hz.1 hz.2 hn) hd ?_
  rw [iI_clamp hz.1 (by omega), Int.toNat_of_nonneg hz.1]
  exact k γ p l e s m args below meth c H locs d0 ls C hd0 hl hS hP
theorem v_aaloadS {k0 n : Nat} {z : Int} (hd : decode mi.2.1 pc = .ok (.aaload, 1)) (hs9 : sh9 k0 6 n) (hz : 0 ≤ z ∧ z < n) (k : Vv d mi (pc + 1) lv (.ref (rfs k0 z.toNat) :: st) σ Q) : Vv d mi pc lv (.int (iI z) :: .ref k0 :: st) σ Q := by
  intro γ p l e s m args below meth c H locs d0 ls C hd0 hl hS hP
  obtain ⟨hx, hb, hr, hml, hown, hts, hlk, hK, hG⟩ := id C
  have hK1 : va_K (γ.2.1, γ.2.2.1) cls9 (ty9 γ) (s.setDrawn d0) := hK
  have hP1 : va_P (γ.2.1, γ.2.2.1) cls9 (ws9 γ σ) H := hP
  have hown1 : (s.setDrawn d0).vm.findClass mi.1.cls = some m.cls := hown
  obtain ⟨hk, hs, hn⟩ := hs9
  have hg : (ws9 γ σ)[k0]? = some (γ.1 k0, .inl (γ.2.2.2 5, n, .inr (.inr (.inr (.inr (fun j => some (γ.1 (rfs k0 j)))))))) := (ws9_get hk).trans (by rw [ent_S hs])
  have hin := iI_in hz.1 hz.2 hn
  have hlt : (iI z).toNatClampNeg < n := Nat.not_le.mp fun q => hin (Or.inr q)
  refine W.aald (v := .ref (γ.1 (rfs k0 z.toNat))) (ty := .object "RewritingTermination$Slot") hx hb (hP1 k0 _ hg) ((hK1.2 5 _ rfl).1 n (fun j => va_rf (some (γ.1 (rfs k0 j))))) rfl (fun q => by cases q) (by show ¬ (iI z < 0 ∨ (arrV _ _ _).slots.size ≤ _); rw [arrV_size]; exact hin) (by show (arrV _ _ _).slots[_]? = _; rw [arrV_read _ _ hlt, iI_clamp hz.1 (by omega)]; rfl) rfl rfl hd ?_
  exact k γ p l e s m args below meth c H locs d0 ls C hd0 hl hS hP
theorem v_aaloadR {k0 n : Nat} {z : Int} (hd : decode mi.2.1 pc = .ok (.aaload, 1)) (hs9 : sh9 k0 7 n) (hz : 0 ≤ z ∧ z < n) (k : Vv d mi (pc + 1) lv (.ref (rfs k0 z.toNat) :: st) σ Q) : Vv d mi pc lv (.int (iI z) :: .ref k0 :: st) σ Q := by
  intro γ p l e s m args below meth c H locs d0 ls C hd0 hl hS hP
  obtain ⟨hx, hb, hr, hml, hown, hts, hlk, hK, hG⟩ := id C
  have hK1 : va_K (γ.2.1, γ.2.2.1) cls9 (ty9 γ) (s.setDrawn d0) := hK
  have hP1 : va_P (γ.2.1, γ.2.2.1) cls9 (ws9 γ σ) H := hP
  have hown1 : (s.setDrawn d0).vm.findClass mi.1.cls = some m.cls := hown
  obtain ⟨hk, hs, hn⟩ := hs9
  have hg : (ws9 γ σ)[k0]? = some (γ.1 k0, .inl (γ.2.2.2 6, n, .inr (.inr (.inr (.inr (fun j => some (γ.1 (rfs k0 j)))))))) := (ws9_get hk).trans (by rw [ent_R hs])
  have hin := iI_in hz.1 hz.2 hn
  have hlt : (iI z).toNatClampNeg < n := Nat.not_le.mp fun q => hin (Or.inr q)
  refine W.aald (v := .ref (γ.1 (rfs k0 z.toNat))) (ty := .array .int) hx hb (hP1 k0 _ hg) ((hK1.2 6 _ rfl).1 n (fun j => va_rf (some (γ.1 (rfs k0 j))))) rfl (fun q => by cases q) (by show ¬ (iI z < 0 ∨ (arrV _ _ _).slots.size ≤ _); rw [arrV_size]; exact hin) (by show (arrV _ _ _).slots[_]? = _; rw [arrV_read _ _ hlt, iI_clamp hz.1 (by omega)]; rfl) rfl rfl hd ?_
  exact k γ p l e s m args below meth c H locs d0 ls C hd0 hl hS hP
theorem v_alen {k0 n : Nat} (hd : decode mi.2.1 pc = .ok (.arraylength, 1)) (hs9 : sh9 k0 1 n) (k : Vv d mi (pc + 1) lv (.int (iI (n : Nat)) :: st) σ Q) : Vv d mi pc lv (.ref k0 :: st) σ Q := by
  intro γ p l e s m args below meth c H locs d0 ls C hd0 hl hS hP
  obtain ⟨hx, hb, hr, hml, hown, hts, hlk, hK, hG⟩ := id C
  have hK1 : va_K (γ.2.1, γ.2.2.1) cls9 (ty9 γ) (s.setDrawn d0) := hK
  have hP1 : va_P (γ.2.1, γ.2.2.1) cls9 (ws9 γ σ) H := hP
  have hown1 : (s.setDrawn d0).vm.findClass mi.1.cls = some m.cls := hown
  obtain ⟨hk, hs, hn⟩ := hs9
  have hg : (ws9 γ σ)[k0]? = some (γ.1 k0, .inl (γ.2.2.2 0, n, .inl (fun j => iI (gI σ k0 (j : Int))))) := (ws9_get hk).trans (by rw [ent_I hs])
  refine va_alen (v := iI (n : Nat)) hx hb hK1 hP1 k0 0 hg (ty := .int) rfl Int32.ofInt_eq_ofNat.symm hd ?_
  exact k γ p l e s m args below meth c H locs d0 ls C hd0 hl hS hP
theorem v_iastore {k0 n : Nat} {z : Int} {x : Int} (hd : decode mi.2.1 pc = .ok (.iastore, 1)) (hs9 : sh9 k0 1 n) (hz : 0 ≤ z ∧ z < n) (k : Vv d mi (pc + 1) lv st (sI σ k0 z x) Q) : Vv d mi pc lv (.int (iI x) :: .int (iI z) :: .ref k0 :: st) σ Q := by
  intro γ p l e s m args below meth c H locs d0 ls C hd0 hl hS hP
  obtain ⟨hx, hb, hr, hml, hown, hts, hlk, hK, hG⟩ := id C
  have hK1 : va_K (γ.2.1, γ.2.2.1) cls9 (ty9 γ) (s.setDrawn d0) := hK
  have hP1 : va_P (γ.2.1, γ.2.2.1) cls9 (ws9 γ σ) H := hP
  have hown1 : (s.setDrawn d0).vm.findClass mi.1.cls = some m.cls := hown
  obtain ⟨hk, hs, hn⟩ := hs9
  have hg : (ws9 γ σ)[k0]? = some (γ.1 k0, .inl (γ.2.2.2 0, n, .inl (fun j => iI (gI σ k0 (j : Int))))) := (ws9_get hk).trans (by rw [ent_I hs])
  refine va_iast (A := gA γ) hx hb hK1 hP1 (ws9_D hG) hS k0 0 hg rfl (iI_in hz.1 hz.2 hn) hd (fun H locs hP hD hS => ?_)
  rw [ws9_set (σ' := sI σ k0 z x) (k := k0) (sti9 hz.1 (by omega) hs) (fun k' hk' => ent_aI hk')] at hP
  exact k γ p l e s m args below meth c H locs d0 ls C hd0 hl hS hP
theorem v_lastore {k0 n : Nat} {z : Int} {x : Int} (hd : decode mi.2.1 pc = .ok (.lastore, 1)) (hs9 : sh9 k0 2 n) (hz : 0 ≤ z ∧ z < n) (k : Vv d mi (pc + 1) lv st (sL σ k0 z x) Q) : Vv d mi pc lv (.long (lI x) :: .int (iI z) :: .ref k0 :: st) σ Q := by
  intro γ p l e s m args below meth c H locs d0 ls C hd0 hl hS hP
  obtain ⟨hx, hb, hr, hml, hown, hts, hlk, hK, hG⟩ := id C
  have hK1 : va_K (γ.2.1, γ.2.2.1) cls9 (ty9 γ) (s.setDrawn d0) := hK
  have hP1 : va_P (γ.2.1, γ.2.2.1) cls9 (ws9 γ σ) H := hP
  have hown1 : (s.setDrawn d0).vm.findClass mi.1.cls = some m.cls := hown
  obtain ⟨hk, hs, hn⟩ := hs9
  have hg : (ws9 γ σ)[k0]? = some (γ.1 k0, .inl (γ.2.2.2 1, n, .inr (.inl (fun j => lI (gL σ k0 (j : Int)))))) := (ws9_get hk).trans (by rw [ent_L hs])
  refine va_last (A := gA γ) hx hb hK1 hP1 (ws9_D hG) hS k0 1 hg rfl (iI_in hz.1 hz.2 hn) hd (fun H locs hP hD hS => ?_)
  rw [ws9_set (σ' := sL σ k0 z x) (k := k0) (stl9 hz.1 (by omega) hs) (fun k' hk' => ent_aL hk')] at hP
  exact k γ p l e s m args below meth c H locs d0 ls C hd0 hl hS hP
theorem v_fastore {k0 n : Nat} {z : Int} {x : UInt32} (hd : decode mi.2.1 pc = .ok (.fastore, 1)) (hs9 : sh9 k0 3 n) (hz : 0 ≤ z ∧ z < n) (k : Vv d mi (pc + 1) lv st (sF σ k0 z x) Q) : Vv d mi pc lv (.float x :: .int (iI z) :: .ref k0 :: st) σ Q := by
  intro γ p l e s m args below meth c H locs d0 ls C hd0 hl hS hP
  obtain ⟨hx, hb, hr, hml, hown, hts, hlk, hK, hG⟩ := id C
  have hK1 : va_K (γ.2.1, γ.2.2.1) cls9 (ty9 γ) (s.setDrawn d0) := hK
  have hP1 : va_P (γ.2.1, γ.2.2.1) cls9 (ws9 γ σ) H := hP
  have hown1 : (s.setDrawn d0).vm.findClass mi.1.cls = some m.cls := hown
  obtain ⟨hk, hs, hn⟩ := hs9
  have hg : (ws9 γ σ)[k0]? = some (γ.1 k0, .inl (γ.2.2.2 2, n, .inr (.inr (.inl (fun j => gF σ k0 (j : Int)))))) := (ws9_get hk).trans (by rw [ent_F hs])
  refine va_fast (A := gA γ) hx hb hK1 hP1 (ws9_D hG) hS k0 2 hg rfl (iI_in hz.1 hz.2 hn) hd (fun H locs hP hD hS => ?_)
  rw [ws9_set (σ' := sF σ k0 z x) (k := k0) (stf9 hz.1 (by omega) hs) (fun k' hk' => ent_aF hk')] at hP
  exact k γ p l e s m args below meth c H locs d0 ls C hd0 hl hS hP
theorem v_dastore {k0 n : Nat} {z : Int} {x : UInt64} (hd : decode mi.2.1 pc = .ok (.dastore, 1)) (hs9 : sh9 k0 4 n) (hz : 0 ≤ z ∧ z < n) (k : Vv d mi (pc + 1) lv st (sD σ k0 z x) Q) : Vv d mi pc lv (.double x :: .int (iI z) :: .ref k0 :: st) σ Q := by
  intro γ p l e s m args below meth c H locs d0 ls C hd0 hl hS hP
  obtain ⟨hx, hb, hr, hml, hown, hts, hlk, hK, hG⟩ := id C
  have hK1 : va_K (γ.2.1, γ.2.2.1) cls9 (ty9 γ) (s.setDrawn d0) := hK
  have hP1 : va_P (γ.2.1, γ.2.2.1) cls9 (ws9 γ σ) H := hP
  have hown1 : (s.setDrawn d0).vm.findClass mi.1.cls = some m.cls := hown
  obtain ⟨hk, hs, hn⟩ := hs9
  have hg : (ws9 γ σ)[k0]? = some (γ.1 k0, .inl (γ.2.2.2 3, n, .inr (.inr (.inr (.inl (fun j => gD σ k0 (j : Int))))))) := (ws9_get hk).trans (by rw [ent_D hs])
  refine va_dast (A := gA γ) hx hb hK1 hP1 (ws9_D hG) hS k0 3 hg rfl (iI_in hz.1 hz.2 hn) hd (fun H locs hP hD hS => ?_)
  rw [ws9_set (σ' := sD σ k0 z x) (k := k0) (std9 hz.1 (by omega) hs) (fun k' hk' => ent_aD hk')] at hP
  exact k γ p l e s m args below meth c H locs d0 ls C hd0 hl hS hP
theorem v_bastore {k0 n : Nat} {z : Int} {x : Int} (hd : decode mi.2.1 pc = .ok (.bastore, 1)) (hs9 : sh9 k0 5 n) (hz : 0 ≤ z ∧ z < n) (hx8 : -128 ≤ x ∧ x < 128) (k : Vv d mi (pc + 1) lv st (sI σ k0 z x) Q) : Vv d mi pc lv (.int (iI x) :: .int (iI z) :: .ref k0 :: st) σ Q := by
  intro γ p l e s m args below meth c H locs d0 ls C hd0 hl hS hP
  obtain ⟨hx, hb, hr, hml, hown, hts, hlk, hK, hG⟩ := id C
  have hK1 : va_K (γ.2.1, γ.2.2.1) cls9 (ty9 γ) (s.setDrawn d0) := hK
  have hP1 : va_P (γ.2.1, γ.2.2.1) cls9 (ws9 γ σ) H := hP
  have hown1 : (s.setDrawn d0).vm.findClass mi.1.cls = some m.cls := hown
  obtain ⟨hk, hs, hn⟩ := hs9
  have hg : (ws9 γ σ)[k0]? = some (γ.1 k0, .inl (γ.2.2.2 4, n, .inl (fun j => iI (gI σ k0 (j : Int))))) := (ws9_get hk).trans (by rw [ent_B hs])
  refine va_bast (A := gA γ) hx hb hK1 hP1 (ws9_D hG) hS k0 4 hg rfl (iI_in hz.1 hz.2 hn) hd (fun H locs hP hD hS => ?_)
  rw [ws9_set (σ' := sI σ k0 z x) (k := k0) (stb9 hz.1 (by omega) hs hx8) (fun k' hk' => ent_aI hk')] at hP
  exact k γ p l e s m args below meth c H locs d0 ls C hd0 hl hS hP
theorem v_getI {k0 ci idx j : Nat} (hd : decode mi.2.1 pc = .ok (.getfield idx, 3)) (hs9 : sh9 k0 0 ci) (hf : fd9 mi.1.cls idx ci j 0) (k : Vv d mi (pc + 3) lv (.int (iI (gI σ k0 (j : Nat))) :: st) σ Q) : Vv d mi pc lv (.ref k0 :: st) σ Q := by
  intro γ p l e s m args below meth c H locs d0 ls C hd0 hl hS hP
  obtain ⟨hx, hb, hr, hml, hown, hts, hlk, hK, hG⟩ := id C
  have hK1 : va_K (γ.2.1, γ.2.2.1) cls9 (ty9 γ) (s.setDrawn d0) := hK
  have hP1 : va_P (γ.2.1, γ.2.2.1) cls9 (ws9 γ σ) H := hP
  have hown1 : (s.setDrawn d0).vm.findClass mi.1.cls = some m.cls := hown
  obtain ⟨hk, hs, hn⟩ := hs9
  obtain ⟨C0, T, N, ref, hc, hjN, hw, hin, hsm, hfk, hlen⟩ := hf
  have hg : (ws9 γ σ)[k0]? = some (γ.1 k0, .inr (ci, (List.range (fkL.getD ci []).length).map (fun j => fvv γ.1 σ k0 j (fk ci j)))) := (ws9_get hk).trans (by rw [ent_O hs])
  refine va_get (ci := ci) (C := C0) (T := T) (N := N) (v := fvv γ.1 σ k0 j 0) hx hb (dr_words hts _) hin hown1 hK1 hP1 k0 hg hc j hjN (dr_words hts _ _ hw) (hsm (s.setDrawn d0) args (dr_words hts _)) (by rw [List.getElem?_map, List.getElem?_range (by omega)]; show some (fvv γ.1 σ k0 j (fk ci j)) = _; rw [hfk]) hd ?_
  exact k γ p l e s m args below meth c H locs d0 ls C hd0 hl hS hP
theorem v_getL {k0 ci idx j : Nat} (hd : decode mi.2.1 pc = .ok (.getfield idx, 3)) (hs9 : sh9 k0 0 ci) (hf : fd9 mi.1.cls idx ci j 1) (k : Vv d mi (pc + 3) lv (.long (lI (gL σ k0 (j : Nat))) :: st) σ Q) : Vv d mi pc lv (.ref k0 :: st) σ Q := by
  intro γ p l e s m args below meth c H locs d0 ls C hd0 hl hS hP
  obtain ⟨hx, hb, hr, hml, hown, hts, hlk, hK, hG⟩ := id C
  have hK1 : va_K (γ.2.1, γ.2.2.1) cls9 (ty9 γ) (s.setDrawn d0) := hK
  have hP1 : va_P (γ.2.1, γ.2.2.1) cls9 (ws9 γ σ) H := hP
  have hown1 : (s.setDrawn d0).vm.findClass mi.1.cls = some m.cls := hown
  obtain ⟨hk, hs, hn⟩ := hs9
  obtain ⟨C0, T, N, ref, hc, hjN, hw, hin, hsm, hfk, hlen⟩ := hf
  have hg : (ws9 γ σ)[k0]? = some (γ.1 k0, .inr (ci, (List.range (fkL.getD ci []).length).map (fun j => fvv γ.1 σ k0 j (fk ci j)))) := (ws9_get hk).trans (by rw [ent_O hs])
  refine va_get (ci := ci) (C := C0) (T := T) (N := N) (v := fvv γ.1 σ k0 j 1) hx hb (dr_words hts _) hin hown1 hK1 hP1 k0 hg hc j hjN (dr_words hts _ _ hw) (hsm (s.setDrawn d0) args (dr_words hts _)) (by rw [List.getElem?_map, List.getElem?_range (by omega)]; show some (fvv γ.1 σ k0 j (fk ci j)) = _; rw [hfk]) hd ?_
  exact k γ p l e s m args below meth c H locs d0 ls C hd0 hl hS hP
theorem v_getR {k0 ci idx j : Nat} (hd : decode mi.2.1 pc = .ok (.getfield idx, 3)) (hs9 : sh9 k0 0 ci) (hf : fd9 mi.1.cls idx ci j 2) (k : Vv d mi (pc + 3) lv (.ref (rfs k0 j) :: st) σ Q) : Vv d mi pc lv (.ref k0 :: st) σ Q := by
  intro γ p l e s m args below meth c H locs d0 ls C hd0 hl hS hP
  obtain ⟨hx, hb, hr, hml, hown, hts, hlk, hK, hG⟩ := id C
  have hK1 : va_K (γ.2.1, γ.2.2.1) cls9 (ty9 γ) (s.setDrawn d0) := hK
  have hP1 : va_P (γ.2.1, γ.2.2.1) cls9 (ws9 γ σ) H := hP
  have hown1 : (s.setDrawn d0).vm.findClass mi.1.cls = some m.cls := hown
  obtain ⟨hk, hs, hn⟩ := hs9
  obtain ⟨C0, T, N, ref, hc, hjN, hw, hin, hsm, hfk, hlen⟩ := hf
  have hg : (ws9 γ σ)[k0]? = some (γ.1 k0, .inr (ci, (List.range (fkL.getD ci []).length).map (fun j => fvv γ.1 σ k0 j (fk ci j)))) := (ws9_get hk).trans (by rw [ent_O hs])
  refine va_get (ci := ci) (C := C0) (T := T) (N := N) (v := fvv γ.1 σ k0 j 2) hx hb (dr_words hts _) hin hown1 hK1 hP1 k0 hg hc j hjN (dr_words hts _ _ hw) (hsm (s.setDrawn d0) args (dr_words hts _)) (by rw [List.getElem?_map, List.getElem?_range (by omega)]; show some (fvv γ.1 σ k0 j (fk ci j)) = _; rw [hfk]) hd ?_
  exact k γ p l e s m args below meth c H locs d0 ls C hd0 hl hS hP
theorem v_putI {k0 ci idx j : Nat} {x : Int} (hd : decode mi.2.1 pc = .ok (.putfield idx, 3)) (hs9 : sh9 k0 0 ci) (hf : fp9 mi.1.cls idx ci j 0 .int) (k : Vv d mi (pc + 3) lv st (sI σ k0 (j : Nat) x) Q) : Vv d mi pc lv (.int (iI x) :: .ref k0 :: st) σ Q := by
  intro γ p l e s m args below meth c H locs d0 ls C hd0 hl hS hP
  obtain ⟨hx, hb, hr, hml, hown, hts, hlk, hK, hG⟩ := id C
  have hK1 : va_K (γ.2.1, γ.2.2.1) cls9 (ty9 γ) (s.setDrawn d0) := hK
  have hP1 : va_P (γ.2.1, γ.2.2.1) cls9 (ws9 γ σ) H := hP
  have hown1 : (s.setDrawn d0).vm.findClass mi.1.cls = some m.cls := hown
  obtain ⟨hk, hs, hn⟩ := hs9
  obtain ⟨⟨C0, T, N, ref, hc, hjN, hw, hin, hsm, hfk, hlen⟩, ty0, hty, hnm, hfin, hpd⟩ := hf
  have hg : (ws9 γ σ)[k0]? = some (γ.1 k0, .inr (ci, (List.range (fkL.getD ci []).length).map (fun j => fvv γ.1 σ k0 j (fk ci j)))) := (ws9_get hk).trans (by rw [ent_O hs])
  refine va_put (A := gA γ) (ci := ci) (C := C0) (T := T) (N := N) (ty := .int) (v := .int (iI x)) hx hb (dr_words hts _) hin ty0 (hty T N hc) (hnm T N hc) hown1 hK1 hP1 (ws9_D hG) hS k0 hg hc j hjN (dr_words hts _ _ hw) (hsm (s.setDrawn d0) args (dr_words hts _)) (hfin T N hc) (hpd T N hc) rfl rfl (by rw [List.length_map, List.length_range]; omega) hd (fun H locs hP hD hS => ?_)
  rw [ws9_set (σ' := sI σ k0 (j : Nat) x) (k := k0) (fsI9 hs hfk) (fun k' hk' => ent_aI hk')] at hP
  exact k γ p l e s m args below meth c H locs d0 ls C hd0 hl hS hP
theorem v_putZ {k0 ci idx j : Nat} {x : Int} (hd : decode mi.2.1 pc = .ok (.putfield idx, 3)) (hs9 : sh9 k0 0 ci) (hf : fp9 mi.1.cls idx ci j 0 .boolean) (hx1 : x = 0 ∨ x = 1) (k : Vv d mi (pc + 3) lv st (sI σ k0 (j : Nat) x) Q) : Vv d mi pc lv (.int (iI x) :: .ref k0 :: st) σ Q := by
  intro γ p l e s m args below meth c H locs d0 ls C hd0 hl hS hP
  obtain ⟨hx, hb, hr, hml, hown, hts, hlk, hK, hG⟩ := id C
  have hK1 : va_K (γ.2.1, γ.2.2.1) cls9 (ty9 γ) (s.setDrawn d0) := hK
  have hP1 : va_P (γ.2.1, γ.2.2.1) cls9 (ws9 γ σ) H := hP
  have hown1 : (s.setDrawn d0).vm.findClass mi.1.cls = some m.cls := hown
  obtain ⟨hk, hs, hn⟩ := hs9
  obtain ⟨⟨C0, T, N, ref, hc, hjN, hw, hin, hsm, hfk, hlen⟩, ty0, hty, hnm, hfin, hpd⟩ := hf
  have hg : (ws9 γ σ)[k0]? = some (γ.1 k0, .inr (ci, (List.range (fkL.getD ci []).length).map (fun j => fvv γ.1 σ k0 j (fk ci j)))) := (ws9_get hk).trans (by rw [ent_O hs])
  refine va_put (A := gA γ) (ci := ci) (C := C0) (T := T) (N := N) (ty := .boolean) (v := .int (iI x)) hx hb (dr_words hts _) hin ty0 (hty T N hc) (hnm T N hc) hown1 hK1 hP1 (ws9_D hG) hS k0 hg hc j hjN (dr_words hts _ _ hw) (hsm (s.setDrawn d0) args (dr_words hts _)) (hfin T N hc) (hpd T N hc) (by rcases hx1 with h | h <;> subst h <;> decide) (by rcases hx1 with h | h <;> subst h <;> decide) (by rw [List.length_map, List.length_range]; omega) hd (fun H locs hP hD hS => ?_)
  rw [ws9_set (σ' := sI σ k0 (j : Nat) x) (k := k0) (fsI9 hs hfk) (fun k' hk' => ent_aI hk')] at hP
  exact k γ p l e s m args below meth c H locs d0 ls C hd0 hl hS hP
theorem v_putL {k0 ci idx j : Nat} {x : Int} (hd : decode mi.2.1 pc = .ok (.putfield idx, 3)) (hs9 : sh9 k0 0 ci) (hf : fp9 mi.1.cls idx ci j 1 .long) (k : Vv d mi (pc + 3) lv st (sL σ k0 (j : Nat) x) Q) : Vv d mi pc lv (.long (lI x) :: .ref k0 :: st) σ Q := by
  intro γ p l e s m args below meth c H locs d0 ls C hd0 hl hS hP
  obtain ⟨hx, hb, hr, hml, hown, hts, hlk, hK, hG⟩ := id C
  have hK1 : va_K (γ.2.1, γ.2.2.1) cls9 (ty9 γ) (s.setDrawn d0) := hK
  have hP1 : va_P (γ.2.1, γ.2.2.1) cls9 (ws9 γ σ) H := hP
  have hown1 : (s.setDrawn d0).vm.findClass mi.1.cls = some m.cls := hown
  obtain ⟨hk, hs, hn⟩ := hs9
  obtain ⟨⟨C0, T, N, ref, hc, hjN, hw, hin, hsm, hfk, hlen⟩, ty0, hty, hnm, hfin, hpd⟩ := hf
  have hg : (ws9 γ σ)[k0]? = some (γ.1 k0, .inr (ci, (List.range (fkL.getD ci []).length).map (fun j => fvv γ.1 σ k0 j (fk ci j)))) := (ws9_get hk).trans (by rw [ent_O hs])
  refine va_put (A := gA γ) (ci := ci) (C := C0) (T := T) (N := N) (ty := .long) (v := .long (lI x)) hx hb (dr_words hts _) hin ty0 (hty T N hc) (hnm T N hc) hown1 hK1 hP1 (ws9_D hG) hS k0 hg hc j hjN (dr_words hts _ _ hw) (hsm (s.setDrawn d0) args (dr_words hts _)) (hfin T N hc) (hpd T N hc) rfl rfl (by rw [List.length_map, List.length_range]; omega) hd (fun H locs hP hD hS => ?_)
  rw [ws9_set (σ' := sL σ k0 (j : Nat) x) (k := k0) (fsL9 hs hfk) (fun k' hk' => ent_aL hk')] at hP
  exact k γ p l e s m args below meth c H locs d0 ls C hd0 hl hS hP
theorem v_ireturn {z : Int} {R : Int → S9 → Prop} (hd : decode mi.2.1 pc = .ok (.ireturn, 1)) (ht : mi.2.2.2 = some .int) (k : R z σ) : Vv d mi pc lv [.int (iI z)] σ (QI R) := by
  intro γ p l e s m args below meth c H locs d0 ls C hd0 hl hS hP
  obtain ⟨hx, hb, hr, hml, hown, hts, hlk, hK, hG⟩ := id C
  have hK1 : va_K (γ.2.1, γ.2.2.1) cls9 (ty9 γ) (s.setDrawn d0) := hK
  have hP1 : va_P (γ.2.1, γ.2.2.1) cls9 (ws9 γ σ) H := hP
  have hown1 : (s.setDrawn d0).vm.findClass mi.1.cls = some m.cls := hown
  refine W.endD hd0 ?_
  exact W.iret hx hb (hr.trans ht) (fun t ht hW => ⟨⟨[.int (iI z)], σ, rfl, Nat.le_refl 1, ⟨z, rfl, k⟩, by rw [ht]; exact hP, va_K.moved hW.alike hK⟩, hS.F ht⟩) hS.2.2 hd hlk
theorem v_zreturn {z : Int} {R : Int → S9 → Prop} (hd : decode mi.2.1 pc = .ok (.ireturn, 1)) (ht : mi.2.2.2 = some .boolean) (hz1 : z = 0 ∨ z = 1) (k : R z σ) : Vv d mi pc lv [.int (iI z)] σ (QI R) := by
  intro γ p l e s m args below meth c H locs d0 ls C hd0 hl hS hP
  obtain ⟨hx, hb, hr, hml, hown, hts, hlk, hK, hG⟩ := id C
  have hK1 : va_K (γ.2.1, γ.2.2.1) cls9 (ty9 γ) (s.setDrawn d0) := hK
  have hP1 : va_P (γ.2.1, γ.2.2.1) cls9 (ws9 γ σ) H := hP
  have hown1 : (s.setDrawn d0).vm.findClass mi.1.cls = some m.cls := hown
  refine W.endD hd0 ?_
  exact W.zret hx hb (hr.trans ht) (by rcases hz1 with h | h <;> subst h <;> decide) (fun t ht hW => ⟨⟨[.int (iI z)], σ, rfl, Nat.le_refl 1, ⟨z, rfl, k⟩, by rw [ht]; exact hP, va_K.moved hW.alike hK⟩, hS.F ht⟩) hS.2.2 hd hlk
theorem v_lreturn {z : Int} {R : Int → S9 → Prop} (hd : decode mi.2.1 pc = .ok (.lreturn, 1)) (ht : mi.2.2.2 = some .long) (k : R z σ) : Vv d mi pc lv [.long (lI z)] σ (QL R) := by
  intro γ p l e s m args below meth c H locs d0 ls C hd0 hl hS hP
  obtain ⟨hx, hb, hr, hml, hown, hts, hlk, hK, hG⟩ := id C
  have hK1 : va_K (γ.2.1, γ.2.2.1) cls9 (ty9 γ) (s.setDrawn d0) := hK
  have hP1 : va_P (γ.2.1, γ.2.2.1) cls9 (ws9 γ σ) H := hP
  have hown1 : (s.setDrawn d0).vm.findClass mi.1.cls = some m.cls := hown
  refine W.endD hd0 ?_
  exact W.lret hx hb (hr.trans ht) (fun t ht hW => ⟨⟨[.long (lI z)], σ, rfl, Nat.le_refl 1, ⟨z, rfl, k⟩, by rw [ht]; exact hP, va_K.moved hW.alike hK⟩, hS.F ht⟩) hS.2.2 hd hlk
theorem v_freturn {z : UInt32} {R : UInt32 → S9 → Prop} (hd : decode mi.2.1 pc = .ok (.freturn, 1)) (ht : mi.2.2.2 = some .float) (k : R z σ) : Vv d mi pc lv [.float z] σ (QF R) := by
  intro γ p l e s m args below meth c H locs d0 ls C hd0 hl hS hP
  obtain ⟨hx, hb, hr, hml, hown, hts, hlk, hK, hG⟩ := id C
  have hK1 : va_K (γ.2.1, γ.2.2.1) cls9 (ty9 γ) (s.setDrawn d0) := hK
  have hP1 : va_P (γ.2.1, γ.2.2.1) cls9 (ws9 γ σ) H := hP
  have hown1 : (s.setDrawn d0).vm.findClass mi.1.cls = some m.cls := hown
  refine W.endD hd0 ?_
  exact W.fret hx hb (hr.trans ht) (fun t ht hW => ⟨⟨[.float z], σ, rfl, Nat.le_refl 1, ⟨z, rfl, k⟩, by rw [ht]; exact hP, va_K.moved hW.alike hK⟩, hS.F ht⟩) hS.2.2 hd hlk
theorem v_dreturn {z : UInt64} {R : UInt64 → S9 → Prop} (hd : decode mi.2.1 pc = .ok (.dreturn, 1)) (ht : mi.2.2.2 = some .double) (k : R z σ) : Vv d mi pc lv [.double z] σ (QD R) := by
  intro γ p l e s m args below meth c H locs d0 ls C hd0 hl hS hP
  obtain ⟨hx, hb, hr, hml, hown, hts, hlk, hK, hG⟩ := id C
  have hK1 : va_K (γ.2.1, γ.2.2.1) cls9 (ty9 γ) (s.setDrawn d0) := hK
  have hP1 : va_P (γ.2.1, γ.2.2.1) cls9 (ws9 γ σ) H := hP
  have hown1 : (s.setDrawn d0).vm.findClass mi.1.cls = some m.cls := hown
  refine W.endD hd0 ?_
  exact W.dret hx hb (hr.trans ht) (fun t ht hW => ⟨⟨[.double z], σ, rfl, Nat.le_refl 1, ⟨z, rfl, k⟩, by rw [ht]; exact hP, va_K.moved hW.alike hK⟩, hS.F ht⟩) hS.2.2 hd hlk
theorem v_return {R : S9 → Prop} (hd : decode mi.2.1 pc = .ok (.return_, 1)) (ht : mi.2.2.2 = none) (k : R σ) : Vv d mi pc lv [] σ (QV R) := by
  intro γ p l e s m args below meth c H locs d0 ls C hd0 hl hS hP
  obtain ⟨hx, hb, hr, hml, hown, hts, hlk, hK, hG⟩ := id C
  have hK1 : va_K (γ.2.1, γ.2.2.1) cls9 (ty9 γ) (s.setDrawn d0) := hK
  have hP1 : va_P (γ.2.1, γ.2.2.1) cls9 (ws9 γ σ) H := hP
  have hown1 : (s.setDrawn d0).vm.findClass mi.1.cls = some m.cls := hown
  refine W.endD hd0 ?_
  exact W.vret hx hb (hr.trans ht) (fun t ht hW => ⟨⟨[], σ, rfl, Nat.zero_le 1, ⟨rfl, k⟩, by rw [ht]; exact hP, va_K.moved hW.alike hK⟩, hS.F ht⟩) hS.2.2 hd hlk
end
end
section
/-- a word by its place in the tables -/
theorem w9 {w : Cond} (i : Nat) (h : lw_tbl[i]? = some w) (hg : goodWord w = true) : w ∈ lw_w := List.mem_filter.mpr ⟨List.mem_append_right _ (List.mem_of_getElem? h), hg⟩
theorem w9x {w : Cond} (h : w ∈ lw_sx) (hg : goodWord w = true) : w ∈ lw_w := List.mem_filter.mpr ⟨List.mem_append_left _ h, hg⟩
/-- a private method of a class above the receiver's own -/
theorem sel9 {C : String} {y z x : MethodName} {s : State} {args : Array Value} (hy : y.cls ≠ "java/lang/invoke/MethodHandle" ∧ y.cls ≠ "java/lang/invoke/VarHandle") (hz : (Cond.selects C x z).before args s = true) (hzy : z.cls = y.cls)
    (hpriv : (Cond.privateMethod y).before args s = true) (hinst : (Cond.instanceMethod y).before args s = true) : (Cond.selects C y y).before args s = true := by
  obtain ⟨c, r, m0, hc, -, hm0, -, k, hk, hni⟩ := Cond.selects_spec hz
  obtain ⟨mk, methM, hnamed, hmethM, -, -⟩ := Cond.instanceMethod_spec hinst
  have hfound : s.methodFound? y.cls y.name y.desc = some mk := State.methodFound?_of_named hnamed hy
  have h1 := findClass_of_methodNamed hnamed
  have h2 := findClass_of_methodNamed hm0
  rw [hzy] at h2
  have hcls : mk.cls = m0.cls := Option.some.inj (h1.symm.trans h2)
  have hsel : selectMethod {} s.vm c mk = .method mk := selectMethod_private hmethM (Cond.privateMethod_at hpriv mk methM hnamed hmethM)
  simp only [Cond.before, Cond.holds, Cond.value, hc, hfound, hnamed, hsel, hcls, hk]
  simp; exact hni
/-- the words of lw_w out of the tables' -/
theorem lw_w_of {args : Array Value} {s : State} (hts : ∀ w ∈ lw_tbl, w.before args s = true) : ∀ w ∈ lw_w, w.before args s = true := by
  intro w hw
  rcases List.mem_append.mp (List.mem_filter.mp hw).1 with h | h
  · have hp : (Cond.privateMethod yX6_advance).before args s = true := hts _ (List.mem_of_getElem? (i := 535) (by decide +kernel))
    have hi : (Cond.instanceMethod yX6_advance).before args s = true := hts _ (List.mem_of_getElem? (i := 536) (by decide +kernel))
    have h2 : (Cond.selects RX2 ⟨RX2, "findFirst", "(II)Z"⟩ yX6_findFirst).before args s = true := hts _ (List.mem_of_getElem? (i := 564) (by decide +kernel))
    have h3 : (Cond.selects RX3 ⟨RX3, "findFirst", "(II)Z"⟩ yX6_findFirst).before args s = true := hts _ (List.mem_of_getElem? (i := 506) (by decide +kernel))
    rcases List.mem_cons.mp h with rfl | h
    · exact sel9 ⟨by decide +kernel, by decide +kernel⟩ h2 rfl hp hi
    · rcases List.mem_cons.mp h with rfl | h
      · exact sel9 ⟨by decide +kernel, by decide +kernel⟩ h3 rfl hp hi
      · exact absurd h List.not_mem_nil
  · exact hts w h
abbrev nMH (c : String) : Prop := c ≠ "java/lang/invoke/MethodHandle" ∧ c ≠ "java/lang/invoke/VarHandle"
abbrev np9 (y : MethodName) : Option Nat := (parseMethodDescriptor y.desc).map (fun d => d.parameters.length)
/-- entry idx of own's pool is the static method mj, of n parameters -/
def lkS (own : String) (idx : Nat) (mj : MI) (n : Nat) : Prop := Cond.methodLink own idx mj.1 ∈ lw_w ∧ Cond.static mj.1 ∈ lw_w ∧ Cond.initialized mj.1.cls ∈ lw_w ∧ Cond.code mj.1 mj.2.1 mj.2.2.1 mj.2.2.2 ∈ lw_w ∧ nMH mj.1.cls ∧ np9 mj.1 = some n ∧ mj.2.2.1 ≤ 41
/-- .. the instance method mj of class ci, called on an object of that very class -/
def lkV (own : String) (idx ci : Nat) (mj : MI) (n : Nat) : Prop := Cond.methodLink own idx mj.1 ∈ lw_w ∧ Cond.instanceMethod mj.1 ∈ lw_w ∧ Cond.selects mj.1.cls mj.1 mj.1 ∈ lw_w ∧ Cond.initialized mj.1.cls ∈ lw_w ∧ Cond.code mj.1 mj.2.1 mj.2.2.1 mj.2.2.2 ∈ lw_w ∧ nMH mj.1.cls ∧ np9 mj.1 = some n ∧ mj.2.2.1 ≤ 41 ∧ ∃ (T : u_T) (N : Nat), cls9[ci]? = some (mj.1.cls, T, N)
/-- .. a method x of class owner, for which an object of class ci has mj -/
def lkU (own : String) (idx ci : Nat) (owner : String) (x : MethodName) (mj : MI) (n : Nat) : Prop := ∃ (C : String) (T : u_T) (N : Nat), cls9[ci]? = some (C, T, N) ∧ Cond.methodLink own idx x ∈ lw_w ∧ Cond.sameMethod x.cls owner x.name x.desc ∈ lw_w ∧ Cond.selects C x mj.1 ∈ lw_w ∧ Cond.instanceMethod mj.1 ∈ lw_w ∧ Cond.initialized mj.1.cls ∈ lw_w ∧ Cond.code mj.1 mj.2.1 mj.2.2.1 mj.2.2.2 ∈ lw_w ∧ nMH owner ∧ (parseMethodDescriptor x.desc).map (fun d => d.parameters.length) = some n ∧ mj.2.2.1 ≤ 41 ∧
  (mj.1 = ⟨owner, x.name, x.desc⟩ ∨ Cond.declares ⟨owner, x.name, x.desc⟩ ∈ lw_w)
theorem blind9 {γ : G9} {av : List Value} {σ : S9} : FrameBlind (va_Pc av (fun U => P9 γ σ U.heap ∧ K9 γ U)) := fun a U g mk q => ⟨q.1, q.2.1, va_K.moved (u := U) (U := U.calling g mk a) (Vm.Alike.refl U.vm) q.2.2⟩
theorem good9 {a : List Cond} {mj : MI} (ha : ∀ w ∈ a, w ∈ lw_w) (hc : Cond.code mj.1 mj.2.1 mj.2.2.1 mj.2.2.2 ∈ lw_w) : GoodIn lw_w (a ++ pw9 mj) := gi9 (fun w hw => by
  rcases List.mem_append.mp hw with h | h
  · exact ha w h
  · rcases List.mem_cons.mp h with rfl | h
    · exact hc
    · exact h)
section
variable {d : Nat} {mi mj : MI} {pc idx n ci k0 : Nat} {lv lv' st stk As : List Value} {σ : S9} {Q Q' : List Value → S9 → Prop}
theorem run9 {γ : G9} {p : Program} {l : Launch} {e : Env} {R : Room} {s : State} {m : MethodId} {args : Array Value} {below : List Frame} {meth : Method} {c : Code} {H : Heap} {locs : List Loc} {d0 : Drawn} {ls : Array Slot} {st0 rest : List Value} {a : Array Value} {Z : State → Prop} (hd0 : s.drawn.sameBut d0 lw_cs)
    (hr : va_RunD lw_cs p l e R (s.setDrawn d0) m args below meth c H locs 0 0 0 0 (F0 m pc ls st0) rest (Qc9 γ Q' a) (gA γ)) (hS : va_S (gA γ) s.heap H locs)
    (kk : ∀ (r : List Value) (σ' : S9) (H1 : Heap) (locs1 : List Loc) (d1 : Drawn), Q' r σ' → P9 γ σ' H1 → va_S (gA γ) s.heap H1 locs1 → s.drawn.sameBut d1 lw_cs → W p l e R (s.setDrawn d1) m args below meth c H1 locs1 0 0 Z (F0 m (pc + 3) ls (r.map (trv γ.1) ++ rest))) : W p l e R (s.setDrawn d0) m args below meth c H locs 0 0 Z (F0 m pc ls st0) := by
  intro T hT X
  obtain ⟨v, st₀, t, T', L, d', hd', h0, X', hL, e1, e2, ⟨⟨r, σ', hv, hlen, hq, hP', hK'⟩, hz, hk⟩, st⟩ := hr T hT X
  rw [h0] at hz hk
  have hS1 : va_S (gA γ) s.heap T'.heap (locs ++ L) := ⟨Nat.le_trans hS.1 (by rw [e1]; exact hz), fun q h1 h2 => by
      rw [e1, hk q (Nat.lt_of_lt_of_le h1 hS.1) h2]
      exact hS.2.1 q h1 h2, fun q hq => by
      rcases List.mem_append.mp hq with h | h
      · exact hS.2.2 q h
      · exact hL q h⟩
  obtain ⟨t2, a1, b1⟩ := kk r σ' T'.heap (locs ++ L) d' hq (by rw [e1]; exact hP') hS1 (hd0.trans hd') T' rfl X'
  have hvr : v.toList = r.map (trv γ.1) := by
    have hv' := Option.some.inj (congrArg (fun o => match o with | .returned x => some x | _ => none) hv)
    rw [hv']
    match r, hlen with
    | [], _ => rfl
    | [x], _ => rfl
  exact ⟨t2, st t2 (by rw [hvr]; exact a1), b1⟩
theorem callS9 (hd : decode mi.2.1 pc = .ok (.invokestatic idx, 3)) (hk : lkS mi.1.cls idx mj n) (hn : As.length = n) (hst : stk = As.reverse ++ st) (hW : (st.map Value.category).sum ≤ 8) (h : Cc d mj As σ Q') (kk : ∀ r σ', Q' r σ' → Vv (d + 1) mi (pc + 3) lv (r ++ st) σ' Q) : Vv (d + 1) mi pc lv stk σ Q := by
  intro γ p l e s m args below meth c H locs d0 ls C hd0 hl hS hP
  obtain ⟨hx, hb, hr, hml, hown, hts, hlk, hK, hG⟩ := id C
  obtain ⟨g1, g2, g3, g4, g5, g6, g7⟩ := hk
  subst hst
  have hw1 : ((st.map (trv γ.1)).map fun v => v.category).sum ≤ 8 := by rw [List.map_map]; simpa [Function.comp_def, trv_cat] using hW
  refine run9 (Q' := Q') (rest := st.map (trv γ.1)) hd0 (va_runS_D (As := As.map (trv γ.1)) ⟨hx, hb, hml, hown, dr_words hts _⟩ (h γ l hG) (va_cwS n (dr_words hts _) (good9 (a := [.methodLink mi.1.cls idx mj.1, .static mj.1, .initialized mj.1.cls]) (by simpa using ⟨g1, g2, g3⟩) g4) rfl rfl rfl ⟨g5.1, g5.2, g6⟩ ⟨Nat.le_refl _, by show 8 + (mj.2.2.1 + 11) + 60 * d ≤ 60 * (d + 1); omega⟩)
    ⟨blind9, fun U hU hW => ⟨rfl, by rw [hU]; exact hP, va_K.moved hW.alike hK⟩⟩ rfl (by rw [List.length_map]; exact hn) hl.1 (by simp [List.map_append, List.map_reverse]) (lv_room hw1) hd ⟨Nat.le_refl _, Nat.le_refl _⟩) hS ?_
  intro r σ' H1 locs1 d1 hq hP1 hS1 hd1
  have h2 := kk r σ' hq γ p l e s m args below meth c H1 locs1 d1 ls C hd1 hl hS1 hP1
  rwa [List.map_append] at h2
theorem callV9 (hd : decode mi.2.1 pc = .ok (.invokevirtual idx, 3)) (hk : lkV mi.1.cls idx ci mj n) (hs9 : sh9 k0 0 ci) (hn : As.length = n) (hst : stk = As.reverse ++ .ref k0 :: st) (hW : (st.map Value.category).sum ≤ 8) (h : Cc d mj (.ref k0 :: As) σ Q') (kk : ∀ r σ', Q' r σ' → Vv (d + 1) mi (pc + 3) lv (r ++ st) σ' Q) : Vv (d + 1) mi pc lv stk σ Q := by
  intro γ p l e s m args below meth c H locs d0 ls C hd0 hl hS hP
  obtain ⟨hx, hb, hr, hml, hown, hts, hlk, hK, hG⟩ := id C
  obtain ⟨g1, g2, g3, g3b, g4, g5, g6, g7, T, N, hc⟩ := hk
  obtain ⟨hk0, hs, -⟩ := hs9
  subst hst
  have hw1 : ((st.map (trv γ.1)).map fun v => v.category).sum ≤ 8 := by rw [List.map_map]; simpa [Function.comp_def, trv_cat] using hW
  have hK1 : va_K (γ.2.1, γ.2.2.1) cls9 (ty9 γ) (s.setDrawn d0) := hK
  have hP1 : va_P (γ.2.1, γ.2.2.1) cls9 (ws9 γ σ) H := hP
  have hg : (ws9 γ σ)[k0]? = some (γ.1 k0, .inr (ci, (List.range (fkL.getD ci []).length).map (fun j => fvv γ.1 σ k0 j (fk ci j)))) := (ws9_get hk0).trans (by rw [ent_O hs])
  refine run9 (Q' := Q') (rest := st.map (trv γ.1)) hd0 (va_runV_D (As := As.map (trv γ.1)) ⟨hx, hb, hml, hown, dr_words hts _⟩ (h γ l hG) (cwV n (dr_words hts _) (good9 (a := [.methodLink mi.1.cls idx mj.1, .instanceMethod mj.1, .selects mj.1.cls mj.1 mj.1, .initialized mj.1.cls]) (by simpa using ⟨g1, g2, g3, g3b⟩) g4) rfl rfl rfl ⟨rfl, g5.1, g5.2, g6⟩ ⟨Nat.le_refl _, by show 8 + (mj.2.2.1 + 11) + 60 * d ≤ 60 * (d + 1); omega⟩)
    ⟨blind9, va_recv hK1 hP1 hc hg, fun U hU hW => ⟨rfl, by rw [hU]; exact hP, va_K.moved hW.alike hK⟩⟩ rfl (by rw [List.length_map]; exact hn) hl.1 (by simp [List.map_append, List.map_reverse, trv]) (lv_room hw1) hd ⟨Nat.le_refl _, Nat.le_refl _⟩) hS ?_
  intro r σ' H1 locs1 d1 hq hP1 hS1 hd1
  have h2 := kk r σ' hq γ p l e s m args below meth c H1 locs1 d1 ls C hd1 hl hS1 hP1
  rwa [List.map_append] at h2
theorem callU9 {owner : String} {x : MethodName} (hd : decode mi.2.1 pc = .ok (.invokevirtual idx, 3)) (hk : lkU mi.1.cls idx ci owner x mj n) (hs9 : sh9 k0 0 ci) (hn : As.length = n) (hst : stk = As.reverse ++ .ref k0 :: st) (hW : (st.map Value.category).sum ≤ 8) (h : Cc d mj (.ref k0 :: As) σ Q') (kk : ∀ r σ', Q' r σ' → Vv (d + 1) mi (pc + 3) lv (r ++ st) σ' Q) : Vv (d + 1) mi pc lv stk σ Q := by
  intro γ p l e s m args below meth c H locs d0 ls C hd0 hl hS hP
  obtain ⟨hx, hb, hr, hml, hown, hts, hlk, hK, hG⟩ := id C
  obtain ⟨C0, T, N, hc, g1, g2, g3, g3b, g3c, g4, g5, g6, g7, g8⟩ := hk
  obtain ⟨hk0, hs, -⟩ := hs9
  subst hst
  have hw1 : ((st.map (trv γ.1)).map fun v => v.category).sum ≤ 8 := by rw [List.map_map]; simpa [Function.comp_def, trv_cat] using hW
  have hK1 : va_K (γ.2.1, γ.2.2.1) cls9 (ty9 γ) (s.setDrawn d0) := hK
  have hP1 : va_P (γ.2.1, γ.2.2.1) cls9 (ws9 γ σ) H := hP
  have hg : (ws9 γ σ)[k0]? = some (γ.1 k0, .inr (ci, (List.range (fkL.getD ci []).length).map (fun j => fvv γ.1 σ k0 j (fk ci j)))) := (ws9_get hk0).trans (by rw [ent_O hs])
  have hR : (rm9 d).frames + 1 ≤ (rm9 (d + 1)).frames ∧ 8 + (mj.2.2.1 + 11) + (rm9 d).locals ≤ (rm9 (d + 1)).locals := ⟨Nat.le_refl _, by show 8 + (mj.2.2.1 + 11) + 60 * d ≤ 60 * (d + 1); omega⟩
  have hgd : GoodIn lw_w (va_wsU mi.1.cls idx C0 owner x mj.1 (pw9 mj)) := good9 (a := [.methodLink mi.1.cls idx x, .sameMethod x.cls owner x.name x.desc, .selects C0 x mj.1, .instanceMethod mj.1, .initialized mj.1.cls]) (by simpa using ⟨g1, g2, g3, g3b, g3c⟩) g4
  have hcu : va_CU (rm9 (d + 1)) (s.setDrawn d0) args mi.1.cls C0 owner idx x mj.1 mj.2.1 mj.2.2.1 mj.2.2.2 (pw9 mj) (rm9 d) 0 0 n := by
    rcases g8 with g8 | g8
    · exact va_cwU n (dr_words hts _) hgd rfl rfl rfl g8 ⟨g5.1, g5.2, g6⟩ hR
    · exact va_cwA n (dr_words hts _) hgd rfl rfl rfl (va_any rfl (dr_words hts d0 _ g8)) ⟨g5.1, g5.2, g6⟩ hR
  refine run9 (Q' := Q') (rest := st.map (trv γ.1)) hd0 (va_runU_D (As := As.map (trv γ.1)) ⟨hx, hb, hml, hown, dr_words hts _⟩ (h γ l hG) hcu
    ⟨blind9, va_recv hK1 hP1 hc hg, fun U hU hW => ⟨rfl, by rw [hU]; exact hP, va_K.moved hW.alike hK⟩⟩ rfl (by rw [List.length_map]; exact hn) hl.1 (by simp [List.map_append, List.map_reverse, trv]) (lv_room hw1) hd ⟨Nat.le_refl _, Nat.le_refl _⟩) hS ?_
  intro r σ' H1 locs1 d1 hq hP1 hS1 hd1
  have h2 := kk r σ' hq γ p l e s m args below meth c H1 locs1 d1 ls C hd1 hl hS1 hP1
  rwa [List.map_append] at h2
theorem v_callSi1 {a0 : Value} (hd : decode mi.2.1 pc = .ok (.invokestatic idx, 3)) (hk : lkS mi.1.cls idx mj 1) (hW : (st.map Value.category).sum ≤ 8) (h : Cc d mj [a0] σ (QI (fun z σ' => Vv (d + 1) mi (pc + 3) lv (.int (iI z) :: st) σ' Q))) : Vv (d + 1) mi pc lv (a0 :: st) σ Q := callS9 hd hk (As := [a0]) rfl rfl hW h (fun r σ' hq => by obtain ⟨z, hr, hp⟩ := hq; subst hr; exact hp)
theorem v_callSl1 {a0 : Value} (hd : decode mi.2.1 pc = .ok (.invokestatic idx, 3)) (hk : lkS mi.1.cls idx mj 1) (hW : (st.map Value.category).sum ≤ 8) (h : Cc d mj [a0] σ (QL (fun z σ' => Vv (d + 1) mi (pc + 3) lv (.long (lI z) :: st) σ' Q))) : Vv (d + 1) mi pc lv (a0 :: st) σ Q := callS9 hd hk (As := [a0]) rfl rfl hW h (fun r σ' hq => by obtain ⟨z, hr, hp⟩ := hq; subst hr; exact hp)
theorem v_callSf1 {a0 : Value} (hd : decode mi.2.1 pc = .ok (.invokestatic idx, 3)) (hk : lkS mi.1.cls idx mj 1) (hW : (st.map Value.category).sum ≤ 8) (h : Cc d mj [a0] σ (QF (fun z σ' => Vv (d + 1) mi (pc + 3) lv (.float z :: st) σ' Q))) : Vv (d + 1) mi pc lv (a0 :: st) σ Q := callS9 hd hk (As := [a0]) rfl rfl hW h (fun r σ' hq => by obtain ⟨z, hr, hp⟩ := hq; subst hr; exact hp)
theorem v_callSd1 {a0 : Value} (hd : decode mi.2.1 pc = .ok (.invokestatic idx, 3)) (hk : lkS mi.1.cls idx mj 1) (hW : (st.map Value.category).sum ≤ 8) (h : Cc d mj [a0] σ (QD (fun z σ' => Vv (d + 1) mi (pc + 3) lv (.double z :: st) σ' Q))) : Vv (d + 1) mi pc lv (a0 :: st) σ Q := callS9 hd hk (As := [a0]) rfl rfl hW h (fun r σ' hq => by obtain ⟨z, hr, hp⟩ := hq; subst hr; exact hp)
theorem v_callSv1 {a0 : Value} (hd : decode mi.2.1 pc = .ok (.invokestatic idx, 3)) (hk : lkS mi.1.cls idx mj 1) (hW : (st.map Value.category).sum ≤ 8) (h : Cc d mj [a0] σ (QV (fun σ' => Vv (d + 1) mi (pc + 3) lv st σ' Q))) : Vv (d + 1) mi pc lv (a0 :: st) σ Q := callS9 hd hk (As := [a0]) rfl rfl hW h (fun r σ' hq => by obtain ⟨hr, hp⟩ := hq; subst hr; exact hp)
theorem v_callSi2 {a0 a1 : Value} (hd : decode mi.2.1 pc = .ok (.invokestatic idx, 3)) (hk : lkS mi.1.cls idx mj 2) (hW : (st.map Value.category).sum ≤ 8) (h : Cc d mj [a0, a1] σ (QI (fun z σ' => Vv (d + 1) mi (pc + 3) lv (.int (iI z) :: st) σ' Q))) : Vv (d + 1) mi pc lv (a1 :: a0 :: st) σ Q := callS9 hd hk (As := [a0, a1]) rfl rfl hW h (fun r σ' hq => by obtain ⟨z, hr, hp⟩ := hq; subst hr; exact hp)
theorem v_callSl2 {a0 a1 : Value} (hd : decode mi.2.1 pc = .ok (.invokestatic idx, 3)) (hk : lkS mi.1.cls idx mj 2) (hW : (st.map Value.category).sum ≤ 8) (h : Cc d mj [a0, a1] σ (QL (fun z σ' => Vv (d + 1) mi (pc + 3) lv (.long (lI z) :: st) σ' Q))) : Vv (d + 1) mi pc lv (a1 :: a0 :: st) σ Q := callS9 hd hk (As := [a0, a1]) rfl rfl hW h (fun r σ' hq => by obtain ⟨z, hr, hp⟩ := hq; subst hr; exact hp)
theorem v_callSf2 {a0 a1 : Value} (hd : decode mi.2.1 pc = .ok (.invokestatic idx, 3)) (hk : lkS mi.1.cls idx mj 2) (hW : (st.map Value.category).sum ≤ 8) (h : Cc d mj [a0, a1] σ (QF (fun z σ' => Vv (d + 1) mi (pc + 3) lv (.float z :: st) σ' Q))) : Vv (d + 1) mi pc lv (a1 :: a0 :: st) σ Q := callS9 hd hk (As := [a0, a1]) rfl rfl hW h (fun r σ' hq => by obtain ⟨z, hr, hp⟩ := hq; subst hr; exact hp)
theorem v_callSd2 {a0 a1 : Value} (hd : decode mi.2.1 pc = .ok (.invokestatic idx, 3)) (hk : lkS mi.1.cls idx mj 2) (hW : (st.map Value.category).sum ≤ 8) (h : Cc d mj [a0, a1] σ (QD (fun z σ' => Vv (d + 1) mi (pc + 3) lv (.double z :: st) σ' Q))) : Vv (d + 1) mi pc lv (a1 :: a0 :: st) σ Q := callS9 hd hk (As := [a0, a1]) rfl rfl hW h (fun r σ' hq => by obtain ⟨z, hr, hp⟩ := hq; subst hr; exact hp)
theorem v_callSv2 {a0 a1 : Value} (hd : decode mi.2.1 pc = .ok (.invokestatic idx, 3)) (hk : lkS mi.1.cls idx mj 2) (hW : (st.map Value.category).sum ≤ 8) (h : Cc d mj [a0, a1] σ (QV (fun σ' => Vv (d + 1) mi (pc + 3) lv st σ' Q))) : Vv (d + 1) mi pc lv (a1 :: a0 :: st) σ Q := callS9 hd hk (As := [a0, a1]) rfl rfl hW h (fun r σ' hq => by obtain ⟨hr, hp⟩ := hq; subst hr; exact hp)
theorem v_callSi3 {a0 a1 a2 : Value} (hd : decode mi.2.1 pc = .ok (.invokestatic idx, 3)) (hk : lkS mi.1.cls idx mj 3) (hW : (st.map Value.category).sum ≤ 8) (h : Cc d mj [a0, a1, a2] σ (QI (fun z σ' => Vv (d + 1) mi (pc + 3) lv (.int (iI z) :: st) σ' Q))) : Vv (d + 1) mi pc lv (a2 :: a1 :: a0 :: st) σ Q := callS9 hd hk (As := [a0, a1, a2]) rfl rfl hW h (fun r σ' hq => by obtain ⟨z, hr, hp⟩ := hq; subst hr; exact hp)
theorem v_callSl3 {a0 a1 a2 : Value} (hd : decode mi.2.1 pc = .ok (.invokestatic idx, 3)) (hk : lkS mi.1.cls idx mj 3) (hW : (st.map Value.category).sum ≤ 8) (h : Cc d mj [a0, a1, a2] σ (QL (fun z σ' => Vv (d + 1) mi (pc + 3) lv (.long (lI z) :: st) σ' Q))) : Vv (d + 1) mi pc lv (a2 :: a1 :: a0 :: st) σ Q := callS9 hd hk (As := [a0, a1, a2]) rfl rfl hW h (fun r σ' hq => by obtain ⟨z, hr, hp⟩ := hq; subst hr; exact hp)
theorem v_callSv3 {a0 a1 a2 : Value} (hd : decode mi.2.1 pc = .ok (.invokestatic idx, 3)) (hk : lkS mi.1.cls idx mj 3) (hW : (st.map Value.category).sum ≤ 8) (h : Cc d mj [a0, a1, a2] σ (QV (fun σ' => Vv (d + 1) mi (pc + 3) lv st σ' Q))) : Vv (d + 1) mi pc lv (a2 :: a1 :: a0 :: st) σ Q := callS9 hd hk (As := [a0, a1, a2]) rfl rfl hW h (fun r σ' hq => by obtain ⟨hr, hp⟩ := hq; subst hr; exact hp)
theorem v_callSi4 {a0 a1 a2 a3 : Value} (hd : decode mi.2.1 pc = .ok (.invokestatic idx, 3)) (hk : lkS mi.1.cls idx mj 4) (hW : (st.map Value.category).sum ≤ 8) (h : Cc d mj [a0, a1, a2, a3] σ (QI (fun z σ' => Vv (d + 1) mi (pc + 3) lv (.int (iI z) :: st) σ' Q))) : Vv (d + 1) mi pc lv (a3 :: a2 :: a1 :: a0 :: st) σ Q := callS9 hd hk (As := [a0, a1, a2, a3]) rfl rfl hW h (fun r σ' hq => by obtain ⟨z, hr, hp⟩ := hq; subst hr; exact hp)
theorem v_callSl4 {a0 a1 a2 a3 : Value} (hd : decode mi.2.1 pc = .ok (.invokestatic idx, 3)) (hk : lkS mi.1.cls idx mj 4) (hW : (st.map Value.category).sum ≤ 8) (h : Cc d mj [a0, a1, a2, a3] σ (QL (fun z σ' => Vv (d + 1) mi (pc + 3) lv (.long (lI z) :: st) σ' Q))) : Vv (d + 1) mi pc lv (a3 :: a2 :: a1 :: a0 :: st) σ Q := callS9 hd hk (As := [a0, a1, a2, a3]) rfl rfl hW h (fun r σ' hq => by obtain ⟨z, hr, hp⟩ := hq; subst hr; exact hp)
theorem v_callSv4 {a0 a1 a2 a3 : Value} (hd : decode mi.2.1 pc = .ok (.invokestatic idx, 3)) (hk : lkS mi.1.cls idx mj 4) (hW : (st.map Value.category).sum ≤ 8) (h : Cc d mj [a0, a1, a2, a3] σ (QV (fun σ' => Vv (d + 1) mi (pc + 3) lv st σ' Q))) : Vv (d + 1) mi pc lv (a3 :: a2 :: a1 :: a0 :: st) σ Q := callS9 hd hk (As := [a0, a1, a2, a3]) rfl rfl hW h (fun r σ' hq => by obtain ⟨hr, hp⟩ := hq; subst hr; exact hp)
theorem v_callSi5 {a0 a1 a2 a3 a4 : Value} (hd : decode mi.2.1 pc = .ok (.invokestatic idx, 3)) (hk : lkS mi.1.cls idx mj 5) (hW : (st.map Value.category).sum ≤ 8) (h : Cc d mj [a0, a1, a2, a3, a4] σ (QI (fun z σ' => Vv (d + 1) mi (pc + 3) lv (.int (iI z) :: st) σ' Q))) : Vv (d + 1) mi pc lv (a4 :: a3 :: a2 :: a1 :: a0 :: st) σ Q := callS9 hd hk (As := [a0, a1, a2, a3, a4]) rfl rfl hW h (fun r σ' hq => by obtain ⟨z, hr, hp⟩ := hq; subst hr; exact hp)
theorem v_callSl5 {a0 a1 a2 a3 a4 : Value} (hd : decode mi.2.1 pc = .ok (.invokestatic idx, 3)) (hk : lkS mi.1.cls idx mj 5) (hW : (st.map Value.category).sum ≤ 8) (h : Cc d mj [a0, a1, a2, a3, a4] σ (QL (fun z σ' => Vv (d + 1) mi (pc + 3) lv (.long (lI z) :: st) σ' Q))) : Vv (d + 1) mi pc lv (a4 :: a3 :: a2 :: a1 :: a0 :: st) σ Q := callS9 hd hk (As := [a0, a1, a2, a3, a4]) rfl rfl hW h (fun r σ' hq => by obtain ⟨z, hr, hp⟩ := hq; subst hr; exact hp)
theorem v_callSv5 {a0 a1 a2 a3 a4 : Value} (hd : decode mi.2.1 pc = .ok (.invokestatic idx, 3)) (hk : lkS mi.1.cls idx mj 5) (hW : (st.map Value.category).sum ≤ 8) (h : Cc d mj [a0, a1, a2, a3, a4] σ (QV (fun σ' => Vv (d + 1) mi (pc + 3) lv st σ' Q))) : Vv (d + 1) mi pc lv (a4 :: a3 :: a2 :: a1 :: a0 :: st) σ Q := callS9 hd hk (As := [a0, a1, a2, a3, a4]) rfl rfl hW h (fun r σ' hq => by obtain ⟨hr, hp⟩ := hq; subst hr; exact hp)
theorem v_callSi6 {a0 a1 a2 a3 a4 a5 : Value} (hd : decode mi.2.1 pc = .ok (.invokestatic idx, 3)) (hk : lkS mi.1.cls idx mj 6) (hW : (st.map Value.category).sum ≤ 8) (h : Cc d mj [a0, a1, a2, a3, a4, a5] σ (QI (fun z σ' => Vv (d + 1) mi (pc + 3) lv (.int (iI z) :: st) σ' Q))) : Vv (d + 1) mi pc lv (a5 :: a4 :: a3 :: a2 :: a1 :: a0 :: st) σ Q := callS9 hd hk (As := [a0, a1, a2, a3, a4, a5]) rfl rfl hW h (fun r σ' hq => by obtain ⟨z, hr, hp⟩ := hq; subst hr; exact hp)
theorem v_callSl6 {a0 a1 a2 a3 a4 a5 : Value} (hd : decode mi.2.1 pc = .ok (.invokestatic idx, 3)) (hk : lkS mi.1.cls idx mj 6) (hW : (st.map Value.category).sum ≤ 8) (h : Cc d mj [a0, a1, a2, a3, a4, a5] σ (QL (fun z σ' => Vv (d + 1) mi (pc + 3) lv (.long (lI z) :: st) σ' Q))) : Vv (d + 1) mi pc lv (a5 :: a4 :: a3 :: a2 :: a1 :: a0 :: st) σ Q := callS9 hd hk (As := [a0, a1, a2, a3, a4, a5]) rfl rfl hW h (fun r σ' hq => by obtain ⟨z, hr, hp⟩ := hq; subst hr; exact hp)
theorem v_callSv6 {a0 a1 a2 a3 a4 a5 : Value} (hd : decode mi.2.1 pc = .ok (.invokestatic idx, 3)) (hk : lkS mi.1.cls idx mj 6) (hW : (st.map Value.category).sum ≤ 8) (h : Cc d mj [a0, a1, a2, a3, a4, a5] σ (QV (fun σ' => Vv (d + 1) mi (pc + 3) lv st σ' Q))) : Vv (d + 1) mi pc lv (a5 :: a4 :: a3 :: a2 :: a1 :: a0 :: st) σ Q := callS9 hd hk (As := [a0, a1, a2, a3, a4, a5]) rfl rfl hW h (fun r σ' hq => by obtain ⟨hr, hp⟩ := hq; subst hr; exact hp)
theorem v_callVi0 (hd : decode mi.2.1 pc = .ok (.invokevirtual idx, 3)) (hk : lkV mi.1.cls idx ci mj 0) (hs9 : sh9 k0 0 ci) (hW : (st.map Value.category).sum ≤ 8) (h : Cc d mj [.ref k0] σ (QI (fun z σ' => Vv (d + 1) mi (pc + 3) lv (.int (iI z) :: st) σ' Q))) : Vv (d + 1) mi pc lv (.ref k0 :: st) σ Q := callV9 hd hk hs9 (As := []) rfl rfl hW h (fun r σ' hq => by obtain ⟨z, hr, hp⟩ := hq; subst hr; exact hp)
theorem v_callVl0 (hd : decode mi.2.1 pc = .ok (.invokevirtual idx, 3)) (hk : lkV mi.1.cls idx ci mj 0) (hs9 : sh9 k0 0 ci) (hW : (st.map Value.category).sum ≤ 8) (h : Cc d mj [.ref k0] σ (QL (fun z σ' => Vv (d + 1) mi (pc + 3) lv (.long (lI z) :: st) σ' Q))) : Vv (d + 1) mi pc lv (.ref k0 :: st) σ Q := callV9 hd hk hs9 (As := []) rfl rfl hW h (fun r σ' hq => by obtain ⟨z, hr, hp⟩ := hq; subst hr; exact hp)
theorem v_callVf0 (hd : decode mi.2.1 pc = .ok (.invokevirtual idx, 3)) (hk : lkV mi.1.cls idx ci mj 0) (hs9 : sh9 k0 0 ci) (hW : (st.map Value.category).sum ≤ 8) (h : Cc d mj [.ref k0] σ (QF (fun z σ' => Vv (d + 1) mi (pc + 3) lv (.float z :: st) σ' Q))) : Vv (d + 1) mi pc lv (.ref k0 :: st) σ Q := callV9 hd hk hs9 (As := []) rfl rfl hW h (fun r σ' hq => by obtain ⟨z, hr, hp⟩ := hq; subst hr; exact hp)
theorem v_callVd0 (hd : decode mi.2.1 pc = .ok (.invokevirtual idx, 3)) (hk : lkV mi.1.cls idx ci mj 0) (hs9 : sh9 k0 0 ci) (hW : (st.map Value.category).sum ≤ 8) (h : Cc d mj [.ref k0] σ (QD (fun z σ' => Vv (d + 1) mi (pc + 3) lv (.double z :: st) σ' Q))) : Vv (d + 1) mi pc lv (.ref k0 :: st) σ Q := callV9 hd hk hs9 (As := []) rfl rfl hW h (fun r σ' hq => by obtain ⟨z, hr, hp⟩ := hq; subst hr; exact hp)
theorem v_callVv0 (hd : decode mi.2.1 pc = .ok (.invokevirtual idx, 3)) (hk : lkV mi.1.cls idx ci mj 0) (hs9 : sh9 k0 0 ci) (hW : (st.map Value.category).sum ≤ 8) (h : Cc d mj [.ref k0] σ (QV (fun σ' => Vv (d + 1) mi (pc + 3) lv st σ' Q))) : Vv (d + 1) mi pc lv (.ref k0 :: st) σ Q := callV9 hd hk hs9 (As := []) rfl rfl hW h (fun r σ' hq => by obtain ⟨hr, hp⟩ := hq; subst hr; exact hp)
theorem v_callVi1 {a0 : Value} (hd : decode mi.2.1 pc = .ok (.invokevirtual idx, 3)) (hk : lkV mi.1.cls idx ci mj 1) (hs9 : sh9 k0 0 ci) (hW : (st.map Value.category).sum ≤ 8) (h : Cc d mj [.ref k0, a0] σ (QI (fun z σ' => Vv (d + 1) mi (pc + 3) lv (.int (iI z) :: st) σ' Q))) : Vv (d + 1) mi pc lv (a0 :: .ref k0 :: st) σ Q := callV9 hd hk hs9 (As := [a0]) rfl rfl hW h (fun r σ' hq => by obtain ⟨z, hr, hp⟩ := hq; subst hr; exact hp)
theorem v_callVl1 {a0 : Value} (hd : decode mi.2.1 pc = .ok (.invokevirtual idx, 3)) (hk : lkV mi.1.cls idx ci mj 1) (hs9 : sh9 k0 0 ci) (hW : (st.map Value.category).sum ≤ 8) (h : Cc d mj [.ref k0, a0] σ (QL (fun z σ' => Vv (d + 1) mi (pc + 3) lv (.long (lI z) :: st) σ' Q))) : Vv (d + 1) mi pc lv (a0 :: .ref k0 :: st) σ Q := callV9 hd hk hs9 (As := [a0]) rfl rfl hW h (fun r σ' hq => by obtain ⟨z, hr, hp⟩ := hq; subst hr; exact hp)
theorem v_callVf1 {a0 : Value} (hd : decode mi.2.1 pc = .ok (.invokevirtual idx, 3)) (hk : lkV mi.1.cls idx ci mj 1) (hs9 : sh9 k0 0 ci) (hW : (st.map Value.category).sum ≤ 8) (h : Cc d mj [.ref k0, a0] σ (QF (fun z σ' => Vv (d + 1) mi (pc + 3) lv (.float z :: st) σ' Q))) : Vv (d + 1) mi pc lv (a0 :: .ref k0 :: st) σ Q := callV9 hd hk hs9 (As := [a0]) rfl rfl hW h (fun r σ' hq => by obtain ⟨z, hr, hp⟩ := hq; subst hr; exact hp)
theorem v_callVd1 {a0 : Value} (hd : decode mi.2.1 pc = .ok (.invokevirtual idx, 3)) (hk : lkV mi.1.cls idx ci mj 1) (hs9 : sh9 k0 0 ci) (hW : (st.map Value.category).sum ≤ 8) (h : Cc d mj [.ref k0, a0] σ (QD (fun z σ' => Vv (d + 1) mi (pc + 3) lv (.double z :: st) σ' Q))) : Vv (d + 1) mi pc lv (a0 :: .ref k0 :: st) σ Q := callV9 hd hk hs9 (As := [a0]) rfl rfl hW h (fun r σ' hq => by obtain ⟨z, hr, hp⟩ := hq; subst hr; exact hp)
theorem v_callVv1 {a0 : Value} (hd : decode mi.2.1 pc = .ok (.invokevirtual idx, 3)) (hk : lkV mi.1.cls idx ci mj 1) (hs9 : sh9 k0 0 ci) (hW : (st.map Value.category).sum ≤ 8) (h : Cc d mj [.ref k0, a0] σ (QV (fun σ' => Vv (d + 1) mi (pc + 3) lv st σ' Q))) : Vv (d + 1) mi pc lv (a0 :: .ref k0 :: st) σ Q := callV9 hd hk hs9 (As := [a0]) rfl rfl hW h (fun r σ' hq => by obtain ⟨hr, hp⟩ := hq; subst hr; exact hp)
theorem v_callVi2 {a0 a1 : Value} (hd : decode mi.2.1 pc = .ok (.invokevirtual idx, 3)) (hk : lkV mi.1.cls idx ci mj 2) (hs9 : sh9 k0 0 ci) (hW : (st.map Value.category).sum ≤ 8) (h : Cc d mj [.ref k0, a0, a1] σ (QI (fun z σ' => Vv (d + 1) mi (pc + 3) lv (.int (iI z) :: st) σ' Q))) : Vv (d + 1) mi pc lv (a1 :: a0 :: .ref k0 :: st) σ Q := callV9 hd hk hs9 (As := [a0, a1]) rfl rfl hW h (fun r σ' hq => by obtain ⟨z, hr, hp⟩ := hq; subst hr; exact hp)
theorem v_callVl2 {a0 a1 : Value} (hd : decode mi.2.1 pc = .ok (.invokevirtual idx, 3)) (hk : lkV mi.1.cls idx ci mj 2) (hs9 : sh9 k0 0 ci) (hW : (st.map Value.category).sum ≤ 8) (h : Cc d mj [.ref k0, a0, a1] σ (QL (fun z σ' => Vv (d + 1) mi (pc + 3) lv (.long (lI z) :: st) σ' Q))) : Vv (d + 1) mi pc lv (a1 :: a0 :: .ref k0 :: st) σ Q := callV9 hd hk hs9 (As := [a0, a1]) rfl rfl hW h (fun r σ' hq => by obtain ⟨z, hr, hp⟩ := hq; subst hr; exact hp)
theorem v_callVf2 {a0 a1 : Value} (hd : decode mi.2.1 pc = .ok (.invokevirtual idx, 3)) (hk : lkV mi.1.cls idx ci mj 2) (hs9 : sh9 k0 0 ci) (hW : (st.map Value.category).sum ≤ 8) (h : Cc d mj [.ref k0, a0, a1] σ (QF (fun z σ' => Vv (d + 1) mi (pc + 3) lv (.float z :: st) σ' Q))) : Vv (d + 1) mi pc lv (a1 :: a0 :: .ref k0 :: st) σ Q := callV9 hd hk hs9 (As := [a0, a1]) rfl rfl hW h (fun r σ' hq => by obtain ⟨z, hr, hp⟩ := hq; subst hr; exact hp)
theorem v_callVd2 {a0 a1 : Value} (hd : decode mi.2.1 pc = .ok (.invokevirtual idx, 3)) (hk : lkV mi.1.cls idx ci mj 2) (hs9 : sh9 k0 0 ci) (hW : (st.map Value.category).sum ≤ 8) (h : Cc d mj [.ref k0, a0, a1] σ (QD (fun z σ' => Vv (d + 1) mi (pc + 3) lv (.double z :: st) σ' Q))) : Vv (d + 1) mi pc lv (a1 :: a0 :: .ref k0 :: st) σ Q := callV9 hd hk hs9 (As := [a0, a1]) rfl rfl hW h (fun r σ' hq => by obtain ⟨z, hr, hp⟩ := hq; subst hr; exact hp)
theorem v_callVv2 {a0 a1 : Value} (hd : decode mi.2.1 pc = .ok (.invokevirtual idx, 3)) (hk : lkV mi.1.cls idx ci mj 2) (hs9 : sh9 k0 0 ci) (hW : (st.map Value.category).sum ≤ 8) (h : Cc d mj [.ref k0, a0, a1] σ (QV (fun σ' => Vv (d + 1) mi (pc + 3) lv st σ' Q))) : Vv (d + 1) mi pc lv (a1 :: a0 :: .ref k0 :: st) σ Q := callV9 hd hk hs9 (As := [a0, a1]) rfl rfl hW h (fun r σ' hq => by obtain ⟨hr, hp⟩ := hq; subst hr; exact hp)
theorem v_callVi3 {a0 a1 a2 : Value} (hd : decode mi.2.1 pc = .ok (.invokevirtual idx, 3)) (hk : lkV mi.1.cls idx ci mj 3) (hs9 : sh9 k0 0 ci) (hW : (st.map Value.category).sum ≤ 8) (h : Cc d mj [.ref k0, a0, a1, a2] σ (QI (fun z σ' => Vv (d + 1) mi (pc + 3) lv (.int (iI z) :: st) σ' Q))) : Vv (d + 1) mi pc lv (a2 :: a1 :: a0 :: .ref k0 :: st) σ Q := callV9 hd hk hs9 (As := [a0, a1, a2]) rfl rfl hW h (fun r σ' hq => by obtain ⟨z, hr, hp⟩ := hq; subst hr; exact hp)
theorem v_callVl3 {a0 a1 a2 : Value} (hd : decode mi.2.1 pc = .ok (.invokevirtual idx, 3)) (hk : lkV mi.1.cls idx ci mj 3) (hs9 : sh9 k0 0 ci) (hW : (st.map Value.category).sum ≤ 8) (h : Cc d mj [.ref k0, a0, a1, a2] σ (QL (fun z σ' => Vv (d + 1) mi (pc + 3) lv (.long (lI z) :: st) σ' Q))) : Vv (d + 1) mi pc lv (a2 :: a1 :: a0 :: .ref k0 :: st) σ Q := callV9 hd hk hs9 (As := [a0, a1, a2]) rfl rfl hW h (fun r σ' hq => by obtain ⟨z, hr, hp⟩ := hq; subst hr; exact hp)
theorem v_callVv3 {a0 a1 a2 : Value} (hd : decode mi.2.1 pc = .ok (.invokevirtual idx, 3)) (hk : lkV mi.1.cls idx ci mj 3) (hs9 : sh9 k0 0 ci) (hW : (st.map Value.category).sum ≤ 8) (h : Cc d mj [.ref k0, a0, a1, a2] σ (QV (fun σ' => Vv (d + 1) mi (pc + 3) lv st σ' Q))) : Vv (d + 1) mi pc lv (a2 :: a1 :: a0 :: .ref k0 :: st) σ Q := callV9 hd hk hs9 (As := [a0, a1, a2]) rfl rfl hW h (fun r σ' hq => by obtain ⟨hr, hp⟩ := hq; subst hr; exact hp)
theorem v_callVi4 {a0 a1 a2 a3 : Value} (hd : decode mi.2.1 pc = .ok (.invokevirtual idx, 3)) (hk : lkV mi.1.cls idx ci mj 4) (hs9 : sh9 k0 0 ci) (hW : (st.map Value.category).sum ≤ 8) (h : Cc d mj [.ref k0, a0, a1, a2, a3] σ (QI (fun z σ' => Vv (d + 1) mi (pc + 3) lv (.int (iI z) :: st) σ' Q))) : Vv (d + 1) mi pc lv (a3 :: a2 :: a1 :: a0 :: .ref k0 :: st) σ Q := callV9 hd hk hs9 (As := [a0, a1, a2, a3]) rfl rfl hW h (fun r σ' hq => by obtain ⟨z, hr, hp⟩ := hq; subst hr; exact hp)
theorem v_callVl4 {a0 a1 a2 a3 : Value} (hd : decode mi.2.1 pc = .ok (.invokevirtual idx, 3)) (hk : lkV mi.1.cls idx ci mj 4) (hs9 : sh9 k0 0 ci) (hW : (st.map Value.category).sum ≤ 8) (h : Cc d mj [.ref k0, a0, a1, a2, a3] σ (QL (fun z σ' => Vv (d + 1) mi (pc + 3) lv (.long (lI z) :: st) σ' Q))) : Vv (d + 1) mi pc lv (a3 :: a2 :: a1 :: a0 :: .ref k0 :: st) σ Q := callV9 hd hk hs9 (As := [a0, a1, a2, a3]) rfl rfl hW h (fun r σ' hq => by obtain ⟨z, hr, hp⟩ := hq; subst hr; exact hp)
theorem v_callVv4 {a0 a1 a2 a3 : Value} (hd : decode mi.2.1 pc = .ok (.invokevirtual idx, 3)) (hk : lkV mi.1.cls idx ci mj 4) (hs9 : sh9 k0 0 ci) (hW : (st.map Value.category).sum ≤ 8) (h : Cc d mj [.ref k0, a0, a1, a2, a3] σ (QV (fun σ' => Vv (d + 1) mi (pc + 3) lv st σ' Q))) : Vv (d + 1) mi pc lv (a3 :: a2 :: a1 :: a0 :: .ref k0 :: st) σ Q := callV9 hd hk hs9 (As := [a0, a1, a2, a3]) rfl rfl hW h (fun r σ' hq => by obtain ⟨hr, hp⟩ := hq; subst hr; exact hp)
theorem v_callVi5 {a0 a1 a2 a3 a4 : Value} (hd : decode mi.2.1 pc = .ok (.invokevirtual idx, 3)) (hk : lkV mi.1.cls idx ci mj 5) (hs9 : sh9 k0 0 ci) (hW : (st.map Value.category).sum ≤ 8) (h : Cc d mj [.ref k0, a0, a1, a2, a3, a4] σ (QI (fun z σ' => Vv (d + 1) mi (pc + 3) lv (.int (iI z) :: st) σ' Q))) : Vv (d + 1) mi pc lv (a4 :: a3 :: a2 :: a1 :: a0 :: .ref k0 :: st) σ Q := callV9 hd hk hs9 (As := [a0, a1, a2, a3, a4]) rfl rfl hW h (fun r σ' hq => by obtain ⟨z, hr, hp⟩ := hq; subst hr; exact hp)
theorem v_callVl5 {a0 a1 a2 a3 a4 : Value} (hd : decode mi.2.1 pc = .ok (.invokevirtual idx, 3)) (hk : lkV mi.1.cls idx ci mj 5) (hs9 : sh9 k0 0 ci) (hW : (st.map Value.category).sum ≤ 8) (h : Cc d mj [.ref k0, a0, a1, a2, a3, a4] σ (QL (fun z σ' => Vv (d + 1) mi (pc + 3) lv (.long (lI z) :: st) σ' Q))) : Vv (d + 1) mi pc lv (a4 :: a3 :: a2 :: a1 :: a0 :: .ref k0 :: st) σ Q := callV9 hd hk hs9 (As := [a0, a1, a2, a3, a4]) rfl rfl hW h (fun r σ' hq => by obtain ⟨z, hr, hp⟩ := hq; subst hr; exact hp)
theorem v_callVv5 {a0 a1 a2 a3 a4 : Value} (hd : decode mi.2.1 pc = .ok (.invokevirtual idx, 3)) (hk : lkV mi.1.cls idx ci mj 5) (hs9 : sh9 k0 0 ci) (hW : (st.map Value.category).sum ≤ 8) (h : Cc d mj [.ref k0, a0, a1, a2, a3, a4] σ (QV (fun σ' => Vv (d + 1) mi (pc + 3) lv st σ' Q))) : Vv (d + 1) mi pc lv (a4 :: a3 :: a2 :: a1 :: a0 :: .ref k0 :: st) σ Q := callV9 hd hk hs9 (As := [a0, a1, a2, a3, a4]) rfl rfl hW h (fun r σ' hq => by obtain ⟨hr, hp⟩ := hq; subst hr; exact hp)
theorem v_callVi6 {a0 a1 a2 a3 a4 a5 : Value} (hd : decode mi.2.1 pc = .ok (.invokevirtual idx, 3)) (hk : lkV mi.1.cls idx ci mj 6) (hs9 : sh9 k0 0 ci) (hW : (st.map Value.category).sum ≤ 8) (h : Cc d mj [.ref k0, a0, a1, a2, a3, a4, a5] σ (QI (fun z σ' => Vv (d + 1) mi (pc + 3) lv (.int (iI z) :: st) σ' Q))) : Vv (d + 1) mi pc lv (a5 :: a4 :: a3 :: a2 :: a1 :: a0 :: .ref k0 :: st) σ Q := callV9 hd hk hs9 (As := [a0, a1, a2, a3, a4, a5]) rfl rfl hW h (fun r σ' hq => by obtain ⟨z, hr, hp⟩ := hq; subst hr; exact hp)
theorem v_callVl6 {a0 a1 a2 a3 a4 a5 : Value} (hd : decode mi.2.1 pc = .ok (.invokevirtual idx, 3)) (hk : lkV mi.1.cls idx ci mj 6) (hs9 : sh9 k0 0 ci) (hW : (st.map Value.category).sum ≤ 8) (h : Cc d mj [.ref k0, a0, a1, a2, a3, a4, a5] σ (QL (fun z σ' => Vv (d + 1) mi (pc + 3) lv (.long (lI z) :: st) σ' Q))) : Vv (d + 1) mi pc lv (a5 :: a4 :: a3 :: a2 :: a1 :: a0 :: .ref k0 :: st) σ Q := callV9 hd hk hs9 (As := [a0, a1, a2, a3, a4, a5]) rfl rfl hW h (fun r σ' hq => by obtain ⟨z, hr, hp⟩ := hq; subst hr; exact hp)
theorem v_callVv6 {a0 a1 a2 a3 a4 a5 : Value} (hd : decode mi.2.1 pc = .ok (.invokevirtual idx, 3)) (hk : lkV mi.1.cls idx ci mj 6) (hs9 : sh9 k0 0 ci) (hW : (st.map Value.category).sum ≤ 8) (h : Cc d mj [.ref k0, a0, a1, a2, a3, a4, a5] σ (QV (fun σ' => Vv (d + 1) mi (pc + 3) lv st σ' Q))) : Vv (d + 1) mi pc lv (a5 :: a4 :: a3 :: a2 :: a1 :: a0 :: .ref k0 :: st) σ Q := callV9 hd hk hs9 (As := [a0, a1, a2, a3, a4, a5]) rfl rfl hW h (fun r σ' hq => by obtain ⟨hr, hp⟩ := hq; subst hr; exact hp)
theorem v_callUi1 {owner : String} {x : MethodName} {a0 : Value} (hd : decode mi.2.1 pc = .ok (.invokevirtual idx, 3)) (hk : lkU mi.1.cls idx ci owner x mj 1) (hs9 : sh9 k0 0 ci) (hW : (st.map Value.category).sum ≤ 8) (h : Cc d mj [.ref k0, a0] σ (QI (fun z σ' => Vv (d + 1) mi (pc + 3) lv (.int (iI z) :: st) σ' Q))) : Vv (d + 1) mi pc lv (a0 :: .ref k0 :: st) σ Q := callU9 hd hk hs9 (As := [a0]) rfl rfl hW h (fun r σ' hq => by obtain ⟨z, hr, hp⟩ := hq; subst hr; exact hp)
theorem v_callUi2 {owner : String} {x : MethodName} {a0 a1 : Value} (hd : decode mi.2.1 pc = .ok (.invokevirtual idx, 3)) (hk : lkU mi.1.cls idx ci owner x mj 2) (hs9 : sh9 k0 0 ci) (hW : (st.map Value.category).sum ≤ 8) (h : Cc d mj [.ref k0, a0, a1] σ (QI (fun z σ' => Vv (d + 1) mi (pc + 3) lv (.int (iI z) :: st) σ' Q))) : Vv (d + 1) mi pc lv (a1 :: a0 :: .ref k0 :: st) σ Q := callU9 hd hk hs9 (As := [a0, a1]) rfl rfl hW h (fun r σ' hq => by obtain ⟨z, hr, hp⟩ := hq; subst hr; exact hp)
end
end
