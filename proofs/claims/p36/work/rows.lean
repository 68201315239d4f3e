section
-- ===== PART A: goes FIRST, ahead of the names: the tables' words, and 'selects' of the private methods out of them =====
/-- a private method of a class that the tables say can be made, by its rows of tables_1 -/
def lw_okq (q : MethodName × Nat) : Prop := (q.1.cls ≠ "java/lang/invoke/MethodHandle" ∧ q.1.cls ≠ "java/lang/invoke/VarHandle") ∧ Cond.instantiable q.1.cls q.2 ∈ tables_1 ∧ Cond.privateMethod q.1 ∈ tables_1 ∧ Cond.instanceMethod q.1 ∈ tables_1
theorem lw_p0 : lw_okq (⟨"SpacedPairs", "pose", "(III)V"⟩, 8) := ⟨⟨by decide +kernel, by decide +kernel⟩, List.mem_of_getElem? (i := 10) (by decide +kernel), List.mem_of_getElem? (i := 147) (by decide +kernel), List.mem_of_getElem? (i := 148) (by decide +kernel)⟩
theorem lw_p1 : lw_okq (⟨"SpacedPairs", "poseTight", "(IZ)I"⟩, 8) := ⟨⟨by decide +kernel, by decide +kernel⟩, List.mem_of_getElem? (i := 10) (by decide +kernel), List.mem_of_getElem? (i := 155) (by decide +kernel), List.mem_of_getElem? (i := 156) (by decide +kernel)⟩
theorem lw_p2 : lw_okq (⟨"SpacedPairs", "searched", "()LSpacedPairs$Arrangements;"⟩, 8) := ⟨⟨by decide +kernel, by decide +kernel⟩, List.mem_of_getElem? (i := 10) (by decide +kernel), List.mem_of_getElem? (i := 188) (by decide +kernel), List.mem_of_getElem? (i := 189) (by decide +kernel)⟩
theorem lw_p3 : lw_okq (⟨"SpacedPairs$Problem", "pinnedTo", "(I)I"⟩, 4) := ⟨⟨by decide +kernel, by decide +kernel⟩, List.mem_of_getElem? (i := 18) (by decide +kernel), List.mem_of_getElem? (i := 234) (by decide +kernel), List.mem_of_getElem? (i := 235) (by decide +kernel)⟩
theorem lw_p4 : lw_okq (⟨"SpacedPairs$Arrangements", "add", "(J)V"⟩, 6) := ⟨⟨by decide +kernel, by decide +kernel⟩, List.mem_of_getElem? (i := 49) (by decide +kernel), List.mem_of_getElem? (i := 243) (by decide +kernel), List.mem_of_getElem? (i := 244) (by decide +kernel)⟩
theorem lw_p5 : lw_okq (⟨"SpacedPairs$Arrangements", "isFull", "()Z"⟩, 6) := ⟨⟨by decide +kernel, by decide +kernel⟩, List.mem_of_getElem? (i := 49) (by decide +kernel), List.mem_of_getElem? (i := 247) (by decide +kernel), List.mem_of_getElem? (i := 248) (by decide +kernel)⟩
theorem lw_p6 : lw_okq (⟨"SpacedPairs$Arrangements", "allCanBegin", "(II)Z"⟩, 6) := ⟨⟨by decide +kernel, by decide +kernel⟩, List.mem_of_getElem? (i := 49) (by decide +kernel), List.mem_of_getElem? (i := 251) (by decide +kernel), List.mem_of_getElem? (i := 252) (by decide +kernel)⟩
theorem lw_p7 : lw_okq (⟨"SpacedPairs$Arrangements", "openStarts", "(II)I"⟩, 6) := ⟨⟨by decide +kernel, by decide +kernel⟩, List.mem_of_getElem? (i := 49) (by decide +kernel), List.mem_of_getElem? (i := 256) (by decide +kernel), List.mem_of_getElem? (i := 257) (by decide +kernel)⟩
theorem lw_p8 : lw_okq (⟨"SpacedPairs$Arrangements", "startAt", "(II)I"⟩, 6) := ⟨⟨by decide +kernel, by decide +kernel⟩, List.mem_of_getElem? (i := 49) (by decide +kernel), List.mem_of_getElem? (i := 298) (by decide +kernel), List.mem_of_getElem? (i := 299) (by decide +kernel)⟩
theorem lw_p9 : lw_okq (⟨"SpacedPairs$Arrangements", "packedAt", "(I)J"⟩, 6) := ⟨⟨by decide +kernel, by decide +kernel⟩, List.mem_of_getElem? (i := 49) (by decide +kernel), List.mem_of_getElem? (i := 302) (by decide +kernel), List.mem_of_getElem? (i := 303) (by decide +kernel)⟩
theorem lw_p10 : lw_okq (⟨"SpacedPairs", "tripleNumber", "(III)I"⟩, 8) := ⟨⟨by decide +kernel, by decide +kernel⟩, List.mem_of_getElem? (i := 10) (by decide +kernel), List.mem_of_getElem? (i := 343) (by decide +kernel), List.mem_of_getElem? (i := 344) (by decide +kernel)⟩
theorem lw_p11 : lw_okq (⟨"SpacedPairs", "padIsRow", "()Z"⟩, 8) := ⟨⟨by decide +kernel, by decide +kernel⟩, List.mem_of_getElem? (i := 10) (by decide +kernel), List.mem_of_getElem? (i := 423) (by decide +kernel), List.mem_of_getElem? (i := 424) (by decide +kernel)⟩
theorem lw_p12 : lw_okq (⟨"SpacedPairs", "firstBreach", "(I)I"⟩, 8) := ⟨⟨by decide +kernel, by decide +kernel⟩, List.mem_of_getElem? (i := 10) (by decide +kernel), List.mem_of_getElem? (i := 427) (by decide +kernel), List.mem_of_getElem? (i := 428) (by decide +kernel)⟩
theorem lw_p13 : lw_okq (⟨"SpacedPairs", "breaks", "(II)Z"⟩, 8) := ⟨⟨by decide +kernel, by decide +kernel⟩, List.mem_of_getElem? (i := 10) (by decide +kernel), List.mem_of_getElem? (i := 431) (by decide +kernel), List.mem_of_getElem? (i := 432) (by decide +kernel)⟩
theorem lw_p14 : lw_okq (⟨"SpacedPairs", "matchOf", "(LSpacedPairs$Arrangements;I)I"⟩, 8) := ⟨⟨by decide +kernel, by decide +kernel⟩, List.mem_of_getElem? (i := 10) (by decide +kernel), List.mem_of_getElem? (i := 449) (by decide +kernel), List.mem_of_getElem? (i := 450) (by decide +kernel)⟩
theorem lw_p15 : lw_okq (⟨"SpacedPairs", "isMatch", "(LSpacedPairs$Arrangements;I)Z"⟩, 8) := ⟨⟨by decide +kernel, by decide +kernel⟩, List.mem_of_getElem? (i := 10) (by decide +kernel), List.mem_of_getElem? (i := 453) (by decide +kernel), List.mem_of_getElem? (i := 454) (by decide +kernel)⟩
def lw_privs_1 : List (MethodName × Nat) := [(⟨"SpacedPairs", "pose", "(III)V"⟩, 8), (⟨"SpacedPairs", "poseTight", "(IZ)I"⟩, 8), (⟨"SpacedPairs", "searched", "()LSpacedPairs$Arrangements;"⟩, 8), (⟨"SpacedPairs$Problem", "pinnedTo", "(I)I"⟩, 4), (⟨"SpacedPairs$Arrangements", "add", "(J)V"⟩, 6), (⟨"SpacedPairs$Arrangements", "isFull", "()Z"⟩, 6), (⟨"SpacedPairs$Arrangements", "allCanBegin", "(II)Z"⟩, 6), (⟨"SpacedPairs$Arrangements", "openStarts", "(II)I"⟩, 6), (⟨"SpacedPairs$Arrangements", "startAt", "(II)I"⟩, 6), (⟨"SpacedPairs$Arrangements", "packedAt", "(I)J"⟩, 6), (⟨"SpacedPairs", "tripleNumber", "(III)I"⟩, 8), (⟨"SpacedPairs", "padIsRow", "()Z"⟩, 8), (⟨"SpacedPairs", "firstBreach", "(I)I"⟩, 8), (⟨"SpacedPairs", "breaks", "(II)Z"⟩, 8), (⟨"SpacedPairs", "matchOf", "(LSpacedPairs$Arrangements;I)I"⟩, 8), (⟨"SpacedPairs", "isMatch", "(LSpacedPairs$Arrangements;I)Z"⟩, 8)]
theorem lw_r1 : ∀ q ∈ lw_privs_1, lw_okq q := List.forall_mem_cons.mpr ⟨lw_p0, List.forall_mem_cons.mpr ⟨lw_p1, List.forall_mem_cons.mpr ⟨lw_p2, List.forall_mem_cons.mpr ⟨lw_p3, List.forall_mem_cons.mpr ⟨lw_p4, List.forall_mem_cons.mpr ⟨lw_p5, List.forall_mem_cons.mpr ⟨lw_p6, List.forall_mem_cons.mpr ⟨lw_p7, List.forall_mem_cons.mpr ⟨lw_p8, List.forall_mem_cons.mpr ⟨lw_p9, List.forall_mem_cons.mpr ⟨lw_p10, List.forall_mem_cons.mpr ⟨lw_p11, List.forall_mem_cons.mpr ⟨lw_p12, List.forall_mem_cons.mpr ⟨lw_p13, List.forall_mem_cons.mpr ⟨lw_p14, List.forall_mem_cons.mpr ⟨lw_p15, fun _ h => absurd h List.not_mem_nil⟩⟩⟩⟩⟩⟩⟩⟩⟩⟩⟩⟩⟩⟩⟩⟩
theorem lw_p16 : lw_okq (⟨"SpacedPairs", "isSolvable", "(III)Z"⟩, 8) := ⟨⟨by decide +kernel, by decide +kernel⟩, List.mem_of_getElem? (i := 10) (by decide +kernel), List.mem_of_getElem? (i := 483) (by decide +kernel), List.mem_of_getElem? (i := 484) (by decide +kernel)⟩
theorem lw_p17 : lw_okq (⟨"SpacedPairs$Walk", "reach", "(II)V"⟩, 3) := ⟨⟨by decide +kernel, by decide +kernel⟩, List.mem_of_getElem? (i := 80) (by decide +kernel), List.mem_of_getElem? (i := 502) (by decide +kernel), List.mem_of_getElem? (i := 503) (by decide +kernel)⟩
theorem lw_p18 : lw_okq (⟨"SpacedPairs$Walk", "reachNeighbours", "(LSpacedPairs$Arrangements;I)V"⟩, 3) := ⟨⟨by decide +kernel, by decide +kernel⟩, List.mem_of_getElem? (i := 80) (by decide +kernel), List.mem_of_getElem? (i := 506) (by decide +kernel), List.mem_of_getElem? (i := 507) (by decide +kernel)⟩
theorem lw_p19 : lw_okq (⟨"SpacedPairs", "keptIn", "(I)LSpacedPairs$Problem;"⟩, 8) := ⟨⟨by decide +kernel, by decide +kernel⟩, List.mem_of_getElem? (i := 10) (by decide +kernel), List.mem_of_getElem? (i := 528) (by decide +kernel), List.mem_of_getElem? (i := 529) (by decide +kernel)⟩
def lw_privs_2 : List (MethodName × Nat) := [(⟨"SpacedPairs", "isSolvable", "(III)Z"⟩, 8), (⟨"SpacedPairs$Walk", "reach", "(II)V"⟩, 3), (⟨"SpacedPairs$Walk", "reachNeighbours", "(LSpacedPairs$Arrangements;I)V"⟩, 3), (⟨"SpacedPairs", "keptIn", "(I)LSpacedPairs$Problem;"⟩, 8)]
theorem lw_r2 : ∀ q ∈ lw_privs_2, lw_okq q := List.forall_mem_cons.mpr ⟨lw_p16, List.forall_mem_cons.mpr ⟨lw_p17, List.forall_mem_cons.mpr ⟨lw_p18, List.forall_mem_cons.mpr ⟨lw_p19, fun _ h => absurd h List.not_mem_nil⟩⟩⟩⟩
def lw_privs : List (MethodName × Nat) := lw_privs_1 ++ (lw_privs_2)
def lw_tbl : List Cond := k2_sels lw_privs ++ tables_1
theorem lw_privs_ok : ∀ q ∈ lw_privs, lw_okq q := by
  show ∀ q ∈ lw_privs_1 ++ (lw_privs_2), lw_okq q
  exact List.forall_mem_append.mpr ⟨lw_r1, lw_r2⟩

def RX0 : String := "SpacedPairs$Arrangements"
def TX0 : u_T := fun k => match k with
  | 0 => ("SpacedPairs$Arrangements", "packed", "[J", true)
  | 1 => ("SpacedPairs$Arrangements", "length", "I", false)
  | 2 => ("SpacedPairs$Arrangements", "pairs", "I", false)
  | 3 => ("SpacedPairs$Arrangements", "differences", "[I", true)
  | 4 => ("SpacedPairs$Arrangements", "starts", "[I", true)
  | _ => ("SpacedPairs$Arrangements", "size", "I", false)
def tyX0 : Nat → FieldType := fun k => match k with
  | 0 => .array .long
  | 1 => .int
  | 2 => .int
  | 3 => .array .int
  | 4 => .array .int
  | _ => .int
theorem nmX0 : ∀ a, a < 6 → ∀ b, b < 6 → a ≠ b → (TX0 a).2.1 ≠ (TX0 b).2.1 := by decide +kernel
theorem tyX0_ok : ∀ k, k < 6 → parseFieldDescriptor (TX0 k).2.2.1 = some (tyX0 k) := by decide +kernel
def RX1 : String := "SpacedPairs$Pad"
def TX1 : u_T := fun k => match k with
  | 0 => ("SpacedPairs$Pad", "codes", "[I", true)
  | _ => ("SpacedPairs$Pad", "length", "I", false)
def tyX1 : Nat → FieldType := fun k => match k with
  | 0 => .array .int
  | _ => .int
theorem nmX1 : ∀ a, a < 2 → ∀ b, b < 2 → a ≠ b → (TX1 a).2.1 ≠ (TX1 b).2.1 := by decide +kernel
theorem tyX1_ok : ∀ k, k < 2 → parseFieldDescriptor (TX1 k).2.2.1 = some (tyX1 k) := by decide +kernel
def RX2 : String := "SpacedPairs$Problem"
def TX2 : u_T := fun k => match k with
  | 0 => ("SpacedPairs$Problem", "length", "I", false)
  | 1 => ("SpacedPairs$Problem", "holes", "I", false)
  | 2 => ("SpacedPairs$Problem", "differences", "I", false)
  | _ => ("SpacedPairs$Problem", "pins", "[I", true)
def tyX2 : Nat → FieldType := fun k => match k with
  | 0 => .int
  | 1 => .int
  | 2 => .int
  | _ => .array .int
theorem nmX2 : ∀ a, a < 4 → ∀ b, b < 4 → a ≠ b → (TX2 a).2.1 ≠ (TX2 b).2.1 := by decide +kernel
theorem tyX2_ok : ∀ k, k < 4 → parseFieldDescriptor (TX2 k).2.2.1 = some (tyX2 k) := by decide +kernel
def RX3 : String := "SpacedPairs$Walk"
def TX3 : u_T := fun k => match k with
  | 0 => ("SpacedPairs$Walk", "stepsTo", "[I", true)
  | 1 => ("SpacedPairs$Walk", "queue", "[I", true)
  | _ => ("SpacedPairs$Walk", "queued", "I", false)
def tyX3 : Nat → FieldType := fun k => match k with
  | 0 => .array .int
  | 1 => .array .int
  | _ => .int
theorem nmX3 : ∀ a, a < 3 → ∀ b, b < 3 → a ≠ b → (TX3 a).2.1 ≠ (TX3 b).2.1 := by decide +kernel
theorem tyX3_ok : ∀ k, k < 3 → parseFieldDescriptor (TX3 k).2.2.1 = some (tyX3 k) := by decide +kernel
def RX4 : String := "SpacedPairs"
def TX4 : u_T := fun k => match k with
  | 0 => ("SpacedPairs", "problem", "LSpacedPairs$Problem;", true)
  | 1 => ("SpacedPairs", "found", "LSpacedPairs$Arrangements;", true)
  | 2 => ("SpacedPairs", "walk", "LSpacedPairs$Walk;", true)
  | 3 => ("SpacedPairs", "pad", "LSpacedPairs$Pad;", true)
  | 4 => ("SpacedPairs", "trial", "LSpacedPairs$Problem;", true)
  | 5 => ("SpacedPairs", "sample", "LSpacedPairs$Arrangements;", true)
  | 6 => ("SpacedPairs", "slots", "[LSpacedPairs$Problem;", true)
  | _ => ("SpacedPairs", "foundIsOld", "Z", false)
def tyX4 : Nat → FieldType := fun k => match k with
  | 0 => .object "SpacedPairs$Problem"
  | 1 => .object "SpacedPairs$Arrangements"
  | 2 => .object "SpacedPairs$Walk"
  | 3 => .object "SpacedPairs$Pad"
  | 4 => .object "SpacedPairs$Problem"
  | 5 => .object "SpacedPairs$Arrangements"
  | 6 => .array (.object "SpacedPairs$Problem")
  | _ => .boolean
theorem nmX4 : ∀ a, a < 8 → ∀ b, b < 8 → a ≠ b → (TX4 a).2.1 ≠ (TX4 b).2.1 := by decide +kernel
theorem tyX4_ok : ∀ k, k < 8 → parseFieldDescriptor (TX4 k).2.2.1 = some (tyX4 k) := by decide +kernel
def RJ6 : String := "java/lang/Integer"
def RJ13 : String := "java/lang/Long"
def RJ9 : String := "java/lang/Math"
def RL : String := "SpacedPairsLaw"
abbrev cX0_init : ByteArray := prog_2_method_1_code
abbrev cX0_search : ByteArray := prog_2_method_2_code
abbrev cX0_fill : ByteArray := prog_2_method_3_code
abbrev cX0_isFull : ByteArray := prog_2_method_4_code
abbrev cX0_add : ByteArray := prog_2_method_5_code
abbrev cX0_allCanBegin : ByteArray := prog_2_method_6_code
abbrev cX0_openStarts : ByteArray := prog_2_method_7_code
abbrev cX0_has : ByteArray := prog_2_method_8_code
abbrev cX0_packedAt : ByteArray := prog_2_method_9_code
abbrev cX0_startAt : ByteArray := prog_2_method_10_code
abbrev cX0_startOf : ByteArray := prog_2_method_11_code
abbrev cX0_valueAt : ByteArray := prog_2_method_12_code
abbrev cX0_differencesAt : ByteArray := prog_2_method_13_code
abbrev cX0_distanceOf : ByteArray := prog_2_method_14_code
abbrev cX0_reversalOf : ByteArray := prog_2_method_15_code
abbrev cX1_init : ByteArray := prog_3_method_1_code
abbrev cX1_has : ByteArray := prog_3_method_2_code
abbrev cX1_append : ByteArray := prog_3_method_3_code
abbrev cX1_codeOf : ByteArray := prog_3_method_4_code
abbrev cX1_valueOf : ByteArray := prog_3_method_5_code
abbrev cX1_valueAt : ByteArray := prog_3_method_6_code
abbrev cX1_indexOf : ByteArray := prog_3_method_7_code
abbrev cX1_timesBefore : ByteArray := prog_3_method_8_code
abbrev cX2_init : ByteArray := prog_4_method_1_code
abbrev cX2_become : ByteArray := prog_4_method_2_code
abbrev cX2_copy : ByteArray := prog_4_method_3_code
abbrev cX2_hasPosition : ByteArray := prog_4_method_4_code
abbrev cX2_hasDifference : ByteArray := prog_4_method_5_code
abbrev cX2_pairs : ByteArray := prog_4_method_6_code
abbrev cX2_free : ByteArray := prog_4_method_7_code
abbrev cX2_isFree : ByteArray := prog_4_method_8_code
abbrev cX2_pinAt : ByteArray := prog_4_method_9_code
abbrev cX2_putPin : ByteArray := prog_4_method_10_code
abbrev cX2_pinned : ByteArray := prog_4_method_11_code
abbrev cX2_pinnedTo : ByteArray := prog_4_method_12_code
abbrev cX2_startsOf : ByteArray := prog_4_method_13_code
abbrev cX2_isFilledByPairs : ByteArray := prog_4_method_14_code
abbrev cX2_twiceStartSum : ByteArray := prog_4_method_15_code
abbrev cX2_shortfall : ByteArray := prog_4_method_16_code
abbrev cX2_mayBeSolvable : ByteArray := prog_4_method_17_code
abbrev cX3_init : ByteArray := prog_5_method_1_code
abbrev cX3_fewestSteps : ByteArray := prog_5_method_2_code
abbrev cX3_reachNeighbours : ByteArray := prog_5_method_3_code
abbrev cX3_reach : ByteArray := prog_5_method_4_code
abbrev cX4_init : ByteArray := prog_1_method_1_code
abbrev cX4_set : ByteArray := prog_1_method_2_code
abbrev cX4_langford : ByteArray := prog_1_method_3_code
abbrev cX4_near : ByteArray := prog_1_method_4_code
abbrev cX4_pin : ByteArray := prog_1_method_5_code
abbrev cX4_problem : ByteArray := prog_1_method_6_code
abbrev cX4_poseTight : ByteArray := prog_1_method_7_code
abbrev cX4_pose : ByteArray := prog_1_method_8_code
abbrev cX4_startSum : ByteArray := prog_1_method_9_code
abbrev cX4_slack : ByteArray := prog_1_method_10_code
abbrev cX4_starts : ByteArray := prog_1_method_11_code
abbrev cX4_count : ByteArray := prog_1_method_12_code
abbrev cX4_at : ByteArray := prog_1_method_13_code
abbrev cX4_start : ByteArray := prog_1_method_14_code
abbrev cX4_frequency : ByteArray := prog_1_method_15_code
abbrev cX4_options : ByteArray := prog_1_method_16_code
abbrev cX4_forced : ByteArray := prog_1_method_17_code
abbrev cX4_searched : ByteArray := prog_1_method_18_code
abbrev cX4_say : ByteArray := prog_1_method_19_code
abbrev cX4_fault : ByteArray := prog_1_method_21_code
abbrev cX4_judge : ByteArray := prog_1_method_22_code
abbrev cX4_rank : ByteArray := prog_1_method_23_code
abbrev cX4_match : ByteArray := prog_1_method_24_code
abbrev cX4_spell : ByteArray := prog_1_method_25_code
abbrev cX4_letter : ByteArray := prog_1_method_26_code
abbrev cX4_padIsRow : ByteArray := prog_1_method_27_code
abbrev cX4_firstBreach : ByteArray := prog_1_method_28_code
abbrev cX4_breaks : ByteArray := prog_1_method_29_code
abbrev cX4_matchOf : ByteArray := prog_1_method_30_code
abbrev cX4_isMatch : ByteArray := prog_1_method_31_code
abbrev cX4_reversed : ByteArray := prog_1_method_32_code
abbrev cX4_classes : ByteArray := prog_1_method_33_code
abbrev cX4_distance : ByteArray := prog_1_method_34_code
abbrev cX4_neighbour : ByteArray := prog_1_method_35_code
abbrev cX4_steps : ByteArray := prog_1_method_36_code
abbrev cX4_triple : ByteArray := prog_1_method_37_code
abbrev cX4_cover : ByteArray := prog_1_method_38_code
abbrev cX4_hooks : ByteArray := prog_1_method_39_code
abbrev cX4_omissions : ByteArray := prog_1_method_40_code
abbrev cX4_tripleNumber : ByteArray := prog_1_method_41_code
abbrev cX4_isSolvable : ByteArray := prog_1_method_42_code
abbrev cX4_save : ByteArray := prog_1_method_43_code
abbrev cX4_restore : ByteArray := prog_1_method_44_code
abbrev cX4_keptIn : ByteArray := prog_1_method_45_code
abbrev cX4_contains : ByteArray := prog_1_method_46_code
abbrev cX4_range : ByteArray := prog_1_method_47_code
abbrev cX4_sumOf : ByteArray := prog_1_method_48_code
abbrev cJ6_numberOfTrailingZeros_0f7a4 : ByteArray := prog_8_method_48_code
abbrev cJ6_bitCount_0f7a4 : ByteArray := prog_8_method_49_code
abbrev cJ13_bitCount_95d88 : ByteArray := prog_9_method_50_code
abbrev cJ9_max_7cf53 : ByteArray := prog_10_method_65_code
abbrev cJ9_min_7cf53 : ByteArray := prog_10_method_69_code
abbrev cL_cell : ByteArray := method_2_code
abbrev cL_up : ByteArray := method_3_code
abbrev cL_bits : ByteArray := method_4_code
abbrev cL_law : ByteArray := code
abbrev cL_foretold : ByteArray := method_6_code
abbrev cL_framed : ByteArray := method_7_code
abbrev cL_compare : ByteArray := method_8_code
abbrev cL_row : ByteArray := method_9_code
abbrev cL_frequencies : ByteArray := method_10_code
abbrev cL_mirrored : ByteArray := method_11_code
abbrev cL_near : ByteArray := method_12_code
abbrev cL_walked : ByteArray := method_13_code
abbrev cL_saved : ByteArray := method_14_code
abbrev cL_refused : ByteArray := method_15_code
def yX0_init : MethodName := ⟨RX0, "<init>", "(I)V"⟩
def yX0_search : MethodName := ⟨RX0, "search", "(LSpacedPairs$Problem;)V"⟩
def yX0_fill : MethodName := ⟨RX0, "fill", "(LSpacedPairs$Arrangements;IIJI)V"⟩
def yX0_isFull : MethodName := ⟨RX0, "isFull", "()Z"⟩
def yX0_add : MethodName := ⟨RX0, "add", "(J)V"⟩
def yX0_allCanBegin : MethodName := ⟨RX0, "allCanBegin", "(II)Z"⟩
def yX0_openStarts : MethodName := ⟨RX0, "openStarts", "(II)I"⟩
def yX0_has : MethodName := ⟨RX0, "has", "(I)Z"⟩
def yX0_packedAt : MethodName := ⟨RX0, "packedAt", "(I)J"⟩
def yX0_startAt : MethodName := ⟨RX0, "startAt", "(II)I"⟩
def yX0_startOf : MethodName := ⟨RX0, "startOf", "(II)I"⟩
def yX0_valueAt : MethodName := ⟨RX0, "valueAt", "(II)I"⟩
def yX0_differencesAt : MethodName := ⟨RX0, "differencesAt", "(I)I"⟩
def yX0_distanceOf : MethodName := ⟨RX0, "distanceOf", "(II)I"⟩
def yX0_reversalOf : MethodName := ⟨RX0, "reversalOf", "(I)I"⟩
def yX1_init : MethodName := ⟨RX1, "<init>", "()V"⟩
def yX1_has : MethodName := ⟨RX1, "has", "(I)Z"⟩
def yX1_append : MethodName := ⟨RX1, "append", "(I)V"⟩
def yX1_codeOf : MethodName := ⟨RX1, "codeOf", "(I)I"⟩
def yX1_valueOf : MethodName := ⟨RX1, "valueOf", "(I)I"⟩
def yX1_valueAt : MethodName := ⟨RX1, "valueAt", "(I)I"⟩
def yX1_indexOf : MethodName := ⟨RX1, "indexOf", "(I)I"⟩
def yX1_timesBefore : MethodName := ⟨RX1, "timesBefore", "(II)I"⟩
def yX2_init : MethodName := ⟨RX2, "<init>", "()V"⟩
def yX2_become : MethodName := ⟨RX2, "become", "(III)V"⟩
def yX2_copy : MethodName := ⟨RX2, "copy", "(LSpacedPairs$Problem;)V"⟩
def yX2_hasPosition : MethodName := ⟨RX2, "hasPosition", "(I)Z"⟩
def yX2_hasDifference : MethodName := ⟨RX2, "hasDifference", "(I)Z"⟩
def yX2_pairs : MethodName := ⟨RX2, "pairs", "()I"⟩
def yX2_free : MethodName := ⟨RX2, "free", "()I"⟩
def yX2_isFree : MethodName := ⟨RX2, "isFree", "(I)Z"⟩
def yX2_pinAt : MethodName := ⟨RX2, "pinAt", "(I)I"⟩
def yX2_putPin : MethodName := ⟨RX2, "putPin", "(II)V"⟩
def yX2_pinned : MethodName := ⟨RX2, "pinned", "()I"⟩
def yX2_pinnedTo : MethodName := ⟨RX2, "pinnedTo", "(I)I"⟩
def yX2_startsOf : MethodName := ⟨RX2, "startsOf", "(I)I"⟩
def yX2_isFilledByPairs : MethodName := ⟨RX2, "isFilledByPairs", "()Z"⟩
def yX2_twiceStartSum : MethodName := ⟨RX2, "twiceStartSum", "()I"⟩
def yX2_shortfall : MethodName := ⟨RX2, "shortfall", "()I"⟩
def yX2_mayBeSolvable : MethodName := ⟨RX2, "mayBeSolvable", "()Z"⟩
def yX3_init : MethodName := ⟨RX3, "<init>", "()V"⟩
def yX3_fewestSteps : MethodName := ⟨RX3, "fewestSteps", "(LSpacedPairs$Arrangements;II)I"⟩
def yX3_reachNeighbours : MethodName := ⟨RX3, "reachNeighbours", "(LSpacedPairs$Arrangements;I)V"⟩
def yX3_reach : MethodName := ⟨RX3, "reach", "(II)V"⟩
def yX4_init : MethodName := ⟨RX4, "<init>", "()V"⟩
def yX4_set : MethodName := ⟨RX4, "set", "(III)I"⟩
def yX4_langford : MethodName := ⟨RX4, "langford", "(IIZ)I"⟩
def yX4_near : MethodName := ⟨RX4, "near", "(IIZ)I"⟩
def yX4_pin : MethodName := ⟨RX4, "pin", "(II)I"⟩
def yX4_problem : MethodName := ⟨RX4, "problem", "(I)I"⟩
def yX4_poseTight : MethodName := ⟨RX4, "poseTight", "(IZ)I"⟩
def yX4_pose : MethodName := ⟨RX4, "pose", "(III)V"⟩
def yX4_startSum : MethodName := ⟨RX4, "startSum", "()I"⟩
def yX4_slack : MethodName := ⟨RX4, "slack", "()I"⟩
def yX4_starts : MethodName := ⟨RX4, "starts", "(I)I"⟩
def yX4_count : MethodName := ⟨RX4, "count", "()I"⟩
def yX4_at : MethodName := ⟨RX4, "at", "(II)I"⟩
def yX4_start : MethodName := ⟨RX4, "start", "(II)I"⟩
def yX4_frequency : MethodName := ⟨RX4, "frequency", "(II)I"⟩
def yX4_options : MethodName := ⟨RX4, "options", "(I)I"⟩
def yX4_forced : MethodName := ⟨RX4, "forced", "()I"⟩
def yX4_searched : MethodName := ⟨RX4, "searched", "()LSpacedPairs$Arrangements;"⟩
def yX4_say : MethodName := ⟨RX4, "say", "(I)I"⟩
def yX4_fault : MethodName := ⟨RX4, "fault", "()I"⟩
def yX4_judge : MethodName := ⟨RX4, "judge", "(I)I"⟩
def yX4_rank : MethodName := ⟨RX4, "rank", "()I"⟩
def yX4_match : MethodName := ⟨RX4, "match", "(I)I"⟩
def yX4_spell : MethodName := ⟨RX4, "spell", "(I)I"⟩
def yX4_letter : MethodName := ⟨RX4, "letter", "(I)I"⟩
def yX4_padIsRow : MethodName := ⟨RX4, "padIsRow", "()Z"⟩
def yX4_firstBreach : MethodName := ⟨RX4, "firstBreach", "(I)I"⟩
def yX4_breaks : MethodName := ⟨RX4, "breaks", "(II)Z"⟩
def yX4_matchOf : MethodName := ⟨RX4, "matchOf", "(LSpacedPairs$Arrangements;I)I"⟩
def yX4_isMatch : MethodName := ⟨RX4, "isMatch", "(LSpacedPairs$Arrangements;I)Z"⟩
def yX4_reversed : MethodName := ⟨RX4, "reversed", "(I)I"⟩
def yX4_classes : MethodName := ⟨RX4, "classes", "()I"⟩
def yX4_distance : MethodName := ⟨RX4, "distance", "(II)I"⟩
def yX4_neighbour : MethodName := ⟨RX4, "neighbour", "(II)I"⟩
def yX4_steps : MethodName := ⟨RX4, "steps", "(II)I"⟩
def yX4_triple : MethodName := ⟨RX4, "triple", "(III)I"⟩
def yX4_cover : MethodName := ⟨RX4, "cover", "(I)I"⟩
def yX4_hooks : MethodName := ⟨RX4, "hooks", "()I"⟩
def yX4_omissions : MethodName := ⟨RX4, "omissions", "()I"⟩
def yX4_tripleNumber : MethodName := ⟨RX4, "tripleNumber", "(III)I"⟩
def yX4_isSolvable : MethodName := ⟨RX4, "isSolvable", "(III)Z"⟩
def yX4_save : MethodName := ⟨RX4, "save", "(I)I"⟩
def yX4_restore : MethodName := ⟨RX4, "restore", "(I)I"⟩
def yX4_keptIn : MethodName := ⟨RX4, "keptIn", "(I)LSpacedPairs$Problem;"⟩
def yX4_contains : MethodName := ⟨RX4, "contains", "(II)Z"⟩
def yX4_range : MethodName := ⟨RX4, "range", "(II)I"⟩
def yX4_sumOf : MethodName := ⟨RX4, "sumOf", "(I)I"⟩
def yJ6_numberOfTrailingZeros_0f7a4 : MethodName := ⟨RJ6, "numberOfTrailingZeros", "(I)I"⟩
def yJ6_bitCount_0f7a4 : MethodName := ⟨RJ6, "bitCount", "(I)I"⟩
def yJ13_bitCount_95d88 : MethodName := ⟨RJ13, "bitCount", "(J)I"⟩
def yJ9_max_7cf53 : MethodName := ⟨RJ9, "max", "(II)I"⟩
def yJ9_min_7cf53 : MethodName := ⟨RJ9, "min", "(II)I"⟩
def yL_cell : MethodName := ⟨RL, "cell", "([II)I"⟩
def yL_up : MethodName := ⟨RL, "up", "(II)I"⟩
def yL_bits : MethodName := ⟨RL, "bits", "(I)I"⟩
def yL_law : MethodName := ⟨RL, "law", "([I)Z"⟩
def yL_foretold : MethodName := ⟨RL, "foretold", "(LSpacedPairs;I)Z"⟩
def yL_framed : MethodName := ⟨RL, "framed", "(LSpacedPairs;I)Z"⟩
def yL_compare : MethodName := ⟨RL, "compare", "(LSpacedPairs;II)I"⟩
def yL_row : MethodName := ⟨RL, "row", "(LSpacedPairs;II)Z"⟩
def yL_frequencies : MethodName := ⟨RL, "frequencies", "(LSpacedPairs;II)Z"⟩
def yL_mirrored : MethodName := ⟨RL, "mirrored", "(LSpacedPairs;I)Z"⟩
def yL_near : MethodName := ⟨RL, "near", "(LSpacedPairs;II)Z"⟩
def yL_walked : MethodName := ⟨RL, "walked", "(LSpacedPairs;II)Z"⟩
def yL_saved : MethodName := ⟨RL, "saved", "(LSpacedPairs;II)Z"⟩
def yL_refused : MethodName := ⟨RL, "refused", "(LSpacedPairs;I)Z"⟩
abbrev vwCl : List vw_C := [(RX0, TX0, 6), (RX1, TX1, 2), (RX2, TX2, 4), (RX3, TX3, 3), (RX4, TX4, 8)]
def am_y : Nat → MethodName := fun i => match i with
  | 0 => yX0_init
  | 1 => yX0_search
  | 2 => yX0_fill
  | 3 => yX0_isFull
  | 4 => yX0_add
  | 5 => yX0_allCanBegin
  | 6 => yX0_openStarts
  | 7 => yX0_has
  | 8 => yX0_packedAt
  | 9 => yX0_startAt
  | 10 => yX0_startOf
  | 11 => yX0_valueAt
  | 12 => yX0_differencesAt
  | 13 => yX0_distanceOf
  | 14 => yX0_reversalOf
  | 15 => yX1_init
  | 16 => yX1_has
  | 17 => yX1_append
  | 18 => yX1_codeOf
  | 19 => yX1_valueOf
  | 20 => yX1_valueAt
  | 21 => yX1_indexOf
  | 22 => yX1_timesBefore
  | 23 => yX2_init
  | 24 => yX2_become
  | 25 => yX2_copy
  | 26 => yX2_hasPosition
  | 27 => yX2_hasDifference
  | 28 => yX2_pairs
  | 29 => yX2_free
  | 30 => yX2_isFree
  | 31 => yX2_pinAt
  | 32 => yX2_putPin
  | 33 => yX2_pinned
  | 34 => yX2_pinnedTo
  | 35 => yX2_startsOf
  | 36 => yX2_isFilledByPairs
  | 37 => yX2_twiceStartSum
  | 38 => yX2_shortfall
  | 39 => yX2_mayBeSolvable
  | 40 => yX3_init
  | 41 => yX3_fewestSteps
  | 42 => yX3_reachNeighbours
  | 43 => yX3_reach
  | 44 => yX4_init
  | 45 => yX4_set
  | 46 => yX4_langford
  | 47 => yX4_near
  | 48 => yX4_pin
  | 49 => yX4_problem
  | 50 => yX4_poseTight
  | 51 => yX4_pose
  | 52 => yX4_startSum
  | 53 => yX4_slack
  | 54 => yX4_starts
  | 55 => yX4_count
  | 56 => yX4_at
  | 57 => yX4_start
  | 58 => yX4_frequency
  | 59 => yX4_options
  | 60 => yX4_forced
  | 61 => yX4_searched
  | 62 => yX4_say
  | 63 => yX4_fault
  | 64 => yX4_judge
  | 65 => yX4_rank
  | 66 => yX4_match
  | 67 => yX4_spell
  | 68 => yX4_letter
  | 69 => yX4_padIsRow
  | 70 => yX4_firstBreach
  | 71 => yX4_breaks
  | 72 => yX4_matchOf
  | 73 => yX4_isMatch
  | 74 => yX4_reversed
  | 75 => yX4_classes
  | 76 => yX4_distance
  | 77 => yX4_neighbour
  | 78 => yX4_steps
  | 79 => yX4_triple
  | 80 => yX4_cover
  | 81 => yX4_hooks
  | 82 => yX4_omissions
  | 83 => yX4_tripleNumber
  | 84 => yX4_isSolvable
  | 85 => yX4_save
  | 86 => yX4_restore
  | 87 => yX4_keptIn
  | 88 => yX4_contains
  | 89 => yX4_range
  | 90 => yX4_sumOf
  | 91 => yJ6_numberOfTrailingZeros_0f7a4
  | 92 => yJ6_bitCount_0f7a4
  | 93 => yJ13_bitCount_95d88
  | 94 => yL_cell
  | 95 => yL_up
  | 96 => yL_bits
  | 97 => yL_foretold
  | 98 => yL_framed
  | 99 => yL_compare
  | 100 => yL_row
  | 101 => yL_frequencies
  | 102 => yL_mirrored
  | 103 => yL_near
  | 104 => yL_walked
  | 105 => yL_saved
  | 106 => yL_refused
  | 107 => yJ9_max_7cf53
  | 108 => yJ9_min_7cf53
  | 109 => yL_law
  | _ => yX0_init
def am_by : Nat → ByteArray := fun i => match i with
  | 0 => cX0_init
  | 1 => cX0_search
  | 2 => cX0_fill
  | 3 => cX0_isFull
  | 4 => cX0_add
  | 5 => cX0_allCanBegin
  | 6 => cX0_openStarts
  | 7 => cX0_has
  | 8 => cX0_packedAt
  | 9 => cX0_startAt
  | 10 => cX0_startOf
  | 11 => cX0_valueAt
  | 12 => cX0_differencesAt
  | 13 => cX0_distanceOf
  | 14 => cX0_reversalOf
  | 15 => cX1_init
  | 16 => cX1_has
  | 17 => cX1_append
  | 18 => cX1_codeOf
  | 19 => cX1_valueOf
  | 20 => cX1_valueAt
  | 21 => cX1_indexOf
  | 22 => cX1_timesBefore
  | 23 => cX2_init
  | 24 => cX2_become
  | 25 => cX2_copy
  | 26 => cX2_hasPosition
  | 27 => cX2_hasDifference
  | 28 => cX2_pairs
  | 29 => cX2_free
  | 30 => cX2_isFree
  | 31 => cX2_pinAt
  | 32 => cX2_putPin
  | 33 => cX2_pinned
  | 34 => cX2_pinnedTo
  | 35 => cX2_startsOf
  | 36 => cX2_isFilledByPairs
  | 37 => cX2_twiceStartSum
  | 38 => cX2_shortfall
  | 39 => cX2_mayBeSolvable
  | 40 => cX3_init
  | 41 => cX3_fewestSteps
  | 42 => cX3_reachNeighbours
  | 43 => cX3_reach
  | 44 => cX4_init
  | 45 => cX4_set
  | 46 => cX4_langford
  | 47 => cX4_near
  | 48 => cX4_pin
  | 49 => cX4_problem
  | 50 => cX4_poseTight
  | 51 => cX4_pose
  | 52 => cX4_startSum
  | 53 => cX4_slack
  | 54 => cX4_starts
  | 55 => cX4_count
  | 56 => cX4_at
  | 57 => cX4_start
  | 58 => cX4_frequency
  | 59 => cX4_options
  | 60 => cX4_forced
  | 61 => cX4_searched
  | 62 => cX4_say
  | 63 => cX4_fault
  | 64 => cX4_judge
  | 65 => cX4_rank
  | 66 => cX4_match
  | 67 => cX4_spell
  | 68 => cX4_letter
  | 69 => cX4_padIsRow
  | 70 => cX4_firstBreach
  | 71 => cX4_breaks
  | 72 => cX4_matchOf
  | 73 => cX4_isMatch
  | 74 => cX4_reversed
  | 75 => cX4_classes
  | 76 => cX4_distance
  | 77 => cX4_neighbour
  | 78 => cX4_steps
  | 79 => cX4_triple
  | 80 => cX4_cover
  | 81 => cX4_hooks
  | 82 => cX4_omissions
  | 83 => cX4_tripleNumber
  | 84 => cX4_isSolvable
  | 85 => cX4_save
  | 86 => cX4_restore
  | 87 => cX4_keptIn
  | 88 => cX4_contains
  | 89 => cX4_range
  | 90 => cX4_sumOf
  | 91 => cJ6_numberOfTrailingZeros_0f7a4
  | 92 => cJ6_bitCount_0f7a4
  | 93 => cJ13_bitCount_95d88
  | 94 => cL_cell
  | 95 => cL_up
  | 96 => cL_bits
  | 97 => cL_foretold
  | 98 => cL_framed
  | 99 => cL_compare
  | 100 => cL_row
  | 101 => cL_frequencies
  | 102 => cL_mirrored
  | 103 => cL_near
  | 104 => cL_walked
  | 105 => cL_saved
  | 106 => cL_refused
  | 107 => cJ9_max_7cf53
  | 108 => cJ9_min_7cf53
  | 109 => cL_law
  | _ => cX0_init
def am_ml : Nat → Nat := fun i => match i with
  | 0 => 2
  | 1 => 3
  | 2 => 11
  | 3 => 1
  | 4 => 3
  | 5 => 4
  | 6 => 3
  | 7 => 2
  | 8 => 2
  | 9 => 3
  | 10 => 4
  | 11 => 5
  | 12 => 4
  | 13 => 5
  | 14 => 7
  | 15 => 1
  | 16 => 2
  | 17 => 2
  | 18 => 1
  | 19 => 1
  | 20 => 2
  | 21 => 3
  | 22 => 5
  | 23 => 1
  | 24 => 5
  | 25 => 3
  | 26 => 2
  | 27 => 2
  | 28 => 1
  | 29 => 1
  | 30 => 2
  | 31 => 2
  | 32 => 3
  | 33 => 3
  | 34 => 4
  | 35 => 3
  | 36 => 1
  | 37 => 1
  | 38 => 6
  | 39 => 1
  | 40 => 1
  | 41 => 5
  | 42 => 6
  | 43 => 3
  | 44 => 2
  | 45 => 5
  | 46 => 4
  | 47 => 4
  | 48 => 4
  | 49 => 2
  | 50 => 5
  | 51 => 4
  | 52 => 2
  | 53 => 1
  | 54 => 2
  | 55 => 1
  | 56 => 3
  | 57 => 3
  | 58 => 6
  | 59 => 2
  | 60 => 4
  | 61 => 1
  | 62 => 2
  | 63 => 2
  | 64 => 4
  | 65 => 1
  | 66 => 2
  | 67 => 3
  | 68 => 2
  | 69 => 1
  | 70 => 3
  | 71 => 6
  | 72 => 5
  | 73 => 5
  | 74 => 3
  | 75 => 5
  | 76 => 3
  | 77 => 5
  | 78 => 4
  | 79 => 4
  | 80 => 7
  | 81 => 4
  | 82 => 4
  | 83 => 5
  | 84 => 4
  | 85 => 3
  | 86 => 3
  | 87 => 2
  | 88 => 2
  | 89 => 2
  | 90 => 3
  | 91 => 2
  | 92 => 1
  | 93 => 2
  | 94 => 2
  | 95 => 2
  | 96 => 3
  | 97 => 6
  | 98 => 4
  | 99 => 4
  | 100 => 7
  | 101 => 7
  | 102 => 5
  | 103 => 9
  | 104 => 7
  | 105 => 8
  | 106 => 3
  | 107 => 2
  | 108 => 2
  | 109 => 11
  | _ => 0
def am_rt : Nat → Option FieldType := fun i => match i with
  | 0 => none
  | 1 => none
  | 2 => none
  | 3 => (some .boolean)
  | 4 => none
  | 5 => (some .boolean)
  | 6 => (some .int)
  | 7 => (some .boolean)
  | 8 => (some .long)
  | 9 => (some .int)
  | 10 => (some .int)
  | 11 => (some .int)
  | 12 => (some .int)
  | 13 => (some .int)
  | 14 => (some .int)
  | 15 => none
  | 16 => (some .boolean)
  | 17 => none
  | 18 => (some .int)
  | 19 => (some .int)
  | 20 => (some .int)
  | 21 => (some .int)
  | 22 => (some .int)
  | 23 => none
  | 24 => none
  | 25 => none
  | 26 => (some .boolean)
  | 27 => (some .boolean)
  | 28 => (some .int)
  | 29 => (some .int)
  | 30 => (some .boolean)
  | 31 => (some .int)
  | 32 => none
  | 33 => (some .int)
  | 34 => (some .int)
  | 35 => (some .int)
  | 36 => (some .boolean)
  | 37 => (some .int)
  | 38 => (some .int)
  | 39 => (some .boolean)
  | 40 => none
  | 41 => (some .int)
  | 42 => none
  | 43 => none
  | 44 => none
  | 45 => (some .int)
  | 46 => (some .int)
  | 47 => (some .int)
  | 48 => (some .int)
  | 49 => (some .int)
  | 50 => (some .int)
  | 51 => none
  | 52 => (some .int)
  | 53 => (some .int)
  | 54 => (some .int)
  | 55 => (some .int)
  | 56 => (some .int)
  | 57 => (some .int)
  | 58 => (some .int)
  | 59 => (some .int)
  | 60 => (some .int)
  | 61 => (some (.object "SpacedPairs$Arrangements"))
  | 62 => (some .int)
  | 63 => (some .int)
  | 64 => (some .int)
  | 65 => (some .int)
  | 66 => (some .int)
  | 67 => (some .int)
  | 68 => (some .int)
  | 69 => (some .boolean)
  | 70 => (some .int)
  | 71 => (some .boolean)
  | 72 => (some .int)
  | 73 => (some .boolean)
  | 74 => (some .int)
  | 75 => (some .int)
  | 76 => (some .int)
  | 77 => (some .int)
  | 78 => (some .int)
  | 79 => (some .int)
  | 80 => (some .int)
  | 81 => (some .int)
  | 82 => (some .int)
  | 83 => (some .int)
  | 84 => (some .boolean)
  | 85 => (some .int)
  | 86 => (some .int)
  | 87 => (some (.object "SpacedPairs$Problem"))
  | 88 => (some .boolean)
  | 89 => (some .int)
  | 90 => (some .int)
  | 91 => (some .int)
  | 92 => (some .int)
  | 93 => (some .int)
  | 94 => (some .int)
  | 95 => (some .int)
  | 96 => (some .int)
  | 97 => (some .boolean)
  | 98 => (some .boolean)
  | 99 => (some .int)
  | 100 => (some .boolean)
  | 101 => (some .boolean)
  | 102 => (some .boolean)
  | 103 => (some .boolean)
  | 104 => (some .boolean)
  | 105 => (some .boolean)
  | 106 => (some .boolean)
  | 107 => (some .int)
  | 108 => (some .int)
  | 109 => (some .boolean)
  | _ => none
def am_mo : Nat → String := fun i => match i with
  | 0 => RX0
  | 1 => RX0
  | 2 => RX0
  | 3 => RX0
  | 4 => RX0
  | 5 => RX0
  | 6 => RX0
  | 7 => RX0
  | 8 => RX0
  | 9 => RX0
  | 10 => RX0
  | 11 => RX0
  | 12 => RX0
  | 13 => RX0
  | 14 => RX0
  | 15 => RX1
  | 16 => RX1
  | 17 => RX1
  | 18 => RX1
  | 19 => RX1
  | 20 => RX1
  | 21 => RX1
  | 22 => RX1
  | 23 => RX2
  | 24 => RX2
  | 25 => RX2
  | 26 => RX2
  | 27 => RX2
  | 28 => RX2
  | 29 => RX2
  | 30 => RX2
  | 31 => RX2
  | 32 => RX2
  | 33 => RX2
  | 34 => RX2
  | 35 => RX2
  | 36 => RX2
  | 37 => RX2
  | 38 => RX2
  | 39 => RX2
  | 40 => RX3
  | 41 => RX3
  | 42 => RX3
  | 43 => RX3
  | 44 => RX4
  | 45 => RX4
  | 46 => RX4
  | 47 => RX4
  | 48 => RX4
  | 49 => RX4
  | 50 => RX4
  | 51 => RX4
  | 52 => RX4
  | 53 => RX4
  | 54 => RX4
  | 55 => RX4
  | 56 => RX4
  | 57 => RX4
  | 58 => RX4
  | 59 => RX4
  | 60 => RX4
  | 61 => RX4
  | 62 => RX4
  | 63 => RX4
  | 64 => RX4
  | 65 => RX4
  | 66 => RX4
  | 67 => RX4
  | 68 => RX4
  | 69 => RX4
  | 70 => RX4
  | 71 => RX4
  | 72 => RX4
  | 73 => RX4
  | 74 => RX4
  | 75 => RX4
  | 76 => RX4
  | 77 => RX4
  | 78 => RX4
  | 79 => RX4
  | 80 => RX4
  | 81 => RX4
  | 82 => RX4
  | 83 => RX4
  | 84 => RX4
  | 85 => RX4
  | 86 => RX4
  | 87 => RX4
  | 88 => RX4
  | 89 => RX4
  | 90 => RX4
  | 91 => RJ6
  | 92 => RJ6
  | 93 => RJ13
  | 94 => RL
  | 95 => RL
  | 96 => RL
  | 97 => RL
  | 98 => RL
  | 99 => RL
  | 100 => RL
  | 101 => RL
  | 102 => RL
  | 103 => RL
  | 104 => RL
  | 105 => RL
  | 106 => RL
  | 107 => RJ9
  | 108 => RJ9
  | 109 => RL
  | _ => RX0
def am_mc : Nat → Nat := fun i => match i with
  | 0 => 3
  | 15 => 1
  | 23 => 1
  | 40 => 2
  | 44 => 22
  | 109 => 600000
  | _ => 0
def am_ms : Nat → Nat := fun i => match i with
  | 0 => 528
  | 15 => 18
  | 23 => 18
  | 40 => 600
  | 44 => 1781
  | 109 => 7302250
  | _ => 0
def am_cn : Nat → String := fun i => match i with
  | 0 => RX0
  | 1 => RX1
  | 2 => RX2
  | 3 => RX3
  | 4 => RX4
  | _ => RX0
def am_T : Nat → u_T := fun i => match i with
  | 0 => TX0
  | 1 => TX1
  | 2 => TX2
  | 3 => TX3
  | 4 => TX4
  | _ => TX0
def am_tT : Nat → Nat → FieldType := fun i => match i with
  | 0 => tyX0
  | 1 => tyX1
  | 2 => tyX2
  | 3 => tyX3
  | 4 => tyX4
  | _ => tyX0
def am_N : Nat → Nat := fun i => match i with
  | 0 => 6
  | 1 => 2
  | 2 => 4
  | 3 => 3
  | 4 => 8
  | _ => 0
def am_df : Nat → List Value := fun i => match i with
  | 0 => [.null, .int 0, .int 0, .null, .null, .int 0]
  | 1 => [.null, .int 0]
  | 2 => [.int 0, .int 0, .int 0, .null]
  | 3 => [.null, .null, .int 0]
  | 4 => [.null, .null, .null, .null, .null, .null, .null, .int 0]
  | _ => []
end
section
abbrev am_I : Type := Nat × Nat × Nat × Nat × Nat × Int32 × Int64
def am_t0 : List (List (Nat × am_I)) := [[(0, (2, 1, 0, 0, 0, 0, 0)), (1, (69, 4, 0, 0, 3, 0, 0)), (4, (2, 5, 0, 0, 0, 0, 0)), (5, (1, 6, 1, 0, 0, 0, 0)), (6, (4, 7, 0, 0, 0, 0, 0)), (7, (75, 10, 0, 0, 9, 0, 0)), (10, (61, 12, 2, 0, 0, 0, 0)), (12, (50, 15, 0, 0, 15, 0, 0)), (15, (2, 16, 0, 0, 0, 0, 0)), (16, (4, 18, 0, 0, 0, 8, 0)), (18, (61, 20, 0, 0, 0, 0, 0)), (20, (50, 23, 0, 3, 21, 0, 0)), (23, (2, 24, 0, 0, 0, 0, 0)), (24, (4, 26, 0, 0, 0, 8, 0)), (26, (61, 28, 0, 0, 0, 0, 0)), (28, (50, 31, 0, 4, 25, 0, 0)), (31, (73, 32, 0, 0, 0, 0, 0))]]
def am_t1 : List (List (Nat × am_I)) := [[(0, (2, 1, 0, 0, 0, 0, 0)), (1, (4, 2, 0, 0, 0, 0, 0)), (2, (49, 5, 0, 5, 28, 0, 0)), (5, (2, 6, 0, 0, 0, 0, 0)), (6, (2, 7, 1, 0, 0, 0, 0)), (7, (48, 10, 2, 0, 32, 0, 0)), (10, (49, 13, 0, 1, 37, 0, 0)), (13, (2, 14, 0, 0, 0, 0, 0)), (14, (4, 15, 0, 0, 0, 0, 0)), (15, (49, 18, 0, 2, 38, 0, 0)), (18, (2, 19, 1, 0, 0, 0, 0)), (19, (65, 22, 39, 0, 41, 0, 0)), (22, (40, 25, 26, 0, 0, 0, 0)), (25, (73, 26, 0, 0, 0, 0, 0)), (26, (4, 27, 0, 0, 0, 1, 0)), (27, (6, 28, 2, 0, 0, 0, 0)), (28, (1, 29, 2, 0, 0, 0, 0)), (29, (4, 31, 0, 0, 0, 17, 0)), (31, (37, 34, 91, 0, 0, 0, 0)), (34, (2, 35, 1, 0, 0, 0, 0)), (35, (1, 36, 2, 0, 0, 0, 0)), (36, (65, 39, 27, 1, 45, 0, 0)), (39, (39, 42, 85, 0, 0, 0, 0)), (42, (2, 43, 0, 0, 0, 0, 0)), (43, (48, 46, 0, 2, 38, 0, 0)), (46, (4, 48, 0, 0, 0, 8, 0)), (48, (36, 51, 85, 0, 0, 0, 0)), (51, (2, 52, 0, 0, 0, 0, 0)), (52, (48, 55, 0, 3, 21, 0, 0)), (55, (2, 56, 0, 0, 0, 0, 0)), (56, (48, 59, 0, 2, 38, 0, 0)), (59, (1, 60, 2, 0, 0, 0, 0)), (60, (52, 61, 0, 0, 0, 0, 0)), (61, (2, 62, 0, 0, 0, 0, 0)), (62, (48, 65, 0, 4, 25, 0, 0))], [(65, (2, 66, 0, 0, 0, 0, 0)), (66, (48, 69, 0, 2, 38, 0, 0)), (69, (2, 70, 1, 0, 0, 0, 0)), (70, (1, 71, 2, 0, 0, 0, 0)), (71, (65, 74, 35, 1, 49, 0, 0)), (74, (52, 75, 0, 0, 0, 0, 0)), (75, (2, 76, 0, 0, 0, 0, 0)), (76, (63, 77, 0, 0, 0, 0, 0)), (77, (48, 80, 0, 2, 38, 0, 0)), (80, (4, 81, 0, 0, 0, 1, 0)), (81, (10, 82, 0, 0, 0, 0, 0)), (82, (49, 85, 0, 2, 38, 0, 0)), (85, (9, 88, 2, 0, 0, 1, 0)), (88, (45, 91, 28, 0, 0, 0, 0)), (91, (2, 92, 0, 0, 0, 0, 0)), (92, (2, 93, 1, 0, 0, 0, 0)), (93, (65, 96, 29, 0, 53, 0, 0)), (96, (4, 97, 0, 0, 0, 0, 0)), (97, (2, 98, 0, 0, 0, 0, 0)), (98, (48, 101, 0, 2, 38, 0, 0)), (101, (4, 102, 0, 0, 0, 1, 0)), (102, (11, 103, 0, 0, 0, 0, 0)), (103, (67, 106, 89, 2, 57, 0, 0)), (106, (5, 107, 0, 0, 0, 0, 0)), (107, (4, 108, 0, 0, 0, 0, 0)), (108, (66, 111, 2, 5, 60, 0, 0)), (111, (73, 112, 0, 0, 0, 0, 0))]]
def am_t2 : List (List (Nat × am_I)) := [[(0, (1, 1, 2, 0, 0, 0, 0)), (1, (40, 4, 10, 0, 0, 0, 0)), (4, (2, 5, 0, 0, 0, 0, 0)), (5, (3, 6, 3, 0, 0, 0, 0)), (6, (65, 9, 4, 1, 64, 0, 0)), (9, (73, 10, 0, 0, 0, 0, 0)), (10, (1, 12, 5, 0, 0, 0, 0)), (12, (4, 14, 0, 0, 0, 8, 0)), (14, (36, 17, 26, 0, 0, 0, 0)), (17, (2, 18, 0, 0, 0, 0, 0)), (18, (1, 19, 1, 0, 0, 0, 0)), (19, (1, 20, 2, 0, 0, 0, 0)), (20, (65, 23, 5, 2, 68, 0, 0)), (23, (40, 26, 27, 0, 0, 0, 0)), (26, (73, 27, 0, 0, 0, 0, 0)), (27, (1, 28, 1, 0, 0, 0, 0)), (28, (66, 31, 91, 1, 72, 0, 0)), (31, (6, 33, 6, 0, 0, 0, 0)), (33, (4, 34, 0, 0, 0, 0, 0)), (34, (6, 36, 7, 0, 0, 0, 0)), (36, (1, 38, 7, 0, 0, 0, 0)), (38, (4, 40, 0, 0, 0, 8, 0)), (40, (36, 43, 135, 0, 0, 0, 0)), (43, (2, 44, 0, 0, 0, 0, 0)), (44, (65, 47, 3, 0, 77, 0, 0)), (47, (40, 50, 135, 0, 0, 0, 0)), (50, (1, 51, 2, 0, 0, 0, 0)), (51, (1, 53, 7, 0, 0, 0, 0)), (53, (67, 56, 88, 2, 80, 0, 0)), (56, (39, 59, 129, 0, 0, 0, 0)), (59, (2, 60, 0, 0, 0, 0, 0)), (60, (1, 61, 1, 0, 0, 0, 0)), (61, (1, 63, 7, 0, 0, 0, 0)), (63, (65, 66, 6, 2, 83, 0, 0))], [(66, (1, 68, 6, 0, 0, 0, 0)), (68, (67, 71, 88, 2, 80, 0, 0)), (71, (39, 74, 129, 0, 0, 0, 0)), (74, (4, 75, 0, 0, 0, 1, 0)), (75, (1, 77, 6, 0, 0, 0, 0)), (77, (16, 78, 0, 0, 0, 0, 0)), (78, (4, 79, 0, 0, 0, 1, 0)), (79, (1, 81, 6, 0, 0, 0, 0)), (81, (2, 82, 0, 0, 0, 0, 0)), (82, (48, 85, 0, 3, 21, 0, 0)), (85, (1, 87, 7, 0, 0, 0, 0)), (87, (51, 88, 0, 0, 0, 0, 0)), (88, (10, 89, 0, 0, 0, 0, 0)), (89, (16, 90, 0, 0, 0, 0, 0)), (90, (20, 91, 0, 0, 0, 0, 0)), (91, (6, 93, 8, 0, 0, 0, 0)), (93, (1, 95, 6, 0, 0, 0, 0)), (95, (32, 96, 0, 0, 0, 0, 0)), (96, (4, 97, 0, 0, 0, 5, 0)), (97, (1, 99, 7, 0, 0, 0, 0)), (99, (12, 100, 0, 0, 0, 0, 0)), (100, (27, 101, 0, 0, 0, 0, 0)), (101, (8, 103, 9, 0, 0, 0, 0)), (103, (2, 104, 0, 0, 0, 0, 0)), (104, (1, 105, 1, 0, 0, 0, 0)), (105, (1, 107, 8, 0, 0, 0, 0)), (107, (4, 108, 0, 0, 0, (-1), 0)), (108, (21, 109, 0, 0, 0, 0, 0)), (109, (19, 110, 0, 0, 0, 0, 0)), (110, (1, 111, 2, 0, 0, 0, 0)), (111, (4, 112, 0, 0, 0, 1, 0)), (112, (1, 114, 7, 0, 0, 0, 0)), (114, (16, 115, 0, 0, 0, 0, 0)), (115, (4, 116, 0, 0, 0, (-1), 0)), (116, (21, 117, 0, 0, 0, 0, 0)), (117, (19, 118, 0, 0, 0, 0, 0)), (118, (3, 119, 3, 0, 0, 0, 0)), (119, (3, 121, 9, 0, 0, 0, 0)), (121, (25, 122, 0, 0, 0, 0, 0)), (122, (1, 124, 5, 0, 0, 0, 0)), (124, (4, 125, 0, 0, 0, 1, 0)), (125, (10, 126, 0, 0, 0, 0, 0)), (126, (66, 129, 2, 5, 60, 0, 0))], [(129, (9, 132, 7, 0, 0, 1, 0)), (132, (45, 135, 36, 0, 0, 0, 0)), (135, (73, 136, 0, 0, 0, 0, 0))]]
def am_t3 : List (List (Nat × am_I)) := [[(0, (2, 1, 0, 0, 0, 0, 0)), (1, (48, 4, 0, 5, 28, 0, 0)), (4, (41, 7, 19, 0, 0, 0, 0)), (7, (2, 8, 0, 0, 0, 0, 0)), (8, (48, 11, 0, 5, 28, 0, 0)), (11, (2, 12, 0, 0, 0, 0, 0)), (12, (48, 15, 0, 0, 15, 0, 0)), (15, (59, 16, 0, 0, 0, 0, 0)), (16, (35, 19, 23, 0, 0, 0, 0)), (19, (4, 20, 0, 0, 0, 1, 0)), (20, (45, 23, 24, 0, 0, 0, 0)), (23, (4, 24, 0, 0, 0, 0, 0)), (24, (70, 25, 1, 0, 0, 0, 0))]]
def am_t4 : List (List (Nat × am_I)) := [[(0, (2, 1, 0, 0, 0, 0, 0)), (1, (65, 4, 3, 0, 77, 0, 0)), (4, (40, 7, 27, 0, 0, 0, 0)), (7, (2, 8, 0, 0, 0, 0, 0)), (8, (48, 11, 0, 0, 15, 0, 0)), (11, (2, 12, 0, 0, 0, 0, 0)), (12, (48, 15, 0, 5, 28, 0, 0)), (15, (3, 16, 1, 0, 0, 0, 0)), (16, (54, 17, 0, 0, 0, 0, 0)), (17, (2, 18, 0, 0, 0, 0, 0)), (18, (63, 19, 0, 0, 0, 0, 0)), (19, (48, 22, 0, 5, 28, 0, 0)), (22, (4, 23, 0, 0, 0, 1, 0)), (23, (10, 24, 0, 0, 0, 0, 0)), (24, (49, 27, 0, 5, 28, 0, 0)), (27, (73, 28, 0, 0, 0, 0, 0))]]
def am_t5 : List (List (Nat × am_I)) := [[(0, (4, 1, 0, 0, 0, 0, 0)), (1, (6, 2, 3, 0, 0, 0, 0)), (2, (1, 3, 3, 0, 0, 0, 0)), (3, (4, 5, 0, 0, 0, 8, 0)), (5, (36, 8, 33, 0, 0, 0, 0)), (8, (1, 9, 2, 0, 0, 0, 0)), (9, (1, 10, 3, 0, 0, 0, 0)), (10, (67, 13, 88, 2, 80, 0, 0)), (13, (39, 16, 27, 0, 0, 0, 0)), (16, (2, 17, 0, 0, 0, 0, 0)), (17, (1, 18, 1, 0, 0, 0, 0)), (18, (1, 19, 3, 0, 0, 0, 0)), (19, (65, 22, 6, 2, 83, 0, 0)), (22, (40, 25, 27, 0, 0, 0, 0)), (25, (4, 26, 0, 0, 0, 0, 0)), (26, (70, 27, 1, 0, 0, 0, 0)), (27, (9, 30, 3, 0, 0, 1, 0)), (30, (45, 33, 2, 0, 0, 0, 0)), (33, (4, 34, 0, 0, 0, 1, 0)), (34, (70, 35, 1, 0, 0, 0, 0))]]
def am_t6 : List (List (Nat × am_I)) := [[(0, (1, 1, 2, 0, 0, 0, 0)), (1, (41, 4, 10, 0, 0, 0, 0)), (4, (1, 5, 2, 0, 0, 0, 0)), (5, (4, 7, 0, 0, 0, 8, 0)), (7, (35, 10, 12, 0, 0, 0, 0)), (10, (4, 11, 0, 0, 0, 0, 0)), (11, (70, 12, 0, 0, 0, 0, 0)), (12, (2, 13, 0, 0, 0, 0, 0)), (13, (48, 16, 0, 4, 25, 0, 0)), (16, (1, 17, 2, 0, 0, 0, 0)), (17, (51, 18, 0, 0, 0, 0, 0)), (18, (1, 19, 1, 0, 0, 0, 0)), (19, (19, 20, 0, 0, 0, 0, 0)), (20, (1, 21, 1, 0, 0, 0, 0)), (21, (2, 22, 0, 0, 0, 0, 0)), (22, (48, 25, 0, 3, 21, 0, 0)), (25, (1, 26, 2, 0, 0, 0, 0)), (26, (51, 27, 0, 0, 0, 0, 0)), (27, (17, 28, 0, 0, 0, 0, 0)), (28, (19, 29, 0, 0, 0, 0, 0)), (29, (70, 30, 0, 0, 0, 0, 0))]]
def am_t7 : List (List (Nat × am_I)) := [[(0, (1, 1, 1, 0, 0, 0, 0)), (1, (41, 4, 25, 0, 0, 0, 0)), (4, (1, 5, 1, 0, 0, 0, 0)), (5, (2, 6, 0, 0, 0, 0, 0)), (6, (48, 9, 0, 5, 28, 0, 0)), (9, (36, 12, 25, 0, 0, 0, 0)), (12, (1, 13, 1, 0, 0, 0, 0)), (13, (2, 14, 0, 0, 0, 0, 0)), (14, (48, 17, 0, 0, 15, 0, 0)), (17, (59, 18, 0, 0, 0, 0, 0)), (18, (36, 21, 25, 0, 0, 0, 0)), (21, (4, 22, 0, 0, 0, 1, 0)), (22, (45, 25, 26, 0, 0, 0, 0)), (25, (4, 26, 0, 0, 0, 0, 0)), (26, (70, 27, 1, 0, 0, 0, 0))]]
def am_t8 : List (List (Nat × am_I)) := [[(0, (2, 1, 0, 0, 0, 0, 0)), (1, (1, 2, 1, 0, 0, 0, 0)), (2, (65, 5, 7, 1, 86, 0, 0)), (5, (39, 8, 17, 0, 0, 0, 0)), (8, (2, 9, 0, 0, 0, 0, 0)), (9, (48, 12, 0, 0, 15, 0, 0)), (12, (1, 13, 1, 0, 0, 0, 0)), (13, (53, 14, 0, 0, 0, 0, 0)), (14, (45, 17, 18, 0, 0, 0, 0)), (17, (5, 18, 0, 0, 0, 0, 0)), (18, (71, 19, 0, 0, 0, 0, 0))]]
def am_t9 : List (List (Nat × am_I)) := [[(0, (2, 1, 0, 0, 0, 0, 0)), (1, (1, 2, 1, 0, 0, 0, 0)), (2, (65, 5, 8, 1, 89, 0, 0)), (5, (4, 6, 0, 0, 0, 5, 0)), (6, (1, 7, 2, 0, 0, 0, 0)), (7, (12, 8, 0, 0, 0, 0, 0)), (8, (29, 9, 0, 0, 0, 0, 0)), (9, (31, 10, 0, 0, 0, 0, 0)), (10, (4, 12, 0, 0, 0, 31, 0)), (12, (19, 13, 0, 0, 0, 0, 0)), (13, (70, 14, 0, 0, 0, 0, 0))]]
def am_t10 : List (List (Nat × am_I)) := [[(0, (4, 1, 0, 0, 0, 0, 0)), (1, (6, 2, 3, 0, 0, 0, 0)), (2, (1, 3, 3, 0, 0, 0, 0)), (3, (2, 4, 0, 0, 0, 0, 0)), (4, (48, 7, 0, 2, 38, 0, 0)), (7, (36, 10, 39, 0, 0, 0, 0)), (10, (1, 11, 3, 0, 0, 0, 0)), (11, (4, 13, 0, 0, 0, 8, 0)), (13, (36, 16, 39, 0, 0, 0, 0)), (16, (2, 17, 0, 0, 0, 0, 0)), (17, (48, 20, 0, 3, 21, 0, 0)), (20, (1, 21, 3, 0, 0, 0, 0)), (21, (51, 22, 0, 0, 0, 0, 0)), (22, (1, 23, 2, 0, 0, 0, 0)), (23, (34, 26, 33, 0, 0, 0, 0)), (26, (2, 27, 0, 0, 0, 0, 0)), (27, (1, 28, 1, 0, 0, 0, 0)), (28, (1, 29, 3, 0, 0, 0, 0)), (29, (65, 32, 9, 2, 93, 0, 0)), (32, (70, 33, 0, 0, 0, 0, 0)), (33, (9, 36, 3, 0, 0, 1, 0)), (36, (45, 39, 2, 0, 0, 0, 0)), (39, (4, 41, 0, 0, 0, (-6), 0)), (41, (70, 42, 0, 0, 0, 0, 0))]]
def am_t11 : List (List (Nat × am_I)) := [[(0, (4, 1, 0, 0, 0, 0, 0)), (1, (6, 2, 3, 0, 0, 0, 0)), (2, (1, 3, 3, 0, 0, 0, 0)), (3, (2, 4, 0, 0, 0, 0, 0)), (4, (48, 7, 0, 2, 38, 0, 0)), (7, (36, 10, 56, 0, 0, 0, 0)), (10, (1, 11, 3, 0, 0, 0, 0)), (11, (4, 13, 0, 0, 0, 8, 0)), (13, (36, 16, 56, 0, 0, 0, 0)), (16, (2, 17, 0, 0, 0, 0, 0)), (17, (1, 18, 1, 0, 0, 0, 0)), (18, (1, 19, 3, 0, 0, 0, 0)), (19, (65, 22, 9, 2, 93, 0, 0)), (22, (6, 24, 4, 0, 0, 0, 0)), (24, (1, 25, 2, 0, 0, 0, 0)), (25, (1, 27, 4, 0, 0, 0, 0)), (27, (33, 30, 43, 0, 0, 0, 0)), (30, (1, 31, 2, 0, 0, 0, 0)), (31, (1, 33, 4, 0, 0, 0, 0)), (33, (2, 34, 0, 0, 0, 0, 0)), (34, (48, 37, 0, 3, 21, 0, 0)), (37, (1, 38, 3, 0, 0, 0, 0)), (38, (51, 39, 0, 0, 0, 0, 0)), (39, (10, 40, 0, 0, 0, 0, 0)), (40, (34, 43, 50, 0, 0, 0, 0)), (43, (2, 44, 0, 0, 0, 0, 0)), (44, (48, 47, 0, 3, 21, 0, 0)), (47, (1, 48, 3, 0, 0, 0, 0)), (48, (51, 49, 0, 0, 0, 0, 0)), (49, (70, 50, 0, 0, 0, 0, 0)), (50, (9, 53, 3, 0, 0, 1, 0)), (53, (45, 56, 2, 0, 0, 0, 0)), (56, (4, 57, 0, 0, 0, 0, 0)), (57, (70, 58, 0, 0, 0, 0, 0))]]
def am_t12 : List (List (Nat × am_I)) := [[(0, (4, 1, 0, 0, 0, 0, 0)), (1, (6, 2, 2, 0, 0, 0, 0)), (2, (4, 3, 0, 0, 0, 0, 0)), (3, (6, 4, 3, 0, 0, 0, 0)), (4, (1, 5, 3, 0, 0, 0, 0)), (5, (2, 6, 0, 0, 0, 0, 0)), (6, (48, 9, 0, 5, 28, 0, 0)), (9, (36, 12, 29, 0, 0, 0, 0)), (12, (1, 13, 2, 0, 0, 0, 0)), (13, (4, 14, 0, 0, 0, 1, 0)), (14, (2, 15, 0, 0, 0, 0, 0)), (15, (1, 16, 3, 0, 0, 0, 0)), (16, (1, 17, 1, 0, 0, 0, 0)), (17, (65, 20, 11, 2, 96, 0, 0)), (20, (16, 21, 0, 0, 0, 0, 0)), (21, (20, 22, 0, 0, 0, 0, 0)), (22, (6, 23, 2, 0, 0, 0, 0)), (23, (9, 26, 3, 0, 0, 1, 0)), (26, (45, 29, 4, 0, 0, 0, 0)), (29, (1, 30, 2, 0, 0, 0, 0)), (30, (4, 32, 0, 0, 0, (-2), 0)), (32, (19, 33, 0, 0, 0, 0, 0)), (33, (70, 34, 0, 0, 0, 0, 0))]]
def am_t13 : List (List (Nat × am_I)) := [[(0, (2, 1, 0, 0, 0, 0, 0)), (1, (1, 2, 1, 0, 0, 0, 0)), (2, (65, 5, 8, 1, 89, 0, 0)), (5, (2, 6, 0, 0, 0, 0, 0)), (6, (1, 7, 2, 0, 0, 0, 0)), (7, (65, 10, 8, 1, 89, 0, 0)), (10, (26, 11, 0, 0, 0, 0, 0)), (11, (8, 12, 3, 0, 0, 0, 0)), (12, (3, 13, 3, 0, 0, 0, 0)), (13, (5, 16, 0, 0, 99, 0, 532021755375)), (16, (24, 17, 0, 0, 0, 0, 0)), (17, (5, 20, 0, 0, 99, 0, 532021755375)), (20, (22, 21, 0, 0, 0, 0, 0)), (21, (3, 22, 3, 0, 0, 0, 0)), (22, (25, 23, 0, 0, 0, 0, 0)), (23, (5, 26, 0, 0, 101, 0, 567489872400)), (26, (24, 27, 0, 0, 0, 0, 0)), (27, (66, 30, 93, 1, 103, 0, 0)), (30, (70, 31, 0, 0, 0, 0, 0))]]
def am_t14 : List (List (Nat × am_I)) := [[(0, (5, 1, 0, 0, 0, 0, 0)), (1, (8, 2, 2, 0, 0, 0, 0)), (2, (4, 3, 0, 0, 0, 0, 0)), (3, (6, 5, 4, 0, 0, 0, 0)), (5, (1, 7, 4, 0, 0, 0, 0)), (7, (2, 8, 0, 0, 0, 0, 0)), (8, (48, 11, 0, 2, 38, 0, 0)), (11, (36, 14, 62, 0, 0, 0, 0)), (14, (1, 16, 4, 0, 0, 0, 0)), (16, (4, 18, 0, 0, 0, 8, 0)), (18, (36, 21, 62, 0, 0, 0, 0)), (21, (2, 22, 0, 0, 0, 0, 0)), (22, (48, 25, 0, 1, 37, 0, 0)), (25, (4, 26, 0, 0, 0, 1, 0)), (26, (11, 27, 0, 0, 0, 0, 0)), (27, (2, 28, 0, 0, 0, 0, 0)), (28, (48, 31, 0, 3, 21, 0, 0)), (31, (1, 33, 4, 0, 0, 0, 0)), (33, (51, 34, 0, 0, 0, 0, 0)), (34, (11, 35, 0, 0, 0, 0, 0)), (35, (2, 36, 0, 0, 0, 0, 0)), (36, (1, 37, 1, 0, 0, 0, 0)), (37, (1, 39, 4, 0, 0, 0, 0)), (39, (65, 42, 9, 2, 93, 0, 0)), (42, (11, 43, 0, 0, 0, 0, 0)), (43, (32, 44, 0, 0, 0, 0, 0)), (44, (8, 46, 5, 0, 0, 0, 0)), (46, (3, 47, 2, 0, 0, 0, 0)), (47, (3, 49, 5, 0, 0, 0, 0)), (49, (4, 50, 0, 0, 0, 5, 0)), (50, (1, 52, 4, 0, 0, 0, 0)), (52, (12, 53, 0, 0, 0, 0, 0)), (53, (27, 54, 0, 0, 0, 0, 0)), (54, (25, 55, 0, 0, 0, 0, 0)), (55, (8, 56, 2, 0, 0, 0, 0)), (56, (9, 59, 4, 0, 0, 1, 0)), (59, (45, 62, 5, 0, 0, 0, 0)), (62, (4, 63, 0, 0, 0, 0, 0)), (63, (6, 65, 4, 0, 0, 0, 0))], [(65, (1, 67, 4, 0, 0, 0, 0)), (67, (2, 68, 0, 0, 0, 0, 0)), (68, (48, 71, 0, 5, 28, 0, 0)), (71, (36, 74, 94, 0, 0, 0, 0)), (74, (2, 75, 0, 0, 0, 0, 0)), (75, (1, 77, 4, 0, 0, 0, 0)), (77, (65, 80, 8, 1, 89, 0, 0)), (80, (3, 81, 2, 0, 0, 0, 0)), (81, (30, 82, 0, 0, 0, 0, 0)), (82, (40, 85, 88, 0, 0, 0, 0)), (85, (1, 87, 4, 0, 0, 0, 0)), (87, (70, 88, 0, 0, 0, 0, 0)), (88, (9, 91, 4, 0, 0, 1, 0)), (91, (45, 94, 65, 0, 0, 0, 0)), (94, (4, 95, 0, 0, 0, (-1), 0)), (95, (70, 96, 0, 0, 0, 0, 0))]]
def am_t15 : List (List (Nat × am_I)) := [[(0, (2, 1, 0, 0, 0, 0, 0)), (1, (69, 4, 0, 0, 3, 0, 0)), (4, (2, 5, 0, 0, 0, 0, 0)), (5, (4, 7, 0, 0, 0, 18, 0)), (7, (61, 9, 0, 0, 0, 0, 0)), (9, (50, 12, 1, 0, 9, 0, 0)), (12, (2, 13, 0, 0, 0, 0, 0)), (13, (4, 14, 0, 0, 0, 0, 0)), (14, (49, 17, 1, 1, 15, 0, 0)), (17, (73, 18, 0, 0, 0, 0, 0))]]
def am_t16 : List (List (Nat × am_I)) := [[(0, (1, 1, 1, 0, 0, 0, 0)), (1, (41, 4, 22, 0, 0, 0, 0)), (4, (1, 5, 1, 0, 0, 0, 0)), (5, (2, 6, 0, 0, 0, 0, 0)), (6, (48, 9, 1, 1, 15, 0, 0)), (9, (36, 12, 22, 0, 0, 0, 0)), (12, (1, 13, 1, 0, 0, 0, 0)), (13, (4, 15, 0, 0, 0, 18, 0)), (15, (36, 18, 22, 0, 0, 0, 0)), (18, (4, 19, 0, 0, 0, 1, 0)), (19, (45, 22, 23, 0, 0, 0, 0)), (22, (4, 23, 0, 0, 0, 0, 0)), (23, (70, 24, 1, 0, 0, 0, 0))]]
def am_t17 : List (List (Nat × am_I)) := [[(0, (2, 1, 0, 0, 0, 0, 0)), (1, (48, 4, 1, 1, 15, 0, 0)), (4, (41, 7, 36, 0, 0, 0, 0)), (7, (2, 8, 0, 0, 0, 0, 0)), (8, (48, 11, 1, 1, 15, 0, 0)), (11, (4, 13, 0, 0, 0, 18, 0)), (13, (36, 16, 36, 0, 0, 0, 0)), (16, (2, 17, 0, 0, 0, 0, 0)), (17, (48, 20, 1, 0, 9, 0, 0)), (20, (2, 21, 0, 0, 0, 0, 0)), (21, (48, 24, 1, 1, 15, 0, 0)), (24, (1, 25, 1, 0, 0, 0, 0)), (25, (52, 26, 0, 0, 0, 0, 0)), (26, (2, 27, 0, 0, 0, 0, 0)), (27, (63, 28, 0, 0, 0, 0, 0)), (28, (48, 31, 1, 1, 15, 0, 0)), (31, (4, 32, 0, 0, 0, 1, 0)), (32, (10, 33, 0, 0, 0, 0, 0)), (33, (49, 36, 1, 1, 15, 0, 0)), (36, (73, 37, 0, 0, 0, 0, 0))]]
def am_t18 : List (List (Nat × am_I)) := [[(0, (1, 1, 0, 0, 0, 0, 0)), (1, (40, 4, 7, 0, 0, 0, 0)), (4, (4, 6, 0, 0, 0, 46, 0)), (6, (70, 7, 0, 0, 0, 0, 0)), (7, (1, 8, 0, 0, 0, 0, 0)), (8, (4, 10, 0, 0, 0, 9, 0)), (10, (37, 13, 20, 0, 0, 0, 0)), (13, (4, 15, 0, 0, 0, 48, 0)), (15, (1, 16, 0, 0, 0, 0, 0)), (16, (10, 17, 0, 0, 0, 0, 0)), (17, (45, 20, 27, 0, 0, 0, 0)), (20, (4, 22, 0, 0, 0, 97, 0)), (22, (1, 23, 0, 0, 0, 0, 0)), (23, (10, 24, 0, 0, 0, 0, 0)), (24, (4, 26, 0, 0, 0, 10, 0)), (26, (11, 27, 0, 0, 0, 0, 0)), (27, (70, 28, 0, 0, 0, 0, 0))]]
def am_t19 : List (List (Nat × am_I)) := [[(0, (1, 1, 0, 0, 0, 0, 0)), (1, (4, 3, 0, 0, 0, 46, 0)), (3, (34, 6, 8, 0, 0, 0, 0)), (6, (4, 7, 0, 0, 0, 0, 0)), (7, (70, 8, 0, 0, 0, 0, 0)), (8, (1, 9, 0, 0, 0, 0, 0)), (9, (4, 11, 0, 0, 0, 63, 0)), (11, (34, 14, 16, 0, 0, 0, 0)), (14, (4, 15, 0, 0, 0, (-1), 0)), (15, (70, 16, 0, 0, 0, 0, 0)), (16, (1, 17, 0, 0, 0, 0, 0)), (17, (4, 19, 0, 0, 0, 49, 0)), (19, (35, 22, 33, 0, 0, 0, 0)), (22, (1, 23, 0, 0, 0, 0, 0)), (23, (4, 25, 0, 0, 0, 57, 0)), (25, (37, 28, 33, 0, 0, 0, 0)), (28, (1, 29, 0, 0, 0, 0, 0)), (29, (4, 31, 0, 0, 0, 48, 0)), (31, (11, 32, 0, 0, 0, 0, 0)), (32, (70, 33, 0, 0, 0, 0, 0)), (33, (1, 34, 0, 0, 0, 0, 0)), (34, (4, 36, 0, 0, 0, 97, 0)), (36, (35, 39, 55, 0, 0, 0, 0)), (39, (1, 40, 0, 0, 0, 0, 0)), (40, (4, 42, 0, 0, 0, 104, 0)), (42, (37, 45, 55, 0, 0, 0, 0)), (45, (1, 46, 0, 0, 0, 0, 0)), (46, (4, 48, 0, 0, 0, 97, 0)), (48, (11, 49, 0, 0, 0, 0, 0)), (49, (4, 51, 0, 0, 0, 10, 0)), (51, (10, 52, 0, 0, 0, 0, 0)), (52, (45, 55, 57, 0, 0, 0, 0)), (55, (4, 57, 0, 0, 0, (-2), 0)), (57, (70, 58, 0, 0, 0, 0, 0))]]
def am_t20 : List (List (Nat × am_I)) := [[(0, (2, 1, 0, 0, 0, 0, 0)), (1, (1, 2, 1, 0, 0, 0, 0)), (2, (65, 5, 16, 1, 19, 0, 0)), (5, (39, 8, 20, 0, 0, 0, 0)), (8, (2, 9, 0, 0, 0, 0, 0)), (9, (48, 12, 1, 0, 9, 0, 0)), (12, (1, 13, 1, 0, 0, 0, 0)), (13, (51, 14, 0, 0, 0, 0, 0)), (14, (66, 17, 19, 1, 23, 0, 0)), (17, (45, 20, 22, 0, 0, 0, 0)), (20, (4, 22, 0, 0, 0, (-2), 0)), (22, (70, 23, 0, 0, 0, 0, 0))]]
def am_t21 : List (List (Nat × am_I)) := [[(0, (4, 1, 0, 0, 0, 0, 0)), (1, (6, 2, 2, 0, 0, 0, 0)), (2, (1, 3, 2, 0, 0, 0, 0)), (3, (2, 4, 0, 0, 0, 0, 0)), (4, (48, 7, 1, 1, 15, 0, 0)), (7, (36, 10, 27, 0, 0, 0, 0)), (10, (2, 11, 0, 0, 0, 0, 0)), (11, (1, 12, 2, 0, 0, 0, 0)), (12, (65, 15, 20, 1, 27, 0, 0)), (15, (1, 16, 1, 0, 0, 0, 0)), (16, (34, 19, 21, 0, 0, 0, 0)), (19, (1, 20, 2, 0, 0, 0, 0)), (20, (70, 21, 0, 0, 0, 0, 0)), (21, (9, 24, 2, 0, 0, 1, 0)), (24, (45, 27, 2, 0, 0, 0, 0)), (27, (4, 28, 0, 0, 0, (-1), 0)), (28, (70, 29, 0, 0, 0, 0, 0))]]
def am_t22 : List (List (Nat × am_I)) := [[(0, (4, 1, 0, 0, 0, 0, 0)), (1, (6, 2, 3, 0, 0, 0, 0)), (2, (4, 3, 0, 0, 0, 0, 0)), (3, (6, 5, 4, 0, 0, 0, 0)), (5, (1, 7, 4, 0, 0, 0, 0)), (7, (1, 8, 1, 0, 0, 0, 0)), (8, (36, 11, 30, 0, 0, 0, 0)), (11, (2, 12, 0, 0, 0, 0, 0)), (12, (1, 14, 4, 0, 0, 0, 0)), (14, (65, 17, 20, 1, 27, 0, 0)), (17, (1, 18, 2, 0, 0, 0, 0)), (18, (34, 21, 24, 0, 0, 0, 0)), (21, (9, 24, 3, 0, 0, 1, 0)), (24, (9, 27, 4, 0, 0, 1, 0)), (27, (45, 30, 5, 0, 0, 0, 0)), (30, (1, 31, 3, 0, 0, 0, 0)), (31, (70, 32, 0, 0, 0, 0, 0))]]
def am_t23 : List (List (Nat × am_I)) := [[(0, (2, 1, 0, 0, 0, 0, 0)), (1, (69, 4, 0, 0, 3, 0, 0)), (4, (2, 5, 0, 0, 0, 0, 0)), (5, (4, 7, 0, 0, 0, 18, 0)), (7, (61, 9, 0, 0, 0, 0, 0)), (9, (50, 12, 2, 3, 9, 0, 0)), (12, (73, 13, 0, 0, 0, 0, 0))]]
def am_t24 : List (List (Nat × am_I)) := [[(0, (2, 1, 0, 0, 0, 0, 0)), (1, (1, 2, 1, 0, 0, 0, 0)), (2, (49, 5, 2, 0, 15, 0, 0)), (5, (2, 6, 0, 0, 0, 0, 0)), (6, (1, 7, 2, 0, 0, 0, 0)), (7, (49, 10, 2, 1, 19, 0, 0)), (10, (2, 11, 0, 0, 0, 0, 0)), (11, (1, 12, 3, 0, 0, 0, 0)), (12, (49, 15, 2, 2, 22, 0, 0)), (15, (4, 16, 0, 0, 0, 0, 0)), (16, (6, 18, 4, 0, 0, 0, 0)), (18, (1, 20, 4, 0, 0, 0, 0)), (20, (4, 22, 0, 0, 0, 18, 0)), (22, (36, 25, 39, 0, 0, 0, 0)), (25, (2, 26, 0, 0, 0, 0, 0)), (26, (48, 29, 2, 3, 9, 0, 0)), (29, (1, 31, 4, 0, 0, 0, 0)), (31, (4, 32, 0, 0, 0, 0, 0)), (32, (52, 33, 0, 0, 0, 0, 0)), (33, (9, 36, 4, 0, 0, 1, 0)), (36, (45, 39, 18, 0, 0, 0, 0)), (39, (73, 40, 0, 0, 0, 0, 0))]]
def am_t25 : List (List (Nat × am_I)) := [[(0, (2, 1, 0, 0, 0, 0, 0)), (1, (2, 2, 1, 0, 0, 0, 0)), (2, (48, 5, 2, 0, 15, 0, 0)), (5, (2, 6, 1, 0, 0, 0, 0)), (6, (48, 9, 2, 1, 19, 0, 0)), (9, (2, 10, 1, 0, 0, 0, 0)), (10, (48, 13, 2, 2, 22, 0, 0)), (13, (65, 16, 24, 3, 25, 0, 0)), (16, (4, 17, 0, 0, 0, 0, 0)), (17, (6, 18, 2, 0, 0, 0, 0)), (18, (1, 19, 2, 0, 0, 0, 0)), (19, (4, 21, 0, 0, 0, 18, 0)), (21, (36, 24, 42, 0, 0, 0, 0)), (24, (2, 25, 0, 0, 0, 0, 0)), (25, (48, 28, 2, 3, 9, 0, 0)), (28, (1, 29, 2, 0, 0, 0, 0)), (29, (2, 30, 1, 0, 0, 0, 0)), (30, (48, 33, 2, 3, 9, 0, 0)), (33, (1, 34, 2, 0, 0, 0, 0)), (34, (51, 35, 0, 0, 0, 0, 0)), (35, (52, 36, 0, 0, 0, 0, 0)), (36, (9, 39, 2, 0, 0, 1, 0)), (39, (45, 42, 18, 0, 0, 0, 0)), (42, (73, 43, 0, 0, 0, 0, 0))]]
def am_t26 : List (List (Nat × am_I)) := [[(0, (1, 1, 1, 0, 0, 0, 0)), (1, (41, 4, 22, 0, 0, 0, 0)), (4, (1, 5, 1, 0, 0, 0, 0)), (5, (2, 6, 0, 0, 0, 0, 0)), (6, (48, 9, 2, 0, 15, 0, 0)), (9, (36, 12, 22, 0, 0, 0, 0)), (12, (1, 13, 1, 0, 0, 0, 0)), (13, (4, 15, 0, 0, 0, 18, 0)), (15, (36, 18, 22, 0, 0, 0, 0)), (18, (4, 19, 0, 0, 0, 1, 0)), (19, (45, 22, 23, 0, 0, 0, 0)), (22, (4, 23, 0, 0, 0, 0, 0)), (23, (70, 24, 1, 0, 0, 0, 0))]]
def am_t27 : List (List (Nat × am_I)) := [[(0, (2, 1, 0, 0, 0, 0, 0)), (1, (48, 4, 2, 2, 22, 0, 0)), (4, (1, 5, 1, 0, 0, 0, 0)), (5, (67, 8, 88, 2, 29, 0, 0)), (8, (70, 9, 1, 0, 0, 0, 0))]]
def am_t28 : List (List (Nat × am_I)) := [[(0, (2, 1, 0, 0, 0, 0, 0)), (1, (48, 4, 2, 2, 22, 0, 0)), (4, (66, 7, 92, 1, 33, 0, 0)), (7, (70, 8, 0, 0, 0, 0, 0))]]
def am_t29 : List (List (Nat × am_I)) := [[(0, (4, 1, 0, 0, 0, 0, 0)), (1, (2, 2, 0, 0, 0, 0, 0)), (2, (48, 5, 2, 0, 15, 0, 0)), (5, (4, 6, 0, 0, 0, 1, 0)), (6, (11, 7, 0, 0, 0, 0, 0)), (7, (67, 10, 89, 2, 39, 0, 0)), (10, (2, 11, 0, 0, 0, 0, 0)), (11, (48, 14, 2, 1, 19, 0, 0)), (14, (4, 15, 0, 0, 0, (-1), 0)), (15, (21, 16, 0, 0, 0, 0, 0)), (16, (19, 17, 0, 0, 0, 0, 0)), (17, (70, 18, 0, 0, 0, 0, 0))]]
def am_t30 : List (List (Nat × am_I)) := [[(0, (2, 1, 0, 0, 0, 0, 0)), (1, (65, 4, 29, 0, 43, 0, 0)), (4, (1, 5, 1, 0, 0, 0, 0)), (5, (67, 8, 88, 2, 29, 0, 0)), (8, (70, 9, 1, 0, 0, 0, 0))]]
def am_t31 : List (List (Nat × am_I)) := [[(0, (2, 1, 0, 0, 0, 0, 0)), (1, (1, 2, 1, 0, 0, 0, 0)), (2, (65, 5, 26, 1, 47, 0, 0)), (5, (39, 8, 17, 0, 0, 0, 0)), (8, (2, 9, 0, 0, 0, 0, 0)), (9, (48, 12, 2, 3, 9, 0, 0)), (12, (1, 13, 1, 0, 0, 0, 0)), (13, (51, 14, 0, 0, 0, 0, 0)), (14, (45, 17, 18, 0, 0, 0, 0)), (17, (4, 18, 0, 0, 0, 0, 0)), (18, (70, 19, 0, 0, 0, 0, 0))]]
def am_t32 : List (List (Nat × am_I)) := [[(0, (2, 1, 0, 0, 0, 0, 0)), (1, (1, 2, 1, 0, 0, 0, 0)), (2, (65, 5, 26, 1, 47, 0, 0)), (5, (39, 8, 15, 0, 0, 0, 0)), (8, (2, 9, 0, 0, 0, 0, 0)), (9, (48, 12, 2, 3, 9, 0, 0)), (12, (1, 13, 1, 0, 0, 0, 0)), (13, (1, 14, 2, 0, 0, 0, 0)), (14, (52, 15, 0, 0, 0, 0, 0)), (15, (73, 16, 0, 0, 0, 0, 0))]]
def am_t33 : List (List (Nat × am_I)) := [[(0, (4, 1, 0, 0, 0, 0, 0)), (1, (6, 2, 1, 0, 0, 0, 0)), (2, (4, 3, 0, 0, 0, 0, 0)), (3, (6, 4, 2, 0, 0, 0, 0)), (4, (1, 5, 2, 0, 0, 0, 0)), (5, (2, 6, 0, 0, 0, 0, 0)), (6, (48, 9, 2, 0, 15, 0, 0)), (9, (36, 12, 32, 0, 0, 0, 0)), (12, (2, 13, 0, 0, 0, 0, 0)), (13, (1, 14, 2, 0, 0, 0, 0)), (14, (65, 17, 31, 1, 51, 0, 0)), (17, (39, 20, 26, 0, 0, 0, 0)), (20, (1, 21, 1, 0, 0, 0, 0)), (21, (4, 22, 0, 0, 0, 1, 0)), (22, (1, 23, 2, 0, 0, 0, 0)), (23, (16, 24, 0, 0, 0, 0, 0)), (24, (20, 25, 0, 0, 0, 0, 0)), (25, (6, 26, 1, 0, 0, 0, 0)), (26, (9, 29, 2, 0, 0, 1, 0)), (29, (45, 32, 4, 0, 0, 0, 0)), (32, (1, 33, 1, 0, 0, 0, 0)), (33, (70, 34, 0, 0, 0, 0, 0))]]
def am_t34 : List (List (Nat × am_I)) := [[(0, (4, 1, 0, 0, 0, 0, 0)), (1, (6, 2, 2, 0, 0, 0, 0)), (2, (4, 3, 0, 0, 0, 0, 0)), (3, (6, 4, 3, 0, 0, 0, 0)), (4, (1, 5, 3, 0, 0, 0, 0)), (5, (2, 6, 0, 0, 0, 0, 0)), (6, (48, 9, 2, 0, 15, 0, 0)), (9, (36, 12, 33, 0, 0, 0, 0)), (12, (2, 13, 0, 0, 0, 0, 0)), (13, (1, 14, 3, 0, 0, 0, 0)), (14, (65, 17, 31, 1, 51, 0, 0)), (17, (1, 18, 1, 0, 0, 0, 0)), (18, (34, 21, 27, 0, 0, 0, 0)), (21, (1, 22, 2, 0, 0, 0, 0)), (22, (4, 23, 0, 0, 0, 1, 0)), (23, (1, 24, 3, 0, 0, 0, 0)), (24, (16, 25, 0, 0, 0, 0, 0)), (25, (20, 26, 0, 0, 0, 0, 0)), (26, (6, 27, 2, 0, 0, 0, 0)), (27, (9, 30, 3, 0, 0, 1, 0)), (30, (45, 33, 4, 0, 0, 0, 0)), (33, (1, 34, 2, 0, 0, 0, 0)), (34, (70, 35, 0, 0, 0, 0, 0))]]
def am_t35 : List (List (Nat × am_I)) := [[(0, (2, 1, 0, 0, 0, 0, 0)), (1, (65, 4, 29, 0, 43, 0, 0)), (4, (2, 5, 0, 0, 0, 0, 0)), (5, (4, 6, 0, 0, 0, 0, 0)), (6, (65, 9, 34, 1, 54, 0, 0)), (9, (2, 10, 0, 0, 0, 0, 0)), (10, (1, 11, 1, 0, 0, 0, 0)), (11, (65, 14, 34, 1, 54, 0, 0)), (14, (20, 15, 0, 0, 0, 0, 0)), (15, (19, 16, 0, 0, 0, 0, 0)), (16, (6, 17, 2, 0, 0, 0, 0)), (17, (1, 18, 2, 0, 0, 0, 0)), (18, (1, 19, 2, 0, 0, 0, 0)), (19, (1, 20, 1, 0, 0, 0, 0)), (20, (17, 21, 0, 0, 0, 0, 0)), (21, (19, 22, 0, 0, 0, 0, 0)), (22, (70, 23, 0, 0, 0, 0, 0))]]
def am_t36 : List (List (Nat × am_I)) := [[(0, (2, 1, 0, 0, 0, 0, 0)), (1, (65, 4, 29, 0, 43, 0, 0)), (4, (66, 7, 92, 1, 33, 0, 0)), (7, (4, 8, 0, 0, 0, 2, 0)), (8, (2, 9, 0, 0, 0, 0, 0)), (9, (65, 12, 28, 0, 57, 0, 0)), (12, (12, 13, 0, 0, 0, 0, 0)), (13, (34, 16, 20, 0, 0, 0, 0)), (16, (4, 17, 0, 0, 0, 1, 0)), (17, (45, 20, 21, 0, 0, 0, 0)), (20, (4, 21, 0, 0, 0, 0, 0)), (21, (70, 22, 1, 0, 0, 0, 0))]]
def am_t37 : List (List (Nat × am_I)) := [[(0, (2, 1, 0, 0, 0, 0, 0)), (1, (65, 4, 29, 0, 43, 0, 0)), (4, (67, 7, 90, 1, 60, 0, 0)), (7, (2, 8, 0, 0, 0, 0, 0)), (8, (48, 11, 2, 2, 22, 0, 0)), (11, (67, 14, 90, 1, 60, 0, 0)), (14, (11, 15, 0, 0, 0, 0, 0)), (15, (70, 16, 0, 0, 0, 0, 0))]]
def am_t38 : List (List (Nat × am_I)) := [[(0, (2, 1, 0, 0, 0, 0, 0)), (1, (65, 4, 29, 0, 43, 0, 0)), (4, (6, 5, 1, 0, 0, 0, 0)), (5, (1, 6, 1, 0, 0, 0, 0)), (6, (66, 9, 92, 1, 33, 0, 0)), (9, (4, 10, 0, 0, 0, 2, 0)), (10, (13, 11, 0, 0, 0, 0, 0)), (11, (6, 12, 2, 0, 0, 0, 0)), (12, (4, 13, 0, 0, 0, 0, 0)), (13, (6, 14, 3, 0, 0, 0, 0)), (14, (4, 15, 0, 0, 0, 0, 0)), (15, (6, 17, 4, 0, 0, 0, 0)), (17, (4, 18, 0, 0, 0, 0, 0)), (18, (6, 20, 5, 0, 0, 0, 0)), (20, (1, 22, 5, 0, 0, 0, 0)), (22, (2, 23, 0, 0, 0, 0, 0)), (23, (48, 26, 2, 0, 15, 0, 0)), (26, (36, 29, 65, 0, 0, 0, 0)), (29, (1, 30, 1, 0, 0, 0, 0)), (30, (1, 32, 5, 0, 0, 0, 0)), (32, (67, 35, 88, 2, 29, 0, 0)), (35, (39, 38, 59, 0, 0, 0, 0)), (38, (1, 40, 4, 0, 0, 0, 0)), (40, (1, 41, 3, 0, 0, 0, 0)), (41, (1, 42, 2, 0, 0, 0, 0)), (42, (36, 45, 51, 0, 0, 0, 0)), (45, (1, 47, 5, 0, 0, 0, 0)), (47, (15, 48, 0, 0, 0, 0, 0)), (48, (45, 51, 53, 0, 0, 0, 0)), (51, (1, 53, 5, 0, 0, 0, 0)), (53, (10, 54, 0, 0, 0, 0, 0)), (54, (6, 56, 4, 0, 0, 0, 0)), (56, (9, 59, 3, 0, 0, 1, 0)), (59, (9, 62, 5, 0, 0, 1, 0)), (62, (45, 65, 20, 0, 0, 0, 0))], [(65, (1, 67, 4, 0, 0, 0, 0)), (67, (2, 68, 0, 0, 0, 0, 0)), (68, (48, 71, 2, 2, 22, 0, 0)), (71, (67, 74, 90, 1, 60, 0, 0)), (74, (11, 75, 0, 0, 0, 0, 0)), (75, (70, 76, 0, 0, 0, 0, 0))]]
def am_t39 : List (List (Nat × am_I)) := [[(0, (2, 1, 0, 0, 0, 0, 0)), (1, (65, 4, 36, 0, 63, 0, 0)), (4, (39, 7, 39, 0, 0, 0, 0)), (7, (2, 8, 0, 0, 0, 0, 0)), (8, (65, 11, 37, 0, 67, 0, 0)), (11, (4, 12, 0, 0, 0, 1, 0)), (12, (19, 13, 0, 0, 0, 0, 0)), (13, (40, 16, 39, 0, 0, 0, 0)), (16, (2, 17, 0, 0, 0, 0, 0)), (17, (65, 20, 38, 0, 70, 0, 0)), (20, (41, 23, 39, 0, 0, 0, 0)), (23, (2, 24, 0, 0, 0, 0, 0)), (24, (65, 27, 33, 0, 73, 0, 0)), (27, (2, 28, 0, 0, 0, 0, 0)), (28, (48, 31, 2, 1, 19, 0, 0)), (31, (19, 32, 0, 0, 0, 0, 0)), (32, (40, 35, 39, 0, 0, 0, 0)), (35, (4, 36, 0, 0, 0, 1, 0)), (36, (45, 39, 40, 0, 0, 0, 0)), (39, (4, 40, 0, 0, 0, 0, 0)), (40, (70, 41, 1, 0, 0, 0, 0))]]
def am_t40 : List (List (Nat × am_I)) := [[(0, (2, 1, 0, 0, 0, 0, 0)), (1, (69, 4, 0, 0, 3, 0, 0)), (4, (2, 5, 0, 0, 0, 0, 0)), (5, (4, 8, 0, 0, 0, 300, 0)), (8, (61, 10, 0, 0, 0, 0, 0)), (10, (50, 13, 3, 0, 9, 0, 0)), (13, (2, 14, 0, 0, 0, 0, 0)), (14, (4, 17, 0, 0, 0, 300, 0)), (17, (61, 19, 0, 0, 0, 0, 0)), (19, (50, 22, 3, 1, 15, 0, 0)), (22, (73, 23, 0, 0, 0, 0, 0))]]
def am_t41 : List (List (Nat × am_I)) := [[(0, (4, 1, 0, 0, 0, 0, 0)), (1, (6, 3, 4, 0, 0, 0, 0)), (3, (1, 5, 4, 0, 0, 0, 0)), (5, (4, 8, 0, 0, 0, 300, 0)), (8, (36, 11, 25, 0, 0, 0, 0)), (11, (2, 12, 0, 0, 0, 0, 0)), (12, (48, 15, 3, 0, 9, 0, 0)), (15, (1, 17, 4, 0, 0, 0, 0)), (17, (4, 18, 0, 0, 0, (-1), 0)), (18, (52, 19, 0, 0, 0, 0, 0)), (19, (9, 22, 4, 0, 0, 1, 0)), (22, (45, 25, 3, 0, 0, 0, 0)), (25, (2, 26, 0, 0, 0, 0, 0)), (26, (4, 27, 0, 0, 0, 0, 0)), (27, (49, 30, 3, 2, 18, 0, 0)), (30, (2, 31, 0, 0, 0, 0, 0)), (31, (1, 32, 2, 0, 0, 0, 0)), (32, (4, 33, 0, 0, 0, 0, 0)), (33, (65, 36, 43, 2, 22, 0, 0)), (36, (4, 37, 0, 0, 0, 0, 0)), (37, (6, 39, 4, 0, 0, 0, 0)), (39, (1, 41, 4, 0, 0, 0, 0)), (41, (2, 42, 0, 0, 0, 0, 0)), (42, (48, 45, 3, 2, 18, 0, 0)), (45, (36, 48, 88, 0, 0, 0, 0)), (48, (1, 50, 4, 0, 0, 0, 0)), (50, (4, 53, 0, 0, 0, 300, 0)), (53, (36, 56, 88, 0, 0, 0, 0)), (56, (2, 57, 0, 0, 0, 0, 0)), (57, (48, 60, 3, 1, 15, 0, 0)), (60, (1, 62, 4, 0, 0, 0, 0)), (62, (51, 63, 0, 0, 0, 0, 0)), (63, (1, 64, 3, 0, 0, 0, 0))], [(64, (34, 67, 70, 0, 0, 0, 0)), (67, (45, 70, 88, 0, 0, 0, 0)), (70, (2, 71, 0, 0, 0, 0, 0)), (71, (2, 72, 1, 0, 0, 0, 0)), (72, (2, 73, 0, 0, 0, 0, 0)), (73, (48, 76, 3, 1, 15, 0, 0)), (76, (1, 78, 4, 0, 0, 0, 0)), (78, (51, 79, 0, 0, 0, 0, 0)), (79, (65, 82, 42, 2, 26, 0, 0)), (82, (9, 85, 4, 0, 0, 1, 0)), (85, (45, 88, 39, 0, 0, 0, 0)), (88, (1, 89, 3, 0, 0, 0, 0)), (89, (41, 92, 108, 0, 0, 0, 0)), (92, (1, 93, 3, 0, 0, 0, 0)), (93, (4, 96, 0, 0, 0, 300, 0)), (96, (36, 99, 108, 0, 0, 0, 0)), (99, (2, 100, 0, 0, 0, 0, 0)), (100, (48, 103, 3, 0, 9, 0, 0)), (103, (1, 104, 3, 0, 0, 0, 0)), (104, (51, 105, 0, 0, 0, 0, 0)), (105, (45, 108, 109, 0, 0, 0, 0)), (108, (4, 109, 0, 0, 0, (-1), 0)), (109, (70, 110, 0, 0, 0, 0, 0))]]
def am_t42 : List (List (Nat × am_I)) := [[(0, (1, 1, 2, 0, 0, 0, 0)), (1, (41, 4, 22, 0, 0, 0, 0)), (4, (1, 5, 2, 0, 0, 0, 0)), (5, (4, 8, 0, 0, 0, 300, 0)), (8, (36, 11, 22, 0, 0, 0, 0)), (11, (2, 12, 0, 0, 0, 0, 0)), (12, (48, 15, 3, 0, 9, 0, 0)), (15, (1, 16, 2, 0, 0, 0, 0)), (16, (51, 17, 0, 0, 0, 0, 0)), (17, (4, 18, 0, 0, 0, 1, 0)), (18, (10, 19, 0, 0, 0, 0, 0)), (19, (45, 22, 23, 0, 0, 0, 0)), (22, (4, 23, 0, 0, 0, 0, 0)), (23, (6, 24, 3, 0, 0, 0, 0)), (24, (2, 25, 1, 0, 0, 0, 0)), (25, (48, 28, 0, 5, 30, 0, 0)), (28, (4, 31, 0, 0, 0, 300, 0)), (31, (76, 34, 0, 0, 35, 0, 0)), (34, (6, 36, 4, 0, 0, 0, 0)), (36, (4, 37, 0, 0, 0, 0, 0)), (37, (6, 39, 5, 0, 0, 0, 0)), (39, (1, 41, 5, 0, 0, 0, 0)), (41, (1, 43, 4, 0, 0, 0, 0)), (43, (36, 46, 80, 0, 0, 0, 0)), (46, (2, 47, 0, 0, 0, 0, 0)), (47, (48, 50, 3, 0, 9, 0, 0)), (50, (1, 52, 5, 0, 0, 0, 0)), (52, (51, 53, 0, 0, 0, 0, 0)), (53, (42, 56, 74, 0, 0, 0, 0)), (56, (2, 57, 1, 0, 0, 0, 0)), (57, (1, 58, 2, 0, 0, 0, 0)), (58, (1, 60, 5, 0, 0, 0, 0)), (60, (65, 63, 13, 2, 41, 0, 0)), (63, (4, 64, 0, 0, 0, 3, 0))], [(64, (34, 67, 74, 0, 0, 0, 0)), (67, (2, 68, 0, 0, 0, 0, 0)), (68, (1, 70, 5, 0, 0, 0, 0)), (70, (1, 71, 3, 0, 0, 0, 0)), (71, (65, 74, 43, 2, 22, 0, 0)), (74, (9, 77, 5, 0, 0, 1, 0)), (77, (45, 80, 39, 0, 0, 0, 0)), (80, (73, 81, 0, 0, 0, 0, 0))]]
def am_t43 : List (List (Nat × am_I)) := [[(0, (1, 1, 1, 0, 0, 0, 0)), (1, (41, 4, 55, 0, 0, 0, 0)), (4, (1, 5, 1, 0, 0, 0, 0)), (5, (4, 8, 0, 0, 0, 300, 0)), (8, (36, 11, 55, 0, 0, 0, 0)), (11, (2, 12, 0, 0, 0, 0, 0)), (12, (48, 15, 3, 2, 18, 0, 0)), (15, (41, 18, 55, 0, 0, 0, 0)), (18, (2, 19, 0, 0, 0, 0, 0)), (19, (48, 22, 3, 2, 18, 0, 0)), (22, (4, 25, 0, 0, 0, 300, 0)), (25, (36, 28, 55, 0, 0, 0, 0)), (28, (2, 29, 0, 0, 0, 0, 0)), (29, (48, 32, 3, 0, 9, 0, 0)), (32, (1, 33, 1, 0, 0, 0, 0)), (33, (1, 34, 2, 0, 0, 0, 0)), (34, (52, 35, 0, 0, 0, 0, 0)), (35, (2, 36, 0, 0, 0, 0, 0)), (36, (48, 39, 3, 1, 15, 0, 0)), (39, (2, 40, 0, 0, 0, 0, 0)), (40, (48, 43, 3, 2, 18, 0, 0)), (43, (1, 44, 1, 0, 0, 0, 0)), (44, (52, 45, 0, 0, 0, 0, 0)), (45, (2, 46, 0, 0, 0, 0, 0)), (46, (63, 47, 0, 0, 0, 0, 0)), (47, (48, 50, 3, 2, 18, 0, 0)), (50, (4, 51, 0, 0, 0, 1, 0)), (51, (10, 52, 0, 0, 0, 0, 0)), (52, (49, 55, 3, 2, 18, 0, 0)), (55, (73, 56, 0, 0, 0, 0, 0))]]
def am_t44 : List (List (Nat × am_I)) := [[(0, (2, 1, 0, 0, 0, 0, 0)), (1, (69, 4, 0, 0, 1, 0, 0)), (4, (2, 5, 0, 0, 0, 0, 0)), (5, (60, 8, 2, 0, 7, 0, 0)), (8, (63, 9, 0, 0, 0, 0, 0)), (9, (68, 12, 23, 0, 9, 0, 0)), (12, (50, 15, 4, 0, 10, 0, 0)), (15, (2, 16, 0, 0, 0, 0, 0)), (16, (48, 19, 4, 0, 10, 0, 0)), (19, (4, 20, 0, 0, 0, 2, 0)), (20, (4, 21, 0, 0, 0, 0, 0)), (21, (4, 22, 0, 0, 0, 1, 0)), (22, (4, 23, 0, 0, 0, 1, 0)), (23, (66, 26, 89, 2, 16, 0, 0)), (26, (65, 29, 24, 3, 20, 0, 0)), (29, (2, 30, 0, 0, 0, 0, 0)), (30, (60, 33, 0, 0, 24, 0, 0)), (33, (63, 34, 0, 0, 0, 0, 0)), (34, (4, 37, 0, 0, 0, 512, 0)), (37, (68, 40, 0, 1, 26, 0, 0)), (40, (50, 43, 4, 1, 29, 0, 0)), (43, (2, 44, 0, 0, 0, 0, 0)), (44, (60, 47, 3, 0, 33, 0, 0)), (47, (63, 48, 0, 0, 0, 0, 0)), (48, (68, 51, 40, 0, 35, 0, 0)), (51, (50, 54, 4, 2, 36, 0, 0)), (54, (2, 55, 0, 0, 0, 0, 0)), (55, (60, 58, 1, 0, 40, 0, 0)), (58, (63, 59, 0, 0, 0, 0, 0)), (59, (68, 62, 15, 0, 42, 0, 0)), (62, (50, 65, 4, 3, 43, 0, 0))], [(65, (2, 66, 0, 0, 0, 0, 0)), (66, (60, 69, 2, 0, 7, 0, 0)), (69, (63, 70, 0, 0, 0, 0, 0)), (70, (68, 73, 23, 0, 9, 0, 0)), (73, (50, 76, 4, 4, 47, 0, 0)), (76, (2, 77, 0, 0, 0, 0, 0)), (77, (60, 80, 0, 0, 24, 0, 0)), (80, (63, 81, 0, 0, 0, 0, 0)), (81, (4, 82, 0, 0, 0, 1, 0)), (82, (68, 85, 0, 1, 26, 0, 0)), (85, (50, 88, 4, 5, 50, 0, 0)), (88, (2, 89, 0, 0, 0, 0, 0)), (89, (4, 90, 0, 0, 0, 2, 0)), (90, (62, 93, 2, 0, 7, 0, 0)), (93, (50, 96, 4, 6, 53, 0, 0)), (96, (4, 97, 0, 0, 0, 0, 0)), (97, (6, 98, 1, 0, 0, 0, 0)), (98, (1, 99, 1, 0, 0, 0, 0)), (99, (4, 100, 0, 0, 0, 2, 0)), (100, (36, 103, 122, 0, 0, 0, 0)), (103, (2, 104, 0, 0, 0, 0, 0)), (104, (48, 107, 4, 6, 53, 0, 0)), (107, (1, 108, 1, 0, 0, 0, 0)), (108, (60, 111, 2, 0, 7, 0, 0)), (111, (63, 112, 0, 0, 0, 0, 0)), (112, (68, 115, 23, 0, 9, 0, 0)), (115, (58, 116, 0, 0, 0, 0, 0)), (116, (9, 119, 1, 0, 0, 1, 0)), (119, (45, 122, 98, 0, 0, 0, 0)), (122, (2, 123, 0, 0, 0, 0, 0)), (123, (4, 124, 0, 0, 0, 1, 0)), (124, (49, 127, 4, 7, 57, 0, 0)), (127, (73, 128, 0, 0, 0, 0, 0))]]
def am_t45 : List (List (Nat × am_I)) := [[(0, (1, 1, 1, 0, 0, 0, 0)), (1, (4, 2, 0, 0, 0, 1, 0)), (2, (35, 5, 11, 0, 0, 0, 0)), (5, (1, 6, 1, 0, 0, 0, 0)), (6, (4, 8, 0, 0, 0, 18, 0)), (8, (38, 11, 14, 0, 0, 0, 0)), (11, (4, 13, 0, 0, 0, (-2), 0)), (13, (70, 14, 0, 0, 0, 0, 0)), (14, (1, 15, 2, 0, 0, 0, 0)), (15, (4, 16, 0, 0, 0, 0, 0)), (16, (1, 17, 1, 0, 0, 0, 0)), (17, (4, 18, 0, 0, 0, 1, 0)), (18, (11, 19, 0, 0, 0, 0, 0)), (19, (66, 22, 89, 2, 16, 0, 0)), (22, (4, 23, 0, 0, 0, (-1), 0)), (23, (21, 24, 0, 0, 0, 0, 0)), (24, (19, 25, 0, 0, 0, 0, 0)), (25, (39, 28, 31, 0, 0, 0, 0)), (28, (4, 30, 0, 0, 0, (-2), 0)), (30, (70, 31, 0, 0, 0, 0, 0)), (31, (1, 32, 3, 0, 0, 0, 0)), (32, (4, 33, 0, 0, 0, 1, 0)), (33, (4, 35, 0, 0, 0, 17, 0)), (35, (66, 38, 89, 2, 16, 0, 0)), (38, (4, 39, 0, 0, 0, (-1), 0)), (39, (21, 40, 0, 0, 0, 0, 0)), (40, (19, 41, 0, 0, 0, 0, 0)), (41, (39, 44, 47, 0, 0, 0, 0)), (44, (4, 46, 0, 0, 0, (-2), 0)), (46, (70, 47, 0, 0, 0, 0, 0)), (47, (1, 48, 3, 0, 0, 0, 0)), (48, (66, 51, 92, 1, 61, 0, 0)), (51, (6, 53, 4, 0, 0, 0, 0)), (53, (1, 55, 4, 0, 0, 0, 0)), (55, (4, 56, 0, 0, 0, 1, 0)), (56, (35, 59, 66, 0, 0, 0, 0)), (59, (1, 61, 4, 0, 0, 0, 0)), (61, (4, 63, 0, 0, 0, 8, 0)), (63, (38, 66, 69, 0, 0, 0, 0))], [(66, (4, 68, 0, 0, 0, (-2), 0)), (68, (70, 69, 0, 0, 0, 0, 0)), (69, (2, 70, 0, 0, 0, 0, 0)), (70, (1, 71, 1, 0, 0, 0, 0)), (71, (1, 72, 2, 0, 0, 0, 0)), (72, (1, 73, 3, 0, 0, 0, 0)), (73, (65, 76, 51, 3, 67, 0, 0)), (76, (1, 78, 4, 0, 0, 0, 0)), (78, (70, 79, 0, 0, 0, 0, 0))]]
def am_t46 : List (List (Nat × am_I)) := [[(0, (1, 1, 1, 0, 0, 0, 0)), (1, (4, 2, 0, 0, 0, 1, 0)), (2, (35, 5, 22, 0, 0, 0, 0)), (5, (1, 6, 1, 0, 0, 0, 0)), (6, (4, 8, 0, 0, 0, 10, 0)), (8, (37, 11, 22, 0, 0, 0, 0)), (11, (1, 12, 2, 0, 0, 0, 0)), (12, (4, 13, 0, 0, 0, 1, 0)), (13, (35, 16, 22, 0, 0, 0, 0)), (16, (1, 17, 2, 0, 0, 0, 0)), (17, (4, 19, 0, 0, 0, 8, 0)), (19, (38, 22, 25, 0, 0, 0, 0)), (22, (4, 24, 0, 0, 0, (-2), 0)), (24, (70, 25, 0, 0, 0, 0, 0)), (25, (2, 26, 0, 0, 0, 0, 0)), (26, (1, 27, 1, 0, 0, 0, 0)), (27, (1, 28, 1, 0, 0, 0, 0)), (28, (1, 29, 2, 0, 0, 0, 0)), (29, (10, 30, 0, 0, 0, 0, 0)), (30, (4, 31, 0, 0, 0, 1, 0)), (31, (11, 32, 0, 0, 0, 0, 0)), (32, (66, 35, 89, 2, 16, 0, 0)), (35, (1, 36, 3, 0, 0, 0, 0)), (36, (65, 39, 50, 2, 70, 0, 0)), (39, (70, 40, 0, 0, 0, 0, 0))]]
def am_t47 : List (List (Nat × am_I)) := [[(0, (1, 1, 1, 0, 0, 0, 0)), (1, (4, 2, 0, 0, 0, 2, 0)), (2, (35, 5, 21, 0, 0, 0, 0)), (5, (1, 6, 1, 0, 0, 0, 0)), (6, (4, 8, 0, 0, 0, 9, 0)), (8, (37, 11, 21, 0, 0, 0, 0)), (11, (1, 12, 2, 0, 0, 0, 0)), (12, (4, 13, 0, 0, 0, 1, 0)), (13, (35, 16, 21, 0, 0, 0, 0)), (16, (1, 17, 2, 0, 0, 0, 0)), (17, (1, 18, 1, 0, 0, 0, 0)), (18, (38, 21, 24, 0, 0, 0, 0)), (21, (4, 23, 0, 0, 0, (-2), 0)), (23, (70, 24, 0, 0, 0, 0, 0)), (24, (2, 25, 0, 0, 0, 0, 0)), (25, (4, 26, 0, 0, 0, 1, 0)), (26, (1, 27, 1, 0, 0, 0, 0)), (27, (66, 30, 89, 2, 16, 0, 0)), (30, (4, 31, 0, 0, 0, 1, 0)), (31, (1, 32, 2, 0, 0, 0, 0)), (32, (16, 33, 0, 0, 0, 0, 0)), (33, (4, 34, 0, 0, 0, (-1), 0)), (34, (21, 35, 0, 0, 0, 0, 0)), (35, (19, 36, 0, 0, 0, 0, 0)), (36, (1, 37, 3, 0, 0, 0, 0)), (37, (65, 40, 50, 2, 70, 0, 0)), (40, (70, 41, 0, 0, 0, 0, 0))]]
def am_t48 : List (List (Nat × am_I)) := [[(0, (2, 1, 0, 0, 0, 0, 0)), (1, (48, 4, 4, 0, 10, 0, 0)), (4, (1, 5, 1, 0, 0, 0, 0)), (5, (65, 8, 26, 1, 74, 0, 0)), (8, (40, 11, 13, 0, 0, 0, 0)), (11, (4, 12, 0, 0, 0, (-1), 0)), (12, (70, 13, 0, 0, 0, 0, 0)), (13, (1, 14, 2, 0, 0, 0, 0)), (14, (41, 17, 23, 0, 0, 0, 0)), (17, (1, 18, 2, 0, 0, 0, 0)), (18, (4, 20, 0, 0, 0, 17, 0)), (20, (38, 23, 26, 0, 0, 0, 0)), (23, (4, 25, 0, 0, 0, (-2), 0)), (25, (70, 26, 0, 0, 0, 0, 0)), (26, (2, 27, 0, 0, 0, 0, 0)), (27, (48, 30, 4, 0, 10, 0, 0)), (30, (1, 31, 1, 0, 0, 0, 0)), (31, (65, 34, 31, 1, 78, 0, 0)), (34, (6, 35, 3, 0, 0, 0, 0)), (35, (2, 36, 0, 0, 0, 0, 0)), (36, (48, 39, 4, 0, 10, 0, 0)), (39, (1, 40, 1, 0, 0, 0, 0)), (40, (1, 41, 2, 0, 0, 0, 0)), (41, (65, 44, 32, 2, 81, 0, 0)), (44, (2, 45, 0, 0, 0, 0, 0)), (45, (4, 46, 0, 0, 0, 1, 0)), (46, (49, 49, 4, 7, 57, 0, 0)), (49, (1, 50, 3, 0, 0, 0, 0)), (50, (70, 51, 0, 0, 0, 0, 0))]]
def am_t49 : List (List (Nat × am_I)) := [[(0, (1, 1, 1, 0, 0, 0, 0)), (1, (74, 40, 91, 0, 0, 0, 0)), (40, (2, 41, 0, 0, 0, 0, 0)), (41, (48, 44, 4, 0, 10, 0, 0)), (44, (48, 47, 2, 0, 85, 0, 0)), (47, (70, 48, 0, 0, 0, 0, 0)), (48, (2, 49, 0, 0, 0, 0, 0)), (49, (48, 52, 4, 0, 10, 0, 0)), (52, (48, 55, 2, 1, 89, 0, 0)), (55, (70, 56, 0, 0, 0, 0, 0)), (56, (2, 57, 0, 0, 0, 0, 0)), (57, (48, 60, 4, 0, 10, 0, 0)), (60, (48, 63, 2, 2, 92, 0, 0)), (63, (70, 64, 0, 0, 0, 0, 0))], [(64, (2, 65, 0, 0, 0, 0, 0)), (65, (48, 68, 4, 0, 10, 0, 0)), (68, (65, 71, 33, 0, 95, 0, 0)), (71, (70, 72, 0, 0, 0, 0, 0)), (72, (2, 73, 0, 0, 0, 0, 0)), (73, (48, 76, 4, 0, 10, 0, 0)), (76, (65, 79, 29, 0, 99, 0, 0)), (79, (66, 82, 92, 1, 61, 0, 0)), (82, (70, 83, 0, 0, 0, 0, 0)), (83, (2, 84, 0, 0, 0, 0, 0)), (84, (48, 87, 4, 3, 43, 0, 0)), (87, (48, 90, 1, 1, 102, 0, 0)), (90, (70, 91, 0, 0, 0, 0, 0)), (91, (4, 93, 0, 0, 0, (-2), 0)), (93, (70, 94, 0, 0, 0, 0, 0))]]
def am_t50 : List (List (Nat × am_I)) := [[(0, (4, 1, 0, 0, 0, 2, 0)), (1, (1, 2, 1, 0, 0, 0, 0)), (2, (66, 5, 92, 1, 61, 0, 0)), (5, (12, 6, 0, 0, 0, 0, 0)), (6, (6, 7, 3, 0, 0, 0, 0)), (7, (4, 8, 0, 0, 0, 0, 0)), (8, (6, 10, 4, 0, 0, 0, 0)), (10, (1, 11, 2, 0, 0, 0, 0)), (11, (39, 14, 24, 0, 0, 0, 0)), (14, (9, 17, 3, 0, 0, 1, 0)), (17, (4, 18, 0, 0, 0, 1, 0)), (18, (1, 19, 3, 0, 0, 0, 0)), (19, (4, 20, 0, 0, 0, 2, 0)), (20, (11, 21, 0, 0, 0, 0, 0)), (21, (16, 22, 0, 0, 0, 0, 0)), (22, (6, 24, 4, 0, 0, 0, 0)), (24, (2, 25, 0, 0, 0, 0, 0)), (25, (1, 26, 3, 0, 0, 0, 0)), (26, (1, 28, 4, 0, 0, 0, 0)), (28, (1, 29, 1, 0, 0, 0, 0)), (29, (65, 32, 51, 3, 67, 0, 0)), (32, (1, 33, 3, 0, 0, 0, 0)), (33, (70, 34, 0, 0, 0, 0, 0))]]
def am_t51 : List (List (Nat × am_I)) := [[(0, (2, 1, 0, 0, 0, 0, 0)), (1, (48, 4, 4, 0, 10, 0, 0)), (4, (1, 5, 1, 0, 0, 0, 0)), (5, (1, 6, 2, 0, 0, 0, 0)), (6, (1, 7, 3, 0, 0, 0, 0)), (7, (65, 10, 24, 3, 20, 0, 0)), (10, (2, 11, 0, 0, 0, 0, 0)), (11, (4, 12, 0, 0, 0, 1, 0)), (12, (49, 15, 4, 7, 57, 0, 0)), (15, (73, 16, 0, 0, 0, 0, 0))]]
def am_t52 : List (List (Nat × am_I)) := [[(0, (2, 1, 0, 0, 0, 0, 0)), (1, (48, 4, 4, 0, 10, 0, 0)), (4, (65, 7, 36, 0, 103, 0, 0)), (7, (40, 10, 13, 0, 0, 0, 0)), (10, (4, 12, 0, 0, 0, (-6), 0)), (12, (70, 13, 0, 0, 0, 0, 0)), (13, (2, 14, 0, 0, 0, 0, 0)), (14, (48, 17, 4, 0, 10, 0, 0)), (17, (65, 20, 37, 0, 107, 0, 0)), (20, (6, 21, 1, 0, 0, 0, 0)), (21, (1, 22, 1, 0, 0, 0, 0)), (22, (4, 23, 0, 0, 0, 1, 0)), (23, (19, 24, 0, 0, 0, 0, 0)), (24, (39, 27, 30, 0, 0, 0, 0)), (27, (4, 29, 0, 0, 0, (-6), 0)), (29, (70, 30, 0, 0, 0, 0, 0)), (30, (1, 31, 1, 0, 0, 0, 0)), (31, (4, 32, 0, 0, 0, 2, 0)), (32, (13, 33, 0, 0, 0, 0, 0)), (33, (70, 34, 0, 0, 0, 0, 0))]]
def am_t53 : List (List (Nat × am_I)) := [[(0, (2, 1, 0, 0, 0, 0, 0)), (1, (48, 4, 4, 0, 10, 0, 0)), (4, (65, 7, 36, 0, 103, 0, 0)), (7, (40, 10, 13, 0, 0, 0, 0)), (10, (4, 12, 0, 0, 0, (-6), 0)), (12, (70, 13, 0, 0, 0, 0, 0)), (13, (2, 14, 0, 0, 0, 0, 0)), (14, (48, 17, 4, 0, 10, 0, 0)), (17, (65, 20, 38, 0, 110, 0, 0)), (20, (4, 23, 0, 0, 0, 1000, 0)), (23, (10, 24, 0, 0, 0, 0, 0)), (24, (70, 25, 0, 0, 0, 0, 0))]]
def am_t54 : List (List (Nat × am_I)) := [[(0, (2, 1, 0, 0, 0, 0, 0)), (1, (48, 4, 4, 0, 10, 0, 0)), (4, (1, 5, 1, 0, 0, 0, 0)), (5, (65, 8, 27, 1, 113, 0, 0)), (8, (40, 11, 13, 0, 0, 0, 0)), (11, (4, 12, 0, 0, 0, (-1), 0)), (12, (70, 13, 0, 0, 0, 0, 0)), (13, (2, 14, 0, 0, 0, 0, 0)), (14, (48, 17, 4, 0, 10, 0, 0)), (17, (1, 18, 1, 0, 0, 0, 0)), (18, (65, 21, 35, 1, 116, 0, 0)), (21, (70, 22, 0, 0, 0, 0, 0))]]
def am_t55 : List (List (Nat × am_I)) := [[(0, (2, 1, 0, 0, 0, 0, 0)), (1, (65, 4, 61, 0, 119, 0, 0)), (4, (48, 7, 0, 5, 123, 0, 0)), (7, (70, 8, 0, 0, 0, 0, 0))]]
def am_t56 : List (List (Nat × am_I)) := [[(0, (2, 1, 0, 0, 0, 0, 0)), (1, (48, 4, 4, 0, 10, 0, 0)), (4, (1, 5, 2, 0, 0, 0, 0)), (5, (65, 8, 26, 1, 74, 0, 0)), (8, (40, 11, 13, 0, 0, 0, 0)), (11, (4, 12, 0, 0, 0, (-1), 0)), (12, (70, 13, 0, 0, 0, 0, 0)), (13, (2, 14, 0, 0, 0, 0, 0)), (14, (65, 17, 61, 0, 119, 0, 0)), (17, (1, 18, 1, 0, 0, 0, 0)), (18, (65, 21, 7, 1, 126, 0, 0)), (21, (40, 24, 27, 0, 0, 0, 0)), (24, (4, 26, 0, 0, 0, (-6), 0)), (26, (70, 27, 0, 0, 0, 0, 0)), (27, (2, 28, 0, 0, 0, 0, 0)), (28, (48, 31, 4, 1, 29, 0, 0)), (31, (1, 32, 1, 0, 0, 0, 0)), (32, (1, 33, 2, 0, 0, 0, 0)), (33, (65, 36, 11, 2, 129, 0, 0)), (36, (70, 37, 0, 0, 0, 0, 0))]]
def am_t57 : List (List (Nat × am_I)) := [[(0, (2, 1, 0, 0, 0, 0, 0)), (1, (48, 4, 4, 0, 10, 0, 0)), (4, (1, 5, 2, 0, 0, 0, 0)), (5, (65, 8, 27, 1, 113, 0, 0)), (8, (40, 11, 13, 0, 0, 0, 0)), (11, (4, 12, 0, 0, 0, (-1), 0)), (12, (70, 13, 0, 0, 0, 0, 0)), (13, (2, 14, 0, 0, 0, 0, 0)), (14, (65, 17, 61, 0, 119, 0, 0)), (17, (1, 18, 1, 0, 0, 0, 0)), (18, (65, 21, 7, 1, 126, 0, 0)), (21, (40, 24, 27, 0, 0, 0, 0)), (24, (4, 26, 0, 0, 0, (-6), 0)), (26, (70, 27, 0, 0, 0, 0, 0)), (27, (2, 28, 0, 0, 0, 0, 0)), (28, (48, 31, 4, 1, 29, 0, 0)), (31, (1, 32, 1, 0, 0, 0, 0)), (32, (1, 33, 2, 0, 0, 0, 0)), (33, (65, 36, 10, 2, 132, 0, 0)), (36, (70, 37, 0, 0, 0, 0, 0))]]
def am_t58 : List (List (Nat × am_I)) := [[(0, (2, 1, 0, 0, 0, 0, 0)), (1, (48, 4, 4, 0, 10, 0, 0)), (4, (1, 5, 1, 0, 0, 0, 0)), (5, (65, 8, 26, 1, 74, 0, 0)), (8, (40, 11, 13, 0, 0, 0, 0)), (11, (4, 12, 0, 0, 0, (-1), 0)), (12, (70, 13, 0, 0, 0, 0, 0)), (13, (1, 14, 2, 0, 0, 0, 0)), (14, (41, 17, 23, 0, 0, 0, 0)), (17, (1, 18, 2, 0, 0, 0, 0)), (18, (4, 20, 0, 0, 0, 17, 0)), (20, (38, 23, 26, 0, 0, 0, 0)), (23, (4, 25, 0, 0, 0, (-2), 0)), (25, (70, 26, 0, 0, 0, 0, 0)), (26, (2, 27, 0, 0, 0, 0, 0)), (27, (65, 30, 61, 0, 119, 0, 0)), (30, (48, 33, 0, 5, 123, 0, 0)), (33, (6, 34, 3, 0, 0, 0, 0)), (34, (4, 35, 0, 0, 0, 0, 0)), (35, (6, 37, 4, 0, 0, 0, 0)), (37, (4, 38, 0, 0, 0, 0, 0)), (38, (6, 40, 5, 0, 0, 0, 0)), (40, (1, 42, 5, 0, 0, 0, 0)), (42, (1, 43, 3, 0, 0, 0, 0)), (43, (36, 46, 69, 0, 0, 0, 0)), (46, (2, 47, 0, 0, 0, 0, 0)), (47, (48, 50, 4, 1, 29, 0, 0)), (50, (1, 52, 5, 0, 0, 0, 0)), (52, (1, 53, 1, 0, 0, 0, 0)), (53, (65, 56, 11, 2, 129, 0, 0)), (56, (1, 57, 2, 0, 0, 0, 0)), (57, (34, 60, 63, 0, 0, 0, 0)), (60, (9, 63, 4, 0, 0, 1, 0)), (63, (9, 66, 5, 0, 0, 1, 0))], [(66, (45, 69, 40, 0, 0, 0, 0)), (69, (1, 71, 4, 0, 0, 0, 0)), (71, (70, 72, 0, 0, 0, 0, 0))]]
def am_t59 : List (List (Nat × am_I)) := [[(0, (2, 1, 0, 0, 0, 0, 0)), (1, (48, 4, 4, 0, 10, 0, 0)), (4, (1, 5, 1, 0, 0, 0, 0)), (5, (65, 8, 26, 1, 74, 0, 0)), (8, (40, 11, 13, 0, 0, 0, 0)), (11, (4, 12, 0, 0, 0, (-1), 0)), (12, (70, 13, 0, 0, 0, 0, 0)), (13, (2, 14, 0, 0, 0, 0, 0)), (14, (65, 17, 61, 0, 119, 0, 0)), (17, (1, 18, 1, 0, 0, 0, 0)), (18, (65, 21, 12, 1, 135, 0, 0)), (21, (70, 22, 0, 0, 0, 0, 0))]]
def am_t60 : List (List (Nat × am_I)) := [[(0, (2, 1, 0, 0, 0, 0, 0)), (1, (65, 4, 61, 0, 119, 0, 0)), (4, (7, 5, 1, 0, 0, 0, 0)), (5, (4, 6, 0, 0, 0, 0, 0)), (6, (6, 7, 2, 0, 0, 0, 0)), (7, (4, 8, 0, 0, 0, 0, 0)), (8, (6, 9, 3, 0, 0, 0, 0)), (9, (1, 10, 3, 0, 0, 0, 0)), (10, (2, 11, 0, 0, 0, 0, 0)), (11, (48, 14, 4, 0, 10, 0, 0)), (14, (48, 17, 2, 0, 85, 0, 0)), (17, (36, 20, 44, 0, 0, 0, 0)), (20, (2, 21, 1, 0, 0, 0, 0)), (21, (1, 22, 3, 0, 0, 0, 0)), (22, (65, 25, 12, 1, 135, 0, 0)), (25, (66, 28, 92, 1, 61, 0, 0)), (28, (4, 29, 0, 0, 0, 1, 0)), (29, (34, 32, 38, 0, 0, 0, 0)), (32, (1, 33, 2, 0, 0, 0, 0)), (33, (4, 34, 0, 0, 0, 1, 0)), (34, (1, 35, 3, 0, 0, 0, 0)), (35, (16, 36, 0, 0, 0, 0, 0)), (36, (20, 37, 0, 0, 0, 0, 0)), (37, (6, 38, 2, 0, 0, 0, 0)), (38, (9, 41, 3, 0, 0, 1, 0)), (41, (45, 44, 9, 0, 0, 0, 0)), (44, (1, 45, 2, 0, 0, 0, 0)), (45, (70, 46, 0, 0, 0, 0, 0))]]
def am_t61 : List (List (Nat × am_I)) := [[(0, (2, 1, 0, 0, 0, 0, 0)), (1, (48, 4, 4, 7, 57, 0, 0)), (4, (39, 7, 23, 0, 0, 0, 0)), (7, (2, 8, 0, 0, 0, 0, 0)), (8, (48, 11, 4, 1, 29, 0, 0)), (11, (2, 12, 0, 0, 0, 0, 0)), (12, (48, 15, 4, 0, 10, 0, 0)), (15, (65, 18, 1, 1, 138, 0, 0)), (18, (2, 19, 0, 0, 0, 0, 0)), (19, (4, 20, 0, 0, 0, 0, 0)), (20, (49, 23, 4, 7, 57, 0, 0)), (23, (2, 24, 0, 0, 0, 0, 0)), (24, (48, 27, 4, 1, 29, 0, 0)), (27, (72, 28, 0, 0, 0, 0, 0))]]
def am_t62 : List (List (Nat × am_I)) := [[(0, (1, 1, 1, 0, 0, 0, 0)), (1, (4, 3, 0, 0, 0, 33, 0)), (3, (35, 6, 12, 0, 0, 0, 0)), (6, (1, 7, 1, 0, 0, 0, 0)), (7, (4, 9, 0, 0, 0, 126, 0)), (9, (38, 12, 15, 0, 0, 0, 0)), (12, (4, 14, 0, 0, 0, (-2), 0)), (14, (70, 15, 0, 0, 0, 0, 0)), (15, (2, 16, 0, 0, 0, 0, 0)), (16, (48, 19, 4, 3, 43, 0, 0)), (19, (48, 22, 1, 1, 102, 0, 0)), (22, (4, 24, 0, 0, 0, 18, 0)), (24, (35, 27, 30, 0, 0, 0, 0)), (27, (4, 29, 0, 0, 0, (-5), 0)), (29, (70, 30, 0, 0, 0, 0, 0)), (30, (2, 31, 0, 0, 0, 0, 0)), (31, (48, 34, 4, 3, 43, 0, 0)), (34, (1, 35, 1, 0, 0, 0, 0)), (35, (65, 38, 17, 1, 142, 0, 0)), (38, (2, 39, 0, 0, 0, 0, 0)), (39, (48, 42, 4, 3, 43, 0, 0)), (42, (48, 45, 1, 1, 102, 0, 0)), (45, (70, 46, 0, 0, 0, 0, 0))]]
def am_t63 : List (List (Nat × am_I)) := [[(0, (2, 1, 0, 0, 0, 0, 0)), (1, (48, 4, 4, 3, 43, 0, 0)), (4, (4, 6, 0, 0, 0, (-2), 0)), (6, (65, 9, 21, 1, 145, 0, 0)), (9, (6, 10, 1, 0, 0, 0, 0)), (10, (1, 11, 1, 0, 0, 0, 0)), (11, (42, 14, 19, 0, 0, 0, 0)), (14, (4, 16, 0, 0, 0, (-6), 0)), (16, (45, 19, 20, 0, 0, 0, 0)), (19, (1, 20, 1, 0, 0, 0, 0)), (20, (70, 21, 0, 0, 0, 0, 0))]]
def am_t64 : List (List (Nat × am_I)) := [[(0, (1, 1, 1, 0, 0, 0, 0)), (1, (39, 4, 12, 0, 0, 0, 0)), (4, (1, 5, 1, 0, 0, 0, 0)), (5, (4, 6, 0, 0, 0, 1, 0)), (6, (33, 9, 12, 0, 0, 0, 0)), (9, (4, 11, 0, 0, 0, (-2), 0)), (11, (70, 12, 0, 0, 0, 0, 0)), (12, (2, 13, 0, 0, 0, 0, 0)), (13, (65, 16, 69, 0, 148, 0, 0)), (16, (40, 19, 22, 0, 0, 0, 0)), (19, (4, 21, 0, 0, 0, (-3), 0)), (21, (70, 22, 0, 0, 0, 0, 0)), (22, (4, 23, 0, 0, 0, 1, 0)), (23, (6, 24, 2, 0, 0, 0, 0)), (24, (1, 25, 2, 0, 0, 0, 0)), (25, (4, 26, 0, 0, 0, 5, 0)), (26, (37, 29, 55, 0, 0, 0, 0)), (29, (2, 30, 0, 0, 0, 0, 0)), (30, (1, 31, 2, 0, 0, 0, 0)), (31, (65, 34, 70, 1, 151, 0, 0)), (34, (6, 35, 3, 0, 0, 0, 0)), (35, (1, 36, 3, 0, 0, 0, 0)), (36, (41, 39, 49, 0, 0, 0, 0)), (39, (1, 40, 1, 0, 0, 0, 0)), (40, (40, 43, 47, 0, 0, 0, 0)), (43, (1, 44, 2, 0, 0, 0, 0)), (44, (45, 47, 48, 0, 0, 0, 0)), (47, (1, 48, 3, 0, 0, 0, 0)), (48, (70, 49, 0, 0, 0, 0, 0)), (49, (9, 52, 2, 0, 0, 1, 0)), (52, (45, 55, 24, 0, 0, 0, 0)), (55, (1, 56, 1, 0, 0, 0, 0)), (56, (40, 59, 63, 0, 0, 0, 0)), (59, (4, 60, 0, 0, 0, 0, 0)), (60, (45, 63, 65, 0, 0, 0, 0)), (63, (4, 65, 0, 0, 0, (-6), 0))], [(65, (70, 66, 0, 0, 0, 0, 0))]]
def am_t65 : List (List (Nat × am_I)) := [[(0, (2, 1, 0, 0, 0, 0, 0)), (1, (65, 4, 69, 0, 148, 0, 0)), (4, (40, 7, 10, 0, 0, 0, 0)), (7, (4, 9, 0, 0, 0, (-3), 0)), (9, (70, 10, 0, 0, 0, 0, 0)), (10, (2, 11, 0, 0, 0, 0, 0)), (11, (2, 12, 0, 0, 0, 0, 0)), (12, (65, 15, 61, 0, 119, 0, 0)), (15, (4, 16, 0, 0, 0, 0, 0)), (16, (65, 19, 72, 2, 154, 0, 0)), (19, (70, 20, 0, 0, 0, 0, 0))]]
def am_t66 : List (List (Nat × am_I)) := [[(0, (2, 1, 0, 0, 0, 0, 0)), (1, (48, 4, 4, 3, 43, 0, 0)), (4, (4, 6, 0, 0, 0, (-2), 0)), (6, (65, 9, 21, 1, 145, 0, 0)), (9, (41, 12, 15, 0, 0, 0, 0)), (12, (4, 14, 0, 0, 0, (-3), 0)), (14, (70, 15, 0, 0, 0, 0, 0)), (15, (2, 16, 0, 0, 0, 0, 0)), (16, (2, 17, 0, 0, 0, 0, 0)), (17, (65, 20, 61, 0, 119, 0, 0)), (20, (1, 21, 1, 0, 0, 0, 0)), (21, (65, 24, 72, 2, 154, 0, 0)), (24, (70, 25, 0, 0, 0, 0, 0))]]
def am_t67 : List (List (Nat × am_I)) := [[(0, (2, 1, 0, 0, 0, 0, 0)), (1, (65, 4, 61, 0, 119, 0, 0)), (4, (1, 5, 1, 0, 0, 0, 0)), (5, (65, 8, 7, 1, 126, 0, 0)), (8, (40, 11, 13, 0, 0, 0, 0)), (11, (4, 12, 0, 0, 0, (-1), 0)), (12, (70, 13, 0, 0, 0, 0, 0)), (13, (2, 14, 0, 0, 0, 0, 0)), (14, (48, 17, 4, 3, 43, 0, 0)), (17, (4, 18, 0, 0, 0, 0, 0)), (18, (49, 21, 1, 1, 102, 0, 0)), (21, (4, 22, 0, 0, 0, 0, 0)), (22, (6, 23, 2, 0, 0, 0, 0)), (23, (1, 24, 2, 0, 0, 0, 0)), (24, (2, 25, 0, 0, 0, 0, 0)), (25, (48, 28, 4, 0, 10, 0, 0)), (28, (48, 31, 2, 0, 85, 0, 0)), (31, (36, 34, 59, 0, 0, 0, 0)), (34, (2, 35, 0, 0, 0, 0, 0)), (35, (48, 38, 4, 3, 43, 0, 0)), (38, (2, 39, 0, 0, 0, 0, 0)), (39, (48, 42, 4, 1, 29, 0, 0)), (42, (1, 43, 1, 0, 0, 0, 0)), (43, (1, 44, 2, 0, 0, 0, 0)), (44, (65, 47, 11, 2, 129, 0, 0)), (47, (66, 50, 18, 1, 158, 0, 0)), (50, (65, 53, 17, 1, 142, 0, 0)), (53, (9, 56, 2, 0, 0, 1, 0)), (56, (45, 59, 23, 0, 0, 0, 0)), (59, (2, 60, 0, 0, 0, 0, 0)), (60, (48, 63, 4, 3, 43, 0, 0)), (63, (48, 66, 1, 1, 102, 0, 0))], [(66, (70, 67, 0, 0, 0, 0, 0))]]
def am_t68 : List (List (Nat × am_I)) := [[(0, (2, 1, 0, 0, 0, 0, 0)), (1, (48, 4, 4, 3, 43, 0, 0)), (4, (1, 5, 1, 0, 0, 0, 0)), (5, (65, 8, 16, 1, 161, 0, 0)), (8, (40, 11, 14, 0, 0, 0, 0)), (11, (4, 13, 0, 0, 0, (-6), 0)), (13, (70, 14, 0, 0, 0, 0, 0)), (14, (2, 15, 0, 0, 0, 0, 0)), (15, (48, 18, 4, 3, 43, 0, 0)), (18, (48, 21, 1, 0, 162, 0, 0)), (21, (1, 22, 1, 0, 0, 0, 0)), (22, (51, 23, 0, 0, 0, 0, 0)), (23, (70, 24, 0, 0, 0, 0, 0))]]
def am_t69 : List (List (Nat × am_I)) := [[(0, (2, 1, 0, 0, 0, 0, 0)), (1, (48, 4, 4, 3, 43, 0, 0)), (4, (48, 7, 1, 1, 102, 0, 0)), (7, (2, 8, 0, 0, 0, 0, 0)), (8, (48, 11, 4, 0, 10, 0, 0)), (11, (48, 14, 2, 0, 85, 0, 0)), (14, (34, 17, 44, 0, 0, 0, 0)), (17, (2, 18, 0, 0, 0, 0, 0)), (18, (48, 21, 4, 3, 43, 0, 0)), (21, (4, 23, 0, 0, 0, (-2), 0)), (23, (65, 26, 21, 1, 145, 0, 0)), (26, (42, 29, 44, 0, 0, 0, 0)), (29, (2, 30, 0, 0, 0, 0, 0)), (30, (48, 33, 4, 3, 43, 0, 0)), (33, (4, 34, 0, 0, 0, (-1), 0)), (34, (65, 37, 21, 1, 145, 0, 0)), (37, (42, 40, 44, 0, 0, 0, 0)), (40, (4, 41, 0, 0, 0, 1, 0)), (41, (45, 44, 45, 0, 0, 0, 0)), (44, (4, 45, 0, 0, 0, 0, 0)), (45, (70, 46, 1, 0, 0, 0, 0))]]
def am_t70 : List (List (Nat × am_I)) := [[(0, (4, 1, 0, 0, 0, 0, 0)), (1, (6, 2, 2, 0, 0, 0, 0)), (2, (1, 3, 2, 0, 0, 0, 0)), (3, (2, 4, 0, 0, 0, 0, 0)), (4, (48, 7, 4, 3, 43, 0, 0)), (7, (48, 10, 1, 1, 102, 0, 0)), (10, (36, 13, 30, 0, 0, 0, 0)), (13, (2, 14, 0, 0, 0, 0, 0)), (14, (1, 15, 1, 0, 0, 0, 0)), (15, (1, 16, 2, 0, 0, 0, 0)), (16, (65, 19, 71, 2, 166, 0, 0)), (19, (39, 22, 24, 0, 0, 0, 0)), (22, (1, 23, 2, 0, 0, 0, 0)), (23, (70, 24, 0, 0, 0, 0, 0)), (24, (9, 27, 2, 0, 0, 1, 0)), (27, (45, 30, 2, 0, 0, 0, 0)), (30, (4, 31, 0, 0, 0, (-1), 0)), (31, (70, 32, 0, 0, 0, 0, 0))]]
def am_t71 : List (List (Nat × am_I)) := [[(0, (2, 1, 0, 0, 0, 0, 0)), (1, (48, 4, 4, 3, 43, 0, 0)), (4, (1, 5, 2, 0, 0, 0, 0)), (5, (65, 8, 20, 1, 170, 0, 0)), (8, (6, 9, 3, 0, 0, 0, 0)), (9, (1, 10, 3, 0, 0, 0, 0)), (10, (40, 13, 17, 0, 0, 0, 0)), (13, (4, 14, 0, 0, 0, 1, 0)), (14, (45, 17, 18, 0, 0, 0, 0)), (17, (4, 18, 0, 0, 0, 0, 0)), (18, (6, 20, 4, 0, 0, 0, 0)), (20, (2, 21, 0, 0, 0, 0, 0)), (21, (48, 24, 4, 0, 10, 0, 0)), (24, (1, 25, 2, 0, 0, 0, 0)), (25, (65, 28, 31, 1, 78, 0, 0)), (28, (6, 30, 5, 0, 0, 0, 0)), (30, (1, 31, 1, 0, 0, 0, 0)), (31, (74, 64, 185, 0, 0, 1, 0))], [(64, (1, 66, 4, 0, 0, 0, 0)), (66, (2, 67, 0, 0, 0, 0, 0)), (67, (48, 70, 4, 0, 10, 0, 0)), (70, (1, 71, 2, 0, 0, 0, 0)), (71, (65, 74, 30, 1, 172, 0, 0)), (74, (34, 77, 81, 0, 0, 0, 0)), (77, (4, 78, 0, 0, 0, 1, 0)), (78, (45, 81, 82, 0, 0, 0, 0)), (81, (4, 82, 0, 0, 0, 0, 0)), (82, (70, 83, 1, 0, 0, 0, 0)), (83, (1, 85, 4, 0, 0, 0, 0)), (85, (40, 88, 103, 0, 0, 0, 0)), (88, (2, 89, 0, 0, 0, 0, 0)), (89, (48, 92, 4, 0, 10, 0, 0)), (92, (1, 93, 3, 0, 0, 0, 0)), (93, (65, 96, 27, 1, 113, 0, 0)), (96, (40, 99, 103, 0, 0, 0, 0)), (99, (4, 100, 0, 0, 0, 1, 0)), (100, (45, 103, 104, 0, 0, 0, 0)), (103, (4, 104, 0, 0, 0, 0, 0)), (104, (70, 105, 1, 0, 0, 0, 0)), (105, (1, 107, 4, 0, 0, 0, 0)), (107, (40, 110, 127, 0, 0, 0, 0)), (110, (2, 111, 0, 0, 0, 0, 0)), (111, (48, 114, 4, 3, 43, 0, 0)), (114, (1, 115, 2, 0, 0, 0, 0)), (115, (1, 116, 3, 0, 0, 0, 0)), (116, (65, 119, 22, 2, 175, 0, 0)), (119, (4, 120, 0, 0, 0, 2, 0)), (120, (35, 123, 127, 0, 0, 0, 0)), (123, (4, 124, 0, 0, 0, 1, 0)), (124, (45, 127, 128, 0, 0, 0, 0)), (127, (4, 128, 0, 0, 0, 0, 0))], [(128, (70, 129, 1, 0, 0, 0, 0)), (129, (1, 131, 4, 0, 0, 0, 0)), (131, (40, 134, 166, 0, 0, 0, 0)), (134, (2, 135, 0, 0, 0, 0, 0)), (135, (48, 138, 4, 3, 43, 0, 0)), (138, (1, 139, 2, 0, 0, 0, 0)), (139, (1, 140, 3, 0, 0, 0, 0)), (140, (11, 141, 0, 0, 0, 0, 0)), (141, (65, 144, 20, 1, 170, 0, 0)), (144, (1, 145, 3, 0, 0, 0, 0)), (145, (33, 148, 166, 0, 0, 0, 0)), (148, (2, 149, 0, 0, 0, 0, 0)), (149, (48, 152, 4, 3, 43, 0, 0)), (152, (1, 153, 2, 0, 0, 0, 0)), (153, (1, 154, 3, 0, 0, 0, 0)), (154, (10, 155, 0, 0, 0, 0, 0)), (155, (65, 158, 20, 1, 170, 0, 0)), (158, (1, 159, 3, 0, 0, 0, 0)), (159, (33, 162, 166, 0, 0, 0, 0)), (162, (4, 163, 0, 0, 0, 1, 0)), (163, (45, 166, 167, 0, 0, 0, 0)), (166, (4, 167, 0, 0, 0, 0, 0)), (167, (70, 168, 1, 0, 0, 0, 0)), (168, (1, 170, 5, 0, 0, 0, 0)), (170, (39, 173, 183, 0, 0, 0, 0)), (173, (1, 175, 5, 0, 0, 0, 0)), (175, (1, 176, 3, 0, 0, 0, 0)), (176, (33, 179, 183, 0, 0, 0, 0)), (179, (4, 180, 0, 0, 0, 1, 0)), (180, (45, 183, 184, 0, 0, 0, 0)), (183, (4, 184, 0, 0, 0, 0, 0)), (184, (70, 185, 1, 0, 0, 0, 0)), (185, (4, 186, 0, 0, 0, 0, 0)), (186, (70, 187, 1, 0, 0, 0, 0))]]
def am_t72 : List (List (Nat × am_I)) := [[(0, (4, 1, 0, 0, 0, 0, 0)), (1, (6, 2, 3, 0, 0, 0, 0)), (2, (4, 3, 0, 0, 0, 0, 0)), (3, (6, 5, 4, 0, 0, 0, 0)), (5, (1, 7, 4, 0, 0, 0, 0)), (7, (2, 8, 1, 0, 0, 0, 0)), (8, (48, 11, 0, 5, 123, 0, 0)), (11, (36, 14, 41, 0, 0, 0, 0)), (14, (2, 15, 0, 0, 0, 0, 0)), (15, (2, 16, 1, 0, 0, 0, 0)), (16, (1, 18, 4, 0, 0, 0, 0)), (18, (65, 21, 73, 2, 178, 0, 0)), (21, (39, 24, 35, 0, 0, 0, 0)), (24, (1, 25, 3, 0, 0, 0, 0)), (25, (1, 26, 2, 0, 0, 0, 0)), (26, (34, 29, 32, 0, 0, 0, 0)), (29, (1, 31, 4, 0, 0, 0, 0)), (31, (70, 32, 0, 0, 0, 0, 0)), (32, (9, 35, 3, 0, 0, 1, 0)), (35, (9, 38, 4, 0, 0, 1, 0)), (38, (45, 41, 5, 0, 0, 0, 0)), (41, (1, 42, 2, 0, 0, 0, 0)), (42, (4, 43, 0, 0, 0, (-1), 0)), (43, (34, 46, 50, 0, 0, 0, 0)), (46, (1, 47, 3, 0, 0, 0, 0)), (47, (45, 50, 52, 0, 0, 0, 0)), (50, (4, 52, 0, 0, 0, (-6), 0)), (52, (70, 53, 0, 0, 0, 0, 0))]]
def am_t73 : List (List (Nat × am_I)) := [[(0, (2, 1, 0, 0, 0, 0, 0)), (1, (48, 4, 4, 3, 43, 0, 0)), (4, (48, 7, 1, 1, 102, 0, 0)), (7, (2, 8, 0, 0, 0, 0, 0)), (8, (48, 11, 4, 0, 10, 0, 0)), (11, (48, 14, 2, 0, 85, 0, 0)), (14, (33, 17, 19, 0, 0, 0, 0)), (17, (4, 18, 0, 0, 0, 0, 0)), (18, (70, 19, 1, 0, 0, 0, 0)), (19, (4, 20, 0, 0, 0, 0, 0)), (20, (6, 21, 3, 0, 0, 0, 0)), (21, (1, 22, 3, 0, 0, 0, 0)), (22, (2, 23, 0, 0, 0, 0, 0)), (23, (48, 26, 4, 0, 10, 0, 0)), (26, (48, 29, 2, 0, 85, 0, 0)), (29, (36, 32, 67, 0, 0, 0, 0)), (32, (2, 33, 0, 0, 0, 0, 0)), (33, (48, 36, 4, 3, 43, 0, 0)), (36, (1, 37, 3, 0, 0, 0, 0)), (37, (65, 40, 20, 1, 170, 0, 0)), (40, (6, 42, 4, 0, 0, 0, 0)), (42, (1, 44, 4, 0, 0, 0, 0)), (44, (4, 45, 0, 0, 0, (-1), 0)), (45, (33, 48, 61, 0, 0, 0, 0)), (48, (1, 50, 4, 0, 0, 0, 0)), (50, (2, 51, 1, 0, 0, 0, 0)), (51, (1, 52, 2, 0, 0, 0, 0)), (52, (1, 53, 3, 0, 0, 0, 0)), (53, (65, 56, 11, 2, 129, 0, 0)), (56, (33, 59, 61, 0, 0, 0, 0)), (59, (4, 60, 0, 0, 0, 0, 0)), (60, (70, 61, 1, 0, 0, 0, 0)), (61, (9, 64, 3, 0, 0, 1, 0))], [(64, (45, 67, 21, 0, 0, 0, 0)), (67, (4, 68, 0, 0, 0, 1, 0)), (68, (70, 69, 1, 0, 0, 0, 0))]]
def am_t74 : List (List (Nat × am_I)) := [[(0, (2, 1, 0, 0, 0, 0, 0)), (1, (65, 4, 61, 0, 119, 0, 0)), (4, (1, 5, 1, 0, 0, 0, 0)), (5, (65, 8, 7, 1, 126, 0, 0)), (8, (40, 11, 13, 0, 0, 0, 0)), (11, (4, 12, 0, 0, 0, (-1), 0)), (12, (70, 13, 0, 0, 0, 0, 0)), (13, (2, 14, 0, 0, 0, 0, 0)), (14, (48, 17, 4, 1, 29, 0, 0)), (17, (1, 18, 1, 0, 0, 0, 0)), (18, (65, 21, 14, 1, 182, 0, 0)), (21, (6, 22, 2, 0, 0, 0, 0)), (22, (1, 23, 2, 0, 0, 0, 0)), (23, (42, 26, 31, 0, 0, 0, 0)), (26, (4, 28, 0, 0, 0, (-6), 0)), (28, (45, 31, 32, 0, 0, 0, 0)), (31, (1, 32, 2, 0, 0, 0, 0)), (32, (70, 33, 0, 0, 0, 0, 0))]]
def am_t75 : List (List (Nat × am_I)) := [[(0, (2, 1, 0, 0, 0, 0, 0)), (1, (65, 4, 61, 0, 119, 0, 0)), (4, (48, 7, 0, 5, 123, 0, 0)), (7, (6, 8, 1, 0, 0, 0, 0)), (8, (4, 9, 0, 0, 0, 0, 0)), (9, (6, 10, 2, 0, 0, 0, 0)), (10, (4, 11, 0, 0, 0, 0, 0)), (11, (6, 12, 3, 0, 0, 0, 0)), (12, (1, 13, 3, 0, 0, 0, 0)), (13, (1, 14, 1, 0, 0, 0, 0)), (14, (36, 17, 47, 0, 0, 0, 0)), (17, (2, 18, 0, 0, 0, 0, 0)), (18, (48, 21, 4, 1, 29, 0, 0)), (21, (1, 22, 3, 0, 0, 0, 0)), (22, (65, 25, 14, 1, 182, 0, 0)), (25, (6, 27, 4, 0, 0, 0, 0)), (27, (1, 29, 4, 0, 0, 0, 0)), (29, (41, 32, 38, 0, 0, 0, 0)), (32, (1, 34, 4, 0, 0, 0, 0)), (34, (1, 35, 3, 0, 0, 0, 0)), (35, (35, 38, 41, 0, 0, 0, 0)), (38, (9, 41, 2, 0, 0, 1, 0)), (41, (9, 44, 3, 0, 0, 1, 0)), (44, (45, 47, 12, 0, 0, 0, 0)), (47, (1, 48, 2, 0, 0, 0, 0)), (48, (70, 49, 0, 0, 0, 0, 0))]]
def am_t76 : List (List (Nat × am_I)) := [[(0, (2, 1, 0, 0, 0, 0, 0)), (1, (65, 4, 61, 0, 119, 0, 0)), (4, (1, 5, 1, 0, 0, 0, 0)), (5, (65, 8, 7, 1, 126, 0, 0)), (8, (39, 11, 22, 0, 0, 0, 0)), (11, (2, 12, 0, 0, 0, 0, 0)), (12, (48, 15, 4, 1, 29, 0, 0)), (15, (1, 16, 2, 0, 0, 0, 0)), (16, (65, 19, 7, 1, 126, 0, 0)), (19, (40, 22, 24, 0, 0, 0, 0)), (22, (4, 23, 0, 0, 0, (-1), 0)), (23, (70, 24, 0, 0, 0, 0, 0)), (24, (2, 25, 0, 0, 0, 0, 0)), (25, (48, 28, 4, 1, 29, 0, 0)), (28, (1, 29, 1, 0, 0, 0, 0)), (29, (1, 30, 2, 0, 0, 0, 0)), (30, (65, 33, 13, 2, 185, 0, 0)), (33, (70, 34, 0, 0, 0, 0, 0))]]
def am_t77 : List (List (Nat × am_I)) := [[(0, (2, 1, 0, 0, 0, 0, 0)), (1, (65, 4, 61, 0, 119, 0, 0)), (4, (1, 5, 1, 0, 0, 0, 0)), (5, (65, 8, 7, 1, 126, 0, 0)), (8, (40, 11, 13, 0, 0, 0, 0)), (11, (4, 12, 0, 0, 0, (-1), 0)), (12, (70, 13, 0, 0, 0, 0, 0)), (13, (4, 14, 0, 0, 0, 0, 0)), (14, (6, 15, 3, 0, 0, 0, 0)), (15, (4, 16, 0, 0, 0, 0, 0)), (16, (6, 18, 4, 0, 0, 0, 0)), (18, (1, 20, 4, 0, 0, 0, 0)), (20, (2, 21, 0, 0, 0, 0, 0)), (21, (48, 24, 4, 1, 29, 0, 0)), (24, (48, 27, 0, 5, 123, 0, 0)), (27, (36, 30, 61, 0, 0, 0, 0)), (30, (2, 31, 0, 0, 0, 0, 0)), (31, (48, 34, 4, 1, 29, 0, 0)), (34, (1, 35, 1, 0, 0, 0, 0)), (35, (1, 37, 4, 0, 0, 0, 0)), (37, (65, 40, 13, 2, 185, 0, 0)), (40, (4, 41, 0, 0, 0, 3, 0)), (41, (34, 44, 55, 0, 0, 0, 0)), (44, (1, 45, 3, 0, 0, 0, 0)), (45, (1, 46, 2, 0, 0, 0, 0)), (46, (34, 49, 52, 0, 0, 0, 0)), (49, (1, 51, 4, 0, 0, 0, 0)), (51, (70, 52, 0, 0, 0, 0, 0)), (52, (9, 55, 3, 0, 0, 1, 0)), (55, (9, 58, 4, 0, 0, 1, 0)), (58, (45, 61, 18, 0, 0, 0, 0)), (61, (1, 62, 2, 0, 0, 0, 0)), (62, (4, 63, 0, 0, 0, (-1), 0)), (63, (34, 66, 70, 0, 0, 0, 0))], [(66, (1, 67, 3, 0, 0, 0, 0)), (67, (45, 70, 72, 0, 0, 0, 0)), (70, (4, 72, 0, 0, 0, (-6), 0)), (72, (70, 73, 0, 0, 0, 0, 0))]]
def am_t78 : List (List (Nat × am_I)) := [[(0, (2, 1, 0, 0, 0, 0, 0)), (1, (65, 4, 61, 0, 119, 0, 0)), (4, (1, 5, 1, 0, 0, 0, 0)), (5, (65, 8, 7, 1, 126, 0, 0)), (8, (39, 11, 22, 0, 0, 0, 0)), (11, (2, 12, 0, 0, 0, 0, 0)), (12, (48, 15, 4, 1, 29, 0, 0)), (15, (1, 16, 2, 0, 0, 0, 0)), (16, (65, 19, 7, 1, 126, 0, 0)), (19, (40, 22, 24, 0, 0, 0, 0)), (22, (4, 23, 0, 0, 0, (-1), 0)), (23, (70, 24, 0, 0, 0, 0, 0)), (24, (1, 25, 1, 0, 0, 0, 0)), (25, (4, 28, 0, 0, 0, 300, 0)), (28, (36, 31, 38, 0, 0, 0, 0)), (31, (1, 32, 2, 0, 0, 0, 0)), (32, (4, 35, 0, 0, 0, 300, 0)), (35, (35, 38, 41, 0, 0, 0, 0)), (38, (4, 40, 0, 0, 0, (-2), 0)), (40, (70, 41, 0, 0, 0, 0, 0)), (41, (2, 42, 0, 0, 0, 0, 0)), (42, (48, 45, 4, 2, 36, 0, 0)), (45, (2, 46, 0, 0, 0, 0, 0)), (46, (48, 49, 4, 1, 29, 0, 0)), (49, (1, 50, 1, 0, 0, 0, 0)), (50, (1, 51, 2, 0, 0, 0, 0)), (51, (65, 54, 41, 3, 188, 0, 0)), (54, (6, 55, 3, 0, 0, 0, 0)), (55, (1, 56, 3, 0, 0, 0, 0)), (56, (42, 59, 64, 0, 0, 0, 0)), (59, (4, 61, 0, 0, 0, (-6), 0)), (61, (45, 64, 65, 0, 0, 0, 0))], [(64, (1, 65, 3, 0, 0, 0, 0)), (65, (70, 66, 0, 0, 0, 0, 0))]]
def am_t79 : List (List (Nat × am_I)) := [[(0, (2, 1, 0, 0, 0, 0, 0)), (1, (48, 4, 4, 0, 10, 0, 0)), (4, (1, 5, 2, 0, 0, 0, 0)), (5, (65, 8, 27, 1, 113, 0, 0)), (8, (39, 11, 22, 0, 0, 0, 0)), (11, (2, 12, 0, 0, 0, 0, 0)), (12, (65, 15, 61, 0, 119, 0, 0)), (15, (1, 16, 1, 0, 0, 0, 0)), (16, (65, 19, 7, 1, 126, 0, 0)), (19, (40, 22, 24, 0, 0, 0, 0)), (22, (4, 23, 0, 0, 0, (-1), 0)), (23, (70, 24, 0, 0, 0, 0, 0)), (24, (1, 25, 3, 0, 0, 0, 0)), (25, (41, 28, 33, 0, 0, 0, 0)), (28, (1, 29, 3, 0, 0, 0, 0)), (29, (4, 30, 0, 0, 0, 2, 0)), (30, (38, 33, 36, 0, 0, 0, 0)), (33, (4, 35, 0, 0, 0, (-2), 0)), (35, (70, 36, 0, 0, 0, 0, 0)), (36, (2, 37, 0, 0, 0, 0, 0)), (37, (1, 38, 1, 0, 0, 0, 0)), (38, (1, 39, 2, 0, 0, 0, 0)), (39, (1, 40, 3, 0, 0, 0, 0)), (40, (65, 43, 83, 3, 192, 0, 0)), (43, (70, 44, 0, 0, 0, 0, 0))]]
def am_t80 : List (List (Nat × am_I)) := [[(0, (2, 1, 0, 0, 0, 0, 0)), (1, (65, 4, 61, 0, 119, 0, 0)), (4, (1, 5, 1, 0, 0, 0, 0)), (5, (65, 8, 7, 1, 126, 0, 0)), (8, (40, 11, 13, 0, 0, 0, 0)), (11, (4, 12, 0, 0, 0, (-1), 0)), (12, (70, 13, 0, 0, 0, 0, 0)), (13, (4, 14, 0, 0, 0, 0, 0)), (14, (6, 15, 2, 0, 0, 0, 0)), (15, (4, 16, 0, 0, 0, 0, 0)), (16, (6, 17, 3, 0, 0, 0, 0)), (17, (4, 18, 0, 0, 0, 1, 0)), (18, (6, 20, 4, 0, 0, 0, 0)), (20, (1, 22, 4, 0, 0, 0, 0)), (22, (4, 24, 0, 0, 0, 17, 0)), (24, (37, 27, 99, 0, 0, 0, 0)), (27, (2, 28, 0, 0, 0, 0, 0)), (28, (48, 31, 4, 0, 10, 0, 0)), (31, (1, 33, 4, 0, 0, 0, 0)), (33, (65, 36, 27, 1, 113, 0, 0)), (36, (40, 39, 42, 0, 0, 0, 0)), (39, (45, 42, 93, 0, 0, 0, 0)), (42, (4, 43, 0, 0, 0, 0, 0)), (43, (6, 45, 5, 0, 0, 0, 0)), (45, (1, 47, 5, 0, 0, 0, 0)), (47, (4, 48, 0, 0, 0, 2, 0)), (48, (37, 51, 93, 0, 0, 0, 0)), (51, (2, 52, 0, 0, 0, 0, 0)), (52, (1, 53, 1, 0, 0, 0, 0)), (53, (1, 55, 4, 0, 0, 0, 0)), (55, (1, 57, 5, 0, 0, 0, 0)), (57, (65, 60, 83, 3, 192, 0, 0)), (60, (6, 62, 6, 0, 0, 0, 0)), (62, (1, 63, 2, 0, 0, 0, 0)), (63, (1, 65, 6, 0, 0, 0, 0))], [(65, (66, 68, 88, 2, 196, 0, 0)), (68, (39, 71, 73, 0, 0, 0, 0)), (71, (4, 72, 0, 0, 0, 0, 0)), (72, (70, 73, 0, 0, 0, 0, 0)), (73, (1, 74, 2, 0, 0, 0, 0)), (74, (4, 75, 0, 0, 0, 1, 0)), (75, (1, 77, 6, 0, 0, 0, 0)), (77, (16, 78, 0, 0, 0, 0, 0)), (78, (20, 79, 0, 0, 0, 0, 0)), (79, (6, 80, 2, 0, 0, 0, 0)), (80, (1, 81, 3, 0, 0, 0, 0)), (81, (1, 83, 6, 0, 0, 0, 0)), (83, (75, 86, 0, 0, 199, 0, 0)), (86, (6, 87, 3, 0, 0, 0, 0)), (87, (9, 90, 5, 0, 0, 1, 0)), (90, (45, 93, 45, 0, 0, 0, 0)), (93, (9, 96, 4, 0, 0, 1, 0)), (96, (45, 99, 20, 0, 0, 0, 0)), (99, (1, 100, 3, 0, 0, 0, 0)), (100, (70, 101, 0, 0, 0, 0, 0))]]
def am_t81 : List (List (Nat × am_I)) := [[(0, (4, 1, 0, 0, 0, 2, 0)), (1, (2, 2, 0, 0, 0, 0, 0)), (2, (48, 5, 4, 0, 10, 0, 0)), (5, (65, 8, 28, 0, 204, 0, 0)), (8, (12, 9, 0, 0, 0, 0, 0)), (9, (4, 10, 0, 0, 0, 1, 0)), (10, (10, 11, 0, 0, 0, 0, 0)), (11, (6, 12, 1, 0, 0, 0, 0)), (12, (4, 13, 0, 0, 0, 0, 0)), (13, (6, 14, 2, 0, 0, 0, 0)), (14, (4, 15, 0, 0, 0, 0, 0)), (15, (6, 16, 3, 0, 0, 0, 0)), (16, (1, 17, 3, 0, 0, 0, 0)), (17, (1, 18, 1, 0, 0, 0, 0)), (18, (36, 21, 51, 0, 0, 0, 0)), (21, (2, 22, 0, 0, 0, 0, 0)), (22, (1, 23, 1, 0, 0, 0, 0)), (23, (4, 24, 0, 0, 0, 1, 0)), (24, (1, 25, 3, 0, 0, 0, 0)), (25, (16, 26, 0, 0, 0, 0, 0)), (26, (2, 27, 0, 0, 0, 0, 0)), (27, (48, 30, 4, 0, 10, 0, 0)), (30, (48, 33, 2, 2, 92, 0, 0)), (33, (65, 36, 84, 3, 207, 0, 0)), (36, (39, 39, 45, 0, 0, 0, 0)), (39, (1, 40, 2, 0, 0, 0, 0)), (40, (4, 41, 0, 0, 0, 1, 0)), (41, (1, 42, 3, 0, 0, 0, 0)), (42, (16, 43, 0, 0, 0, 0, 0)), (43, (20, 44, 0, 0, 0, 0, 0)), (44, (6, 45, 2, 0, 0, 0, 0)), (45, (9, 48, 3, 0, 0, 1, 0)), (48, (45, 51, 16, 0, 0, 0, 0)), (51, (1, 52, 2, 0, 0, 0, 0)), (52, (70, 53, 0, 0, 0, 0, 0))]]
def am_t82 : List (List (Nat × am_I)) := [[(0, (2, 1, 0, 0, 0, 0, 0)), (1, (48, 4, 4, 0, 10, 0, 0)), (4, (65, 7, 28, 0, 204, 0, 0)), (7, (4, 8, 0, 0, 0, 1, 0)), (8, (11, 9, 0, 0, 0, 0, 0)), (9, (6, 10, 1, 0, 0, 0, 0)), (10, (1, 11, 1, 0, 0, 0, 0)), (11, (40, 14, 16, 0, 0, 0, 0)), (14, (4, 15, 0, 0, 0, 0, 0)), (15, (70, 16, 0, 0, 0, 0, 0)), (16, (4, 17, 0, 0, 0, 0, 0)), (17, (6, 18, 2, 0, 0, 0, 0)), (18, (4, 19, 0, 0, 0, 1, 0)), (19, (6, 20, 3, 0, 0, 0, 0)), (20, (1, 21, 3, 0, 0, 0, 0)), (21, (4, 23, 0, 0, 0, 17, 0)), (23, (37, 26, 73, 0, 0, 0, 0)), (26, (2, 27, 0, 0, 0, 0, 0)), (27, (48, 30, 4, 0, 10, 0, 0)), (30, (1, 31, 3, 0, 0, 0, 0)), (31, (65, 34, 27, 1, 113, 0, 0)), (34, (39, 37, 67, 0, 0, 0, 0)), (37, (2, 38, 0, 0, 0, 0, 0)), (38, (4, 39, 0, 0, 0, 2, 0)), (39, (1, 40, 1, 0, 0, 0, 0)), (40, (12, 41, 0, 0, 0, 0, 0)), (41, (4, 42, 0, 0, 0, 0, 0)), (42, (2, 43, 0, 0, 0, 0, 0)), (43, (48, 46, 4, 0, 10, 0, 0)), (46, (48, 49, 2, 2, 92, 0, 0)), (49, (4, 50, 0, 0, 0, 1, 0)), (50, (1, 51, 3, 0, 0, 0, 0)), (51, (16, 52, 0, 0, 0, 0, 0)), (52, (4, 53, 0, 0, 0, (-1), 0)), (53, (21, 54, 0, 0, 0, 0, 0)), (54, (19, 55, 0, 0, 0, 0, 0)), (55, (65, 58, 84, 3, 207, 0, 0)), (58, (39, 61, 67, 0, 0, 0, 0)), (61, (1, 62, 2, 0, 0, 0, 0)), (62, (4, 63, 0, 0, 0, 1, 0)), (63, (1, 64, 3, 0, 0, 0, 0))], [(64, (16, 65, 0, 0, 0, 0, 0)), (65, (20, 66, 0, 0, 0, 0, 0)), (66, (6, 67, 2, 0, 0, 0, 0)), (67, (9, 70, 3, 0, 0, 1, 0)), (70, (45, 73, 20, 0, 0, 0, 0)), (73, (1, 74, 2, 0, 0, 0, 0)), (74, (70, 75, 0, 0, 0, 0, 0))]]
def am_t83 : List (List (Nat × am_I)) := [[(0, (1, 1, 3, 0, 0, 0, 0)), (1, (40, 4, 6, 0, 0, 0, 0)), (4, (1, 5, 2, 0, 0, 0, 0)), (5, (70, 6, 0, 0, 0, 0, 0)), (6, (2, 7, 0, 0, 0, 0, 0)), (7, (48, 10, 4, 1, 29, 0, 0)), (10, (1, 11, 1, 0, 0, 0, 0)), (11, (1, 12, 2, 0, 0, 0, 0)), (12, (65, 15, 10, 2, 132, 0, 0)), (15, (4, 16, 0, 0, 0, 1, 0)), (16, (10, 17, 0, 0, 0, 0, 0)), (17, (2, 18, 0, 0, 0, 0, 0)), (18, (48, 21, 4, 0, 10, 0, 0)), (21, (65, 24, 28, 0, 204, 0, 0)), (24, (10, 25, 0, 0, 0, 0, 0)), (25, (6, 27, 4, 0, 0, 0, 0)), (27, (1, 28, 3, 0, 0, 0, 0)), (28, (4, 29, 0, 0, 0, 1, 0)), (29, (34, 32, 37, 0, 0, 0, 0)), (32, (1, 34, 4, 0, 0, 0, 0)), (34, (45, 37, 41, 0, 0, 0, 0)), (37, (1, 39, 4, 0, 0, 0, 0)), (39, (1, 40, 2, 0, 0, 0, 0)), (40, (10, 41, 0, 0, 0, 0, 0)), (41, (70, 42, 0, 0, 0, 0, 0))]]
def am_t84 : List (List (Nat × am_I)) := [[(0, (2, 1, 0, 0, 0, 0, 0)), (1, (48, 4, 4, 4, 47, 0, 0)), (4, (1, 5, 1, 0, 0, 0, 0)), (5, (1, 6, 2, 0, 0, 0, 0)), (6, (1, 7, 3, 0, 0, 0, 0)), (7, (65, 10, 24, 3, 20, 0, 0)), (10, (2, 11, 0, 0, 0, 0, 0)), (11, (48, 14, 4, 5, 50, 0, 0)), (14, (2, 15, 0, 0, 0, 0, 0)), (15, (48, 18, 4, 4, 47, 0, 0)), (18, (65, 21, 1, 1, 138, 0, 0)), (21, (2, 22, 0, 0, 0, 0, 0)), (22, (48, 25, 4, 5, 50, 0, 0)), (25, (48, 28, 0, 5, 123, 0, 0)), (28, (44, 31, 35, 0, 0, 0, 0)), (31, (4, 32, 0, 0, 0, 1, 0)), (32, (45, 35, 36, 0, 0, 0, 0)), (35, (4, 36, 0, 0, 0, 0, 0)), (36, (70, 37, 1, 0, 0, 0, 0))]]
def am_t85 : List (List (Nat × am_I)) := [[(0, (2, 1, 0, 0, 0, 0, 0)), (1, (1, 2, 1, 0, 0, 0, 0)), (2, (65, 5, 87, 1, 211, 0, 0)), (5, (7, 6, 2, 0, 0, 0, 0)), (6, (2, 7, 2, 0, 0, 0, 0)), (7, (46, 10, 13, 0, 0, 0, 0)), (10, (4, 12, 0, 0, 0, (-2), 0)), (12, (70, 13, 0, 0, 0, 0, 0)), (13, (2, 14, 2, 0, 0, 0, 0)), (14, (2, 15, 0, 0, 0, 0, 0)), (15, (48, 18, 4, 0, 10, 0, 0)), (18, (65, 21, 25, 1, 215, 0, 0)), (21, (2, 22, 0, 0, 0, 0, 0)), (22, (48, 25, 4, 0, 10, 0, 0)), (25, (48, 28, 2, 0, 85, 0, 0)), (28, (70, 29, 0, 0, 0, 0, 0))]]
def am_t86 : List (List (Nat × am_I)) := [[(0, (2, 1, 0, 0, 0, 0, 0)), (1, (1, 2, 1, 0, 0, 0, 0)), (2, (65, 5, 87, 1, 211, 0, 0)), (5, (7, 6, 2, 0, 0, 0, 0)), (6, (2, 7, 2, 0, 0, 0, 0)), (7, (46, 10, 13, 0, 0, 0, 0)), (10, (4, 12, 0, 0, 0, (-2), 0)), (12, (70, 13, 0, 0, 0, 0, 0)), (13, (2, 14, 2, 0, 0, 0, 0)), (14, (48, 17, 2, 0, 85, 0, 0)), (17, (40, 20, 23, 0, 0, 0, 0)), (20, (4, 22, 0, 0, 0, (-5), 0)), (22, (70, 23, 0, 0, 0, 0, 0)), (23, (2, 24, 0, 0, 0, 0, 0)), (24, (48, 27, 4, 0, 10, 0, 0)), (27, (2, 28, 2, 0, 0, 0, 0)), (28, (65, 31, 25, 1, 215, 0, 0)), (31, (2, 32, 0, 0, 0, 0, 0)), (32, (4, 33, 0, 0, 0, 1, 0)), (33, (49, 36, 4, 7, 57, 0, 0)), (36, (2, 37, 0, 0, 0, 0, 0)), (37, (48, 40, 4, 0, 10, 0, 0)), (40, (48, 43, 2, 0, 85, 0, 0)), (43, (70, 44, 0, 0, 0, 0, 0))]]
def am_t87 : List (List (Nat × am_I)) := [[(0, (1, 1, 1, 0, 0, 0, 0)), (1, (41, 4, 22, 0, 0, 0, 0)), (4, (1, 5, 1, 0, 0, 0, 0)), (5, (2, 6, 0, 0, 0, 0, 0)), (6, (48, 9, 4, 6, 53, 0, 0)), (9, (59, 10, 0, 0, 0, 0, 0)), (10, (36, 13, 22, 0, 0, 0, 0)), (13, (2, 14, 0, 0, 0, 0, 0)), (14, (48, 17, 4, 6, 53, 0, 0)), (17, (1, 18, 1, 0, 0, 0, 0)), (18, (57, 19, 0, 0, 0, 0, 0)), (19, (45, 22, 23, 0, 0, 0, 0)), (22, (64, 23, 0, 0, 0, 0, 0)), (23, (72, 24, 0, 0, 0, 0, 0))]]
def am_t88 : List (List (Nat × am_I)) := [[(0, (1, 1, 1, 0, 0, 0, 0)), (1, (41, 4, 22, 0, 0, 0, 0)), (4, (1, 5, 1, 0, 0, 0, 0)), (5, (4, 7, 0, 0, 0, 30, 0)), (7, (37, 10, 22, 0, 0, 0, 0)), (10, (1, 11, 0, 0, 0, 0, 0)), (11, (1, 12, 1, 0, 0, 0, 0)), (12, (18, 13, 0, 0, 0, 0, 0)), (13, (4, 14, 0, 0, 0, 1, 0)), (14, (19, 15, 0, 0, 0, 0, 0)), (15, (39, 18, 22, 0, 0, 0, 0)), (18, (4, 19, 0, 0, 0, 1, 0)), (19, (45, 22, 23, 0, 0, 0, 0)), (22, (4, 23, 0, 0, 0, 0, 0)), (23, (70, 24, 1, 0, 0, 0, 0))]]
def am_t89 : List (List (Nat × am_I)) := [[(0, (4, 1, 0, 0, 0, 1, 0)), (1, (1, 2, 1, 0, 0, 0, 0)), (2, (4, 3, 0, 0, 0, 1, 0)), (3, (10, 4, 0, 0, 0, 0, 0)), (4, (16, 5, 0, 0, 0, 0, 0)), (5, (4, 6, 0, 0, 0, 1, 0)), (6, (1, 7, 0, 0, 0, 0, 0)), (7, (16, 8, 0, 0, 0, 0, 0)), (8, (11, 9, 0, 0, 0, 0, 0)), (9, (70, 10, 0, 0, 0, 0, 0))]]
def am_t90 : List (List (Nat × am_I)) := [[(0, (4, 1, 0, 0, 0, 0, 0)), (1, (6, 2, 1, 0, 0, 0, 0)), (2, (4, 3, 0, 0, 0, 0, 0)), (3, (6, 4, 2, 0, 0, 0, 0)), (4, (1, 5, 2, 0, 0, 0, 0)), (5, (4, 7, 0, 0, 0, 30, 0)), (7, (37, 10, 28, 0, 0, 0, 0)), (10, (1, 11, 0, 0, 0, 0, 0)), (11, (1, 12, 2, 0, 0, 0, 0)), (12, (66, 15, 88, 2, 196, 0, 0)), (15, (39, 18, 22, 0, 0, 0, 0)), (18, (1, 19, 1, 0, 0, 0, 0)), (19, (1, 20, 2, 0, 0, 0, 0)), (20, (10, 21, 0, 0, 0, 0, 0)), (21, (6, 22, 1, 0, 0, 0, 0)), (22, (9, 25, 2, 0, 0, 1, 0)), (25, (45, 28, 4, 0, 0, 0, 0)), (28, (1, 29, 1, 0, 0, 0, 0)), (29, (70, 30, 0, 0, 0, 0, 0))]]
def am_t91 : List (List (Nat × am_I)) := [[(0, (1, 1, 0, 0, 0, 0, 0)), (1, (4, 2, 0, 0, 0, (-1), 0)), (2, (21, 3, 0, 0, 0, 0, 0)), (3, (1, 4, 0, 0, 0, 0, 0)), (4, (4, 5, 0, 0, 0, 1, 0)), (5, (11, 6, 0, 0, 0, 0, 0)), (6, (19, 7, 0, 0, 0, 0, 0)), (7, (6, 8, 0, 0, 0, 0, 0)), (8, (1, 9, 0, 0, 0, 0, 0)), (9, (43, 12, 17, 0, 0, 0, 0)), (12, (1, 13, 0, 0, 0, 0, 0)), (13, (4, 15, 0, 0, 0, 32, 0)), (15, (19, 16, 0, 0, 0, 0, 0)), (16, (70, 17, 0, 0, 0, 0, 0)), (17, (4, 18, 0, 0, 0, 1, 0)), (18, (6, 19, 1, 0, 0, 0, 0)), (19, (1, 20, 0, 0, 0, 0, 0)), (20, (4, 23, 0, 0, 264, 65536, 0)), (23, (38, 26, 34, 0, 0, 0, 0)), (26, (9, 29, 1, 0, 0, 16, 0)), (29, (1, 30, 0, 0, 0, 0, 0)), (30, (4, 32, 0, 0, 0, 16, 0)), (32, (18, 33, 0, 0, 0, 0, 0)), (33, (6, 34, 0, 0, 0, 0, 0)), (34, (1, 35, 0, 0, 0, 0, 0)), (35, (4, 38, 0, 0, 0, 256, 0)), (38, (38, 41, 49, 0, 0, 0, 0)), (41, (9, 44, 1, 0, 0, 8, 0)), (44, (1, 45, 0, 0, 0, 0, 0)), (45, (4, 47, 0, 0, 0, 8, 0)), (47, (18, 48, 0, 0, 0, 0, 0)), (48, (6, 49, 0, 0, 0, 0, 0)), (49, (1, 50, 0, 0, 0, 0, 0)), (50, (4, 52, 0, 0, 0, 16, 0)), (52, (38, 55, 62, 0, 0, 0, 0)), (55, (9, 58, 1, 0, 0, 4, 0)), (58, (1, 59, 0, 0, 0, 0, 0)), (59, (4, 60, 0, 0, 0, 4, 0)), (60, (18, 61, 0, 0, 0, 0, 0)), (61, (6, 62, 0, 0, 0, 0, 0)), (62, (1, 63, 0, 0, 0, 0, 0)), (63, (4, 64, 0, 0, 0, 4, 0))], [(64, (38, 67, 74, 0, 0, 0, 0)), (67, (9, 70, 1, 0, 0, 2, 0)), (70, (1, 71, 0, 0, 0, 0, 0)), (71, (4, 72, 0, 0, 0, 2, 0)), (72, (18, 73, 0, 0, 0, 0, 0)), (73, (6, 74, 0, 0, 0, 0, 0)), (74, (1, 75, 1, 0, 0, 0, 0)), (75, (1, 76, 0, 0, 0, 0, 0)), (76, (4, 77, 0, 0, 0, 1, 0)), (77, (18, 78, 0, 0, 0, 0, 0)), (78, (10, 79, 0, 0, 0, 0, 0)), (79, (70, 80, 0, 0, 0, 0, 0))]]
def am_t92 : List (List (Nat × am_I)) := [[(0, (1, 1, 0, 0, 0, 0, 0)), (1, (1, 2, 0, 0, 0, 0, 0)), (2, (4, 3, 0, 0, 0, 1, 0)), (3, (18, 4, 0, 0, 0, 0, 0)), (4, (4, 7, 0, 0, 265, 1431655765, 0)), (7, (19, 8, 0, 0, 0, 0, 0)), (8, (11, 9, 0, 0, 0, 0, 0)), (9, (6, 10, 0, 0, 0, 0, 0)), (10, (1, 11, 0, 0, 0, 0, 0)), (11, (4, 14, 0, 0, 266, 858993459, 0)), (14, (19, 15, 0, 0, 0, 0, 0)), (15, (1, 16, 0, 0, 0, 0, 0)), (16, (4, 17, 0, 0, 0, 2, 0)), (17, (18, 18, 0, 0, 0, 0, 0)), (18, (4, 21, 0, 0, 266, 858993459, 0)), (21, (19, 22, 0, 0, 0, 0, 0)), (22, (10, 23, 0, 0, 0, 0, 0)), (23, (6, 24, 0, 0, 0, 0, 0)), (24, (1, 25, 0, 0, 0, 0, 0)), (25, (1, 26, 0, 0, 0, 0, 0)), (26, (4, 27, 0, 0, 0, 4, 0)), (27, (18, 28, 0, 0, 0, 0, 0)), (28, (10, 29, 0, 0, 0, 0, 0)), (29, (4, 32, 0, 0, 267, 252645135, 0)), (32, (19, 33, 0, 0, 0, 0, 0)), (33, (6, 34, 0, 0, 0, 0, 0)), (34, (1, 35, 0, 0, 0, 0, 0)), (35, (1, 36, 0, 0, 0, 0, 0)), (36, (4, 38, 0, 0, 0, 8, 0)), (38, (18, 39, 0, 0, 0, 0, 0)), (39, (10, 40, 0, 0, 0, 0, 0)), (40, (6, 41, 0, 0, 0, 0, 0)), (41, (1, 42, 0, 0, 0, 0, 0)), (42, (1, 43, 0, 0, 0, 0, 0)), (43, (4, 45, 0, 0, 0, 16, 0)), (45, (18, 46, 0, 0, 0, 0, 0)), (46, (10, 47, 0, 0, 0, 0, 0)), (47, (6, 48, 0, 0, 0, 0, 0)), (48, (1, 49, 0, 0, 0, 0, 0)), (49, (4, 51, 0, 0, 0, 63, 0)), (51, (19, 52, 0, 0, 0, 0, 0)), (52, (70, 53, 0, 0, 0, 0, 0))]]
def am_t93 : List (List (Nat × am_I)) := [[(0, (3, 1, 0, 0, 0, 0, 0)), (1, (3, 2, 0, 0, 0, 0, 0)), (2, (4, 3, 0, 0, 0, 1, 0)), (3, (29, 4, 0, 0, 0, 0, 0)), (4, (5, 7, 0, 0, 314, 0, 6148914691236517205)), (7, (24, 8, 0, 0, 0, 0, 0)), (8, (23, 9, 0, 0, 0, 0, 0)), (9, (8, 10, 0, 0, 0, 0, 0)), (10, (3, 11, 0, 0, 0, 0, 0)), (11, (5, 14, 0, 0, 316, 0, 3689348814741910323)), (14, (24, 15, 0, 0, 0, 0, 0)), (15, (3, 16, 0, 0, 0, 0, 0)), (16, (4, 17, 0, 0, 0, 2, 0)), (17, (29, 18, 0, 0, 0, 0, 0)), (18, (5, 21, 0, 0, 316, 0, 3689348814741910323)), (21, (24, 22, 0, 0, 0, 0, 0)), (22, (22, 23, 0, 0, 0, 0, 0)), (23, (8, 24, 0, 0, 0, 0, 0)), (24, (3, 25, 0, 0, 0, 0, 0)), (25, (3, 26, 0, 0, 0, 0, 0)), (26, (4, 27, 0, 0, 0, 4, 0)), (27, (29, 28, 0, 0, 0, 0, 0)), (28, (22, 29, 0, 0, 0, 0, 0)), (29, (5, 32, 0, 0, 318, 0, 1085102592571150095)), (32, (24, 33, 0, 0, 0, 0, 0)), (33, (8, 34, 0, 0, 0, 0, 0)), (34, (3, 35, 0, 0, 0, 0, 0)), (35, (3, 36, 0, 0, 0, 0, 0)), (36, (4, 38, 0, 0, 0, 8, 0)), (38, (29, 39, 0, 0, 0, 0, 0)), (39, (22, 40, 0, 0, 0, 0, 0)), (40, (8, 41, 0, 0, 0, 0, 0)), (41, (3, 42, 0, 0, 0, 0, 0)), (42, (3, 43, 0, 0, 0, 0, 0)), (43, (4, 45, 0, 0, 0, 16, 0)), (45, (29, 46, 0, 0, 0, 0, 0)), (46, (22, 47, 0, 0, 0, 0, 0)), (47, (8, 48, 0, 0, 0, 0, 0)), (48, (3, 49, 0, 0, 0, 0, 0)), (49, (3, 50, 0, 0, 0, 0, 0)), (50, (4, 52, 0, 0, 0, 32, 0)), (52, (29, 53, 0, 0, 0, 0, 0)), (53, (22, 54, 0, 0, 0, 0, 0)), (54, (8, 55, 0, 0, 0, 0, 0)), (55, (3, 56, 0, 0, 0, 0, 0)), (56, (31, 57, 0, 0, 0, 0, 0)), (57, (4, 59, 0, 0, 0, 127, 0)), (59, (19, 60, 0, 0, 0, 0, 0)), (60, (70, 61, 0, 0, 0, 0, 0))]]
def am_t94 : List (List (Nat × am_I)) := [[(0, (1, 1, 1, 0, 0, 0, 0)), (1, (2, 2, 0, 0, 0, 0, 0)), (2, (59, 3, 0, 0, 0, 0, 0)), (3, (36, 6, 12, 0, 0, 0, 0)), (6, (2, 7, 0, 0, 0, 0, 0)), (7, (1, 8, 1, 0, 0, 0, 0)), (8, (51, 9, 0, 0, 0, 0, 0)), (9, (45, 12, 20, 0, 0, 0, 0)), (12, (4, 14, 0, 0, 7, 2146121005, 0)), (14, (1, 15, 1, 0, 0, 0, 0)), (15, (4, 18, 0, 0, 0, 1217, 0)), (18, (10, 19, 0, 0, 0, 0, 0)), (19, (12, 20, 0, 0, 0, 0, 0)), (20, (70, 21, 0, 0, 0, 0, 0))]]
def am_t95 : List (List (Nat × am_I)) := [[(0, (1, 1, 0, 0, 0, 0, 0)), (1, (4, 3, 0, 0, 8, 2147483647, 0)), (3, (19, 4, 0, 0, 0, 0, 0)), (4, (1, 5, 1, 0, 0, 0, 0)), (5, (14, 6, 0, 0, 0, 0, 0)), (6, (70, 7, 0, 0, 0, 0, 0))]]
def am_t96 : List (List (Nat × am_I)) := [[(0, (4, 1, 0, 0, 0, 0, 0)), (1, (6, 2, 1, 0, 0, 0, 0)), (2, (4, 3, 0, 0, 0, 0, 0)), (3, (6, 4, 2, 0, 0, 0, 0)), (4, (1, 5, 2, 0, 0, 0, 0)), (5, (4, 7, 0, 0, 0, 31, 0)), (7, (36, 10, 24, 0, 0, 0, 0)), (10, (1, 11, 1, 0, 0, 0, 0)), (11, (1, 12, 0, 0, 0, 0, 0)), (12, (1, 13, 2, 0, 0, 0, 0)), (13, (17, 14, 0, 0, 0, 0, 0)), (14, (4, 15, 0, 0, 0, 1, 0)), (15, (19, 16, 0, 0, 0, 0, 0)), (16, (10, 17, 0, 0, 0, 0, 0)), (17, (6, 18, 1, 0, 0, 0, 0)), (18, (9, 21, 2, 0, 0, 1, 0)), (21, (45, 24, 4, 0, 0, 0, 0)), (24, (1, 25, 1, 0, 0, 0, 0)), (25, (70, 26, 0, 0, 0, 0, 0))]]
def am_t97 : List (List (Nat × am_I)) := [[(0, (1, 1, 1, 0, 0, 0, 0)), (1, (44, 4, 25, 0, 0, 0, 0)), (4, (2, 5, 0, 0, 0, 0, 0)), (5, (65, 8, 52, 0, 69, 0, 0)), (8, (4, 10, 0, 0, 0, (-6), 0)), (10, (33, 13, 23, 0, 0, 0, 0)), (13, (2, 14, 0, 0, 0, 0, 0)), (14, (65, 17, 53, 0, 72, 0, 0)), (17, (4, 20, 0, 0, 0, 1000, 0)), (20, (36, 23, 25, 0, 0, 0, 0)), (23, (4, 24, 0, 0, 0, 0, 0)), (24, (70, 25, 1, 0, 0, 0, 0)), (25, (2, 26, 0, 0, 0, 0, 0)), (26, (65, 29, 52, 0, 69, 0, 0)), (29, (4, 31, 0, 0, 0, (-6), 0)), (31, (34, 34, 38, 0, 0, 0, 0)), (34, (1, 35, 1, 0, 0, 0, 0)), (35, (43, 38, 67, 0, 0, 0, 0)), (38, (1, 39, 1, 0, 0, 0, 0)), (39, (40, 42, 69, 0, 0, 0, 0)), (42, (2, 43, 0, 0, 0, 0, 0)), (43, (65, 46, 60, 0, 75, 0, 0)), (46, (40, 49, 67, 0, 0, 0, 0)), (49, (2, 50, 0, 0, 0, 0, 0)), (50, (65, 53, 75, 0, 78, 0, 0)), (53, (40, 56, 67, 0, 0, 0, 0)), (56, (2, 57, 0, 0, 0, 0, 0)), (57, (4, 58, 0, 0, 0, 0, 0)), (58, (4, 59, 0, 0, 0, 0, 0)), (59, (65, 62, 56, 2, 81, 0, 0)), (62, (4, 64, 0, 0, 0, (-6), 0))], [(64, (33, 67, 69, 0, 0, 0, 0)), (67, (4, 68, 0, 0, 0, 0, 0)), (68, (70, 69, 1, 0, 0, 0, 0)), (69, (4, 70, 0, 0, 0, 0, 0)), (70, (6, 71, 2, 0, 0, 0, 0)), (71, (1, 72, 2, 0, 0, 0, 0)), (72, (4, 73, 0, 0, 0, 4, 0)), (73, (36, 76, 226, 0, 0, 0, 0)), (76, (1, 77, 2, 0, 0, 0, 0)), (77, (1, 78, 1, 0, 0, 0, 0)), (78, (36, 81, 226, 0, 0, 0, 0)), (81, (4, 82, 0, 0, 0, 0, 0)), (82, (6, 83, 3, 0, 0, 0, 0)), (83, (4, 84, 0, 0, 0, 1, 0)), (84, (6, 86, 4, 0, 0, 0, 0)), (86, (1, 88, 4, 0, 0, 0, 0)), (88, (4, 90, 0, 0, 0, 18, 0)), (90, (36, 93, 210, 0, 0, 0, 0)), (93, (2, 94, 0, 0, 0, 0, 0)), (94, (4, 95, 0, 0, 0, 2, 0)), (95, (65, 98, 49, 1, 33, 0, 0)), (98, (1, 100, 4, 0, 0, 0, 0)), (100, (17, 101, 0, 0, 0, 0, 0)), (101, (4, 102, 0, 0, 0, 1, 0)), (102, (19, 103, 0, 0, 0, 0, 0)), (103, (40, 106, 119, 0, 0, 0, 0)), (106, (2, 107, 0, 0, 0, 0, 0)), (107, (1, 108, 2, 0, 0, 0, 0)), (108, (1, 110, 4, 0, 0, 0, 0)), (110, (65, 113, 57, 2, 84, 0, 0)), (113, (4, 114, 0, 0, 0, (-1), 0)), (114, (33, 117, 204, 0, 0, 0, 0)), (117, (4, 118, 0, 0, 0, 0, 0)), (118, (70, 119, 1, 0, 0, 0, 0)), (119, (2, 120, 0, 0, 0, 0, 0)), (120, (1, 121, 2, 0, 0, 0, 0)), (121, (1, 123, 4, 0, 0, 0, 0)), (123, (65, 126, 57, 2, 84, 0, 0)), (126, (6, 128, 5, 0, 0, 0, 0))], [(128, (1, 129, 3, 0, 0, 0, 0)), (129, (1, 131, 5, 0, 0, 0, 0)), (131, (10, 132, 0, 0, 0, 0, 0)), (132, (6, 133, 3, 0, 0, 0, 0)), (133, (2, 134, 0, 0, 0, 0, 0)), (134, (1, 135, 2, 0, 0, 0, 0)), (135, (1, 137, 5, 0, 0, 0, 0)), (137, (65, 140, 56, 2, 81, 0, 0)), (140, (1, 142, 4, 0, 0, 0, 0)), (142, (34, 145, 202, 0, 0, 0, 0)), (145, (2, 146, 0, 0, 0, 0, 0)), (146, (1, 147, 2, 0, 0, 0, 0)), (147, (1, 149, 5, 0, 0, 0, 0)), (149, (1, 151, 4, 0, 0, 0, 0)), (151, (10, 152, 0, 0, 0, 0, 0)), (152, (65, 155, 56, 2, 81, 0, 0)), (155, (1, 157, 4, 0, 0, 0, 0)), (157, (34, 160, 202, 0, 0, 0, 0)), (160, (2, 161, 0, 0, 0, 0, 0)), (161, (1, 163, 4, 0, 0, 0, 0)), (163, (65, 166, 54, 1, 87, 0, 0)), (166, (1, 168, 5, 0, 0, 0, 0)), (168, (17, 169, 0, 0, 0, 0, 0)), (169, (4, 170, 0, 0, 0, 1, 0)), (170, (19, 171, 0, 0, 0, 0, 0)), (171, (39, 174, 202, 0, 0, 0, 0)), (174, (2, 175, 0, 0, 0, 0, 0)), (175, (1, 176, 2, 0, 0, 0, 0)), (176, (1, 178, 4, 0, 0, 0, 0)), (178, (4, 179, 0, 0, 0, 0, 0)), (179, (65, 182, 79, 3, 90, 0, 0)), (182, (2, 183, 0, 0, 0, 0, 0)), (183, (1, 184, 2, 0, 0, 0, 0)), (184, (1, 186, 4, 0, 0, 0, 0)), (186, (4, 187, 0, 0, 0, 1, 0)), (187, (65, 190, 79, 3, 90, 0, 0)), (190, (10, 191, 0, 0, 0, 0, 0)), (191, (2, 192, 0, 0, 0, 0, 0))], [(192, (1, 193, 2, 0, 0, 0, 0)), (193, (1, 195, 4, 0, 0, 0, 0)), (195, (4, 196, 0, 0, 0, 2, 0)), (196, (65, 199, 79, 3, 90, 0, 0)), (199, (33, 202, 204, 0, 0, 0, 0)), (202, (4, 203, 0, 0, 0, 0, 0)), (203, (70, 204, 1, 0, 0, 0, 0)), (204, (9, 207, 4, 0, 0, 1, 0)), (207, (45, 210, 86, 0, 0, 0, 0)), (210, (1, 211, 3, 0, 0, 0, 0)), (211, (2, 212, 0, 0, 0, 0, 0)), (212, (65, 215, 52, 0, 69, 0, 0)), (215, (33, 218, 220, 0, 0, 0, 0)), (218, (4, 219, 0, 0, 0, 0, 0)), (219, (70, 220, 1, 0, 0, 0, 0)), (220, (9, 223, 2, 0, 0, 1, 0)), (223, (45, 226, 71, 0, 0, 0, 0)), (226, (4, 227, 0, 0, 0, 1, 0)), (227, (70, 228, 1, 0, 0, 0, 0))]]
def am_t98 : List (List (Nat × am_I)) := [[(0, (2, 1, 0, 0, 0, 0, 0)), (1, (4, 2, 0, 0, 0, 2, 0)), (2, (65, 5, 49, 1, 33, 0, 0)), (5, (66, 8, 96, 1, 93, 0, 0)), (8, (6, 9, 2, 0, 0, 0, 0)), (9, (2, 10, 0, 0, 0, 0, 0)), (10, (4, 11, 0, 0, 0, 0, 0)), (11, (65, 14, 49, 1, 33, 0, 0)), (14, (6, 15, 3, 0, 0, 0, 0)), (15, (2, 16, 0, 0, 0, 0, 0)), (16, (4, 17, 0, 0, 0, 4, 0)), (17, (65, 20, 49, 1, 33, 0, 0)), (20, (1, 21, 3, 0, 0, 0, 0)), (21, (2, 22, 0, 0, 0, 0, 0)), (22, (4, 23, 0, 0, 0, 1, 0)), (23, (65, 26, 49, 1, 33, 0, 0)), (26, (66, 29, 96, 1, 93, 0, 0)), (29, (11, 30, 0, 0, 0, 0, 0)), (30, (34, 33, 99, 0, 0, 0, 0)), (33, (1, 34, 1, 0, 0, 0, 0)), (34, (39, 37, 48, 0, 0, 0, 0)), (37, (2, 38, 0, 0, 0, 0, 0)), (38, (4, 39, 0, 0, 0, 4, 0)), (39, (65, 42, 49, 1, 33, 0, 0)), (42, (4, 43, 0, 0, 0, 2, 0)), (43, (1, 44, 2, 0, 0, 0, 0)), (44, (12, 45, 0, 0, 0, 0, 0)), (45, (34, 48, 99, 0, 0, 0, 0)), (48, (2, 49, 0, 0, 0, 0, 0)), (49, (1, 50, 1, 0, 0, 0, 0)), (50, (4, 51, 0, 0, 0, 0, 0)), (51, (65, 54, 56, 2, 81, 0, 0)), (54, (4, 56, 0, 0, 0, (-6), 0)), (56, (34, 59, 99, 0, 0, 0, 0)), (59, (2, 60, 0, 0, 0, 0, 0)), (60, (1, 61, 1, 0, 0, 0, 0)), (61, (65, 64, 67, 1, 96, 0, 0))], [(64, (4, 65, 0, 0, 0, (-1), 0)), (65, (34, 68, 99, 0, 0, 0, 0)), (68, (2, 69, 0, 0, 0, 0, 0)), (69, (1, 70, 1, 0, 0, 0, 0)), (70, (65, 73, 80, 1, 99, 0, 0)), (73, (4, 74, 0, 0, 0, (-1), 0)), (74, (34, 77, 99, 0, 0, 0, 0)), (77, (4, 78, 0, 0, 0, 2, 0)), (78, (2, 79, 0, 0, 0, 0, 0)), (79, (65, 82, 75, 0, 78, 0, 0)), (82, (12, 83, 0, 0, 0, 0, 0)), (83, (1, 84, 1, 0, 0, 0, 0)), (84, (35, 87, 99, 0, 0, 0, 0)), (87, (2, 88, 0, 0, 0, 0, 0)), (88, (65, 91, 75, 0, 78, 0, 0)), (91, (1, 92, 1, 0, 0, 0, 0)), (92, (37, 95, 99, 0, 0, 0, 0)), (95, (4, 96, 0, 0, 0, 1, 0)), (96, (45, 99, 100, 0, 0, 0, 0)), (99, (4, 100, 0, 0, 0, 0, 0)), (100, (70, 101, 1, 0, 0, 0, 0))]]
def am_t99 : List (List (Nat × am_I)) := [[(0, (4, 1, 0, 0, 0, 0, 0)), (1, (6, 2, 3, 0, 0, 0, 0)), (2, (1, 3, 3, 0, 0, 0, 0)), (3, (2, 4, 0, 0, 0, 0, 0)), (4, (4, 5, 0, 0, 0, 0, 0)), (5, (65, 8, 49, 1, 33, 0, 0)), (8, (36, 11, 46, 0, 0, 0, 0)), (11, (2, 12, 0, 0, 0, 0, 0)), (12, (1, 13, 1, 0, 0, 0, 0)), (13, (1, 14, 3, 0, 0, 0, 0)), (14, (65, 17, 56, 2, 81, 0, 0)), (17, (2, 18, 0, 0, 0, 0, 0)), (18, (1, 19, 2, 0, 0, 0, 0)), (19, (1, 20, 3, 0, 0, 0, 0)), (20, (65, 23, 56, 2, 81, 0, 0)), (23, (33, 26, 40, 0, 0, 0, 0)), (26, (2, 27, 0, 0, 0, 0, 0)), (27, (1, 28, 1, 0, 0, 0, 0)), (28, (1, 29, 3, 0, 0, 0, 0)), (29, (65, 32, 56, 2, 81, 0, 0)), (32, (2, 33, 0, 0, 0, 0, 0)), (33, (1, 34, 2, 0, 0, 0, 0)), (34, (1, 35, 3, 0, 0, 0, 0)), (35, (65, 38, 56, 2, 81, 0, 0)), (38, (11, 39, 0, 0, 0, 0, 0)), (39, (70, 40, 0, 0, 0, 0, 0)), (40, (9, 43, 3, 0, 0, 1, 0)), (43, (45, 46, 2, 0, 0, 0, 0)), (46, (4, 47, 0, 0, 0, 0, 0)), (47, (70, 48, 0, 0, 0, 0, 0))]]
def am_t100 : List (List (Nat × am_I)) := [[(0, (1, 1, 2, 0, 0, 0, 0)), (1, (1, 2, 1, 0, 0, 0, 0)), (2, (35, 5, 39, 0, 0, 0, 0)), (5, (2, 6, 0, 0, 0, 0, 0)), (6, (1, 7, 2, 0, 0, 0, 0)), (7, (65, 10, 67, 1, 96, 0, 0)), (10, (4, 11, 0, 0, 0, (-1), 0)), (11, (34, 14, 37, 0, 0, 0, 0)), (14, (2, 15, 0, 0, 0, 0, 0)), (15, (1, 16, 2, 0, 0, 0, 0)), (16, (65, 19, 74, 1, 102, 0, 0)), (19, (4, 20, 0, 0, 0, (-1), 0)), (20, (34, 23, 37, 0, 0, 0, 0)), (23, (2, 24, 0, 0, 0, 0, 0)), (24, (1, 25, 2, 0, 0, 0, 0)), (25, (4, 26, 0, 0, 0, (-1), 0)), (26, (65, 29, 77, 2, 105, 0, 0)), (29, (4, 30, 0, 0, 0, (-1), 0)), (30, (34, 33, 37, 0, 0, 0, 0)), (33, (4, 34, 0, 0, 0, 1, 0)), (34, (45, 37, 38, 0, 0, 0, 0)), (37, (4, 38, 0, 0, 0, 0, 0)), (38, (70, 39, 1, 0, 0, 0, 0)), (39, (1, 40, 2, 0, 0, 0, 0)), (40, (44, 43, 56, 0, 0, 0, 0)), (43, (2, 44, 0, 0, 0, 0, 0)), (44, (1, 45, 2, 0, 0, 0, 0)), (45, (4, 46, 0, 0, 0, 1, 0)), (46, (11, 47, 0, 0, 0, 0, 0)), (47, (1, 48, 2, 0, 0, 0, 0)), (48, (66, 51, 99, 3, 108, 0, 0)), (51, (41, 54, 56, 0, 0, 0, 0)), (54, (4, 55, 0, 0, 0, 0, 0)), (55, (70, 56, 1, 0, 0, 0, 0)), (56, (4, 57, 0, 0, 0, 0, 0)), (57, (6, 58, 3, 0, 0, 0, 0)), (58, (4, 59, 0, 0, 0, 0, 0)), (59, (6, 61, 4, 0, 0, 0, 0)), (61, (1, 63, 4, 0, 0, 0, 0)), (63, (2, 64, 0, 0, 0, 0, 0))], [(64, (4, 65, 0, 0, 0, 0, 0)), (65, (65, 68, 49, 1, 33, 0, 0)), (68, (36, 71, 132, 0, 0, 0, 0)), (71, (2, 72, 0, 0, 0, 0, 0)), (72, (1, 73, 2, 0, 0, 0, 0)), (73, (1, 75, 4, 0, 0, 0, 0)), (75, (65, 78, 56, 2, 81, 0, 0)), (78, (6, 80, 5, 0, 0, 0, 0)), (80, (1, 82, 5, 0, 0, 0, 0)), (82, (40, 85, 92, 0, 0, 0, 0)), (85, (1, 86, 3, 0, 0, 0, 0)), (86, (4, 87, 0, 0, 0, 1, 0)), (87, (1, 89, 4, 0, 0, 0, 0)), (89, (16, 90, 0, 0, 0, 0, 0)), (90, (20, 91, 0, 0, 0, 0, 0)), (91, (6, 92, 3, 0, 0, 0, 0)), (92, (1, 94, 5, 0, 0, 0, 0)), (94, (44, 97, 126, 0, 0, 0, 0)), (97, (2, 98, 0, 0, 0, 0, 0)), (98, (4, 99, 0, 0, 0, 2, 0)), (99, (65, 102, 49, 1, 33, 0, 0)), (102, (1, 104, 5, 0, 0, 0, 0)), (104, (17, 105, 0, 0, 0, 0, 0)), (105, (4, 106, 0, 0, 0, 1, 0)), (106, (19, 107, 0, 0, 0, 0, 0)), (107, (39, 110, 124, 0, 0, 0, 0)), (110, (2, 111, 0, 0, 0, 0, 0)), (111, (1, 113, 4, 0, 0, 0, 0)), (113, (65, 116, 59, 1, 112, 0, 0)), (116, (1, 118, 5, 0, 0, 0, 0)), (118, (17, 119, 0, 0, 0, 0, 0)), (119, (4, 120, 0, 0, 0, 1, 0)), (120, (19, 121, 0, 0, 0, 0, 0)), (121, (40, 124, 126, 0, 0, 0, 0)), (124, (4, 125, 0, 0, 0, 0, 0)), (125, (70, 126, 1, 0, 0, 0, 0)), (126, (9, 129, 4, 0, 0, 1, 0))], [(129, (45, 132, 61, 0, 0, 0, 0)), (132, (2, 133, 0, 0, 0, 0, 0)), (133, (4, 134, 0, 0, 0, 0, 0)), (134, (65, 137, 49, 1, 33, 0, 0)), (137, (6, 139, 4, 0, 0, 0, 0)), (139, (1, 140, 3, 0, 0, 0, 0)), (140, (2, 141, 0, 0, 0, 0, 0)), (141, (4, 142, 0, 0, 0, 1, 0)), (142, (65, 145, 49, 1, 33, 0, 0)), (145, (34, 148, 211, 0, 0, 0, 0)), (148, (2, 149, 0, 0, 0, 0, 0)), (149, (1, 150, 2, 0, 0, 0, 0)), (150, (65, 153, 67, 1, 96, 0, 0)), (153, (1, 155, 4, 0, 0, 0, 0)), (155, (34, 158, 211, 0, 0, 0, 0)), (158, (2, 159, 0, 0, 0, 0, 0)), (159, (65, 162, 63, 0, 115, 0, 0)), (162, (4, 164, 0, 0, 0, (-6), 0)), (164, (34, 167, 211, 0, 0, 0, 0)), (167, (2, 168, 0, 0, 0, 0, 0)), (168, (4, 169, 0, 0, 0, 0, 0)), (169, (65, 172, 64, 1, 118, 0, 0)), (172, (40, 175, 211, 0, 0, 0, 0)), (175, (2, 176, 0, 0, 0, 0, 0)), (176, (4, 177, 0, 0, 0, 1, 0)), (177, (65, 180, 64, 1, 118, 0, 0)), (180, (4, 182, 0, 0, 0, (-6), 0)), (182, (34, 185, 211, 0, 0, 0, 0)), (185, (2, 186, 0, 0, 0, 0, 0)), (186, (65, 189, 65, 0, 121, 0, 0)), (189, (1, 190, 2, 0, 0, 0, 0)), (190, (34, 193, 211, 0, 0, 0, 0))], [(193, (2, 194, 0, 0, 0, 0, 0)), (194, (4, 195, 0, 0, 0, (-1), 0)), (195, (65, 198, 66, 1, 124, 0, 0)), (198, (4, 199, 0, 0, 0, 1, 0)), (199, (34, 202, 211, 0, 0, 0, 0)), (202, (2, 203, 0, 0, 0, 0, 0)), (203, (4, 204, 0, 0, 0, 0, 0)), (204, (65, 207, 66, 1, 124, 0, 0)), (207, (1, 208, 2, 0, 0, 0, 0)), (208, (33, 211, 213, 0, 0, 0, 0)), (211, (4, 212, 0, 0, 0, 0, 0)), (212, (70, 213, 1, 0, 0, 0, 0)), (213, (2, 214, 0, 0, 0, 0, 0)), (214, (1, 215, 2, 0, 0, 0, 0)), (215, (65, 218, 74, 1, 102, 0, 0)), (218, (6, 220, 5, 0, 0, 0, 0)), (220, (1, 222, 5, 0, 0, 0, 0)), (222, (41, 225, 266, 0, 0, 0, 0)), (225, (4, 226, 0, 0, 0, 0, 0)), (226, (6, 228, 6, 0, 0, 0, 0)), (228, (1, 230, 6, 0, 0, 0, 0)), (230, (1, 232, 4, 0, 0, 0, 0)), (232, (36, 235, 266, 0, 0, 0, 0)), (235, (2, 236, 0, 0, 0, 0, 0)), (236, (1, 238, 5, 0, 0, 0, 0)), (238, (1, 240, 6, 0, 0, 0, 0)), (240, (65, 243, 56, 2, 81, 0, 0)), (243, (2, 244, 0, 0, 0, 0, 0)), (244, (1, 245, 2, 0, 0, 0, 0)), (245, (1, 247, 4, 0, 0, 0, 0)), (247, (4, 248, 0, 0, 0, 1, 0)), (248, (11, 249, 0, 0, 0, 0, 0)), (249, (1, 251, 6, 0, 0, 0, 0)), (251, (11, 252, 0, 0, 0, 0, 0)), (252, (65, 255, 56, 2, 81, 0, 0)), (255, (33, 258, 260, 0, 0, 0, 0))], [(258, (4, 259, 0, 0, 0, 0, 0)), (259, (70, 260, 1, 0, 0, 0, 0)), (260, (9, 263, 6, 0, 0, 1, 0)), (263, (45, 266, 228, 0, 0, 0, 0)), (266, (1, 268, 5, 0, 0, 0, 0)), (268, (41, 271, 281, 0, 0, 0, 0)), (271, (2, 272, 0, 0, 0, 0, 0)), (272, (1, 274, 5, 0, 0, 0, 0)), (274, (65, 277, 74, 1, 102, 0, 0)), (277, (1, 278, 2, 0, 0, 0, 0)), (278, (34, 281, 285, 0, 0, 0, 0)), (281, (4, 282, 0, 0, 0, 1, 0)), (282, (45, 285, 286, 0, 0, 0, 0)), (285, (4, 286, 0, 0, 0, 0, 0)), (286, (70, 287, 1, 0, 0, 0, 0))]]
def am_t101 : List (List (Nat × am_I)) := [[(0, (4, 1, 0, 0, 0, 0, 0)), (1, (6, 2, 3, 0, 0, 0, 0)), (2, (4, 3, 0, 0, 0, 0, 0)), (3, (6, 5, 4, 0, 0, 0, 0)), (5, (4, 6, 0, 0, 0, 0, 0)), (6, (6, 8, 5, 0, 0, 0, 0)), (8, (1, 10, 5, 0, 0, 0, 0)), (10, (4, 12, 0, 0, 0, 18, 0)), (12, (36, 15, 54, 0, 0, 0, 0)), (15, (2, 16, 0, 0, 0, 0, 0)), (16, (1, 17, 2, 0, 0, 0, 0)), (17, (1, 19, 5, 0, 0, 0, 0)), (19, (65, 22, 58, 2, 127, 0, 0)), (22, (6, 24, 6, 0, 0, 0, 0)), (24, (1, 25, 3, 0, 0, 0, 0)), (25, (1, 27, 6, 0, 0, 0, 0)), (27, (10, 28, 0, 0, 0, 0, 0)), (28, (6, 29, 3, 0, 0, 0, 0)), (29, (1, 31, 5, 0, 0, 0, 0)), (31, (44, 34, 48, 0, 0, 0, 0)), (34, (1, 36, 6, 0, 0, 0, 0)), (36, (44, 39, 48, 0, 0, 0, 0)), (39, (1, 41, 4, 0, 0, 0, 0)), (41, (4, 42, 0, 0, 0, 1, 0)), (42, (1, 44, 5, 0, 0, 0, 0)), (44, (16, 45, 0, 0, 0, 0, 0)), (45, (20, 46, 0, 0, 0, 0, 0)), (46, (6, 48, 4, 0, 0, 0, 0)), (48, (9, 51, 5, 0, 0, 1, 0)), (51, (45, 54, 8, 0, 0, 0, 0)), (54, (1, 55, 3, 0, 0, 0, 0)), (55, (1, 56, 1, 0, 0, 0, 0)), (56, (34, 59, 94, 0, 0, 0, 0)), (59, (2, 60, 0, 0, 0, 0, 0)), (60, (1, 61, 2, 0, 0, 0, 0)), (61, (65, 64, 59, 1, 112, 0, 0))], [(64, (1, 66, 4, 0, 0, 0, 0)), (66, (34, 69, 94, 0, 0, 0, 0)), (69, (2, 70, 0, 0, 0, 0, 0)), (70, (65, 73, 60, 0, 75, 0, 0)), (73, (1, 74, 2, 0, 0, 0, 0)), (74, (17, 75, 0, 0, 0, 0, 0)), (75, (4, 76, 0, 0, 0, 1, 0)), (76, (19, 77, 0, 0, 0, 0, 0)), (77, (1, 79, 4, 0, 0, 0, 0)), (79, (66, 82, 96, 1, 93, 0, 0)), (82, (4, 83, 0, 0, 0, 1, 0)), (83, (34, 86, 90, 0, 0, 0, 0)), (86, (4, 87, 0, 0, 0, 1, 0)), (87, (45, 90, 91, 0, 0, 0, 0)), (90, (4, 91, 0, 0, 0, 0, 0)), (91, (33, 94, 96, 0, 0, 0, 0)), (94, (4, 95, 0, 0, 0, 0, 0)), (95, (70, 96, 1, 0, 0, 0, 0)), (96, (4, 97, 0, 0, 0, 1, 0)), (97, (6, 99, 5, 0, 0, 0, 0)), (99, (1, 101, 5, 0, 0, 0, 0)), (101, (4, 103, 0, 0, 0, 18, 0)), (103, (36, 106, 153, 0, 0, 0, 0)), (106, (2, 107, 0, 0, 0, 0, 0)), (107, (1, 108, 2, 0, 0, 0, 0)), (108, (1, 110, 5, 0, 0, 0, 0)), (110, (65, 113, 58, 2, 127, 0, 0)), (113, (6, 115, 6, 0, 0, 0, 0)), (115, (2, 116, 0, 0, 0, 0, 0)), (116, (1, 117, 2, 0, 0, 0, 0)), (117, (1, 119, 5, 0, 0, 0, 0)), (119, (65, 122, 48, 2, 130, 0, 0)), (122, (40, 125, 145, 0, 0, 0, 0)), (125, (2, 126, 0, 0, 0, 0, 0)), (126, (65, 129, 55, 0, 41, 0, 0))], [(129, (1, 131, 6, 0, 0, 0, 0)), (131, (34, 134, 145, 0, 0, 0, 0)), (134, (2, 135, 0, 0, 0, 0, 0)), (135, (1, 136, 2, 0, 0, 0, 0)), (136, (4, 137, 0, 0, 0, 0, 0)), (137, (65, 140, 48, 2, 130, 0, 0)), (140, (1, 142, 5, 0, 0, 0, 0)), (142, (33, 145, 147, 0, 0, 0, 0)), (145, (4, 146, 0, 0, 0, 0, 0)), (146, (70, 147, 1, 0, 0, 0, 0)), (147, (9, 150, 5, 0, 0, 1, 0)), (150, (45, 153, 99, 0, 0, 0, 0)), (153, (2, 154, 0, 0, 0, 0, 0)), (154, (65, 157, 55, 0, 41, 0, 0)), (157, (1, 158, 1, 0, 0, 0, 0)), (158, (34, 161, 165, 0, 0, 0, 0)), (161, (4, 162, 0, 0, 0, 1, 0)), (162, (45, 165, 166, 0, 0, 0, 0)), (165, (4, 166, 0, 0, 0, 0, 0)), (166, (70, 167, 1, 0, 0, 0, 0))]]
def am_t102 : List (List (Nat × am_I)) := [[(0, (4, 1, 0, 0, 0, 2, 0)), (1, (2, 2, 0, 0, 0, 0, 0)), (2, (4, 3, 0, 0, 0, 2, 0)), (3, (65, 6, 49, 1, 33, 0, 0)), (6, (66, 9, 96, 1, 93, 0, 0)), (9, (12, 10, 0, 0, 0, 0, 0)), (10, (4, 11, 0, 0, 0, 1, 0)), (11, (10, 12, 0, 0, 0, 0, 0)), (12, (6, 13, 2, 0, 0, 0, 0)), (13, (2, 14, 0, 0, 0, 0, 0)), (14, (65, 17, 81, 0, 133, 0, 0)), (17, (6, 18, 3, 0, 0, 0, 0)), (18, (4, 19, 0, 0, 0, 0, 0)), (19, (6, 21, 4, 0, 0, 0, 0)), (21, (1, 23, 4, 0, 0, 0, 0)), (23, (1, 24, 2, 0, 0, 0, 0)), (24, (36, 27, 54, 0, 0, 0, 0)), (27, (1, 28, 3, 0, 0, 0, 0)), (28, (1, 30, 4, 0, 0, 0, 0)), (30, (17, 31, 0, 0, 0, 0, 0)), (31, (4, 32, 0, 0, 0, 1, 0)), (32, (19, 33, 0, 0, 0, 0, 0)), (33, (1, 34, 3, 0, 0, 0, 0)), (34, (1, 35, 2, 0, 0, 0, 0)), (35, (4, 36, 0, 0, 0, 1, 0)), (36, (11, 37, 0, 0, 0, 0, 0)), (37, (1, 39, 4, 0, 0, 0, 0)), (39, (11, 40, 0, 0, 0, 0, 0)), (40, (17, 41, 0, 0, 0, 0, 0)), (41, (4, 42, 0, 0, 0, 1, 0)), (42, (19, 43, 0, 0, 0, 0, 0)), (43, (33, 46, 48, 0, 0, 0, 0)), (46, (4, 47, 0, 0, 0, 0, 0)), (47, (70, 48, 1, 0, 0, 0, 0)), (48, (9, 51, 4, 0, 0, 1, 0)), (51, (45, 54, 21, 0, 0, 0, 0)), (54, (2, 55, 0, 0, 0, 0, 0)), (55, (65, 58, 82, 0, 136, 0, 0)), (58, (2, 59, 0, 0, 0, 0, 0)), (59, (4, 60, 0, 0, 0, 2, 0)), (60, (65, 63, 49, 1, 33, 0, 0)), (63, (4, 64, 0, 0, 0, (-1), 0))], [(64, (21, 65, 0, 0, 0, 0, 0)), (65, (19, 66, 0, 0, 0, 0, 0)), (66, (40, 69, 75, 0, 0, 0, 0)), (69, (1, 70, 3, 0, 0, 0, 0)), (70, (1, 71, 2, 0, 0, 0, 0)), (71, (17, 72, 0, 0, 0, 0, 0)), (72, (39, 75, 77, 0, 0, 0, 0)), (75, (4, 76, 0, 0, 0, 0, 0)), (76, (70, 77, 1, 0, 0, 0, 0)), (77, (2, 78, 0, 0, 0, 0, 0)), (78, (4, 79, 0, 0, 0, 1, 0)), (79, (65, 82, 49, 1, 33, 0, 0)), (82, (40, 85, 96, 0, 0, 0, 0)), (85, (1, 86, 1, 0, 0, 0, 0)), (86, (39, 89, 96, 0, 0, 0, 0)), (89, (1, 90, 3, 0, 0, 0, 0)), (90, (4, 91, 0, 0, 0, 1, 0)), (91, (19, 92, 0, 0, 0, 0, 0)), (92, (4, 93, 0, 0, 0, 1, 0)), (93, (34, 96, 100, 0, 0, 0, 0)), (96, (4, 97, 0, 0, 0, 1, 0)), (97, (45, 100, 101, 0, 0, 0, 0)), (100, (4, 101, 0, 0, 0, 0, 0)), (101, (70, 102, 1, 0, 0, 0, 0))]]
def am_t103 : List (List (Nat × am_I)) := [[(0, (1, 1, 2, 0, 0, 0, 0)), (1, (1, 2, 1, 0, 0, 0, 0)), (2, (35, 5, 21, 0, 0, 0, 0)), (5, (2, 6, 0, 0, 0, 0, 0)), (6, (1, 7, 2, 0, 0, 0, 0)), (7, (1, 8, 2, 0, 0, 0, 0)), (8, (65, 11, 78, 2, 139, 0, 0)), (11, (4, 12, 0, 0, 0, (-1), 0)), (12, (34, 15, 19, 0, 0, 0, 0)), (15, (4, 16, 0, 0, 0, 1, 0)), (16, (45, 19, 20, 0, 0, 0, 0)), (19, (4, 20, 0, 0, 0, 0, 0)), (20, (70, 21, 1, 0, 0, 0, 0)), (21, (2, 22, 0, 0, 0, 0, 0)), (22, (1, 23, 2, 0, 0, 0, 0)), (23, (4, 24, 0, 0, 0, (-1), 0)), (24, (65, 27, 77, 2, 105, 0, 0)), (27, (6, 28, 3, 0, 0, 0, 0)), (28, (4, 29, 0, 0, 0, (-1), 0)), (29, (6, 31, 4, 0, 0, 0, 0)), (31, (4, 32, 0, 0, 0, 0, 0)), (32, (6, 34, 5, 0, 0, 0, 0)), (34, (1, 36, 5, 0, 0, 0, 0)), (36, (1, 37, 3, 0, 0, 0, 0)), (37, (36, 40, 183, 0, 0, 0, 0)), (40, (2, 41, 0, 0, 0, 0, 0)), (41, (1, 42, 2, 0, 0, 0, 0)), (42, (1, 44, 5, 0, 0, 0, 0)), (44, (65, 47, 77, 2, 105, 0, 0)), (47, (6, 49, 6, 0, 0, 0, 0)), (49, (1, 51, 6, 0, 0, 0, 0)), (51, (1, 53, 4, 0, 0, 0, 0)), (53, (38, 56, 90, 0, 0, 0, 0)), (56, (1, 58, 6, 0, 0, 0, 0)), (58, (1, 59, 1, 0, 0, 0, 0)), (59, (36, 62, 90, 0, 0, 0, 0)), (62, (1, 64, 6, 0, 0, 0, 0))], [(64, (1, 65, 2, 0, 0, 0, 0)), (65, (33, 68, 90, 0, 0, 0, 0)), (68, (2, 69, 0, 0, 0, 0, 0)), (69, (1, 70, 2, 0, 0, 0, 0)), (70, (1, 72, 6, 0, 0, 0, 0)), (72, (65, 75, 76, 2, 142, 0, 0)), (75, (4, 76, 0, 0, 0, 3, 0)), (76, (34, 79, 90, 0, 0, 0, 0)), (79, (2, 80, 0, 0, 0, 0, 0)), (80, (1, 82, 6, 0, 0, 0, 0)), (82, (1, 83, 2, 0, 0, 0, 0)), (83, (65, 86, 76, 2, 142, 0, 0)), (86, (4, 87, 0, 0, 0, 3, 0)), (87, (33, 90, 92, 0, 0, 0, 0)), (90, (4, 91, 0, 0, 0, 0, 0)), (91, (70, 92, 1, 0, 0, 0, 0)), (92, (1, 94, 6, 0, 0, 0, 0)), (94, (6, 96, 4, 0, 0, 0, 0)), (96, (4, 97, 0, 0, 0, 0, 0)), (97, (6, 99, 7, 0, 0, 0, 0)), (99, (4, 100, 0, 0, 0, 0, 0)), (100, (6, 102, 8, 0, 0, 0, 0)), (102, (1, 104, 8, 0, 0, 0, 0)), (104, (2, 105, 0, 0, 0, 0, 0)), (105, (1, 107, 6, 0, 0, 0, 0)), (107, (4, 108, 0, 0, 0, (-1), 0)), (108, (65, 111, 77, 2, 105, 0, 0)), (111, (36, 114, 142, 0, 0, 0, 0)), (114, (1, 116, 7, 0, 0, 0, 0)), (116, (2, 117, 0, 0, 0, 0, 0)), (117, (1, 119, 6, 0, 0, 0, 0)), (119, (1, 121, 8, 0, 0, 0, 0)), (121, (65, 124, 77, 2, 105, 0, 0)), (124, (1, 125, 2, 0, 0, 0, 0)), (125, (34, 128, 132, 0, 0, 0, 0))], [(128, (4, 129, 0, 0, 0, 1, 0)), (129, (45, 132, 133, 0, 0, 0, 0)), (132, (4, 133, 0, 0, 0, 0, 0)), (133, (20, 134, 0, 0, 0, 0, 0)), (134, (6, 136, 7, 0, 0, 0, 0)), (136, (9, 139, 8, 0, 0, 1, 0)), (139, (45, 142, 102, 0, 0, 0, 0)), (142, (1, 144, 7, 0, 0, 0, 0)), (144, (40, 147, 149, 0, 0, 0, 0)), (147, (4, 148, 0, 0, 0, 0, 0)), (148, (70, 149, 1, 0, 0, 0, 0)), (149, (1, 150, 2, 0, 0, 0, 0)), (150, (4, 153, 0, 0, 0, 300, 0)), (153, (36, 156, 177, 0, 0, 0, 0)), (156, (1, 158, 6, 0, 0, 0, 0)), (158, (4, 161, 0, 0, 0, 300, 0)), (161, (36, 164, 177, 0, 0, 0, 0)), (164, (2, 165, 0, 0, 0, 0, 0)), (165, (1, 166, 2, 0, 0, 0, 0)), (166, (1, 168, 6, 0, 0, 0, 0)), (168, (65, 171, 78, 2, 139, 0, 0)), (171, (4, 172, 0, 0, 0, 1, 0)), (172, (33, 175, 177, 0, 0, 0, 0)), (175, (4, 176, 0, 0, 0, 0, 0)), (176, (70, 177, 1, 0, 0, 0, 0)), (177, (9, 180, 5, 0, 0, 1, 0)), (180, (45, 183, 34, 0, 0, 0, 0)), (183, (2, 184, 0, 0, 0, 0, 0)), (184, (1, 185, 2, 0, 0, 0, 0)), (185, (1, 186, 3, 0, 0, 0, 0)), (186, (65, 189, 77, 2, 105, 0, 0)), (189, (4, 191, 0, 0, 0, (-6), 0)), (191, (34, 194, 237, 0, 0, 0, 0))], [(194, (2, 195, 0, 0, 0, 0, 0)), (195, (1, 196, 2, 0, 0, 0, 0)), (196, (1, 197, 2, 0, 0, 0, 0)), (197, (65, 200, 76, 2, 142, 0, 0)), (200, (40, 203, 237, 0, 0, 0, 0)), (203, (1, 204, 2, 0, 0, 0, 0)), (204, (4, 207, 0, 0, 0, 300, 0)), (207, (35, 210, 224, 0, 0, 0, 0)), (210, (2, 211, 0, 0, 0, 0, 0)), (211, (1, 212, 2, 0, 0, 0, 0)), (212, (4, 213, 0, 0, 0, 0, 0)), (213, (65, 216, 78, 2, 139, 0, 0)), (216, (4, 218, 0, 0, 0, (-2), 0)), (218, (34, 221, 237, 0, 0, 0, 0)), (221, (45, 224, 233, 0, 0, 0, 0)), (224, (2, 225, 0, 0, 0, 0, 0)), (225, (1, 226, 2, 0, 0, 0, 0)), (226, (1, 227, 2, 0, 0, 0, 0)), (227, (65, 230, 78, 2, 139, 0, 0)), (230, (40, 233, 237, 0, 0, 0, 0)), (233, (4, 234, 0, 0, 0, 1, 0)), (234, (45, 237, 238, 0, 0, 0, 0)), (237, (4, 238, 0, 0, 0, 0, 0)), (238, (70, 239, 1, 0, 0, 0, 0))]]
def am_t104 : List (List (Nat × am_I)) := [[(0, (1, 1, 1, 0, 0, 0, 0)), (1, (40, 4, 6, 0, 0, 0, 0)), (4, (4, 5, 0, 0, 0, 1, 0)), (5, (70, 6, 1, 0, 0, 0, 0)), (6, (1, 7, 2, 0, 0, 0, 0)), (7, (1, 8, 1, 0, 0, 0, 0)), (8, (4, 11, 0, 0, 0, 300, 0)), (11, (36, 14, 18, 0, 0, 0, 0)), (14, (1, 15, 1, 0, 0, 0, 0)), (15, (45, 18, 21, 0, 0, 0, 0)), (18, (4, 21, 0, 0, 0, 300, 0)), (21, (66, 24, 95, 2, 22, 0, 0)), (24, (6, 25, 3, 0, 0, 0, 0)), (25, (1, 26, 2, 0, 0, 0, 0)), (26, (4, 28, 0, 0, 0, 9, 0)), (28, (17, 29, 0, 0, 0, 0, 0)), (29, (1, 30, 1, 0, 0, 0, 0)), (30, (4, 33, 0, 0, 0, 300, 0)), (33, (36, 36, 40, 0, 0, 0, 0)), (36, (1, 37, 1, 0, 0, 0, 0)), (37, (45, 40, 43, 0, 0, 0, 0)), (40, (4, 43, 0, 0, 0, 300, 0)), (43, (66, 46, 95, 2, 22, 0, 0)), (46, (6, 48, 4, 0, 0, 0, 0)), (48, (2, 49, 0, 0, 0, 0, 0)), (49, (1, 50, 3, 0, 0, 0, 0)), (50, (1, 52, 4, 0, 0, 0, 0)), (52, (65, 55, 78, 2, 139, 0, 0)), (55, (6, 57, 5, 0, 0, 0, 0)), (57, (1, 59, 5, 0, 0, 0, 0)), (59, (2, 60, 0, 0, 0, 0, 0)), (60, (1, 62, 4, 0, 0, 0, 0)), (62, (1, 63, 3, 0, 0, 0, 0)), (63, (65, 66, 78, 2, 139, 0, 0))], [(66, (33, 69, 71, 0, 0, 0, 0)), (69, (4, 70, 0, 0, 0, 0, 0)), (70, (70, 71, 1, 0, 0, 0, 0)), (71, (2, 72, 0, 0, 0, 0, 0)), (72, (1, 73, 3, 0, 0, 0, 0)), (73, (1, 75, 4, 0, 0, 0, 0)), (75, (65, 78, 76, 2, 142, 0, 0)), (78, (6, 80, 6, 0, 0, 0, 0)), (80, (1, 82, 5, 0, 0, 0, 0)), (82, (4, 84, 0, 0, 0, (-6), 0)), (84, (34, 87, 101, 0, 0, 0, 0)), (87, (1, 88, 3, 0, 0, 0, 0)), (88, (1, 90, 4, 0, 0, 0, 0)), (90, (33, 93, 97, 0, 0, 0, 0)), (93, (4, 94, 0, 0, 0, 1, 0)), (94, (45, 97, 151, 0, 0, 0, 0)), (97, (4, 98, 0, 0, 0, 0, 0)), (98, (45, 101, 151, 0, 0, 0, 0)), (101, (4, 102, 0, 0, 0, 3, 0)), (102, (1, 104, 5, 0, 0, 0, 0)), (104, (12, 105, 0, 0, 0, 0, 0)), (105, (1, 107, 6, 0, 0, 0, 0)), (107, (35, 110, 150, 0, 0, 0, 0)), (110, (1, 112, 5, 0, 0, 0, 0)), (112, (40, 115, 119, 0, 0, 0, 0)), (115, (4, 116, 0, 0, 0, 1, 0)), (116, (45, 119, 120, 0, 0, 0, 0)), (119, (4, 120, 0, 0, 0, 0, 0)), (120, (1, 121, 3, 0, 0, 0, 0)), (121, (1, 123, 4, 0, 0, 0, 0)), (123, (34, 126, 130, 0, 0, 0, 0)), (126, (4, 127, 0, 0, 0, 1, 0)), (127, (45, 130, 131, 0, 0, 0, 0))], [(130, (4, 131, 0, 0, 0, 0, 0)), (131, (34, 134, 150, 0, 0, 0, 0)), (134, (1, 136, 5, 0, 0, 0, 0)), (136, (4, 137, 0, 0, 0, 1, 0)), (137, (34, 140, 146, 0, 0, 0, 0)), (140, (1, 142, 6, 0, 0, 0, 0)), (142, (4, 143, 0, 0, 0, 3, 0)), (143, (34, 146, 150, 0, 0, 0, 0)), (146, (4, 147, 0, 0, 0, 1, 0)), (147, (45, 150, 151, 0, 0, 0, 0)), (150, (4, 151, 0, 0, 0, 0, 0)), (151, (70, 152, 1, 0, 0, 0, 0))]]
def am_t105 : List (List (Nat × am_I)) := [[(0, (2, 1, 0, 0, 0, 0, 0)), (1, (4, 2, 0, 0, 0, 0, 0)), (2, (65, 5, 49, 1, 33, 0, 0)), (5, (6, 6, 3, 0, 0, 0, 0)), (6, (2, 7, 0, 0, 0, 0, 0)), (7, (4, 8, 0, 0, 0, 1, 0)), (8, (65, 11, 49, 1, 33, 0, 0)), (11, (6, 13, 4, 0, 0, 0, 0)), (13, (1, 14, 2, 0, 0, 0, 0)), (14, (1, 15, 3, 0, 0, 0, 0)), (15, (66, 18, 95, 2, 22, 0, 0)), (18, (6, 20, 5, 0, 0, 0, 0)), (20, (1, 21, 1, 0, 0, 0, 0)), (21, (44, 24, 40, 0, 0, 0, 0)), (24, (2, 25, 0, 0, 0, 0, 0)), (25, (1, 26, 2, 0, 0, 0, 0)), (26, (4, 27, 0, 0, 0, 5, 0)), (27, (17, 28, 0, 0, 0, 0, 0)), (28, (1, 29, 1, 0, 0, 0, 0)), (29, (66, 32, 95, 2, 22, 0, 0)), (32, (1, 34, 5, 0, 0, 0, 0)), (34, (65, 37, 56, 2, 81, 0, 0)), (37, (45, 40, 41, 0, 0, 0, 0)), (40, (4, 41, 0, 0, 0, 0, 0)), (41, (6, 43, 6, 0, 0, 0, 0)), (43, (2, 44, 0, 0, 0, 0, 0)), (44, (1, 46, 5, 0, 0, 0, 0)), (46, (1, 48, 6, 0, 0, 0, 0)), (48, (65, 51, 48, 2, 130, 0, 0)), (51, (39, 54, 56, 0, 0, 0, 0)), (54, (4, 55, 0, 0, 0, 0, 0)), (55, (70, 56, 1, 0, 0, 0, 0)), (56, (2, 57, 0, 0, 0, 0, 0)), (57, (65, 60, 55, 0, 41, 0, 0)), (60, (6, 62, 7, 0, 0, 0, 0)), (62, (1, 63, 1, 0, 0, 0, 0)), (63, (44, 66, 72, 0, 0, 0, 0))], [(66, (1, 68, 7, 0, 0, 0, 0)), (68, (4, 69, 0, 0, 0, 1, 0)), (69, (35, 72, 114, 0, 0, 0, 0)), (72, (1, 74, 7, 0, 0, 0, 0)), (74, (1, 75, 1, 0, 0, 0, 0)), (75, (37, 78, 114, 0, 0, 0, 0)), (78, (2, 79, 0, 0, 0, 0, 0)), (79, (4, 80, 0, 0, 0, 0, 0)), (80, (65, 83, 85, 1, 145, 0, 0)), (83, (1, 84, 3, 0, 0, 0, 0)), (84, (34, 87, 114, 0, 0, 0, 0)), (87, (2, 88, 0, 0, 0, 0, 0)), (88, (4, 89, 0, 0, 0, 1, 0)), (89, (4, 90, 0, 0, 0, 1, 0)), (90, (4, 91, 0, 0, 0, 0, 0)), (91, (65, 94, 46, 3, 26, 0, 0)), (94, (4, 95, 0, 0, 0, 2, 0)), (95, (34, 98, 114, 0, 0, 0, 0)), (98, (2, 99, 0, 0, 0, 0, 0)), (99, (65, 102, 55, 0, 41, 0, 0)), (102, (4, 103, 0, 0, 0, 1, 0)), (103, (34, 106, 114, 0, 0, 0, 0)), (106, (2, 107, 0, 0, 0, 0, 0)), (107, (4, 108, 0, 0, 0, 3, 0)), (108, (65, 111, 49, 1, 33, 0, 0)), (111, (39, 114, 116, 0, 0, 0, 0)), (114, (4, 115, 0, 0, 0, 0, 0)), (115, (70, 116, 1, 0, 0, 0, 0)), (116, (2, 117, 0, 0, 0, 0, 0)), (117, (4, 118, 0, 0, 0, 0, 0)), (118, (65, 121, 86, 1, 148, 0, 0)), (121, (1, 122, 3, 0, 0, 0, 0)), (122, (34, 125, 177, 0, 0, 0, 0)), (125, (2, 126, 0, 0, 0, 0, 0)), (126, (4, 127, 0, 0, 0, 1, 0)), (127, (65, 130, 49, 1, 33, 0, 0))], [(130, (1, 132, 4, 0, 0, 0, 0)), (132, (34, 135, 177, 0, 0, 0, 0)), (135, (2, 136, 0, 0, 0, 0, 0)), (136, (4, 137, 0, 0, 0, 3, 0)), (137, (65, 140, 49, 1, 33, 0, 0)), (140, (1, 142, 6, 0, 0, 0, 0)), (142, (44, 145, 152, 0, 0, 0, 0)), (145, (4, 146, 0, 0, 0, 1, 0)), (146, (1, 148, 5, 0, 0, 0, 0)), (148, (16, 149, 0, 0, 0, 0, 0)), (149, (45, 152, 153, 0, 0, 0, 0)), (152, (4, 153, 0, 0, 0, 0, 0)), (153, (34, 156, 177, 0, 0, 0, 0)), (156, (2, 157, 0, 0, 0, 0, 0)), (157, (65, 160, 55, 0, 41, 0, 0)), (160, (1, 162, 7, 0, 0, 0, 0)), (162, (34, 165, 177, 0, 0, 0, 0)), (165, (2, 166, 0, 0, 0, 0, 0)), (166, (1, 168, 5, 0, 0, 0, 0)), (168, (4, 169, 0, 0, 0, 0, 0)), (169, (65, 172, 48, 2, 130, 0, 0)), (172, (1, 174, 6, 0, 0, 0, 0)), (174, (33, 177, 179, 0, 0, 0, 0)), (177, (4, 178, 0, 0, 0, 0, 0)), (178, (70, 179, 1, 0, 0, 0, 0)), (179, (2, 180, 0, 0, 0, 0, 0)), (180, (65, 183, 55, 0, 41, 0, 0)), (183, (1, 184, 1, 0, 0, 0, 0)), (184, (34, 187, 209, 0, 0, 0, 0)), (187, (2, 188, 0, 0, 0, 0, 0)), (188, (4, 189, 0, 0, 0, 0, 0)), (189, (65, 192, 86, 1, 148, 0, 0))], [(192, (1, 193, 3, 0, 0, 0, 0)), (193, (34, 196, 209, 0, 0, 0, 0)), (196, (2, 197, 0, 0, 0, 0, 0)), (197, (65, 200, 55, 0, 41, 0, 0)), (200, (1, 202, 7, 0, 0, 0, 0)), (202, (34, 205, 209, 0, 0, 0, 0)), (205, (4, 206, 0, 0, 0, 1, 0)), (206, (45, 209, 210, 0, 0, 0, 0)), (209, (4, 210, 0, 0, 0, 0, 0)), (210, (70, 211, 1, 0, 0, 0, 0))]]
def am_t106 : List (List (Nat × am_I)) := [[(0, (1, 1, 1, 0, 0, 0, 0)), (1, (42, 4, 16, 0, 0, 0, 0)), (4, (4, 6, 0, 0, 0, (-2), 0)), (6, (1, 7, 1, 0, 0, 0, 0)), (7, (4, 9, 0, 0, 151, 1000000, 0)), (9, (66, 12, 95, 2, 22, 0, 0)), (12, (11, 13, 0, 0, 0, 0, 0)), (13, (45, 16, 23, 0, 0, 0, 0)), (16, (1, 17, 1, 0, 0, 0, 0)), (17, (4, 19, 0, 0, 151, 1000000, 0)), (19, (14, 20, 0, 0, 0, 0, 0)), (20, (4, 22, 0, 0, 152, 262144, 0)), (22, (10, 23, 0, 0, 0, 0, 0)), (23, (6, 24, 2, 0, 0, 0, 0)), (24, (2, 25, 0, 0, 0, 0, 0)), (25, (1, 26, 2, 0, 0, 0, 0)), (26, (4, 27, 0, 0, 0, 0, 0)), (27, (4, 28, 0, 0, 0, 2, 0)), (28, (65, 31, 45, 3, 37, 0, 0)), (31, (4, 33, 0, 0, 0, (-2), 0)), (33, (34, 36, 394, 0, 0, 0, 0)), (36, (2, 37, 0, 0, 0, 0, 0)), (37, (4, 38, 0, 0, 0, 2, 0)), (38, (1, 39, 2, 0, 0, 0, 0)), (39, (4, 40, 0, 0, 0, 2, 0)), (40, (65, 43, 45, 3, 37, 0, 0)), (43, (4, 45, 0, 0, 0, (-2), 0)), (45, (34, 48, 394, 0, 0, 0, 0)), (48, (2, 49, 0, 0, 0, 0, 0)), (49, (4, 50, 0, 0, 0, 2, 0)), (50, (4, 51, 0, 0, 0, 0, 0)), (51, (1, 52, 2, 0, 0, 0, 0)), (52, (65, 55, 45, 3, 37, 0, 0)), (55, (4, 57, 0, 0, 0, (-2), 0)), (57, (34, 60, 394, 0, 0, 0, 0)), (60, (2, 61, 0, 0, 0, 0, 0)), (61, (1, 62, 2, 0, 0, 0, 0)), (62, (4, 63, 0, 0, 0, 1, 0)), (63, (4, 64, 0, 0, 0, 0, 0))], [(64, (65, 67, 46, 3, 26, 0, 0)), (67, (4, 69, 0, 0, 0, (-2), 0)), (69, (34, 72, 394, 0, 0, 0, 0)), (72, (2, 73, 0, 0, 0, 0, 0)), (73, (4, 74, 0, 0, 0, 1, 0)), (74, (1, 75, 2, 0, 0, 0, 0)), (75, (4, 76, 0, 0, 0, 1, 0)), (76, (65, 79, 46, 3, 26, 0, 0)), (79, (4, 81, 0, 0, 0, (-2), 0)), (81, (34, 84, 394, 0, 0, 0, 0)), (84, (2, 85, 0, 0, 0, 0, 0)), (85, (1, 86, 2, 0, 0, 0, 0)), (86, (4, 87, 0, 0, 0, 1, 0)), (87, (4, 88, 0, 0, 0, 0, 0)), (88, (65, 91, 47, 3, 30, 0, 0)), (91, (4, 93, 0, 0, 0, (-2), 0)), (93, (34, 96, 394, 0, 0, 0, 0)), (96, (2, 97, 0, 0, 0, 0, 0)), (97, (4, 98, 0, 0, 0, 2, 0)), (98, (1, 99, 2, 0, 0, 0, 0)), (99, (4, 100, 0, 0, 0, 1, 0)), (100, (65, 103, 47, 3, 30, 0, 0)), (103, (4, 105, 0, 0, 0, (-2), 0)), (105, (34, 108, 394, 0, 0, 0, 0)), (108, (2, 109, 0, 0, 0, 0, 0)), (109, (1, 110, 2, 0, 0, 0, 0)), (110, (4, 111, 0, 0, 0, 1, 0)), (111, (65, 114, 48, 2, 130, 0, 0)), (114, (4, 115, 0, 0, 0, (-1), 0)), (115, (34, 118, 394, 0, 0, 0, 0)), (118, (2, 119, 0, 0, 0, 0, 0)), (119, (4, 120, 0, 0, 0, 0, 0)), (120, (1, 121, 2, 0, 0, 0, 0)), (121, (65, 124, 48, 2, 130, 0, 0)), (124, (4, 126, 0, 0, 0, (-2), 0)), (126, (34, 129, 394, 0, 0, 0, 0))], [(129, (2, 130, 0, 0, 0, 0, 0)), (130, (1, 131, 2, 0, 0, 0, 0)), (131, (65, 134, 49, 1, 33, 0, 0)), (134, (4, 136, 0, 0, 0, (-2), 0)), (136, (34, 139, 394, 0, 0, 0, 0)), (139, (2, 140, 0, 0, 0, 0, 0)), (140, (1, 141, 2, 0, 0, 0, 0)), (141, (65, 144, 54, 1, 87, 0, 0)), (144, (4, 145, 0, 0, 0, (-1), 0)), (145, (34, 148, 394, 0, 0, 0, 0)), (148, (2, 149, 0, 0, 0, 0, 0)), (149, (1, 150, 2, 0, 0, 0, 0)), (150, (4, 151, 0, 0, 0, 0, 0)), (151, (65, 154, 56, 2, 81, 0, 0)), (154, (4, 156, 0, 0, 0, (-6), 0)), (156, (34, 159, 394, 0, 0, 0, 0)), (159, (2, 160, 0, 0, 0, 0, 0)), (160, (4, 161, 0, 0, 0, 0, 0)), (161, (1, 162, 2, 0, 0, 0, 0)), (162, (65, 165, 56, 2, 81, 0, 0)), (165, (4, 166, 0, 0, 0, (-1), 0)), (166, (34, 169, 394, 0, 0, 0, 0)), (169, (2, 170, 0, 0, 0, 0, 0)), (170, (1, 171, 2, 0, 0, 0, 0)), (171, (4, 172, 0, 0, 0, 1, 0)), (172, (65, 175, 57, 2, 84, 0, 0)), (175, (4, 177, 0, 0, 0, (-6), 0)), (177, (34, 180, 394, 0, 0, 0, 0)), (180, (2, 181, 0, 0, 0, 0, 0)), (181, (4, 182, 0, 0, 0, 0, 0)), (182, (1, 183, 2, 0, 0, 0, 0)), (183, (65, 186, 57, 2, 84, 0, 0)), (186, (4, 187, 0, 0, 0, (-1), 0)), (187, (34, 190, 394, 0, 0, 0, 0)), (190, (2, 191, 0, 0, 0, 0, 0)), (191, (1, 192, 2, 0, 0, 0, 0))], [(192, (4, 193, 0, 0, 0, 1, 0)), (193, (65, 196, 58, 2, 127, 0, 0)), (196, (4, 197, 0, 0, 0, (-1), 0)), (197, (34, 200, 394, 0, 0, 0, 0)), (200, (2, 201, 0, 0, 0, 0, 0)), (201, (4, 202, 0, 0, 0, 0, 0)), (202, (1, 203, 2, 0, 0, 0, 0)), (203, (65, 206, 58, 2, 127, 0, 0)), (206, (4, 208, 0, 0, 0, (-2), 0)), (208, (34, 211, 394, 0, 0, 0, 0)), (211, (2, 212, 0, 0, 0, 0, 0)), (212, (1, 213, 2, 0, 0, 0, 0)), (213, (65, 216, 59, 1, 112, 0, 0)), (216, (4, 217, 0, 0, 0, (-1), 0)), (217, (34, 220, 394, 0, 0, 0, 0)), (220, (2, 221, 0, 0, 0, 0, 0)), (221, (1, 222, 2, 0, 0, 0, 0)), (222, (65, 225, 62, 1, 153, 0, 0)), (225, (4, 227, 0, 0, 0, (-2), 0)), (227, (34, 230, 394, 0, 0, 0, 0)), (230, (2, 231, 0, 0, 0, 0, 0)), (231, (1, 232, 2, 0, 0, 0, 0)), (232, (65, 235, 64, 1, 118, 0, 0)), (235, (4, 237, 0, 0, 0, (-2), 0)), (237, (34, 240, 394, 0, 0, 0, 0)), (240, (2, 241, 0, 0, 0, 0, 0)), (241, (1, 242, 2, 0, 0, 0, 0)), (242, (65, 245, 66, 1, 124, 0, 0)), (245, (4, 247, 0, 0, 0, (-6), 0)), (247, (34, 250, 394, 0, 0, 0, 0)), (250, (2, 251, 0, 0, 0, 0, 0)), (251, (1, 252, 2, 0, 0, 0, 0)), (252, (65, 255, 67, 1, 96, 0, 0)), (255, (4, 256, 0, 0, 0, (-1), 0))], [(256, (34, 259, 394, 0, 0, 0, 0)), (259, (2, 260, 0, 0, 0, 0, 0)), (260, (1, 261, 2, 0, 0, 0, 0)), (261, (65, 264, 68, 1, 156, 0, 0)), (264, (4, 266, 0, 0, 0, (-6), 0)), (266, (34, 269, 394, 0, 0, 0, 0)), (269, (2, 270, 0, 0, 0, 0, 0)), (270, (1, 271, 2, 0, 0, 0, 0)), (271, (65, 274, 74, 1, 102, 0, 0)), (274, (4, 275, 0, 0, 0, (-1), 0)), (275, (34, 278, 394, 0, 0, 0, 0)), (278, (2, 279, 0, 0, 0, 0, 0)), (279, (4, 280, 0, 0, 0, 0, 0)), (280, (1, 281, 2, 0, 0, 0, 0)), (281, (65, 284, 76, 2, 142, 0, 0)), (284, (4, 285, 0, 0, 0, (-1), 0)), (285, (34, 288, 394, 0, 0, 0, 0)), (288, (2, 289, 0, 0, 0, 0, 0)), (289, (1, 290, 2, 0, 0, 0, 0)), (290, (4, 291, 0, 0, 0, 0, 0)), (291, (65, 294, 77, 2, 105, 0, 0)), (294, (4, 295, 0, 0, 0, (-1), 0)), (295, (34, 298, 394, 0, 0, 0, 0)), (298, (2, 299, 0, 0, 0, 0, 0)), (299, (4, 300, 0, 0, 0, 0, 0)), (300, (1, 301, 2, 0, 0, 0, 0)), (301, (65, 304, 77, 2, 105, 0, 0)), (304, (4, 306, 0, 0, 0, (-6), 0)), (306, (34, 309, 394, 0, 0, 0, 0)), (309, (2, 310, 0, 0, 0, 0, 0)), (310, (1, 311, 2, 0, 0, 0, 0)), (311, (4, 312, 0, 0, 0, 0, 0)), (312, (65, 315, 78, 2, 139, 0, 0)), (315, (4, 316, 0, 0, 0, (-1), 0)), (316, (34, 319, 394, 0, 0, 0, 0)), (319, (2, 320, 0, 0, 0, 0, 0))], [(320, (1, 321, 2, 0, 0, 0, 0)), (321, (4, 322, 0, 0, 0, 1, 0)), (322, (4, 323, 0, 0, 0, 0, 0)), (323, (65, 326, 79, 3, 90, 0, 0)), (326, (4, 327, 0, 0, 0, (-1), 0)), (327, (34, 330, 394, 0, 0, 0, 0)), (330, (2, 331, 0, 0, 0, 0, 0)), (331, (4, 332, 0, 0, 0, 0, 0)), (332, (1, 333, 2, 0, 0, 0, 0)), (333, (4, 334, 0, 0, 0, 0, 0)), (334, (65, 337, 79, 3, 90, 0, 0)), (337, (4, 338, 0, 0, 0, (-1), 0)), (338, (34, 341, 394, 0, 0, 0, 0)), (341, (2, 342, 0, 0, 0, 0, 0)), (342, (4, 343, 0, 0, 0, 0, 0)), (343, (4, 344, 0, 0, 0, 1, 0)), (344, (1, 345, 2, 0, 0, 0, 0)), (345, (65, 348, 79, 3, 90, 0, 0)), (348, (4, 350, 0, 0, 0, (-2), 0)), (350, (34, 353, 394, 0, 0, 0, 0)), (353, (2, 354, 0, 0, 0, 0, 0)), (354, (1, 355, 2, 0, 0, 0, 0)), (355, (65, 358, 80, 1, 99, 0, 0)), (358, (4, 359, 0, 0, 0, (-1), 0)), (359, (34, 362, 394, 0, 0, 0, 0)), (362, (2, 363, 0, 0, 0, 0, 0)), (363, (1, 364, 2, 0, 0, 0, 0)), (364, (65, 367, 85, 1, 145, 0, 0)), (367, (4, 369, 0, 0, 0, (-2), 0)), (369, (34, 372, 394, 0, 0, 0, 0)), (372, (2, 373, 0, 0, 0, 0, 0)), (373, (1, 374, 2, 0, 0, 0, 0)), (374, (65, 377, 86, 1, 148, 0, 0)), (377, (4, 379, 0, 0, 0, (-2), 0)), (379, (34, 382, 394, 0, 0, 0, 0)), (382, (2, 383, 0, 0, 0, 0, 0)), (383, (65, 386, 55, 0, 41, 0, 0))], [(386, (4, 387, 0, 0, 0, 1, 0)), (387, (34, 390, 394, 0, 0, 0, 0)), (390, (4, 391, 0, 0, 0, 1, 0)), (391, (45, 394, 395, 0, 0, 0, 0)), (394, (4, 395, 0, 0, 0, 0, 0)), (395, (70, 396, 1, 0, 0, 0, 0))]]
def am_t107 : List (List (Nat × am_I)) := [[(0, (1, 1, 0, 0, 0, 0, 0)), (1, (1, 2, 1, 0, 0, 0, 0)), (2, (35, 5, 9, 0, 0, 0, 0)), (5, (1, 6, 0, 0, 0, 0, 0)), (6, (45, 9, 10, 0, 0, 0, 0)), (9, (1, 10, 1, 0, 0, 0, 0)), (10, (70, 11, 0, 0, 0, 0, 0))]]
def am_t108 : List (List (Nat × am_I)) := [[(0, (1, 1, 0, 0, 0, 0, 0)), (1, (1, 2, 1, 0, 0, 0, 0)), (2, (37, 5, 9, 0, 0, 0, 0)), (5, (1, 6, 0, 0, 0, 0, 0)), (6, (45, 9, 10, 0, 0, 0, 0)), (9, (1, 10, 1, 0, 0, 0, 0)), (10, (70, 11, 0, 0, 0, 0, 0))]]
def am_t109 : List (List (Nat × am_I)) := [[(0, (60, 3, 4, 0, 9, 0, 0)), (3, (63, 4, 0, 0, 0, 0, 0)), (4, (68, 7, 44, 0, 11, 0, 0)), (7, (7, 8, 1, 0, 0, 0, 0)), (8, (4, 9, 0, 0, 0, 0, 0)), (9, (6, 10, 2, 0, 0, 0, 0)), (10, (2, 11, 1, 0, 0, 0, 0)), (11, (2, 12, 0, 0, 0, 0, 0)), (12, (1, 13, 2, 0, 0, 0, 0)), (13, (9, 16, 2, 0, 0, 1, 0)), (16, (66, 19, 94, 2, 12, 0, 0)), (19, (66, 22, 106, 2, 18, 0, 0)), (22, (40, 25, 27, 0, 0, 0, 0)), (25, (4, 26, 0, 0, 0, 0, 0)), (26, (70, 27, 1, 0, 0, 0, 0)), (27, (2, 28, 0, 0, 0, 0, 0)), (28, (1, 29, 2, 0, 0, 0, 0)), (29, (9, 32, 2, 0, 0, 1, 0)), (32, (66, 35, 94, 2, 12, 0, 0)), (35, (6, 36, 3, 0, 0, 0, 0)), (36, (4, 37, 0, 0, 0, 1, 0)), (37, (1, 38, 3, 0, 0, 0, 0)), (38, (4, 40, 0, 0, 0, 8, 0)), (40, (66, 43, 95, 2, 22, 0, 0)), (43, (10, 44, 0, 0, 0, 0, 0)), (44, (6, 46, 4, 0, 0, 0, 0)), (46, (1, 47, 3, 0, 0, 0, 0)), (47, (4, 48, 0, 0, 0, 4, 0)), (48, (17, 49, 0, 0, 0, 0, 0)), (49, (4, 50, 0, 0, 0, 4, 0)), (50, (66, 53, 95, 2, 22, 0, 0)), (53, (6, 55, 5, 0, 0, 0, 0)), (55, (1, 57, 5, 0, 0, 0, 0)), (57, (40, 60, 118, 0, 0, 0, 0)), (60, (2, 61, 1, 0, 0, 0, 0)), (61, (4, 62, 0, 0, 0, 1, 0)), (62, (1, 63, 3, 0, 0, 0, 0)), (63, (4, 65, 0, 0, 0, 7, 0))], [(65, (17, 66, 0, 0, 0, 0, 0)), (66, (4, 67, 0, 0, 0, 3, 0)), (67, (66, 70, 95, 2, 22, 0, 0)), (70, (10, 71, 0, 0, 0, 0, 0)), (71, (1, 73, 4, 0, 0, 0, 0)), (73, (1, 74, 3, 0, 0, 0, 0)), (74, (4, 76, 0, 0, 0, 10, 0)), (76, (17, 77, 0, 0, 0, 0, 0)), (77, (4, 78, 0, 0, 0, 2, 0)), (78, (66, 81, 95, 2, 22, 0, 0)), (81, (40, 84, 88, 0, 0, 0, 0)), (84, (4, 85, 0, 0, 0, 1, 0)), (85, (45, 88, 89, 0, 0, 0, 0)), (88, (4, 89, 0, 0, 0, 0, 0)), (89, (65, 92, 46, 3, 26, 0, 0)), (92, (4, 93, 0, 0, 0, 2, 0)), (93, (1, 95, 4, 0, 0, 0, 0)), (95, (12, 96, 0, 0, 0, 0, 0)), (96, (1, 97, 3, 0, 0, 0, 0)), (97, (4, 99, 0, 0, 0, 10, 0)), (99, (17, 100, 0, 0, 0, 0, 0)), (100, (4, 101, 0, 0, 0, 2, 0)), (101, (66, 104, 95, 2, 22, 0, 0)), (104, (40, 107, 111, 0, 0, 0, 0)), (107, (4, 108, 0, 0, 0, 1, 0)), (108, (45, 111, 112, 0, 0, 0, 0)), (111, (4, 112, 0, 0, 0, 0, 0)), (112, (10, 113, 0, 0, 0, 0, 0)), (113, (33, 116, 402, 0, 0, 0, 0)), (116, (4, 117, 0, 0, 0, 0, 0)), (117, (70, 118, 1, 0, 0, 0, 0)), (118, (1, 120, 5, 0, 0, 0, 0)), (120, (4, 121, 0, 0, 0, 1, 0)), (121, (34, 124, 208, 0, 0, 0, 0)), (124, (4, 125, 0, 0, 0, 1, 0)), (125, (1, 126, 3, 0, 0, 0, 0)), (126, (4, 128, 0, 0, 0, 7, 0))], [(128, (17, 129, 0, 0, 0, 0, 0)), (129, (1, 131, 4, 0, 0, 0, 0)), (131, (4, 132, 0, 0, 0, 1, 0)), (132, (10, 133, 0, 0, 0, 0, 0)), (133, (66, 136, 95, 2, 22, 0, 0)), (136, (10, 137, 0, 0, 0, 0, 0)), (137, (6, 139, 6, 0, 0, 0, 0)), (139, (2, 140, 1, 0, 0, 0, 0)), (140, (1, 142, 4, 0, 0, 0, 0)), (142, (4, 143, 0, 0, 0, 1, 0)), (143, (10, 144, 0, 0, 0, 0, 0)), (144, (1, 146, 6, 0, 0, 0, 0)), (146, (1, 147, 3, 0, 0, 0, 0)), (147, (4, 149, 0, 0, 0, 12, 0)), (149, (17, 150, 0, 0, 0, 0, 0)), (150, (4, 151, 0, 0, 0, 2, 0)), (151, (66, 154, 95, 2, 22, 0, 0)), (154, (40, 157, 161, 0, 0, 0, 0)), (157, (4, 158, 0, 0, 0, 1, 0)), (158, (45, 161, 162, 0, 0, 0, 0)), (161, (4, 162, 0, 0, 0, 0, 0)), (162, (65, 165, 47, 3, 30, 0, 0)), (165, (4, 166, 0, 0, 0, 2, 0)), (166, (1, 168, 4, 0, 0, 0, 0)), (168, (12, 169, 0, 0, 0, 0, 0)), (169, (1, 170, 3, 0, 0, 0, 0)), (170, (4, 172, 0, 0, 0, 12, 0)), (172, (17, 173, 0, 0, 0, 0, 0)), (173, (4, 174, 0, 0, 0, 2, 0)), (174, (66, 177, 95, 2, 22, 0, 0)), (177, (40, 180, 184, 0, 0, 0, 0)), (180, (4, 181, 0, 0, 0, 1, 0)), (181, (45, 184, 185, 0, 0, 0, 0)), (184, (4, 185, 0, 0, 0, 0, 0)), (185, (10, 186, 0, 0, 0, 0, 0)), (186, (34, 189, 203, 0, 0, 0, 0)), (189, (2, 190, 1, 0, 0, 0, 0)), (190, (4, 191, 0, 0, 0, 2, 0)), (191, (65, 194, 49, 1, 33, 0, 0))], [(194, (1, 196, 6, 0, 0, 0, 0)), (196, (17, 197, 0, 0, 0, 0, 0)), (197, (4, 198, 0, 0, 0, 1, 0)), (198, (19, 199, 0, 0, 0, 0, 0)), (199, (4, 200, 0, 0, 0, 1, 0)), (200, (34, 203, 205, 0, 0, 0, 0)), (203, (4, 204, 0, 0, 0, 0, 0)), (204, (70, 205, 1, 0, 0, 0, 0)), (205, (45, 208, 402, 0, 0, 0, 0)), (208, (4, 209, 0, 0, 0, 0, 0)), (209, (6, 211, 6, 0, 0, 0, 0)), (211, (4, 212, 0, 0, 0, 0, 0)), (212, (6, 214, 7, 0, 0, 0, 0)), (214, (1, 216, 7, 0, 0, 0, 0)), (216, (1, 218, 4, 0, 0, 0, 0)), (218, (36, 221, 282, 0, 0, 0, 0)), (221, (4, 222, 0, 0, 0, 1, 0)), (222, (1, 223, 3, 0, 0, 0, 0)), (223, (4, 225, 0, 0, 0, 7, 0)), (225, (4, 226, 0, 0, 0, 3, 0)), (226, (1, 228, 7, 0, 0, 0, 0)), (228, (4, 230, 0, 0, 0, 6, 0)), (230, (14, 231, 0, 0, 0, 0, 0)), (231, (12, 232, 0, 0, 0, 0, 0)), (232, (10, 233, 0, 0, 0, 0, 0)), (233, (17, 234, 0, 0, 0, 0, 0)), (234, (1, 236, 4, 0, 0, 0, 0)), (236, (4, 237, 0, 0, 0, 2, 0)), (237, (10, 238, 0, 0, 0, 0, 0)), (238, (66, 241, 95, 2, 22, 0, 0)), (241, (10, 242, 0, 0, 0, 0, 0)), (242, (6, 244, 8, 0, 0, 0, 0)), (244, (1, 246, 6, 0, 0, 0, 0)), (246, (1, 248, 8, 0, 0, 0, 0)), (248, (17, 249, 0, 0, 0, 0, 0)), (249, (4, 250, 0, 0, 0, 1, 0)), (250, (19, 251, 0, 0, 0, 0, 0)), (251, (4, 252, 0, 0, 0, 1, 0)), (252, (34, 255, 267, 0, 0, 0, 0)), (255, (1, 257, 8, 0, 0, 0, 0))], [(257, (4, 259, 0, 0, 0, 17, 0)), (259, (14, 260, 0, 0, 0, 0, 0)), (260, (4, 261, 0, 0, 0, 1, 0)), (261, (10, 262, 0, 0, 0, 0, 0)), (262, (6, 264, 8, 0, 0, 0, 0)), (264, (45, 267, 244, 0, 0, 0, 0)), (267, (1, 269, 6, 0, 0, 0, 0)), (269, (4, 270, 0, 0, 0, 1, 0)), (270, (1, 272, 8, 0, 0, 0, 0)), (272, (16, 273, 0, 0, 0, 0, 0)), (273, (20, 274, 0, 0, 0, 0, 0)), (274, (6, 276, 6, 0, 0, 0, 0)), (276, (9, 279, 7, 0, 0, 1, 0)), (279, (45, 282, 214, 0, 0, 0, 0)), (282, (4, 283, 0, 0, 0, 2, 0)), (283, (1, 285, 4, 0, 0, 0, 0)), (285, (12, 286, 0, 0, 0, 0, 0)), (286, (1, 287, 3, 0, 0, 0, 0)), (287, (4, 289, 0, 0, 0, 13, 0)), (289, (17, 290, 0, 0, 0, 0, 0)), (290, (4, 291, 0, 0, 0, 3, 0)), (291, (66, 294, 95, 2, 22, 0, 0)), (294, (10, 295, 0, 0, 0, 0, 0)), (295, (6, 297, 7, 0, 0, 0, 0)), (297, (1, 299, 7, 0, 0, 0, 0)), (299, (4, 301, 0, 0, 0, 18, 0)), (301, (38, 304, 309, 0, 0, 0, 0)), (304, (4, 306, 0, 0, 0, 18, 0)), (306, (45, 309, 311, 0, 0, 0, 0)), (309, (1, 311, 7, 0, 0, 0, 0)), (311, (6, 313, 7, 0, 0, 0, 0)), (313, (4, 314, 0, 0, 0, 0, 0)), (314, (6, 316, 8, 0, 0, 0, 0)), (316, (4, 317, 0, 0, 0, 0, 0)), (317, (6, 319, 9, 0, 0, 0, 0)), (319, (1, 321, 9, 0, 0, 0, 0))], [(321, (1, 323, 7, 0, 0, 0, 0)), (323, (4, 324, 0, 0, 0, 2, 0)), (324, (1, 326, 4, 0, 0, 0, 0)), (326, (12, 327, 0, 0, 0, 0, 0)), (327, (11, 328, 0, 0, 0, 0, 0)), (328, (36, 331, 385, 0, 0, 0, 0)), (331, (1, 332, 3, 0, 0, 0, 0)), (332, (4, 334, 0, 0, 0, 15, 0)), (334, (4, 335, 0, 0, 0, 3, 0)), (335, (1, 337, 9, 0, 0, 0, 0)), (337, (12, 338, 0, 0, 0, 0, 0)), (338, (10, 339, 0, 0, 0, 0, 0)), (339, (17, 340, 0, 0, 0, 0, 0)), (340, (1, 342, 7, 0, 0, 0, 0)), (342, (66, 345, 95, 2, 22, 0, 0)), (345, (6, 347, 10, 0, 0, 0, 0)), (347, (1, 349, 8, 0, 0, 0, 0)), (349, (1, 351, 10, 0, 0, 0, 0)), (351, (17, 352, 0, 0, 0, 0, 0)), (352, (4, 353, 0, 0, 0, 1, 0)), (353, (19, 354, 0, 0, 0, 0, 0)), (354, (4, 355, 0, 0, 0, 1, 0)), (355, (34, 358, 370, 0, 0, 0, 0)), (358, (1, 360, 10, 0, 0, 0, 0)), (360, (4, 361, 0, 0, 0, 1, 0)), (361, (10, 362, 0, 0, 0, 0, 0)), (362, (1, 364, 7, 0, 0, 0, 0)), (364, (14, 365, 0, 0, 0, 0, 0)), (365, (6, 367, 10, 0, 0, 0, 0)), (367, (45, 370, 347, 0, 0, 0, 0)), (370, (1, 372, 8, 0, 0, 0, 0)), (372, (4, 373, 0, 0, 0, 1, 0)), (373, (1, 375, 10, 0, 0, 0, 0)), (375, (16, 376, 0, 0, 0, 0, 0)), (376, (20, 377, 0, 0, 0, 0, 0)), (377, (6, 379, 8, 0, 0, 0, 0)), (379, (9, 382, 9, 0, 0, 1, 0)), (382, (45, 385, 319, 0, 0, 0, 0))], [(385, (2, 386, 1, 0, 0, 0, 0)), (386, (1, 388, 7, 0, 0, 0, 0)), (388, (1, 390, 8, 0, 0, 0, 0)), (390, (1, 392, 6, 0, 0, 0, 0)), (392, (65, 395, 45, 3, 37, 0, 0)), (395, (1, 397, 4, 0, 0, 0, 0)), (397, (33, 400, 402, 0, 0, 0, 0)), (400, (4, 401, 0, 0, 0, 0, 0)), (401, (70, 402, 1, 0, 0, 0, 0)), (402, (2, 403, 1, 0, 0, 0, 0)), (403, (65, 406, 55, 0, 41, 0, 0)), (406, (6, 408, 6, 0, 0, 0, 0)), (408, (2, 409, 1, 0, 0, 0, 0)), (409, (1, 411, 6, 0, 0, 0, 0)), (411, (66, 414, 97, 2, 45, 0, 0)), (414, (39, 417, 426, 0, 0, 0, 0)), (417, (2, 418, 1, 0, 0, 0, 0)), (418, (1, 420, 6, 0, 0, 0, 0)), (420, (66, 423, 98, 2, 48, 0, 0)), (423, (40, 426, 428, 0, 0, 0, 0)), (426, (4, 427, 0, 0, 0, 0, 0)), (427, (70, 428, 1, 0, 0, 0, 0)), (428, (4, 429, 0, 0, 0, 0, 0)), (429, (6, 431, 7, 0, 0, 0, 0)), (431, (1, 433, 7, 0, 0, 0, 0)), (433, (4, 434, 0, 0, 0, 3, 0)), (434, (36, 437, 469, 0, 0, 0, 0)), (437, (2, 438, 1, 0, 0, 0, 0)), (438, (1, 440, 6, 0, 0, 0, 0)), (440, (2, 441, 0, 0, 0, 0, 0)), (441, (1, 442, 2, 0, 0, 0, 0)), (442, (9, 445, 2, 0, 0, 1, 0)), (445, (66, 448, 94, 2, 12, 0, 0))], [(448, (1, 450, 6, 0, 0, 0, 0)), (450, (4, 451, 0, 0, 0, 2, 0)), (451, (10, 452, 0, 0, 0, 0, 0)), (452, (66, 455, 95, 2, 22, 0, 0)), (455, (66, 458, 100, 3, 51, 0, 0)), (458, (40, 461, 463, 0, 0, 0, 0)), (461, (4, 462, 0, 0, 0, 0, 0)), (462, (70, 463, 1, 0, 0, 0, 0)), (463, (9, 466, 7, 0, 0, 1, 0)), (466, (45, 469, 431, 0, 0, 0, 0)), (469, (2, 470, 0, 0, 0, 0, 0)), (470, (1, 471, 2, 0, 0, 0, 0)), (471, (9, 474, 2, 0, 0, 1, 0)), (474, (66, 477, 94, 2, 12, 0, 0)), (477, (6, 478, 3, 0, 0, 0, 0)), (478, (2, 479, 1, 0, 0, 0, 0)), (479, (1, 481, 6, 0, 0, 0, 0)), (481, (1, 482, 3, 0, 0, 0, 0)), (482, (2, 483, 1, 0, 0, 0, 0)), (483, (4, 484, 0, 0, 0, 0, 0)), (484, (65, 487, 49, 1, 33, 0, 0)), (487, (66, 490, 95, 2, 22, 0, 0)), (490, (66, 493, 101, 3, 55, 0, 0)), (493, (39, 496, 558, 0, 0, 0, 0)), (496, (2, 497, 1, 0, 0, 0, 0)), (497, (1, 499, 6, 0, 0, 0, 0)), (499, (66, 502, 102, 2, 58, 0, 0)), (502, (39, 505, 558, 0, 0, 0, 0)), (505, (2, 506, 1, 0, 0, 0, 0)), (506, (1, 508, 6, 0, 0, 0, 0)), (508, (1, 509, 3, 0, 0, 0, 0)), (509, (4, 510, 0, 0, 0, 5, 0)), (510, (17, 511, 0, 0, 0, 0, 0)), (511, (1, 513, 6, 0, 0, 0, 0))], [(513, (4, 514, 0, 0, 0, 1, 0)), (514, (10, 515, 0, 0, 0, 0, 0)), (515, (66, 518, 95, 2, 22, 0, 0)), (518, (66, 521, 103, 3, 61, 0, 0)), (521, (39, 524, 558, 0, 0, 0, 0)), (524, (2, 525, 1, 0, 0, 0, 0)), (525, (1, 527, 6, 0, 0, 0, 0)), (527, (1, 528, 3, 0, 0, 0, 0)), (528, (4, 530, 0, 0, 0, 9, 0)), (530, (17, 531, 0, 0, 0, 0, 0)), (531, (66, 534, 104, 3, 63, 0, 0)), (534, (39, 537, 558, 0, 0, 0, 0)), (537, (2, 538, 1, 0, 0, 0, 0)), (538, (1, 540, 6, 0, 0, 0, 0)), (540, (2, 541, 0, 0, 0, 0, 0)), (541, (1, 542, 2, 0, 0, 0, 0)), (542, (9, 545, 2, 0, 0, 1, 0)), (545, (66, 548, 94, 2, 12, 0, 0)), (548, (66, 551, 105, 3, 66, 0, 0)), (551, (39, 554, 558, 0, 0, 0, 0)), (554, (4, 555, 0, 0, 0, 1, 0)), (555, (45, 558, 559, 0, 0, 0, 0)), (558, (4, 559, 0, 0, 0, 0, 0)), (559, (70, 560, 1, 0, 0, 0, 0))]]
def am_tb : Nat → List (List (Nat × am_I)) := fun i => match i with
  | 0 => am_t0
  | 1 => am_t1
  | 2 => am_t2
  | 3 => am_t3
  | 4 => am_t4
  | 5 => am_t5
  | 6 => am_t6
  | 7 => am_t7
  | 8 => am_t8
  | 9 => am_t9
  | 10 => am_t10
  | 11 => am_t11
  | 12 => am_t12
  | 13 => am_t13
  | 14 => am_t14
  | 15 => am_t15
  | 16 => am_t16
  | 17 => am_t17
  | 18 => am_t18
  | 19 => am_t19
  | 20 => am_t20
  | 21 => am_t21
  | 22 => am_t22
  | 23 => am_t23
  | 24 => am_t24
  | 25 => am_t25
  | 26 => am_t26
  | 27 => am_t27
  | 28 => am_t28
  | 29 => am_t29
  | 30 => am_t30
  | 31 => am_t31
  | 32 => am_t32
  | 33 => am_t33
  | 34 => am_t34
  | 35 => am_t35
  | 36 => am_t36
  | 37 => am_t37
  | 38 => am_t38
  | 39 => am_t39
  | 40 => am_t40
  | 41 => am_t41
  | 42 => am_t42
  | 43 => am_t43
  | 44 => am_t44
  | 45 => am_t45
  | 46 => am_t46
  | 47 => am_t47
  | 48 => am_t48
  | 49 => am_t49
  | 50 => am_t50
  | 51 => am_t51
  | 52 => am_t52
  | 53 => am_t53
  | 54 => am_t54
  | 55 => am_t55
  | 56 => am_t56
  | 57 => am_t57
  | 58 => am_t58
  | 59 => am_t59
  | 60 => am_t60
  | 61 => am_t61
  | 62 => am_t62
  | 63 => am_t63
  | 64 => am_t64
  | 65 => am_t65
  | 66 => am_t66
  | 67 => am_t67
  | 68 => am_t68
  | 69 => am_t69
  | 70 => am_t70
  | 71 => am_t71
  | 72 => am_t72
  | 73 => am_t73
  | 74 => am_t74
  | 75 => am_t75
  | 76 => am_t76
  | 77 => am_t77
  | 78 => am_t78
  | 79 => am_t79
  | 80 => am_t80
  | 81 => am_t81
  | 82 => am_t82
  | 83 => am_t83
  | 84 => am_t84
  | 85 => am_t85
  | 86 => am_t86
  | 87 => am_t87
  | 88 => am_t88
  | 89 => am_t89
  | 90 => am_t90
  | 91 => am_t91
  | 92 => am_t92
  | 93 => am_t93
  | 94 => am_t94
  | 95 => am_t95
  | 96 => am_t96
  | 97 => am_t97
  | 98 => am_t98
  | 99 => am_t99
  | 100 => am_t100
  | 101 => am_t101
  | 102 => am_t102
  | 103 => am_t103
  | 104 => am_t104
  | 105 => am_t105
  | 106 => am_t106
  | 107 => am_t107
  | 108 => am_t108
  | 109 => am_t109
  | _ => []
def am_code (i pc : Nat) : Option am_I := ((am_tb i).getD (pc / 64) []).lookup pc
def am_swt (i pc : Nat) : List Nat := match i, pc with
  | 49, 1 => [40, 48, 56, 64, 72, 83]
  | 71, 31 => [64, 83, 105, 129, 168]
  | _, _ => []
theorem I0_0 : am_code 0 0 = some (2, 1, 0, 0, 0, 0, 0) := rfl
theorem I0_1 : am_code 0 1 = some (69, 4, 0, 0, 3, 0, 0) := rfl
theorem I0_4 : am_code 0 4 = some (2, 5, 0, 0, 0, 0, 0) := rfl
theorem I0_5 : am_code 0 5 = some (1, 6, 1, 0, 0, 0, 0) := rfl
theorem I0_6 : am_code 0 6 = some (4, 7, 0, 0, 0, 0, 0) := rfl
theorem I0_7 : am_code 0 7 = some (75, 10, 0, 0, 9, 0, 0) := rfl
theorem I0_10 : am_code 0 10 = some (61, 12, 2, 0, 0, 0, 0) := rfl
theorem I0_12 : am_code 0 12 = some (50, 15, 0, 0, 15, 0, 0) := rfl
theorem I0_15 : am_code 0 15 = some (2, 16, 0, 0, 0, 0, 0) := rfl
theorem I0_16 : am_code 0 16 = some (4, 18, 0, 0, 0, 8, 0) := rfl
theorem I0_18 : am_code 0 18 = some (61, 20, 0, 0, 0, 0, 0) := rfl
theorem I0_20 : am_code 0 20 = some (50, 23, 0, 3, 21, 0, 0) := rfl
theorem I0_23 : am_code 0 23 = some (2, 24, 0, 0, 0, 0, 0) := rfl
theorem I0_24 : am_code 0 24 = some (4, 26, 0, 0, 0, 8, 0) := rfl
theorem I0_26 : am_code 0 26 = some (61, 28, 0, 0, 0, 0, 0) := rfl
theorem I0_28 : am_code 0 28 = some (50, 31, 0, 4, 25, 0, 0) := rfl
theorem I0_31 : am_code 0 31 = some (73, 32, 0, 0, 0, 0, 0) := rfl
theorem I1_0 : am_code 1 0 = some (2, 1, 0, 0, 0, 0, 0) := rfl
theorem I1_1 : am_code 1 1 = some (4, 2, 0, 0, 0, 0, 0) := rfl
theorem I1_2 : am_code 1 2 = some (49, 5, 0, 5, 28, 0, 0) := rfl
theorem I1_5 : am_code 1 5 = some (2, 6, 0, 0, 0, 0, 0) := rfl
theorem I1_6 : am_code 1 6 = some (2, 7, 1, 0, 0, 0, 0) := rfl
theorem I1_7 : am_code 1 7 = some (48, 10, 2, 0, 32, 0, 0) := rfl
theorem I1_10 : am_code 1 10 = some (49, 13, 0, 1, 37, 0, 0) := rfl
theorem I1_13 : am_code 1 13 = some (2, 14, 0, 0, 0, 0, 0) := rfl
theorem I1_14 : am_code 1 14 = some (4, 15, 0, 0, 0, 0, 0) := rfl
theorem I1_15 : am_code 1 15 = some (49, 18, 0, 2, 38, 0, 0) := rfl
theorem I1_18 : am_code 1 18 = some (2, 19, 1, 0, 0, 0, 0) := rfl
theorem I1_19 : am_code 1 19 = some (65, 22, 39, 0, 41, 0, 0) := rfl
theorem I1_22 : am_code 1 22 = some (40, 25, 26, 0, 0, 0, 0) := rfl
theorem I1_25 : am_code 1 25 = some (73, 26, 0, 0, 0, 0, 0) := rfl
theorem I1_26 : am_code 1 26 = some (4, 27, 0, 0, 0, 1, 0) := rfl
theorem I1_27 : am_code 1 27 = some (6, 28, 2, 0, 0, 0, 0) := rfl
theorem I1_28 : am_code 1 28 = some (1, 29, 2, 0, 0, 0, 0) := rfl
theorem I1_29 : am_code 1 29 = some (4, 31, 0, 0, 0, 17, 0) := rfl
theorem I1_31 : am_code 1 31 = some (37, 34, 91, 0, 0, 0, 0) := rfl
theorem I1_34 : am_code 1 34 = some (2, 35, 1, 0, 0, 0, 0) := rfl
theorem I1_35 : am_code 1 35 = some (1, 36, 2, 0, 0, 0, 0) := rfl
theorem I1_36 : am_code 1 36 = some (65, 39, 27, 1, 45, 0, 0) := rfl
theorem I1_39 : am_code 1 39 = some (39, 42, 85, 0, 0, 0, 0) := rfl
theorem I1_42 : am_code 1 42 = some (2, 43, 0, 0, 0, 0, 0) := rfl
theorem I1_43 : am_code 1 43 = some (48, 46, 0, 2, 38, 0, 0) := rfl
theorem I1_46 : am_code 1 46 = some (4, 48, 0, 0, 0, 8, 0) := rfl
theorem I1_48 : am_code 1 48 = some (36, 51, 85, 0, 0, 0, 0) := rfl
theorem I1_51 : am_code 1 51 = some (2, 52, 0, 0, 0, 0, 0) := rfl
theorem I1_52 : am_code 1 52 = some (48, 55, 0, 3, 21, 0, 0) := rfl
theorem I1_55 : am_code 1 55 = some (2, 56, 0, 0, 0, 0, 0) := rfl
theorem I1_56 : am_code 1 56 = some (48, 59, 0, 2, 38, 0, 0) := rfl
theorem I1_59 : am_code 1 59 = some (1, 60, 2, 0, 0, 0, 0) := rfl
theorem I1_60 : am_code 1 60 = some (52, 61, 0, 0, 0, 0, 0) := rfl
theorem I1_61 : am_code 1 61 = some (2, 62, 0, 0, 0, 0, 0) := rfl
theorem I1_62 : am_code 1 62 = some (48, 65, 0, 4, 25, 0, 0) := rfl
theorem I1_65 : am_code 1 65 = some (2, 66, 0, 0, 0, 0, 0) := rfl
theorem I1_66 : am_code 1 66 = some (48, 69, 0, 2, 38, 0, 0) := rfl
theorem I1_69 : am_code 1 69 = some (2, 70, 1, 0, 0, 0, 0) := rfl
theorem I1_70 : am_code 1 70 = some (1, 71, 2, 0, 0, 0, 0) := rfl
theorem I1_71 : am_code 1 71 = some (65, 74, 35, 1, 49, 0, 0) := rfl
theorem I1_74 : am_code 1 74 = some (52, 75, 0, 0, 0, 0, 0) := rfl
theorem I1_75 : am_code 1 75 = some (2, 76, 0, 0, 0, 0, 0) := rfl
theorem I1_76 : am_code 1 76 = some (63, 77, 0, 0, 0, 0, 0) := rfl
theorem I1_77 : am_code 1 77 = some (48, 80, 0, 2, 38, 0, 0) := rfl
theorem I1_80 : am_code 1 80 = some (4, 81, 0, 0, 0, 1, 0) := rfl
theorem I1_81 : am_code 1 81 = some (10, 82, 0, 0, 0, 0, 0) := rfl
theorem I1_82 : am_code 1 82 = some (49, 85, 0, 2, 38, 0, 0) := rfl
theorem I1_85 : am_code 1 85 = some (9, 88, 2, 0, 0, 1, 0) := rfl
theorem I1_88 : am_code 1 88 = some (45, 91, 28, 0, 0, 0, 0) := rfl
theorem I1_91 : am_code 1 91 = some (2, 92, 0, 0, 0, 0, 0) := rfl
theorem I1_92 : am_code 1 92 = some (2, 93, 1, 0, 0, 0, 0) := rfl
theorem I1_93 : am_code 1 93 = some (65, 96, 29, 0, 53, 0, 0) := rfl
theorem I1_96 : am_code 1 96 = some (4, 97, 0, 0, 0, 0, 0) := rfl
theorem I1_97 : am_code 1 97 = some (2, 98, 0, 0, 0, 0, 0) := rfl
theorem I1_98 : am_code 1 98 = some (48, 101, 0, 2, 38, 0, 0) := rfl
theorem I1_101 : am_code 1 101 = some (4, 102, 0, 0, 0, 1, 0) := rfl
theorem I1_102 : am_code 1 102 = some (11, 103, 0, 0, 0, 0, 0) := rfl
theorem I1_103 : am_code 1 103 = some (67, 106, 89, 2, 57, 0, 0) := rfl
theorem I1_106 : am_code 1 106 = some (5, 107, 0, 0, 0, 0, 0) := rfl
theorem I1_107 : am_code 1 107 = some (4, 108, 0, 0, 0, 0, 0) := rfl
theorem I1_108 : am_code 1 108 = some (66, 111, 2, 5, 60, 0, 0) := rfl
theorem I1_111 : am_code 1 111 = some (73, 112, 0, 0, 0, 0, 0) := rfl
theorem I2_0 : am_code 2 0 = some (1, 1, 2, 0, 0, 0, 0) := rfl
theorem I2_1 : am_code 2 1 = some (40, 4, 10, 0, 0, 0, 0) := rfl
theorem I2_4 : am_code 2 4 = some (2, 5, 0, 0, 0, 0, 0) := rfl
theorem I2_5 : am_code 2 5 = some (3, 6, 3, 0, 0, 0, 0) := rfl
theorem I2_6 : am_code 2 6 = some (65, 9, 4, 1, 64, 0, 0) := rfl
theorem I2_9 : am_code 2 9 = some (73, 10, 0, 0, 0, 0, 0) := rfl
theorem I2_10 : am_code 2 10 = some (1, 12, 5, 0, 0, 0, 0) := rfl
theorem I2_12 : am_code 2 12 = some (4, 14, 0, 0, 0, 8, 0) := rfl
theorem I2_14 : am_code 2 14 = some (36, 17, 26, 0, 0, 0, 0) := rfl
theorem I2_17 : am_code 2 17 = some (2, 18, 0, 0, 0, 0, 0) := rfl
theorem I2_18 : am_code 2 18 = some (1, 19, 1, 0, 0, 0, 0) := rfl
theorem I2_19 : am_code 2 19 = some (1, 20, 2, 0, 0, 0, 0) := rfl
theorem I2_20 : am_code 2 20 = some (65, 23, 5, 2, 68, 0, 0) := rfl
theorem I2_23 : am_code 2 23 = some (40, 26, 27, 0, 0, 0, 0) := rfl
theorem I2_26 : am_code 2 26 = some (73, 27, 0, 0, 0, 0, 0) := rfl
theorem I2_27 : am_code 2 27 = some (1, 28, 1, 0, 0, 0, 0) := rfl
theorem I2_28 : am_code 2 28 = some (66, 31, 91, 1, 72, 0, 0) := rfl
theorem I2_31 : am_code 2 31 = some (6, 33, 6, 0, 0, 0, 0) := rfl
theorem I2_33 : am_code 2 33 = some (4, 34, 0, 0, 0, 0, 0) := rfl
theorem I2_34 : am_code 2 34 = some (6, 36, 7, 0, 0, 0, 0) := rfl
theorem I2_36 : am_code 2 36 = some (1, 38, 7, 0, 0, 0, 0) := rfl
theorem I2_38 : am_code 2 38 = some (4, 40, 0, 0, 0, 8, 0) := rfl
theorem I2_40 : am_code 2 40 = some (36, 43, 135, 0, 0, 0, 0) := rfl
theorem I2_43 : am_code 2 43 = some (2, 44, 0, 0, 0, 0, 0) := rfl
theorem I2_44 : am_code 2 44 = some (65, 47, 3, 0, 77, 0, 0) := rfl
theorem I2_47 : am_code 2 47 = some (40, 50, 135, 0, 0, 0, 0) := rfl
theorem I2_50 : am_code 2 50 = some (1, 51, 2, 0, 0, 0, 0) := rfl
theorem I2_51 : am_code 2 51 = some (1, 53, 7, 0, 0, 0, 0) := rfl
theorem I2_53 : am_code 2 53 = some (67, 56, 88, 2, 80, 0, 0) := rfl
theorem I2_56 : am_code 2 56 = some (39, 59, 129, 0, 0, 0, 0) := rfl
theorem I2_59 : am_code 2 59 = some (2, 60, 0, 0, 0, 0, 0) := rfl
theorem I2_60 : am_code 2 60 = some (1, 61, 1, 0, 0, 0, 0) := rfl
theorem I2_61 : am_code 2 61 = some (1, 63, 7, 0, 0, 0, 0) := rfl
theorem I2_63 : am_code 2 63 = some (65, 66, 6, 2, 83, 0, 0) := rfl
theorem I2_66 : am_code 2 66 = some (1, 68, 6, 0, 0, 0, 0) := rfl
theorem I2_68 : am_code 2 68 = some (67, 71, 88, 2, 80, 0, 0) := rfl
theorem I2_71 : am_code 2 71 = some (39, 74, 129, 0, 0, 0, 0) := rfl
theorem I2_74 : am_code 2 74 = some (4, 75, 0, 0, 0, 1, 0) := rfl
theorem I2_75 : am_code 2 75 = some (1, 77, 6, 0, 0, 0, 0) := rfl
theorem I2_77 : am_code 2 77 = some (16, 78, 0, 0, 0, 0, 0) := rfl
theorem I2_78 : am_code 2 78 = some (4, 79, 0, 0, 0, 1, 0) := rfl
theorem I2_79 : am_code 2 79 = some (1, 81, 6, 0, 0, 0, 0) := rfl
theorem I2_81 : am_code 2 81 = some (2, 82, 0, 0, 0, 0, 0) := rfl
theorem I2_82 : am_code 2 82 = some (48, 85, 0, 3, 21, 0, 0) := rfl
theorem I2_85 : am_code 2 85 = some (1, 87, 7, 0, 0, 0, 0) := rfl
theorem I2_87 : am_code 2 87 = some (51, 88, 0, 0, 0, 0, 0) := rfl
theorem I2_88 : am_code 2 88 = some (10, 89, 0, 0, 0, 0, 0) := rfl
theorem I2_89 : am_code 2 89 = some (16, 90, 0, 0, 0, 0, 0) := rfl
theorem I2_90 : am_code 2 90 = some (20, 91, 0, 0, 0, 0, 0) := rfl
theorem I2_91 : am_code 2 91 = some (6, 93, 8, 0, 0, 0, 0) := rfl
theorem I2_93 : am_code 2 93 = some (1, 95, 6, 0, 0, 0, 0) := rfl
theorem I2_95 : am_code 2 95 = some (32, 96, 0, 0, 0, 0, 0) := rfl
theorem I2_96 : am_code 2 96 = some (4, 97, 0, 0, 0, 5, 0) := rfl
theorem I2_97 : am_code 2 97 = some (1, 99, 7, 0, 0, 0, 0) := rfl
theorem I2_99 : am_code 2 99 = some (12, 100, 0, 0, 0, 0, 0) := rfl
theorem I2_100 : am_code 2 100 = some (27, 101, 0, 0, 0, 0, 0) := rfl
theorem I2_101 : am_code 2 101 = some (8, 103, 9, 0, 0, 0, 0) := rfl
theorem I2_103 : am_code 2 103 = some (2, 104, 0, 0, 0, 0, 0) := rfl
theorem I2_104 : am_code 2 104 = some (1, 105, 1, 0, 0, 0, 0) := rfl
theorem I2_105 : am_code 2 105 = some (1, 107, 8, 0, 0, 0, 0) := rfl
theorem I2_107 : am_code 2 107 = some (4, 108, 0, 0, 0, (-1), 0) := rfl
theorem I2_108 : am_code 2 108 = some (21, 109, 0, 0, 0, 0, 0) := rfl
theorem I2_109 : am_code 2 109 = some (19, 110, 0, 0, 0, 0, 0) := rfl
theorem I2_110 : am_code 2 110 = some (1, 111, 2, 0, 0, 0, 0) := rfl
theorem I2_111 : am_code 2 111 = some (4, 112, 0, 0, 0, 1, 0) := rfl
theorem I2_112 : am_code 2 112 = some (1, 114, 7, 0, 0, 0, 0) := rfl
theorem I2_114 : am_code 2 114 = some (16, 115, 0, 0, 0, 0, 0) := rfl
theorem I2_115 : am_code 2 115 = some (4, 116, 0, 0, 0, (-1), 0) := rfl
theorem I2_116 : am_code 2 116 = some (21, 117, 0, 0, 0, 0, 0) := rfl
theorem I2_117 : am_code 2 117 = some (19, 118, 0, 0, 0, 0, 0) := rfl
theorem I2_118 : am_code 2 118 = some (3, 119, 3, 0, 0, 0, 0) := rfl
theorem I2_119 : am_code 2 119 = some (3, 121, 9, 0, 0, 0, 0) := rfl
theorem I2_121 : am_code 2 121 = some (25, 122, 0, 0, 0, 0, 0) := rfl
theorem I2_122 : am_code 2 122 = some (1, 124, 5, 0, 0, 0, 0) := rfl
theorem I2_124 : am_code 2 124 = some (4, 125, 0, 0, 0, 1, 0) := rfl
theorem I2_125 : am_code 2 125 = some (10, 126, 0, 0, 0, 0, 0) := rfl
theorem I2_126 : am_code 2 126 = some (66, 129, 2, 5, 60, 0, 0) := rfl
theorem I2_129 : am_code 2 129 = some (9, 132, 7, 0, 0, 1, 0) := rfl
theorem I2_132 : am_code 2 132 = some (45, 135, 36, 0, 0, 0, 0) := rfl
theorem I2_135 : am_code 2 135 = some (73, 136, 0, 0, 0, 0, 0) := rfl
theorem I3_0 : am_code 3 0 = some (2, 1, 0, 0, 0, 0, 0) := rfl
theorem I3_1 : am_code 3 1 = some (48, 4, 0, 5, 28, 0, 0) := rfl
theorem I3_4 : am_code 3 4 = some (41, 7, 19, 0, 0, 0, 0) := rfl
theorem I3_7 : am_code 3 7 = some (2, 8, 0, 0, 0, 0, 0) := rfl
theorem I3_8 : am_code 3 8 = some (48, 11, 0, 5, 28, 0, 0) := rfl
theorem I3_11 : am_code 3 11 = some (2, 12, 0, 0, 0, 0, 0) := rfl
theorem I3_12 : am_code 3 12 = some (48, 15, 0, 0, 15, 0, 0) := rfl
theorem I3_15 : am_code 3 15 = some (59, 16, 0, 0, 0, 0, 0) := rfl
theorem I3_16 : am_code 3 16 = some (35, 19, 23, 0, 0, 0, 0) := rfl
theorem I3_19 : am_code 3 19 = some (4, 20, 0, 0, 0, 1, 0) := rfl
theorem I3_20 : am_code 3 20 = some (45, 23, 24, 0, 0, 0, 0) := rfl
theorem I3_23 : am_code 3 23 = some (4, 24, 0, 0, 0, 0, 0) := rfl
theorem I3_24 : am_code 3 24 = some (70, 25, 1, 0, 0, 0, 0) := rfl
theorem I4_0 : am_code 4 0 = some (2, 1, 0, 0, 0, 0, 0) := rfl
theorem I4_1 : am_code 4 1 = some (65, 4, 3, 0, 77, 0, 0) := rfl
theorem I4_4 : am_code 4 4 = some (40, 7, 27, 0, 0, 0, 0) := rfl
theorem I4_7 : am_code 4 7 = some (2, 8, 0, 0, 0, 0, 0) := rfl
theorem I4_8 : am_code 4 8 = some (48, 11, 0, 0, 15, 0, 0) := rfl
theorem I4_11 : am_code 4 11 = some (2, 12, 0, 0, 0, 0, 0) := rfl
theorem I4_12 : am_code 4 12 = some (48, 15, 0, 5, 28, 0, 0) := rfl
theorem I4_15 : am_code 4 15 = some (3, 16, 1, 0, 0, 0, 0) := rfl
theorem I4_16 : am_code 4 16 = some (54, 17, 0, 0, 0, 0, 0) := rfl
theorem I4_17 : am_code 4 17 = some (2, 18, 0, 0, 0, 0, 0) := rfl
theorem I4_18 : am_code 4 18 = some (63, 19, 0, 0, 0, 0, 0) := rfl
theorem I4_19 : am_code 4 19 = some (48, 22, 0, 5, 28, 0, 0) := rfl
theorem I4_22 : am_code 4 22 = some (4, 23, 0, 0, 0, 1, 0) := rfl
theorem I4_23 : am_code 4 23 = some (10, 24, 0, 0, 0, 0, 0) := rfl
theorem I4_24 : am_code 4 24 = some (49, 27, 0, 5, 28, 0, 0) := rfl
theorem I4_27 : am_code 4 27 = some (73, 28, 0, 0, 0, 0, 0) := rfl
theorem I5_0 : am_code 5 0 = some (4, 1, 0, 0, 0, 0, 0) := rfl
theorem I5_1 : am_code 5 1 = some (6, 2, 3, 0, 0, 0, 0) := rfl
theorem I5_2 : am_code 5 2 = some (1, 3, 3, 0, 0, 0, 0) := rfl
theorem I5_3 : am_code 5 3 = some (4, 5, 0, 0, 0, 8, 0) := rfl
theorem I5_5 : am_code 5 5 = some (36, 8, 33, 0, 0, 0, 0) := rfl
theorem I5_8 : am_code 5 8 = some (1, 9, 2, 0, 0, 0, 0) := rfl
theorem I5_9 : am_code 5 9 = some (1, 10, 3, 0, 0, 0, 0) := rfl
theorem I5_10 : am_code 5 10 = some (67, 13, 88, 2, 80, 0, 0) := rfl
theorem I5_13 : am_code 5 13 = some (39, 16, 27, 0, 0, 0, 0) := rfl
theorem I5_16 : am_code 5 16 = some (2, 17, 0, 0, 0, 0, 0) := rfl
theorem I5_17 : am_code 5 17 = some (1, 18, 1, 0, 0, 0, 0) := rfl
theorem I5_18 : am_code 5 18 = some (1, 19, 3, 0, 0, 0, 0) := rfl
theorem I5_19 : am_code 5 19 = some (65, 22, 6, 2, 83, 0, 0) := rfl
theorem I5_22 : am_code 5 22 = some (40, 25, 27, 0, 0, 0, 0) := rfl
theorem I5_25 : am_code 5 25 = some (4, 26, 0, 0, 0, 0, 0) := rfl
theorem I5_26 : am_code 5 26 = some (70, 27, 1, 0, 0, 0, 0) := rfl
theorem I5_27 : am_code 5 27 = some (9, 30, 3, 0, 0, 1, 0) := rfl
theorem I5_30 : am_code 5 30 = some (45, 33, 2, 0, 0, 0, 0) := rfl
theorem I5_33 : am_code 5 33 = some (4, 34, 0, 0, 0, 1, 0) := rfl
theorem I5_34 : am_code 5 34 = some (70, 35, 1, 0, 0, 0, 0) := rfl
theorem I6_0 : am_code 6 0 = some (1, 1, 2, 0, 0, 0, 0) := rfl
theorem I6_1 : am_code 6 1 = some (41, 4, 10, 0, 0, 0, 0) := rfl
theorem I6_4 : am_code 6 4 = some (1, 5, 2, 0, 0, 0, 0) := rfl
theorem I6_5 : am_code 6 5 = some (4, 7, 0, 0, 0, 8, 0) := rfl
theorem I6_7 : am_code 6 7 = some (35, 10, 12, 0, 0, 0, 0) := rfl
theorem I6_10 : am_code 6 10 = some (4, 11, 0, 0, 0, 0, 0) := rfl
theorem I6_11 : am_code 6 11 = some (70, 12, 0, 0, 0, 0, 0) := rfl
theorem I6_12 : am_code 6 12 = some (2, 13, 0, 0, 0, 0, 0) := rfl
theorem I6_13 : am_code 6 13 = some (48, 16, 0, 4, 25, 0, 0) := rfl
theorem I6_16 : am_code 6 16 = some (1, 17, 2, 0, 0, 0, 0) := rfl
theorem I6_17 : am_code 6 17 = some (51, 18, 0, 0, 0, 0, 0) := rfl
theorem I6_18 : am_code 6 18 = some (1, 19, 1, 0, 0, 0, 0) := rfl
theorem I6_19 : am_code 6 19 = some (19, 20, 0, 0, 0, 0, 0) := rfl
theorem I6_20 : am_code 6 20 = some (1, 21, 1, 0, 0, 0, 0) := rfl
theorem I6_21 : am_code 6 21 = some (2, 22, 0, 0, 0, 0, 0) := rfl
theorem I6_22 : am_code 6 22 = some (48, 25, 0, 3, 21, 0, 0) := rfl
theorem I6_25 : am_code 6 25 = some (1, 26, 2, 0, 0, 0, 0) := rfl
theorem I6_26 : am_code 6 26 = some (51, 27, 0, 0, 0, 0, 0) := rfl
theorem I6_27 : am_code 6 27 = some (17, 28, 0, 0, 0, 0, 0) := rfl
theorem I6_28 : am_code 6 28 = some (19, 29, 0, 0, 0, 0, 0) := rfl
theorem I6_29 : am_code 6 29 = some (70, 30, 0, 0, 0, 0, 0) := rfl
theorem I7_0 : am_code 7 0 = some (1, 1, 1, 0, 0, 0, 0) := rfl
theorem I7_1 : am_code 7 1 = some (41, 4, 25, 0, 0, 0, 0) := rfl
theorem I7_4 : am_code 7 4 = some (1, 5, 1, 0, 0, 0, 0) := rfl
theorem I7_5 : am_code 7 5 = some (2, 6, 0, 0, 0, 0, 0) := rfl
theorem I7_6 : am_code 7 6 = some (48, 9, 0, 5, 28, 0, 0) := rfl
theorem I7_9 : am_code 7 9 = some (36, 12, 25, 0, 0, 0, 0) := rfl
theorem I7_12 : am_code 7 12 = some (1, 13, 1, 0, 0, 0, 0) := rfl
theorem I7_13 : am_code 7 13 = some (2, 14, 0, 0, 0, 0, 0) := rfl
theorem I7_14 : am_code 7 14 = some (48, 17, 0, 0, 15, 0, 0) := rfl
theorem I7_17 : am_code 7 17 = some (59, 18, 0, 0, 0, 0, 0) := rfl
theorem I7_18 : am_code 7 18 = some (36, 21, 25, 0, 0, 0, 0) := rfl
theorem I7_21 : am_code 7 21 = some (4, 22, 0, 0, 0, 1, 0) := rfl
theorem I7_22 : am_code 7 22 = some (45, 25, 26, 0, 0, 0, 0) := rfl
theorem I7_25 : am_code 7 25 = some (4, 26, 0, 0, 0, 0, 0) := rfl
theorem I7_26 : am_code 7 26 = some (70, 27, 1, 0, 0, 0, 0) := rfl
theorem I8_0 : am_code 8 0 = some (2, 1, 0, 0, 0, 0, 0) := rfl
theorem I8_1 : am_code 8 1 = some (1, 2, 1, 0, 0, 0, 0) := rfl
theorem I8_2 : am_code 8 2 = some (65, 5, 7, 1, 86, 0, 0) := rfl
theorem I8_5 : am_code 8 5 = some (39, 8, 17, 0, 0, 0, 0) := rfl
theorem I8_8 : am_code 8 8 = some (2, 9, 0, 0, 0, 0, 0) := rfl
theorem I8_9 : am_code 8 9 = some (48, 12, 0, 0, 15, 0, 0) := rfl
theorem I8_12 : am_code 8 12 = some (1, 13, 1, 0, 0, 0, 0) := rfl
theorem I8_13 : am_code 8 13 = some (53, 14, 0, 0, 0, 0, 0) := rfl
theorem I8_14 : am_code 8 14 = some (45, 17, 18, 0, 0, 0, 0) := rfl
theorem I8_17 : am_code 8 17 = some (5, 18, 0, 0, 0, 0, 0) := rfl
theorem I8_18 : am_code 8 18 = some (71, 19, 0, 0, 0, 0, 0) := rfl
theorem I9_0 : am_code 9 0 = some (2, 1, 0, 0, 0, 0, 0) := rfl
theorem I9_1 : am_code 9 1 = some (1, 2, 1, 0, 0, 0, 0) := rfl
theorem I9_2 : am_code 9 2 = some (65, 5, 8, 1, 89, 0, 0) := rfl
theorem I9_5 : am_code 9 5 = some (4, 6, 0, 0, 0, 5, 0) := rfl
theorem I9_6 : am_code 9 6 = some (1, 7, 2, 0, 0, 0, 0) := rfl
theorem I9_7 : am_code 9 7 = some (12, 8, 0, 0, 0, 0, 0) := rfl
theorem I9_8 : am_code 9 8 = some (29, 9, 0, 0, 0, 0, 0) := rfl
theorem I9_9 : am_code 9 9 = some (31, 10, 0, 0, 0, 0, 0) := rfl
theorem I9_10 : am_code 9 10 = some (4, 12, 0, 0, 0, 31, 0) := rfl
theorem I9_12 : am_code 9 12 = some (19, 13, 0, 0, 0, 0, 0) := rfl
theorem I9_13 : am_code 9 13 = some (70, 14, 0, 0, 0, 0, 0) := rfl
theorem I10_0 : am_code 10 0 = some (4, 1, 0, 0, 0, 0, 0) := rfl
theorem I10_1 : am_code 10 1 = some (6, 2, 3, 0, 0, 0, 0) := rfl
theorem I10_2 : am_code 10 2 = some (1, 3, 3, 0, 0, 0, 0) := rfl
theorem I10_3 : am_code 10 3 = some (2, 4, 0, 0, 0, 0, 0) := rfl
theorem I10_4 : am_code 10 4 = some (48, 7, 0, 2, 38, 0, 0) := rfl
theorem I10_7 : am_code 10 7 = some (36, 10, 39, 0, 0, 0, 0) := rfl
theorem I10_10 : am_code 10 10 = some (1, 11, 3, 0, 0, 0, 0) := rfl
theorem I10_11 : am_code 10 11 = some (4, 13, 0, 0, 0, 8, 0) := rfl
theorem I10_13 : am_code 10 13 = some (36, 16, 39, 0, 0, 0, 0) := rfl
theorem I10_16 : am_code 10 16 = some (2, 17, 0, 0, 0, 0, 0) := rfl
theorem I10_17 : am_code 10 17 = some (48, 20, 0, 3, 21, 0, 0) := rfl
theorem I10_20 : am_code 10 20 = some (1, 21, 3, 0, 0, 0, 0) := rfl
theorem I10_21 : am_code 10 21 = some (51, 22, 0, 0, 0, 0, 0) := rfl
theorem I10_22 : am_code 10 22 = some (1, 23, 2, 0, 0, 0, 0) := rfl
theorem I10_23 : am_code 10 23 = some (34, 26, 33, 0, 0, 0, 0) := rfl
theorem I10_26 : am_code 10 26 = some (2, 27, 0, 0, 0, 0, 0) := rfl
theorem I10_27 : am_code 10 27 = some (1, 28, 1, 0, 0, 0, 0) := rfl
theorem I10_28 : am_code 10 28 = some (1, 29, 3, 0, 0, 0, 0) := rfl
theorem I10_29 : am_code 10 29 = some (65, 32, 9, 2, 93, 0, 0) := rfl
theorem I10_32 : am_code 10 32 = some (70, 33, 0, 0, 0, 0, 0) := rfl
theorem I10_33 : am_code 10 33 = some (9, 36, 3, 0, 0, 1, 0) := rfl
theorem I10_36 : am_code 10 36 = some (45, 39, 2, 0, 0, 0, 0) := rfl
theorem I10_39 : am_code 10 39 = some (4, 41, 0, 0, 0, (-6), 0) := rfl
theorem I10_41 : am_code 10 41 = some (70, 42, 0, 0, 0, 0, 0) := rfl
theorem I11_0 : am_code 11 0 = some (4, 1, 0, 0, 0, 0, 0) := rfl
theorem I11_1 : am_code 11 1 = some (6, 2, 3, 0, 0, 0, 0) := rfl
theorem I11_2 : am_code 11 2 = some (1, 3, 3, 0, 0, 0, 0) := rfl
theorem I11_3 : am_code 11 3 = some (2, 4, 0, 0, 0, 0, 0) := rfl
theorem I11_4 : am_code 11 4 = some (48, 7, 0, 2, 38, 0, 0) := rfl
theorem I11_7 : am_code 11 7 = some (36, 10, 56, 0, 0, 0, 0) := rfl
theorem I11_10 : am_code 11 10 = some (1, 11, 3, 0, 0, 0, 0) := rfl
theorem I11_11 : am_code 11 11 = some (4, 13, 0, 0, 0, 8, 0) := rfl
theorem I11_13 : am_code 11 13 = some (36, 16, 56, 0, 0, 0, 0) := rfl
theorem I11_16 : am_code 11 16 = some (2, 17, 0, 0, 0, 0, 0) := rfl
theorem I11_17 : am_code 11 17 = some (1, 18, 1, 0, 0, 0, 0) := rfl
theorem I11_18 : am_code 11 18 = some (1, 19, 3, 0, 0, 0, 0) := rfl
theorem I11_19 : am_code 11 19 = some (65, 22, 9, 2, 93, 0, 0) := rfl
theorem I11_22 : am_code 11 22 = some (6, 24, 4, 0, 0, 0, 0) := rfl
theorem I11_24 : am_code 11 24 = some (1, 25, 2, 0, 0, 0, 0) := rfl
theorem I11_25 : am_code 11 25 = some (1, 27, 4, 0, 0, 0, 0) := rfl
theorem I11_27 : am_code 11 27 = some (33, 30, 43, 0, 0, 0, 0) := rfl
theorem I11_30 : am_code 11 30 = some (1, 31, 2, 0, 0, 0, 0) := rfl
theorem I11_31 : am_code 11 31 = some (1, 33, 4, 0, 0, 0, 0) := rfl
theorem I11_33 : am_code 11 33 = some (2, 34, 0, 0, 0, 0, 0) := rfl
theorem I11_34 : am_code 11 34 = some (48, 37, 0, 3, 21, 0, 0) := rfl
theorem I11_37 : am_code 11 37 = some (1, 38, 3, 0, 0, 0, 0) := rfl
theorem I11_38 : am_code 11 38 = some (51, 39, 0, 0, 0, 0, 0) := rfl
theorem I11_39 : am_code 11 39 = some (10, 40, 0, 0, 0, 0, 0) := rfl
theorem I11_40 : am_code 11 40 = some (34, 43, 50, 0, 0, 0, 0) := rfl
theorem I11_43 : am_code 11 43 = some (2, 44, 0, 0, 0, 0, 0) := rfl
theorem I11_44 : am_code 11 44 = some (48, 47, 0, 3, 21, 0, 0) := rfl
theorem I11_47 : am_code 11 47 = some (1, 48, 3, 0, 0, 0, 0) := rfl
theorem I11_48 : am_code 11 48 = some (51, 49, 0, 0, 0, 0, 0) := rfl
theorem I11_49 : am_code 11 49 = some (70, 50, 0, 0, 0, 0, 0) := rfl
theorem I11_50 : am_code 11 50 = some (9, 53, 3, 0, 0, 1, 0) := rfl
theorem I11_53 : am_code 11 53 = some (45, 56, 2, 0, 0, 0, 0) := rfl
theorem I11_56 : am_code 11 56 = some (4, 57, 0, 0, 0, 0, 0) := rfl
theorem I11_57 : am_code 11 57 = some (70, 58, 0, 0, 0, 0, 0) := rfl
theorem I12_0 : am_code 12 0 = some (4, 1, 0, 0, 0, 0, 0) := rfl
theorem I12_1 : am_code 12 1 = some (6, 2, 2, 0, 0, 0, 0) := rfl
theorem I12_2 : am_code 12 2 = some (4, 3, 0, 0, 0, 0, 0) := rfl
theorem I12_3 : am_code 12 3 = some (6, 4, 3, 0, 0, 0, 0) := rfl
theorem I12_4 : am_code 12 4 = some (1, 5, 3, 0, 0, 0, 0) := rfl
theorem I12_5 : am_code 12 5 = some (2, 6, 0, 0, 0, 0, 0) := rfl
theorem I12_6 : am_code 12 6 = some (48, 9, 0, 5, 28, 0, 0) := rfl
theorem I12_9 : am_code 12 9 = some (36, 12, 29, 0, 0, 0, 0) := rfl
theorem I12_12 : am_code 12 12 = some (1, 13, 2, 0, 0, 0, 0) := rfl
theorem I12_13 : am_code 12 13 = some (4, 14, 0, 0, 0, 1, 0) := rfl
theorem I12_14 : am_code 12 14 = some (2, 15, 0, 0, 0, 0, 0) := rfl
theorem I12_15 : am_code 12 15 = some (1, 16, 3, 0, 0, 0, 0) := rfl
theorem I12_16 : am_code 12 16 = some (1, 17, 1, 0, 0, 0, 0) := rfl
theorem I12_17 : am_code 12 17 = some (65, 20, 11, 2, 96, 0, 0) := rfl
theorem I12_20 : am_code 12 20 = some (16, 21, 0, 0, 0, 0, 0) := rfl
theorem I12_21 : am_code 12 21 = some (20, 22, 0, 0, 0, 0, 0) := rfl
theorem I12_22 : am_code 12 22 = some (6, 23, 2, 0, 0, 0, 0) := rfl
theorem I12_23 : am_code 12 23 = some (9, 26, 3, 0, 0, 1, 0) := rfl
theorem I12_26 : am_code 12 26 = some (45, 29, 4, 0, 0, 0, 0) := rfl
theorem I12_29 : am_code 12 29 = some (1, 30, 2, 0, 0, 0, 0) := rfl
theorem I12_30 : am_code 12 30 = some (4, 32, 0, 0, 0, (-2), 0) := rfl
theorem I12_32 : am_code 12 32 = some (19, 33, 0, 0, 0, 0, 0) := rfl
theorem I12_33 : am_code 12 33 = some (70, 34, 0, 0, 0, 0, 0) := rfl
theorem I13_0 : am_code 13 0 = some (2, 1, 0, 0, 0, 0, 0) := rfl
theorem I13_1 : am_code 13 1 = some (1, 2, 1, 0, 0, 0, 0) := rfl
theorem I13_2 : am_code 13 2 = some (65, 5, 8, 1, 89, 0, 0) := rfl
theorem I13_5 : am_code 13 5 = some (2, 6, 0, 0, 0, 0, 0) := rfl
theorem I13_6 : am_code 13 6 = some (1, 7, 2, 0, 0, 0, 0) := rfl
theorem I13_7 : am_code 13 7 = some (65, 10, 8, 1, 89, 0, 0) := rfl
theorem I13_10 : am_code 13 10 = some (26, 11, 0, 0, 0, 0, 0) := rfl
theorem I13_11 : am_code 13 11 = some (8, 12, 3, 0, 0, 0, 0) := rfl
theorem I13_12 : am_code 13 12 = some (3, 13, 3, 0, 0, 0, 0) := rfl
theorem I13_13 : am_code 13 13 = some (5, 16, 0, 0, 99, 0, 532021755375) := rfl
theorem I13_16 : am_code 13 16 = some (24, 17, 0, 0, 0, 0, 0) := rfl
theorem I13_17 : am_code 13 17 = some (5, 20, 0, 0, 99, 0, 532021755375) := rfl
theorem I13_20 : am_code 13 20 = some (22, 21, 0, 0, 0, 0, 0) := rfl
theorem I13_21 : am_code 13 21 = some (3, 22, 3, 0, 0, 0, 0) := rfl
theorem I13_22 : am_code 13 22 = some (25, 23, 0, 0, 0, 0, 0) := rfl
theorem I13_23 : am_code 13 23 = some (5, 26, 0, 0, 101, 0, 567489872400) := rfl
theorem I13_26 : am_code 13 26 = some (24, 27, 0, 0, 0, 0, 0) := rfl
theorem I13_27 : am_code 13 27 = some (66, 30, 93, 1, 103, 0, 0) := rfl
theorem I13_30 : am_code 13 30 = some (70, 31, 0, 0, 0, 0, 0) := rfl
theorem I14_0 : am_code 14 0 = some (5, 1, 0, 0, 0, 0, 0) := rfl
theorem I14_1 : am_code 14 1 = some (8, 2, 2, 0, 0, 0, 0) := rfl
theorem I14_2 : am_code 14 2 = some (4, 3, 0, 0, 0, 0, 0) := rfl
theorem I14_3 : am_code 14 3 = some (6, 5, 4, 0, 0, 0, 0) := rfl
theorem I14_5 : am_code 14 5 = some (1, 7, 4, 0, 0, 0, 0) := rfl
theorem I14_7 : am_code 14 7 = some (2, 8, 0, 0, 0, 0, 0) := rfl
theorem I14_8 : am_code 14 8 = some (48, 11, 0, 2, 38, 0, 0) := rfl
theorem I14_11 : am_code 14 11 = some (36, 14, 62, 0, 0, 0, 0) := rfl
theorem I14_14 : am_code 14 14 = some (1, 16, 4, 0, 0, 0, 0) := rfl
theorem I14_16 : am_code 14 16 = some (4, 18, 0, 0, 0, 8, 0) := rfl
theorem I14_18 : am_code 14 18 = some (36, 21, 62, 0, 0, 0, 0) := rfl
theorem I14_21 : am_code 14 21 = some (2, 22, 0, 0, 0, 0, 0) := rfl
theorem I14_22 : am_code 14 22 = some (48, 25, 0, 1, 37, 0, 0) := rfl
theorem I14_25 : am_code 14 25 = some (4, 26, 0, 0, 0, 1, 0) := rfl
theorem I14_26 : am_code 14 26 = some (11, 27, 0, 0, 0, 0, 0) := rfl
theorem I14_27 : am_code 14 27 = some (2, 28, 0, 0, 0, 0, 0) := rfl
theorem I14_28 : am_code 14 28 = some (48, 31, 0, 3, 21, 0, 0) := rfl
theorem I14_31 : am_code 14 31 = some (1, 33, 4, 0, 0, 0, 0) := rfl
theorem I14_33 : am_code 14 33 = some (51, 34, 0, 0, 0, 0, 0) := rfl
theorem I14_34 : am_code 14 34 = some (11, 35, 0, 0, 0, 0, 0) := rfl
theorem I14_35 : am_code 14 35 = some (2, 36, 0, 0, 0, 0, 0) := rfl
theorem I14_36 : am_code 14 36 = some (1, 37, 1, 0, 0, 0, 0) := rfl
theorem I14_37 : am_code 14 37 = some (1, 39, 4, 0, 0, 0, 0) := rfl
theorem I14_39 : am_code 14 39 = some (65, 42, 9, 2, 93, 0, 0) := rfl
theorem I14_42 : am_code 14 42 = some (11, 43, 0, 0, 0, 0, 0) := rfl
theorem I14_43 : am_code 14 43 = some (32, 44, 0, 0, 0, 0, 0) := rfl
theorem I14_44 : am_code 14 44 = some (8, 46, 5, 0, 0, 0, 0) := rfl
theorem I14_46 : am_code 14 46 = some (3, 47, 2, 0, 0, 0, 0) := rfl
theorem I14_47 : am_code 14 47 = some (3, 49, 5, 0, 0, 0, 0) := rfl
theorem I14_49 : am_code 14 49 = some (4, 50, 0, 0, 0, 5, 0) := rfl
theorem I14_50 : am_code 14 50 = some (1, 52, 4, 0, 0, 0, 0) := rfl
theorem I14_52 : am_code 14 52 = some (12, 53, 0, 0, 0, 0, 0) := rfl
theorem I14_53 : am_code 14 53 = some (27, 54, 0, 0, 0, 0, 0) := rfl
theorem I14_54 : am_code 14 54 = some (25, 55, 0, 0, 0, 0, 0) := rfl
theorem I14_55 : am_code 14 55 = some (8, 56, 2, 0, 0, 0, 0) := rfl
theorem I14_56 : am_code 14 56 = some (9, 59, 4, 0, 0, 1, 0) := rfl
theorem I14_59 : am_code 14 59 = some (45, 62, 5, 0, 0, 0, 0) := rfl
theorem I14_62 : am_code 14 62 = some (4, 63, 0, 0, 0, 0, 0) := rfl
theorem I14_63 : am_code 14 63 = some (6, 65, 4, 0, 0, 0, 0) := rfl
theorem I14_65 : am_code 14 65 = some (1, 67, 4, 0, 0, 0, 0) := rfl
theorem I14_67 : am_code 14 67 = some (2, 68, 0, 0, 0, 0, 0) := rfl
theorem I14_68 : am_code 14 68 = some (48, 71, 0, 5, 28, 0, 0) := rfl
theorem I14_71 : am_code 14 71 = some (36, 74, 94, 0, 0, 0, 0) := rfl
theorem I14_74 : am_code 14 74 = some (2, 75, 0, 0, 0, 0, 0) := rfl
theorem I14_75 : am_code 14 75 = some (1, 77, 4, 0, 0, 0, 0) := rfl
theorem I14_77 : am_code 14 77 = some (65, 80, 8, 1, 89, 0, 0) := rfl
theorem I14_80 : am_code 14 80 = some (3, 81, 2, 0, 0, 0, 0) := rfl
theorem I14_81 : am_code 14 81 = some (30, 82, 0, 0, 0, 0, 0) := rfl
theorem I14_82 : am_code 14 82 = some (40, 85, 88, 0, 0, 0, 0) := rfl
theorem I14_85 : am_code 14 85 = some (1, 87, 4, 0, 0, 0, 0) := rfl
theorem I14_87 : am_code 14 87 = some (70, 88, 0, 0, 0, 0, 0) := rfl
theorem I14_88 : am_code 14 88 = some (9, 91, 4, 0, 0, 1, 0) := rfl
theorem I14_91 : am_code 14 91 = some (45, 94, 65, 0, 0, 0, 0) := rfl
theorem I14_94 : am_code 14 94 = some (4, 95, 0, 0, 0, (-1), 0) := rfl
theorem I14_95 : am_code 14 95 = some (70, 96, 0, 0, 0, 0, 0) := rfl
theorem I15_0 : am_code 15 0 = some (2, 1, 0, 0, 0, 0, 0) := rfl
theorem I15_1 : am_code 15 1 = some (69, 4, 0, 0, 3, 0, 0) := rfl
theorem I15_4 : am_code 15 4 = some (2, 5, 0, 0, 0, 0, 0) := rfl
theorem I15_5 : am_code 15 5 = some (4, 7, 0, 0, 0, 18, 0) := rfl
theorem I15_7 : am_code 15 7 = some (61, 9, 0, 0, 0, 0, 0) := rfl
theorem I15_9 : am_code 15 9 = some (50, 12, 1, 0, 9, 0, 0) := rfl
theorem I15_12 : am_code 15 12 = some (2, 13, 0, 0, 0, 0, 0) := rfl
theorem I15_13 : am_code 15 13 = some (4, 14, 0, 0, 0, 0, 0) := rfl
theorem I15_14 : am_code 15 14 = some (49, 17, 1, 1, 15, 0, 0) := rfl
theorem I15_17 : am_code 15 17 = some (73, 18, 0, 0, 0, 0, 0) := rfl
theorem I16_0 : am_code 16 0 = some (1, 1, 1, 0, 0, 0, 0) := rfl
theorem I16_1 : am_code 16 1 = some (41, 4, 22, 0, 0, 0, 0) := rfl
theorem I16_4 : am_code 16 4 = some (1, 5, 1, 0, 0, 0, 0) := rfl
theorem I16_5 : am_code 16 5 = some (2, 6, 0, 0, 0, 0, 0) := rfl
theorem I16_6 : am_code 16 6 = some (48, 9, 1, 1, 15, 0, 0) := rfl
theorem I16_9 : am_code 16 9 = some (36, 12, 22, 0, 0, 0, 0) := rfl
theorem I16_12 : am_code 16 12 = some (1, 13, 1, 0, 0, 0, 0) := rfl
theorem I16_13 : am_code 16 13 = some (4, 15, 0, 0, 0, 18, 0) := rfl
theorem I16_15 : am_code 16 15 = some (36, 18, 22, 0, 0, 0, 0) := rfl
theorem I16_18 : am_code 16 18 = some (4, 19, 0, 0, 0, 1, 0) := rfl
theorem I16_19 : am_code 16 19 = some (45, 22, 23, 0, 0, 0, 0) := rfl
theorem I16_22 : am_code 16 22 = some (4, 23, 0, 0, 0, 0, 0) := rfl
theorem I16_23 : am_code 16 23 = some (70, 24, 1, 0, 0, 0, 0) := rfl
theorem I17_0 : am_code 17 0 = some (2, 1, 0, 0, 0, 0, 0) := rfl
theorem I17_1 : am_code 17 1 = some (48, 4, 1, 1, 15, 0, 0) := rfl
theorem I17_4 : am_code 17 4 = some (41, 7, 36, 0, 0, 0, 0) := rfl
theorem I17_7 : am_code 17 7 = some (2, 8, 0, 0, 0, 0, 0) := rfl
theorem I17_8 : am_code 17 8 = some (48, 11, 1, 1, 15, 0, 0) := rfl
theorem I17_11 : am_code 17 11 = some (4, 13, 0, 0, 0, 18, 0) := rfl
theorem I17_13 : am_code 17 13 = some (36, 16, 36, 0, 0, 0, 0) := rfl
theorem I17_16 : am_code 17 16 = some (2, 17, 0, 0, 0, 0, 0) := rfl
theorem I17_17 : am_code 17 17 = some (48, 20, 1, 0, 9, 0, 0) := rfl
theorem I17_20 : am_code 17 20 = some (2, 21, 0, 0, 0, 0, 0) := rfl
theorem I17_21 : am_code 17 21 = some (48, 24, 1, 1, 15, 0, 0) := rfl
theorem I17_24 : am_code 17 24 = some (1, 25, 1, 0, 0, 0, 0) := rfl
theorem I17_25 : am_code 17 25 = some (52, 26, 0, 0, 0, 0, 0) := rfl
theorem I17_26 : am_code 17 26 = some (2, 27, 0, 0, 0, 0, 0) := rfl
theorem I17_27 : am_code 17 27 = some (63, 28, 0, 0, 0, 0, 0) := rfl
theorem I17_28 : am_code 17 28 = some (48, 31, 1, 1, 15, 0, 0) := rfl
theorem I17_31 : am_code 17 31 = some (4, 32, 0, 0, 0, 1, 0) := rfl
theorem I17_32 : am_code 17 32 = some (10, 33, 0, 0, 0, 0, 0) := rfl
theorem I17_33 : am_code 17 33 = some (49, 36, 1, 1, 15, 0, 0) := rfl
theorem I17_36 : am_code 17 36 = some (73, 37, 0, 0, 0, 0, 0) := rfl
theorem I18_0 : am_code 18 0 = some (1, 1, 0, 0, 0, 0, 0) := rfl
theorem I18_1 : am_code 18 1 = some (40, 4, 7, 0, 0, 0, 0) := rfl
theorem I18_4 : am_code 18 4 = some (4, 6, 0, 0, 0, 46, 0) := rfl
theorem I18_6 : am_code 18 6 = some (70, 7, 0, 0, 0, 0, 0) := rfl
theorem I18_7 : am_code 18 7 = some (1, 8, 0, 0, 0, 0, 0) := rfl
theorem I18_8 : am_code 18 8 = some (4, 10, 0, 0, 0, 9, 0) := rfl
theorem I18_10 : am_code 18 10 = some (37, 13, 20, 0, 0, 0, 0) := rfl
theorem I18_13 : am_code 18 13 = some (4, 15, 0, 0, 0, 48, 0) := rfl
theorem I18_15 : am_code 18 15 = some (1, 16, 0, 0, 0, 0, 0) := rfl
theorem I18_16 : am_code 18 16 = some (10, 17, 0, 0, 0, 0, 0) := rfl
theorem I18_17 : am_code 18 17 = some (45, 20, 27, 0, 0, 0, 0) := rfl
theorem I18_20 : am_code 18 20 = some (4, 22, 0, 0, 0, 97, 0) := rfl
theorem I18_22 : am_code 18 22 = some (1, 23, 0, 0, 0, 0, 0) := rfl
theorem I18_23 : am_code 18 23 = some (10, 24, 0, 0, 0, 0, 0) := rfl
theorem I18_24 : am_code 18 24 = some (4, 26, 0, 0, 0, 10, 0) := rfl
theorem I18_26 : am_code 18 26 = some (11, 27, 0, 0, 0, 0, 0) := rfl
theorem I18_27 : am_code 18 27 = some (70, 28, 0, 0, 0, 0, 0) := rfl
theorem I19_0 : am_code 19 0 = some (1, 1, 0, 0, 0, 0, 0) := rfl
theorem I19_1 : am_code 19 1 = some (4, 3, 0, 0, 0, 46, 0) := rfl
theorem I19_3 : am_code 19 3 = some (34, 6, 8, 0, 0, 0, 0) := rfl
theorem I19_6 : am_code 19 6 = some (4, 7, 0, 0, 0, 0, 0) := rfl
theorem I19_7 : am_code 19 7 = some (70, 8, 0, 0, 0, 0, 0) := rfl
theorem I19_8 : am_code 19 8 = some (1, 9, 0, 0, 0, 0, 0) := rfl
theorem I19_9 : am_code 19 9 = some (4, 11, 0, 0, 0, 63, 0) := rfl
theorem I19_11 : am_code 19 11 = some (34, 14, 16, 0, 0, 0, 0) := rfl
theorem I19_14 : am_code 19 14 = some (4, 15, 0, 0, 0, (-1), 0) := rfl
theorem I19_15 : am_code 19 15 = some (70, 16, 0, 0, 0, 0, 0) := rfl
theorem I19_16 : am_code 19 16 = some (1, 17, 0, 0, 0, 0, 0) := rfl
theorem I19_17 : am_code 19 17 = some (4, 19, 0, 0, 0, 49, 0) := rfl
theorem I19_19 : am_code 19 19 = some (35, 22, 33, 0, 0, 0, 0) := rfl
theorem I19_22 : am_code 19 22 = some (1, 23, 0, 0, 0, 0, 0) := rfl
theorem I19_23 : am_code 19 23 = some (4, 25, 0, 0, 0, 57, 0) := rfl
theorem I19_25 : am_code 19 25 = some (37, 28, 33, 0, 0, 0, 0) := rfl
theorem I19_28 : am_code 19 28 = some (1, 29, 0, 0, 0, 0, 0) := rfl
theorem I19_29 : am_code 19 29 = some (4, 31, 0, 0, 0, 48, 0) := rfl
theorem I19_31 : am_code 19 31 = some (11, 32, 0, 0, 0, 0, 0) := rfl
theorem I19_32 : am_code 19 32 = some (70, 33, 0, 0, 0, 0, 0) := rfl
theorem I19_33 : am_code 19 33 = some (1, 34, 0, 0, 0, 0, 0) := rfl
theorem I19_34 : am_code 19 34 = some (4, 36, 0, 0, 0, 97, 0) := rfl
theorem I19_36 : am_code 19 36 = some (35, 39, 55, 0, 0, 0, 0) := rfl
theorem I19_39 : am_code 19 39 = some (1, 40, 0, 0, 0, 0, 0) := rfl
theorem I19_40 : am_code 19 40 = some (4, 42, 0, 0, 0, 104, 0) := rfl
theorem I19_42 : am_code 19 42 = some (37, 45, 55, 0, 0, 0, 0) := rfl
theorem I19_45 : am_code 19 45 = some (1, 46, 0, 0, 0, 0, 0) := rfl
theorem I19_46 : am_code 19 46 = some (4, 48, 0, 0, 0, 97, 0) := rfl
theorem I19_48 : am_code 19 48 = some (11, 49, 0, 0, 0, 0, 0) := rfl
theorem I19_49 : am_code 19 49 = some (4, 51, 0, 0, 0, 10, 0) := rfl
theorem I19_51 : am_code 19 51 = some (10, 52, 0, 0, 0, 0, 0) := rfl
theorem I19_52 : am_code 19 52 = some (45, 55, 57, 0, 0, 0, 0) := rfl
theorem I19_55 : am_code 19 55 = some (4, 57, 0, 0, 0, (-2), 0) := rfl
theorem I19_57 : am_code 19 57 = some (70, 58, 0, 0, 0, 0, 0) := rfl
theorem I20_0 : am_code 20 0 = some (2, 1, 0, 0, 0, 0, 0) := rfl
theorem I20_1 : am_code 20 1 = some (1, 2, 1, 0, 0, 0, 0) := rfl
theorem I20_2 : am_code 20 2 = some (65, 5, 16, 1, 19, 0, 0) := rfl
theorem I20_5 : am_code 20 5 = some (39, 8, 20, 0, 0, 0, 0) := rfl
theorem I20_8 : am_code 20 8 = some (2, 9, 0, 0, 0, 0, 0) := rfl
theorem I20_9 : am_code 20 9 = some (48, 12, 1, 0, 9, 0, 0) := rfl
theorem I20_12 : am_code 20 12 = some (1, 13, 1, 0, 0, 0, 0) := rfl
theorem I20_13 : am_code 20 13 = some (51, 14, 0, 0, 0, 0, 0) := rfl
theorem I20_14 : am_code 20 14 = some (66, 17, 19, 1, 23, 0, 0) := rfl
theorem I20_17 : am_code 20 17 = some (45, 20, 22, 0, 0, 0, 0) := rfl
theorem I20_20 : am_code 20 20 = some (4, 22, 0, 0, 0, (-2), 0) := rfl
theorem I20_22 : am_code 20 22 = some (70, 23, 0, 0, 0, 0, 0) := rfl
theorem I21_0 : am_code 21 0 = some (4, 1, 0, 0, 0, 0, 0) := rfl
theorem I21_1 : am_code 21 1 = some (6, 2, 2, 0, 0, 0, 0) := rfl
theorem I21_2 : am_code 21 2 = some (1, 3, 2, 0, 0, 0, 0) := rfl
theorem I21_3 : am_code 21 3 = some (2, 4, 0, 0, 0, 0, 0) := rfl
theorem I21_4 : am_code 21 4 = some (48, 7, 1, 1, 15, 0, 0) := rfl
theorem I21_7 : am_code 21 7 = some (36, 10, 27, 0, 0, 0, 0) := rfl
theorem I21_10 : am_code 21 10 = some (2, 11, 0, 0, 0, 0, 0) := rfl
theorem I21_11 : am_code 21 11 = some (1, 12, 2, 0, 0, 0, 0) := rfl
theorem I21_12 : am_code 21 12 = some (65, 15, 20, 1, 27, 0, 0) := rfl
theorem I21_15 : am_code 21 15 = some (1, 16, 1, 0, 0, 0, 0) := rfl
theorem I21_16 : am_code 21 16 = some (34, 19, 21, 0, 0, 0, 0) := rfl
theorem I21_19 : am_code 21 19 = some (1, 20, 2, 0, 0, 0, 0) := rfl
theorem I21_20 : am_code 21 20 = some (70, 21, 0, 0, 0, 0, 0) := rfl
theorem I21_21 : am_code 21 21 = some (9, 24, 2, 0, 0, 1, 0) := rfl
theorem I21_24 : am_code 21 24 = some (45, 27, 2, 0, 0, 0, 0) := rfl
theorem I21_27 : am_code 21 27 = some (4, 28, 0, 0, 0, (-1), 0) := rfl
theorem I21_28 : am_code 21 28 = some (70, 29, 0, 0, 0, 0, 0) := rfl
theorem I22_0 : am_code 22 0 = some (4, 1, 0, 0, 0, 0, 0) := rfl
theorem I22_1 : am_code 22 1 = some (6, 2, 3, 0, 0, 0, 0) := rfl
theorem I22_2 : am_code 22 2 = some (4, 3, 0, 0, 0, 0, 0) := rfl
theorem I22_3 : am_code 22 3 = some (6, 5, 4, 0, 0, 0, 0) := rfl
theorem I22_5 : am_code 22 5 = some (1, 7, 4, 0, 0, 0, 0) := rfl
theorem I22_7 : am_code 22 7 = some (1, 8, 1, 0, 0, 0, 0) := rfl
theorem I22_8 : am_code 22 8 = some (36, 11, 30, 0, 0, 0, 0) := rfl
theorem I22_11 : am_code 22 11 = some (2, 12, 0, 0, 0, 0, 0) := rfl
theorem I22_12 : am_code 22 12 = some (1, 14, 4, 0, 0, 0, 0) := rfl
theorem I22_14 : am_code 22 14 = some (65, 17, 20, 1, 27, 0, 0) := rfl
theorem I22_17 : am_code 22 17 = some (1, 18, 2, 0, 0, 0, 0) := rfl
theorem I22_18 : am_code 22 18 = some (34, 21, 24, 0, 0, 0, 0) := rfl
theorem I22_21 : am_code 22 21 = some (9, 24, 3, 0, 0, 1, 0) := rfl
theorem I22_24 : am_code 22 24 = some (9, 27, 4, 0, 0, 1, 0) := rfl
theorem I22_27 : am_code 22 27 = some (45, 30, 5, 0, 0, 0, 0) := rfl
theorem I22_30 : am_code 22 30 = some (1, 31, 3, 0, 0, 0, 0) := rfl
theorem I22_31 : am_code 22 31 = some (70, 32, 0, 0, 0, 0, 0) := rfl
theorem I23_0 : am_code 23 0 = some (2, 1, 0, 0, 0, 0, 0) := rfl
theorem I23_1 : am_code 23 1 = some (69, 4, 0, 0, 3, 0, 0) := rfl
theorem I23_4 : am_code 23 4 = some (2, 5, 0, 0, 0, 0, 0) := rfl
theorem I23_5 : am_code 23 5 = some (4, 7, 0, 0, 0, 18, 0) := rfl
theorem I23_7 : am_code 23 7 = some (61, 9, 0, 0, 0, 0, 0) := rfl
theorem I23_9 : am_code 23 9 = some (50, 12, 2, 3, 9, 0, 0) := rfl
theorem I23_12 : am_code 23 12 = some (73, 13, 0, 0, 0, 0, 0) := rfl
theorem I24_0 : am_code 24 0 = some (2, 1, 0, 0, 0, 0, 0) := rfl
theorem I24_1 : am_code 24 1 = some (1, 2, 1, 0, 0, 0, 0) := rfl
theorem I24_2 : am_code 24 2 = some (49, 5, 2, 0, 15, 0, 0) := rfl
theorem I24_5 : am_code 24 5 = some (2, 6, 0, 0, 0, 0, 0) := rfl
theorem I24_6 : am_code 24 6 = some (1, 7, 2, 0, 0, 0, 0) := rfl
theorem I24_7 : am_code 24 7 = some (49, 10, 2, 1, 19, 0, 0) := rfl
theorem I24_10 : am_code 24 10 = some (2, 11, 0, 0, 0, 0, 0) := rfl
theorem I24_11 : am_code 24 11 = some (1, 12, 3, 0, 0, 0, 0) := rfl
theorem I24_12 : am_code 24 12 = some (49, 15, 2, 2, 22, 0, 0) := rfl
theorem I24_15 : am_code 24 15 = some (4, 16, 0, 0, 0, 0, 0) := rfl
theorem I24_16 : am_code 24 16 = some (6, 18, 4, 0, 0, 0, 0) := rfl
theorem I24_18 : am_code 24 18 = some (1, 20, 4, 0, 0, 0, 0) := rfl
theorem I24_20 : am_code 24 20 = some (4, 22, 0, 0, 0, 18, 0) := rfl
theorem I24_22 : am_code 24 22 = some (36, 25, 39, 0, 0, 0, 0) := rfl
theorem I24_25 : am_code 24 25 = some (2, 26, 0, 0, 0, 0, 0) := rfl
theorem I24_26 : am_code 24 26 = some (48, 29, 2, 3, 9, 0, 0) := rfl
theorem I24_29 : am_code 24 29 = some (1, 31, 4, 0, 0, 0, 0) := rfl
theorem I24_31 : am_code 24 31 = some (4, 32, 0, 0, 0, 0, 0) := rfl
theorem I24_32 : am_code 24 32 = some (52, 33, 0, 0, 0, 0, 0) := rfl
theorem I24_33 : am_code 24 33 = some (9, 36, 4, 0, 0, 1, 0) := rfl
theorem I24_36 : am_code 24 36 = some (45, 39, 18, 0, 0, 0, 0) := rfl
theorem I24_39 : am_code 24 39 = some (73, 40, 0, 0, 0, 0, 0) := rfl
theorem I25_0 : am_code 25 0 = some (2, 1, 0, 0, 0, 0, 0) := rfl
theorem I25_1 : am_code 25 1 = some (2, 2, 1, 0, 0, 0, 0) := rfl
theorem I25_2 : am_code 25 2 = some (48, 5, 2, 0, 15, 0, 0) := rfl
theorem I25_5 : am_code 25 5 = some (2, 6, 1, 0, 0, 0, 0) := rfl
theorem I25_6 : am_code 25 6 = some (48, 9, 2, 1, 19, 0, 0) := rfl
theorem I25_9 : am_code 25 9 = some (2, 10, 1, 0, 0, 0, 0) := rfl
theorem I25_10 : am_code 25 10 = some (48, 13, 2, 2, 22, 0, 0) := rfl
theorem I25_13 : am_code 25 13 = some (65, 16, 24, 3, 25, 0, 0) := rfl
theorem I25_16 : am_code 25 16 = some (4, 17, 0, 0, 0, 0, 0) := rfl
theorem I25_17 : am_code 25 17 = some (6, 18, 2, 0, 0, 0, 0) := rfl
theorem I25_18 : am_code 25 18 = some (1, 19, 2, 0, 0, 0, 0) := rfl
theorem I25_19 : am_code 25 19 = some (4, 21, 0, 0, 0, 18, 0) := rfl
theorem I25_21 : am_code 25 21 = some (36, 24, 42, 0, 0, 0, 0) := rfl
theorem I25_24 : am_code 25 24 = some (2, 25, 0, 0, 0, 0, 0) := rfl
theorem I25_25 : am_code 25 25 = some (48, 28, 2, 3, 9, 0, 0) := rfl
theorem I25_28 : am_code 25 28 = some (1, 29, 2, 0, 0, 0, 0) := rfl
theorem I25_29 : am_code 25 29 = some (2, 30, 1, 0, 0, 0, 0) := rfl
theorem I25_30 : am_code 25 30 = some (48, 33, 2, 3, 9, 0, 0) := rfl
theorem I25_33 : am_code 25 33 = some (1, 34, 2, 0, 0, 0, 0) := rfl
theorem I25_34 : am_code 25 34 = some (51, 35, 0, 0, 0, 0, 0) := rfl
theorem I25_35 : am_code 25 35 = some (52, 36, 0, 0, 0, 0, 0) := rfl
theorem I25_36 : am_code 25 36 = some (9, 39, 2, 0, 0, 1, 0) := rfl
theorem I25_39 : am_code 25 39 = some (45, 42, 18, 0, 0, 0, 0) := rfl
theorem I25_42 : am_code 25 42 = some (73, 43, 0, 0, 0, 0, 0) := rfl
theorem I26_0 : am_code 26 0 = some (1, 1, 1, 0, 0, 0, 0) := rfl
theorem I26_1 : am_code 26 1 = some (41, 4, 22, 0, 0, 0, 0) := rfl
theorem I26_4 : am_code 26 4 = some (1, 5, 1, 0, 0, 0, 0) := rfl
theorem I26_5 : am_code 26 5 = some (2, 6, 0, 0, 0, 0, 0) := rfl
theorem I26_6 : am_code 26 6 = some (48, 9, 2, 0, 15, 0, 0) := rfl
theorem I26_9 : am_code 26 9 = some (36, 12, 22, 0, 0, 0, 0) := rfl
theorem I26_12 : am_code 26 12 = some (1, 13, 1, 0, 0, 0, 0) := rfl
theorem I26_13 : am_code 26 13 = some (4, 15, 0, 0, 0, 18, 0) := rfl
theorem I26_15 : am_code 26 15 = some (36, 18, 22, 0, 0, 0, 0) := rfl
theorem I26_18 : am_code 26 18 = some (4, 19, 0, 0, 0, 1, 0) := rfl
theorem I26_19 : am_code 26 19 = some (45, 22, 23, 0, 0, 0, 0) := rfl
theorem I26_22 : am_code 26 22 = some (4, 23, 0, 0, 0, 0, 0) := rfl
theorem I26_23 : am_code 26 23 = some (70, 24, 1, 0, 0, 0, 0) := rfl
theorem I27_0 : am_code 27 0 = some (2, 1, 0, 0, 0, 0, 0) := rfl
theorem I27_1 : am_code 27 1 = some (48, 4, 2, 2, 22, 0, 0) := rfl
theorem I27_4 : am_code 27 4 = some (1, 5, 1, 0, 0, 0, 0) := rfl
theorem I27_5 : am_code 27 5 = some (67, 8, 88, 2, 29, 0, 0) := rfl
theorem I27_8 : am_code 27 8 = some (70, 9, 1, 0, 0, 0, 0) := rfl
theorem I28_0 : am_code 28 0 = some (2, 1, 0, 0, 0, 0, 0) := rfl
theorem I28_1 : am_code 28 1 = some (48, 4, 2, 2, 22, 0, 0) := rfl
theorem I28_4 : am_code 28 4 = some (66, 7, 92, 1, 33, 0, 0) := rfl
theorem I28_7 : am_code 28 7 = some (70, 8, 0, 0, 0, 0, 0) := rfl
theorem I29_0 : am_code 29 0 = some (4, 1, 0, 0, 0, 0, 0) := rfl
theorem I29_1 : am_code 29 1 = some (2, 2, 0, 0, 0, 0, 0) := rfl
theorem I29_2 : am_code 29 2 = some (48, 5, 2, 0, 15, 0, 0) := rfl
theorem I29_5 : am_code 29 5 = some (4, 6, 0, 0, 0, 1, 0) := rfl
theorem I29_6 : am_code 29 6 = some (11, 7, 0, 0, 0, 0, 0) := rfl
theorem I29_7 : am_code 29 7 = some (67, 10, 89, 2, 39, 0, 0) := rfl
theorem I29_10 : am_code 29 10 = some (2, 11, 0, 0, 0, 0, 0) := rfl
theorem I29_11 : am_code 29 11 = some (48, 14, 2, 1, 19, 0, 0) := rfl
theorem I29_14 : am_code 29 14 = some (4, 15, 0, 0, 0, (-1), 0) := rfl
theorem I29_15 : am_code 29 15 = some (21, 16, 0, 0, 0, 0, 0) := rfl
theorem I29_16 : am_code 29 16 = some (19, 17, 0, 0, 0, 0, 0) := rfl
theorem I29_17 : am_code 29 17 = some (70, 18, 0, 0, 0, 0, 0) := rfl
theorem I30_0 : am_code 30 0 = some (2, 1, 0, 0, 0, 0, 0) := rfl
theorem I30_1 : am_code 30 1 = some (65, 4, 29, 0, 43, 0, 0) := rfl
theorem I30_4 : am_code 30 4 = some (1, 5, 1, 0, 0, 0, 0) := rfl
theorem I30_5 : am_code 30 5 = some (67, 8, 88, 2, 29, 0, 0) := rfl
theorem I30_8 : am_code 30 8 = some (70, 9, 1, 0, 0, 0, 0) := rfl
theorem I31_0 : am_code 31 0 = some (2, 1, 0, 0, 0, 0, 0) := rfl
theorem I31_1 : am_code 31 1 = some (1, 2, 1, 0, 0, 0, 0) := rfl
theorem I31_2 : am_code 31 2 = some (65, 5, 26, 1, 47, 0, 0) := rfl
theorem I31_5 : am_code 31 5 = some (39, 8, 17, 0, 0, 0, 0) := rfl
theorem I31_8 : am_code 31 8 = some (2, 9, 0, 0, 0, 0, 0) := rfl
theorem I31_9 : am_code 31 9 = some (48, 12, 2, 3, 9, 0, 0) := rfl
theorem I31_12 : am_code 31 12 = some (1, 13, 1, 0, 0, 0, 0) := rfl
theorem I31_13 : am_code 31 13 = some (51, 14, 0, 0, 0, 0, 0) := rfl
theorem I31_14 : am_code 31 14 = some (45, 17, 18, 0, 0, 0, 0) := rfl
theorem I31_17 : am_code 31 17 = some (4, 18, 0, 0, 0, 0, 0) := rfl
theorem I31_18 : am_code 31 18 = some (70, 19, 0, 0, 0, 0, 0) := rfl
theorem I32_0 : am_code 32 0 = some (2, 1, 0, 0, 0, 0, 0) := rfl
theorem I32_1 : am_code 32 1 = some (1, 2, 1, 0, 0, 0, 0) := rfl
theorem I32_2 : am_code 32 2 = some (65, 5, 26, 1, 47, 0, 0) := rfl
theorem I32_5 : am_code 32 5 = some (39, 8, 15, 0, 0, 0, 0) := rfl
theorem I32_8 : am_code 32 8 = some (2, 9, 0, 0, 0, 0, 0) := rfl
theorem I32_9 : am_code 32 9 = some (48, 12, 2, 3, 9, 0, 0) := rfl
theorem I32_12 : am_code 32 12 = some (1, 13, 1, 0, 0, 0, 0) := rfl
theorem I32_13 : am_code 32 13 = some (1, 14, 2, 0, 0, 0, 0) := rfl
theorem I32_14 : am_code 32 14 = some (52, 15, 0, 0, 0, 0, 0) := rfl
theorem I32_15 : am_code 32 15 = some (73, 16, 0, 0, 0, 0, 0) := rfl
theorem I33_0 : am_code 33 0 = some (4, 1, 0, 0, 0, 0, 0) := rfl
theorem I33_1 : am_code 33 1 = some (6, 2, 1, 0, 0, 0, 0) := rfl
theorem I33_2 : am_code 33 2 = some (4, 3, 0, 0, 0, 0, 0) := rfl
theorem I33_3 : am_code 33 3 = some (6, 4, 2, 0, 0, 0, 0) := rfl
theorem I33_4 : am_code 33 4 = some (1, 5, 2, 0, 0, 0, 0) := rfl
theorem I33_5 : am_code 33 5 = some (2, 6, 0, 0, 0, 0, 0) := rfl
theorem I33_6 : am_code 33 6 = some (48, 9, 2, 0, 15, 0, 0) := rfl
theorem I33_9 : am_code 33 9 = some (36, 12, 32, 0, 0, 0, 0) := rfl
theorem I33_12 : am_code 33 12 = some (2, 13, 0, 0, 0, 0, 0) := rfl
theorem I33_13 : am_code 33 13 = some (1, 14, 2, 0, 0, 0, 0) := rfl
theorem I33_14 : am_code 33 14 = some (65, 17, 31, 1, 51, 0, 0) := rfl
theorem I33_17 : am_code 33 17 = some (39, 20, 26, 0, 0, 0, 0) := rfl
theorem I33_20 : am_code 33 20 = some (1, 21, 1, 0, 0, 0, 0) := rfl
theorem I33_21 : am_code 33 21 = some (4, 22, 0, 0, 0, 1, 0) := rfl
theorem I33_22 : am_code 33 22 = some (1, 23, 2, 0, 0, 0, 0) := rfl
theorem I33_23 : am_code 33 23 = some (16, 24, 0, 0, 0, 0, 0) := rfl
theorem I33_24 : am_code 33 24 = some (20, 25, 0, 0, 0, 0, 0) := rfl
theorem I33_25 : am_code 33 25 = some (6, 26, 1, 0, 0, 0, 0) := rfl
theorem I33_26 : am_code 33 26 = some (9, 29, 2, 0, 0, 1, 0) := rfl
theorem I33_29 : am_code 33 29 = some (45, 32, 4, 0, 0, 0, 0) := rfl
theorem I33_32 : am_code 33 32 = some (1, 33, 1, 0, 0, 0, 0) := rfl
theorem I33_33 : am_code 33 33 = some (70, 34, 0, 0, 0, 0, 0) := rfl
theorem I34_0 : am_code 34 0 = some (4, 1, 0, 0, 0, 0, 0) := rfl
theorem I34_1 : am_code 34 1 = some (6, 2, 2, 0, 0, 0, 0) := rfl
theorem I34_2 : am_code 34 2 = some (4, 3, 0, 0, 0, 0, 0) := rfl
theorem I34_3 : am_code 34 3 = some (6, 4, 3, 0, 0, 0, 0) := rfl
theorem I34_4 : am_code 34 4 = some (1, 5, 3, 0, 0, 0, 0) := rfl
theorem I34_5 : am_code 34 5 = some (2, 6, 0, 0, 0, 0, 0) := rfl
theorem I34_6 : am_code 34 6 = some (48, 9, 2, 0, 15, 0, 0) := rfl
theorem I34_9 : am_code 34 9 = some (36, 12, 33, 0, 0, 0, 0) := rfl
theorem I34_12 : am_code 34 12 = some (2, 13, 0, 0, 0, 0, 0) := rfl
theorem I34_13 : am_code 34 13 = some (1, 14, 3, 0, 0, 0, 0) := rfl
theorem I34_14 : am_code 34 14 = some (65, 17, 31, 1, 51, 0, 0) := rfl
theorem I34_17 : am_code 34 17 = some (1, 18, 1, 0, 0, 0, 0) := rfl
theorem I34_18 : am_code 34 18 = some (34, 21, 27, 0, 0, 0, 0) := rfl
theorem I34_21 : am_code 34 21 = some (1, 22, 2, 0, 0, 0, 0) := rfl
theorem I34_22 : am_code 34 22 = some (4, 23, 0, 0, 0, 1, 0) := rfl
theorem I34_23 : am_code 34 23 = some (1, 24, 3, 0, 0, 0, 0) := rfl
theorem I34_24 : am_code 34 24 = some (16, 25, 0, 0, 0, 0, 0) := rfl
theorem I34_25 : am_code 34 25 = some (20, 26, 0, 0, 0, 0, 0) := rfl
theorem I34_26 : am_code 34 26 = some (6, 27, 2, 0, 0, 0, 0) := rfl
theorem I34_27 : am_code 34 27 = some (9, 30, 3, 0, 0, 1, 0) := rfl
theorem I34_30 : am_code 34 30 = some (45, 33, 4, 0, 0, 0, 0) := rfl
theorem I34_33 : am_code 34 33 = some (1, 34, 2, 0, 0, 0, 0) := rfl
theorem I34_34 : am_code 34 34 = some (70, 35, 0, 0, 0, 0, 0) := rfl
theorem I35_0 : am_code 35 0 = some (2, 1, 0, 0, 0, 0, 0) := rfl
theorem I35_1 : am_code 35 1 = some (65, 4, 29, 0, 43, 0, 0) := rfl
theorem I35_4 : am_code 35 4 = some (2, 5, 0, 0, 0, 0, 0) := rfl
theorem I35_5 : am_code 35 5 = some (4, 6, 0, 0, 0, 0, 0) := rfl
theorem I35_6 : am_code 35 6 = some (65, 9, 34, 1, 54, 0, 0) := rfl
theorem I35_9 : am_code 35 9 = some (2, 10, 0, 0, 0, 0, 0) := rfl
theorem I35_10 : am_code 35 10 = some (1, 11, 1, 0, 0, 0, 0) := rfl
theorem I35_11 : am_code 35 11 = some (65, 14, 34, 1, 54, 0, 0) := rfl
theorem I35_14 : am_code 35 14 = some (20, 15, 0, 0, 0, 0, 0) := rfl
theorem I35_15 : am_code 35 15 = some (19, 16, 0, 0, 0, 0, 0) := rfl
theorem I35_16 : am_code 35 16 = some (6, 17, 2, 0, 0, 0, 0) := rfl
theorem I35_17 : am_code 35 17 = some (1, 18, 2, 0, 0, 0, 0) := rfl
theorem I35_18 : am_code 35 18 = some (1, 19, 2, 0, 0, 0, 0) := rfl
theorem I35_19 : am_code 35 19 = some (1, 20, 1, 0, 0, 0, 0) := rfl
theorem I35_20 : am_code 35 20 = some (17, 21, 0, 0, 0, 0, 0) := rfl
theorem I35_21 : am_code 35 21 = some (19, 22, 0, 0, 0, 0, 0) := rfl
theorem I35_22 : am_code 35 22 = some (70, 23, 0, 0, 0, 0, 0) := rfl
theorem I36_0 : am_code 36 0 = some (2, 1, 0, 0, 0, 0, 0) := rfl
theorem I36_1 : am_code 36 1 = some (65, 4, 29, 0, 43, 0, 0) := rfl
theorem I36_4 : am_code 36 4 = some (66, 7, 92, 1, 33, 0, 0) := rfl
theorem I36_7 : am_code 36 7 = some (4, 8, 0, 0, 0, 2, 0) := rfl
theorem I36_8 : am_code 36 8 = some (2, 9, 0, 0, 0, 0, 0) := rfl
theorem I36_9 : am_code 36 9 = some (65, 12, 28, 0, 57, 0, 0) := rfl
theorem I36_12 : am_code 36 12 = some (12, 13, 0, 0, 0, 0, 0) := rfl
theorem I36_13 : am_code 36 13 = some (34, 16, 20, 0, 0, 0, 0) := rfl
theorem I36_16 : am_code 36 16 = some (4, 17, 0, 0, 0, 1, 0) := rfl
theorem I36_17 : am_code 36 17 = some (45, 20, 21, 0, 0, 0, 0) := rfl
theorem I36_20 : am_code 36 20 = some (4, 21, 0, 0, 0, 0, 0) := rfl
theorem I36_21 : am_code 36 21 = some (70, 22, 1, 0, 0, 0, 0) := rfl
theorem I37_0 : am_code 37 0 = some (2, 1, 0, 0, 0, 0, 0) := rfl
theorem I37_1 : am_code 37 1 = some (65, 4, 29, 0, 43, 0, 0) := rfl
theorem I37_4 : am_code 37 4 = some (67, 7, 90, 1, 60, 0, 0) := rfl
theorem I37_7 : am_code 37 7 = some (2, 8, 0, 0, 0, 0, 0) := rfl
theorem I37_8 : am_code 37 8 = some (48, 11, 2, 2, 22, 0, 0) := rfl
theorem I37_11 : am_code 37 11 = some (67, 14, 90, 1, 60, 0, 0) := rfl
theorem I37_14 : am_code 37 14 = some (11, 15, 0, 0, 0, 0, 0) := rfl
theorem I37_15 : am_code 37 15 = some (70, 16, 0, 0, 0, 0, 0) := rfl
theorem I38_0 : am_code 38 0 = some (2, 1, 0, 0, 0, 0, 0) := rfl
theorem I38_1 : am_code 38 1 = some (65, 4, 29, 0, 43, 0, 0) := rfl
theorem I38_4 : am_code 38 4 = some (6, 5, 1, 0, 0, 0, 0) := rfl
theorem I38_5 : am_code 38 5 = some (1, 6, 1, 0, 0, 0, 0) := rfl
theorem I38_6 : am_code 38 6 = some (66, 9, 92, 1, 33, 0, 0) := rfl
theorem I38_9 : am_code 38 9 = some (4, 10, 0, 0, 0, 2, 0) := rfl
theorem I38_10 : am_code 38 10 = some (13, 11, 0, 0, 0, 0, 0) := rfl
theorem I38_11 : am_code 38 11 = some (6, 12, 2, 0, 0, 0, 0) := rfl
theorem I38_12 : am_code 38 12 = some (4, 13, 0, 0, 0, 0, 0) := rfl
theorem I38_13 : am_code 38 13 = some (6, 14, 3, 0, 0, 0, 0) := rfl
theorem I38_14 : am_code 38 14 = some (4, 15, 0, 0, 0, 0, 0) := rfl
theorem I38_15 : am_code 38 15 = some (6, 17, 4, 0, 0, 0, 0) := rfl
theorem I38_17 : am_code 38 17 = some (4, 18, 0, 0, 0, 0, 0) := rfl
theorem I38_18 : am_code 38 18 = some (6, 20, 5, 0, 0, 0, 0) := rfl
theorem I38_20 : am_code 38 20 = some (1, 22, 5, 0, 0, 0, 0) := rfl
theorem I38_22 : am_code 38 22 = some (2, 23, 0, 0, 0, 0, 0) := rfl
theorem I38_23 : am_code 38 23 = some (48, 26, 2, 0, 15, 0, 0) := rfl
theorem I38_26 : am_code 38 26 = some (36, 29, 65, 0, 0, 0, 0) := rfl
theorem I38_29 : am_code 38 29 = some (1, 30, 1, 0, 0, 0, 0) := rfl
theorem I38_30 : am_code 38 30 = some (1, 32, 5, 0, 0, 0, 0) := rfl
theorem I38_32 : am_code 38 32 = some (67, 35, 88, 2, 29, 0, 0) := rfl
theorem I38_35 : am_code 38 35 = some (39, 38, 59, 0, 0, 0, 0) := rfl
theorem I38_38 : am_code 38 38 = some (1, 40, 4, 0, 0, 0, 0) := rfl
theorem I38_40 : am_code 38 40 = some (1, 41, 3, 0, 0, 0, 0) := rfl
theorem I38_41 : am_code 38 41 = some (1, 42, 2, 0, 0, 0, 0) := rfl
theorem I38_42 : am_code 38 42 = some (36, 45, 51, 0, 0, 0, 0) := rfl
theorem I38_45 : am_code 38 45 = some (1, 47, 5, 0, 0, 0, 0) := rfl
theorem I38_47 : am_code 38 47 = some (15, 48, 0, 0, 0, 0, 0) := rfl
theorem I38_48 : am_code 38 48 = some (45, 51, 53, 0, 0, 0, 0) := rfl
theorem I38_51 : am_code 38 51 = some (1, 53, 5, 0, 0, 0, 0) := rfl
theorem I38_53 : am_code 38 53 = some (10, 54, 0, 0, 0, 0, 0) := rfl
theorem I38_54 : am_code 38 54 = some (6, 56, 4, 0, 0, 0, 0) := rfl
theorem I38_56 : am_code 38 56 = some (9, 59, 3, 0, 0, 1, 0) := rfl
theorem I38_59 : am_code 38 59 = some (9, 62, 5, 0, 0, 1, 0) := rfl
theorem I38_62 : am_code 38 62 = some (45, 65, 20, 0, 0, 0, 0) := rfl
theorem I38_65 : am_code 38 65 = some (1, 67, 4, 0, 0, 0, 0) := rfl
theorem I38_67 : am_code 38 67 = some (2, 68, 0, 0, 0, 0, 0) := rfl
theorem I38_68 : am_code 38 68 = some (48, 71, 2, 2, 22, 0, 0) := rfl
theorem I38_71 : am_code 38 71 = some (67, 74, 90, 1, 60, 0, 0) := rfl
theorem I38_74 : am_code 38 74 = some (11, 75, 0, 0, 0, 0, 0) := rfl
theorem I38_75 : am_code 38 75 = some (70, 76, 0, 0, 0, 0, 0) := rfl
theorem I39_0 : am_code 39 0 = some (2, 1, 0, 0, 0, 0, 0) := rfl
theorem I39_1 : am_code 39 1 = some (65, 4, 36, 0, 63, 0, 0) := rfl
theorem I39_4 : am_code 39 4 = some (39, 7, 39, 0, 0, 0, 0) := rfl
theorem I39_7 : am_code 39 7 = some (2, 8, 0, 0, 0, 0, 0) := rfl
theorem I39_8 : am_code 39 8 = some (65, 11, 37, 0, 67, 0, 0) := rfl
theorem I39_11 : am_code 39 11 = some (4, 12, 0, 0, 0, 1, 0) := rfl
theorem I39_12 : am_code 39 12 = some (19, 13, 0, 0, 0, 0, 0) := rfl
theorem I39_13 : am_code 39 13 = some (40, 16, 39, 0, 0, 0, 0) := rfl
theorem I39_16 : am_code 39 16 = some (2, 17, 0, 0, 0, 0, 0) := rfl
theorem I39_17 : am_code 39 17 = some (65, 20, 38, 0, 70, 0, 0) := rfl
theorem I39_20 : am_code 39 20 = some (41, 23, 39, 0, 0, 0, 0) := rfl
theorem I39_23 : am_code 39 23 = some (2, 24, 0, 0, 0, 0, 0) := rfl
theorem I39_24 : am_code 39 24 = some (65, 27, 33, 0, 73, 0, 0) := rfl
theorem I39_27 : am_code 39 27 = some (2, 28, 0, 0, 0, 0, 0) := rfl
theorem I39_28 : am_code 39 28 = some (48, 31, 2, 1, 19, 0, 0) := rfl
theorem I39_31 : am_code 39 31 = some (19, 32, 0, 0, 0, 0, 0) := rfl
theorem I39_32 : am_code 39 32 = some (40, 35, 39, 0, 0, 0, 0) := rfl
theorem I39_35 : am_code 39 35 = some (4, 36, 0, 0, 0, 1, 0) := rfl
theorem I39_36 : am_code 39 36 = some (45, 39, 40, 0, 0, 0, 0) := rfl
theorem I39_39 : am_code 39 39 = some (4, 40, 0, 0, 0, 0, 0) := rfl
theorem I39_40 : am_code 39 40 = some (70, 41, 1, 0, 0, 0, 0) := rfl
theorem I40_0 : am_code 40 0 = some (2, 1, 0, 0, 0, 0, 0) := rfl
theorem I40_1 : am_code 40 1 = some (69, 4, 0, 0, 3, 0, 0) := rfl
theorem I40_4 : am_code 40 4 = some (2, 5, 0, 0, 0, 0, 0) := rfl
theorem I40_5 : am_code 40 5 = some (4, 8, 0, 0, 0, 300, 0) := rfl
theorem I40_8 : am_code 40 8 = some (61, 10, 0, 0, 0, 0, 0) := rfl
theorem I40_10 : am_code 40 10 = some (50, 13, 3, 0, 9, 0, 0) := rfl
theorem I40_13 : am_code 40 13 = some (2, 14, 0, 0, 0, 0, 0) := rfl
theorem I40_14 : am_code 40 14 = some (4, 17, 0, 0, 0, 300, 0) := rfl
theorem I40_17 : am_code 40 17 = some (61, 19, 0, 0, 0, 0, 0) := rfl
theorem I40_19 : am_code 40 19 = some (50, 22, 3, 1, 15, 0, 0) := rfl
theorem I40_22 : am_code 40 22 = some (73, 23, 0, 0, 0, 0, 0) := rfl
theorem I41_0 : am_code 41 0 = some (4, 1, 0, 0, 0, 0, 0) := rfl
theorem I41_1 : am_code 41 1 = some (6, 3, 4, 0, 0, 0, 0) := rfl
theorem I41_3 : am_code 41 3 = some (1, 5, 4, 0, 0, 0, 0) := rfl
theorem I41_5 : am_code 41 5 = some (4, 8, 0, 0, 0, 300, 0) := rfl
theorem I41_8 : am_code 41 8 = some (36, 11, 25, 0, 0, 0, 0) := rfl
theorem I41_11 : am_code 41 11 = some (2, 12, 0, 0, 0, 0, 0) := rfl
theorem I41_12 : am_code 41 12 = some (48, 15, 3, 0, 9, 0, 0) := rfl
theorem I41_15 : am_code 41 15 = some (1, 17, 4, 0, 0, 0, 0) := rfl
theorem I41_17 : am_code 41 17 = some (4, 18, 0, 0, 0, (-1), 0) := rfl
theorem I41_18 : am_code 41 18 = some (52, 19, 0, 0, 0, 0, 0) := rfl
theorem I41_19 : am_code 41 19 = some (9, 22, 4, 0, 0, 1, 0) := rfl
theorem I41_22 : am_code 41 22 = some (45, 25, 3, 0, 0, 0, 0) := rfl
theorem I41_25 : am_code 41 25 = some (2, 26, 0, 0, 0, 0, 0) := rfl
theorem I41_26 : am_code 41 26 = some (4, 27, 0, 0, 0, 0, 0) := rfl
theorem I41_27 : am_code 41 27 = some (49, 30, 3, 2, 18, 0, 0) := rfl
theorem I41_30 : am_code 41 30 = some (2, 31, 0, 0, 0, 0, 0) := rfl
theorem I41_31 : am_code 41 31 = some (1, 32, 2, 0, 0, 0, 0) := rfl
theorem I41_32 : am_code 41 32 = some (4, 33, 0, 0, 0, 0, 0) := rfl
theorem I41_33 : am_code 41 33 = some (65, 36, 43, 2, 22, 0, 0) := rfl
theorem I41_36 : am_code 41 36 = some (4, 37, 0, 0, 0, 0, 0) := rfl
theorem I41_37 : am_code 41 37 = some (6, 39, 4, 0, 0, 0, 0) := rfl
theorem I41_39 : am_code 41 39 = some (1, 41, 4, 0, 0, 0, 0) := rfl
theorem I41_41 : am_code 41 41 = some (2, 42, 0, 0, 0, 0, 0) := rfl
theorem I41_42 : am_code 41 42 = some (48, 45, 3, 2, 18, 0, 0) := rfl
theorem I41_45 : am_code 41 45 = some (36, 48, 88, 0, 0, 0, 0) := rfl
theorem I41_48 : am_code 41 48 = some (1, 50, 4, 0, 0, 0, 0) := rfl
theorem I41_50 : am_code 41 50 = some (4, 53, 0, 0, 0, 300, 0) := rfl
theorem I41_53 : am_code 41 53 = some (36, 56, 88, 0, 0, 0, 0) := rfl
theorem I41_56 : am_code 41 56 = some (2, 57, 0, 0, 0, 0, 0) := rfl
theorem I41_57 : am_code 41 57 = some (48, 60, 3, 1, 15, 0, 0) := rfl
theorem I41_60 : am_code 41 60 = some (1, 62, 4, 0, 0, 0, 0) := rfl
theorem I41_62 : am_code 41 62 = some (51, 63, 0, 0, 0, 0, 0) := rfl
theorem I41_63 : am_code 41 63 = some (1, 64, 3, 0, 0, 0, 0) := rfl
theorem I41_64 : am_code 41 64 = some (34, 67, 70, 0, 0, 0, 0) := rfl
theorem I41_67 : am_code 41 67 = some (45, 70, 88, 0, 0, 0, 0) := rfl
theorem I41_70 : am_code 41 70 = some (2, 71, 0, 0, 0, 0, 0) := rfl
theorem I41_71 : am_code 41 71 = some (2, 72, 1, 0, 0, 0, 0) := rfl
theorem I41_72 : am_code 41 72 = some (2, 73, 0, 0, 0, 0, 0) := rfl
theorem I41_73 : am_code 41 73 = some (48, 76, 3, 1, 15, 0, 0) := rfl
theorem I41_76 : am_code 41 76 = some (1, 78, 4, 0, 0, 0, 0) := rfl
theorem I41_78 : am_code 41 78 = some (51, 79, 0, 0, 0, 0, 0) := rfl
theorem I41_79 : am_code 41 79 = some (65, 82, 42, 2, 26, 0, 0) := rfl
theorem I41_82 : am_code 41 82 = some (9, 85, 4, 0, 0, 1, 0) := rfl
theorem I41_85 : am_code 41 85 = some (45, 88, 39, 0, 0, 0, 0) := rfl
theorem I41_88 : am_code 41 88 = some (1, 89, 3, 0, 0, 0, 0) := rfl
theorem I41_89 : am_code 41 89 = some (41, 92, 108, 0, 0, 0, 0) := rfl
theorem I41_92 : am_code 41 92 = some (1, 93, 3, 0, 0, 0, 0) := rfl
theorem I41_93 : am_code 41 93 = some (4, 96, 0, 0, 0, 300, 0) := rfl
theorem I41_96 : am_code 41 96 = some (36, 99, 108, 0, 0, 0, 0) := rfl
theorem I41_99 : am_code 41 99 = some (2, 100, 0, 0, 0, 0, 0) := rfl
theorem I41_100 : am_code 41 100 = some (48, 103, 3, 0, 9, 0, 0) := rfl
theorem I41_103 : am_code 41 103 = some (1, 104, 3, 0, 0, 0, 0) := rfl
theorem I41_104 : am_code 41 104 = some (51, 105, 0, 0, 0, 0, 0) := rfl
theorem I41_105 : am_code 41 105 = some (45, 108, 109, 0, 0, 0, 0) := rfl
theorem I41_108 : am_code 41 108 = some (4, 109, 0, 0, 0, (-1), 0) := rfl
theorem I41_109 : am_code 41 109 = some (70, 110, 0, 0, 0, 0, 0) := rfl
theorem I42_0 : am_code 42 0 = some (1, 1, 2, 0, 0, 0, 0) := rfl
theorem I42_1 : am_code 42 1 = some (41, 4, 22, 0, 0, 0, 0) := rfl
theorem I42_4 : am_code 42 4 = some (1, 5, 2, 0, 0, 0, 0) := rfl
theorem I42_5 : am_code 42 5 = some (4, 8, 0, 0, 0, 300, 0) := rfl
theorem I42_8 : am_code 42 8 = some (36, 11, 22, 0, 0, 0, 0) := rfl
theorem I42_11 : am_code 42 11 = some (2, 12, 0, 0, 0, 0, 0) := rfl
theorem I42_12 : am_code 42 12 = some (48, 15, 3, 0, 9, 0, 0) := rfl
theorem I42_15 : am_code 42 15 = some (1, 16, 2, 0, 0, 0, 0) := rfl
theorem I42_16 : am_code 42 16 = some (51, 17, 0, 0, 0, 0, 0) := rfl
theorem I42_17 : am_code 42 17 = some (4, 18, 0, 0, 0, 1, 0) := rfl
theorem I42_18 : am_code 42 18 = some (10, 19, 0, 0, 0, 0, 0) := rfl
theorem I42_19 : am_code 42 19 = some (45, 22, 23, 0, 0, 0, 0) := rfl
theorem I42_22 : am_code 42 22 = some (4, 23, 0, 0, 0, 0, 0) := rfl
theorem I42_23 : am_code 42 23 = some (6, 24, 3, 0, 0, 0, 0) := rfl
theorem I42_24 : am_code 42 24 = some (2, 25, 1, 0, 0, 0, 0) := rfl
theorem I42_25 : am_code 42 25 = some (48, 28, 0, 5, 30, 0, 0) := rfl
theorem I42_28 : am_code 42 28 = some (4, 31, 0, 0, 0, 300, 0) := rfl
theorem I42_31 : am_code 42 31 = some (76, 34, 0, 0, 35, 0, 0) := rfl
theorem I42_34 : am_code 42 34 = some (6, 36, 4, 0, 0, 0, 0) := rfl
theorem I42_36 : am_code 42 36 = some (4, 37, 0, 0, 0, 0, 0) := rfl
theorem I42_37 : am_code 42 37 = some (6, 39, 5, 0, 0, 0, 0) := rfl
theorem I42_39 : am_code 42 39 = some (1, 41, 5, 0, 0, 0, 0) := rfl
theorem I42_41 : am_code 42 41 = some (1, 43, 4, 0, 0, 0, 0) := rfl
theorem I42_43 : am_code 42 43 = some (36, 46, 80, 0, 0, 0, 0) := rfl
theorem I42_46 : am_code 42 46 = some (2, 47, 0, 0, 0, 0, 0) := rfl
theorem I42_47 : am_code 42 47 = some (48, 50, 3, 0, 9, 0, 0) := rfl
theorem I42_50 : am_code 42 50 = some (1, 52, 5, 0, 0, 0, 0) := rfl
theorem I42_52 : am_code 42 52 = some (51, 53, 0, 0, 0, 0, 0) := rfl
theorem I42_53 : am_code 42 53 = some (42, 56, 74, 0, 0, 0, 0) := rfl
theorem I42_56 : am_code 42 56 = some (2, 57, 1, 0, 0, 0, 0) := rfl
theorem I42_57 : am_code 42 57 = some (1, 58, 2, 0, 0, 0, 0) := rfl
theorem I42_58 : am_code 42 58 = some (1, 60, 5, 0, 0, 0, 0) := rfl
theorem I42_60 : am_code 42 60 = some (65, 63, 13, 2, 41, 0, 0) := rfl
theorem I42_63 : am_code 42 63 = some (4, 64, 0, 0, 0, 3, 0) := rfl
theorem I42_64 : am_code 42 64 = some (34, 67, 74, 0, 0, 0, 0) := rfl
theorem I42_67 : am_code 42 67 = some (2, 68, 0, 0, 0, 0, 0) := rfl
theorem I42_68 : am_code 42 68 = some (1, 70, 5, 0, 0, 0, 0) := rfl
theorem I42_70 : am_code 42 70 = some (1, 71, 3, 0, 0, 0, 0) := rfl
theorem I42_71 : am_code 42 71 = some (65, 74, 43, 2, 22, 0, 0) := rfl
theorem I42_74 : am_code 42 74 = some (9, 77, 5, 0, 0, 1, 0) := rfl
theorem I42_77 : am_code 42 77 = some (45, 80, 39, 0, 0, 0, 0) := rfl
theorem I42_80 : am_code 42 80 = some (73, 81, 0, 0, 0, 0, 0) := rfl
theorem I43_0 : am_code 43 0 = some (1, 1, 1, 0, 0, 0, 0) := rfl
theorem I43_1 : am_code 43 1 = some (41, 4, 55, 0, 0, 0, 0) := rfl
theorem I43_4 : am_code 43 4 = some (1, 5, 1, 0, 0, 0, 0) := rfl
theorem I43_5 : am_code 43 5 = some (4, 8, 0, 0, 0, 300, 0) := rfl
theorem I43_8 : am_code 43 8 = some (36, 11, 55, 0, 0, 0, 0) := rfl
theorem I43_11 : am_code 43 11 = some (2, 12, 0, 0, 0, 0, 0) := rfl
theorem I43_12 : am_code 43 12 = some (48, 15, 3, 2, 18, 0, 0) := rfl
theorem I43_15 : am_code 43 15 = some (41, 18, 55, 0, 0, 0, 0) := rfl
theorem I43_18 : am_code 43 18 = some (2, 19, 0, 0, 0, 0, 0) := rfl
theorem I43_19 : am_code 43 19 = some (48, 22, 3, 2, 18, 0, 0) := rfl
theorem I43_22 : am_code 43 22 = some (4, 25, 0, 0, 0, 300, 0) := rfl
theorem I43_25 : am_code 43 25 = some (36, 28, 55, 0, 0, 0, 0) := rfl
theorem I43_28 : am_code 43 28 = some (2, 29, 0, 0, 0, 0, 0) := rfl
theorem I43_29 : am_code 43 29 = some (48, 32, 3, 0, 9, 0, 0) := rfl
theorem I43_32 : am_code 43 32 = some (1, 33, 1, 0, 0, 0, 0) := rfl
theorem I43_33 : am_code 43 33 = some (1, 34, 2, 0, 0, 0, 0) := rfl
theorem I43_34 : am_code 43 34 = some (52, 35, 0, 0, 0, 0, 0) := rfl
theorem I43_35 : am_code 43 35 = some (2, 36, 0, 0, 0, 0, 0) := rfl
theorem I43_36 : am_code 43 36 = some (48, 39, 3, 1, 15, 0, 0) := rfl
theorem I43_39 : am_code 43 39 = some (2, 40, 0, 0, 0, 0, 0) := rfl
theorem I43_40 : am_code 43 40 = some (48, 43, 3, 2, 18, 0, 0) := rfl
theorem I43_43 : am_code 43 43 = some (1, 44, 1, 0, 0, 0, 0) := rfl
theorem I43_44 : am_code 43 44 = some (52, 45, 0, 0, 0, 0, 0) := rfl
theorem I43_45 : am_code 43 45 = some (2, 46, 0, 0, 0, 0, 0) := rfl
theorem I43_46 : am_code 43 46 = some (63, 47, 0, 0, 0, 0, 0) := rfl
theorem I43_47 : am_code 43 47 = some (48, 50, 3, 2, 18, 0, 0) := rfl
theorem I43_50 : am_code 43 50 = some (4, 51, 0, 0, 0, 1, 0) := rfl
theorem I43_51 : am_code 43 51 = some (10, 52, 0, 0, 0, 0, 0) := rfl
theorem I43_52 : am_code 43 52 = some (49, 55, 3, 2, 18, 0, 0) := rfl
theorem I43_55 : am_code 43 55 = some (73, 56, 0, 0, 0, 0, 0) := rfl
theorem I44_0 : am_code 44 0 = some (2, 1, 0, 0, 0, 0, 0) := rfl
theorem I44_1 : am_code 44 1 = some (69, 4, 0, 0, 1, 0, 0) := rfl
theorem I44_4 : am_code 44 4 = some (2, 5, 0, 0, 0, 0, 0) := rfl
theorem I44_5 : am_code 44 5 = some (60, 8, 2, 0, 7, 0, 0) := rfl
theorem I44_8 : am_code 44 8 = some (63, 9, 0, 0, 0, 0, 0) := rfl
theorem I44_9 : am_code 44 9 = some (68, 12, 23, 0, 9, 0, 0) := rfl
theorem I44_12 : am_code 44 12 = some (50, 15, 4, 0, 10, 0, 0) := rfl
theorem I44_15 : am_code 44 15 = some (2, 16, 0, 0, 0, 0, 0) := rfl
theorem I44_16 : am_code 44 16 = some (48, 19, 4, 0, 10, 0, 0) := rfl
theorem I44_19 : am_code 44 19 = some (4, 20, 0, 0, 0, 2, 0) := rfl
theorem I44_20 : am_code 44 20 = some (4, 21, 0, 0, 0, 0, 0) := rfl
theorem I44_21 : am_code 44 21 = some (4, 22, 0, 0, 0, 1, 0) := rfl
theorem I44_22 : am_code 44 22 = some (4, 23, 0, 0, 0, 1, 0) := rfl
theorem I44_23 : am_code 44 23 = some (66, 26, 89, 2, 16, 0, 0) := rfl
theorem I44_26 : am_code 44 26 = some (65, 29, 24, 3, 20, 0, 0) := rfl
theorem I44_29 : am_code 44 29 = some (2, 30, 0, 0, 0, 0, 0) := rfl
theorem I44_30 : am_code 44 30 = some (60, 33, 0, 0, 24, 0, 0) := rfl
theorem I44_33 : am_code 44 33 = some (63, 34, 0, 0, 0, 0, 0) := rfl
theorem I44_34 : am_code 44 34 = some (4, 37, 0, 0, 0, 512, 0) := rfl
theorem I44_37 : am_code 44 37 = some (68, 40, 0, 1, 26, 0, 0) := rfl
theorem I44_40 : am_code 44 40 = some (50, 43, 4, 1, 29, 0, 0) := rfl
theorem I44_43 : am_code 44 43 = some (2, 44, 0, 0, 0, 0, 0) := rfl
theorem I44_44 : am_code 44 44 = some (60, 47, 3, 0, 33, 0, 0) := rfl
theorem I44_47 : am_code 44 47 = some (63, 48, 0, 0, 0, 0, 0) := rfl
theorem I44_48 : am_code 44 48 = some (68, 51, 40, 0, 35, 0, 0) := rfl
theorem I44_51 : am_code 44 51 = some (50, 54, 4, 2, 36, 0, 0) := rfl
theorem I44_54 : am_code 44 54 = some (2, 55, 0, 0, 0, 0, 0) := rfl
theorem I44_55 : am_code 44 55 = some (60, 58, 1, 0, 40, 0, 0) := rfl
theorem I44_58 : am_code 44 58 = some (63, 59, 0, 0, 0, 0, 0) := rfl
theorem I44_59 : am_code 44 59 = some (68, 62, 15, 0, 42, 0, 0) := rfl
theorem I44_62 : am_code 44 62 = some (50, 65, 4, 3, 43, 0, 0) := rfl
theorem I44_65 : am_code 44 65 = some (2, 66, 0, 0, 0, 0, 0) := rfl
theorem I44_66 : am_code 44 66 = some (60, 69, 2, 0, 7, 0, 0) := rfl
theorem I44_69 : am_code 44 69 = some (63, 70, 0, 0, 0, 0, 0) := rfl
theorem I44_70 : am_code 44 70 = some (68, 73, 23, 0, 9, 0, 0) := rfl
theorem I44_73 : am_code 44 73 = some (50, 76, 4, 4, 47, 0, 0) := rfl
theorem I44_76 : am_code 44 76 = some (2, 77, 0, 0, 0, 0, 0) := rfl
theorem I44_77 : am_code 44 77 = some (60, 80, 0, 0, 24, 0, 0) := rfl
theorem I44_80 : am_code 44 80 = some (63, 81, 0, 0, 0, 0, 0) := rfl
theorem I44_81 : am_code 44 81 = some (4, 82, 0, 0, 0, 1, 0) := rfl
theorem I44_82 : am_code 44 82 = some (68, 85, 0, 1, 26, 0, 0) := rfl
theorem I44_85 : am_code 44 85 = some (50, 88, 4, 5, 50, 0, 0) := rfl
theorem I44_88 : am_code 44 88 = some (2, 89, 0, 0, 0, 0, 0) := rfl
theorem I44_89 : am_code 44 89 = some (4, 90, 0, 0, 0, 2, 0) := rfl
theorem I44_90 : am_code 44 90 = some (62, 93, 2, 0, 7, 0, 0) := rfl
theorem I44_93 : am_code 44 93 = some (50, 96, 4, 6, 53, 0, 0) := rfl
theorem I44_96 : am_code 44 96 = some (4, 97, 0, 0, 0, 0, 0) := rfl
theorem I44_97 : am_code 44 97 = some (6, 98, 1, 0, 0, 0, 0) := rfl
theorem I44_98 : am_code 44 98 = some (1, 99, 1, 0, 0, 0, 0) := rfl
theorem I44_99 : am_code 44 99 = some (4, 100, 0, 0, 0, 2, 0) := rfl
theorem I44_100 : am_code 44 100 = some (36, 103, 122, 0, 0, 0, 0) := rfl
theorem I44_103 : am_code 44 103 = some (2, 104, 0, 0, 0, 0, 0) := rfl
theorem I44_104 : am_code 44 104 = some (48, 107, 4, 6, 53, 0, 0) := rfl
theorem I44_107 : am_code 44 107 = some (1, 108, 1, 0, 0, 0, 0) := rfl
theorem I44_108 : am_code 44 108 = some (60, 111, 2, 0, 7, 0, 0) := rfl
theorem I44_111 : am_code 44 111 = some (63, 112, 0, 0, 0, 0, 0) := rfl
theorem I44_112 : am_code 44 112 = some (68, 115, 23, 0, 9, 0, 0) := rfl
theorem I44_115 : am_code 44 115 = some (58, 116, 0, 0, 0, 0, 0) := rfl
theorem I44_116 : am_code 44 116 = some (9, 119, 1, 0, 0, 1, 0) := rfl
theorem I44_119 : am_code 44 119 = some (45, 122, 98, 0, 0, 0, 0) := rfl
theorem I44_122 : am_code 44 122 = some (2, 123, 0, 0, 0, 0, 0) := rfl
theorem I44_123 : am_code 44 123 = some (4, 124, 0, 0, 0, 1, 0) := rfl
theorem I44_124 : am_code 44 124 = some (49, 127, 4, 7, 57, 0, 0) := rfl
theorem I44_127 : am_code 44 127 = some (73, 128, 0, 0, 0, 0, 0) := rfl
theorem I45_0 : am_code 45 0 = some (1, 1, 1, 0, 0, 0, 0) := rfl
theorem I45_1 : am_code 45 1 = some (4, 2, 0, 0, 0, 1, 0) := rfl
theorem I45_2 : am_code 45 2 = some (35, 5, 11, 0, 0, 0, 0) := rfl
theorem I45_5 : am_code 45 5 = some (1, 6, 1, 0, 0, 0, 0) := rfl
theorem I45_6 : am_code 45 6 = some (4, 8, 0, 0, 0, 18, 0) := rfl
theorem I45_8 : am_code 45 8 = some (38, 11, 14, 0, 0, 0, 0) := rfl
theorem I45_11 : am_code 45 11 = some (4, 13, 0, 0, 0, (-2), 0) := rfl
theorem I45_13 : am_code 45 13 = some (70, 14, 0, 0, 0, 0, 0) := rfl
theorem I45_14 : am_code 45 14 = some (1, 15, 2, 0, 0, 0, 0) := rfl
theorem I45_15 : am_code 45 15 = some (4, 16, 0, 0, 0, 0, 0) := rfl
theorem I45_16 : am_code 45 16 = some (1, 17, 1, 0, 0, 0, 0) := rfl
theorem I45_17 : am_code 45 17 = some (4, 18, 0, 0, 0, 1, 0) := rfl
theorem I45_18 : am_code 45 18 = some (11, 19, 0, 0, 0, 0, 0) := rfl
theorem I45_19 : am_code 45 19 = some (66, 22, 89, 2, 16, 0, 0) := rfl
theorem I45_22 : am_code 45 22 = some (4, 23, 0, 0, 0, (-1), 0) := rfl
theorem I45_23 : am_code 45 23 = some (21, 24, 0, 0, 0, 0, 0) := rfl
theorem I45_24 : am_code 45 24 = some (19, 25, 0, 0, 0, 0, 0) := rfl
theorem I45_25 : am_code 45 25 = some (39, 28, 31, 0, 0, 0, 0) := rfl
theorem I45_28 : am_code 45 28 = some (4, 30, 0, 0, 0, (-2), 0) := rfl
theorem I45_30 : am_code 45 30 = some (70, 31, 0, 0, 0, 0, 0) := rfl
theorem I45_31 : am_code 45 31 = some (1, 32, 3, 0, 0, 0, 0) := rfl
theorem I45_32 : am_code 45 32 = some (4, 33, 0, 0, 0, 1, 0) := rfl
theorem I45_33 : am_code 45 33 = some (4, 35, 0, 0, 0, 17, 0) := rfl
theorem I45_35 : am_code 45 35 = some (66, 38, 89, 2, 16, 0, 0) := rfl
theorem I45_38 : am_code 45 38 = some (4, 39, 0, 0, 0, (-1), 0) := rfl
theorem I45_39 : am_code 45 39 = some (21, 40, 0, 0, 0, 0, 0) := rfl
theorem I45_40 : am_code 45 40 = some (19, 41, 0, 0, 0, 0, 0) := rfl
theorem I45_41 : am_code 45 41 = some (39, 44, 47, 0, 0, 0, 0) := rfl
theorem I45_44 : am_code 45 44 = some (4, 46, 0, 0, 0, (-2), 0) := rfl
theorem I45_46 : am_code 45 46 = some (70, 47, 0, 0, 0, 0, 0) := rfl
theorem I45_47 : am_code 45 47 = some (1, 48, 3, 0, 0, 0, 0) := rfl
theorem I45_48 : am_code 45 48 = some (66, 51, 92, 1, 61, 0, 0) := rfl
theorem I45_51 : am_code 45 51 = some (6, 53, 4, 0, 0, 0, 0) := rfl
theorem I45_53 : am_code 45 53 = some (1, 55, 4, 0, 0, 0, 0) := rfl
theorem I45_55 : am_code 45 55 = some (4, 56, 0, 0, 0, 1, 0) := rfl
theorem I45_56 : am_code 45 56 = some (35, 59, 66, 0, 0, 0, 0) := rfl
theorem I45_59 : am_code 45 59 = some (1, 61, 4, 0, 0, 0, 0) := rfl
theorem I45_61 : am_code 45 61 = some (4, 63, 0, 0, 0, 8, 0) := rfl
theorem I45_63 : am_code 45 63 = some (38, 66, 69, 0, 0, 0, 0) := rfl
theorem I45_66 : am_code 45 66 = some (4, 68, 0, 0, 0, (-2), 0) := rfl
theorem I45_68 : am_code 45 68 = some (70, 69, 0, 0, 0, 0, 0) := rfl
theorem I45_69 : am_code 45 69 = some (2, 70, 0, 0, 0, 0, 0) := rfl
theorem I45_70 : am_code 45 70 = some (1, 71, 1, 0, 0, 0, 0) := rfl
theorem I45_71 : am_code 45 71 = some (1, 72, 2, 0, 0, 0, 0) := rfl
theorem I45_72 : am_code 45 72 = some (1, 73, 3, 0, 0, 0, 0) := rfl
theorem I45_73 : am_code 45 73 = some (65, 76, 51, 3, 67, 0, 0) := rfl
theorem I45_76 : am_code 45 76 = some (1, 78, 4, 0, 0, 0, 0) := rfl
theorem I45_78 : am_code 45 78 = some (70, 79, 0, 0, 0, 0, 0) := rfl
theorem I46_0 : am_code 46 0 = some (1, 1, 1, 0, 0, 0, 0) := rfl
theorem I46_1 : am_code 46 1 = some (4, 2, 0, 0, 0, 1, 0) := rfl
theorem I46_2 : am_code 46 2 = some (35, 5, 22, 0, 0, 0, 0) := rfl
theorem I46_5 : am_code 46 5 = some (1, 6, 1, 0, 0, 0, 0) := rfl
theorem I46_6 : am_code 46 6 = some (4, 8, 0, 0, 0, 10, 0) := rfl
theorem I46_8 : am_code 46 8 = some (37, 11, 22, 0, 0, 0, 0) := rfl
theorem I46_11 : am_code 46 11 = some (1, 12, 2, 0, 0, 0, 0) := rfl
theorem I46_12 : am_code 46 12 = some (4, 13, 0, 0, 0, 1, 0) := rfl
theorem I46_13 : am_code 46 13 = some (35, 16, 22, 0, 0, 0, 0) := rfl
theorem I46_16 : am_code 46 16 = some (1, 17, 2, 0, 0, 0, 0) := rfl
theorem I46_17 : am_code 46 17 = some (4, 19, 0, 0, 0, 8, 0) := rfl
theorem I46_19 : am_code 46 19 = some (38, 22, 25, 0, 0, 0, 0) := rfl
theorem I46_22 : am_code 46 22 = some (4, 24, 0, 0, 0, (-2), 0) := rfl
theorem I46_24 : am_code 46 24 = some (70, 25, 0, 0, 0, 0, 0) := rfl
theorem I46_25 : am_code 46 25 = some (2, 26, 0, 0, 0, 0, 0) := rfl
theorem I46_26 : am_code 46 26 = some (1, 27, 1, 0, 0, 0, 0) := rfl
theorem I46_27 : am_code 46 27 = some (1, 28, 1, 0, 0, 0, 0) := rfl
theorem I46_28 : am_code 46 28 = some (1, 29, 2, 0, 0, 0, 0) := rfl
theorem I46_29 : am_code 46 29 = some (10, 30, 0, 0, 0, 0, 0) := rfl
theorem I46_30 : am_code 46 30 = some (4, 31, 0, 0, 0, 1, 0) := rfl
theorem I46_31 : am_code 46 31 = some (11, 32, 0, 0, 0, 0, 0) := rfl
theorem I46_32 : am_code 46 32 = some (66, 35, 89, 2, 16, 0, 0) := rfl
theorem I46_35 : am_code 46 35 = some (1, 36, 3, 0, 0, 0, 0) := rfl
theorem I46_36 : am_code 46 36 = some (65, 39, 50, 2, 70, 0, 0) := rfl
theorem I46_39 : am_code 46 39 = some (70, 40, 0, 0, 0, 0, 0) := rfl
theorem I47_0 : am_code 47 0 = some (1, 1, 1, 0, 0, 0, 0) := rfl
theorem I47_1 : am_code 47 1 = some (4, 2, 0, 0, 0, 2, 0) := rfl
theorem I47_2 : am_code 47 2 = some (35, 5, 21, 0, 0, 0, 0) := rfl
theorem I47_5 : am_code 47 5 = some (1, 6, 1, 0, 0, 0, 0) := rfl
theorem I47_6 : am_code 47 6 = some (4, 8, 0, 0, 0, 9, 0) := rfl
theorem I47_8 : am_code 47 8 = some (37, 11, 21, 0, 0, 0, 0) := rfl
theorem I47_11 : am_code 47 11 = some (1, 12, 2, 0, 0, 0, 0) := rfl
theorem I47_12 : am_code 47 12 = some (4, 13, 0, 0, 0, 1, 0) := rfl
theorem I47_13 : am_code 47 13 = some (35, 16, 21, 0, 0, 0, 0) := rfl
theorem I47_16 : am_code 47 16 = some (1, 17, 2, 0, 0, 0, 0) := rfl
theorem I47_17 : am_code 47 17 = some (1, 18, 1, 0, 0, 0, 0) := rfl
theorem I47_18 : am_code 47 18 = some (38, 21, 24, 0, 0, 0, 0) := rfl
theorem I47_21 : am_code 47 21 = some (4, 23, 0, 0, 0, (-2), 0) := rfl
theorem I47_23 : am_code 47 23 = some (70, 24, 0, 0, 0, 0, 0) := rfl
theorem I47_24 : am_code 47 24 = some (2, 25, 0, 0, 0, 0, 0) := rfl
theorem I47_25 : am_code 47 25 = some (4, 26, 0, 0, 0, 1, 0) := rfl
theorem I47_26 : am_code 47 26 = some (1, 27, 1, 0, 0, 0, 0) := rfl
theorem I47_27 : am_code 47 27 = some (66, 30, 89, 2, 16, 0, 0) := rfl
theorem I47_30 : am_code 47 30 = some (4, 31, 0, 0, 0, 1, 0) := rfl
theorem I47_31 : am_code 47 31 = some (1, 32, 2, 0, 0, 0, 0) := rfl
theorem I47_32 : am_code 47 32 = some (16, 33, 0, 0, 0, 0, 0) := rfl
theorem I47_33 : am_code 47 33 = some (4, 34, 0, 0, 0, (-1), 0) := rfl
theorem I47_34 : am_code 47 34 = some (21, 35, 0, 0, 0, 0, 0) := rfl
theorem I47_35 : am_code 47 35 = some (19, 36, 0, 0, 0, 0, 0) := rfl
theorem I47_36 : am_code 47 36 = some (1, 37, 3, 0, 0, 0, 0) := rfl
theorem I47_37 : am_code 47 37 = some (65, 40, 50, 2, 70, 0, 0) := rfl
theorem I47_40 : am_code 47 40 = some (70, 41, 0, 0, 0, 0, 0) := rfl
theorem I48_0 : am_code 48 0 = some (2, 1, 0, 0, 0, 0, 0) := rfl
theorem I48_1 : am_code 48 1 = some (48, 4, 4, 0, 10, 0, 0) := rfl
theorem I48_4 : am_code 48 4 = some (1, 5, 1, 0, 0, 0, 0) := rfl
theorem I48_5 : am_code 48 5 = some (65, 8, 26, 1, 74, 0, 0) := rfl
theorem I48_8 : am_code 48 8 = some (40, 11, 13, 0, 0, 0, 0) := rfl
theorem I48_11 : am_code 48 11 = some (4, 12, 0, 0, 0, (-1), 0) := rfl
theorem I48_12 : am_code 48 12 = some (70, 13, 0, 0, 0, 0, 0) := rfl
theorem I48_13 : am_code 48 13 = some (1, 14, 2, 0, 0, 0, 0) := rfl
theorem I48_14 : am_code 48 14 = some (41, 17, 23, 0, 0, 0, 0) := rfl
theorem I48_17 : am_code 48 17 = some (1, 18, 2, 0, 0, 0, 0) := rfl
theorem I48_18 : am_code 48 18 = some (4, 20, 0, 0, 0, 17, 0) := rfl
theorem I48_20 : am_code 48 20 = some (38, 23, 26, 0, 0, 0, 0) := rfl
theorem I48_23 : am_code 48 23 = some (4, 25, 0, 0, 0, (-2), 0) := rfl
theorem I48_25 : am_code 48 25 = some (70, 26, 0, 0, 0, 0, 0) := rfl
theorem I48_26 : am_code 48 26 = some (2, 27, 0, 0, 0, 0, 0) := rfl
theorem I48_27 : am_code 48 27 = some (48, 30, 4, 0, 10, 0, 0) := rfl
theorem I48_30 : am_code 48 30 = some (1, 31, 1, 0, 0, 0, 0) := rfl
theorem I48_31 : am_code 48 31 = some (65, 34, 31, 1, 78, 0, 0) := rfl
theorem I48_34 : am_code 48 34 = some (6, 35, 3, 0, 0, 0, 0) := rfl
theorem I48_35 : am_code 48 35 = some (2, 36, 0, 0, 0, 0, 0) := rfl
theorem I48_36 : am_code 48 36 = some (48, 39, 4, 0, 10, 0, 0) := rfl
theorem I48_39 : am_code 48 39 = some (1, 40, 1, 0, 0, 0, 0) := rfl
theorem I48_40 : am_code 48 40 = some (1, 41, 2, 0, 0, 0, 0) := rfl
theorem I48_41 : am_code 48 41 = some (65, 44, 32, 2, 81, 0, 0) := rfl
theorem I48_44 : am_code 48 44 = some (2, 45, 0, 0, 0, 0, 0) := rfl
theorem I48_45 : am_code 48 45 = some (4, 46, 0, 0, 0, 1, 0) := rfl
theorem I48_46 : am_code 48 46 = some (49, 49, 4, 7, 57, 0, 0) := rfl
theorem I48_49 : am_code 48 49 = some (1, 50, 3, 0, 0, 0, 0) := rfl
theorem I48_50 : am_code 48 50 = some (70, 51, 0, 0, 0, 0, 0) := rfl
theorem I49_0 : am_code 49 0 = some (1, 1, 1, 0, 0, 0, 0) := rfl
theorem I49_1 : am_code 49 1 = some (74, 40, 91, 0, 0, 0, 0) := rfl
theorem I49_40 : am_code 49 40 = some (2, 41, 0, 0, 0, 0, 0) := rfl
theorem I49_41 : am_code 49 41 = some (48, 44, 4, 0, 10, 0, 0) := rfl
theorem I49_44 : am_code 49 44 = some (48, 47, 2, 0, 85, 0, 0) := rfl
theorem I49_47 : am_code 49 47 = some (70, 48, 0, 0, 0, 0, 0) := rfl
theorem I49_48 : am_code 49 48 = some (2, 49, 0, 0, 0, 0, 0) := rfl
theorem I49_49 : am_code 49 49 = some (48, 52, 4, 0, 10, 0, 0) := rfl
theorem I49_52 : am_code 49 52 = some (48, 55, 2, 1, 89, 0, 0) := rfl
theorem I49_55 : am_code 49 55 = some (70, 56, 0, 0, 0, 0, 0) := rfl
theorem I49_56 : am_code 49 56 = some (2, 57, 0, 0, 0, 0, 0) := rfl
theorem I49_57 : am_code 49 57 = some (48, 60, 4, 0, 10, 0, 0) := rfl
theorem I49_60 : am_code 49 60 = some (48, 63, 2, 2, 92, 0, 0) := rfl
theorem I49_63 : am_code 49 63 = some (70, 64, 0, 0, 0, 0, 0) := rfl
theorem I49_64 : am_code 49 64 = some (2, 65, 0, 0, 0, 0, 0) := rfl
theorem I49_65 : am_code 49 65 = some (48, 68, 4, 0, 10, 0, 0) := rfl
theorem I49_68 : am_code 49 68 = some (65, 71, 33, 0, 95, 0, 0) := rfl
theorem I49_71 : am_code 49 71 = some (70, 72, 0, 0, 0, 0, 0) := rfl
theorem I49_72 : am_code 49 72 = some (2, 73, 0, 0, 0, 0, 0) := rfl
theorem I49_73 : am_code 49 73 = some (48, 76, 4, 0, 10, 0, 0) := rfl
theorem I49_76 : am_code 49 76 = some (65, 79, 29, 0, 99, 0, 0) := rfl
theorem I49_79 : am_code 49 79 = some (66, 82, 92, 1, 61, 0, 0) := rfl
theorem I49_82 : am_code 49 82 = some (70, 83, 0, 0, 0, 0, 0) := rfl
theorem I49_83 : am_code 49 83 = some (2, 84, 0, 0, 0, 0, 0) := rfl
theorem I49_84 : am_code 49 84 = some (48, 87, 4, 3, 43, 0, 0) := rfl
theorem I49_87 : am_code 49 87 = some (48, 90, 1, 1, 102, 0, 0) := rfl
theorem I49_90 : am_code 49 90 = some (70, 91, 0, 0, 0, 0, 0) := rfl
theorem I49_91 : am_code 49 91 = some (4, 93, 0, 0, 0, (-2), 0) := rfl
theorem I49_93 : am_code 49 93 = some (70, 94, 0, 0, 0, 0, 0) := rfl
theorem I50_0 : am_code 50 0 = some (4, 1, 0, 0, 0, 2, 0) := rfl
theorem I50_1 : am_code 50 1 = some (1, 2, 1, 0, 0, 0, 0) := rfl
theorem I50_2 : am_code 50 2 = some (66, 5, 92, 1, 61, 0, 0) := rfl
theorem I50_5 : am_code 50 5 = some (12, 6, 0, 0, 0, 0, 0) := rfl
theorem I50_6 : am_code 50 6 = some (6, 7, 3, 0, 0, 0, 0) := rfl
theorem I50_7 : am_code 50 7 = some (4, 8, 0, 0, 0, 0, 0) := rfl
theorem I50_8 : am_code 50 8 = some (6, 10, 4, 0, 0, 0, 0) := rfl
theorem I50_10 : am_code 50 10 = some (1, 11, 2, 0, 0, 0, 0) := rfl
theorem I50_11 : am_code 50 11 = some (39, 14, 24, 0, 0, 0, 0) := rfl
theorem I50_14 : am_code 50 14 = some (9, 17, 3, 0, 0, 1, 0) := rfl
theorem I50_17 : am_code 50 17 = some (4, 18, 0, 0, 0, 1, 0) := rfl
theorem I50_18 : am_code 50 18 = some (1, 19, 3, 0, 0, 0, 0) := rfl
theorem I50_19 : am_code 50 19 = some (4, 20, 0, 0, 0, 2, 0) := rfl
theorem I50_20 : am_code 50 20 = some (11, 21, 0, 0, 0, 0, 0) := rfl
theorem I50_21 : am_code 50 21 = some (16, 22, 0, 0, 0, 0, 0) := rfl
theorem I50_22 : am_code 50 22 = some (6, 24, 4, 0, 0, 0, 0) := rfl
theorem I50_24 : am_code 50 24 = some (2, 25, 0, 0, 0, 0, 0) := rfl
theorem I50_25 : am_code 50 25 = some (1, 26, 3, 0, 0, 0, 0) := rfl
theorem I50_26 : am_code 50 26 = some (1, 28, 4, 0, 0, 0, 0) := rfl
theorem I50_28 : am_code 50 28 = some (1, 29, 1, 0, 0, 0, 0) := rfl
theorem I50_29 : am_code 50 29 = some (65, 32, 51, 3, 67, 0, 0) := rfl
theorem I50_32 : am_code 50 32 = some (1, 33, 3, 0, 0, 0, 0) := rfl
theorem I50_33 : am_code 50 33 = some (70, 34, 0, 0, 0, 0, 0) := rfl
theorem I51_0 : am_code 51 0 = some (2, 1, 0, 0, 0, 0, 0) := rfl
theorem I51_1 : am_code 51 1 = some (48, 4, 4, 0, 10, 0, 0) := rfl
theorem I51_4 : am_code 51 4 = some (1, 5, 1, 0, 0, 0, 0) := rfl
theorem I51_5 : am_code 51 5 = some (1, 6, 2, 0, 0, 0, 0) := rfl
theorem I51_6 : am_code 51 6 = some (1, 7, 3, 0, 0, 0, 0) := rfl
theorem I51_7 : am_code 51 7 = some (65, 10, 24, 3, 20, 0, 0) := rfl
theorem I51_10 : am_code 51 10 = some (2, 11, 0, 0, 0, 0, 0) := rfl
theorem I51_11 : am_code 51 11 = some (4, 12, 0, 0, 0, 1, 0) := rfl
theorem I51_12 : am_code 51 12 = some (49, 15, 4, 7, 57, 0, 0) := rfl
theorem I51_15 : am_code 51 15 = some (73, 16, 0, 0, 0, 0, 0) := rfl
theorem I52_0 : am_code 52 0 = some (2, 1, 0, 0, 0, 0, 0) := rfl
theorem I52_1 : am_code 52 1 = some (48, 4, 4, 0, 10, 0, 0) := rfl
theorem I52_4 : am_code 52 4 = some (65, 7, 36, 0, 103, 0, 0) := rfl
theorem I52_7 : am_code 52 7 = some (40, 10, 13, 0, 0, 0, 0) := rfl
theorem I52_10 : am_code 52 10 = some (4, 12, 0, 0, 0, (-6), 0) := rfl
theorem I52_12 : am_code 52 12 = some (70, 13, 0, 0, 0, 0, 0) := rfl
theorem I52_13 : am_code 52 13 = some (2, 14, 0, 0, 0, 0, 0) := rfl
theorem I52_14 : am_code 52 14 = some (48, 17, 4, 0, 10, 0, 0) := rfl
theorem I52_17 : am_code 52 17 = some (65, 20, 37, 0, 107, 0, 0) := rfl
theorem I52_20 : am_code 52 20 = some (6, 21, 1, 0, 0, 0, 0) := rfl
theorem I52_21 : am_code 52 21 = some (1, 22, 1, 0, 0, 0, 0) := rfl
theorem I52_22 : am_code 52 22 = some (4, 23, 0, 0, 0, 1, 0) := rfl
theorem I52_23 : am_code 52 23 = some (19, 24, 0, 0, 0, 0, 0) := rfl
theorem I52_24 : am_code 52 24 = some (39, 27, 30, 0, 0, 0, 0) := rfl
theorem I52_27 : am_code 52 27 = some (4, 29, 0, 0, 0, (-6), 0) := rfl
theorem I52_29 : am_code 52 29 = some (70, 30, 0, 0, 0, 0, 0) := rfl
theorem I52_30 : am_code 52 30 = some (1, 31, 1, 0, 0, 0, 0) := rfl
theorem I52_31 : am_code 52 31 = some (4, 32, 0, 0, 0, 2, 0) := rfl
theorem I52_32 : am_code 52 32 = some (13, 33, 0, 0, 0, 0, 0) := rfl
theorem I52_33 : am_code 52 33 = some (70, 34, 0, 0, 0, 0, 0) := rfl
theorem I53_0 : am_code 53 0 = some (2, 1, 0, 0, 0, 0, 0) := rfl
theorem I53_1 : am_code 53 1 = some (48, 4, 4, 0, 10, 0, 0) := rfl
theorem I53_4 : am_code 53 4 = some (65, 7, 36, 0, 103, 0, 0) := rfl
theorem I53_7 : am_code 53 7 = some (40, 10, 13, 0, 0, 0, 0) := rfl
theorem I53_10 : am_code 53 10 = some (4, 12, 0, 0, 0, (-6), 0) := rfl
theorem I53_12 : am_code 53 12 = some (70, 13, 0, 0, 0, 0, 0) := rfl
theorem I53_13 : am_code 53 13 = some (2, 14, 0, 0, 0, 0, 0) := rfl
theorem I53_14 : am_code 53 14 = some (48, 17, 4, 0, 10, 0, 0) := rfl
theorem I53_17 : am_code 53 17 = some (65, 20, 38, 0, 110, 0, 0) := rfl
theorem I53_20 : am_code 53 20 = some (4, 23, 0, 0, 0, 1000, 0) := rfl
theorem I53_23 : am_code 53 23 = some (10, 24, 0, 0, 0, 0, 0) := rfl
theorem I53_24 : am_code 53 24 = some (70, 25, 0, 0, 0, 0, 0) := rfl
theorem I54_0 : am_code 54 0 = some (2, 1, 0, 0, 0, 0, 0) := rfl
theorem I54_1 : am_code 54 1 = some (48, 4, 4, 0, 10, 0, 0) := rfl
theorem I54_4 : am_code 54 4 = some (1, 5, 1, 0, 0, 0, 0) := rfl
theorem I54_5 : am_code 54 5 = some (65, 8, 27, 1, 113, 0, 0) := rfl
theorem I54_8 : am_code 54 8 = some (40, 11, 13, 0, 0, 0, 0) := rfl
theorem I54_11 : am_code 54 11 = some (4, 12, 0, 0, 0, (-1), 0) := rfl
theorem I54_12 : am_code 54 12 = some (70, 13, 0, 0, 0, 0, 0) := rfl
theorem I54_13 : am_code 54 13 = some (2, 14, 0, 0, 0, 0, 0) := rfl
theorem I54_14 : am_code 54 14 = some (48, 17, 4, 0, 10, 0, 0) := rfl
theorem I54_17 : am_code 54 17 = some (1, 18, 1, 0, 0, 0, 0) := rfl
theorem I54_18 : am_code 54 18 = some (65, 21, 35, 1, 116, 0, 0) := rfl
theorem I54_21 : am_code 54 21 = some (70, 22, 0, 0, 0, 0, 0) := rfl
theorem I55_0 : am_code 55 0 = some (2, 1, 0, 0, 0, 0, 0) := rfl
theorem I55_1 : am_code 55 1 = some (65, 4, 61, 0, 119, 0, 0) := rfl
theorem I55_4 : am_code 55 4 = some (48, 7, 0, 5, 123, 0, 0) := rfl
theorem I55_7 : am_code 55 7 = some (70, 8, 0, 0, 0, 0, 0) := rfl
theorem I56_0 : am_code 56 0 = some (2, 1, 0, 0, 0, 0, 0) := rfl
theorem I56_1 : am_code 56 1 = some (48, 4, 4, 0, 10, 0, 0) := rfl
theorem I56_4 : am_code 56 4 = some (1, 5, 2, 0, 0, 0, 0) := rfl
theorem I56_5 : am_code 56 5 = some (65, 8, 26, 1, 74, 0, 0) := rfl
theorem I56_8 : am_code 56 8 = some (40, 11, 13, 0, 0, 0, 0) := rfl
theorem I56_11 : am_code 56 11 = some (4, 12, 0, 0, 0, (-1), 0) := rfl
theorem I56_12 : am_code 56 12 = some (70, 13, 0, 0, 0, 0, 0) := rfl
theorem I56_13 : am_code 56 13 = some (2, 14, 0, 0, 0, 0, 0) := rfl
theorem I56_14 : am_code 56 14 = some (65, 17, 61, 0, 119, 0, 0) := rfl
theorem I56_17 : am_code 56 17 = some (1, 18, 1, 0, 0, 0, 0) := rfl
theorem I56_18 : am_code 56 18 = some (65, 21, 7, 1, 126, 0, 0) := rfl
theorem I56_21 : am_code 56 21 = some (40, 24, 27, 0, 0, 0, 0) := rfl
theorem I56_24 : am_code 56 24 = some (4, 26, 0, 0, 0, (-6), 0) := rfl
theorem I56_26 : am_code 56 26 = some (70, 27, 0, 0, 0, 0, 0) := rfl
theorem I56_27 : am_code 56 27 = some (2, 28, 0, 0, 0, 0, 0) := rfl
theorem I56_28 : am_code 56 28 = some (48, 31, 4, 1, 29, 0, 0) := rfl
theorem I56_31 : am_code 56 31 = some (1, 32, 1, 0, 0, 0, 0) := rfl
theorem I56_32 : am_code 56 32 = some (1, 33, 2, 0, 0, 0, 0) := rfl
theorem I56_33 : am_code 56 33 = some (65, 36, 11, 2, 129, 0, 0) := rfl
theorem I56_36 : am_code 56 36 = some (70, 37, 0, 0, 0, 0, 0) := rfl
theorem I57_0 : am_code 57 0 = some (2, 1, 0, 0, 0, 0, 0) := rfl
theorem I57_1 : am_code 57 1 = some (48, 4, 4, 0, 10, 0, 0) := rfl
theorem I57_4 : am_code 57 4 = some (1, 5, 2, 0, 0, 0, 0) := rfl
theorem I57_5 : am_code 57 5 = some (65, 8, 27, 1, 113, 0, 0) := rfl
theorem I57_8 : am_code 57 8 = some (40, 11, 13, 0, 0, 0, 0) := rfl
theorem I57_11 : am_code 57 11 = some (4, 12, 0, 0, 0, (-1), 0) := rfl
theorem I57_12 : am_code 57 12 = some (70, 13, 0, 0, 0, 0, 0) := rfl
theorem I57_13 : am_code 57 13 = some (2, 14, 0, 0, 0, 0, 0) := rfl
theorem I57_14 : am_code 57 14 = some (65, 17, 61, 0, 119, 0, 0) := rfl
theorem I57_17 : am_code 57 17 = some (1, 18, 1, 0, 0, 0, 0) := rfl
theorem I57_18 : am_code 57 18 = some (65, 21, 7, 1, 126, 0, 0) := rfl
theorem I57_21 : am_code 57 21 = some (40, 24, 27, 0, 0, 0, 0) := rfl
theorem I57_24 : am_code 57 24 = some (4, 26, 0, 0, 0, (-6), 0) := rfl
theorem I57_26 : am_code 57 26 = some (70, 27, 0, 0, 0, 0, 0) := rfl
theorem I57_27 : am_code 57 27 = some (2, 28, 0, 0, 0, 0, 0) := rfl
theorem I57_28 : am_code 57 28 = some (48, 31, 4, 1, 29, 0, 0) := rfl
theorem I57_31 : am_code 57 31 = some (1, 32, 1, 0, 0, 0, 0) := rfl
theorem I57_32 : am_code 57 32 = some (1, 33, 2, 0, 0, 0, 0) := rfl
theorem I57_33 : am_code 57 33 = some (65, 36, 10, 2, 132, 0, 0) := rfl
theorem I57_36 : am_code 57 36 = some (70, 37, 0, 0, 0, 0, 0) := rfl
theorem I58_0 : am_code 58 0 = some (2, 1, 0, 0, 0, 0, 0) := rfl
theorem I58_1 : am_code 58 1 = some (48, 4, 4, 0, 10, 0, 0) := rfl
theorem I58_4 : am_code 58 4 = some (1, 5, 1, 0, 0, 0, 0) := rfl
theorem I58_5 : am_code 58 5 = some (65, 8, 26, 1, 74, 0, 0) := rfl
theorem I58_8 : am_code 58 8 = some (40, 11, 13, 0, 0, 0, 0) := rfl
theorem I58_11 : am_code 58 11 = some (4, 12, 0, 0, 0, (-1), 0) := rfl
theorem I58_12 : am_code 58 12 = some (70, 13, 0, 0, 0, 0, 0) := rfl
theorem I58_13 : am_code 58 13 = some (1, 14, 2, 0, 0, 0, 0) := rfl
theorem I58_14 : am_code 58 14 = some (41, 17, 23, 0, 0, 0, 0) := rfl
theorem I58_17 : am_code 58 17 = some (1, 18, 2, 0, 0, 0, 0) := rfl
theorem I58_18 : am_code 58 18 = some (4, 20, 0, 0, 0, 17, 0) := rfl
theorem I58_20 : am_code 58 20 = some (38, 23, 26, 0, 0, 0, 0) := rfl
theorem I58_23 : am_code 58 23 = some (4, 25, 0, 0, 0, (-2), 0) := rfl
theorem I58_25 : am_code 58 25 = some (70, 26, 0, 0, 0, 0, 0) := rfl
theorem I58_26 : am_code 58 26 = some (2, 27, 0, 0, 0, 0, 0) := rfl
theorem I58_27 : am_code 58 27 = some (65, 30, 61, 0, 119, 0, 0) := rfl
theorem I58_30 : am_code 58 30 = some (48, 33, 0, 5, 123, 0, 0) := rfl
theorem I58_33 : am_code 58 33 = some (6, 34, 3, 0, 0, 0, 0) := rfl
theorem I58_34 : am_code 58 34 = some (4, 35, 0, 0, 0, 0, 0) := rfl
theorem I58_35 : am_code 58 35 = some (6, 37, 4, 0, 0, 0, 0) := rfl
theorem I58_37 : am_code 58 37 = some (4, 38, 0, 0, 0, 0, 0) := rfl
theorem I58_38 : am_code 58 38 = some (6, 40, 5, 0, 0, 0, 0) := rfl
theorem I58_40 : am_code 58 40 = some (1, 42, 5, 0, 0, 0, 0) := rfl
theorem I58_42 : am_code 58 42 = some (1, 43, 3, 0, 0, 0, 0) := rfl
theorem I58_43 : am_code 58 43 = some (36, 46, 69, 0, 0, 0, 0) := rfl
theorem I58_46 : am_code 58 46 = some (2, 47, 0, 0, 0, 0, 0) := rfl
theorem I58_47 : am_code 58 47 = some (48, 50, 4, 1, 29, 0, 0) := rfl
theorem I58_50 : am_code 58 50 = some (1, 52, 5, 0, 0, 0, 0) := rfl
theorem I58_52 : am_code 58 52 = some (1, 53, 1, 0, 0, 0, 0) := rfl
theorem I58_53 : am_code 58 53 = some (65, 56, 11, 2, 129, 0, 0) := rfl
theorem I58_56 : am_code 58 56 = some (1, 57, 2, 0, 0, 0, 0) := rfl
theorem I58_57 : am_code 58 57 = some (34, 60, 63, 0, 0, 0, 0) := rfl
theorem I58_60 : am_code 58 60 = some (9, 63, 4, 0, 0, 1, 0) := rfl
theorem I58_63 : am_code 58 63 = some (9, 66, 5, 0, 0, 1, 0) := rfl
theorem I58_66 : am_code 58 66 = some (45, 69, 40, 0, 0, 0, 0) := rfl
theorem I58_69 : am_code 58 69 = some (1, 71, 4, 0, 0, 0, 0) := rfl
theorem I58_71 : am_code 58 71 = some (70, 72, 0, 0, 0, 0, 0) := rfl
theorem I59_0 : am_code 59 0 = some (2, 1, 0, 0, 0, 0, 0) := rfl
theorem I59_1 : am_code 59 1 = some (48, 4, 4, 0, 10, 0, 0) := rfl
theorem I59_4 : am_code 59 4 = some (1, 5, 1, 0, 0, 0, 0) := rfl
theorem I59_5 : am_code 59 5 = some (65, 8, 26, 1, 74, 0, 0) := rfl
theorem I59_8 : am_code 59 8 = some (40, 11, 13, 0, 0, 0, 0) := rfl
theorem I59_11 : am_code 59 11 = some (4, 12, 0, 0, 0, (-1), 0) := rfl
theorem I59_12 : am_code 59 12 = some (70, 13, 0, 0, 0, 0, 0) := rfl
theorem I59_13 : am_code 59 13 = some (2, 14, 0, 0, 0, 0, 0) := rfl
theorem I59_14 : am_code 59 14 = some (65, 17, 61, 0, 119, 0, 0) := rfl
theorem I59_17 : am_code 59 17 = some (1, 18, 1, 0, 0, 0, 0) := rfl
theorem I59_18 : am_code 59 18 = some (65, 21, 12, 1, 135, 0, 0) := rfl
theorem I59_21 : am_code 59 21 = some (70, 22, 0, 0, 0, 0, 0) := rfl
theorem I60_0 : am_code 60 0 = some (2, 1, 0, 0, 0, 0, 0) := rfl
theorem I60_1 : am_code 60 1 = some (65, 4, 61, 0, 119, 0, 0) := rfl
theorem I60_4 : am_code 60 4 = some (7, 5, 1, 0, 0, 0, 0) := rfl
theorem I60_5 : am_code 60 5 = some (4, 6, 0, 0, 0, 0, 0) := rfl
theorem I60_6 : am_code 60 6 = some (6, 7, 2, 0, 0, 0, 0) := rfl
theorem I60_7 : am_code 60 7 = some (4, 8, 0, 0, 0, 0, 0) := rfl
theorem I60_8 : am_code 60 8 = some (6, 9, 3, 0, 0, 0, 0) := rfl
theorem I60_9 : am_code 60 9 = some (1, 10, 3, 0, 0, 0, 0) := rfl
theorem I60_10 : am_code 60 10 = some (2, 11, 0, 0, 0, 0, 0) := rfl
theorem I60_11 : am_code 60 11 = some (48, 14, 4, 0, 10, 0, 0) := rfl
theorem I60_14 : am_code 60 14 = some (48, 17, 2, 0, 85, 0, 0) := rfl
theorem I60_17 : am_code 60 17 = some (36, 20, 44, 0, 0, 0, 0) := rfl
theorem I60_20 : am_code 60 20 = some (2, 21, 1, 0, 0, 0, 0) := rfl
theorem I60_21 : am_code 60 21 = some (1, 22, 3, 0, 0, 0, 0) := rfl
theorem I60_22 : am_code 60 22 = some (65, 25, 12, 1, 135, 0, 0) := rfl
theorem I60_25 : am_code 60 25 = some (66, 28, 92, 1, 61, 0, 0) := rfl
theorem I60_28 : am_code 60 28 = some (4, 29, 0, 0, 0, 1, 0) := rfl
theorem I60_29 : am_code 60 29 = some (34, 32, 38, 0, 0, 0, 0) := rfl
theorem I60_32 : am_code 60 32 = some (1, 33, 2, 0, 0, 0, 0) := rfl
theorem I60_33 : am_code 60 33 = some (4, 34, 0, 0, 0, 1, 0) := rfl
theorem I60_34 : am_code 60 34 = some (1, 35, 3, 0, 0, 0, 0) := rfl
theorem I60_35 : am_code 60 35 = some (16, 36, 0, 0, 0, 0, 0) := rfl
theorem I60_36 : am_code 60 36 = some (20, 37, 0, 0, 0, 0, 0) := rfl
theorem I60_37 : am_code 60 37 = some (6, 38, 2, 0, 0, 0, 0) := rfl
theorem I60_38 : am_code 60 38 = some (9, 41, 3, 0, 0, 1, 0) := rfl
theorem I60_41 : am_code 60 41 = some (45, 44, 9, 0, 0, 0, 0) := rfl
theorem I60_44 : am_code 60 44 = some (1, 45, 2, 0, 0, 0, 0) := rfl
theorem I60_45 : am_code 60 45 = some (70, 46, 0, 0, 0, 0, 0) := rfl
theorem I61_0 : am_code 61 0 = some (2, 1, 0, 0, 0, 0, 0) := rfl
theorem I61_1 : am_code 61 1 = some (48, 4, 4, 7, 57, 0, 0) := rfl
theorem I61_4 : am_code 61 4 = some (39, 7, 23, 0, 0, 0, 0) := rfl
theorem I61_7 : am_code 61 7 = some (2, 8, 0, 0, 0, 0, 0) := rfl
theorem I61_8 : am_code 61 8 = some (48, 11, 4, 1, 29, 0, 0) := rfl
theorem I61_11 : am_code 61 11 = some (2, 12, 0, 0, 0, 0, 0) := rfl
theorem I61_12 : am_code 61 12 = some (48, 15, 4, 0, 10, 0, 0) := rfl
theorem I61_15 : am_code 61 15 = some (65, 18, 1, 1, 138, 0, 0) := rfl
theorem I61_18 : am_code 61 18 = some (2, 19, 0, 0, 0, 0, 0) := rfl
theorem I61_19 : am_code 61 19 = some (4, 20, 0, 0, 0, 0, 0) := rfl
theorem I61_20 : am_code 61 20 = some (49, 23, 4, 7, 57, 0, 0) := rfl
theorem I61_23 : am_code 61 23 = some (2, 24, 0, 0, 0, 0, 0) := rfl
theorem I61_24 : am_code 61 24 = some (48, 27, 4, 1, 29, 0, 0) := rfl
theorem I61_27 : am_code 61 27 = some (72, 28, 0, 0, 0, 0, 0) := rfl
theorem I62_0 : am_code 62 0 = some (1, 1, 1, 0, 0, 0, 0) := rfl
theorem I62_1 : am_code 62 1 = some (4, 3, 0, 0, 0, 33, 0) := rfl
theorem I62_3 : am_code 62 3 = some (35, 6, 12, 0, 0, 0, 0) := rfl
theorem I62_6 : am_code 62 6 = some (1, 7, 1, 0, 0, 0, 0) := rfl
theorem I62_7 : am_code 62 7 = some (4, 9, 0, 0, 0, 126, 0) := rfl
theorem I62_9 : am_code 62 9 = some (38, 12, 15, 0, 0, 0, 0) := rfl
theorem I62_12 : am_code 62 12 = some (4, 14, 0, 0, 0, (-2), 0) := rfl
theorem I62_14 : am_code 62 14 = some (70, 15, 0, 0, 0, 0, 0) := rfl
theorem I62_15 : am_code 62 15 = some (2, 16, 0, 0, 0, 0, 0) := rfl
theorem I62_16 : am_code 62 16 = some (48, 19, 4, 3, 43, 0, 0) := rfl
theorem I62_19 : am_code 62 19 = some (48, 22, 1, 1, 102, 0, 0) := rfl
theorem I62_22 : am_code 62 22 = some (4, 24, 0, 0, 0, 18, 0) := rfl
theorem I62_24 : am_code 62 24 = some (35, 27, 30, 0, 0, 0, 0) := rfl
theorem I62_27 : am_code 62 27 = some (4, 29, 0, 0, 0, (-5), 0) := rfl
theorem I62_29 : am_code 62 29 = some (70, 30, 0, 0, 0, 0, 0) := rfl
theorem I62_30 : am_code 62 30 = some (2, 31, 0, 0, 0, 0, 0) := rfl
theorem I62_31 : am_code 62 31 = some (48, 34, 4, 3, 43, 0, 0) := rfl
theorem I62_34 : am_code 62 34 = some (1, 35, 1, 0, 0, 0, 0) := rfl
theorem I62_35 : am_code 62 35 = some (65, 38, 17, 1, 142, 0, 0) := rfl
theorem I62_38 : am_code 62 38 = some (2, 39, 0, 0, 0, 0, 0) := rfl
theorem I62_39 : am_code 62 39 = some (48, 42, 4, 3, 43, 0, 0) := rfl
theorem I62_42 : am_code 62 42 = some (48, 45, 1, 1, 102, 0, 0) := rfl
theorem I62_45 : am_code 62 45 = some (70, 46, 0, 0, 0, 0, 0) := rfl
theorem I63_0 : am_code 63 0 = some (2, 1, 0, 0, 0, 0, 0) := rfl
theorem I63_1 : am_code 63 1 = some (48, 4, 4, 3, 43, 0, 0) := rfl
theorem I63_4 : am_code 63 4 = some (4, 6, 0, 0, 0, (-2), 0) := rfl
theorem I63_6 : am_code 63 6 = some (65, 9, 21, 1, 145, 0, 0) := rfl
theorem I63_9 : am_code 63 9 = some (6, 10, 1, 0, 0, 0, 0) := rfl
theorem I63_10 : am_code 63 10 = some (1, 11, 1, 0, 0, 0, 0) := rfl
theorem I63_11 : am_code 63 11 = some (42, 14, 19, 0, 0, 0, 0) := rfl
theorem I63_14 : am_code 63 14 = some (4, 16, 0, 0, 0, (-6), 0) := rfl
theorem I63_16 : am_code 63 16 = some (45, 19, 20, 0, 0, 0, 0) := rfl
theorem I63_19 : am_code 63 19 = some (1, 20, 1, 0, 0, 0, 0) := rfl
theorem I63_20 : am_code 63 20 = some (70, 21, 0, 0, 0, 0, 0) := rfl
theorem I64_0 : am_code 64 0 = some (1, 1, 1, 0, 0, 0, 0) := rfl
theorem I64_1 : am_code 64 1 = some (39, 4, 12, 0, 0, 0, 0) := rfl
theorem I64_4 : am_code 64 4 = some (1, 5, 1, 0, 0, 0, 0) := rfl
theorem I64_5 : am_code 64 5 = some (4, 6, 0, 0, 0, 1, 0) := rfl
theorem I64_6 : am_code 64 6 = some (33, 9, 12, 0, 0, 0, 0) := rfl
theorem I64_9 : am_code 64 9 = some (4, 11, 0, 0, 0, (-2), 0) := rfl
theorem I64_11 : am_code 64 11 = some (70, 12, 0, 0, 0, 0, 0) := rfl
theorem I64_12 : am_code 64 12 = some (2, 13, 0, 0, 0, 0, 0) := rfl
theorem I64_13 : am_code 64 13 = some (65, 16, 69, 0, 148, 0, 0) := rfl
theorem I64_16 : am_code 64 16 = some (40, 19, 22, 0, 0, 0, 0) := rfl
theorem I64_19 : am_code 64 19 = some (4, 21, 0, 0, 0, (-3), 0) := rfl
theorem I64_21 : am_code 64 21 = some (70, 22, 0, 0, 0, 0, 0) := rfl
theorem I64_22 : am_code 64 22 = some (4, 23, 0, 0, 0, 1, 0) := rfl
theorem I64_23 : am_code 64 23 = some (6, 24, 2, 0, 0, 0, 0) := rfl
theorem I64_24 : am_code 64 24 = some (1, 25, 2, 0, 0, 0, 0) := rfl
theorem I64_25 : am_code 64 25 = some (4, 26, 0, 0, 0, 5, 0) := rfl
theorem I64_26 : am_code 64 26 = some (37, 29, 55, 0, 0, 0, 0) := rfl
theorem I64_29 : am_code 64 29 = some (2, 30, 0, 0, 0, 0, 0) := rfl
theorem I64_30 : am_code 64 30 = some (1, 31, 2, 0, 0, 0, 0) := rfl
theorem I64_31 : am_code 64 31 = some (65, 34, 70, 1, 151, 0, 0) := rfl
theorem I64_34 : am_code 64 34 = some (6, 35, 3, 0, 0, 0, 0) := rfl
theorem I64_35 : am_code 64 35 = some (1, 36, 3, 0, 0, 0, 0) := rfl
theorem I64_36 : am_code 64 36 = some (41, 39, 49, 0, 0, 0, 0) := rfl
theorem I64_39 : am_code 64 39 = some (1, 40, 1, 0, 0, 0, 0) := rfl
theorem I64_40 : am_code 64 40 = some (40, 43, 47, 0, 0, 0, 0) := rfl
theorem I64_43 : am_code 64 43 = some (1, 44, 2, 0, 0, 0, 0) := rfl
theorem I64_44 : am_code 64 44 = some (45, 47, 48, 0, 0, 0, 0) := rfl
theorem I64_47 : am_code 64 47 = some (1, 48, 3, 0, 0, 0, 0) := rfl
theorem I64_48 : am_code 64 48 = some (70, 49, 0, 0, 0, 0, 0) := rfl
theorem I64_49 : am_code 64 49 = some (9, 52, 2, 0, 0, 1, 0) := rfl
theorem I64_52 : am_code 64 52 = some (45, 55, 24, 0, 0, 0, 0) := rfl
theorem I64_55 : am_code 64 55 = some (1, 56, 1, 0, 0, 0, 0) := rfl
theorem I64_56 : am_code 64 56 = some (40, 59, 63, 0, 0, 0, 0) := rfl
theorem I64_59 : am_code 64 59 = some (4, 60, 0, 0, 0, 0, 0) := rfl
theorem I64_60 : am_code 64 60 = some (45, 63, 65, 0, 0, 0, 0) := rfl
theorem I64_63 : am_code 64 63 = some (4, 65, 0, 0, 0, (-6), 0) := rfl
theorem I64_65 : am_code 64 65 = some (70, 66, 0, 0, 0, 0, 0) := rfl
theorem I65_0 : am_code 65 0 = some (2, 1, 0, 0, 0, 0, 0) := rfl
theorem I65_1 : am_code 65 1 = some (65, 4, 69, 0, 148, 0, 0) := rfl
theorem I65_4 : am_code 65 4 = some (40, 7, 10, 0, 0, 0, 0) := rfl
theorem I65_7 : am_code 65 7 = some (4, 9, 0, 0, 0, (-3), 0) := rfl
theorem I65_9 : am_code 65 9 = some (70, 10, 0, 0, 0, 0, 0) := rfl
theorem I65_10 : am_code 65 10 = some (2, 11, 0, 0, 0, 0, 0) := rfl
theorem I65_11 : am_code 65 11 = some (2, 12, 0, 0, 0, 0, 0) := rfl
theorem I65_12 : am_code 65 12 = some (65, 15, 61, 0, 119, 0, 0) := rfl
theorem I65_15 : am_code 65 15 = some (4, 16, 0, 0, 0, 0, 0) := rfl
theorem I65_16 : am_code 65 16 = some (65, 19, 72, 2, 154, 0, 0) := rfl
theorem I65_19 : am_code 65 19 = some (70, 20, 0, 0, 0, 0, 0) := rfl
theorem I66_0 : am_code 66 0 = some (2, 1, 0, 0, 0, 0, 0) := rfl
theorem I66_1 : am_code 66 1 = some (48, 4, 4, 3, 43, 0, 0) := rfl
theorem I66_4 : am_code 66 4 = some (4, 6, 0, 0, 0, (-2), 0) := rfl
theorem I66_6 : am_code 66 6 = some (65, 9, 21, 1, 145, 0, 0) := rfl
theorem I66_9 : am_code 66 9 = some (41, 12, 15, 0, 0, 0, 0) := rfl
theorem I66_12 : am_code 66 12 = some (4, 14, 0, 0, 0, (-3), 0) := rfl
theorem I66_14 : am_code 66 14 = some (70, 15, 0, 0, 0, 0, 0) := rfl
theorem I66_15 : am_code 66 15 = some (2, 16, 0, 0, 0, 0, 0) := rfl
theorem I66_16 : am_code 66 16 = some (2, 17, 0, 0, 0, 0, 0) := rfl
theorem I66_17 : am_code 66 17 = some (65, 20, 61, 0, 119, 0, 0) := rfl
theorem I66_20 : am_code 66 20 = some (1, 21, 1, 0, 0, 0, 0) := rfl
theorem I66_21 : am_code 66 21 = some (65, 24, 72, 2, 154, 0, 0) := rfl
theorem I66_24 : am_code 66 24 = some (70, 25, 0, 0, 0, 0, 0) := rfl
theorem I67_0 : am_code 67 0 = some (2, 1, 0, 0, 0, 0, 0) := rfl
theorem I67_1 : am_code 67 1 = some (65, 4, 61, 0, 119, 0, 0) := rfl
theorem I67_4 : am_code 67 4 = some (1, 5, 1, 0, 0, 0, 0) := rfl
theorem I67_5 : am_code 67 5 = some (65, 8, 7, 1, 126, 0, 0) := rfl
theorem I67_8 : am_code 67 8 = some (40, 11, 13, 0, 0, 0, 0) := rfl
theorem I67_11 : am_code 67 11 = some (4, 12, 0, 0, 0, (-1), 0) := rfl
theorem I67_12 : am_code 67 12 = some (70, 13, 0, 0, 0, 0, 0) := rfl
theorem I67_13 : am_code 67 13 = some (2, 14, 0, 0, 0, 0, 0) := rfl
theorem I67_14 : am_code 67 14 = some (48, 17, 4, 3, 43, 0, 0) := rfl
theorem I67_17 : am_code 67 17 = some (4, 18, 0, 0, 0, 0, 0) := rfl
theorem I67_18 : am_code 67 18 = some (49, 21, 1, 1, 102, 0, 0) := rfl
theorem I67_21 : am_code 67 21 = some (4, 22, 0, 0, 0, 0, 0) := rfl
theorem I67_22 : am_code 67 22 = some (6, 23, 2, 0, 0, 0, 0) := rfl
theorem I67_23 : am_code 67 23 = some (1, 24, 2, 0, 0, 0, 0) := rfl
theorem I67_24 : am_code 67 24 = some (2, 25, 0, 0, 0, 0, 0) := rfl
theorem I67_25 : am_code 67 25 = some (48, 28, 4, 0, 10, 0, 0) := rfl
theorem I67_28 : am_code 67 28 = some (48, 31, 2, 0, 85, 0, 0) := rfl
theorem I67_31 : am_code 67 31 = some (36, 34, 59, 0, 0, 0, 0) := rfl
theorem I67_34 : am_code 67 34 = some (2, 35, 0, 0, 0, 0, 0) := rfl
theorem I67_35 : am_code 67 35 = some (48, 38, 4, 3, 43, 0, 0) := rfl
theorem I67_38 : am_code 67 38 = some (2, 39, 0, 0, 0, 0, 0) := rfl
theorem I67_39 : am_code 67 39 = some (48, 42, 4, 1, 29, 0, 0) := rfl
theorem I67_42 : am_code 67 42 = some (1, 43, 1, 0, 0, 0, 0) := rfl
theorem I67_43 : am_code 67 43 = some (1, 44, 2, 0, 0, 0, 0) := rfl
theorem I67_44 : am_code 67 44 = some (65, 47, 11, 2, 129, 0, 0) := rfl
theorem I67_47 : am_code 67 47 = some (66, 50, 18, 1, 158, 0, 0) := rfl
theorem I67_50 : am_code 67 50 = some (65, 53, 17, 1, 142, 0, 0) := rfl
theorem I67_53 : am_code 67 53 = some (9, 56, 2, 0, 0, 1, 0) := rfl
theorem I67_56 : am_code 67 56 = some (45, 59, 23, 0, 0, 0, 0) := rfl
theorem I67_59 : am_code 67 59 = some (2, 60, 0, 0, 0, 0, 0) := rfl
theorem I67_60 : am_code 67 60 = some (48, 63, 4, 3, 43, 0, 0) := rfl
theorem I67_63 : am_code 67 63 = some (48, 66, 1, 1, 102, 0, 0) := rfl
theorem I67_66 : am_code 67 66 = some (70, 67, 0, 0, 0, 0, 0) := rfl
theorem I68_0 : am_code 68 0 = some (2, 1, 0, 0, 0, 0, 0) := rfl
theorem I68_1 : am_code 68 1 = some (48, 4, 4, 3, 43, 0, 0) := rfl
theorem I68_4 : am_code 68 4 = some (1, 5, 1, 0, 0, 0, 0) := rfl
theorem I68_5 : am_code 68 5 = some (65, 8, 16, 1, 161, 0, 0) := rfl
theorem I68_8 : am_code 68 8 = some (40, 11, 14, 0, 0, 0, 0) := rfl
theorem I68_11 : am_code 68 11 = some (4, 13, 0, 0, 0, (-6), 0) := rfl
theorem I68_13 : am_code 68 13 = some (70, 14, 0, 0, 0, 0, 0) := rfl
theorem I68_14 : am_code 68 14 = some (2, 15, 0, 0, 0, 0, 0) := rfl
theorem I68_15 : am_code 68 15 = some (48, 18, 4, 3, 43, 0, 0) := rfl
theorem I68_18 : am_code 68 18 = some (48, 21, 1, 0, 162, 0, 0) := rfl
theorem I68_21 : am_code 68 21 = some (1, 22, 1, 0, 0, 0, 0) := rfl
theorem I68_22 : am_code 68 22 = some (51, 23, 0, 0, 0, 0, 0) := rfl
theorem I68_23 : am_code 68 23 = some (70, 24, 0, 0, 0, 0, 0) := rfl
theorem I69_0 : am_code 69 0 = some (2, 1, 0, 0, 0, 0, 0) := rfl
theorem I69_1 : am_code 69 1 = some (48, 4, 4, 3, 43, 0, 0) := rfl
theorem I69_4 : am_code 69 4 = some (48, 7, 1, 1, 102, 0, 0) := rfl
theorem I69_7 : am_code 69 7 = some (2, 8, 0, 0, 0, 0, 0) := rfl
theorem I69_8 : am_code 69 8 = some (48, 11, 4, 0, 10, 0, 0) := rfl
theorem I69_11 : am_code 69 11 = some (48, 14, 2, 0, 85, 0, 0) := rfl
theorem I69_14 : am_code 69 14 = some (34, 17, 44, 0, 0, 0, 0) := rfl
theorem I69_17 : am_code 69 17 = some (2, 18, 0, 0, 0, 0, 0) := rfl
theorem I69_18 : am_code 69 18 = some (48, 21, 4, 3, 43, 0, 0) := rfl
theorem I69_21 : am_code 69 21 = some (4, 23, 0, 0, 0, (-2), 0) := rfl
theorem I69_23 : am_code 69 23 = some (65, 26, 21, 1, 145, 0, 0) := rfl
theorem I69_26 : am_code 69 26 = some (42, 29, 44, 0, 0, 0, 0) := rfl
theorem I69_29 : am_code 69 29 = some (2, 30, 0, 0, 0, 0, 0) := rfl
theorem I69_30 : am_code 69 30 = some (48, 33, 4, 3, 43, 0, 0) := rfl
theorem I69_33 : am_code 69 33 = some (4, 34, 0, 0, 0, (-1), 0) := rfl
theorem I69_34 : am_code 69 34 = some (65, 37, 21, 1, 145, 0, 0) := rfl
theorem I69_37 : am_code 69 37 = some (42, 40, 44, 0, 0, 0, 0) := rfl
theorem I69_40 : am_code 69 40 = some (4, 41, 0, 0, 0, 1, 0) := rfl
theorem I69_41 : am_code 69 41 = some (45, 44, 45, 0, 0, 0, 0) := rfl
theorem I69_44 : am_code 69 44 = some (4, 45, 0, 0, 0, 0, 0) := rfl
theorem I69_45 : am_code 69 45 = some (70, 46, 1, 0, 0, 0, 0) := rfl
theorem I70_0 : am_code 70 0 = some (4, 1, 0, 0, 0, 0, 0) := rfl
theorem I70_1 : am_code 70 1 = some (6, 2, 2, 0, 0, 0, 0) := rfl
theorem I70_2 : am_code 70 2 = some (1, 3, 2, 0, 0, 0, 0) := rfl
theorem I70_3 : am_code 70 3 = some (2, 4, 0, 0, 0, 0, 0) := rfl
theorem I70_4 : am_code 70 4 = some (48, 7, 4, 3, 43, 0, 0) := rfl
theorem I70_7 : am_code 70 7 = some (48, 10, 1, 1, 102, 0, 0) := rfl
theorem I70_10 : am_code 70 10 = some (36, 13, 30, 0, 0, 0, 0) := rfl
theorem I70_13 : am_code 70 13 = some (2, 14, 0, 0, 0, 0, 0) := rfl
theorem I70_14 : am_code 70 14 = some (1, 15, 1, 0, 0, 0, 0) := rfl
theorem I70_15 : am_code 70 15 = some (1, 16, 2, 0, 0, 0, 0) := rfl
theorem I70_16 : am_code 70 16 = some (65, 19, 71, 2, 166, 0, 0) := rfl
theorem I70_19 : am_code 70 19 = some (39, 22, 24, 0, 0, 0, 0) := rfl
theorem I70_22 : am_code 70 22 = some (1, 23, 2, 0, 0, 0, 0) := rfl
theorem I70_23 : am_code 70 23 = some (70, 24, 0, 0, 0, 0, 0) := rfl
theorem I70_24 : am_code 70 24 = some (9, 27, 2, 0, 0, 1, 0) := rfl
theorem I70_27 : am_code 70 27 = some (45, 30, 2, 0, 0, 0, 0) := rfl
theorem I70_30 : am_code 70 30 = some (4, 31, 0, 0, 0, (-1), 0) := rfl
theorem I70_31 : am_code 70 31 = some (70, 32, 0, 0, 0, 0, 0) := rfl
theorem I71_0 : am_code 71 0 = some (2, 1, 0, 0, 0, 0, 0) := rfl
theorem I71_1 : am_code 71 1 = some (48, 4, 4, 3, 43, 0, 0) := rfl
theorem I71_4 : am_code 71 4 = some (1, 5, 2, 0, 0, 0, 0) := rfl
theorem I71_5 : am_code 71 5 = some (65, 8, 20, 1, 170, 0, 0) := rfl
theorem I71_8 : am_code 71 8 = some (6, 9, 3, 0, 0, 0, 0) := rfl
theorem I71_9 : am_code 71 9 = some (1, 10, 3, 0, 0, 0, 0) := rfl
theorem I71_10 : am_code 71 10 = some (40, 13, 17, 0, 0, 0, 0) := rfl
theorem I71_13 : am_code 71 13 = some (4, 14, 0, 0, 0, 1, 0) := rfl
theorem I71_14 : am_code 71 14 = some (45, 17, 18, 0, 0, 0, 0) := rfl
theorem I71_17 : am_code 71 17 = some (4, 18, 0, 0, 0, 0, 0) := rfl
theorem I71_18 : am_code 71 18 = some (6, 20, 4, 0, 0, 0, 0) := rfl
theorem I71_20 : am_code 71 20 = some (2, 21, 0, 0, 0, 0, 0) := rfl
theorem I71_21 : am_code 71 21 = some (48, 24, 4, 0, 10, 0, 0) := rfl
theorem I71_24 : am_code 71 24 = some (1, 25, 2, 0, 0, 0, 0) := rfl
theorem I71_25 : am_code 71 25 = some (65, 28, 31, 1, 78, 0, 0) := rfl
theorem I71_28 : am_code 71 28 = some (6, 30, 5, 0, 0, 0, 0) := rfl
theorem I71_30 : am_code 71 30 = some (1, 31, 1, 0, 0, 0, 0) := rfl
theorem I71_31 : am_code 71 31 = some (74, 64, 185, 0, 0, 1, 0) := rfl
theorem I71_64 : am_code 71 64 = some (1, 66, 4, 0, 0, 0, 0) := rfl
theorem I71_66 : am_code 71 66 = some (2, 67, 0, 0, 0, 0, 0) := rfl
theorem I71_67 : am_code 71 67 = some (48, 70, 4, 0, 10, 0, 0) := rfl
theorem I71_70 : am_code 71 70 = some (1, 71, 2, 0, 0, 0, 0) := rfl
theorem I71_71 : am_code 71 71 = some (65, 74, 30, 1, 172, 0, 0) := rfl
theorem I71_74 : am_code 71 74 = some (34, 77, 81, 0, 0, 0, 0) := rfl
theorem I71_77 : am_code 71 77 = some (4, 78, 0, 0, 0, 1, 0) := rfl
theorem I71_78 : am_code 71 78 = some (45, 81, 82, 0, 0, 0, 0) := rfl
theorem I71_81 : am_code 71 81 = some (4, 82, 0, 0, 0, 0, 0) := rfl
theorem I71_82 : am_code 71 82 = some (70, 83, 1, 0, 0, 0, 0) := rfl
theorem I71_83 : am_code 71 83 = some (1, 85, 4, 0, 0, 0, 0) := rfl
theorem I71_85 : am_code 71 85 = some (40, 88, 103, 0, 0, 0, 0) := rfl
theorem I71_88 : am_code 71 88 = some (2, 89, 0, 0, 0, 0, 0) := rfl
theorem I71_89 : am_code 71 89 = some (48, 92, 4, 0, 10, 0, 0) := rfl
theorem I71_92 : am_code 71 92 = some (1, 93, 3, 0, 0, 0, 0) := rfl
theorem I71_93 : am_code 71 93 = some (65, 96, 27, 1, 113, 0, 0) := rfl
theorem I71_96 : am_code 71 96 = some (40, 99, 103, 0, 0, 0, 0) := rfl
theorem I71_99 : am_code 71 99 = some (4, 100, 0, 0, 0, 1, 0) := rfl
theorem I71_100 : am_code 71 100 = some (45, 103, 104, 0, 0, 0, 0) := rfl
theorem I71_103 : am_code 71 103 = some (4, 104, 0, 0, 0, 0, 0) := rfl
theorem I71_104 : am_code 71 104 = some (70, 105, 1, 0, 0, 0, 0) := rfl
theorem I71_105 : am_code 71 105 = some (1, 107, 4, 0, 0, 0, 0) := rfl
theorem I71_107 : am_code 71 107 = some (40, 110, 127, 0, 0, 0, 0) := rfl
theorem I71_110 : am_code 71 110 = some (2, 111, 0, 0, 0, 0, 0) := rfl
theorem I71_111 : am_code 71 111 = some (48, 114, 4, 3, 43, 0, 0) := rfl
theorem I71_114 : am_code 71 114 = some (1, 115, 2, 0, 0, 0, 0) := rfl
theorem I71_115 : am_code 71 115 = some (1, 116, 3, 0, 0, 0, 0) := rfl
theorem I71_116 : am_code 71 116 = some (65, 119, 22, 2, 175, 0, 0) := rfl
theorem I71_119 : am_code 71 119 = some (4, 120, 0, 0, 0, 2, 0) := rfl
theorem I71_120 : am_code 71 120 = some (35, 123, 127, 0, 0, 0, 0) := rfl
theorem I71_123 : am_code 71 123 = some (4, 124, 0, 0, 0, 1, 0) := rfl
theorem I71_124 : am_code 71 124 = some (45, 127, 128, 0, 0, 0, 0) := rfl
theorem I71_127 : am_code 71 127 = some (4, 128, 0, 0, 0, 0, 0) := rfl
theorem I71_128 : am_code 71 128 = some (70, 129, 1, 0, 0, 0, 0) := rfl
theorem I71_129 : am_code 71 129 = some (1, 131, 4, 0, 0, 0, 0) := rfl
theorem I71_131 : am_code 71 131 = some (40, 134, 166, 0, 0, 0, 0) := rfl
theorem I71_134 : am_code 71 134 = some (2, 135, 0, 0, 0, 0, 0) := rfl
theorem I71_135 : am_code 71 135 = some (48, 138, 4, 3, 43, 0, 0) := rfl
theorem I71_138 : am_code 71 138 = some (1, 139, 2, 0, 0, 0, 0) := rfl
theorem I71_139 : am_code 71 139 = some (1, 140, 3, 0, 0, 0, 0) := rfl
theorem I71_140 : am_code 71 140 = some (11, 141, 0, 0, 0, 0, 0) := rfl
theorem I71_141 : am_code 71 141 = some (65, 144, 20, 1, 170, 0, 0) := rfl
theorem I71_144 : am_code 71 144 = some (1, 145, 3, 0, 0, 0, 0) := rfl
theorem I71_145 : am_code 71 145 = some (33, 148, 166, 0, 0, 0, 0) := rfl
theorem I71_148 : am_code 71 148 = some (2, 149, 0, 0, 0, 0, 0) := rfl
theorem I71_149 : am_code 71 149 = some (48, 152, 4, 3, 43, 0, 0) := rfl
theorem I71_152 : am_code 71 152 = some (1, 153, 2, 0, 0, 0, 0) := rfl
theorem I71_153 : am_code 71 153 = some (1, 154, 3, 0, 0, 0, 0) := rfl
theorem I71_154 : am_code 71 154 = some (10, 155, 0, 0, 0, 0, 0) := rfl
theorem I71_155 : am_code 71 155 = some (65, 158, 20, 1, 170, 0, 0) := rfl
theorem I71_158 : am_code 71 158 = some (1, 159, 3, 0, 0, 0, 0) := rfl
theorem I71_159 : am_code 71 159 = some (33, 162, 166, 0, 0, 0, 0) := rfl
theorem I71_162 : am_code 71 162 = some (4, 163, 0, 0, 0, 1, 0) := rfl
theorem I71_163 : am_code 71 163 = some (45, 166, 167, 0, 0, 0, 0) := rfl
theorem I71_166 : am_code 71 166 = some (4, 167, 0, 0, 0, 0, 0) := rfl
theorem I71_167 : am_code 71 167 = some (70, 168, 1, 0, 0, 0, 0) := rfl
theorem I71_168 : am_code 71 168 = some (1, 170, 5, 0, 0, 0, 0) := rfl
theorem I71_170 : am_code 71 170 = some (39, 173, 183, 0, 0, 0, 0) := rfl
theorem I71_173 : am_code 71 173 = some (1, 175, 5, 0, 0, 0, 0) := rfl
theorem I71_175 : am_code 71 175 = some (1, 176, 3, 0, 0, 0, 0) := rfl
theorem I71_176 : am_code 71 176 = some (33, 179, 183, 0, 0, 0, 0) := rfl
theorem I71_179 : am_code 71 179 = some (4, 180, 0, 0, 0, 1, 0) := rfl
theorem I71_180 : am_code 71 180 = some (45, 183, 184, 0, 0, 0, 0) := rfl
theorem I71_183 : am_code 71 183 = some (4, 184, 0, 0, 0, 0, 0) := rfl
theorem I71_184 : am_code 71 184 = some (70, 185, 1, 0, 0, 0, 0) := rfl
theorem I71_185 : am_code 71 185 = some (4, 186, 0, 0, 0, 0, 0) := rfl
theorem I71_186 : am_code 71 186 = some (70, 187, 1, 0, 0, 0, 0) := rfl
theorem I72_0 : am_code 72 0 = some (4, 1, 0, 0, 0, 0, 0) := rfl
theorem I72_1 : am_code 72 1 = some (6, 2, 3, 0, 0, 0, 0) := rfl
theorem I72_2 : am_code 72 2 = some (4, 3, 0, 0, 0, 0, 0) := rfl
theorem I72_3 : am_code 72 3 = some (6, 5, 4, 0, 0, 0, 0) := rfl
theorem I72_5 : am_code 72 5 = some (1, 7, 4, 0, 0, 0, 0) := rfl
theorem I72_7 : am_code 72 7 = some (2, 8, 1, 0, 0, 0, 0) := rfl
theorem I72_8 : am_code 72 8 = some (48, 11, 0, 5, 123, 0, 0) := rfl
theorem I72_11 : am_code 72 11 = some (36, 14, 41, 0, 0, 0, 0) := rfl
theorem I72_14 : am_code 72 14 = some (2, 15, 0, 0, 0, 0, 0) := rfl
theorem I72_15 : am_code 72 15 = some (2, 16, 1, 0, 0, 0, 0) := rfl
theorem I72_16 : am_code 72 16 = some (1, 18, 4, 0, 0, 0, 0) := rfl
theorem I72_18 : am_code 72 18 = some (65, 21, 73, 2, 178, 0, 0) := rfl
theorem I72_21 : am_code 72 21 = some (39, 24, 35, 0, 0, 0, 0) := rfl
theorem I72_24 : am_code 72 24 = some (1, 25, 3, 0, 0, 0, 0) := rfl
theorem I72_25 : am_code 72 25 = some (1, 26, 2, 0, 0, 0, 0) := rfl
theorem I72_26 : am_code 72 26 = some (34, 29, 32, 0, 0, 0, 0) := rfl
theorem I72_29 : am_code 72 29 = some (1, 31, 4, 0, 0, 0, 0) := rfl
theorem I72_31 : am_code 72 31 = some (70, 32, 0, 0, 0, 0, 0) := rfl
theorem I72_32 : am_code 72 32 = some (9, 35, 3, 0, 0, 1, 0) := rfl
theorem I72_35 : am_code 72 35 = some (9, 38, 4, 0, 0, 1, 0) := rfl
theorem I72_38 : am_code 72 38 = some (45, 41, 5, 0, 0, 0, 0) := rfl
theorem I72_41 : am_code 72 41 = some (1, 42, 2, 0, 0, 0, 0) := rfl
theorem I72_42 : am_code 72 42 = some (4, 43, 0, 0, 0, (-1), 0) := rfl
theorem I72_43 : am_code 72 43 = some (34, 46, 50, 0, 0, 0, 0) := rfl
theorem I72_46 : am_code 72 46 = some (1, 47, 3, 0, 0, 0, 0) := rfl
theorem I72_47 : am_code 72 47 = some (45, 50, 52, 0, 0, 0, 0) := rfl
theorem I72_50 : am_code 72 50 = some (4, 52, 0, 0, 0, (-6), 0) := rfl
theorem I72_52 : am_code 72 52 = some (70, 53, 0, 0, 0, 0, 0) := rfl
theorem I73_0 : am_code 73 0 = some (2, 1, 0, 0, 0, 0, 0) := rfl
theorem I73_1 : am_code 73 1 = some (48, 4, 4, 3, 43, 0, 0) := rfl
theorem I73_4 : am_code 73 4 = some (48, 7, 1, 1, 102, 0, 0) := rfl
theorem I73_7 : am_code 73 7 = some (2, 8, 0, 0, 0, 0, 0) := rfl
theorem I73_8 : am_code 73 8 = some (48, 11, 4, 0, 10, 0, 0) := rfl
theorem I73_11 : am_code 73 11 = some (48, 14, 2, 0, 85, 0, 0) := rfl
theorem I73_14 : am_code 73 14 = some (33, 17, 19, 0, 0, 0, 0) := rfl
theorem I73_17 : am_code 73 17 = some (4, 18, 0, 0, 0, 0, 0) := rfl
theorem I73_18 : am_code 73 18 = some (70, 19, 1, 0, 0, 0, 0) := rfl
theorem I73_19 : am_code 73 19 = some (4, 20, 0, 0, 0, 0, 0) := rfl
theorem I73_20 : am_code 73 20 = some (6, 21, 3, 0, 0, 0, 0) := rfl
theorem I73_21 : am_code 73 21 = some (1, 22, 3, 0, 0, 0, 0) := rfl
theorem I73_22 : am_code 73 22 = some (2, 23, 0, 0, 0, 0, 0) := rfl
theorem I73_23 : am_code 73 23 = some (48, 26, 4, 0, 10, 0, 0) := rfl
theorem I73_26 : am_code 73 26 = some (48, 29, 2, 0, 85, 0, 0) := rfl
theorem I73_29 : am_code 73 29 = some (36, 32, 67, 0, 0, 0, 0) := rfl
theorem I73_32 : am_code 73 32 = some (2, 33, 0, 0, 0, 0, 0) := rfl
theorem I73_33 : am_code 73 33 = some (48, 36, 4, 3, 43, 0, 0) := rfl
theorem I73_36 : am_code 73 36 = some (1, 37, 3, 0, 0, 0, 0) := rfl
theorem I73_37 : am_code 73 37 = some (65, 40, 20, 1, 170, 0, 0) := rfl
theorem I73_40 : am_code 73 40 = some (6, 42, 4, 0, 0, 0, 0) := rfl
theorem I73_42 : am_code 73 42 = some (1, 44, 4, 0, 0, 0, 0) := rfl
theorem I73_44 : am_code 73 44 = some (4, 45, 0, 0, 0, (-1), 0) := rfl
theorem I73_45 : am_code 73 45 = some (33, 48, 61, 0, 0, 0, 0) := rfl
theorem I73_48 : am_code 73 48 = some (1, 50, 4, 0, 0, 0, 0) := rfl
theorem I73_50 : am_code 73 50 = some (2, 51, 1, 0, 0, 0, 0) := rfl
theorem I73_51 : am_code 73 51 = some (1, 52, 2, 0, 0, 0, 0) := rfl
theorem I73_52 : am_code 73 52 = some (1, 53, 3, 0, 0, 0, 0) := rfl
theorem I73_53 : am_code 73 53 = some (65, 56, 11, 2, 129, 0, 0) := rfl
theorem I73_56 : am_code 73 56 = some (33, 59, 61, 0, 0, 0, 0) := rfl
theorem I73_59 : am_code 73 59 = some (4, 60, 0, 0, 0, 0, 0) := rfl
theorem I73_60 : am_code 73 60 = some (70, 61, 1, 0, 0, 0, 0) := rfl
theorem I73_61 : am_code 73 61 = some (9, 64, 3, 0, 0, 1, 0) := rfl
theorem I73_64 : am_code 73 64 = some (45, 67, 21, 0, 0, 0, 0) := rfl
theorem I73_67 : am_code 73 67 = some (4, 68, 0, 0, 0, 1, 0) := rfl
theorem I73_68 : am_code 73 68 = some (70, 69, 1, 0, 0, 0, 0) := rfl
theorem I74_0 : am_code 74 0 = some (2, 1, 0, 0, 0, 0, 0) := rfl
theorem I74_1 : am_code 74 1 = some (65, 4, 61, 0, 119, 0, 0) := rfl
theorem I74_4 : am_code 74 4 = some (1, 5, 1, 0, 0, 0, 0) := rfl
theorem I74_5 : am_code 74 5 = some (65, 8, 7, 1, 126, 0, 0) := rfl
theorem I74_8 : am_code 74 8 = some (40, 11, 13, 0, 0, 0, 0) := rfl
theorem I74_11 : am_code 74 11 = some (4, 12, 0, 0, 0, (-1), 0) := rfl
theorem I74_12 : am_code 74 12 = some (70, 13, 0, 0, 0, 0, 0) := rfl
theorem I74_13 : am_code 74 13 = some (2, 14, 0, 0, 0, 0, 0) := rfl
theorem I74_14 : am_code 74 14 = some (48, 17, 4, 1, 29, 0, 0) := rfl
theorem I74_17 : am_code 74 17 = some (1, 18, 1, 0, 0, 0, 0) := rfl
theorem I74_18 : am_code 74 18 = some (65, 21, 14, 1, 182, 0, 0) := rfl
theorem I74_21 : am_code 74 21 = some (6, 22, 2, 0, 0, 0, 0) := rfl
theorem I74_22 : am_code 74 22 = some (1, 23, 2, 0, 0, 0, 0) := rfl
theorem I74_23 : am_code 74 23 = some (42, 26, 31, 0, 0, 0, 0) := rfl
theorem I74_26 : am_code 74 26 = some (4, 28, 0, 0, 0, (-6), 0) := rfl
theorem I74_28 : am_code 74 28 = some (45, 31, 32, 0, 0, 0, 0) := rfl
theorem I74_31 : am_code 74 31 = some (1, 32, 2, 0, 0, 0, 0) := rfl
theorem I74_32 : am_code 74 32 = some (70, 33, 0, 0, 0, 0, 0) := rfl
theorem I75_0 : am_code 75 0 = some (2, 1, 0, 0, 0, 0, 0) := rfl
theorem I75_1 : am_code 75 1 = some (65, 4, 61, 0, 119, 0, 0) := rfl
theorem I75_4 : am_code 75 4 = some (48, 7, 0, 5, 123, 0, 0) := rfl
theorem I75_7 : am_code 75 7 = some (6, 8, 1, 0, 0, 0, 0) := rfl
theorem I75_8 : am_code 75 8 = some (4, 9, 0, 0, 0, 0, 0) := rfl
theorem I75_9 : am_code 75 9 = some (6, 10, 2, 0, 0, 0, 0) := rfl
theorem I75_10 : am_code 75 10 = some (4, 11, 0, 0, 0, 0, 0) := rfl
theorem I75_11 : am_code 75 11 = some (6, 12, 3, 0, 0, 0, 0) := rfl
theorem I75_12 : am_code 75 12 = some (1, 13, 3, 0, 0, 0, 0) := rfl
theorem I75_13 : am_code 75 13 = some (1, 14, 1, 0, 0, 0, 0) := rfl
theorem I75_14 : am_code 75 14 = some (36, 17, 47, 0, 0, 0, 0) := rfl
theorem I75_17 : am_code 75 17 = some (2, 18, 0, 0, 0, 0, 0) := rfl
theorem I75_18 : am_code 75 18 = some (48, 21, 4, 1, 29, 0, 0) := rfl
theorem I75_21 : am_code 75 21 = some (1, 22, 3, 0, 0, 0, 0) := rfl
theorem I75_22 : am_code 75 22 = some (65, 25, 14, 1, 182, 0, 0) := rfl
theorem I75_25 : am_code 75 25 = some (6, 27, 4, 0, 0, 0, 0) := rfl
theorem I75_27 : am_code 75 27 = some (1, 29, 4, 0, 0, 0, 0) := rfl
theorem I75_29 : am_code 75 29 = some (41, 32, 38, 0, 0, 0, 0) := rfl
theorem I75_32 : am_code 75 32 = some (1, 34, 4, 0, 0, 0, 0) := rfl
theorem I75_34 : am_code 75 34 = some (1, 35, 3, 0, 0, 0, 0) := rfl
theorem I75_35 : am_code 75 35 = some (35, 38, 41, 0, 0, 0, 0) := rfl
theorem I75_38 : am_code 75 38 = some (9, 41, 2, 0, 0, 1, 0) := rfl
theorem I75_41 : am_code 75 41 = some (9, 44, 3, 0, 0, 1, 0) := rfl
theorem I75_44 : am_code 75 44 = some (45, 47, 12, 0, 0, 0, 0) := rfl
theorem I75_47 : am_code 75 47 = some (1, 48, 2, 0, 0, 0, 0) := rfl
theorem I75_48 : am_code 75 48 = some (70, 49, 0, 0, 0, 0, 0) := rfl
theorem I76_0 : am_code 76 0 = some (2, 1, 0, 0, 0, 0, 0) := rfl
theorem I76_1 : am_code 76 1 = some (65, 4, 61, 0, 119, 0, 0) := rfl
theorem I76_4 : am_code 76 4 = some (1, 5, 1, 0, 0, 0, 0) := rfl
theorem I76_5 : am_code 76 5 = some (65, 8, 7, 1, 126, 0, 0) := rfl
theorem I76_8 : am_code 76 8 = some (39, 11, 22, 0, 0, 0, 0) := rfl
theorem I76_11 : am_code 76 11 = some (2, 12, 0, 0, 0, 0, 0) := rfl
theorem I76_12 : am_code 76 12 = some (48, 15, 4, 1, 29, 0, 0) := rfl
theorem I76_15 : am_code 76 15 = some (1, 16, 2, 0, 0, 0, 0) := rfl
theorem I76_16 : am_code 76 16 = some (65, 19, 7, 1, 126, 0, 0) := rfl
theorem I76_19 : am_code 76 19 = some (40, 22, 24, 0, 0, 0, 0) := rfl
theorem I76_22 : am_code 76 22 = some (4, 23, 0, 0, 0, (-1), 0) := rfl
theorem I76_23 : am_code 76 23 = some (70, 24, 0, 0, 0, 0, 0) := rfl
theorem I76_24 : am_code 76 24 = some (2, 25, 0, 0, 0, 0, 0) := rfl
theorem I76_25 : am_code 76 25 = some (48, 28, 4, 1, 29, 0, 0) := rfl
theorem I76_28 : am_code 76 28 = some (1, 29, 1, 0, 0, 0, 0) := rfl
theorem I76_29 : am_code 76 29 = some (1, 30, 2, 0, 0, 0, 0) := rfl
theorem I76_30 : am_code 76 30 = some (65, 33, 13, 2, 185, 0, 0) := rfl
theorem I76_33 : am_code 76 33 = some (70, 34, 0, 0, 0, 0, 0) := rfl
theorem I77_0 : am_code 77 0 = some (2, 1, 0, 0, 0, 0, 0) := rfl
theorem I77_1 : am_code 77 1 = some (65, 4, 61, 0, 119, 0, 0) := rfl
theorem I77_4 : am_code 77 4 = some (1, 5, 1, 0, 0, 0, 0) := rfl
theorem I77_5 : am_code 77 5 = some (65, 8, 7, 1, 126, 0, 0) := rfl
theorem I77_8 : am_code 77 8 = some (40, 11, 13, 0, 0, 0, 0) := rfl
theorem I77_11 : am_code 77 11 = some (4, 12, 0, 0, 0, (-1), 0) := rfl
theorem I77_12 : am_code 77 12 = some (70, 13, 0, 0, 0, 0, 0) := rfl
theorem I77_13 : am_code 77 13 = some (4, 14, 0, 0, 0, 0, 0) := rfl
theorem I77_14 : am_code 77 14 = some (6, 15, 3, 0, 0, 0, 0) := rfl
theorem I77_15 : am_code 77 15 = some (4, 16, 0, 0, 0, 0, 0) := rfl
theorem I77_16 : am_code 77 16 = some (6, 18, 4, 0, 0, 0, 0) := rfl
theorem I77_18 : am_code 77 18 = some (1, 20, 4, 0, 0, 0, 0) := rfl
theorem I77_20 : am_code 77 20 = some (2, 21, 0, 0, 0, 0, 0) := rfl
theorem I77_21 : am_code 77 21 = some (48, 24, 4, 1, 29, 0, 0) := rfl
theorem I77_24 : am_code 77 24 = some (48, 27, 0, 5, 123, 0, 0) := rfl
theorem I77_27 : am_code 77 27 = some (36, 30, 61, 0, 0, 0, 0) := rfl
theorem I77_30 : am_code 77 30 = some (2, 31, 0, 0, 0, 0, 0) := rfl
theorem I77_31 : am_code 77 31 = some (48, 34, 4, 1, 29, 0, 0) := rfl
theorem I77_34 : am_code 77 34 = some (1, 35, 1, 0, 0, 0, 0) := rfl
theorem I77_35 : am_code 77 35 = some (1, 37, 4, 0, 0, 0, 0) := rfl
theorem I77_37 : am_code 77 37 = some (65, 40, 13, 2, 185, 0, 0) := rfl
theorem I77_40 : am_code 77 40 = some (4, 41, 0, 0, 0, 3, 0) := rfl
theorem I77_41 : am_code 77 41 = some (34, 44, 55, 0, 0, 0, 0) := rfl
theorem I77_44 : am_code 77 44 = some (1, 45, 3, 0, 0, 0, 0) := rfl
theorem I77_45 : am_code 77 45 = some (1, 46, 2, 0, 0, 0, 0) := rfl
theorem I77_46 : am_code 77 46 = some (34, 49, 52, 0, 0, 0, 0) := rfl
theorem I77_49 : am_code 77 49 = some (1, 51, 4, 0, 0, 0, 0) := rfl
theorem I77_51 : am_code 77 51 = some (70, 52, 0, 0, 0, 0, 0) := rfl
theorem I77_52 : am_code 77 52 = some (9, 55, 3, 0, 0, 1, 0) := rfl
theorem I77_55 : am_code 77 55 = some (9, 58, 4, 0, 0, 1, 0) := rfl
theorem I77_58 : am_code 77 58 = some (45, 61, 18, 0, 0, 0, 0) := rfl
theorem I77_61 : am_code 77 61 = some (1, 62, 2, 0, 0, 0, 0) := rfl
theorem I77_62 : am_code 77 62 = some (4, 63, 0, 0, 0, (-1), 0) := rfl
theorem I77_63 : am_code 77 63 = some (34, 66, 70, 0, 0, 0, 0) := rfl
theorem I77_66 : am_code 77 66 = some (1, 67, 3, 0, 0, 0, 0) := rfl
theorem I77_67 : am_code 77 67 = some (45, 70, 72, 0, 0, 0, 0) := rfl
theorem I77_70 : am_code 77 70 = some (4, 72, 0, 0, 0, (-6), 0) := rfl
theorem I77_72 : am_code 77 72 = some (70, 73, 0, 0, 0, 0, 0) := rfl
theorem I78_0 : am_code 78 0 = some (2, 1, 0, 0, 0, 0, 0) := rfl
theorem I78_1 : am_code 78 1 = some (65, 4, 61, 0, 119, 0, 0) := rfl
theorem I78_4 : am_code 78 4 = some (1, 5, 1, 0, 0, 0, 0) := rfl
theorem I78_5 : am_code 78 5 = some (65, 8, 7, 1, 126, 0, 0) := rfl
theorem I78_8 : am_code 78 8 = some (39, 11, 22, 0, 0, 0, 0) := rfl
theorem I78_11 : am_code 78 11 = some (2, 12, 0, 0, 0, 0, 0) := rfl
theorem I78_12 : am_code 78 12 = some (48, 15, 4, 1, 29, 0, 0) := rfl
theorem I78_15 : am_code 78 15 = some (1, 16, 2, 0, 0, 0, 0) := rfl
theorem I78_16 : am_code 78 16 = some (65, 19, 7, 1, 126, 0, 0) := rfl
theorem I78_19 : am_code 78 19 = some (40, 22, 24, 0, 0, 0, 0) := rfl
theorem I78_22 : am_code 78 22 = some (4, 23, 0, 0, 0, (-1), 0) := rfl
theorem I78_23 : am_code 78 23 = some (70, 24, 0, 0, 0, 0, 0) := rfl
theorem I78_24 : am_code 78 24 = some (1, 25, 1, 0, 0, 0, 0) := rfl
theorem I78_25 : am_code 78 25 = some (4, 28, 0, 0, 0, 300, 0) := rfl
theorem I78_28 : am_code 78 28 = some (36, 31, 38, 0, 0, 0, 0) := rfl
theorem I78_31 : am_code 78 31 = some (1, 32, 2, 0, 0, 0, 0) := rfl
theorem I78_32 : am_code 78 32 = some (4, 35, 0, 0, 0, 300, 0) := rfl
theorem I78_35 : am_code 78 35 = some (35, 38, 41, 0, 0, 0, 0) := rfl
theorem I78_38 : am_code 78 38 = some (4, 40, 0, 0, 0, (-2), 0) := rfl
theorem I78_40 : am_code 78 40 = some (70, 41, 0, 0, 0, 0, 0) := rfl
theorem I78_41 : am_code 78 41 = some (2, 42, 0, 0, 0, 0, 0) := rfl
theorem I78_42 : am_code 78 42 = some (48, 45, 4, 2, 36, 0, 0) := rfl
theorem I78_45 : am_code 78 45 = some (2, 46, 0, 0, 0, 0, 0) := rfl
theorem I78_46 : am_code 78 46 = some (48, 49, 4, 1, 29, 0, 0) := rfl
theorem I78_49 : am_code 78 49 = some (1, 50, 1, 0, 0, 0, 0) := rfl
theorem I78_50 : am_code 78 50 = some (1, 51, 2, 0, 0, 0, 0) := rfl
theorem I78_51 : am_code 78 51 = some (65, 54, 41, 3, 188, 0, 0) := rfl
theorem I78_54 : am_code 78 54 = some (6, 55, 3, 0, 0, 0, 0) := rfl
theorem I78_55 : am_code 78 55 = some (1, 56, 3, 0, 0, 0, 0) := rfl
theorem I78_56 : am_code 78 56 = some (42, 59, 64, 0, 0, 0, 0) := rfl
theorem I78_59 : am_code 78 59 = some (4, 61, 0, 0, 0, (-6), 0) := rfl
theorem I78_61 : am_code 78 61 = some (45, 64, 65, 0, 0, 0, 0) := rfl
theorem I78_64 : am_code 78 64 = some (1, 65, 3, 0, 0, 0, 0) := rfl
theorem I78_65 : am_code 78 65 = some (70, 66, 0, 0, 0, 0, 0) := rfl
theorem I79_0 : am_code 79 0 = some (2, 1, 0, 0, 0, 0, 0) := rfl
theorem I79_1 : am_code 79 1 = some (48, 4, 4, 0, 10, 0, 0) := rfl
theorem I79_4 : am_code 79 4 = some (1, 5, 2, 0, 0, 0, 0) := rfl
theorem I79_5 : am_code 79 5 = some (65, 8, 27, 1, 113, 0, 0) := rfl
theorem I79_8 : am_code 79 8 = some (39, 11, 22, 0, 0, 0, 0) := rfl
theorem I79_11 : am_code 79 11 = some (2, 12, 0, 0, 0, 0, 0) := rfl
theorem I79_12 : am_code 79 12 = some (65, 15, 61, 0, 119, 0, 0) := rfl
theorem I79_15 : am_code 79 15 = some (1, 16, 1, 0, 0, 0, 0) := rfl
theorem I79_16 : am_code 79 16 = some (65, 19, 7, 1, 126, 0, 0) := rfl
theorem I79_19 : am_code 79 19 = some (40, 22, 24, 0, 0, 0, 0) := rfl
theorem I79_22 : am_code 79 22 = some (4, 23, 0, 0, 0, (-1), 0) := rfl
theorem I79_23 : am_code 79 23 = some (70, 24, 0, 0, 0, 0, 0) := rfl
theorem I79_24 : am_code 79 24 = some (1, 25, 3, 0, 0, 0, 0) := rfl
theorem I79_25 : am_code 79 25 = some (41, 28, 33, 0, 0, 0, 0) := rfl
theorem I79_28 : am_code 79 28 = some (1, 29, 3, 0, 0, 0, 0) := rfl
theorem I79_29 : am_code 79 29 = some (4, 30, 0, 0, 0, 2, 0) := rfl
theorem I79_30 : am_code 79 30 = some (38, 33, 36, 0, 0, 0, 0) := rfl
theorem I79_33 : am_code 79 33 = some (4, 35, 0, 0, 0, (-2), 0) := rfl
theorem I79_35 : am_code 79 35 = some (70, 36, 0, 0, 0, 0, 0) := rfl
theorem I79_36 : am_code 79 36 = some (2, 37, 0, 0, 0, 0, 0) := rfl
theorem I79_37 : am_code 79 37 = some (1, 38, 1, 0, 0, 0, 0) := rfl
theorem I79_38 : am_code 79 38 = some (1, 39, 2, 0, 0, 0, 0) := rfl
theorem I79_39 : am_code 79 39 = some (1, 40, 3, 0, 0, 0, 0) := rfl
theorem I79_40 : am_code 79 40 = some (65, 43, 83, 3, 192, 0, 0) := rfl
theorem I79_43 : am_code 79 43 = some (70, 44, 0, 0, 0, 0, 0) := rfl
theorem I80_0 : am_code 80 0 = some (2, 1, 0, 0, 0, 0, 0) := rfl
theorem I80_1 : am_code 80 1 = some (65, 4, 61, 0, 119, 0, 0) := rfl
theorem I80_4 : am_code 80 4 = some (1, 5, 1, 0, 0, 0, 0) := rfl
theorem I80_5 : am_code 80 5 = some (65, 8, 7, 1, 126, 0, 0) := rfl
theorem I80_8 : am_code 80 8 = some (40, 11, 13, 0, 0, 0, 0) := rfl
theorem I80_11 : am_code 80 11 = some (4, 12, 0, 0, 0, (-1), 0) := rfl
theorem I80_12 : am_code 80 12 = some (70, 13, 0, 0, 0, 0, 0) := rfl
theorem I80_13 : am_code 80 13 = some (4, 14, 0, 0, 0, 0, 0) := rfl
theorem I80_14 : am_code 80 14 = some (6, 15, 2, 0, 0, 0, 0) := rfl
theorem I80_15 : am_code 80 15 = some (4, 16, 0, 0, 0, 0, 0) := rfl
theorem I80_16 : am_code 80 16 = some (6, 17, 3, 0, 0, 0, 0) := rfl
theorem I80_17 : am_code 80 17 = some (4, 18, 0, 0, 0, 1, 0) := rfl
theorem I80_18 : am_code 80 18 = some (6, 20, 4, 0, 0, 0, 0) := rfl
theorem I80_20 : am_code 80 20 = some (1, 22, 4, 0, 0, 0, 0) := rfl
theorem I80_22 : am_code 80 22 = some (4, 24, 0, 0, 0, 17, 0) := rfl
theorem I80_24 : am_code 80 24 = some (37, 27, 99, 0, 0, 0, 0) := rfl
theorem I80_27 : am_code 80 27 = some (2, 28, 0, 0, 0, 0, 0) := rfl
theorem I80_28 : am_code 80 28 = some (48, 31, 4, 0, 10, 0, 0) := rfl
theorem I80_31 : am_code 80 31 = some (1, 33, 4, 0, 0, 0, 0) := rfl
theorem I80_33 : am_code 80 33 = some (65, 36, 27, 1, 113, 0, 0) := rfl
theorem I80_36 : am_code 80 36 = some (40, 39, 42, 0, 0, 0, 0) := rfl
theorem I80_39 : am_code 80 39 = some (45, 42, 93, 0, 0, 0, 0) := rfl
theorem I80_42 : am_code 80 42 = some (4, 43, 0, 0, 0, 0, 0) := rfl
theorem I80_43 : am_code 80 43 = some (6, 45, 5, 0, 0, 0, 0) := rfl
theorem I80_45 : am_code 80 45 = some (1, 47, 5, 0, 0, 0, 0) := rfl
theorem I80_47 : am_code 80 47 = some (4, 48, 0, 0, 0, 2, 0) := rfl
theorem I80_48 : am_code 80 48 = some (37, 51, 93, 0, 0, 0, 0) := rfl
theorem I80_51 : am_code 80 51 = some (2, 52, 0, 0, 0, 0, 0) := rfl
theorem I80_52 : am_code 80 52 = some (1, 53, 1, 0, 0, 0, 0) := rfl
theorem I80_53 : am_code 80 53 = some (1, 55, 4, 0, 0, 0, 0) := rfl
theorem I80_55 : am_code 80 55 = some (1, 57, 5, 0, 0, 0, 0) := rfl
theorem I80_57 : am_code 80 57 = some (65, 60, 83, 3, 192, 0, 0) := rfl
theorem I80_60 : am_code 80 60 = some (6, 62, 6, 0, 0, 0, 0) := rfl
theorem I80_62 : am_code 80 62 = some (1, 63, 2, 0, 0, 0, 0) := rfl
theorem I80_63 : am_code 80 63 = some (1, 65, 6, 0, 0, 0, 0) := rfl
theorem I80_65 : am_code 80 65 = some (66, 68, 88, 2, 196, 0, 0) := rfl
theorem I80_68 : am_code 80 68 = some (39, 71, 73, 0, 0, 0, 0) := rfl
theorem I80_71 : am_code 80 71 = some (4, 72, 0, 0, 0, 0, 0) := rfl
theorem I80_72 : am_code 80 72 = some (70, 73, 0, 0, 0, 0, 0) := rfl
theorem I80_73 : am_code 80 73 = some (1, 74, 2, 0, 0, 0, 0) := rfl
theorem I80_74 : am_code 80 74 = some (4, 75, 0, 0, 0, 1, 0) := rfl
theorem I80_75 : am_code 80 75 = some (1, 77, 6, 0, 0, 0, 0) := rfl
theorem I80_77 : am_code 80 77 = some (16, 78, 0, 0, 0, 0, 0) := rfl
theorem I80_78 : am_code 80 78 = some (20, 79, 0, 0, 0, 0, 0) := rfl
theorem I80_79 : am_code 80 79 = some (6, 80, 2, 0, 0, 0, 0) := rfl
theorem I80_80 : am_code 80 80 = some (1, 81, 3, 0, 0, 0, 0) := rfl
theorem I80_81 : am_code 80 81 = some (1, 83, 6, 0, 0, 0, 0) := rfl
theorem I80_83 : am_code 80 83 = some (75, 86, 0, 0, 199, 0, 0) := rfl
theorem I80_86 : am_code 80 86 = some (6, 87, 3, 0, 0, 0, 0) := rfl
theorem I80_87 : am_code 80 87 = some (9, 90, 5, 0, 0, 1, 0) := rfl
theorem I80_90 : am_code 80 90 = some (45, 93, 45, 0, 0, 0, 0) := rfl
theorem I80_93 : am_code 80 93 = some (9, 96, 4, 0, 0, 1, 0) := rfl
theorem I80_96 : am_code 80 96 = some (45, 99, 20, 0, 0, 0, 0) := rfl
theorem I80_99 : am_code 80 99 = some (1, 100, 3, 0, 0, 0, 0) := rfl
theorem I80_100 : am_code 80 100 = some (70, 101, 0, 0, 0, 0, 0) := rfl
theorem I81_0 : am_code 81 0 = some (4, 1, 0, 0, 0, 2, 0) := rfl
theorem I81_1 : am_code 81 1 = some (2, 2, 0, 0, 0, 0, 0) := rfl
theorem I81_2 : am_code 81 2 = some (48, 5, 4, 0, 10, 0, 0) := rfl
theorem I81_5 : am_code 81 5 = some (65, 8, 28, 0, 204, 0, 0) := rfl
theorem I81_8 : am_code 81 8 = some (12, 9, 0, 0, 0, 0, 0) := rfl
theorem I81_9 : am_code 81 9 = some (4, 10, 0, 0, 0, 1, 0) := rfl
theorem I81_10 : am_code 81 10 = some (10, 11, 0, 0, 0, 0, 0) := rfl
theorem I81_11 : am_code 81 11 = some (6, 12, 1, 0, 0, 0, 0) := rfl
theorem I81_12 : am_code 81 12 = some (4, 13, 0, 0, 0, 0, 0) := rfl
theorem I81_13 : am_code 81 13 = some (6, 14, 2, 0, 0, 0, 0) := rfl
theorem I81_14 : am_code 81 14 = some (4, 15, 0, 0, 0, 0, 0) := rfl
theorem I81_15 : am_code 81 15 = some (6, 16, 3, 0, 0, 0, 0) := rfl
theorem I81_16 : am_code 81 16 = some (1, 17, 3, 0, 0, 0, 0) := rfl
theorem I81_17 : am_code 81 17 = some (1, 18, 1, 0, 0, 0, 0) := rfl
theorem I81_18 : am_code 81 18 = some (36, 21, 51, 0, 0, 0, 0) := rfl
theorem I81_21 : am_code 81 21 = some (2, 22, 0, 0, 0, 0, 0) := rfl
theorem I81_22 : am_code 81 22 = some (1, 23, 1, 0, 0, 0, 0) := rfl
theorem I81_23 : am_code 81 23 = some (4, 24, 0, 0, 0, 1, 0) := rfl
theorem I81_24 : am_code 81 24 = some (1, 25, 3, 0, 0, 0, 0) := rfl
theorem I81_25 : am_code 81 25 = some (16, 26, 0, 0, 0, 0, 0) := rfl
theorem I81_26 : am_code 81 26 = some (2, 27, 0, 0, 0, 0, 0) := rfl
theorem I81_27 : am_code 81 27 = some (48, 30, 4, 0, 10, 0, 0) := rfl
theorem I81_30 : am_code 81 30 = some (48, 33, 2, 2, 92, 0, 0) := rfl
theorem I81_33 : am_code 81 33 = some (65, 36, 84, 3, 207, 0, 0) := rfl
theorem I81_36 : am_code 81 36 = some (39, 39, 45, 0, 0, 0, 0) := rfl
theorem I81_39 : am_code 81 39 = some (1, 40, 2, 0, 0, 0, 0) := rfl
theorem I81_40 : am_code 81 40 = some (4, 41, 0, 0, 0, 1, 0) := rfl
theorem I81_41 : am_code 81 41 = some (1, 42, 3, 0, 0, 0, 0) := rfl
theorem I81_42 : am_code 81 42 = some (16, 43, 0, 0, 0, 0, 0) := rfl
theorem I81_43 : am_code 81 43 = some (20, 44, 0, 0, 0, 0, 0) := rfl
theorem I81_44 : am_code 81 44 = some (6, 45, 2, 0, 0, 0, 0) := rfl
theorem I81_45 : am_code 81 45 = some (9, 48, 3, 0, 0, 1, 0) := rfl
theorem I81_48 : am_code 81 48 = some (45, 51, 16, 0, 0, 0, 0) := rfl
theorem I81_51 : am_code 81 51 = some (1, 52, 2, 0, 0, 0, 0) := rfl
theorem I81_52 : am_code 81 52 = some (70, 53, 0, 0, 0, 0, 0) := rfl
theorem I82_0 : am_code 82 0 = some (2, 1, 0, 0, 0, 0, 0) := rfl
theorem I82_1 : am_code 82 1 = some (48, 4, 4, 0, 10, 0, 0) := rfl
theorem I82_4 : am_code 82 4 = some (65, 7, 28, 0, 204, 0, 0) := rfl
theorem I82_7 : am_code 82 7 = some (4, 8, 0, 0, 0, 1, 0) := rfl
theorem I82_8 : am_code 82 8 = some (11, 9, 0, 0, 0, 0, 0) := rfl
theorem I82_9 : am_code 82 9 = some (6, 10, 1, 0, 0, 0, 0) := rfl
theorem I82_10 : am_code 82 10 = some (1, 11, 1, 0, 0, 0, 0) := rfl
theorem I82_11 : am_code 82 11 = some (40, 14, 16, 0, 0, 0, 0) := rfl
theorem I82_14 : am_code 82 14 = some (4, 15, 0, 0, 0, 0, 0) := rfl
theorem I82_15 : am_code 82 15 = some (70, 16, 0, 0, 0, 0, 0) := rfl
theorem I82_16 : am_code 82 16 = some (4, 17, 0, 0, 0, 0, 0) := rfl
theorem I82_17 : am_code 82 17 = some (6, 18, 2, 0, 0, 0, 0) := rfl
theorem I82_18 : am_code 82 18 = some (4, 19, 0, 0, 0, 1, 0) := rfl
theorem I82_19 : am_code 82 19 = some (6, 20, 3, 0, 0, 0, 0) := rfl
theorem I82_20 : am_code 82 20 = some (1, 21, 3, 0, 0, 0, 0) := rfl
theorem I82_21 : am_code 82 21 = some (4, 23, 0, 0, 0, 17, 0) := rfl
theorem I82_23 : am_code 82 23 = some (37, 26, 73, 0, 0, 0, 0) := rfl
theorem I82_26 : am_code 82 26 = some (2, 27, 0, 0, 0, 0, 0) := rfl
theorem I82_27 : am_code 82 27 = some (48, 30, 4, 0, 10, 0, 0) := rfl
theorem I82_30 : am_code 82 30 = some (1, 31, 3, 0, 0, 0, 0) := rfl
theorem I82_31 : am_code 82 31 = some (65, 34, 27, 1, 113, 0, 0) := rfl
theorem I82_34 : am_code 82 34 = some (39, 37, 67, 0, 0, 0, 0) := rfl
theorem I82_37 : am_code 82 37 = some (2, 38, 0, 0, 0, 0, 0) := rfl
theorem I82_38 : am_code 82 38 = some (4, 39, 0, 0, 0, 2, 0) := rfl
theorem I82_39 : am_code 82 39 = some (1, 40, 1, 0, 0, 0, 0) := rfl
theorem I82_40 : am_code 82 40 = some (12, 41, 0, 0, 0, 0, 0) := rfl
theorem I82_41 : am_code 82 41 = some (4, 42, 0, 0, 0, 0, 0) := rfl
theorem I82_42 : am_code 82 42 = some (2, 43, 0, 0, 0, 0, 0) := rfl
theorem I82_43 : am_code 82 43 = some (48, 46, 4, 0, 10, 0, 0) := rfl
theorem I82_46 : am_code 82 46 = some (48, 49, 2, 2, 92, 0, 0) := rfl
theorem I82_49 : am_code 82 49 = some (4, 50, 0, 0, 0, 1, 0) := rfl
theorem I82_50 : am_code 82 50 = some (1, 51, 3, 0, 0, 0, 0) := rfl
theorem I82_51 : am_code 82 51 = some (16, 52, 0, 0, 0, 0, 0) := rfl
theorem I82_52 : am_code 82 52 = some (4, 53, 0, 0, 0, (-1), 0) := rfl
theorem I82_53 : am_code 82 53 = some (21, 54, 0, 0, 0, 0, 0) := rfl
theorem I82_54 : am_code 82 54 = some (19, 55, 0, 0, 0, 0, 0) := rfl
theorem I82_55 : am_code 82 55 = some (65, 58, 84, 3, 207, 0, 0) := rfl
theorem I82_58 : am_code 82 58 = some (39, 61, 67, 0, 0, 0, 0) := rfl
theorem I82_61 : am_code 82 61 = some (1, 62, 2, 0, 0, 0, 0) := rfl
theorem I82_62 : am_code 82 62 = some (4, 63, 0, 0, 0, 1, 0) := rfl
theorem I82_63 : am_code 82 63 = some (1, 64, 3, 0, 0, 0, 0) := rfl
theorem I82_64 : am_code 82 64 = some (16, 65, 0, 0, 0, 0, 0) := rfl
theorem I82_65 : am_code 82 65 = some (20, 66, 0, 0, 0, 0, 0) := rfl
theorem I82_66 : am_code 82 66 = some (6, 67, 2, 0, 0, 0, 0) := rfl
theorem I82_67 : am_code 82 67 = some (9, 70, 3, 0, 0, 1, 0) := rfl
theorem I82_70 : am_code 82 70 = some (45, 73, 20, 0, 0, 0, 0) := rfl
theorem I82_73 : am_code 82 73 = some (1, 74, 2, 0, 0, 0, 0) := rfl
theorem I82_74 : am_code 82 74 = some (70, 75, 0, 0, 0, 0, 0) := rfl
theorem I83_0 : am_code 83 0 = some (1, 1, 3, 0, 0, 0, 0) := rfl
theorem I83_1 : am_code 83 1 = some (40, 4, 6, 0, 0, 0, 0) := rfl
theorem I83_4 : am_code 83 4 = some (1, 5, 2, 0, 0, 0, 0) := rfl
theorem I83_5 : am_code 83 5 = some (70, 6, 0, 0, 0, 0, 0) := rfl
theorem I83_6 : am_code 83 6 = some (2, 7, 0, 0, 0, 0, 0) := rfl
theorem I83_7 : am_code 83 7 = some (48, 10, 4, 1, 29, 0, 0) := rfl
theorem I83_10 : am_code 83 10 = some (1, 11, 1, 0, 0, 0, 0) := rfl
theorem I83_11 : am_code 83 11 = some (1, 12, 2, 0, 0, 0, 0) := rfl
theorem I83_12 : am_code 83 12 = some (65, 15, 10, 2, 132, 0, 0) := rfl
theorem I83_15 : am_code 83 15 = some (4, 16, 0, 0, 0, 1, 0) := rfl
theorem I83_16 : am_code 83 16 = some (10, 17, 0, 0, 0, 0, 0) := rfl
theorem I83_17 : am_code 83 17 = some (2, 18, 0, 0, 0, 0, 0) := rfl
theorem I83_18 : am_code 83 18 = some (48, 21, 4, 0, 10, 0, 0) := rfl
theorem I83_21 : am_code 83 21 = some (65, 24, 28, 0, 204, 0, 0) := rfl
theorem I83_24 : am_code 83 24 = some (10, 25, 0, 0, 0, 0, 0) := rfl
theorem I83_25 : am_code 83 25 = some (6, 27, 4, 0, 0, 0, 0) := rfl
theorem I83_27 : am_code 83 27 = some (1, 28, 3, 0, 0, 0, 0) := rfl
theorem I83_28 : am_code 83 28 = some (4, 29, 0, 0, 0, 1, 0) := rfl
theorem I83_29 : am_code 83 29 = some (34, 32, 37, 0, 0, 0, 0) := rfl
theorem I83_32 : am_code 83 32 = some (1, 34, 4, 0, 0, 0, 0) := rfl
theorem I83_34 : am_code 83 34 = some (45, 37, 41, 0, 0, 0, 0) := rfl
theorem I83_37 : am_code 83 37 = some (1, 39, 4, 0, 0, 0, 0) := rfl
theorem I83_39 : am_code 83 39 = some (1, 40, 2, 0, 0, 0, 0) := rfl
theorem I83_40 : am_code 83 40 = some (10, 41, 0, 0, 0, 0, 0) := rfl
theorem I83_41 : am_code 83 41 = some (70, 42, 0, 0, 0, 0, 0) := rfl
theorem I84_0 : am_code 84 0 = some (2, 1, 0, 0, 0, 0, 0) := rfl
theorem I84_1 : am_code 84 1 = some (48, 4, 4, 4, 47, 0, 0) := rfl
theorem I84_4 : am_code 84 4 = some (1, 5, 1, 0, 0, 0, 0) := rfl
theorem I84_5 : am_code 84 5 = some (1, 6, 2, 0, 0, 0, 0) := rfl
theorem I84_6 : am_code 84 6 = some (1, 7, 3, 0, 0, 0, 0) := rfl
theorem I84_7 : am_code 84 7 = some (65, 10, 24, 3, 20, 0, 0) := rfl
theorem I84_10 : am_code 84 10 = some (2, 11, 0, 0, 0, 0, 0) := rfl
theorem I84_11 : am_code 84 11 = some (48, 14, 4, 5, 50, 0, 0) := rfl
theorem I84_14 : am_code 84 14 = some (2, 15, 0, 0, 0, 0, 0) := rfl
theorem I84_15 : am_code 84 15 = some (48, 18, 4, 4, 47, 0, 0) := rfl
theorem I84_18 : am_code 84 18 = some (65, 21, 1, 1, 138, 0, 0) := rfl
theorem I84_21 : am_code 84 21 = some (2, 22, 0, 0, 0, 0, 0) := rfl
theorem I84_22 : am_code 84 22 = some (48, 25, 4, 5, 50, 0, 0) := rfl
theorem I84_25 : am_code 84 25 = some (48, 28, 0, 5, 123, 0, 0) := rfl
theorem I84_28 : am_code 84 28 = some (44, 31, 35, 0, 0, 0, 0) := rfl
theorem I84_31 : am_code 84 31 = some (4, 32, 0, 0, 0, 1, 0) := rfl
theorem I84_32 : am_code 84 32 = some (45, 35, 36, 0, 0, 0, 0) := rfl
theorem I84_35 : am_code 84 35 = some (4, 36, 0, 0, 0, 0, 0) := rfl
theorem I84_36 : am_code 84 36 = some (70, 37, 1, 0, 0, 0, 0) := rfl
theorem I85_0 : am_code 85 0 = some (2, 1, 0, 0, 0, 0, 0) := rfl
theorem I85_1 : am_code 85 1 = some (1, 2, 1, 0, 0, 0, 0) := rfl
theorem I85_2 : am_code 85 2 = some (65, 5, 87, 1, 211, 0, 0) := rfl
theorem I85_5 : am_code 85 5 = some (7, 6, 2, 0, 0, 0, 0) := rfl
theorem I85_6 : am_code 85 6 = some (2, 7, 2, 0, 0, 0, 0) := rfl
theorem I85_7 : am_code 85 7 = some (46, 10, 13, 0, 0, 0, 0) := rfl
theorem I85_10 : am_code 85 10 = some (4, 12, 0, 0, 0, (-2), 0) := rfl
theorem I85_12 : am_code 85 12 = some (70, 13, 0, 0, 0, 0, 0) := rfl
theorem I85_13 : am_code 85 13 = some (2, 14, 2, 0, 0, 0, 0) := rfl
theorem I85_14 : am_code 85 14 = some (2, 15, 0, 0, 0, 0, 0) := rfl
theorem I85_15 : am_code 85 15 = some (48, 18, 4, 0, 10, 0, 0) := rfl
theorem I85_18 : am_code 85 18 = some (65, 21, 25, 1, 215, 0, 0) := rfl
theorem I85_21 : am_code 85 21 = some (2, 22, 0, 0, 0, 0, 0) := rfl
theorem I85_22 : am_code 85 22 = some (48, 25, 4, 0, 10, 0, 0) := rfl
theorem I85_25 : am_code 85 25 = some (48, 28, 2, 0, 85, 0, 0) := rfl
theorem I85_28 : am_code 85 28 = some (70, 29, 0, 0, 0, 0, 0) := rfl
theorem I86_0 : am_code 86 0 = some (2, 1, 0, 0, 0, 0, 0) := rfl
theorem I86_1 : am_code 86 1 = some (1, 2, 1, 0, 0, 0, 0) := rfl
theorem I86_2 : am_code 86 2 = some (65, 5, 87, 1, 211, 0, 0) := rfl
theorem I86_5 : am_code 86 5 = some (7, 6, 2, 0, 0, 0, 0) := rfl
theorem I86_6 : am_code 86 6 = some (2, 7, 2, 0, 0, 0, 0) := rfl
theorem I86_7 : am_code 86 7 = some (46, 10, 13, 0, 0, 0, 0) := rfl
theorem I86_10 : am_code 86 10 = some (4, 12, 0, 0, 0, (-2), 0) := rfl
theorem I86_12 : am_code 86 12 = some (70, 13, 0, 0, 0, 0, 0) := rfl
theorem I86_13 : am_code 86 13 = some (2, 14, 2, 0, 0, 0, 0) := rfl
theorem I86_14 : am_code 86 14 = some (48, 17, 2, 0, 85, 0, 0) := rfl
theorem I86_17 : am_code 86 17 = some (40, 20, 23, 0, 0, 0, 0) := rfl
theorem I86_20 : am_code 86 20 = some (4, 22, 0, 0, 0, (-5), 0) := rfl
theorem I86_22 : am_code 86 22 = some (70, 23, 0, 0, 0, 0, 0) := rfl
theorem I86_23 : am_code 86 23 = some (2, 24, 0, 0, 0, 0, 0) := rfl
theorem I86_24 : am_code 86 24 = some (48, 27, 4, 0, 10, 0, 0) := rfl
theorem I86_27 : am_code 86 27 = some (2, 28, 2, 0, 0, 0, 0) := rfl
theorem I86_28 : am_code 86 28 = some (65, 31, 25, 1, 215, 0, 0) := rfl
theorem I86_31 : am_code 86 31 = some (2, 32, 0, 0, 0, 0, 0) := rfl
theorem I86_32 : am_code 86 32 = some (4, 33, 0, 0, 0, 1, 0) := rfl
theorem I86_33 : am_code 86 33 = some (49, 36, 4, 7, 57, 0, 0) := rfl
theorem I86_36 : am_code 86 36 = some (2, 37, 0, 0, 0, 0, 0) := rfl
theorem I86_37 : am_code 86 37 = some (48, 40, 4, 0, 10, 0, 0) := rfl
theorem I86_40 : am_code 86 40 = some (48, 43, 2, 0, 85, 0, 0) := rfl
theorem I86_43 : am_code 86 43 = some (70, 44, 0, 0, 0, 0, 0) := rfl
theorem I87_0 : am_code 87 0 = some (1, 1, 1, 0, 0, 0, 0) := rfl
theorem I87_1 : am_code 87 1 = some (41, 4, 22, 0, 0, 0, 0) := rfl
theorem I87_4 : am_code 87 4 = some (1, 5, 1, 0, 0, 0, 0) := rfl
theorem I87_5 : am_code 87 5 = some (2, 6, 0, 0, 0, 0, 0) := rfl
theorem I87_6 : am_code 87 6 = some (48, 9, 4, 6, 53, 0, 0) := rfl
theorem I87_9 : am_code 87 9 = some (59, 10, 0, 0, 0, 0, 0) := rfl
theorem I87_10 : am_code 87 10 = some (36, 13, 22, 0, 0, 0, 0) := rfl
theorem I87_13 : am_code 87 13 = some (2, 14, 0, 0, 0, 0, 0) := rfl
theorem I87_14 : am_code 87 14 = some (48, 17, 4, 6, 53, 0, 0) := rfl
theorem I87_17 : am_code 87 17 = some (1, 18, 1, 0, 0, 0, 0) := rfl
theorem I87_18 : am_code 87 18 = some (57, 19, 0, 0, 0, 0, 0) := rfl
theorem I87_19 : am_code 87 19 = some (45, 22, 23, 0, 0, 0, 0) := rfl
theorem I87_22 : am_code 87 22 = some (64, 23, 0, 0, 0, 0, 0) := rfl
theorem I87_23 : am_code 87 23 = some (72, 24, 0, 0, 0, 0, 0) := rfl
theorem I88_0 : am_code 88 0 = some (1, 1, 1, 0, 0, 0, 0) := rfl
theorem I88_1 : am_code 88 1 = some (41, 4, 22, 0, 0, 0, 0) := rfl
theorem I88_4 : am_code 88 4 = some (1, 5, 1, 0, 0, 0, 0) := rfl
theorem I88_5 : am_code 88 5 = some (4, 7, 0, 0, 0, 30, 0) := rfl
theorem I88_7 : am_code 88 7 = some (37, 10, 22, 0, 0, 0, 0) := rfl
theorem I88_10 : am_code 88 10 = some (1, 11, 0, 0, 0, 0, 0) := rfl
theorem I88_11 : am_code 88 11 = some (1, 12, 1, 0, 0, 0, 0) := rfl
theorem I88_12 : am_code 88 12 = some (18, 13, 0, 0, 0, 0, 0) := rfl
theorem I88_13 : am_code 88 13 = some (4, 14, 0, 0, 0, 1, 0) := rfl
theorem I88_14 : am_code 88 14 = some (19, 15, 0, 0, 0, 0, 0) := rfl
theorem I88_15 : am_code 88 15 = some (39, 18, 22, 0, 0, 0, 0) := rfl
theorem I88_18 : am_code 88 18 = some (4, 19, 0, 0, 0, 1, 0) := rfl
theorem I88_19 : am_code 88 19 = some (45, 22, 23, 0, 0, 0, 0) := rfl
theorem I88_22 : am_code 88 22 = some (4, 23, 0, 0, 0, 0, 0) := rfl
theorem I88_23 : am_code 88 23 = some (70, 24, 1, 0, 0, 0, 0) := rfl
theorem I89_0 : am_code 89 0 = some (4, 1, 0, 0, 0, 1, 0) := rfl
theorem I89_1 : am_code 89 1 = some (1, 2, 1, 0, 0, 0, 0) := rfl
theorem I89_2 : am_code 89 2 = some (4, 3, 0, 0, 0, 1, 0) := rfl
theorem I89_3 : am_code 89 3 = some (10, 4, 0, 0, 0, 0, 0) := rfl
theorem I89_4 : am_code 89 4 = some (16, 5, 0, 0, 0, 0, 0) := rfl
theorem I89_5 : am_code 89 5 = some (4, 6, 0, 0, 0, 1, 0) := rfl
theorem I89_6 : am_code 89 6 = some (1, 7, 0, 0, 0, 0, 0) := rfl
theorem I89_7 : am_code 89 7 = some (16, 8, 0, 0, 0, 0, 0) := rfl
theorem I89_8 : am_code 89 8 = some (11, 9, 0, 0, 0, 0, 0) := rfl
theorem I89_9 : am_code 89 9 = some (70, 10, 0, 0, 0, 0, 0) := rfl
theorem I90_0 : am_code 90 0 = some (4, 1, 0, 0, 0, 0, 0) := rfl
theorem I90_1 : am_code 90 1 = some (6, 2, 1, 0, 0, 0, 0) := rfl
theorem I90_2 : am_code 90 2 = some (4, 3, 0, 0, 0, 0, 0) := rfl
theorem I90_3 : am_code 90 3 = some (6, 4, 2, 0, 0, 0, 0) := rfl
theorem I90_4 : am_code 90 4 = some (1, 5, 2, 0, 0, 0, 0) := rfl
theorem I90_5 : am_code 90 5 = some (4, 7, 0, 0, 0, 30, 0) := rfl
theorem I90_7 : am_code 90 7 = some (37, 10, 28, 0, 0, 0, 0) := rfl
theorem I90_10 : am_code 90 10 = some (1, 11, 0, 0, 0, 0, 0) := rfl
theorem I90_11 : am_code 90 11 = some (1, 12, 2, 0, 0, 0, 0) := rfl
theorem I90_12 : am_code 90 12 = some (66, 15, 88, 2, 196, 0, 0) := rfl
theorem I90_15 : am_code 90 15 = some (39, 18, 22, 0, 0, 0, 0) := rfl
theorem I90_18 : am_code 90 18 = some (1, 19, 1, 0, 0, 0, 0) := rfl
theorem I90_19 : am_code 90 19 = some (1, 20, 2, 0, 0, 0, 0) := rfl
theorem I90_20 : am_code 90 20 = some (10, 21, 0, 0, 0, 0, 0) := rfl
theorem I90_21 : am_code 90 21 = some (6, 22, 1, 0, 0, 0, 0) := rfl
theorem I90_22 : am_code 90 22 = some (9, 25, 2, 0, 0, 1, 0) := rfl
theorem I90_25 : am_code 90 25 = some (45, 28, 4, 0, 0, 0, 0) := rfl
theorem I90_28 : am_code 90 28 = some (1, 29, 1, 0, 0, 0, 0) := rfl
theorem I90_29 : am_code 90 29 = some (70, 30, 0, 0, 0, 0, 0) := rfl
theorem I91_0 : am_code 91 0 = some (1, 1, 0, 0, 0, 0, 0) := rfl
theorem I91_1 : am_code 91 1 = some (4, 2, 0, 0, 0, (-1), 0) := rfl
theorem I91_2 : am_code 91 2 = some (21, 3, 0, 0, 0, 0, 0) := rfl
theorem I91_3 : am_code 91 3 = some (1, 4, 0, 0, 0, 0, 0) := rfl
theorem I91_4 : am_code 91 4 = some (4, 5, 0, 0, 0, 1, 0) := rfl
theorem I91_5 : am_code 91 5 = some (11, 6, 0, 0, 0, 0, 0) := rfl
theorem I91_6 : am_code 91 6 = some (19, 7, 0, 0, 0, 0, 0) := rfl
theorem I91_7 : am_code 91 7 = some (6, 8, 0, 0, 0, 0, 0) := rfl
theorem I91_8 : am_code 91 8 = some (1, 9, 0, 0, 0, 0, 0) := rfl
theorem I91_9 : am_code 91 9 = some (43, 12, 17, 0, 0, 0, 0) := rfl
theorem I91_12 : am_code 91 12 = some (1, 13, 0, 0, 0, 0, 0) := rfl
theorem I91_13 : am_code 91 13 = some (4, 15, 0, 0, 0, 32, 0) := rfl
theorem I91_15 : am_code 91 15 = some (19, 16, 0, 0, 0, 0, 0) := rfl
theorem I91_16 : am_code 91 16 = some (70, 17, 0, 0, 0, 0, 0) := rfl
theorem I91_17 : am_code 91 17 = some (4, 18, 0, 0, 0, 1, 0) := rfl
theorem I91_18 : am_code 91 18 = some (6, 19, 1, 0, 0, 0, 0) := rfl
theorem I91_19 : am_code 91 19 = some (1, 20, 0, 0, 0, 0, 0) := rfl
theorem I91_20 : am_code 91 20 = some (4, 23, 0, 0, 264, 65536, 0) := rfl
theorem I91_23 : am_code 91 23 = some (38, 26, 34, 0, 0, 0, 0) := rfl
theorem I91_26 : am_code 91 26 = some (9, 29, 1, 0, 0, 16, 0) := rfl
theorem I91_29 : am_code 91 29 = some (1, 30, 0, 0, 0, 0, 0) := rfl
theorem I91_30 : am_code 91 30 = some (4, 32, 0, 0, 0, 16, 0) := rfl
theorem I91_32 : am_code 91 32 = some (18, 33, 0, 0, 0, 0, 0) := rfl
theorem I91_33 : am_code 91 33 = some (6, 34, 0, 0, 0, 0, 0) := rfl
theorem I91_34 : am_code 91 34 = some (1, 35, 0, 0, 0, 0, 0) := rfl
theorem I91_35 : am_code 91 35 = some (4, 38, 0, 0, 0, 256, 0) := rfl
theorem I91_38 : am_code 91 38 = some (38, 41, 49, 0, 0, 0, 0) := rfl
theorem I91_41 : am_code 91 41 = some (9, 44, 1, 0, 0, 8, 0) := rfl
theorem I91_44 : am_code 91 44 = some (1, 45, 0, 0, 0, 0, 0) := rfl
theorem I91_45 : am_code 91 45 = some (4, 47, 0, 0, 0, 8, 0) := rfl
theorem I91_47 : am_code 91 47 = some (18, 48, 0, 0, 0, 0, 0) := rfl
theorem I91_48 : am_code 91 48 = some (6, 49, 0, 0, 0, 0, 0) := rfl
theorem I91_49 : am_code 91 49 = some (1, 50, 0, 0, 0, 0, 0) := rfl
theorem I91_50 : am_code 91 50 = some (4, 52, 0, 0, 0, 16, 0) := rfl
theorem I91_52 : am_code 91 52 = some (38, 55, 62, 0, 0, 0, 0) := rfl
theorem I91_55 : am_code 91 55 = some (9, 58, 1, 0, 0, 4, 0) := rfl
theorem I91_58 : am_code 91 58 = some (1, 59, 0, 0, 0, 0, 0) := rfl
theorem I91_59 : am_code 91 59 = some (4, 60, 0, 0, 0, 4, 0) := rfl
theorem I91_60 : am_code 91 60 = some (18, 61, 0, 0, 0, 0, 0) := rfl
theorem I91_61 : am_code 91 61 = some (6, 62, 0, 0, 0, 0, 0) := rfl
theorem I91_62 : am_code 91 62 = some (1, 63, 0, 0, 0, 0, 0) := rfl
theorem I91_63 : am_code 91 63 = some (4, 64, 0, 0, 0, 4, 0) := rfl
theorem I91_64 : am_code 91 64 = some (38, 67, 74, 0, 0, 0, 0) := rfl
theorem I91_67 : am_code 91 67 = some (9, 70, 1, 0, 0, 2, 0) := rfl
theorem I91_70 : am_code 91 70 = some (1, 71, 0, 0, 0, 0, 0) := rfl
theorem I91_71 : am_code 91 71 = some (4, 72, 0, 0, 0, 2, 0) := rfl
theorem I91_72 : am_code 91 72 = some (18, 73, 0, 0, 0, 0, 0) := rfl
theorem I91_73 : am_code 91 73 = some (6, 74, 0, 0, 0, 0, 0) := rfl
theorem I91_74 : am_code 91 74 = some (1, 75, 1, 0, 0, 0, 0) := rfl
theorem I91_75 : am_code 91 75 = some (1, 76, 0, 0, 0, 0, 0) := rfl
theorem I91_76 : am_code 91 76 = some (4, 77, 0, 0, 0, 1, 0) := rfl
theorem I91_77 : am_code 91 77 = some (18, 78, 0, 0, 0, 0, 0) := rfl
theorem I91_78 : am_code 91 78 = some (10, 79, 0, 0, 0, 0, 0) := rfl
theorem I91_79 : am_code 91 79 = some (70, 80, 0, 0, 0, 0, 0) := rfl
theorem I92_0 : am_code 92 0 = some (1, 1, 0, 0, 0, 0, 0) := rfl
theorem I92_1 : am_code 92 1 = some (1, 2, 0, 0, 0, 0, 0) := rfl
theorem I92_2 : am_code 92 2 = some (4, 3, 0, 0, 0, 1, 0) := rfl
theorem I92_3 : am_code 92 3 = some (18, 4, 0, 0, 0, 0, 0) := rfl
theorem I92_4 : am_code 92 4 = some (4, 7, 0, 0, 265, 1431655765, 0) := rfl
theorem I92_7 : am_code 92 7 = some (19, 8, 0, 0, 0, 0, 0) := rfl
theorem I92_8 : am_code 92 8 = some (11, 9, 0, 0, 0, 0, 0) := rfl
theorem I92_9 : am_code 92 9 = some (6, 10, 0, 0, 0, 0, 0) := rfl
theorem I92_10 : am_code 92 10 = some (1, 11, 0, 0, 0, 0, 0) := rfl
theorem I92_11 : am_code 92 11 = some (4, 14, 0, 0, 266, 858993459, 0) := rfl
theorem I92_14 : am_code 92 14 = some (19, 15, 0, 0, 0, 0, 0) := rfl
theorem I92_15 : am_code 92 15 = some (1, 16, 0, 0, 0, 0, 0) := rfl
theorem I92_16 : am_code 92 16 = some (4, 17, 0, 0, 0, 2, 0) := rfl
theorem I92_17 : am_code 92 17 = some (18, 18, 0, 0, 0, 0, 0) := rfl
theorem I92_18 : am_code 92 18 = some (4, 21, 0, 0, 266, 858993459, 0) := rfl
theorem I92_21 : am_code 92 21 = some (19, 22, 0, 0, 0, 0, 0) := rfl
theorem I92_22 : am_code 92 22 = some (10, 23, 0, 0, 0, 0, 0) := rfl
theorem I92_23 : am_code 92 23 = some (6, 24, 0, 0, 0, 0, 0) := rfl
theorem I92_24 : am_code 92 24 = some (1, 25, 0, 0, 0, 0, 0) := rfl
theorem I92_25 : am_code 92 25 = some (1, 26, 0, 0, 0, 0, 0) := rfl
theorem I92_26 : am_code 92 26 = some (4, 27, 0, 0, 0, 4, 0) := rfl
theorem I92_27 : am_code 92 27 = some (18, 28, 0, 0, 0, 0, 0) := rfl
theorem I92_28 : am_code 92 28 = some (10, 29, 0, 0, 0, 0, 0) := rfl
theorem I92_29 : am_code 92 29 = some (4, 32, 0, 0, 267, 252645135, 0) := rfl
theorem I92_32 : am_code 92 32 = some (19, 33, 0, 0, 0, 0, 0) := rfl
theorem I92_33 : am_code 92 33 = some (6, 34, 0, 0, 0, 0, 0) := rfl
theorem I92_34 : am_code 92 34 = some (1, 35, 0, 0, 0, 0, 0) := rfl
theorem I92_35 : am_code 92 35 = some (1, 36, 0, 0, 0, 0, 0) := rfl
theorem I92_36 : am_code 92 36 = some (4, 38, 0, 0, 0, 8, 0) := rfl
theorem I92_38 : am_code 92 38 = some (18, 39, 0, 0, 0, 0, 0) := rfl
theorem I92_39 : am_code 92 39 = some (10, 40, 0, 0, 0, 0, 0) := rfl
theorem I92_40 : am_code 92 40 = some (6, 41, 0, 0, 0, 0, 0) := rfl
theorem I92_41 : am_code 92 41 = some (1, 42, 0, 0, 0, 0, 0) := rfl
theorem I92_42 : am_code 92 42 = some (1, 43, 0, 0, 0, 0, 0) := rfl
theorem I92_43 : am_code 92 43 = some (4, 45, 0, 0, 0, 16, 0) := rfl
theorem I92_45 : am_code 92 45 = some (18, 46, 0, 0, 0, 0, 0) := rfl
theorem I92_46 : am_code 92 46 = some (10, 47, 0, 0, 0, 0, 0) := rfl
theorem I92_47 : am_code 92 47 = some (6, 48, 0, 0, 0, 0, 0) := rfl
theorem I92_48 : am_code 92 48 = some (1, 49, 0, 0, 0, 0, 0) := rfl
theorem I92_49 : am_code 92 49 = some (4, 51, 0, 0, 0, 63, 0) := rfl
theorem I92_51 : am_code 92 51 = some (19, 52, 0, 0, 0, 0, 0) := rfl
theorem I92_52 : am_code 92 52 = some (70, 53, 0, 0, 0, 0, 0) := rfl
theorem I93_0 : am_code 93 0 = some (3, 1, 0, 0, 0, 0, 0) := rfl
theorem I93_1 : am_code 93 1 = some (3, 2, 0, 0, 0, 0, 0) := rfl
theorem I93_2 : am_code 93 2 = some (4, 3, 0, 0, 0, 1, 0) := rfl
theorem I93_3 : am_code 93 3 = some (29, 4, 0, 0, 0, 0, 0) := rfl
theorem I93_4 : am_code 93 4 = some (5, 7, 0, 0, 314, 0, 6148914691236517205) := rfl
theorem I93_7 : am_code 93 7 = some (24, 8, 0, 0, 0, 0, 0) := rfl
theorem I93_8 : am_code 93 8 = some (23, 9, 0, 0, 0, 0, 0) := rfl
theorem I93_9 : am_code 93 9 = some (8, 10, 0, 0, 0, 0, 0) := rfl
theorem I93_10 : am_code 93 10 = some (3, 11, 0, 0, 0, 0, 0) := rfl
theorem I93_11 : am_code 93 11 = some (5, 14, 0, 0, 316, 0, 3689348814741910323) := rfl
theorem I93_14 : am_code 93 14 = some (24, 15, 0, 0, 0, 0, 0) := rfl
theorem I93_15 : am_code 93 15 = some (3, 16, 0, 0, 0, 0, 0) := rfl
theorem I93_16 : am_code 93 16 = some (4, 17, 0, 0, 0, 2, 0) := rfl
theorem I93_17 : am_code 93 17 = some (29, 18, 0, 0, 0, 0, 0) := rfl
theorem I93_18 : am_code 93 18 = some (5, 21, 0, 0, 316, 0, 3689348814741910323) := rfl
theorem I93_21 : am_code 93 21 = some (24, 22, 0, 0, 0, 0, 0) := rfl
theorem I93_22 : am_code 93 22 = some (22, 23, 0, 0, 0, 0, 0) := rfl
theorem I93_23 : am_code 93 23 = some (8, 24, 0, 0, 0, 0, 0) := rfl
theorem I93_24 : am_code 93 24 = some (3, 25, 0, 0, 0, 0, 0) := rfl
theorem I93_25 : am_code 93 25 = some (3, 26, 0, 0, 0, 0, 0) := rfl
theorem I93_26 : am_code 93 26 = some (4, 27, 0, 0, 0, 4, 0) := rfl
theorem I93_27 : am_code 93 27 = some (29, 28, 0, 0, 0, 0, 0) := rfl
theorem I93_28 : am_code 93 28 = some (22, 29, 0, 0, 0, 0, 0) := rfl
theorem I93_29 : am_code 93 29 = some (5, 32, 0, 0, 318, 0, 1085102592571150095) := rfl
theorem I93_32 : am_code 93 32 = some (24, 33, 0, 0, 0, 0, 0) := rfl
theorem I93_33 : am_code 93 33 = some (8, 34, 0, 0, 0, 0, 0) := rfl
theorem I93_34 : am_code 93 34 = some (3, 35, 0, 0, 0, 0, 0) := rfl
theorem I93_35 : am_code 93 35 = some (3, 36, 0, 0, 0, 0, 0) := rfl
theorem I93_36 : am_code 93 36 = some (4, 38, 0, 0, 0, 8, 0) := rfl
theorem I93_38 : am_code 93 38 = some (29, 39, 0, 0, 0, 0, 0) := rfl
theorem I93_39 : am_code 93 39 = some (22, 40, 0, 0, 0, 0, 0) := rfl
theorem I93_40 : am_code 93 40 = some (8, 41, 0, 0, 0, 0, 0) := rfl
theorem I93_41 : am_code 93 41 = some (3, 42, 0, 0, 0, 0, 0) := rfl
theorem I93_42 : am_code 93 42 = some (3, 43, 0, 0, 0, 0, 0) := rfl
theorem I93_43 : am_code 93 43 = some (4, 45, 0, 0, 0, 16, 0) := rfl
theorem I93_45 : am_code 93 45 = some (29, 46, 0, 0, 0, 0, 0) := rfl
theorem I93_46 : am_code 93 46 = some (22, 47, 0, 0, 0, 0, 0) := rfl
theorem I93_47 : am_code 93 47 = some (8, 48, 0, 0, 0, 0, 0) := rfl
theorem I93_48 : am_code 93 48 = some (3, 49, 0, 0, 0, 0, 0) := rfl
theorem I93_49 : am_code 93 49 = some (3, 50, 0, 0, 0, 0, 0) := rfl
theorem I93_50 : am_code 93 50 = some (4, 52, 0, 0, 0, 32, 0) := rfl
theorem I93_52 : am_code 93 52 = some (29, 53, 0, 0, 0, 0, 0) := rfl
theorem I93_53 : am_code 93 53 = some (22, 54, 0, 0, 0, 0, 0) := rfl
theorem I93_54 : am_code 93 54 = some (8, 55, 0, 0, 0, 0, 0) := rfl
theorem I93_55 : am_code 93 55 = some (3, 56, 0, 0, 0, 0, 0) := rfl
theorem I93_56 : am_code 93 56 = some (31, 57, 0, 0, 0, 0, 0) := rfl
theorem I93_57 : am_code 93 57 = some (4, 59, 0, 0, 0, 127, 0) := rfl
theorem I93_59 : am_code 93 59 = some (19, 60, 0, 0, 0, 0, 0) := rfl
theorem I93_60 : am_code 93 60 = some (70, 61, 0, 0, 0, 0, 0) := rfl
theorem I94_0 : am_code 94 0 = some (1, 1, 1, 0, 0, 0, 0) := rfl
theorem I94_1 : am_code 94 1 = some (2, 2, 0, 0, 0, 0, 0) := rfl
theorem I94_2 : am_code 94 2 = some (59, 3, 0, 0, 0, 0, 0) := rfl
theorem I94_3 : am_code 94 3 = some (36, 6, 12, 0, 0, 0, 0) := rfl
theorem I94_6 : am_code 94 6 = some (2, 7, 0, 0, 0, 0, 0) := rfl
theorem I94_7 : am_code 94 7 = some (1, 8, 1, 0, 0, 0, 0) := rfl
theorem I94_8 : am_code 94 8 = some (51, 9, 0, 0, 0, 0, 0) := rfl
theorem I94_9 : am_code 94 9 = some (45, 12, 20, 0, 0, 0, 0) := rfl
theorem I94_12 : am_code 94 12 = some (4, 14, 0, 0, 7, 2146121005, 0) := rfl
theorem I94_14 : am_code 94 14 = some (1, 15, 1, 0, 0, 0, 0) := rfl
theorem I94_15 : am_code 94 15 = some (4, 18, 0, 0, 0, 1217, 0) := rfl
theorem I94_18 : am_code 94 18 = some (10, 19, 0, 0, 0, 0, 0) := rfl
theorem I94_19 : am_code 94 19 = some (12, 20, 0, 0, 0, 0, 0) := rfl
theorem I94_20 : am_code 94 20 = some (70, 21, 0, 0, 0, 0, 0) := rfl
theorem I95_0 : am_code 95 0 = some (1, 1, 0, 0, 0, 0, 0) := rfl
theorem I95_1 : am_code 95 1 = some (4, 3, 0, 0, 8, 2147483647, 0) := rfl
theorem I95_3 : am_code 95 3 = some (19, 4, 0, 0, 0, 0, 0) := rfl
theorem I95_4 : am_code 95 4 = some (1, 5, 1, 0, 0, 0, 0) := rfl
theorem I95_5 : am_code 95 5 = some (14, 6, 0, 0, 0, 0, 0) := rfl
theorem I95_6 : am_code 95 6 = some (70, 7, 0, 0, 0, 0, 0) := rfl
theorem I96_0 : am_code 96 0 = some (4, 1, 0, 0, 0, 0, 0) := rfl
theorem I96_1 : am_code 96 1 = some (6, 2, 1, 0, 0, 0, 0) := rfl
theorem I96_2 : am_code 96 2 = some (4, 3, 0, 0, 0, 0, 0) := rfl
theorem I96_3 : am_code 96 3 = some (6, 4, 2, 0, 0, 0, 0) := rfl
theorem I96_4 : am_code 96 4 = some (1, 5, 2, 0, 0, 0, 0) := rfl
theorem I96_5 : am_code 96 5 = some (4, 7, 0, 0, 0, 31, 0) := rfl
theorem I96_7 : am_code 96 7 = some (36, 10, 24, 0, 0, 0, 0) := rfl
theorem I96_10 : am_code 96 10 = some (1, 11, 1, 0, 0, 0, 0) := rfl
theorem I96_11 : am_code 96 11 = some (1, 12, 0, 0, 0, 0, 0) := rfl
theorem I96_12 : am_code 96 12 = some (1, 13, 2, 0, 0, 0, 0) := rfl
theorem I96_13 : am_code 96 13 = some (17, 14, 0, 0, 0, 0, 0) := rfl
theorem I96_14 : am_code 96 14 = some (4, 15, 0, 0, 0, 1, 0) := rfl
theorem I96_15 : am_code 96 15 = some (19, 16, 0, 0, 0, 0, 0) := rfl
theorem I96_16 : am_code 96 16 = some (10, 17, 0, 0, 0, 0, 0) := rfl
theorem I96_17 : am_code 96 17 = some (6, 18, 1, 0, 0, 0, 0) := rfl
theorem I96_18 : am_code 96 18 = some (9, 21, 2, 0, 0, 1, 0) := rfl
theorem I96_21 : am_code 96 21 = some (45, 24, 4, 0, 0, 0, 0) := rfl
theorem I96_24 : am_code 96 24 = some (1, 25, 1, 0, 0, 0, 0) := rfl
theorem I96_25 : am_code 96 25 = some (70, 26, 0, 0, 0, 0, 0) := rfl
theorem I97_0 : am_code 97 0 = some (1, 1, 1, 0, 0, 0, 0) := rfl
theorem I97_1 : am_code 97 1 = some (44, 4, 25, 0, 0, 0, 0) := rfl
theorem I97_4 : am_code 97 4 = some (2, 5, 0, 0, 0, 0, 0) := rfl
theorem I97_5 : am_code 97 5 = some (65, 8, 52, 0, 69, 0, 0) := rfl
theorem I97_8 : am_code 97 8 = some (4, 10, 0, 0, 0, (-6), 0) := rfl
theorem I97_10 : am_code 97 10 = some (33, 13, 23, 0, 0, 0, 0) := rfl
theorem I97_13 : am_code 97 13 = some (2, 14, 0, 0, 0, 0, 0) := rfl
theorem I97_14 : am_code 97 14 = some (65, 17, 53, 0, 72, 0, 0) := rfl
theorem I97_17 : am_code 97 17 = some (4, 20, 0, 0, 0, 1000, 0) := rfl
theorem I97_20 : am_code 97 20 = some (36, 23, 25, 0, 0, 0, 0) := rfl
theorem I97_23 : am_code 97 23 = some (4, 24, 0, 0, 0, 0, 0) := rfl
theorem I97_24 : am_code 97 24 = some (70, 25, 1, 0, 0, 0, 0) := rfl
theorem I97_25 : am_code 97 25 = some (2, 26, 0, 0, 0, 0, 0) := rfl
theorem I97_26 : am_code 97 26 = some (65, 29, 52, 0, 69, 0, 0) := rfl
theorem I97_29 : am_code 97 29 = some (4, 31, 0, 0, 0, (-6), 0) := rfl
theorem I97_31 : am_code 97 31 = some (34, 34, 38, 0, 0, 0, 0) := rfl
theorem I97_34 : am_code 97 34 = some (1, 35, 1, 0, 0, 0, 0) := rfl
theorem I97_35 : am_code 97 35 = some (43, 38, 67, 0, 0, 0, 0) := rfl
theorem I97_38 : am_code 97 38 = some (1, 39, 1, 0, 0, 0, 0) := rfl
theorem I97_39 : am_code 97 39 = some (40, 42, 69, 0, 0, 0, 0) := rfl
theorem I97_42 : am_code 97 42 = some (2, 43, 0, 0, 0, 0, 0) := rfl
theorem I97_43 : am_code 97 43 = some (65, 46, 60, 0, 75, 0, 0) := rfl
theorem I97_46 : am_code 97 46 = some (40, 49, 67, 0, 0, 0, 0) := rfl
theorem I97_49 : am_code 97 49 = some (2, 50, 0, 0, 0, 0, 0) := rfl
theorem I97_50 : am_code 97 50 = some (65, 53, 75, 0, 78, 0, 0) := rfl
theorem I97_53 : am_code 97 53 = some (40, 56, 67, 0, 0, 0, 0) := rfl
theorem I97_56 : am_code 97 56 = some (2, 57, 0, 0, 0, 0, 0) := rfl
theorem I97_57 : am_code 97 57 = some (4, 58, 0, 0, 0, 0, 0) := rfl
theorem I97_58 : am_code 97 58 = some (4, 59, 0, 0, 0, 0, 0) := rfl
theorem I97_59 : am_code 97 59 = some (65, 62, 56, 2, 81, 0, 0) := rfl
theorem I97_62 : am_code 97 62 = some (4, 64, 0, 0, 0, (-6), 0) := rfl
theorem I97_64 : am_code 97 64 = some (33, 67, 69, 0, 0, 0, 0) := rfl
theorem I97_67 : am_code 97 67 = some (4, 68, 0, 0, 0, 0, 0) := rfl
theorem I97_68 : am_code 97 68 = some (70, 69, 1, 0, 0, 0, 0) := rfl
theorem I97_69 : am_code 97 69 = some (4, 70, 0, 0, 0, 0, 0) := rfl
theorem I97_70 : am_code 97 70 = some (6, 71, 2, 0, 0, 0, 0) := rfl
theorem I97_71 : am_code 97 71 = some (1, 72, 2, 0, 0, 0, 0) := rfl
theorem I97_72 : am_code 97 72 = some (4, 73, 0, 0, 0, 4, 0) := rfl
theorem I97_73 : am_code 97 73 = some (36, 76, 226, 0, 0, 0, 0) := rfl
theorem I97_76 : am_code 97 76 = some (1, 77, 2, 0, 0, 0, 0) := rfl
theorem I97_77 : am_code 97 77 = some (1, 78, 1, 0, 0, 0, 0) := rfl
theorem I97_78 : am_code 97 78 = some (36, 81, 226, 0, 0, 0, 0) := rfl
theorem I97_81 : am_code 97 81 = some (4, 82, 0, 0, 0, 0, 0) := rfl
theorem I97_82 : am_code 97 82 = some (6, 83, 3, 0, 0, 0, 0) := rfl
theorem I97_83 : am_code 97 83 = some (4, 84, 0, 0, 0, 1, 0) := rfl
theorem I97_84 : am_code 97 84 = some (6, 86, 4, 0, 0, 0, 0) := rfl
theorem I97_86 : am_code 97 86 = some (1, 88, 4, 0, 0, 0, 0) := rfl
theorem I97_88 : am_code 97 88 = some (4, 90, 0, 0, 0, 18, 0) := rfl
theorem I97_90 : am_code 97 90 = some (36, 93, 210, 0, 0, 0, 0) := rfl
theorem I97_93 : am_code 97 93 = some (2, 94, 0, 0, 0, 0, 0) := rfl
theorem I97_94 : am_code 97 94 = some (4, 95, 0, 0, 0, 2, 0) := rfl
theorem I97_95 : am_code 97 95 = some (65, 98, 49, 1, 33, 0, 0) := rfl
theorem I97_98 : am_code 97 98 = some (1, 100, 4, 0, 0, 0, 0) := rfl
theorem I97_100 : am_code 97 100 = some (17, 101, 0, 0, 0, 0, 0) := rfl
theorem I97_101 : am_code 97 101 = some (4, 102, 0, 0, 0, 1, 0) := rfl
theorem I97_102 : am_code 97 102 = some (19, 103, 0, 0, 0, 0, 0) := rfl
theorem I97_103 : am_code 97 103 = some (40, 106, 119, 0, 0, 0, 0) := rfl
theorem I97_106 : am_code 97 106 = some (2, 107, 0, 0, 0, 0, 0) := rfl
theorem I97_107 : am_code 97 107 = some (1, 108, 2, 0, 0, 0, 0) := rfl
theorem I97_108 : am_code 97 108 = some (1, 110, 4, 0, 0, 0, 0) := rfl
theorem I97_110 : am_code 97 110 = some (65, 113, 57, 2, 84, 0, 0) := rfl
theorem I97_113 : am_code 97 113 = some (4, 114, 0, 0, 0, (-1), 0) := rfl
theorem I97_114 : am_code 97 114 = some (33, 117, 204, 0, 0, 0, 0) := rfl
theorem I97_117 : am_code 97 117 = some (4, 118, 0, 0, 0, 0, 0) := rfl
theorem I97_118 : am_code 97 118 = some (70, 119, 1, 0, 0, 0, 0) := rfl
theorem I97_119 : am_code 97 119 = some (2, 120, 0, 0, 0, 0, 0) := rfl
theorem I97_120 : am_code 97 120 = some (1, 121, 2, 0, 0, 0, 0) := rfl
theorem I97_121 : am_code 97 121 = some (1, 123, 4, 0, 0, 0, 0) := rfl
theorem I97_123 : am_code 97 123 = some (65, 126, 57, 2, 84, 0, 0) := rfl
theorem I97_126 : am_code 97 126 = some (6, 128, 5, 0, 0, 0, 0) := rfl
theorem I97_128 : am_code 97 128 = some (1, 129, 3, 0, 0, 0, 0) := rfl
theorem I97_129 : am_code 97 129 = some (1, 131, 5, 0, 0, 0, 0) := rfl
theorem I97_131 : am_code 97 131 = some (10, 132, 0, 0, 0, 0, 0) := rfl
theorem I97_132 : am_code 97 132 = some (6, 133, 3, 0, 0, 0, 0) := rfl
theorem I97_133 : am_code 97 133 = some (2, 134, 0, 0, 0, 0, 0) := rfl
theorem I97_134 : am_code 97 134 = some (1, 135, 2, 0, 0, 0, 0) := rfl
theorem I97_135 : am_code 97 135 = some (1, 137, 5, 0, 0, 0, 0) := rfl
theorem I97_137 : am_code 97 137 = some (65, 140, 56, 2, 81, 0, 0) := rfl
theorem I97_140 : am_code 97 140 = some (1, 142, 4, 0, 0, 0, 0) := rfl
theorem I97_142 : am_code 97 142 = some (34, 145, 202, 0, 0, 0, 0) := rfl
theorem I97_145 : am_code 97 145 = some (2, 146, 0, 0, 0, 0, 0) := rfl
theorem I97_146 : am_code 97 146 = some (1, 147, 2, 0, 0, 0, 0) := rfl
theorem I97_147 : am_code 97 147 = some (1, 149, 5, 0, 0, 0, 0) := rfl
theorem I97_149 : am_code 97 149 = some (1, 151, 4, 0, 0, 0, 0) := rfl
theorem I97_151 : am_code 97 151 = some (10, 152, 0, 0, 0, 0, 0) := rfl
theorem I97_152 : am_code 97 152 = some (65, 155, 56, 2, 81, 0, 0) := rfl
theorem I97_155 : am_code 97 155 = some (1, 157, 4, 0, 0, 0, 0) := rfl
theorem I97_157 : am_code 97 157 = some (34, 160, 202, 0, 0, 0, 0) := rfl
theorem I97_160 : am_code 97 160 = some (2, 161, 0, 0, 0, 0, 0) := rfl
theorem I97_161 : am_code 97 161 = some (1, 163, 4, 0, 0, 0, 0) := rfl
theorem I97_163 : am_code 97 163 = some (65, 166, 54, 1, 87, 0, 0) := rfl
theorem I97_166 : am_code 97 166 = some (1, 168, 5, 0, 0, 0, 0) := rfl
theorem I97_168 : am_code 97 168 = some (17, 169, 0, 0, 0, 0, 0) := rfl
theorem I97_169 : am_code 97 169 = some (4, 170, 0, 0, 0, 1, 0) := rfl
theorem I97_170 : am_code 97 170 = some (19, 171, 0, 0, 0, 0, 0) := rfl
theorem I97_171 : am_code 97 171 = some (39, 174, 202, 0, 0, 0, 0) := rfl
theorem I97_174 : am_code 97 174 = some (2, 175, 0, 0, 0, 0, 0) := rfl
theorem I97_175 : am_code 97 175 = some (1, 176, 2, 0, 0, 0, 0) := rfl
theorem I97_176 : am_code 97 176 = some (1, 178, 4, 0, 0, 0, 0) := rfl
theorem I97_178 : am_code 97 178 = some (4, 179, 0, 0, 0, 0, 0) := rfl
theorem I97_179 : am_code 97 179 = some (65, 182, 79, 3, 90, 0, 0) := rfl
theorem I97_182 : am_code 97 182 = some (2, 183, 0, 0, 0, 0, 0) := rfl
theorem I97_183 : am_code 97 183 = some (1, 184, 2, 0, 0, 0, 0) := rfl
theorem I97_184 : am_code 97 184 = some (1, 186, 4, 0, 0, 0, 0) := rfl
theorem I97_186 : am_code 97 186 = some (4, 187, 0, 0, 0, 1, 0) := rfl
theorem I97_187 : am_code 97 187 = some (65, 190, 79, 3, 90, 0, 0) := rfl
theorem I97_190 : am_code 97 190 = some (10, 191, 0, 0, 0, 0, 0) := rfl
theorem I97_191 : am_code 97 191 = some (2, 192, 0, 0, 0, 0, 0) := rfl
theorem I97_192 : am_code 97 192 = some (1, 193, 2, 0, 0, 0, 0) := rfl
theorem I97_193 : am_code 97 193 = some (1, 195, 4, 0, 0, 0, 0) := rfl
theorem I97_195 : am_code 97 195 = some (4, 196, 0, 0, 0, 2, 0) := rfl
theorem I97_196 : am_code 97 196 = some (65, 199, 79, 3, 90, 0, 0) := rfl
theorem I97_199 : am_code 97 199 = some (33, 202, 204, 0, 0, 0, 0) := rfl
theorem I97_202 : am_code 97 202 = some (4, 203, 0, 0, 0, 0, 0) := rfl
theorem I97_203 : am_code 97 203 = some (70, 204, 1, 0, 0, 0, 0) := rfl
theorem I97_204 : am_code 97 204 = some (9, 207, 4, 0, 0, 1, 0) := rfl
theorem I97_207 : am_code 97 207 = some (45, 210, 86, 0, 0, 0, 0) := rfl
theorem I97_210 : am_code 97 210 = some (1, 211, 3, 0, 0, 0, 0) := rfl
theorem I97_211 : am_code 97 211 = some (2, 212, 0, 0, 0, 0, 0) := rfl
theorem I97_212 : am_code 97 212 = some (65, 215, 52, 0, 69, 0, 0) := rfl
theorem I97_215 : am_code 97 215 = some (33, 218, 220, 0, 0, 0, 0) := rfl
theorem I97_218 : am_code 97 218 = some (4, 219, 0, 0, 0, 0, 0) := rfl
theorem I97_219 : am_code 97 219 = some (70, 220, 1, 0, 0, 0, 0) := rfl
theorem I97_220 : am_code 97 220 = some (9, 223, 2, 0, 0, 1, 0) := rfl
theorem I97_223 : am_code 97 223 = some (45, 226, 71, 0, 0, 0, 0) := rfl
theorem I97_226 : am_code 97 226 = some (4, 227, 0, 0, 0, 1, 0) := rfl
theorem I97_227 : am_code 97 227 = some (70, 228, 1, 0, 0, 0, 0) := rfl
theorem I98_0 : am_code 98 0 = some (2, 1, 0, 0, 0, 0, 0) := rfl
theorem I98_1 : am_code 98 1 = some (4, 2, 0, 0, 0, 2, 0) := rfl
theorem I98_2 : am_code 98 2 = some (65, 5, 49, 1, 33, 0, 0) := rfl
theorem I98_5 : am_code 98 5 = some (66, 8, 96, 1, 93, 0, 0) := rfl
theorem I98_8 : am_code 98 8 = some (6, 9, 2, 0, 0, 0, 0) := rfl
theorem I98_9 : am_code 98 9 = some (2, 10, 0, 0, 0, 0, 0) := rfl
theorem I98_10 : am_code 98 10 = some (4, 11, 0, 0, 0, 0, 0) := rfl
theorem I98_11 : am_code 98 11 = some (65, 14, 49, 1, 33, 0, 0) := rfl
theorem I98_14 : am_code 98 14 = some (6, 15, 3, 0, 0, 0, 0) := rfl
theorem I98_15 : am_code 98 15 = some (2, 16, 0, 0, 0, 0, 0) := rfl
theorem I98_16 : am_code 98 16 = some (4, 17, 0, 0, 0, 4, 0) := rfl
theorem I98_17 : am_code 98 17 = some (65, 20, 49, 1, 33, 0, 0) := rfl
theorem I98_20 : am_code 98 20 = some (1, 21, 3, 0, 0, 0, 0) := rfl
theorem I98_21 : am_code 98 21 = some (2, 22, 0, 0, 0, 0, 0) := rfl
theorem I98_22 : am_code 98 22 = some (4, 23, 0, 0, 0, 1, 0) := rfl
theorem I98_23 : am_code 98 23 = some (65, 26, 49, 1, 33, 0, 0) := rfl
theorem I98_26 : am_code 98 26 = some (66, 29, 96, 1, 93, 0, 0) := rfl
theorem I98_29 : am_code 98 29 = some (11, 30, 0, 0, 0, 0, 0) := rfl
theorem I98_30 : am_code 98 30 = some (34, 33, 99, 0, 0, 0, 0) := rfl
theorem I98_33 : am_code 98 33 = some (1, 34, 1, 0, 0, 0, 0) := rfl
theorem I98_34 : am_code 98 34 = some (39, 37, 48, 0, 0, 0, 0) := rfl
theorem I98_37 : am_code 98 37 = some (2, 38, 0, 0, 0, 0, 0) := rfl
theorem I98_38 : am_code 98 38 = some (4, 39, 0, 0, 0, 4, 0) := rfl
theorem I98_39 : am_code 98 39 = some (65, 42, 49, 1, 33, 0, 0) := rfl
theorem I98_42 : am_code 98 42 = some (4, 43, 0, 0, 0, 2, 0) := rfl
theorem I98_43 : am_code 98 43 = some (1, 44, 2, 0, 0, 0, 0) := rfl
theorem I98_44 : am_code 98 44 = some (12, 45, 0, 0, 0, 0, 0) := rfl
theorem I98_45 : am_code 98 45 = some (34, 48, 99, 0, 0, 0, 0) := rfl
theorem I98_48 : am_code 98 48 = some (2, 49, 0, 0, 0, 0, 0) := rfl
theorem I98_49 : am_code 98 49 = some (1, 50, 1, 0, 0, 0, 0) := rfl
theorem I98_50 : am_code 98 50 = some (4, 51, 0, 0, 0, 0, 0) := rfl
theorem I98_51 : am_code 98 51 = some (65, 54, 56, 2, 81, 0, 0) := rfl
theorem I98_54 : am_code 98 54 = some (4, 56, 0, 0, 0, (-6), 0) := rfl
theorem I98_56 : am_code 98 56 = some (34, 59, 99, 0, 0, 0, 0) := rfl
theorem I98_59 : am_code 98 59 = some (2, 60, 0, 0, 0, 0, 0) := rfl
theorem I98_60 : am_code 98 60 = some (1, 61, 1, 0, 0, 0, 0) := rfl
theorem I98_61 : am_code 98 61 = some (65, 64, 67, 1, 96, 0, 0) := rfl
theorem I98_64 : am_code 98 64 = some (4, 65, 0, 0, 0, (-1), 0) := rfl
theorem I98_65 : am_code 98 65 = some (34, 68, 99, 0, 0, 0, 0) := rfl
theorem I98_68 : am_code 98 68 = some (2, 69, 0, 0, 0, 0, 0) := rfl
theorem I98_69 : am_code 98 69 = some (1, 70, 1, 0, 0, 0, 0) := rfl
theorem I98_70 : am_code 98 70 = some (65, 73, 80, 1, 99, 0, 0) := rfl
theorem I98_73 : am_code 98 73 = some (4, 74, 0, 0, 0, (-1), 0) := rfl
theorem I98_74 : am_code 98 74 = some (34, 77, 99, 0, 0, 0, 0) := rfl
theorem I98_77 : am_code 98 77 = some (4, 78, 0, 0, 0, 2, 0) := rfl
theorem I98_78 : am_code 98 78 = some (2, 79, 0, 0, 0, 0, 0) := rfl
theorem I98_79 : am_code 98 79 = some (65, 82, 75, 0, 78, 0, 0) := rfl
theorem I98_82 : am_code 98 82 = some (12, 83, 0, 0, 0, 0, 0) := rfl
theorem I98_83 : am_code 98 83 = some (1, 84, 1, 0, 0, 0, 0) := rfl
theorem I98_84 : am_code 98 84 = some (35, 87, 99, 0, 0, 0, 0) := rfl
theorem I98_87 : am_code 98 87 = some (2, 88, 0, 0, 0, 0, 0) := rfl
theorem I98_88 : am_code 98 88 = some (65, 91, 75, 0, 78, 0, 0) := rfl
theorem I98_91 : am_code 98 91 = some (1, 92, 1, 0, 0, 0, 0) := rfl
theorem I98_92 : am_code 98 92 = some (37, 95, 99, 0, 0, 0, 0) := rfl
theorem I98_95 : am_code 98 95 = some (4, 96, 0, 0, 0, 1, 0) := rfl
theorem I98_96 : am_code 98 96 = some (45, 99, 100, 0, 0, 0, 0) := rfl
theorem I98_99 : am_code 98 99 = some (4, 100, 0, 0, 0, 0, 0) := rfl
theorem I98_100 : am_code 98 100 = some (70, 101, 1, 0, 0, 0, 0) := rfl
theorem I99_0 : am_code 99 0 = some (4, 1, 0, 0, 0, 0, 0) := rfl
theorem I99_1 : am_code 99 1 = some (6, 2, 3, 0, 0, 0, 0) := rfl
theorem I99_2 : am_code 99 2 = some (1, 3, 3, 0, 0, 0, 0) := rfl
theorem I99_3 : am_code 99 3 = some (2, 4, 0, 0, 0, 0, 0) := rfl
theorem I99_4 : am_code 99 4 = some (4, 5, 0, 0, 0, 0, 0) := rfl
theorem I99_5 : am_code 99 5 = some (65, 8, 49, 1, 33, 0, 0) := rfl
theorem I99_8 : am_code 99 8 = some (36, 11, 46, 0, 0, 0, 0) := rfl
theorem I99_11 : am_code 99 11 = some (2, 12, 0, 0, 0, 0, 0) := rfl
theorem I99_12 : am_code 99 12 = some (1, 13, 1, 0, 0, 0, 0) := rfl
theorem I99_13 : am_code 99 13 = some (1, 14, 3, 0, 0, 0, 0) := rfl
theorem I99_14 : am_code 99 14 = some (65, 17, 56, 2, 81, 0, 0) := rfl
theorem I99_17 : am_code 99 17 = some (2, 18, 0, 0, 0, 0, 0) := rfl
theorem I99_18 : am_code 99 18 = some (1, 19, 2, 0, 0, 0, 0) := rfl
theorem I99_19 : am_code 99 19 = some (1, 20, 3, 0, 0, 0, 0) := rfl
theorem I99_20 : am_code 99 20 = some (65, 23, 56, 2, 81, 0, 0) := rfl
theorem I99_23 : am_code 99 23 = some (33, 26, 40, 0, 0, 0, 0) := rfl
theorem I99_26 : am_code 99 26 = some (2, 27, 0, 0, 0, 0, 0) := rfl
theorem I99_27 : am_code 99 27 = some (1, 28, 1, 0, 0, 0, 0) := rfl
theorem I99_28 : am_code 99 28 = some (1, 29, 3, 0, 0, 0, 0) := rfl
theorem I99_29 : am_code 99 29 = some (65, 32, 56, 2, 81, 0, 0) := rfl
theorem I99_32 : am_code 99 32 = some (2, 33, 0, 0, 0, 0, 0) := rfl
theorem I99_33 : am_code 99 33 = some (1, 34, 2, 0, 0, 0, 0) := rfl
theorem I99_34 : am_code 99 34 = some (1, 35, 3, 0, 0, 0, 0) := rfl
theorem I99_35 : am_code 99 35 = some (65, 38, 56, 2, 81, 0, 0) := rfl
theorem I99_38 : am_code 99 38 = some (11, 39, 0, 0, 0, 0, 0) := rfl
theorem I99_39 : am_code 99 39 = some (70, 40, 0, 0, 0, 0, 0) := rfl
theorem I99_40 : am_code 99 40 = some (9, 43, 3, 0, 0, 1, 0) := rfl
theorem I99_43 : am_code 99 43 = some (45, 46, 2, 0, 0, 0, 0) := rfl
theorem I99_46 : am_code 99 46 = some (4, 47, 0, 0, 0, 0, 0) := rfl
theorem I99_47 : am_code 99 47 = some (70, 48, 0, 0, 0, 0, 0) := rfl
theorem I100_0 : am_code 100 0 = some (1, 1, 2, 0, 0, 0, 0) := rfl
theorem I100_1 : am_code 100 1 = some (1, 2, 1, 0, 0, 0, 0) := rfl
theorem I100_2 : am_code 100 2 = some (35, 5, 39, 0, 0, 0, 0) := rfl
theorem I100_5 : am_code 100 5 = some (2, 6, 0, 0, 0, 0, 0) := rfl
theorem I100_6 : am_code 100 6 = some (1, 7, 2, 0, 0, 0, 0) := rfl
theorem I100_7 : am_code 100 7 = some (65, 10, 67, 1, 96, 0, 0) := rfl
theorem I100_10 : am_code 100 10 = some (4, 11, 0, 0, 0, (-1), 0) := rfl
theorem I100_11 : am_code 100 11 = some (34, 14, 37, 0, 0, 0, 0) := rfl
theorem I100_14 : am_code 100 14 = some (2, 15, 0, 0, 0, 0, 0) := rfl
theorem I100_15 : am_code 100 15 = some (1, 16, 2, 0, 0, 0, 0) := rfl
theorem I100_16 : am_code 100 16 = some (65, 19, 74, 1, 102, 0, 0) := rfl
theorem I100_19 : am_code 100 19 = some (4, 20, 0, 0, 0, (-1), 0) := rfl
theorem I100_20 : am_code 100 20 = some (34, 23, 37, 0, 0, 0, 0) := rfl
theorem I100_23 : am_code 100 23 = some (2, 24, 0, 0, 0, 0, 0) := rfl
theorem I100_24 : am_code 100 24 = some (1, 25, 2, 0, 0, 0, 0) := rfl
theorem I100_25 : am_code 100 25 = some (4, 26, 0, 0, 0, (-1), 0) := rfl
theorem I100_26 : am_code 100 26 = some (65, 29, 77, 2, 105, 0, 0) := rfl
theorem I100_29 : am_code 100 29 = some (4, 30, 0, 0, 0, (-1), 0) := rfl
theorem I100_30 : am_code 100 30 = some (34, 33, 37, 0, 0, 0, 0) := rfl
theorem I100_33 : am_code 100 33 = some (4, 34, 0, 0, 0, 1, 0) := rfl
theorem I100_34 : am_code 100 34 = some (45, 37, 38, 0, 0, 0, 0) := rfl
theorem I100_37 : am_code 100 37 = some (4, 38, 0, 0, 0, 0, 0) := rfl
theorem I100_38 : am_code 100 38 = some (70, 39, 1, 0, 0, 0, 0) := rfl
theorem I100_39 : am_code 100 39 = some (1, 40, 2, 0, 0, 0, 0) := rfl
theorem I100_40 : am_code 100 40 = some (44, 43, 56, 0, 0, 0, 0) := rfl
theorem I100_43 : am_code 100 43 = some (2, 44, 0, 0, 0, 0, 0) := rfl
theorem I100_44 : am_code 100 44 = some (1, 45, 2, 0, 0, 0, 0) := rfl
theorem I100_45 : am_code 100 45 = some (4, 46, 0, 0, 0, 1, 0) := rfl
theorem I100_46 : am_code 100 46 = some (11, 47, 0, 0, 0, 0, 0) := rfl
theorem I100_47 : am_code 100 47 = some (1, 48, 2, 0, 0, 0, 0) := rfl
theorem I100_48 : am_code 100 48 = some (66, 51, 99, 3, 108, 0, 0) := rfl
theorem I100_51 : am_code 100 51 = some (41, 54, 56, 0, 0, 0, 0) := rfl
theorem I100_54 : am_code 100 54 = some (4, 55, 0, 0, 0, 0, 0) := rfl
theorem I100_55 : am_code 100 55 = some (70, 56, 1, 0, 0, 0, 0) := rfl
theorem I100_56 : am_code 100 56 = some (4, 57, 0, 0, 0, 0, 0) := rfl
theorem I100_57 : am_code 100 57 = some (6, 58, 3, 0, 0, 0, 0) := rfl
theorem I100_58 : am_code 100 58 = some (4, 59, 0, 0, 0, 0, 0) := rfl
theorem I100_59 : am_code 100 59 = some (6, 61, 4, 0, 0, 0, 0) := rfl
theorem I100_61 : am_code 100 61 = some (1, 63, 4, 0, 0, 0, 0) := rfl
theorem I100_63 : am_code 100 63 = some (2, 64, 0, 0, 0, 0, 0) := rfl
theorem I100_64 : am_code 100 64 = some (4, 65, 0, 0, 0, 0, 0) := rfl
theorem I100_65 : am_code 100 65 = some (65, 68, 49, 1, 33, 0, 0) := rfl
theorem I100_68 : am_code 100 68 = some (36, 71, 132, 0, 0, 0, 0) := rfl
theorem I100_71 : am_code 100 71 = some (2, 72, 0, 0, 0, 0, 0) := rfl
theorem I100_72 : am_code 100 72 = some (1, 73, 2, 0, 0, 0, 0) := rfl
theorem I100_73 : am_code 100 73 = some (1, 75, 4, 0, 0, 0, 0) := rfl
theorem I100_75 : am_code 100 75 = some (65, 78, 56, 2, 81, 0, 0) := rfl
theorem I100_78 : am_code 100 78 = some (6, 80, 5, 0, 0, 0, 0) := rfl
theorem I100_80 : am_code 100 80 = some (1, 82, 5, 0, 0, 0, 0) := rfl
theorem I100_82 : am_code 100 82 = some (40, 85, 92, 0, 0, 0, 0) := rfl
theorem I100_85 : am_code 100 85 = some (1, 86, 3, 0, 0, 0, 0) := rfl
theorem I100_86 : am_code 100 86 = some (4, 87, 0, 0, 0, 1, 0) := rfl
theorem I100_87 : am_code 100 87 = some (1, 89, 4, 0, 0, 0, 0) := rfl
theorem I100_89 : am_code 100 89 = some (16, 90, 0, 0, 0, 0, 0) := rfl
theorem I100_90 : am_code 100 90 = some (20, 91, 0, 0, 0, 0, 0) := rfl
theorem I100_91 : am_code 100 91 = some (6, 92, 3, 0, 0, 0, 0) := rfl
theorem I100_92 : am_code 100 92 = some (1, 94, 5, 0, 0, 0, 0) := rfl
theorem I100_94 : am_code 100 94 = some (44, 97, 126, 0, 0, 0, 0) := rfl
theorem I100_97 : am_code 100 97 = some (2, 98, 0, 0, 0, 0, 0) := rfl
theorem I100_98 : am_code 100 98 = some (4, 99, 0, 0, 0, 2, 0) := rfl
theorem I100_99 : am_code 100 99 = some (65, 102, 49, 1, 33, 0, 0) := rfl
theorem I100_102 : am_code 100 102 = some (1, 104, 5, 0, 0, 0, 0) := rfl
theorem I100_104 : am_code 100 104 = some (17, 105, 0, 0, 0, 0, 0) := rfl
theorem I100_105 : am_code 100 105 = some (4, 106, 0, 0, 0, 1, 0) := rfl
theorem I100_106 : am_code 100 106 = some (19, 107, 0, 0, 0, 0, 0) := rfl
theorem I100_107 : am_code 100 107 = some (39, 110, 124, 0, 0, 0, 0) := rfl
theorem I100_110 : am_code 100 110 = some (2, 111, 0, 0, 0, 0, 0) := rfl
theorem I100_111 : am_code 100 111 = some (1, 113, 4, 0, 0, 0, 0) := rfl
theorem I100_113 : am_code 100 113 = some (65, 116, 59, 1, 112, 0, 0) := rfl
theorem I100_116 : am_code 100 116 = some (1, 118, 5, 0, 0, 0, 0) := rfl
theorem I100_118 : am_code 100 118 = some (17, 119, 0, 0, 0, 0, 0) := rfl
theorem I100_119 : am_code 100 119 = some (4, 120, 0, 0, 0, 1, 0) := rfl
theorem I100_120 : am_code 100 120 = some (19, 121, 0, 0, 0, 0, 0) := rfl
theorem I100_121 : am_code 100 121 = some (40, 124, 126, 0, 0, 0, 0) := rfl
theorem I100_124 : am_code 100 124 = some (4, 125, 0, 0, 0, 0, 0) := rfl
theorem I100_125 : am_code 100 125 = some (70, 126, 1, 0, 0, 0, 0) := rfl
theorem I100_126 : am_code 100 126 = some (9, 129, 4, 0, 0, 1, 0) := rfl
theorem I100_129 : am_code 100 129 = some (45, 132, 61, 0, 0, 0, 0) := rfl
theorem I100_132 : am_code 100 132 = some (2, 133, 0, 0, 0, 0, 0) := rfl
theorem I100_133 : am_code 100 133 = some (4, 134, 0, 0, 0, 0, 0) := rfl
theorem I100_134 : am_code 100 134 = some (65, 137, 49, 1, 33, 0, 0) := rfl
theorem I100_137 : am_code 100 137 = some (6, 139, 4, 0, 0, 0, 0) := rfl
theorem I100_139 : am_code 100 139 = some (1, 140, 3, 0, 0, 0, 0) := rfl
theorem I100_140 : am_code 100 140 = some (2, 141, 0, 0, 0, 0, 0) := rfl
theorem I100_141 : am_code 100 141 = some (4, 142, 0, 0, 0, 1, 0) := rfl
theorem I100_142 : am_code 100 142 = some (65, 145, 49, 1, 33, 0, 0) := rfl
theorem I100_145 : am_code 100 145 = some (34, 148, 211, 0, 0, 0, 0) := rfl
theorem I100_148 : am_code 100 148 = some (2, 149, 0, 0, 0, 0, 0) := rfl
theorem I100_149 : am_code 100 149 = some (1, 150, 2, 0, 0, 0, 0) := rfl
theorem I100_150 : am_code 100 150 = some (65, 153, 67, 1, 96, 0, 0) := rfl
theorem I100_153 : am_code 100 153 = some (1, 155, 4, 0, 0, 0, 0) := rfl
theorem I100_155 : am_code 100 155 = some (34, 158, 211, 0, 0, 0, 0) := rfl
theorem I100_158 : am_code 100 158 = some (2, 159, 0, 0, 0, 0, 0) := rfl
theorem I100_159 : am_code 100 159 = some (65, 162, 63, 0, 115, 0, 0) := rfl
theorem I100_162 : am_code 100 162 = some (4, 164, 0, 0, 0, (-6), 0) := rfl
theorem I100_164 : am_code 100 164 = some (34, 167, 211, 0, 0, 0, 0) := rfl
theorem I100_167 : am_code 100 167 = some (2, 168, 0, 0, 0, 0, 0) := rfl
theorem I100_168 : am_code 100 168 = some (4, 169, 0, 0, 0, 0, 0) := rfl
theorem I100_169 : am_code 100 169 = some (65, 172, 64, 1, 118, 0, 0) := rfl
theorem I100_172 : am_code 100 172 = some (40, 175, 211, 0, 0, 0, 0) := rfl
theorem I100_175 : am_code 100 175 = some (2, 176, 0, 0, 0, 0, 0) := rfl
theorem I100_176 : am_code 100 176 = some (4, 177, 0, 0, 0, 1, 0) := rfl
theorem I100_177 : am_code 100 177 = some (65, 180, 64, 1, 118, 0, 0) := rfl
theorem I100_180 : am_code 100 180 = some (4, 182, 0, 0, 0, (-6), 0) := rfl
theorem I100_182 : am_code 100 182 = some (34, 185, 211, 0, 0, 0, 0) := rfl
theorem I100_185 : am_code 100 185 = some (2, 186, 0, 0, 0, 0, 0) := rfl
theorem I100_186 : am_code 100 186 = some (65, 189, 65, 0, 121, 0, 0) := rfl
theorem I100_189 : am_code 100 189 = some (1, 190, 2, 0, 0, 0, 0) := rfl
theorem I100_190 : am_code 100 190 = some (34, 193, 211, 0, 0, 0, 0) := rfl
theorem I100_193 : am_code 100 193 = some (2, 194, 0, 0, 0, 0, 0) := rfl
theorem I100_194 : am_code 100 194 = some (4, 195, 0, 0, 0, (-1), 0) := rfl
theorem I100_195 : am_code 100 195 = some (65, 198, 66, 1, 124, 0, 0) := rfl
theorem I100_198 : am_code 100 198 = some (4, 199, 0, 0, 0, 1, 0) := rfl
theorem I100_199 : am_code 100 199 = some (34, 202, 211, 0, 0, 0, 0) := rfl
theorem I100_202 : am_code 100 202 = some (2, 203, 0, 0, 0, 0, 0) := rfl
theorem I100_203 : am_code 100 203 = some (4, 204, 0, 0, 0, 0, 0) := rfl
theorem I100_204 : am_code 100 204 = some (65, 207, 66, 1, 124, 0, 0) := rfl
theorem I100_207 : am_code 100 207 = some (1, 208, 2, 0, 0, 0, 0) := rfl
theorem I100_208 : am_code 100 208 = some (33, 211, 213, 0, 0, 0, 0) := rfl
theorem I100_211 : am_code 100 211 = some (4, 212, 0, 0, 0, 0, 0) := rfl
theorem I100_212 : am_code 100 212 = some (70, 213, 1, 0, 0, 0, 0) := rfl
theorem I100_213 : am_code 100 213 = some (2, 214, 0, 0, 0, 0, 0) := rfl
theorem I100_214 : am_code 100 214 = some (1, 215, 2, 0, 0, 0, 0) := rfl
theorem I100_215 : am_code 100 215 = some (65, 218, 74, 1, 102, 0, 0) := rfl
theorem I100_218 : am_code 100 218 = some (6, 220, 5, 0, 0, 0, 0) := rfl
theorem I100_220 : am_code 100 220 = some (1, 222, 5, 0, 0, 0, 0) := rfl
theorem I100_222 : am_code 100 222 = some (41, 225, 266, 0, 0, 0, 0) := rfl
theorem I100_225 : am_code 100 225 = some (4, 226, 0, 0, 0, 0, 0) := rfl
theorem I100_226 : am_code 100 226 = some (6, 228, 6, 0, 0, 0, 0) := rfl
theorem I100_228 : am_code 100 228 = some (1, 230, 6, 0, 0, 0, 0) := rfl
theorem I100_230 : am_code 100 230 = some (1, 232, 4, 0, 0, 0, 0) := rfl
theorem I100_232 : am_code 100 232 = some (36, 235, 266, 0, 0, 0, 0) := rfl
theorem I100_235 : am_code 100 235 = some (2, 236, 0, 0, 0, 0, 0) := rfl
theorem I100_236 : am_code 100 236 = some (1, 238, 5, 0, 0, 0, 0) := rfl
theorem I100_238 : am_code 100 238 = some (1, 240, 6, 0, 0, 0, 0) := rfl
theorem I100_240 : am_code 100 240 = some (65, 243, 56, 2, 81, 0, 0) := rfl
theorem I100_243 : am_code 100 243 = some (2, 244, 0, 0, 0, 0, 0) := rfl
theorem I100_244 : am_code 100 244 = some (1, 245, 2, 0, 0, 0, 0) := rfl
theorem I100_245 : am_code 100 245 = some (1, 247, 4, 0, 0, 0, 0) := rfl
theorem I100_247 : am_code 100 247 = some (4, 248, 0, 0, 0, 1, 0) := rfl
theorem I100_248 : am_code 100 248 = some (11, 249, 0, 0, 0, 0, 0) := rfl
theorem I100_249 : am_code 100 249 = some (1, 251, 6, 0, 0, 0, 0) := rfl
theorem I100_251 : am_code 100 251 = some (11, 252, 0, 0, 0, 0, 0) := rfl
theorem I100_252 : am_code 100 252 = some (65, 255, 56, 2, 81, 0, 0) := rfl
theorem I100_255 : am_code 100 255 = some (33, 258, 260, 0, 0, 0, 0) := rfl
theorem I100_258 : am_code 100 258 = some (4, 259, 0, 0, 0, 0, 0) := rfl
theorem I100_259 : am_code 100 259 = some (70, 260, 1, 0, 0, 0, 0) := rfl
theorem I100_260 : am_code 100 260 = some (9, 263, 6, 0, 0, 1, 0) := rfl
theorem I100_263 : am_code 100 263 = some (45, 266, 228, 0, 0, 0, 0) := rfl
theorem I100_266 : am_code 100 266 = some (1, 268, 5, 0, 0, 0, 0) := rfl
theorem I100_268 : am_code 100 268 = some (41, 271, 281, 0, 0, 0, 0) := rfl
theorem I100_271 : am_code 100 271 = some (2, 272, 0, 0, 0, 0, 0) := rfl
theorem I100_272 : am_code 100 272 = some (1, 274, 5, 0, 0, 0, 0) := rfl
theorem I100_274 : am_code 100 274 = some (65, 277, 74, 1, 102, 0, 0) := rfl
theorem I100_277 : am_code 100 277 = some (1, 278, 2, 0, 0, 0, 0) := rfl
theorem I100_278 : am_code 100 278 = some (34, 281, 285, 0, 0, 0, 0) := rfl
theorem I100_281 : am_code 100 281 = some (4, 282, 0, 0, 0, 1, 0) := rfl
theorem I100_282 : am_code 100 282 = some (45, 285, 286, 0, 0, 0, 0) := rfl
theorem I100_285 : am_code 100 285 = some (4, 286, 0, 0, 0, 0, 0) := rfl
theorem I100_286 : am_code 100 286 = some (70, 287, 1, 0, 0, 0, 0) := rfl
theorem I101_0 : am_code 101 0 = some (4, 1, 0, 0, 0, 0, 0) := rfl
theorem I101_1 : am_code 101 1 = some (6, 2, 3, 0, 0, 0, 0) := rfl
theorem I101_2 : am_code 101 2 = some (4, 3, 0, 0, 0, 0, 0) := rfl
theorem I101_3 : am_code 101 3 = some (6, 5, 4, 0, 0, 0, 0) := rfl
theorem I101_5 : am_code 101 5 = some (4, 6, 0, 0, 0, 0, 0) := rfl
theorem I101_6 : am_code 101 6 = some (6, 8, 5, 0, 0, 0, 0) := rfl
theorem I101_8 : am_code 101 8 = some (1, 10, 5, 0, 0, 0, 0) := rfl
theorem I101_10 : am_code 101 10 = some (4, 12, 0, 0, 0, 18, 0) := rfl
theorem I101_12 : am_code 101 12 = some (36, 15, 54, 0, 0, 0, 0) := rfl
theorem I101_15 : am_code 101 15 = some (2, 16, 0, 0, 0, 0, 0) := rfl
theorem I101_16 : am_code 101 16 = some (1, 17, 2, 0, 0, 0, 0) := rfl
theorem I101_17 : am_code 101 17 = some (1, 19, 5, 0, 0, 0, 0) := rfl
theorem I101_19 : am_code 101 19 = some (65, 22, 58, 2, 127, 0, 0) := rfl
theorem I101_22 : am_code 101 22 = some (6, 24, 6, 0, 0, 0, 0) := rfl
theorem I101_24 : am_code 101 24 = some (1, 25, 3, 0, 0, 0, 0) := rfl
theorem I101_25 : am_code 101 25 = some (1, 27, 6, 0, 0, 0, 0) := rfl
theorem I101_27 : am_code 101 27 = some (10, 28, 0, 0, 0, 0, 0) := rfl
theorem I101_28 : am_code 101 28 = some (6, 29, 3, 0, 0, 0, 0) := rfl
theorem I101_29 : am_code 101 29 = some (1, 31, 5, 0, 0, 0, 0) := rfl
theorem I101_31 : am_code 101 31 = some (44, 34, 48, 0, 0, 0, 0) := rfl
theorem I101_34 : am_code 101 34 = some (1, 36, 6, 0, 0, 0, 0) := rfl
theorem I101_36 : am_code 101 36 = some (44, 39, 48, 0, 0, 0, 0) := rfl
theorem I101_39 : am_code 101 39 = some (1, 41, 4, 0, 0, 0, 0) := rfl
theorem I101_41 : am_code 101 41 = some (4, 42, 0, 0, 0, 1, 0) := rfl
theorem I101_42 : am_code 101 42 = some (1, 44, 5, 0, 0, 0, 0) := rfl
theorem I101_44 : am_code 101 44 = some (16, 45, 0, 0, 0, 0, 0) := rfl
theorem I101_45 : am_code 101 45 = some (20, 46, 0, 0, 0, 0, 0) := rfl
theorem I101_46 : am_code 101 46 = some (6, 48, 4, 0, 0, 0, 0) := rfl
theorem I101_48 : am_code 101 48 = some (9, 51, 5, 0, 0, 1, 0) := rfl
theorem I101_51 : am_code 101 51 = some (45, 54, 8, 0, 0, 0, 0) := rfl
theorem I101_54 : am_code 101 54 = some (1, 55, 3, 0, 0, 0, 0) := rfl
theorem I101_55 : am_code 101 55 = some (1, 56, 1, 0, 0, 0, 0) := rfl
theorem I101_56 : am_code 101 56 = some (34, 59, 94, 0, 0, 0, 0) := rfl
theorem I101_59 : am_code 101 59 = some (2, 60, 0, 0, 0, 0, 0) := rfl
theorem I101_60 : am_code 101 60 = some (1, 61, 2, 0, 0, 0, 0) := rfl
theorem I101_61 : am_code 101 61 = some (65, 64, 59, 1, 112, 0, 0) := rfl
theorem I101_64 : am_code 101 64 = some (1, 66, 4, 0, 0, 0, 0) := rfl
theorem I101_66 : am_code 101 66 = some (34, 69, 94, 0, 0, 0, 0) := rfl
theorem I101_69 : am_code 101 69 = some (2, 70, 0, 0, 0, 0, 0) := rfl
theorem I101_70 : am_code 101 70 = some (65, 73, 60, 0, 75, 0, 0) := rfl
theorem I101_73 : am_code 101 73 = some (1, 74, 2, 0, 0, 0, 0) := rfl
theorem I101_74 : am_code 101 74 = some (17, 75, 0, 0, 0, 0, 0) := rfl
theorem I101_75 : am_code 101 75 = some (4, 76, 0, 0, 0, 1, 0) := rfl
theorem I101_76 : am_code 101 76 = some (19, 77, 0, 0, 0, 0, 0) := rfl
theorem I101_77 : am_code 101 77 = some (1, 79, 4, 0, 0, 0, 0) := rfl
theorem I101_79 : am_code 101 79 = some (66, 82, 96, 1, 93, 0, 0) := rfl
theorem I101_82 : am_code 101 82 = some (4, 83, 0, 0, 0, 1, 0) := rfl
theorem I101_83 : am_code 101 83 = some (34, 86, 90, 0, 0, 0, 0) := rfl
theorem I101_86 : am_code 101 86 = some (4, 87, 0, 0, 0, 1, 0) := rfl
theorem I101_87 : am_code 101 87 = some (45, 90, 91, 0, 0, 0, 0) := rfl
theorem I101_90 : am_code 101 90 = some (4, 91, 0, 0, 0, 0, 0) := rfl
theorem I101_91 : am_code 101 91 = some (33, 94, 96, 0, 0, 0, 0) := rfl
theorem I101_94 : am_code 101 94 = some (4, 95, 0, 0, 0, 0, 0) := rfl
theorem I101_95 : am_code 101 95 = some (70, 96, 1, 0, 0, 0, 0) := rfl
theorem I101_96 : am_code 101 96 = some (4, 97, 0, 0, 0, 1, 0) := rfl
theorem I101_97 : am_code 101 97 = some (6, 99, 5, 0, 0, 0, 0) := rfl
theorem I101_99 : am_code 101 99 = some (1, 101, 5, 0, 0, 0, 0) := rfl
theorem I101_101 : am_code 101 101 = some (4, 103, 0, 0, 0, 18, 0) := rfl
theorem I101_103 : am_code 101 103 = some (36, 106, 153, 0, 0, 0, 0) := rfl
theorem I101_106 : am_code 101 106 = some (2, 107, 0, 0, 0, 0, 0) := rfl
theorem I101_107 : am_code 101 107 = some (1, 108, 2, 0, 0, 0, 0) := rfl
theorem I101_108 : am_code 101 108 = some (1, 110, 5, 0, 0, 0, 0) := rfl
theorem I101_110 : am_code 101 110 = some (65, 113, 58, 2, 127, 0, 0) := rfl
theorem I101_113 : am_code 101 113 = some (6, 115, 6, 0, 0, 0, 0) := rfl
theorem I101_115 : am_code 101 115 = some (2, 116, 0, 0, 0, 0, 0) := rfl
theorem I101_116 : am_code 101 116 = some (1, 117, 2, 0, 0, 0, 0) := rfl
theorem I101_117 : am_code 101 117 = some (1, 119, 5, 0, 0, 0, 0) := rfl
theorem I101_119 : am_code 101 119 = some (65, 122, 48, 2, 130, 0, 0) := rfl
theorem I101_122 : am_code 101 122 = some (40, 125, 145, 0, 0, 0, 0) := rfl
theorem I101_125 : am_code 101 125 = some (2, 126, 0, 0, 0, 0, 0) := rfl
theorem I101_126 : am_code 101 126 = some (65, 129, 55, 0, 41, 0, 0) := rfl
theorem I101_129 : am_code 101 129 = some (1, 131, 6, 0, 0, 0, 0) := rfl
theorem I101_131 : am_code 101 131 = some (34, 134, 145, 0, 0, 0, 0) := rfl
theorem I101_134 : am_code 101 134 = some (2, 135, 0, 0, 0, 0, 0) := rfl
theorem I101_135 : am_code 101 135 = some (1, 136, 2, 0, 0, 0, 0) := rfl
theorem I101_136 : am_code 101 136 = some (4, 137, 0, 0, 0, 0, 0) := rfl
theorem I101_137 : am_code 101 137 = some (65, 140, 48, 2, 130, 0, 0) := rfl
theorem I101_140 : am_code 101 140 = some (1, 142, 5, 0, 0, 0, 0) := rfl
theorem I101_142 : am_code 101 142 = some (33, 145, 147, 0, 0, 0, 0) := rfl
theorem I101_145 : am_code 101 145 = some (4, 146, 0, 0, 0, 0, 0) := rfl
theorem I101_146 : am_code 101 146 = some (70, 147, 1, 0, 0, 0, 0) := rfl
theorem I101_147 : am_code 101 147 = some (9, 150, 5, 0, 0, 1, 0) := rfl
theorem I101_150 : am_code 101 150 = some (45, 153, 99, 0, 0, 0, 0) := rfl
theorem I101_153 : am_code 101 153 = some (2, 154, 0, 0, 0, 0, 0) := rfl
theorem I101_154 : am_code 101 154 = some (65, 157, 55, 0, 41, 0, 0) := rfl
theorem I101_157 : am_code 101 157 = some (1, 158, 1, 0, 0, 0, 0) := rfl
theorem I101_158 : am_code 101 158 = some (34, 161, 165, 0, 0, 0, 0) := rfl
theorem I101_161 : am_code 101 161 = some (4, 162, 0, 0, 0, 1, 0) := rfl
theorem I101_162 : am_code 101 162 = some (45, 165, 166, 0, 0, 0, 0) := rfl
theorem I101_165 : am_code 101 165 = some (4, 166, 0, 0, 0, 0, 0) := rfl
theorem I101_166 : am_code 101 166 = some (70, 167, 1, 0, 0, 0, 0) := rfl
theorem I102_0 : am_code 102 0 = some (4, 1, 0, 0, 0, 2, 0) := rfl
theorem I102_1 : am_code 102 1 = some (2, 2, 0, 0, 0, 0, 0) := rfl
theorem I102_2 : am_code 102 2 = some (4, 3, 0, 0, 0, 2, 0) := rfl
theorem I102_3 : am_code 102 3 = some (65, 6, 49, 1, 33, 0, 0) := rfl
theorem I102_6 : am_code 102 6 = some (66, 9, 96, 1, 93, 0, 0) := rfl
theorem I102_9 : am_code 102 9 = some (12, 10, 0, 0, 0, 0, 0) := rfl
theorem I102_10 : am_code 102 10 = some (4, 11, 0, 0, 0, 1, 0) := rfl
theorem I102_11 : am_code 102 11 = some (10, 12, 0, 0, 0, 0, 0) := rfl
theorem I102_12 : am_code 102 12 = some (6, 13, 2, 0, 0, 0, 0) := rfl
theorem I102_13 : am_code 102 13 = some (2, 14, 0, 0, 0, 0, 0) := rfl
theorem I102_14 : am_code 102 14 = some (65, 17, 81, 0, 133, 0, 0) := rfl
theorem I102_17 : am_code 102 17 = some (6, 18, 3, 0, 0, 0, 0) := rfl
theorem I102_18 : am_code 102 18 = some (4, 19, 0, 0, 0, 0, 0) := rfl
theorem I102_19 : am_code 102 19 = some (6, 21, 4, 0, 0, 0, 0) := rfl
theorem I102_21 : am_code 102 21 = some (1, 23, 4, 0, 0, 0, 0) := rfl
theorem I102_23 : am_code 102 23 = some (1, 24, 2, 0, 0, 0, 0) := rfl
theorem I102_24 : am_code 102 24 = some (36, 27, 54, 0, 0, 0, 0) := rfl
theorem I102_27 : am_code 102 27 = some (1, 28, 3, 0, 0, 0, 0) := rfl
theorem I102_28 : am_code 102 28 = some (1, 30, 4, 0, 0, 0, 0) := rfl
theorem I102_30 : am_code 102 30 = some (17, 31, 0, 0, 0, 0, 0) := rfl
theorem I102_31 : am_code 102 31 = some (4, 32, 0, 0, 0, 1, 0) := rfl
theorem I102_32 : am_code 102 32 = some (19, 33, 0, 0, 0, 0, 0) := rfl
theorem I102_33 : am_code 102 33 = some (1, 34, 3, 0, 0, 0, 0) := rfl
theorem I102_34 : am_code 102 34 = some (1, 35, 2, 0, 0, 0, 0) := rfl
theorem I102_35 : am_code 102 35 = some (4, 36, 0, 0, 0, 1, 0) := rfl
theorem I102_36 : am_code 102 36 = some (11, 37, 0, 0, 0, 0, 0) := rfl
theorem I102_37 : am_code 102 37 = some (1, 39, 4, 0, 0, 0, 0) := rfl
theorem I102_39 : am_code 102 39 = some (11, 40, 0, 0, 0, 0, 0) := rfl
theorem I102_40 : am_code 102 40 = some (17, 41, 0, 0, 0, 0, 0) := rfl
theorem I102_41 : am_code 102 41 = some (4, 42, 0, 0, 0, 1, 0) := rfl
theorem I102_42 : am_code 102 42 = some (19, 43, 0, 0, 0, 0, 0) := rfl
theorem I102_43 : am_code 102 43 = some (33, 46, 48, 0, 0, 0, 0) := rfl
theorem I102_46 : am_code 102 46 = some (4, 47, 0, 0, 0, 0, 0) := rfl
theorem I102_47 : am_code 102 47 = some (70, 48, 1, 0, 0, 0, 0) := rfl
theorem I102_48 : am_code 102 48 = some (9, 51, 4, 0, 0, 1, 0) := rfl
theorem I102_51 : am_code 102 51 = some (45, 54, 21, 0, 0, 0, 0) := rfl
theorem I102_54 : am_code 102 54 = some (2, 55, 0, 0, 0, 0, 0) := rfl
theorem I102_55 : am_code 102 55 = some (65, 58, 82, 0, 136, 0, 0) := rfl
theorem I102_58 : am_code 102 58 = some (2, 59, 0, 0, 0, 0, 0) := rfl
theorem I102_59 : am_code 102 59 = some (4, 60, 0, 0, 0, 2, 0) := rfl
theorem I102_60 : am_code 102 60 = some (65, 63, 49, 1, 33, 0, 0) := rfl
theorem I102_63 : am_code 102 63 = some (4, 64, 0, 0, 0, (-1), 0) := rfl
theorem I102_64 : am_code 102 64 = some (21, 65, 0, 0, 0, 0, 0) := rfl
theorem I102_65 : am_code 102 65 = some (19, 66, 0, 0, 0, 0, 0) := rfl
theorem I102_66 : am_code 102 66 = some (40, 69, 75, 0, 0, 0, 0) := rfl
theorem I102_69 : am_code 102 69 = some (1, 70, 3, 0, 0, 0, 0) := rfl
theorem I102_70 : am_code 102 70 = some (1, 71, 2, 0, 0, 0, 0) := rfl
theorem I102_71 : am_code 102 71 = some (17, 72, 0, 0, 0, 0, 0) := rfl
theorem I102_72 : am_code 102 72 = some (39, 75, 77, 0, 0, 0, 0) := rfl
theorem I102_75 : am_code 102 75 = some (4, 76, 0, 0, 0, 0, 0) := rfl
theorem I102_76 : am_code 102 76 = some (70, 77, 1, 0, 0, 0, 0) := rfl
theorem I102_77 : am_code 102 77 = some (2, 78, 0, 0, 0, 0, 0) := rfl
theorem I102_78 : am_code 102 78 = some (4, 79, 0, 0, 0, 1, 0) := rfl
theorem I102_79 : am_code 102 79 = some (65, 82, 49, 1, 33, 0, 0) := rfl
theorem I102_82 : am_code 102 82 = some (40, 85, 96, 0, 0, 0, 0) := rfl
theorem I102_85 : am_code 102 85 = some (1, 86, 1, 0, 0, 0, 0) := rfl
theorem I102_86 : am_code 102 86 = some (39, 89, 96, 0, 0, 0, 0) := rfl
theorem I102_89 : am_code 102 89 = some (1, 90, 3, 0, 0, 0, 0) := rfl
theorem I102_90 : am_code 102 90 = some (4, 91, 0, 0, 0, 1, 0) := rfl
theorem I102_91 : am_code 102 91 = some (19, 92, 0, 0, 0, 0, 0) := rfl
theorem I102_92 : am_code 102 92 = some (4, 93, 0, 0, 0, 1, 0) := rfl
theorem I102_93 : am_code 102 93 = some (34, 96, 100, 0, 0, 0, 0) := rfl
theorem I102_96 : am_code 102 96 = some (4, 97, 0, 0, 0, 1, 0) := rfl
theorem I102_97 : am_code 102 97 = some (45, 100, 101, 0, 0, 0, 0) := rfl
theorem I102_100 : am_code 102 100 = some (4, 101, 0, 0, 0, 0, 0) := rfl
theorem I102_101 : am_code 102 101 = some (70, 102, 1, 0, 0, 0, 0) := rfl
theorem I103_0 : am_code 103 0 = some (1, 1, 2, 0, 0, 0, 0) := rfl
theorem I103_1 : am_code 103 1 = some (1, 2, 1, 0, 0, 0, 0) := rfl
theorem I103_2 : am_code 103 2 = some (35, 5, 21, 0, 0, 0, 0) := rfl
theorem I103_5 : am_code 103 5 = some (2, 6, 0, 0, 0, 0, 0) := rfl
theorem I103_6 : am_code 103 6 = some (1, 7, 2, 0, 0, 0, 0) := rfl
theorem I103_7 : am_code 103 7 = some (1, 8, 2, 0, 0, 0, 0) := rfl
theorem I103_8 : am_code 103 8 = some (65, 11, 78, 2, 139, 0, 0) := rfl
theorem I103_11 : am_code 103 11 = some (4, 12, 0, 0, 0, (-1), 0) := rfl
theorem I103_12 : am_code 103 12 = some (34, 15, 19, 0, 0, 0, 0) := rfl
theorem I103_15 : am_code 103 15 = some (4, 16, 0, 0, 0, 1, 0) := rfl
theorem I103_16 : am_code 103 16 = some (45, 19, 20, 0, 0, 0, 0) := rfl
theorem I103_19 : am_code 103 19 = some (4, 20, 0, 0, 0, 0, 0) := rfl
theorem I103_20 : am_code 103 20 = some (70, 21, 1, 0, 0, 0, 0) := rfl
theorem I103_21 : am_code 103 21 = some (2, 22, 0, 0, 0, 0, 0) := rfl
theorem I103_22 : am_code 103 22 = some (1, 23, 2, 0, 0, 0, 0) := rfl
theorem I103_23 : am_code 103 23 = some (4, 24, 0, 0, 0, (-1), 0) := rfl
theorem I103_24 : am_code 103 24 = some (65, 27, 77, 2, 105, 0, 0) := rfl
theorem I103_27 : am_code 103 27 = some (6, 28, 3, 0, 0, 0, 0) := rfl
theorem I103_28 : am_code 103 28 = some (4, 29, 0, 0, 0, (-1), 0) := rfl
theorem I103_29 : am_code 103 29 = some (6, 31, 4, 0, 0, 0, 0) := rfl
theorem I103_31 : am_code 103 31 = some (4, 32, 0, 0, 0, 0, 0) := rfl
theorem I103_32 : am_code 103 32 = some (6, 34, 5, 0, 0, 0, 0) := rfl
theorem I103_34 : am_code 103 34 = some (1, 36, 5, 0, 0, 0, 0) := rfl
theorem I103_36 : am_code 103 36 = some (1, 37, 3, 0, 0, 0, 0) := rfl
theorem I103_37 : am_code 103 37 = some (36, 40, 183, 0, 0, 0, 0) := rfl
theorem I103_40 : am_code 103 40 = some (2, 41, 0, 0, 0, 0, 0) := rfl
theorem I103_41 : am_code 103 41 = some (1, 42, 2, 0, 0, 0, 0) := rfl
theorem I103_42 : am_code 103 42 = some (1, 44, 5, 0, 0, 0, 0) := rfl
theorem I103_44 : am_code 103 44 = some (65, 47, 77, 2, 105, 0, 0) := rfl
theorem I103_47 : am_code 103 47 = some (6, 49, 6, 0, 0, 0, 0) := rfl
theorem I103_49 : am_code 103 49 = some (1, 51, 6, 0, 0, 0, 0) := rfl
theorem I103_51 : am_code 103 51 = some (1, 53, 4, 0, 0, 0, 0) := rfl
theorem I103_53 : am_code 103 53 = some (38, 56, 90, 0, 0, 0, 0) := rfl
theorem I103_56 : am_code 103 56 = some (1, 58, 6, 0, 0, 0, 0) := rfl
theorem I103_58 : am_code 103 58 = some (1, 59, 1, 0, 0, 0, 0) := rfl
theorem I103_59 : am_code 103 59 = some (36, 62, 90, 0, 0, 0, 0) := rfl
theorem I103_62 : am_code 103 62 = some (1, 64, 6, 0, 0, 0, 0) := rfl
theorem I103_64 : am_code 103 64 = some (1, 65, 2, 0, 0, 0, 0) := rfl
theorem I103_65 : am_code 103 65 = some (33, 68, 90, 0, 0, 0, 0) := rfl
theorem I103_68 : am_code 103 68 = some (2, 69, 0, 0, 0, 0, 0) := rfl
theorem I103_69 : am_code 103 69 = some (1, 70, 2, 0, 0, 0, 0) := rfl
theorem I103_70 : am_code 103 70 = some (1, 72, 6, 0, 0, 0, 0) := rfl
theorem I103_72 : am_code 103 72 = some (65, 75, 76, 2, 142, 0, 0) := rfl
theorem I103_75 : am_code 103 75 = some (4, 76, 0, 0, 0, 3, 0) := rfl
theorem I103_76 : am_code 103 76 = some (34, 79, 90, 0, 0, 0, 0) := rfl
theorem I103_79 : am_code 103 79 = some (2, 80, 0, 0, 0, 0, 0) := rfl
theorem I103_80 : am_code 103 80 = some (1, 82, 6, 0, 0, 0, 0) := rfl
theorem I103_82 : am_code 103 82 = some (1, 83, 2, 0, 0, 0, 0) := rfl
theorem I103_83 : am_code 103 83 = some (65, 86, 76, 2, 142, 0, 0) := rfl
theorem I103_86 : am_code 103 86 = some (4, 87, 0, 0, 0, 3, 0) := rfl
theorem I103_87 : am_code 103 87 = some (33, 90, 92, 0, 0, 0, 0) := rfl
theorem I103_90 : am_code 103 90 = some (4, 91, 0, 0, 0, 0, 0) := rfl
theorem I103_91 : am_code 103 91 = some (70, 92, 1, 0, 0, 0, 0) := rfl
theorem I103_92 : am_code 103 92 = some (1, 94, 6, 0, 0, 0, 0) := rfl
theorem I103_94 : am_code 103 94 = some (6, 96, 4, 0, 0, 0, 0) := rfl
theorem I103_96 : am_code 103 96 = some (4, 97, 0, 0, 0, 0, 0) := rfl
theorem I103_97 : am_code 103 97 = some (6, 99, 7, 0, 0, 0, 0) := rfl
theorem I103_99 : am_code 103 99 = some (4, 100, 0, 0, 0, 0, 0) := rfl
theorem I103_100 : am_code 103 100 = some (6, 102, 8, 0, 0, 0, 0) := rfl
theorem I103_102 : am_code 103 102 = some (1, 104, 8, 0, 0, 0, 0) := rfl
theorem I103_104 : am_code 103 104 = some (2, 105, 0, 0, 0, 0, 0) := rfl
theorem I103_105 : am_code 103 105 = some (1, 107, 6, 0, 0, 0, 0) := rfl
theorem I103_107 : am_code 103 107 = some (4, 108, 0, 0, 0, (-1), 0) := rfl
theorem I103_108 : am_code 103 108 = some (65, 111, 77, 2, 105, 0, 0) := rfl
theorem I103_111 : am_code 103 111 = some (36, 114, 142, 0, 0, 0, 0) := rfl
theorem I103_114 : am_code 103 114 = some (1, 116, 7, 0, 0, 0, 0) := rfl
theorem I103_116 : am_code 103 116 = some (2, 117, 0, 0, 0, 0, 0) := rfl
theorem I103_117 : am_code 103 117 = some (1, 119, 6, 0, 0, 0, 0) := rfl
theorem I103_119 : am_code 103 119 = some (1, 121, 8, 0, 0, 0, 0) := rfl
theorem I103_121 : am_code 103 121 = some (65, 124, 77, 2, 105, 0, 0) := rfl
theorem I103_124 : am_code 103 124 = some (1, 125, 2, 0, 0, 0, 0) := rfl
theorem I103_125 : am_code 103 125 = some (34, 128, 132, 0, 0, 0, 0) := rfl
theorem I103_128 : am_code 103 128 = some (4, 129, 0, 0, 0, 1, 0) := rfl
theorem I103_129 : am_code 103 129 = some (45, 132, 133, 0, 0, 0, 0) := rfl
theorem I103_132 : am_code 103 132 = some (4, 133, 0, 0, 0, 0, 0) := rfl
theorem I103_133 : am_code 103 133 = some (20, 134, 0, 0, 0, 0, 0) := rfl
theorem I103_134 : am_code 103 134 = some (6, 136, 7, 0, 0, 0, 0) := rfl
theorem I103_136 : am_code 103 136 = some (9, 139, 8, 0, 0, 1, 0) := rfl
theorem I103_139 : am_code 103 139 = some (45, 142, 102, 0, 0, 0, 0) := rfl
theorem I103_142 : am_code 103 142 = some (1, 144, 7, 0, 0, 0, 0) := rfl
theorem I103_144 : am_code 103 144 = some (40, 147, 149, 0, 0, 0, 0) := rfl
theorem I103_147 : am_code 103 147 = some (4, 148, 0, 0, 0, 0, 0) := rfl
theorem I103_148 : am_code 103 148 = some (70, 149, 1, 0, 0, 0, 0) := rfl
theorem I103_149 : am_code 103 149 = some (1, 150, 2, 0, 0, 0, 0) := rfl
theorem I103_150 : am_code 103 150 = some (4, 153, 0, 0, 0, 300, 0) := rfl
theorem I103_153 : am_code 103 153 = some (36, 156, 177, 0, 0, 0, 0) := rfl
theorem I103_156 : am_code 103 156 = some (1, 158, 6, 0, 0, 0, 0) := rfl
theorem I103_158 : am_code 103 158 = some (4, 161, 0, 0, 0, 300, 0) := rfl
theorem I103_161 : am_code 103 161 = some (36, 164, 177, 0, 0, 0, 0) := rfl
theorem I103_164 : am_code 103 164 = some (2, 165, 0, 0, 0, 0, 0) := rfl
theorem I103_165 : am_code 103 165 = some (1, 166, 2, 0, 0, 0, 0) := rfl
theorem I103_166 : am_code 103 166 = some (1, 168, 6, 0, 0, 0, 0) := rfl
theorem I103_168 : am_code 103 168 = some (65, 171, 78, 2, 139, 0, 0) := rfl
theorem I103_171 : am_code 103 171 = some (4, 172, 0, 0, 0, 1, 0) := rfl
theorem I103_172 : am_code 103 172 = some (33, 175, 177, 0, 0, 0, 0) := rfl
theorem I103_175 : am_code 103 175 = some (4, 176, 0, 0, 0, 0, 0) := rfl
theorem I103_176 : am_code 103 176 = some (70, 177, 1, 0, 0, 0, 0) := rfl
theorem I103_177 : am_code 103 177 = some (9, 180, 5, 0, 0, 1, 0) := rfl
theorem I103_180 : am_code 103 180 = some (45, 183, 34, 0, 0, 0, 0) := rfl
theorem I103_183 : am_code 103 183 = some (2, 184, 0, 0, 0, 0, 0) := rfl
theorem I103_184 : am_code 103 184 = some (1, 185, 2, 0, 0, 0, 0) := rfl
theorem I103_185 : am_code 103 185 = some (1, 186, 3, 0, 0, 0, 0) := rfl
theorem I103_186 : am_code 103 186 = some (65, 189, 77, 2, 105, 0, 0) := rfl
theorem I103_189 : am_code 103 189 = some (4, 191, 0, 0, 0, (-6), 0) := rfl
theorem I103_191 : am_code 103 191 = some (34, 194, 237, 0, 0, 0, 0) := rfl
theorem I103_194 : am_code 103 194 = some (2, 195, 0, 0, 0, 0, 0) := rfl
theorem I103_195 : am_code 103 195 = some (1, 196, 2, 0, 0, 0, 0) := rfl
theorem I103_196 : am_code 103 196 = some (1, 197, 2, 0, 0, 0, 0) := rfl
theorem I103_197 : am_code 103 197 = some (65, 200, 76, 2, 142, 0, 0) := rfl
theorem I103_200 : am_code 103 200 = some (40, 203, 237, 0, 0, 0, 0) := rfl
theorem I103_203 : am_code 103 203 = some (1, 204, 2, 0, 0, 0, 0) := rfl
theorem I103_204 : am_code 103 204 = some (4, 207, 0, 0, 0, 300, 0) := rfl
theorem I103_207 : am_code 103 207 = some (35, 210, 224, 0, 0, 0, 0) := rfl
theorem I103_210 : am_code 103 210 = some (2, 211, 0, 0, 0, 0, 0) := rfl
theorem I103_211 : am_code 103 211 = some (1, 212, 2, 0, 0, 0, 0) := rfl
theorem I103_212 : am_code 103 212 = some (4, 213, 0, 0, 0, 0, 0) := rfl
theorem I103_213 : am_code 103 213 = some (65, 216, 78, 2, 139, 0, 0) := rfl
theorem I103_216 : am_code 103 216 = some (4, 218, 0, 0, 0, (-2), 0) := rfl
theorem I103_218 : am_code 103 218 = some (34, 221, 237, 0, 0, 0, 0) := rfl
theorem I103_221 : am_code 103 221 = some (45, 224, 233, 0, 0, 0, 0) := rfl
theorem I103_224 : am_code 103 224 = some (2, 225, 0, 0, 0, 0, 0) := rfl
theorem I103_225 : am_code 103 225 = some (1, 226, 2, 0, 0, 0, 0) := rfl
theorem I103_226 : am_code 103 226 = some (1, 227, 2, 0, 0, 0, 0) := rfl
theorem I103_227 : am_code 103 227 = some (65, 230, 78, 2, 139, 0, 0) := rfl
theorem I103_230 : am_code 103 230 = some (40, 233, 237, 0, 0, 0, 0) := rfl
theorem I103_233 : am_code 103 233 = some (4, 234, 0, 0, 0, 1, 0) := rfl
theorem I103_234 : am_code 103 234 = some (45, 237, 238, 0, 0, 0, 0) := rfl
theorem I103_237 : am_code 103 237 = some (4, 238, 0, 0, 0, 0, 0) := rfl
theorem I103_238 : am_code 103 238 = some (70, 239, 1, 0, 0, 0, 0) := rfl
theorem I104_0 : am_code 104 0 = some (1, 1, 1, 0, 0, 0, 0) := rfl
theorem I104_1 : am_code 104 1 = some (40, 4, 6, 0, 0, 0, 0) := rfl
theorem I104_4 : am_code 104 4 = some (4, 5, 0, 0, 0, 1, 0) := rfl
theorem I104_5 : am_code 104 5 = some (70, 6, 1, 0, 0, 0, 0) := rfl
theorem I104_6 : am_code 104 6 = some (1, 7, 2, 0, 0, 0, 0) := rfl
theorem I104_7 : am_code 104 7 = some (1, 8, 1, 0, 0, 0, 0) := rfl
theorem I104_8 : am_code 104 8 = some (4, 11, 0, 0, 0, 300, 0) := rfl
theorem I104_11 : am_code 104 11 = some (36, 14, 18, 0, 0, 0, 0) := rfl
theorem I104_14 : am_code 104 14 = some (1, 15, 1, 0, 0, 0, 0) := rfl
theorem I104_15 : am_code 104 15 = some (45, 18, 21, 0, 0, 0, 0) := rfl
theorem I104_18 : am_code 104 18 = some (4, 21, 0, 0, 0, 300, 0) := rfl
theorem I104_21 : am_code 104 21 = some (66, 24, 95, 2, 22, 0, 0) := rfl
theorem I104_24 : am_code 104 24 = some (6, 25, 3, 0, 0, 0, 0) := rfl
theorem I104_25 : am_code 104 25 = some (1, 26, 2, 0, 0, 0, 0) := rfl
theorem I104_26 : am_code 104 26 = some (4, 28, 0, 0, 0, 9, 0) := rfl
theorem I104_28 : am_code 104 28 = some (17, 29, 0, 0, 0, 0, 0) := rfl
theorem I104_29 : am_code 104 29 = some (1, 30, 1, 0, 0, 0, 0) := rfl
theorem I104_30 : am_code 104 30 = some (4, 33, 0, 0, 0, 300, 0) := rfl
theorem I104_33 : am_code 104 33 = some (36, 36, 40, 0, 0, 0, 0) := rfl
theorem I104_36 : am_code 104 36 = some (1, 37, 1, 0, 0, 0, 0) := rfl
theorem I104_37 : am_code 104 37 = some (45, 40, 43, 0, 0, 0, 0) := rfl
theorem I104_40 : am_code 104 40 = some (4, 43, 0, 0, 0, 300, 0) := rfl
theorem I104_43 : am_code 104 43 = some (66, 46, 95, 2, 22, 0, 0) := rfl
theorem I104_46 : am_code 104 46 = some (6, 48, 4, 0, 0, 0, 0) := rfl
theorem I104_48 : am_code 104 48 = some (2, 49, 0, 0, 0, 0, 0) := rfl
theorem I104_49 : am_code 104 49 = some (1, 50, 3, 0, 0, 0, 0) := rfl
theorem I104_50 : am_code 104 50 = some (1, 52, 4, 0, 0, 0, 0) := rfl
theorem I104_52 : am_code 104 52 = some (65, 55, 78, 2, 139, 0, 0) := rfl
theorem I104_55 : am_code 104 55 = some (6, 57, 5, 0, 0, 0, 0) := rfl
theorem I104_57 : am_code 104 57 = some (1, 59, 5, 0, 0, 0, 0) := rfl
theorem I104_59 : am_code 104 59 = some (2, 60, 0, 0, 0, 0, 0) := rfl
theorem I104_60 : am_code 104 60 = some (1, 62, 4, 0, 0, 0, 0) := rfl
theorem I104_62 : am_code 104 62 = some (1, 63, 3, 0, 0, 0, 0) := rfl
theorem I104_63 : am_code 104 63 = some (65, 66, 78, 2, 139, 0, 0) := rfl
theorem I104_66 : am_code 104 66 = some (33, 69, 71, 0, 0, 0, 0) := rfl
theorem I104_69 : am_code 104 69 = some (4, 70, 0, 0, 0, 0, 0) := rfl
theorem I104_70 : am_code 104 70 = some (70, 71, 1, 0, 0, 0, 0) := rfl
theorem I104_71 : am_code 104 71 = some (2, 72, 0, 0, 0, 0, 0) := rfl
theorem I104_72 : am_code 104 72 = some (1, 73, 3, 0, 0, 0, 0) := rfl
theorem I104_73 : am_code 104 73 = some (1, 75, 4, 0, 0, 0, 0) := rfl
theorem I104_75 : am_code 104 75 = some (65, 78, 76, 2, 142, 0, 0) := rfl
theorem I104_78 : am_code 104 78 = some (6, 80, 6, 0, 0, 0, 0) := rfl
theorem I104_80 : am_code 104 80 = some (1, 82, 5, 0, 0, 0, 0) := rfl
theorem I104_82 : am_code 104 82 = some (4, 84, 0, 0, 0, (-6), 0) := rfl
theorem I104_84 : am_code 104 84 = some (34, 87, 101, 0, 0, 0, 0) := rfl
theorem I104_87 : am_code 104 87 = some (1, 88, 3, 0, 0, 0, 0) := rfl
theorem I104_88 : am_code 104 88 = some (1, 90, 4, 0, 0, 0, 0) := rfl
theorem I104_90 : am_code 104 90 = some (33, 93, 97, 0, 0, 0, 0) := rfl
theorem I104_93 : am_code 104 93 = some (4, 94, 0, 0, 0, 1, 0) := rfl
theorem I104_94 : am_code 104 94 = some (45, 97, 151, 0, 0, 0, 0) := rfl
theorem I104_97 : am_code 104 97 = some (4, 98, 0, 0, 0, 0, 0) := rfl
theorem I104_98 : am_code 104 98 = some (45, 101, 151, 0, 0, 0, 0) := rfl
theorem I104_101 : am_code 104 101 = some (4, 102, 0, 0, 0, 3, 0) := rfl
theorem I104_102 : am_code 104 102 = some (1, 104, 5, 0, 0, 0, 0) := rfl
theorem I104_104 : am_code 104 104 = some (12, 105, 0, 0, 0, 0, 0) := rfl
theorem I104_105 : am_code 104 105 = some (1, 107, 6, 0, 0, 0, 0) := rfl
theorem I104_107 : am_code 104 107 = some (35, 110, 150, 0, 0, 0, 0) := rfl
theorem I104_110 : am_code 104 110 = some (1, 112, 5, 0, 0, 0, 0) := rfl
theorem I104_112 : am_code 104 112 = some (40, 115, 119, 0, 0, 0, 0) := rfl
theorem I104_115 : am_code 104 115 = some (4, 116, 0, 0, 0, 1, 0) := rfl
theorem I104_116 : am_code 104 116 = some (45, 119, 120, 0, 0, 0, 0) := rfl
theorem I104_119 : am_code 104 119 = some (4, 120, 0, 0, 0, 0, 0) := rfl
theorem I104_120 : am_code 104 120 = some (1, 121, 3, 0, 0, 0, 0) := rfl
theorem I104_121 : am_code 104 121 = some (1, 123, 4, 0, 0, 0, 0) := rfl
theorem I104_123 : am_code 104 123 = some (34, 126, 130, 0, 0, 0, 0) := rfl
theorem I104_126 : am_code 104 126 = some (4, 127, 0, 0, 0, 1, 0) := rfl
theorem I104_127 : am_code 104 127 = some (45, 130, 131, 0, 0, 0, 0) := rfl
theorem I104_130 : am_code 104 130 = some (4, 131, 0, 0, 0, 0, 0) := rfl
theorem I104_131 : am_code 104 131 = some (34, 134, 150, 0, 0, 0, 0) := rfl
theorem I104_134 : am_code 104 134 = some (1, 136, 5, 0, 0, 0, 0) := rfl
theorem I104_136 : am_code 104 136 = some (4, 137, 0, 0, 0, 1, 0) := rfl
theorem I104_137 : am_code 104 137 = some (34, 140, 146, 0, 0, 0, 0) := rfl
theorem I104_140 : am_code 104 140 = some (1, 142, 6, 0, 0, 0, 0) := rfl
theorem I104_142 : am_code 104 142 = some (4, 143, 0, 0, 0, 3, 0) := rfl
theorem I104_143 : am_code 104 143 = some (34, 146, 150, 0, 0, 0, 0) := rfl
theorem I104_146 : am_code 104 146 = some (4, 147, 0, 0, 0, 1, 0) := rfl
theorem I104_147 : am_code 104 147 = some (45, 150, 151, 0, 0, 0, 0) := rfl
theorem I104_150 : am_code 104 150 = some (4, 151, 0, 0, 0, 0, 0) := rfl
theorem I104_151 : am_code 104 151 = some (70, 152, 1, 0, 0, 0, 0) := rfl
theorem I105_0 : am_code 105 0 = some (2, 1, 0, 0, 0, 0, 0) := rfl
theorem I105_1 : am_code 105 1 = some (4, 2, 0, 0, 0, 0, 0) := rfl
theorem I105_2 : am_code 105 2 = some (65, 5, 49, 1, 33, 0, 0) := rfl
theorem I105_5 : am_code 105 5 = some (6, 6, 3, 0, 0, 0, 0) := rfl
theorem I105_6 : am_code 105 6 = some (2, 7, 0, 0, 0, 0, 0) := rfl
theorem I105_7 : am_code 105 7 = some (4, 8, 0, 0, 0, 1, 0) := rfl
theorem I105_8 : am_code 105 8 = some (65, 11, 49, 1, 33, 0, 0) := rfl
theorem I105_11 : am_code 105 11 = some (6, 13, 4, 0, 0, 0, 0) := rfl
theorem I105_13 : am_code 105 13 = some (1, 14, 2, 0, 0, 0, 0) := rfl
theorem I105_14 : am_code 105 14 = some (1, 15, 3, 0, 0, 0, 0) := rfl
theorem I105_15 : am_code 105 15 = some (66, 18, 95, 2, 22, 0, 0) := rfl
theorem I105_18 : am_code 105 18 = some (6, 20, 5, 0, 0, 0, 0) := rfl
theorem I105_20 : am_code 105 20 = some (1, 21, 1, 0, 0, 0, 0) := rfl
theorem I105_21 : am_code 105 21 = some (44, 24, 40, 0, 0, 0, 0) := rfl
theorem I105_24 : am_code 105 24 = some (2, 25, 0, 0, 0, 0, 0) := rfl
theorem I105_25 : am_code 105 25 = some (1, 26, 2, 0, 0, 0, 0) := rfl
theorem I105_26 : am_code 105 26 = some (4, 27, 0, 0, 0, 5, 0) := rfl
theorem I105_27 : am_code 105 27 = some (17, 28, 0, 0, 0, 0, 0) := rfl
theorem I105_28 : am_code 105 28 = some (1, 29, 1, 0, 0, 0, 0) := rfl
theorem I105_29 : am_code 105 29 = some (66, 32, 95, 2, 22, 0, 0) := rfl
theorem I105_32 : am_code 105 32 = some (1, 34, 5, 0, 0, 0, 0) := rfl
theorem I105_34 : am_code 105 34 = some (65, 37, 56, 2, 81, 0, 0) := rfl
theorem I105_37 : am_code 105 37 = some (45, 40, 41, 0, 0, 0, 0) := rfl
theorem I105_40 : am_code 105 40 = some (4, 41, 0, 0, 0, 0, 0) := rfl
theorem I105_41 : am_code 105 41 = some (6, 43, 6, 0, 0, 0, 0) := rfl
theorem I105_43 : am_code 105 43 = some (2, 44, 0, 0, 0, 0, 0) := rfl
theorem I105_44 : am_code 105 44 = some (1, 46, 5, 0, 0, 0, 0) := rfl
theorem I105_46 : am_code 105 46 = some (1, 48, 6, 0, 0, 0, 0) := rfl
theorem I105_48 : am_code 105 48 = some (65, 51, 48, 2, 130, 0, 0) := rfl
theorem I105_51 : am_code 105 51 = some (39, 54, 56, 0, 0, 0, 0) := rfl
theorem I105_54 : am_code 105 54 = some (4, 55, 0, 0, 0, 0, 0) := rfl
theorem I105_55 : am_code 105 55 = some (70, 56, 1, 0, 0, 0, 0) := rfl
theorem I105_56 : am_code 105 56 = some (2, 57, 0, 0, 0, 0, 0) := rfl
theorem I105_57 : am_code 105 57 = some (65, 60, 55, 0, 41, 0, 0) := rfl
theorem I105_60 : am_code 105 60 = some (6, 62, 7, 0, 0, 0, 0) := rfl
theorem I105_62 : am_code 105 62 = some (1, 63, 1, 0, 0, 0, 0) := rfl
theorem I105_63 : am_code 105 63 = some (44, 66, 72, 0, 0, 0, 0) := rfl
theorem I105_66 : am_code 105 66 = some (1, 68, 7, 0, 0, 0, 0) := rfl
theorem I105_68 : am_code 105 68 = some (4, 69, 0, 0, 0, 1, 0) := rfl
theorem I105_69 : am_code 105 69 = some (35, 72, 114, 0, 0, 0, 0) := rfl
theorem I105_72 : am_code 105 72 = some (1, 74, 7, 0, 0, 0, 0) := rfl
theorem I105_74 : am_code 105 74 = some (1, 75, 1, 0, 0, 0, 0) := rfl
theorem I105_75 : am_code 105 75 = some (37, 78, 114, 0, 0, 0, 0) := rfl
theorem I105_78 : am_code 105 78 = some (2, 79, 0, 0, 0, 0, 0) := rfl
theorem I105_79 : am_code 105 79 = some (4, 80, 0, 0, 0, 0, 0) := rfl
theorem I105_80 : am_code 105 80 = some (65, 83, 85, 1, 145, 0, 0) := rfl
theorem I105_83 : am_code 105 83 = some (1, 84, 3, 0, 0, 0, 0) := rfl
theorem I105_84 : am_code 105 84 = some (34, 87, 114, 0, 0, 0, 0) := rfl
theorem I105_87 : am_code 105 87 = some (2, 88, 0, 0, 0, 0, 0) := rfl
theorem I105_88 : am_code 105 88 = some (4, 89, 0, 0, 0, 1, 0) := rfl
theorem I105_89 : am_code 105 89 = some (4, 90, 0, 0, 0, 1, 0) := rfl
theorem I105_90 : am_code 105 90 = some (4, 91, 0, 0, 0, 0, 0) := rfl
theorem I105_91 : am_code 105 91 = some (65, 94, 46, 3, 26, 0, 0) := rfl
theorem I105_94 : am_code 105 94 = some (4, 95, 0, 0, 0, 2, 0) := rfl
theorem I105_95 : am_code 105 95 = some (34, 98, 114, 0, 0, 0, 0) := rfl
theorem I105_98 : am_code 105 98 = some (2, 99, 0, 0, 0, 0, 0) := rfl
theorem I105_99 : am_code 105 99 = some (65, 102, 55, 0, 41, 0, 0) := rfl
theorem I105_102 : am_code 105 102 = some (4, 103, 0, 0, 0, 1, 0) := rfl
theorem I105_103 : am_code 105 103 = some (34, 106, 114, 0, 0, 0, 0) := rfl
theorem I105_106 : am_code 105 106 = some (2, 107, 0, 0, 0, 0, 0) := rfl
theorem I105_107 : am_code 105 107 = some (4, 108, 0, 0, 0, 3, 0) := rfl
theorem I105_108 : am_code 105 108 = some (65, 111, 49, 1, 33, 0, 0) := rfl
theorem I105_111 : am_code 105 111 = some (39, 114, 116, 0, 0, 0, 0) := rfl
theorem I105_114 : am_code 105 114 = some (4, 115, 0, 0, 0, 0, 0) := rfl
theorem I105_115 : am_code 105 115 = some (70, 116, 1, 0, 0, 0, 0) := rfl
theorem I105_116 : am_code 105 116 = some (2, 117, 0, 0, 0, 0, 0) := rfl
theorem I105_117 : am_code 105 117 = some (4, 118, 0, 0, 0, 0, 0) := rfl
theorem I105_118 : am_code 105 118 = some (65, 121, 86, 1, 148, 0, 0) := rfl
theorem I105_121 : am_code 105 121 = some (1, 122, 3, 0, 0, 0, 0) := rfl
theorem I105_122 : am_code 105 122 = some (34, 125, 177, 0, 0, 0, 0) := rfl
theorem I105_125 : am_code 105 125 = some (2, 126, 0, 0, 0, 0, 0) := rfl
theorem I105_126 : am_code 105 126 = some (4, 127, 0, 0, 0, 1, 0) := rfl
theorem I105_127 : am_code 105 127 = some (65, 130, 49, 1, 33, 0, 0) := rfl
theorem I105_130 : am_code 105 130 = some (1, 132, 4, 0, 0, 0, 0) := rfl
theorem I105_132 : am_code 105 132 = some (34, 135, 177, 0, 0, 0, 0) := rfl
theorem I105_135 : am_code 105 135 = some (2, 136, 0, 0, 0, 0, 0) := rfl
theorem I105_136 : am_code 105 136 = some (4, 137, 0, 0, 0, 3, 0) := rfl
theorem I105_137 : am_code 105 137 = some (65, 140, 49, 1, 33, 0, 0) := rfl
theorem I105_140 : am_code 105 140 = some (1, 142, 6, 0, 0, 0, 0) := rfl
theorem I105_142 : am_code 105 142 = some (44, 145, 152, 0, 0, 0, 0) := rfl
theorem I105_145 : am_code 105 145 = some (4, 146, 0, 0, 0, 1, 0) := rfl
theorem I105_146 : am_code 105 146 = some (1, 148, 5, 0, 0, 0, 0) := rfl
theorem I105_148 : am_code 105 148 = some (16, 149, 0, 0, 0, 0, 0) := rfl
theorem I105_149 : am_code 105 149 = some (45, 152, 153, 0, 0, 0, 0) := rfl
theorem I105_152 : am_code 105 152 = some (4, 153, 0, 0, 0, 0, 0) := rfl
theorem I105_153 : am_code 105 153 = some (34, 156, 177, 0, 0, 0, 0) := rfl
theorem I105_156 : am_code 105 156 = some (2, 157, 0, 0, 0, 0, 0) := rfl
theorem I105_157 : am_code 105 157 = some (65, 160, 55, 0, 41, 0, 0) := rfl
theorem I105_160 : am_code 105 160 = some (1, 162, 7, 0, 0, 0, 0) := rfl
theorem I105_162 : am_code 105 162 = some (34, 165, 177, 0, 0, 0, 0) := rfl
theorem I105_165 : am_code 105 165 = some (2, 166, 0, 0, 0, 0, 0) := rfl
theorem I105_166 : am_code 105 166 = some (1, 168, 5, 0, 0, 0, 0) := rfl
theorem I105_168 : am_code 105 168 = some (4, 169, 0, 0, 0, 0, 0) := rfl
theorem I105_169 : am_code 105 169 = some (65, 172, 48, 2, 130, 0, 0) := rfl
theorem I105_172 : am_code 105 172 = some (1, 174, 6, 0, 0, 0, 0) := rfl
theorem I105_174 : am_code 105 174 = some (33, 177, 179, 0, 0, 0, 0) := rfl
theorem I105_177 : am_code 105 177 = some (4, 178, 0, 0, 0, 0, 0) := rfl
theorem I105_178 : am_code 105 178 = some (70, 179, 1, 0, 0, 0, 0) := rfl
theorem I105_179 : am_code 105 179 = some (2, 180, 0, 0, 0, 0, 0) := rfl
theorem I105_180 : am_code 105 180 = some (65, 183, 55, 0, 41, 0, 0) := rfl
theorem I105_183 : am_code 105 183 = some (1, 184, 1, 0, 0, 0, 0) := rfl
theorem I105_184 : am_code 105 184 = some (34, 187, 209, 0, 0, 0, 0) := rfl
theorem I105_187 : am_code 105 187 = some (2, 188, 0, 0, 0, 0, 0) := rfl
theorem I105_188 : am_code 105 188 = some (4, 189, 0, 0, 0, 0, 0) := rfl
theorem I105_189 : am_code 105 189 = some (65, 192, 86, 1, 148, 0, 0) := rfl
theorem I105_192 : am_code 105 192 = some (1, 193, 3, 0, 0, 0, 0) := rfl
theorem I105_193 : am_code 105 193 = some (34, 196, 209, 0, 0, 0, 0) := rfl
theorem I105_196 : am_code 105 196 = some (2, 197, 0, 0, 0, 0, 0) := rfl
theorem I105_197 : am_code 105 197 = some (65, 200, 55, 0, 41, 0, 0) := rfl
theorem I105_200 : am_code 105 200 = some (1, 202, 7, 0, 0, 0, 0) := rfl
theorem I105_202 : am_code 105 202 = some (34, 205, 209, 0, 0, 0, 0) := rfl
theorem I105_205 : am_code 105 205 = some (4, 206, 0, 0, 0, 1, 0) := rfl
theorem I105_206 : am_code 105 206 = some (45, 209, 210, 0, 0, 0, 0) := rfl
theorem I105_209 : am_code 105 209 = some (4, 210, 0, 0, 0, 0, 0) := rfl
theorem I105_210 : am_code 105 210 = some (70, 211, 1, 0, 0, 0, 0) := rfl
theorem I106_0 : am_code 106 0 = some (1, 1, 1, 0, 0, 0, 0) := rfl
theorem I106_1 : am_code 106 1 = some (42, 4, 16, 0, 0, 0, 0) := rfl
theorem I106_4 : am_code 106 4 = some (4, 6, 0, 0, 0, (-2), 0) := rfl
theorem I106_6 : am_code 106 6 = some (1, 7, 1, 0, 0, 0, 0) := rfl
theorem I106_7 : am_code 106 7 = some (4, 9, 0, 0, 151, 1000000, 0) := rfl
theorem I106_9 : am_code 106 9 = some (66, 12, 95, 2, 22, 0, 0) := rfl
theorem I106_12 : am_code 106 12 = some (11, 13, 0, 0, 0, 0, 0) := rfl
theorem I106_13 : am_code 106 13 = some (45, 16, 23, 0, 0, 0, 0) := rfl
theorem I106_16 : am_code 106 16 = some (1, 17, 1, 0, 0, 0, 0) := rfl
theorem I106_17 : am_code 106 17 = some (4, 19, 0, 0, 151, 1000000, 0) := rfl
theorem I106_19 : am_code 106 19 = some (14, 20, 0, 0, 0, 0, 0) := rfl
theorem I106_20 : am_code 106 20 = some (4, 22, 0, 0, 152, 262144, 0) := rfl
theorem I106_22 : am_code 106 22 = some (10, 23, 0, 0, 0, 0, 0) := rfl
theorem I106_23 : am_code 106 23 = some (6, 24, 2, 0, 0, 0, 0) := rfl
theorem I106_24 : am_code 106 24 = some (2, 25, 0, 0, 0, 0, 0) := rfl
theorem I106_25 : am_code 106 25 = some (1, 26, 2, 0, 0, 0, 0) := rfl
theorem I106_26 : am_code 106 26 = some (4, 27, 0, 0, 0, 0, 0) := rfl
theorem I106_27 : am_code 106 27 = some (4, 28, 0, 0, 0, 2, 0) := rfl
theorem I106_28 : am_code 106 28 = some (65, 31, 45, 3, 37, 0, 0) := rfl
theorem I106_31 : am_code 106 31 = some (4, 33, 0, 0, 0, (-2), 0) := rfl
theorem I106_33 : am_code 106 33 = some (34, 36, 394, 0, 0, 0, 0) := rfl
theorem I106_36 : am_code 106 36 = some (2, 37, 0, 0, 0, 0, 0) := rfl
theorem I106_37 : am_code 106 37 = some (4, 38, 0, 0, 0, 2, 0) := rfl
theorem I106_38 : am_code 106 38 = some (1, 39, 2, 0, 0, 0, 0) := rfl
theorem I106_39 : am_code 106 39 = some (4, 40, 0, 0, 0, 2, 0) := rfl
theorem I106_40 : am_code 106 40 = some (65, 43, 45, 3, 37, 0, 0) := rfl
theorem I106_43 : am_code 106 43 = some (4, 45, 0, 0, 0, (-2), 0) := rfl
theorem I106_45 : am_code 106 45 = some (34, 48, 394, 0, 0, 0, 0) := rfl
theorem I106_48 : am_code 106 48 = some (2, 49, 0, 0, 0, 0, 0) := rfl
theorem I106_49 : am_code 106 49 = some (4, 50, 0, 0, 0, 2, 0) := rfl
theorem I106_50 : am_code 106 50 = some (4, 51, 0, 0, 0, 0, 0) := rfl
theorem I106_51 : am_code 106 51 = some (1, 52, 2, 0, 0, 0, 0) := rfl
theorem I106_52 : am_code 106 52 = some (65, 55, 45, 3, 37, 0, 0) := rfl
theorem I106_55 : am_code 106 55 = some (4, 57, 0, 0, 0, (-2), 0) := rfl
theorem I106_57 : am_code 106 57 = some (34, 60, 394, 0, 0, 0, 0) := rfl
theorem I106_60 : am_code 106 60 = some (2, 61, 0, 0, 0, 0, 0) := rfl
theorem I106_61 : am_code 106 61 = some (1, 62, 2, 0, 0, 0, 0) := rfl
theorem I106_62 : am_code 106 62 = some (4, 63, 0, 0, 0, 1, 0) := rfl
theorem I106_63 : am_code 106 63 = some (4, 64, 0, 0, 0, 0, 0) := rfl
theorem I106_64 : am_code 106 64 = some (65, 67, 46, 3, 26, 0, 0) := rfl
theorem I106_67 : am_code 106 67 = some (4, 69, 0, 0, 0, (-2), 0) := rfl
theorem I106_69 : am_code 106 69 = some (34, 72, 394, 0, 0, 0, 0) := rfl
theorem I106_72 : am_code 106 72 = some (2, 73, 0, 0, 0, 0, 0) := rfl
theorem I106_73 : am_code 106 73 = some (4, 74, 0, 0, 0, 1, 0) := rfl
theorem I106_74 : am_code 106 74 = some (1, 75, 2, 0, 0, 0, 0) := rfl
theorem I106_75 : am_code 106 75 = some (4, 76, 0, 0, 0, 1, 0) := rfl
theorem I106_76 : am_code 106 76 = some (65, 79, 46, 3, 26, 0, 0) := rfl
theorem I106_79 : am_code 106 79 = some (4, 81, 0, 0, 0, (-2), 0) := rfl
theorem I106_81 : am_code 106 81 = some (34, 84, 394, 0, 0, 0, 0) := rfl
theorem I106_84 : am_code 106 84 = some (2, 85, 0, 0, 0, 0, 0) := rfl
theorem I106_85 : am_code 106 85 = some (1, 86, 2, 0, 0, 0, 0) := rfl
theorem I106_86 : am_code 106 86 = some (4, 87, 0, 0, 0, 1, 0) := rfl
theorem I106_87 : am_code 106 87 = some (4, 88, 0, 0, 0, 0, 0) := rfl
theorem I106_88 : am_code 106 88 = some (65, 91, 47, 3, 30, 0, 0) := rfl
theorem I106_91 : am_code 106 91 = some (4, 93, 0, 0, 0, (-2), 0) := rfl
theorem I106_93 : am_code 106 93 = some (34, 96, 394, 0, 0, 0, 0) := rfl
theorem I106_96 : am_code 106 96 = some (2, 97, 0, 0, 0, 0, 0) := rfl
theorem I106_97 : am_code 106 97 = some (4, 98, 0, 0, 0, 2, 0) := rfl
theorem I106_98 : am_code 106 98 = some (1, 99, 2, 0, 0, 0, 0) := rfl
theorem I106_99 : am_code 106 99 = some (4, 100, 0, 0, 0, 1, 0) := rfl
theorem I106_100 : am_code 106 100 = some (65, 103, 47, 3, 30, 0, 0) := rfl
theorem I106_103 : am_code 106 103 = some (4, 105, 0, 0, 0, (-2), 0) := rfl
theorem I106_105 : am_code 106 105 = some (34, 108, 394, 0, 0, 0, 0) := rfl
theorem I106_108 : am_code 106 108 = some (2, 109, 0, 0, 0, 0, 0) := rfl
theorem I106_109 : am_code 106 109 = some (1, 110, 2, 0, 0, 0, 0) := rfl
theorem I106_110 : am_code 106 110 = some (4, 111, 0, 0, 0, 1, 0) := rfl
theorem I106_111 : am_code 106 111 = some (65, 114, 48, 2, 130, 0, 0) := rfl
theorem I106_114 : am_code 106 114 = some (4, 115, 0, 0, 0, (-1), 0) := rfl
theorem I106_115 : am_code 106 115 = some (34, 118, 394, 0, 0, 0, 0) := rfl
theorem I106_118 : am_code 106 118 = some (2, 119, 0, 0, 0, 0, 0) := rfl
theorem I106_119 : am_code 106 119 = some (4, 120, 0, 0, 0, 0, 0) := rfl
theorem I106_120 : am_code 106 120 = some (1, 121, 2, 0, 0, 0, 0) := rfl
theorem I106_121 : am_code 106 121 = some (65, 124, 48, 2, 130, 0, 0) := rfl
theorem I106_124 : am_code 106 124 = some (4, 126, 0, 0, 0, (-2), 0) := rfl
theorem I106_126 : am_code 106 126 = some (34, 129, 394, 0, 0, 0, 0) := rfl
theorem I106_129 : am_code 106 129 = some (2, 130, 0, 0, 0, 0, 0) := rfl
theorem I106_130 : am_code 106 130 = some (1, 131, 2, 0, 0, 0, 0) := rfl
theorem I106_131 : am_code 106 131 = some (65, 134, 49, 1, 33, 0, 0) := rfl
theorem I106_134 : am_code 106 134 = some (4, 136, 0, 0, 0, (-2), 0) := rfl
theorem I106_136 : am_code 106 136 = some (34, 139, 394, 0, 0, 0, 0) := rfl
theorem I106_139 : am_code 106 139 = some (2, 140, 0, 0, 0, 0, 0) := rfl
theorem I106_140 : am_code 106 140 = some (1, 141, 2, 0, 0, 0, 0) := rfl
theorem I106_141 : am_code 106 141 = some (65, 144, 54, 1, 87, 0, 0) := rfl
theorem I106_144 : am_code 106 144 = some (4, 145, 0, 0, 0, (-1), 0) := rfl
theorem I106_145 : am_code 106 145 = some (34, 148, 394, 0, 0, 0, 0) := rfl
theorem I106_148 : am_code 106 148 = some (2, 149, 0, 0, 0, 0, 0) := rfl
theorem I106_149 : am_code 106 149 = some (1, 150, 2, 0, 0, 0, 0) := rfl
theorem I106_150 : am_code 106 150 = some (4, 151, 0, 0, 0, 0, 0) := rfl
theorem I106_151 : am_code 106 151 = some (65, 154, 56, 2, 81, 0, 0) := rfl
theorem I106_154 : am_code 106 154 = some (4, 156, 0, 0, 0, (-6), 0) := rfl
theorem I106_156 : am_code 106 156 = some (34, 159, 394, 0, 0, 0, 0) := rfl
theorem I106_159 : am_code 106 159 = some (2, 160, 0, 0, 0, 0, 0) := rfl
theorem I106_160 : am_code 106 160 = some (4, 161, 0, 0, 0, 0, 0) := rfl
theorem I106_161 : am_code 106 161 = some (1, 162, 2, 0, 0, 0, 0) := rfl
theorem I106_162 : am_code 106 162 = some (65, 165, 56, 2, 81, 0, 0) := rfl
theorem I106_165 : am_code 106 165 = some (4, 166, 0, 0, 0, (-1), 0) := rfl
theorem I106_166 : am_code 106 166 = some (34, 169, 394, 0, 0, 0, 0) := rfl
theorem I106_169 : am_code 106 169 = some (2, 170, 0, 0, 0, 0, 0) := rfl
theorem I106_170 : am_code 106 170 = some (1, 171, 2, 0, 0, 0, 0) := rfl
theorem I106_171 : am_code 106 171 = some (4, 172, 0, 0, 0, 1, 0) := rfl
theorem I106_172 : am_code 106 172 = some (65, 175, 57, 2, 84, 0, 0) := rfl
theorem I106_175 : am_code 106 175 = some (4, 177, 0, 0, 0, (-6), 0) := rfl
theorem I106_177 : am_code 106 177 = some (34, 180, 394, 0, 0, 0, 0) := rfl
theorem I106_180 : am_code 106 180 = some (2, 181, 0, 0, 0, 0, 0) := rfl
theorem I106_181 : am_code 106 181 = some (4, 182, 0, 0, 0, 0, 0) := rfl
theorem I106_182 : am_code 106 182 = some (1, 183, 2, 0, 0, 0, 0) := rfl
theorem I106_183 : am_code 106 183 = some (65, 186, 57, 2, 84, 0, 0) := rfl
theorem I106_186 : am_code 106 186 = some (4, 187, 0, 0, 0, (-1), 0) := rfl
theorem I106_187 : am_code 106 187 = some (34, 190, 394, 0, 0, 0, 0) := rfl
theorem I106_190 : am_code 106 190 = some (2, 191, 0, 0, 0, 0, 0) := rfl
theorem I106_191 : am_code 106 191 = some (1, 192, 2, 0, 0, 0, 0) := rfl
theorem I106_192 : am_code 106 192 = some (4, 193, 0, 0, 0, 1, 0) := rfl
theorem I106_193 : am_code 106 193 = some (65, 196, 58, 2, 127, 0, 0) := rfl
theorem I106_196 : am_code 106 196 = some (4, 197, 0, 0, 0, (-1), 0) := rfl
theorem I106_197 : am_code 106 197 = some (34, 200, 394, 0, 0, 0, 0) := rfl
theorem I106_200 : am_code 106 200 = some (2, 201, 0, 0, 0, 0, 0) := rfl
theorem I106_201 : am_code 106 201 = some (4, 202, 0, 0, 0, 0, 0) := rfl
theorem I106_202 : am_code 106 202 = some (1, 203, 2, 0, 0, 0, 0) := rfl
theorem I106_203 : am_code 106 203 = some (65, 206, 58, 2, 127, 0, 0) := rfl
theorem I106_206 : am_code 106 206 = some (4, 208, 0, 0, 0, (-2), 0) := rfl
theorem I106_208 : am_code 106 208 = some (34, 211, 394, 0, 0, 0, 0) := rfl
theorem I106_211 : am_code 106 211 = some (2, 212, 0, 0, 0, 0, 0) := rfl
theorem I106_212 : am_code 106 212 = some (1, 213, 2, 0, 0, 0, 0) := rfl
theorem I106_213 : am_code 106 213 = some (65, 216, 59, 1, 112, 0, 0) := rfl
theorem I106_216 : am_code 106 216 = some (4, 217, 0, 0, 0, (-1), 0) := rfl
theorem I106_217 : am_code 106 217 = some (34, 220, 394, 0, 0, 0, 0) := rfl
theorem I106_220 : am_code 106 220 = some (2, 221, 0, 0, 0, 0, 0) := rfl
theorem I106_221 : am_code 106 221 = some (1, 222, 2, 0, 0, 0, 0) := rfl
theorem I106_222 : am_code 106 222 = some (65, 225, 62, 1, 153, 0, 0) := rfl
theorem I106_225 : am_code 106 225 = some (4, 227, 0, 0, 0, (-2), 0) := rfl
theorem I106_227 : am_code 106 227 = some (34, 230, 394, 0, 0, 0, 0) := rfl
theorem I106_230 : am_code 106 230 = some (2, 231, 0, 0, 0, 0, 0) := rfl
theorem I106_231 : am_code 106 231 = some (1, 232, 2, 0, 0, 0, 0) := rfl
theorem I106_232 : am_code 106 232 = some (65, 235, 64, 1, 118, 0, 0) := rfl
theorem I106_235 : am_code 106 235 = some (4, 237, 0, 0, 0, (-2), 0) := rfl
theorem I106_237 : am_code 106 237 = some (34, 240, 394, 0, 0, 0, 0) := rfl
theorem I106_240 : am_code 106 240 = some (2, 241, 0, 0, 0, 0, 0) := rfl
theorem I106_241 : am_code 106 241 = some (1, 242, 2, 0, 0, 0, 0) := rfl
theorem I106_242 : am_code 106 242 = some (65, 245, 66, 1, 124, 0, 0) := rfl
theorem I106_245 : am_code 106 245 = some (4, 247, 0, 0, 0, (-6), 0) := rfl
theorem I106_247 : am_code 106 247 = some (34, 250, 394, 0, 0, 0, 0) := rfl
theorem I106_250 : am_code 106 250 = some (2, 251, 0, 0, 0, 0, 0) := rfl
theorem I106_251 : am_code 106 251 = some (1, 252, 2, 0, 0, 0, 0) := rfl
theorem I106_252 : am_code 106 252 = some (65, 255, 67, 1, 96, 0, 0) := rfl
theorem I106_255 : am_code 106 255 = some (4, 256, 0, 0, 0, (-1), 0) := rfl
theorem I106_256 : am_code 106 256 = some (34, 259, 394, 0, 0, 0, 0) := rfl
theorem I106_259 : am_code 106 259 = some (2, 260, 0, 0, 0, 0, 0) := rfl
theorem I106_260 : am_code 106 260 = some (1, 261, 2, 0, 0, 0, 0) := rfl
theorem I106_261 : am_code 106 261 = some (65, 264, 68, 1, 156, 0, 0) := rfl
theorem I106_264 : am_code 106 264 = some (4, 266, 0, 0, 0, (-6), 0) := rfl
theorem I106_266 : am_code 106 266 = some (34, 269, 394, 0, 0, 0, 0) := rfl
theorem I106_269 : am_code 106 269 = some (2, 270, 0, 0, 0, 0, 0) := rfl
theorem I106_270 : am_code 106 270 = some (1, 271, 2, 0, 0, 0, 0) := rfl
theorem I106_271 : am_code 106 271 = some (65, 274, 74, 1, 102, 0, 0) := rfl
theorem I106_274 : am_code 106 274 = some (4, 275, 0, 0, 0, (-1), 0) := rfl
theorem I106_275 : am_code 106 275 = some (34, 278, 394, 0, 0, 0, 0) := rfl
theorem I106_278 : am_code 106 278 = some (2, 279, 0, 0, 0, 0, 0) := rfl
theorem I106_279 : am_code 106 279 = some (4, 280, 0, 0, 0, 0, 0) := rfl
theorem I106_280 : am_code 106 280 = some (1, 281, 2, 0, 0, 0, 0) := rfl
theorem I106_281 : am_code 106 281 = some (65, 284, 76, 2, 142, 0, 0) := rfl
theorem I106_284 : am_code 106 284 = some (4, 285, 0, 0, 0, (-1), 0) := rfl
theorem I106_285 : am_code 106 285 = some (34, 288, 394, 0, 0, 0, 0) := rfl
theorem I106_288 : am_code 106 288 = some (2, 289, 0, 0, 0, 0, 0) := rfl
theorem I106_289 : am_code 106 289 = some (1, 290, 2, 0, 0, 0, 0) := rfl
theorem I106_290 : am_code 106 290 = some (4, 291, 0, 0, 0, 0, 0) := rfl
theorem I106_291 : am_code 106 291 = some (65, 294, 77, 2, 105, 0, 0) := rfl
theorem I106_294 : am_code 106 294 = some (4, 295, 0, 0, 0, (-1), 0) := rfl
theorem I106_295 : am_code 106 295 = some (34, 298, 394, 0, 0, 0, 0) := rfl
theorem I106_298 : am_code 106 298 = some (2, 299, 0, 0, 0, 0, 0) := rfl
theorem I106_299 : am_code 106 299 = some (4, 300, 0, 0, 0, 0, 0) := rfl
theorem I106_300 : am_code 106 300 = some (1, 301, 2, 0, 0, 0, 0) := rfl
theorem I106_301 : am_code 106 301 = some (65, 304, 77, 2, 105, 0, 0) := rfl
theorem I106_304 : am_code 106 304 = some (4, 306, 0, 0, 0, (-6), 0) := rfl
theorem I106_306 : am_code 106 306 = some (34, 309, 394, 0, 0, 0, 0) := rfl
theorem I106_309 : am_code 106 309 = some (2, 310, 0, 0, 0, 0, 0) := rfl
theorem I106_310 : am_code 106 310 = some (1, 311, 2, 0, 0, 0, 0) := rfl
theorem I106_311 : am_code 106 311 = some (4, 312, 0, 0, 0, 0, 0) := rfl
theorem I106_312 : am_code 106 312 = some (65, 315, 78, 2, 139, 0, 0) := rfl
theorem I106_315 : am_code 106 315 = some (4, 316, 0, 0, 0, (-1), 0) := rfl
theorem I106_316 : am_code 106 316 = some (34, 319, 394, 0, 0, 0, 0) := rfl
theorem I106_319 : am_code 106 319 = some (2, 320, 0, 0, 0, 0, 0) := rfl
theorem I106_320 : am_code 106 320 = some (1, 321, 2, 0, 0, 0, 0) := rfl
theorem I106_321 : am_code 106 321 = some (4, 322, 0, 0, 0, 1, 0) := rfl
theorem I106_322 : am_code 106 322 = some (4, 323, 0, 0, 0, 0, 0) := rfl
theorem I106_323 : am_code 106 323 = some (65, 326, 79, 3, 90, 0, 0) := rfl
theorem I106_326 : am_code 106 326 = some (4, 327, 0, 0, 0, (-1), 0) := rfl
theorem I106_327 : am_code 106 327 = some (34, 330, 394, 0, 0, 0, 0) := rfl
theorem I106_330 : am_code 106 330 = some (2, 331, 0, 0, 0, 0, 0) := rfl
theorem I106_331 : am_code 106 331 = some (4, 332, 0, 0, 0, 0, 0) := rfl
theorem I106_332 : am_code 106 332 = some (1, 333, 2, 0, 0, 0, 0) := rfl
theorem I106_333 : am_code 106 333 = some (4, 334, 0, 0, 0, 0, 0) := rfl
theorem I106_334 : am_code 106 334 = some (65, 337, 79, 3, 90, 0, 0) := rfl
theorem I106_337 : am_code 106 337 = some (4, 338, 0, 0, 0, (-1), 0) := rfl
theorem I106_338 : am_code 106 338 = some (34, 341, 394, 0, 0, 0, 0) := rfl
theorem I106_341 : am_code 106 341 = some (2, 342, 0, 0, 0, 0, 0) := rfl
theorem I106_342 : am_code 106 342 = some (4, 343, 0, 0, 0, 0, 0) := rfl
theorem I106_343 : am_code 106 343 = some (4, 344, 0, 0, 0, 1, 0) := rfl
theorem I106_344 : am_code 106 344 = some (1, 345, 2, 0, 0, 0, 0) := rfl
theorem I106_345 : am_code 106 345 = some (65, 348, 79, 3, 90, 0, 0) := rfl
theorem I106_348 : am_code 106 348 = some (4, 350, 0, 0, 0, (-2), 0) := rfl
theorem I106_350 : am_code 106 350 = some (34, 353, 394, 0, 0, 0, 0) := rfl
theorem I106_353 : am_code 106 353 = some (2, 354, 0, 0, 0, 0, 0) := rfl
theorem I106_354 : am_code 106 354 = some (1, 355, 2, 0, 0, 0, 0) := rfl
theorem I106_355 : am_code 106 355 = some (65, 358, 80, 1, 99, 0, 0) := rfl
theorem I106_358 : am_code 106 358 = some (4, 359, 0, 0, 0, (-1), 0) := rfl
theorem I106_359 : am_code 106 359 = some (34, 362, 394, 0, 0, 0, 0) := rfl
theorem I106_362 : am_code 106 362 = some (2, 363, 0, 0, 0, 0, 0) := rfl
theorem I106_363 : am_code 106 363 = some (1, 364, 2, 0, 0, 0, 0) := rfl
theorem I106_364 : am_code 106 364 = some (65, 367, 85, 1, 145, 0, 0) := rfl
theorem I106_367 : am_code 106 367 = some (4, 369, 0, 0, 0, (-2), 0) := rfl
theorem I106_369 : am_code 106 369 = some (34, 372, 394, 0, 0, 0, 0) := rfl
theorem I106_372 : am_code 106 372 = some (2, 373, 0, 0, 0, 0, 0) := rfl
theorem I106_373 : am_code 106 373 = some (1, 374, 2, 0, 0, 0, 0) := rfl
theorem I106_374 : am_code 106 374 = some (65, 377, 86, 1, 148, 0, 0) := rfl
theorem I106_377 : am_code 106 377 = some (4, 379, 0, 0, 0, (-2), 0) := rfl
theorem I106_379 : am_code 106 379 = some (34, 382, 394, 0, 0, 0, 0) := rfl
theorem I106_382 : am_code 106 382 = some (2, 383, 0, 0, 0, 0, 0) := rfl
theorem I106_383 : am_code 106 383 = some (65, 386, 55, 0, 41, 0, 0) := rfl
theorem I106_386 : am_code 106 386 = some (4, 387, 0, 0, 0, 1, 0) := rfl
theorem I106_387 : am_code 106 387 = some (34, 390, 394, 0, 0, 0, 0) := rfl
theorem I106_390 : am_code 106 390 = some (4, 391, 0, 0, 0, 1, 0) := rfl
theorem I106_391 : am_code 106 391 = some (45, 394, 395, 0, 0, 0, 0) := rfl
theorem I106_394 : am_code 106 394 = some (4, 395, 0, 0, 0, 0, 0) := rfl
theorem I106_395 : am_code 106 395 = some (70, 396, 1, 0, 0, 0, 0) := rfl
theorem I107_0 : am_code 107 0 = some (1, 1, 0, 0, 0, 0, 0) := rfl
theorem I107_1 : am_code 107 1 = some (1, 2, 1, 0, 0, 0, 0) := rfl
theorem I107_2 : am_code 107 2 = some (35, 5, 9, 0, 0, 0, 0) := rfl
theorem I107_5 : am_code 107 5 = some (1, 6, 0, 0, 0, 0, 0) := rfl
theorem I107_6 : am_code 107 6 = some (45, 9, 10, 0, 0, 0, 0) := rfl
theorem I107_9 : am_code 107 9 = some (1, 10, 1, 0, 0, 0, 0) := rfl
theorem I107_10 : am_code 107 10 = some (70, 11, 0, 0, 0, 0, 0) := rfl
theorem I108_0 : am_code 108 0 = some (1, 1, 0, 0, 0, 0, 0) := rfl
theorem I108_1 : am_code 108 1 = some (1, 2, 1, 0, 0, 0, 0) := rfl
theorem I108_2 : am_code 108 2 = some (37, 5, 9, 0, 0, 0, 0) := rfl
theorem I108_5 : am_code 108 5 = some (1, 6, 0, 0, 0, 0, 0) := rfl
theorem I108_6 : am_code 108 6 = some (45, 9, 10, 0, 0, 0, 0) := rfl
theorem I108_9 : am_code 108 9 = some (1, 10, 1, 0, 0, 0, 0) := rfl
theorem I108_10 : am_code 108 10 = some (70, 11, 0, 0, 0, 0, 0) := rfl
theorem I109_0 : am_code 109 0 = some (60, 3, 4, 0, 9, 0, 0) := rfl
theorem I109_3 : am_code 109 3 = some (63, 4, 0, 0, 0, 0, 0) := rfl
theorem I109_4 : am_code 109 4 = some (68, 7, 44, 0, 11, 0, 0) := rfl
theorem I109_7 : am_code 109 7 = some (7, 8, 1, 0, 0, 0, 0) := rfl
theorem I109_8 : am_code 109 8 = some (4, 9, 0, 0, 0, 0, 0) := rfl
theorem I109_9 : am_code 109 9 = some (6, 10, 2, 0, 0, 0, 0) := rfl
theorem I109_10 : am_code 109 10 = some (2, 11, 1, 0, 0, 0, 0) := rfl
theorem I109_11 : am_code 109 11 = some (2, 12, 0, 0, 0, 0, 0) := rfl
theorem I109_12 : am_code 109 12 = some (1, 13, 2, 0, 0, 0, 0) := rfl
theorem I109_13 : am_code 109 13 = some (9, 16, 2, 0, 0, 1, 0) := rfl
theorem I109_16 : am_code 109 16 = some (66, 19, 94, 2, 12, 0, 0) := rfl
theorem I109_19 : am_code 109 19 = some (66, 22, 106, 2, 18, 0, 0) := rfl
theorem I109_22 : am_code 109 22 = some (40, 25, 27, 0, 0, 0, 0) := rfl
theorem I109_25 : am_code 109 25 = some (4, 26, 0, 0, 0, 0, 0) := rfl
theorem I109_26 : am_code 109 26 = some (70, 27, 1, 0, 0, 0, 0) := rfl
theorem I109_27 : am_code 109 27 = some (2, 28, 0, 0, 0, 0, 0) := rfl
theorem I109_28 : am_code 109 28 = some (1, 29, 2, 0, 0, 0, 0) := rfl
theorem I109_29 : am_code 109 29 = some (9, 32, 2, 0, 0, 1, 0) := rfl
theorem I109_32 : am_code 109 32 = some (66, 35, 94, 2, 12, 0, 0) := rfl
theorem I109_35 : am_code 109 35 = some (6, 36, 3, 0, 0, 0, 0) := rfl
theorem I109_36 : am_code 109 36 = some (4, 37, 0, 0, 0, 1, 0) := rfl
theorem I109_37 : am_code 109 37 = some (1, 38, 3, 0, 0, 0, 0) := rfl
theorem I109_38 : am_code 109 38 = some (4, 40, 0, 0, 0, 8, 0) := rfl
theorem I109_40 : am_code 109 40 = some (66, 43, 95, 2, 22, 0, 0) := rfl
theorem I109_43 : am_code 109 43 = some (10, 44, 0, 0, 0, 0, 0) := rfl
theorem I109_44 : am_code 109 44 = some (6, 46, 4, 0, 0, 0, 0) := rfl
theorem I109_46 : am_code 109 46 = some (1, 47, 3, 0, 0, 0, 0) := rfl
theorem I109_47 : am_code 109 47 = some (4, 48, 0, 0, 0, 4, 0) := rfl
theorem I109_48 : am_code 109 48 = some (17, 49, 0, 0, 0, 0, 0) := rfl
theorem I109_49 : am_code 109 49 = some (4, 50, 0, 0, 0, 4, 0) := rfl
theorem I109_50 : am_code 109 50 = some (66, 53, 95, 2, 22, 0, 0) := rfl
theorem I109_53 : am_code 109 53 = some (6, 55, 5, 0, 0, 0, 0) := rfl
theorem I109_55 : am_code 109 55 = some (1, 57, 5, 0, 0, 0, 0) := rfl
theorem I109_57 : am_code 109 57 = some (40, 60, 118, 0, 0, 0, 0) := rfl
theorem I109_60 : am_code 109 60 = some (2, 61, 1, 0, 0, 0, 0) := rfl
theorem I109_61 : am_code 109 61 = some (4, 62, 0, 0, 0, 1, 0) := rfl
theorem I109_62 : am_code 109 62 = some (1, 63, 3, 0, 0, 0, 0) := rfl
theorem I109_63 : am_code 109 63 = some (4, 65, 0, 0, 0, 7, 0) := rfl
theorem I109_65 : am_code 109 65 = some (17, 66, 0, 0, 0, 0, 0) := rfl
theorem I109_66 : am_code 109 66 = some (4, 67, 0, 0, 0, 3, 0) := rfl
theorem I109_67 : am_code 109 67 = some (66, 70, 95, 2, 22, 0, 0) := rfl
theorem I109_70 : am_code 109 70 = some (10, 71, 0, 0, 0, 0, 0) := rfl
theorem I109_71 : am_code 109 71 = some (1, 73, 4, 0, 0, 0, 0) := rfl
theorem I109_73 : am_code 109 73 = some (1, 74, 3, 0, 0, 0, 0) := rfl
theorem I109_74 : am_code 109 74 = some (4, 76, 0, 0, 0, 10, 0) := rfl
theorem I109_76 : am_code 109 76 = some (17, 77, 0, 0, 0, 0, 0) := rfl
theorem I109_77 : am_code 109 77 = some (4, 78, 0, 0, 0, 2, 0) := rfl
theorem I109_78 : am_code 109 78 = some (66, 81, 95, 2, 22, 0, 0) := rfl
theorem I109_81 : am_code 109 81 = some (40, 84, 88, 0, 0, 0, 0) := rfl
theorem I109_84 : am_code 109 84 = some (4, 85, 0, 0, 0, 1, 0) := rfl
theorem I109_85 : am_code 109 85 = some (45, 88, 89, 0, 0, 0, 0) := rfl
theorem I109_88 : am_code 109 88 = some (4, 89, 0, 0, 0, 0, 0) := rfl
theorem I109_89 : am_code 109 89 = some (65, 92, 46, 3, 26, 0, 0) := rfl
theorem I109_92 : am_code 109 92 = some (4, 93, 0, 0, 0, 2, 0) := rfl
theorem I109_93 : am_code 109 93 = some (1, 95, 4, 0, 0, 0, 0) := rfl
theorem I109_95 : am_code 109 95 = some (12, 96, 0, 0, 0, 0, 0) := rfl
theorem I109_96 : am_code 109 96 = some (1, 97, 3, 0, 0, 0, 0) := rfl
theorem I109_97 : am_code 109 97 = some (4, 99, 0, 0, 0, 10, 0) := rfl
theorem I109_99 : am_code 109 99 = some (17, 100, 0, 0, 0, 0, 0) := rfl
theorem I109_100 : am_code 109 100 = some (4, 101, 0, 0, 0, 2, 0) := rfl
theorem I109_101 : am_code 109 101 = some (66, 104, 95, 2, 22, 0, 0) := rfl
theorem I109_104 : am_code 109 104 = some (40, 107, 111, 0, 0, 0, 0) := rfl
theorem I109_107 : am_code 109 107 = some (4, 108, 0, 0, 0, 1, 0) := rfl
theorem I109_108 : am_code 109 108 = some (45, 111, 112, 0, 0, 0, 0) := rfl
theorem I109_111 : am_code 109 111 = some (4, 112, 0, 0, 0, 0, 0) := rfl
theorem I109_112 : am_code 109 112 = some (10, 113, 0, 0, 0, 0, 0) := rfl
theorem I109_113 : am_code 109 113 = some (33, 116, 402, 0, 0, 0, 0) := rfl
theorem I109_116 : am_code 109 116 = some (4, 117, 0, 0, 0, 0, 0) := rfl
theorem I109_117 : am_code 109 117 = some (70, 118, 1, 0, 0, 0, 0) := rfl
theorem I109_118 : am_code 109 118 = some (1, 120, 5, 0, 0, 0, 0) := rfl
theorem I109_120 : am_code 109 120 = some (4, 121, 0, 0, 0, 1, 0) := rfl
theorem I109_121 : am_code 109 121 = some (34, 124, 208, 0, 0, 0, 0) := rfl
theorem I109_124 : am_code 109 124 = some (4, 125, 0, 0, 0, 1, 0) := rfl
theorem I109_125 : am_code 109 125 = some (1, 126, 3, 0, 0, 0, 0) := rfl
theorem I109_126 : am_code 109 126 = some (4, 128, 0, 0, 0, 7, 0) := rfl
theorem I109_128 : am_code 109 128 = some (17, 129, 0, 0, 0, 0, 0) := rfl
theorem I109_129 : am_code 109 129 = some (1, 131, 4, 0, 0, 0, 0) := rfl
theorem I109_131 : am_code 109 131 = some (4, 132, 0, 0, 0, 1, 0) := rfl
theorem I109_132 : am_code 109 132 = some (10, 133, 0, 0, 0, 0, 0) := rfl
theorem I109_133 : am_code 109 133 = some (66, 136, 95, 2, 22, 0, 0) := rfl
theorem I109_136 : am_code 109 136 = some (10, 137, 0, 0, 0, 0, 0) := rfl
theorem I109_137 : am_code 109 137 = some (6, 139, 6, 0, 0, 0, 0) := rfl
theorem I109_139 : am_code 109 139 = some (2, 140, 1, 0, 0, 0, 0) := rfl
theorem I109_140 : am_code 109 140 = some (1, 142, 4, 0, 0, 0, 0) := rfl
theorem I109_142 : am_code 109 142 = some (4, 143, 0, 0, 0, 1, 0) := rfl
theorem I109_143 : am_code 109 143 = some (10, 144, 0, 0, 0, 0, 0) := rfl
theorem I109_144 : am_code 109 144 = some (1, 146, 6, 0, 0, 0, 0) := rfl
theorem I109_146 : am_code 109 146 = some (1, 147, 3, 0, 0, 0, 0) := rfl
theorem I109_147 : am_code 109 147 = some (4, 149, 0, 0, 0, 12, 0) := rfl
theorem I109_149 : am_code 109 149 = some (17, 150, 0, 0, 0, 0, 0) := rfl
theorem I109_150 : am_code 109 150 = some (4, 151, 0, 0, 0, 2, 0) := rfl
theorem I109_151 : am_code 109 151 = some (66, 154, 95, 2, 22, 0, 0) := rfl
theorem I109_154 : am_code 109 154 = some (40, 157, 161, 0, 0, 0, 0) := rfl
theorem I109_157 : am_code 109 157 = some (4, 158, 0, 0, 0, 1, 0) := rfl
theorem I109_158 : am_code 109 158 = some (45, 161, 162, 0, 0, 0, 0) := rfl
theorem I109_161 : am_code 109 161 = some (4, 162, 0, 0, 0, 0, 0) := rfl
theorem I109_162 : am_code 109 162 = some (65, 165, 47, 3, 30, 0, 0) := rfl
theorem I109_165 : am_code 109 165 = some (4, 166, 0, 0, 0, 2, 0) := rfl
theorem I109_166 : am_code 109 166 = some (1, 168, 4, 0, 0, 0, 0) := rfl
theorem I109_168 : am_code 109 168 = some (12, 169, 0, 0, 0, 0, 0) := rfl
theorem I109_169 : am_code 109 169 = some (1, 170, 3, 0, 0, 0, 0) := rfl
theorem I109_170 : am_code 109 170 = some (4, 172, 0, 0, 0, 12, 0) := rfl
theorem I109_172 : am_code 109 172 = some (17, 173, 0, 0, 0, 0, 0) := rfl
theorem I109_173 : am_code 109 173 = some (4, 174, 0, 0, 0, 2, 0) := rfl
theorem I109_174 : am_code 109 174 = some (66, 177, 95, 2, 22, 0, 0) := rfl
theorem I109_177 : am_code 109 177 = some (40, 180, 184, 0, 0, 0, 0) := rfl
theorem I109_180 : am_code 109 180 = some (4, 181, 0, 0, 0, 1, 0) := rfl
theorem I109_181 : am_code 109 181 = some (45, 184, 185, 0, 0, 0, 0) := rfl
theorem I109_184 : am_code 109 184 = some (4, 185, 0, 0, 0, 0, 0) := rfl
theorem I109_185 : am_code 109 185 = some (10, 186, 0, 0, 0, 0, 0) := rfl
theorem I109_186 : am_code 109 186 = some (34, 189, 203, 0, 0, 0, 0) := rfl
theorem I109_189 : am_code 109 189 = some (2, 190, 1, 0, 0, 0, 0) := rfl
theorem I109_190 : am_code 109 190 = some (4, 191, 0, 0, 0, 2, 0) := rfl
theorem I109_191 : am_code 109 191 = some (65, 194, 49, 1, 33, 0, 0) := rfl
theorem I109_194 : am_code 109 194 = some (1, 196, 6, 0, 0, 0, 0) := rfl
theorem I109_196 : am_code 109 196 = some (17, 197, 0, 0, 0, 0, 0) := rfl
theorem I109_197 : am_code 109 197 = some (4, 198, 0, 0, 0, 1, 0) := rfl
theorem I109_198 : am_code 109 198 = some (19, 199, 0, 0, 0, 0, 0) := rfl
theorem I109_199 : am_code 109 199 = some (4, 200, 0, 0, 0, 1, 0) := rfl
theorem I109_200 : am_code 109 200 = some (34, 203, 205, 0, 0, 0, 0) := rfl
theorem I109_203 : am_code 109 203 = some (4, 204, 0, 0, 0, 0, 0) := rfl
theorem I109_204 : am_code 109 204 = some (70, 205, 1, 0, 0, 0, 0) := rfl
theorem I109_205 : am_code 109 205 = some (45, 208, 402, 0, 0, 0, 0) := rfl
theorem I109_208 : am_code 109 208 = some (4, 209, 0, 0, 0, 0, 0) := rfl
theorem I109_209 : am_code 109 209 = some (6, 211, 6, 0, 0, 0, 0) := rfl
theorem I109_211 : am_code 109 211 = some (4, 212, 0, 0, 0, 0, 0) := rfl
theorem I109_212 : am_code 109 212 = some (6, 214, 7, 0, 0, 0, 0) := rfl
theorem I109_214 : am_code 109 214 = some (1, 216, 7, 0, 0, 0, 0) := rfl
theorem I109_216 : am_code 109 216 = some (1, 218, 4, 0, 0, 0, 0) := rfl
theorem I109_218 : am_code 109 218 = some (36, 221, 282, 0, 0, 0, 0) := rfl
theorem I109_221 : am_code 109 221 = some (4, 222, 0, 0, 0, 1, 0) := rfl
theorem I109_222 : am_code 109 222 = some (1, 223, 3, 0, 0, 0, 0) := rfl
theorem I109_223 : am_code 109 223 = some (4, 225, 0, 0, 0, 7, 0) := rfl
theorem I109_225 : am_code 109 225 = some (4, 226, 0, 0, 0, 3, 0) := rfl
theorem I109_226 : am_code 109 226 = some (1, 228, 7, 0, 0, 0, 0) := rfl
theorem I109_228 : am_code 109 228 = some (4, 230, 0, 0, 0, 6, 0) := rfl
theorem I109_230 : am_code 109 230 = some (14, 231, 0, 0, 0, 0, 0) := rfl
theorem I109_231 : am_code 109 231 = some (12, 232, 0, 0, 0, 0, 0) := rfl
theorem I109_232 : am_code 109 232 = some (10, 233, 0, 0, 0, 0, 0) := rfl
theorem I109_233 : am_code 109 233 = some (17, 234, 0, 0, 0, 0, 0) := rfl
theorem I109_234 : am_code 109 234 = some (1, 236, 4, 0, 0, 0, 0) := rfl
theorem I109_236 : am_code 109 236 = some (4, 237, 0, 0, 0, 2, 0) := rfl
theorem I109_237 : am_code 109 237 = some (10, 238, 0, 0, 0, 0, 0) := rfl
theorem I109_238 : am_code 109 238 = some (66, 241, 95, 2, 22, 0, 0) := rfl
theorem I109_241 : am_code 109 241 = some (10, 242, 0, 0, 0, 0, 0) := rfl
theorem I109_242 : am_code 109 242 = some (6, 244, 8, 0, 0, 0, 0) := rfl
theorem I109_244 : am_code 109 244 = some (1, 246, 6, 0, 0, 0, 0) := rfl
theorem I109_246 : am_code 109 246 = some (1, 248, 8, 0, 0, 0, 0) := rfl
theorem I109_248 : am_code 109 248 = some (17, 249, 0, 0, 0, 0, 0) := rfl
theorem I109_249 : am_code 109 249 = some (4, 250, 0, 0, 0, 1, 0) := rfl
theorem I109_250 : am_code 109 250 = some (19, 251, 0, 0, 0, 0, 0) := rfl
theorem I109_251 : am_code 109 251 = some (4, 252, 0, 0, 0, 1, 0) := rfl
theorem I109_252 : am_code 109 252 = some (34, 255, 267, 0, 0, 0, 0) := rfl
theorem I109_255 : am_code 109 255 = some (1, 257, 8, 0, 0, 0, 0) := rfl
theorem I109_257 : am_code 109 257 = some (4, 259, 0, 0, 0, 17, 0) := rfl
theorem I109_259 : am_code 109 259 = some (14, 260, 0, 0, 0, 0, 0) := rfl
theorem I109_260 : am_code 109 260 = some (4, 261, 0, 0, 0, 1, 0) := rfl
theorem I109_261 : am_code 109 261 = some (10, 262, 0, 0, 0, 0, 0) := rfl
theorem I109_262 : am_code 109 262 = some (6, 264, 8, 0, 0, 0, 0) := rfl
theorem I109_264 : am_code 109 264 = some (45, 267, 244, 0, 0, 0, 0) := rfl
theorem I109_267 : am_code 109 267 = some (1, 269, 6, 0, 0, 0, 0) := rfl
theorem I109_269 : am_code 109 269 = some (4, 270, 0, 0, 0, 1, 0) := rfl
theorem I109_270 : am_code 109 270 = some (1, 272, 8, 0, 0, 0, 0) := rfl
theorem I109_272 : am_code 109 272 = some (16, 273, 0, 0, 0, 0, 0) := rfl
theorem I109_273 : am_code 109 273 = some (20, 274, 0, 0, 0, 0, 0) := rfl
theorem I109_274 : am_code 109 274 = some (6, 276, 6, 0, 0, 0, 0) := rfl
theorem I109_276 : am_code 109 276 = some (9, 279, 7, 0, 0, 1, 0) := rfl
theorem I109_279 : am_code 109 279 = some (45, 282, 214, 0, 0, 0, 0) := rfl
theorem I109_282 : am_code 109 282 = some (4, 283, 0, 0, 0, 2, 0) := rfl
theorem I109_283 : am_code 109 283 = some (1, 285, 4, 0, 0, 0, 0) := rfl
theorem I109_285 : am_code 109 285 = some (12, 286, 0, 0, 0, 0, 0) := rfl
theorem I109_286 : am_code 109 286 = some (1, 287, 3, 0, 0, 0, 0) := rfl
theorem I109_287 : am_code 109 287 = some (4, 289, 0, 0, 0, 13, 0) := rfl
theorem I109_289 : am_code 109 289 = some (17, 290, 0, 0, 0, 0, 0) := rfl
theorem I109_290 : am_code 109 290 = some (4, 291, 0, 0, 0, 3, 0) := rfl
theorem I109_291 : am_code 109 291 = some (66, 294, 95, 2, 22, 0, 0) := rfl
theorem I109_294 : am_code 109 294 = some (10, 295, 0, 0, 0, 0, 0) := rfl
theorem I109_295 : am_code 109 295 = some (6, 297, 7, 0, 0, 0, 0) := rfl
theorem I109_297 : am_code 109 297 = some (1, 299, 7, 0, 0, 0, 0) := rfl
theorem I109_299 : am_code 109 299 = some (4, 301, 0, 0, 0, 18, 0) := rfl
theorem I109_301 : am_code 109 301 = some (38, 304, 309, 0, 0, 0, 0) := rfl
theorem I109_304 : am_code 109 304 = some (4, 306, 0, 0, 0, 18, 0) := rfl
theorem I109_306 : am_code 109 306 = some (45, 309, 311, 0, 0, 0, 0) := rfl
theorem I109_309 : am_code 109 309 = some (1, 311, 7, 0, 0, 0, 0) := rfl
theorem I109_311 : am_code 109 311 = some (6, 313, 7, 0, 0, 0, 0) := rfl
theorem I109_313 : am_code 109 313 = some (4, 314, 0, 0, 0, 0, 0) := rfl
theorem I109_314 : am_code 109 314 = some (6, 316, 8, 0, 0, 0, 0) := rfl
theorem I109_316 : am_code 109 316 = some (4, 317, 0, 0, 0, 0, 0) := rfl
theorem I109_317 : am_code 109 317 = some (6, 319, 9, 0, 0, 0, 0) := rfl
theorem I109_319 : am_code 109 319 = some (1, 321, 9, 0, 0, 0, 0) := rfl
theorem I109_321 : am_code 109 321 = some (1, 323, 7, 0, 0, 0, 0) := rfl
theorem I109_323 : am_code 109 323 = some (4, 324, 0, 0, 0, 2, 0) := rfl
theorem I109_324 : am_code 109 324 = some (1, 326, 4, 0, 0, 0, 0) := rfl
theorem I109_326 : am_code 109 326 = some (12, 327, 0, 0, 0, 0, 0) := rfl
theorem I109_327 : am_code 109 327 = some (11, 328, 0, 0, 0, 0, 0) := rfl
theorem I109_328 : am_code 109 328 = some (36, 331, 385, 0, 0, 0, 0) := rfl
theorem I109_331 : am_code 109 331 = some (1, 332, 3, 0, 0, 0, 0) := rfl
theorem I109_332 : am_code 109 332 = some (4, 334, 0, 0, 0, 15, 0) := rfl
theorem I109_334 : am_code 109 334 = some (4, 335, 0, 0, 0, 3, 0) := rfl
theorem I109_335 : am_code 109 335 = some (1, 337, 9, 0, 0, 0, 0) := rfl
theorem I109_337 : am_code 109 337 = some (12, 338, 0, 0, 0, 0, 0) := rfl
theorem I109_338 : am_code 109 338 = some (10, 339, 0, 0, 0, 0, 0) := rfl
theorem I109_339 : am_code 109 339 = some (17, 340, 0, 0, 0, 0, 0) := rfl
theorem I109_340 : am_code 109 340 = some (1, 342, 7, 0, 0, 0, 0) := rfl
theorem I109_342 : am_code 109 342 = some (66, 345, 95, 2, 22, 0, 0) := rfl
theorem I109_345 : am_code 109 345 = some (6, 347, 10, 0, 0, 0, 0) := rfl
theorem I109_347 : am_code 109 347 = some (1, 349, 8, 0, 0, 0, 0) := rfl
theorem I109_349 : am_code 109 349 = some (1, 351, 10, 0, 0, 0, 0) := rfl
theorem I109_351 : am_code 109 351 = some (17, 352, 0, 0, 0, 0, 0) := rfl
theorem I109_352 : am_code 109 352 = some (4, 353, 0, 0, 0, 1, 0) := rfl
theorem I109_353 : am_code 109 353 = some (19, 354, 0, 0, 0, 0, 0) := rfl
theorem I109_354 : am_code 109 354 = some (4, 355, 0, 0, 0, 1, 0) := rfl
theorem I109_355 : am_code 109 355 = some (34, 358, 370, 0, 0, 0, 0) := rfl
theorem I109_358 : am_code 109 358 = some (1, 360, 10, 0, 0, 0, 0) := rfl
theorem I109_360 : am_code 109 360 = some (4, 361, 0, 0, 0, 1, 0) := rfl
theorem I109_361 : am_code 109 361 = some (10, 362, 0, 0, 0, 0, 0) := rfl
theorem I109_362 : am_code 109 362 = some (1, 364, 7, 0, 0, 0, 0) := rfl
theorem I109_364 : am_code 109 364 = some (14, 365, 0, 0, 0, 0, 0) := rfl
theorem I109_365 : am_code 109 365 = some (6, 367, 10, 0, 0, 0, 0) := rfl
theorem I109_367 : am_code 109 367 = some (45, 370, 347, 0, 0, 0, 0) := rfl
theorem I109_370 : am_code 109 370 = some (1, 372, 8, 0, 0, 0, 0) := rfl
theorem I109_372 : am_code 109 372 = some (4, 373, 0, 0, 0, 1, 0) := rfl
theorem I109_373 : am_code 109 373 = some (1, 375, 10, 0, 0, 0, 0) := rfl
theorem I109_375 : am_code 109 375 = some (16, 376, 0, 0, 0, 0, 0) := rfl
theorem I109_376 : am_code 109 376 = some (20, 377, 0, 0, 0, 0, 0) := rfl
theorem I109_377 : am_code 109 377 = some (6, 379, 8, 0, 0, 0, 0) := rfl
theorem I109_379 : am_code 109 379 = some (9, 382, 9, 0, 0, 1, 0) := rfl
theorem I109_382 : am_code 109 382 = some (45, 385, 319, 0, 0, 0, 0) := rfl
theorem I109_385 : am_code 109 385 = some (2, 386, 1, 0, 0, 0, 0) := rfl
theorem I109_386 : am_code 109 386 = some (1, 388, 7, 0, 0, 0, 0) := rfl
theorem I109_388 : am_code 109 388 = some (1, 390, 8, 0, 0, 0, 0) := rfl
theorem I109_390 : am_code 109 390 = some (1, 392, 6, 0, 0, 0, 0) := rfl
theorem I109_392 : am_code 109 392 = some (65, 395, 45, 3, 37, 0, 0) := rfl
theorem I109_395 : am_code 109 395 = some (1, 397, 4, 0, 0, 0, 0) := rfl
theorem I109_397 : am_code 109 397 = some (33, 400, 402, 0, 0, 0, 0) := rfl
theorem I109_400 : am_code 109 400 = some (4, 401, 0, 0, 0, 0, 0) := rfl
theorem I109_401 : am_code 109 401 = some (70, 402, 1, 0, 0, 0, 0) := rfl
theorem I109_402 : am_code 109 402 = some (2, 403, 1, 0, 0, 0, 0) := rfl
theorem I109_403 : am_code 109 403 = some (65, 406, 55, 0, 41, 0, 0) := rfl
theorem I109_406 : am_code 109 406 = some (6, 408, 6, 0, 0, 0, 0) := rfl
theorem I109_408 : am_code 109 408 = some (2, 409, 1, 0, 0, 0, 0) := rfl
theorem I109_409 : am_code 109 409 = some (1, 411, 6, 0, 0, 0, 0) := rfl
theorem I109_411 : am_code 109 411 = some (66, 414, 97, 2, 45, 0, 0) := rfl
theorem I109_414 : am_code 109 414 = some (39, 417, 426, 0, 0, 0, 0) := rfl
theorem I109_417 : am_code 109 417 = some (2, 418, 1, 0, 0, 0, 0) := rfl
theorem I109_418 : am_code 109 418 = some (1, 420, 6, 0, 0, 0, 0) := rfl
theorem I109_420 : am_code 109 420 = some (66, 423, 98, 2, 48, 0, 0) := rfl
theorem I109_423 : am_code 109 423 = some (40, 426, 428, 0, 0, 0, 0) := rfl
theorem I109_426 : am_code 109 426 = some (4, 427, 0, 0, 0, 0, 0) := rfl
theorem I109_427 : am_code 109 427 = some (70, 428, 1, 0, 0, 0, 0) := rfl
theorem I109_428 : am_code 109 428 = some (4, 429, 0, 0, 0, 0, 0) := rfl
theorem I109_429 : am_code 109 429 = some (6, 431, 7, 0, 0, 0, 0) := rfl
theorem I109_431 : am_code 109 431 = some (1, 433, 7, 0, 0, 0, 0) := rfl
theorem I109_433 : am_code 109 433 = some (4, 434, 0, 0, 0, 3, 0) := rfl
theorem I109_434 : am_code 109 434 = some (36, 437, 469, 0, 0, 0, 0) := rfl
theorem I109_437 : am_code 109 437 = some (2, 438, 1, 0, 0, 0, 0) := rfl
theorem I109_438 : am_code 109 438 = some (1, 440, 6, 0, 0, 0, 0) := rfl
theorem I109_440 : am_code 109 440 = some (2, 441, 0, 0, 0, 0, 0) := rfl
theorem I109_441 : am_code 109 441 = some (1, 442, 2, 0, 0, 0, 0) := rfl
theorem I109_442 : am_code 109 442 = some (9, 445, 2, 0, 0, 1, 0) := rfl
theorem I109_445 : am_code 109 445 = some (66, 448, 94, 2, 12, 0, 0) := rfl
theorem I109_448 : am_code 109 448 = some (1, 450, 6, 0, 0, 0, 0) := rfl
theorem I109_450 : am_code 109 450 = some (4, 451, 0, 0, 0, 2, 0) := rfl
theorem I109_451 : am_code 109 451 = some (10, 452, 0, 0, 0, 0, 0) := rfl
theorem I109_452 : am_code 109 452 = some (66, 455, 95, 2, 22, 0, 0) := rfl
theorem I109_455 : am_code 109 455 = some (66, 458, 100, 3, 51, 0, 0) := rfl
theorem I109_458 : am_code 109 458 = some (40, 461, 463, 0, 0, 0, 0) := rfl
theorem I109_461 : am_code 109 461 = some (4, 462, 0, 0, 0, 0, 0) := rfl
theorem I109_462 : am_code 109 462 = some (70, 463, 1, 0, 0, 0, 0) := rfl
theorem I109_463 : am_code 109 463 = some (9, 466, 7, 0, 0, 1, 0) := rfl
theorem I109_466 : am_code 109 466 = some (45, 469, 431, 0, 0, 0, 0) := rfl
theorem I109_469 : am_code 109 469 = some (2, 470, 0, 0, 0, 0, 0) := rfl
theorem I109_470 : am_code 109 470 = some (1, 471, 2, 0, 0, 0, 0) := rfl
theorem I109_471 : am_code 109 471 = some (9, 474, 2, 0, 0, 1, 0) := rfl
theorem I109_474 : am_code 109 474 = some (66, 477, 94, 2, 12, 0, 0) := rfl
theorem I109_477 : am_code 109 477 = some (6, 478, 3, 0, 0, 0, 0) := rfl
theorem I109_478 : am_code 109 478 = some (2, 479, 1, 0, 0, 0, 0) := rfl
theorem I109_479 : am_code 109 479 = some (1, 481, 6, 0, 0, 0, 0) := rfl
theorem I109_481 : am_code 109 481 = some (1, 482, 3, 0, 0, 0, 0) := rfl
theorem I109_482 : am_code 109 482 = some (2, 483, 1, 0, 0, 0, 0) := rfl
theorem I109_483 : am_code 109 483 = some (4, 484, 0, 0, 0, 0, 0) := rfl
theorem I109_484 : am_code 109 484 = some (65, 487, 49, 1, 33, 0, 0) := rfl
theorem I109_487 : am_code 109 487 = some (66, 490, 95, 2, 22, 0, 0) := rfl
theorem I109_490 : am_code 109 490 = some (66, 493, 101, 3, 55, 0, 0) := rfl
theorem I109_493 : am_code 109 493 = some (39, 496, 558, 0, 0, 0, 0) := rfl
theorem I109_496 : am_code 109 496 = some (2, 497, 1, 0, 0, 0, 0) := rfl
theorem I109_497 : am_code 109 497 = some (1, 499, 6, 0, 0, 0, 0) := rfl
theorem I109_499 : am_code 109 499 = some (66, 502, 102, 2, 58, 0, 0) := rfl
theorem I109_502 : am_code 109 502 = some (39, 505, 558, 0, 0, 0, 0) := rfl
theorem I109_505 : am_code 109 505 = some (2, 506, 1, 0, 0, 0, 0) := rfl
theorem I109_506 : am_code 109 506 = some (1, 508, 6, 0, 0, 0, 0) := rfl
theorem I109_508 : am_code 109 508 = some (1, 509, 3, 0, 0, 0, 0) := rfl
theorem I109_509 : am_code 109 509 = some (4, 510, 0, 0, 0, 5, 0) := rfl
theorem I109_510 : am_code 109 510 = some (17, 511, 0, 0, 0, 0, 0) := rfl
theorem I109_511 : am_code 109 511 = some (1, 513, 6, 0, 0, 0, 0) := rfl
theorem I109_513 : am_code 109 513 = some (4, 514, 0, 0, 0, 1, 0) := rfl
theorem I109_514 : am_code 109 514 = some (10, 515, 0, 0, 0, 0, 0) := rfl
theorem I109_515 : am_code 109 515 = some (66, 518, 95, 2, 22, 0, 0) := rfl
theorem I109_518 : am_code 109 518 = some (66, 521, 103, 3, 61, 0, 0) := rfl
theorem I109_521 : am_code 109 521 = some (39, 524, 558, 0, 0, 0, 0) := rfl
theorem I109_524 : am_code 109 524 = some (2, 525, 1, 0, 0, 0, 0) := rfl
theorem I109_525 : am_code 109 525 = some (1, 527, 6, 0, 0, 0, 0) := rfl
theorem I109_527 : am_code 109 527 = some (1, 528, 3, 0, 0, 0, 0) := rfl
theorem I109_528 : am_code 109 528 = some (4, 530, 0, 0, 0, 9, 0) := rfl
theorem I109_530 : am_code 109 530 = some (17, 531, 0, 0, 0, 0, 0) := rfl
theorem I109_531 : am_code 109 531 = some (66, 534, 104, 3, 63, 0, 0) := rfl
theorem I109_534 : am_code 109 534 = some (39, 537, 558, 0, 0, 0, 0) := rfl
theorem I109_537 : am_code 109 537 = some (2, 538, 1, 0, 0, 0, 0) := rfl
theorem I109_538 : am_code 109 538 = some (1, 540, 6, 0, 0, 0, 0) := rfl
theorem I109_540 : am_code 109 540 = some (2, 541, 0, 0, 0, 0, 0) := rfl
theorem I109_541 : am_code 109 541 = some (1, 542, 2, 0, 0, 0, 0) := rfl
theorem I109_542 : am_code 109 542 = some (9, 545, 2, 0, 0, 1, 0) := rfl
theorem I109_545 : am_code 109 545 = some (66, 548, 94, 2, 12, 0, 0) := rfl
theorem I109_548 : am_code 109 548 = some (66, 551, 105, 3, 66, 0, 0) := rfl
theorem I109_551 : am_code 109 551 = some (39, 554, 558, 0, 0, 0, 0) := rfl
theorem I109_554 : am_code 109 554 = some (4, 555, 0, 0, 0, 1, 0) := rfl
theorem I109_555 : am_code 109 555 = some (45, 558, 559, 0, 0, 0, 0) := rfl
theorem I109_558 : am_code 109 558 = some (4, 559, 0, 0, 0, 0, 0) := rfl
theorem I109_559 : am_code 109 559 = some (70, 560, 1, 0, 0, 0, 0) := rfl
end
section
/-! An abstract machine over numbered cells: a reference is the number of a cell, the law's script is '.float _'.
am_WP: a frame at pc with locals L, stack st, heap G ends with P (answer and heap). -/
abbrev am_C : Type := (Nat × Nat × (Nat → Int32)) ⊕ (Nat × (Nat → Int64)) ⊕ (Nat × (Nat → Option Nat)) ⊕ (Nat × List Value)
abbrev am_H : Type := List am_C
abbrev am_ai (kd n : Nat) (f : Nat → Int32) : am_C := .inl (kd, n, f)
abbrev am_al (n : Nat) (f : Nat → Int64) : am_C := .inr (.inl (n, f))
abbrev am_ar (n : Nat) (f : Nat → Option Nat) : am_C := .inr (.inr (.inl (n, f)))
abbrev am_o (ci : Nat) (fs : List Value) : am_C := .inr (.inr (.inr (ci, fs)))
def am_cv (ad : Nat → Nat) (b : Nat) : Value → Value
  | .ref k => .ref (ad k)
  | .float _ => .ref b
  | v => v
def am_e (ad : Nat → Nat) (b : Nat) (cA : ClassId) : am_C → va_E
  | .inl (_, n, f) => .inl (cA, n, .inl f)
  | .inr (.inl (n, f)) => .inl (cA, n, .inr (.inl f))
  | .inr (.inr (.inl (n, f))) => .inl (cA, n, .inr (.inr (.inr (.inr (fun j => (f j).map ad)))))
  | .inr (.inr (.inr (ci, fs))) => .inr (ci, fs.map (am_cv ad b))
def am_ty : am_C → Option FieldType
  | .inl (k, _, _) => some (if k = 1 then .boolean else .int)
  | .inr (.inl _) => some .long
  | .inr (.inr (.inl _)) => some (.object RX2)
  | .inr (.inr (.inr _)) => none
def am_ws (ad : Nat → Nat) (b : Nat) (cA : Nat → ClassId) (G : am_H) : va_W := G.mapIdx (fun k c => (ad k, am_e ad b (cA k) c))
theorem am_ws_get {ad : Nat → Nat} {b : Nat} {cA : Nat → ClassId} {G : am_H} {k : Nat} {c : am_C} (h : G[k]? = some c) : (am_ws ad b cA G)[k]? = some (ad k, am_e ad b (cA k) c) := by
  simp [am_ws, List.getElem?_mapIdx, h]
theorem am_ws_set {ad : Nat → Nat} {b : Nat} {cA : Nat → ClassId} {G : am_H} {k : Nat} {c : am_C} : (am_ws ad b cA G).set k (ad k, am_e ad b (cA k) c) = am_ws ad b cA (G.set k c) := by
  apply List.ext_getElem?
  intro j
  simp only [am_ws, List.getElem?_set, List.getElem?_mapIdx, List.length_mapIdx]
  by_cases h : k = j
  · subst h
    simp only [if_true]
    by_cases h2 : k < G.length
    · simp [h2]
    · simp [h2]
  · simp [h]
def am_nl : List (String × Nat × MethodName × String) := [(RX2, 39, yX4_range, RX4), (RX2, 60, yX4_sumOf, RX4), (RX2, 29, yX4_contains, RX4), (RX0, 57, yX4_range, RX4), (RX0, 80, yX4_contains, RX4)]
/-- the words that are no good words: nest links, and the class of an array of problems -/
def am_Nx (U : State) : Prop := (∀ q ∈ am_nl, va_Nw (.methodLinkNest q.1 q.2.1 q.2.2.1 q.2.2.2) U) ∧ va_AO RX2 U
def am_GT : List Cond := lw_tbl.filter goodWord
def am_W (i : Nat) : List Cond := Cond.code (am_y i) (am_by i) (am_ml i) (am_rt i) :: am_GT
def am_rm (D i : Nat) : Room := { frames := D, cells := am_mc i, slots := am_ms i, locals := 40 * D }
def am_Fr (i D : Nat) (p : Program) (R : Room) (s : State) (m : MethodId) (args : Array Value) (meth : Method) (c : Code) : Prop :=
  p.tables.exec = Jvm.exec ∧ c.code = am_by i ∧ c.maxLocals = am_ml i ∧ s.vm.findClass (am_mo i) = some m.cls ∧ (∀ w ∈ am_GT, w.before args s = true) ∧ meth.sig.returnType = am_rt i ∧ meth.locks = false ∧ ((am_y i).name = "<init>" → meth.name = "<init>") ∧ D ≤ R.frames ∧ 40 * D ≤ R.locals ∧ am_mc i ≤ R.cells ∧ am_ms i ≤ R.slots ∧ am_Nx s
def am_Rel (dC : Nat → ClassId) (dI : Nat → Nat → Nat) (b : Nat) (A : Nat → Prop) (ad : Nat → Nat) (cA : Nat → ClassId) (tys : List (ClassId × FieldType)) (G : am_H) (U : State) (H : Heap) : Prop :=
  va_K (dC, dI) vwCl tys U ∧ va_P (dC, dI) vwCl (am_ws ad b cA G) H ∧ va_D A (am_ws ad b cA G) ∧ ∀ (k : Nat) (c : am_C) (ty : FieldType), G[k]? = some c → am_ty c = some ty → ∃ t0 : Nat, tys[t0]? = some (cA k, ty)
def am_LOk (ad : Nat → Nat) (b : Nat) (ls : Array Slot) (nL : Nat) (L : List (Option Value)) : Prop :=
  L.length = nL ∧ lv_has ls nL [] ∧ ∀ (k : Nat) (v : Value), L[k]? = some (some v) → ls[k]? = some (.val (am_cv ad b v))
def am_Ag (i : Nat) (ad : Nat → Nat) (G : am_H) (ad1 : Nat → Nat) (G1 : am_H) : Prop := G.length ≤ G1.length ∧ (∀ k, k < G.length → ad1 k = ad k) ∧ (am_mc i = 0 → ad1 = ad)
theorem am_Ag.rf {i : Nat} {ad : Nat → Nat} {G : am_H} : am_Ag i ad G ad G := ⟨Nat.le_refl _, fun _ _ => rfl, fun _ => rfl⟩
theorem am_Ag.tr {i : Nat} {a0 a1 a2 : Nat → Nat} {G0 G1 G2 : am_H} (h : am_Ag i a0 G0 a1 G1) (h2 : am_Ag i a1 G1 a2 G2) : am_Ag i a0 G0 a2 G2 :=
  ⟨Nat.le_trans h.1 h2.1, fun k hk => (h2.2.1 k (Nat.lt_of_lt_of_le hk h.1)).trans (h.2.1 k hk), fun z => (h2.2.2 z).trans (h.2.2 z)⟩
/-- an answer that fits the method's type -/
def am_rv (ty : Option FieldType) (v : Option Value) : Prop := match ty, v with
  | none, none => True
  | some .int, some (.int _) => True
  | some .boolean, some (.int x) => x = 0 ∨ x = 1
  | some .long, some (.long _) => True
  | some (.object _), some (.ref _) => True
  | some (.object _), some .null => True
  | _, _ => False
def am_ri (ins : Instr) (ty : Option FieldType) : Prop := (ins = .ireturn ∧ (ty = some .int ∨ ty = some .boolean)) ∨ (ins = .lreturn ∧ ty = some .long) ∨ (ins = .areturn ∧ ∃ n, ty = some (.object n)) ∨ (ins = .return_ ∧ ty = none)
def am_Fin (i : Nat) (P : Option Value → am_H → Prop) (p : Program) (l : Launch) (e : Env) (R : Room) (s0 : State) (m : MethodId) (args : Array Value) (below : List Frame) (meth : Method) (cd : Code) (dC : Nat → ClassId) (dI : Nat → Nat → Nat) (b : Nat) (A : Nat → Prop) (Q : State → Prop) (ad : Nat → Nat) (G : am_H) : Prop :=
  ∀ (ins : Instr) (v : Option Value) (G1 : am_H) (ad1 : Nat → Nat) (cA1 : Nat → ClassId) (tys1 : List (ClassId × FieldType)) (H1 : Heap) (locs1 : List Loc) (ls1 : Array Slot) (pc1 c1 s1 : Nat),
    c1 ≤ am_mc i → s1 ≤ am_ms i → P v G1 → am_rv (am_rt i) v → am_ri ins (am_rt i) → decode (am_by i) pc1 = .ok (ins, 1) → am_Ag i ad G ad1 G1 → va_S A s0.heap H1 locs1 → am_Rel dC dI b A ad1 cA1 tys1 G1 s0 H1 →
    W p l e R s0 m args below meth cd H1 locs1 c1 s1 Q (F0 m pc1 ls1 (v.toList.map (am_cv ad1 b)))
theorem am_Fin.mono {i : Nat} {P : Option Value → am_H → Prop} {p : Program} {l : Launch} {e : Env} {R : Room} {s0 : State} {m : MethodId} {args : Array Value} {below : List Frame} {meth : Method} {cd : Code} {dC : Nat → ClassId} {dI : Nat → Nat → Nat} {b : Nat} {A : Nat → Prop} {Q : State → Prop} {ad ad' : Nat → Nat} {G G' : am_H}
    (h : am_Fin i P p l e R s0 m args below meth cd dC dI b A Q ad G) (g : am_Ag i ad G ad' G') : am_Fin i P p l e R s0 m args below meth cd dC dI b A Q ad' G' :=
  fun ins v G1 ad1 cA1 tys1 H1 locs1 ls1 pc1 c1 s1 a1 a2 a3 a4 a5 a6 a7 => h ins v G1 ad1 cA1 tys1 H1 locs1 ls1 pc1 c1 s1 a1 a2 a3 a4 a5 a6 (g.tr a7)
def am_WP (X : Nat × (Nat → Int32)) (D i pc : Nat) (L : List (Option Value)) (st : List Value) (G : am_H) (c s : Nat) (P : Option Value → am_H → Prop) : Prop :=
  ∀ (p : Program) (l : Launch) (e : Env) (R : Room) (s0 : State) (m : MethodId) (args : Array Value) (below : List Frame) (meth : Method) (cd : Code) (dC : Nat → ClassId) (dI : Nat → Nat → Nat) (b : Nat) (A : Nat → Prop) (ad : Nat → Nat) (cA : Nat → ClassId) (tys : List (ClassId × FieldType)) (H : Heap) (locs : List Loc) (ls : Array Slot) (Q : State → Prop),
    am_Fr i D p R s0 m args meth cd → va_X b X.1 X.2 s0 s0.heap → b < s0.heap.size → ¬ A b → (∀ q, s0.heap.size ≤ q → A q) → va_S A s0.heap H locs → am_Rel dC dI b A ad cA tys G s0 H → am_LOk ad b ls (am_ml i) L →
    am_Fin i P p l e R s0 m args below meth cd dC dI b A Q ad G →
    W p l e R s0 m args below meth cd H locs c s Q (F0 m pc ls (st.map (am_cv ad b)))
def am_pre (X : Nat × (Nat → Int32)) (dC : Nat → ClassId) (dI : Nat → Nat → Nat) (b : Nat) (A : Nat → Prop) (ad : Nat → Nat) (cA : Nat → ClassId) (tys : List (ClassId × FieldType)) (G : am_H) (as : List Value) : Array Value → State → Prop := fun v U =>
  v = (as.map (am_cv ad b)).toArray ∧ am_Rel dC dI b A ad cA tys G U U.heap ∧ va_X b X.1 X.2 U U.heap ∧ b < U.heap.size ∧ am_Nx U ∧ ∀ q, U.heap.size ≤ q → A q
def am_post (dC : Nat → ClassId) (dI : Nat → Nat → Nat) (b : Nat) (A : Nat → Prop) (ad : Nat → Nat) (G : am_H) (j : Nat) (P : Option Value → am_H → Prop) : Array Value → State → Outcome → State → Prop := fun _ st oc t =>
  (∃ (v : Option Value) (G1 : am_H) (ad1 : Nat → Nat) (cA1 : Nat → ClassId) (tys1 : List (ClassId × FieldType)), oc = .returned (v.map (am_cv ad1 b)) ∧ P v G1 ∧ am_rv (am_rt j) v ∧ am_Ag j ad G ad1 G1 ∧ am_Rel dC dI b A ad1 cA1 tys1 G1 t t.heap) ∧ va_F A st t
def am_Call (X : Nat × (Nat → Int32)) (D j : Nat) (as : List Value) (G : am_H) (P : Option Value → am_H → Prop) : Prop :=
  ∀ (l : Launch) (dC : Nat → ClassId) (dI : Nat → Nat → Nat) (b : Nat) (A : Nat → Prop) (ad : Nat → Nat) (cA : Nat → ClassId) (tys : List (ClassId × FieldType)), ¬ A b →
    Met l (am_y j) (am_W j) (am_rm D j) (am_pre X dC dI b A ad cA tys G as) (am_post dC dI b A ad G j P) (am_mc j) (am_ms j) A
/-- a call from a frame that has room for D frames -/
def am_CB (X : Nat × (Nat → Int32)) (D j : Nat) (as : List Value) (G : am_H) (P : Option Value → am_H → Prop) : Prop := ∃ D', D' + 1 ≤ D ∧ am_Call X D' j as G P
-- ===== the instructions =====
abbrev am_K : Type := Nat → List (Option Value) → List Value → am_H → Nat → Nat → Prop
def am_lg : List (Option Value) → Nat → Option Value
  | [], _ => none
  | x :: _, 0 => x
  | _ :: t, k + 1 => am_lg t k
def am_k2 : Option Value → Option Value
  | some (.long _) => none
  | some (.double _) => none
  | o => o
def am_l1 : List (Option Value) → Nat → Value → List (Option Value)
  | [], _, _ => []
  | _ :: t, 0, v => some v :: t
  | x :: t, 1, v => am_k2 x :: am_l1 t 0 v
  | x :: t, k + 2, v => x :: am_l1 t (k + 1) v
def am_l2 : List (Option Value) → Nat → Value → List (Option Value)
  | x :: _ :: t, 0, v => some v :: none :: t
  | x :: t, 1, v => am_k2 x :: am_l2 t 0 v
  | x :: t, k + 2, v => x :: am_l2 t (k + 1) v
  | t, _, _ => t.map (fun _ => none)
def am_iv (o : Option Value) (K : Int32 → Prop) : Prop := match o with | some (.int x) => K x | _ => False
def am_lv (o : Option Value) (K : Int64 → Prop) : Prop := match o with | some (.long x) => K x | _ => False
def am_av (o : Option Value) (K : Value → Prop) : Prop := match o with | some (.ref k) => K (.ref k) | some .null => K .null | some (.float z) => K (.float z) | _ => False
def am_ob (G : am_H) (k ci : Nat) : Option (List Value) := match G[k]? with
  | some (.inr (.inr (.inr (c, fs)))) => if c = ci then some fs else none
  | _ => none
def am_ia (G : am_H) (k kd : Nat) : Option (Nat × (Nat → Int32)) := match G[k]? with
  | some (.inl (z, n, f)) => if z = kd then some (n, f) else none
  | _ => none
def am_la (G : am_H) (k : Nat) : Option (Nat × (Nat → Int64)) := match G[k]? with
  | some (.inr (.inl (n, f))) => some (n, f)
  | _ => none
def am_ra (G : am_H) (k : Nat) : Option (Nat × (Nat → Option Nat)) := match G[k]? with
  | some (.inr (.inr (.inl (n, f)))) => some (n, f)
  | _ => none
def am_alen (G : am_H) (k : Nat) : Option Nat := match G[k]? with
  | some (.inl (_, n, _)) => some n
  | some (.inr (.inl (n, _))) => some n
  | some (.inr (.inr (.inl (n, _)))) => some n
  | _ => none
def am_fit (ty : FieldType) (v : Value) : Prop := match ty, v with
  | .int, .int _ => True
  | .boolean, .int x => x = 0 ∨ x = 1
  | .long, .long _ => True
  | .object _, .ref _ => True
  | .array _, .ref _ => True
  | _, _ => False
def am_gt (o : Option Value) (K : Value → Prop) : Prop := match o with | some v => K v | none => False
def am_get (o : Option (List Value)) (k : Nat) (K : Value → Prop) : Prop := match o with
  | some fs => am_gt fs[k]? K
  | none => False
def am_put (o : Option (List Value)) (K : List Value → Prop) : Prop := match o with | some fs => K fs | none => False
def am_arr {α : Type} (o : Option (Nat × α)) (i : Int32) (K : Nat → α → Nat → Prop) : Prop := match o with
  | some (n, f) => vp_in i n ∧ K n f i.toNatClampNeg
  | none => False
def am_len (o : Option Nat) (K : Int32 → Prop) : Prop := match o with | some n => K (Int32.ofNat n) | none => False
def am_pop : Nat → List Value → List Value → Option (List Value × List Value)
  | 0, st, acc => some (acc, st)
  | n + 1, v :: st, acc => am_pop n st (v :: acc)
  | _ + 1, [], _ => none
def am_cat (r : List Value) : Nat := (r.map fun v => v.category).sum
/-- no value speaks of a cell that isn't there yet -/
def am_fv (n : Nat) : Value → Prop | .ref k => k < n | _ => True
def am_fC (n : Nat) : am_C → Prop
  | .inr (.inr (.inl (_, f))) => ∀ j k, f j = some k → k < n
  | .inr (.inr (.inr (_, fs))) => ∀ v ∈ fs, am_fv n v
  | _ => True
def am_fr (L : List (Option Value)) (st : List Value) (G : am_H) : Prop := (∀ o ∈ L, ∀ v, o = some v → am_fv G.length v) ∧ (∀ v ∈ st, am_fv G.length v) ∧ ∀ c ∈ G, am_fC G.length c
def am_sw (x : Int32) (lo : Int32) (dflt : Nat) (K : Nat → Prop) : List Nat → Prop
  | [] => K dflt
  | t :: r => if x = lo then K t else am_sw x (lo + 1) dflt K r
def am_ci : Nat → Nat := fun j => if j < 15 then 0 else if j < 23 then 1 else if j < 40 then 2 else if j < 44 then 3 else if j < 92 then 4 else 5
def am_I1 (st : List Value) (K : Int32 → List Value → Prop) : Prop := match st with | .int x :: r => K x r | _ => False
def am_I2 (st : List Value) (K : Int32 → Int32 → List Value → Prop) : Prop := match st with | .int y :: .int x :: r => K x y r | _ => False
def am_J1 (st : List Value) (K : Int64 → List Value → Prop) : Prop := match st with | .long x :: r => K x r | _ => False
def am_J2 (st : List Value) (K : Int64 → Int64 → List Value → Prop) : Prop := match st with | .long y :: .long x :: r => K x y r | _ => False
def am_JI (st : List Value) (K : Int64 → Int32 → List Value → Prop) : Prop := match st with | .int y :: .long x :: r => K x y r | _ => False
def am_R1 (st : List Value) (K : Nat → List Value → Prop) : Prop := match st with | .ref x :: r => K x r | _ => False
def am_IR (st : List Value) (K : Int32 → Nat → List Value → Prop) : Prop := match st with | .int j :: .ref k :: r => K j k r | _ => False
def am_IRS (st : List Value) (K : Int32 → Nat → List Value → Prop) (S : Int32 → List Value → Prop) : Prop := match st with | .int j :: .ref k :: r => K j k r | .int j :: .float _ :: r => S j r | _ => False
def am_IIR (st : List Value) (K : Int32 → Int32 → Nat → List Value → Prop) : Prop := match st with | .int y :: .int j :: .ref k :: r => K y j k r | _ => False
def am_JIR (st : List Value) (K : Int64 → Int32 → Nat → List Value → Prop) : Prop := match st with | .long y :: .int j :: .ref k :: r => K y j k r | _ => False
def am_RIR (st : List Value) (K : Nat → Int32 → Nat → List Value → Prop) : Prop := match st with | .ref y :: .int j :: .ref k :: r => K y j k r | _ => False
def am_VR (st : List Value) (K : Value → Nat → List Value → Prop) : Prop := match st with | v :: .ref k :: r => K v k r | _ => False
def am_RS (st : List Value) (K : Nat → List Value → Prop) (S : List Value → Prop) : Prop := match st with | .ref k :: r => K k r | .float _ :: r => S r | _ => False
def am_RN (st : List Value) (K S : List Value → Prop) : Prop := match st with | .ref _ :: r => K r | .null :: r => S r | _ => False
def am_V1 (st : List Value) (K : Value → List Value → Prop) : Prop := match st with | v :: r => K v r | _ => False
def am_AR (st : List Value) (K : Value → List Value → Prop) : Prop := match st with | .ref k :: r => K (.ref k) r | .null :: r => K .null r | _ => False
def am_A (o : Option (List Value × List Value)) (K : List Value → List Value → Prop) : Prop := match o with | some (as, r) => K as r | none => False
def am_mt (r : List Value) (K : Prop) : Prop := match r with | [] => K | _ => False
def am_na (kd n : Nat) : am_C := if kd = 2 then am_al n (fun _ => 0) else am_ai kd n (fun _ => 0)
def am_step (X : Nat × (Nat → Int32)) (D i pc op nx a b : Nat) (v : Int32) (w : Int64) (L : List (Option Value)) (st : List Value) (G : am_H) (c s : Nat) (P : Option Value → am_H → Prop) (K : am_K) : Prop :=
  match op with
  | 1 => am_iv (am_lg L a) (fun x => K nx L (.int x :: st) G c s)
  | 2 => am_av (am_lg L a) (fun x => K nx L (x :: st) G c s)
  | 3 => am_lv (am_lg L a) (fun x => K nx L (.long x :: st) G c s)
  | 4 => K nx L (.int v :: st) G c s
  | 5 => K nx L (.long w :: st) G c s
  | 6 => am_I1 st (fun x r => K nx (am_l1 L a (.int x)) r G c s)
  | 7 => am_AR st (fun x r => K nx (am_l1 L a x) r G c s)
  | 8 => am_J1 st (fun x r => K nx (am_l2 L a (.long x)) r G c s)
  | 9 => am_iv (am_lg L a) (fun x => K nx (am_l1 L a (.int (x + v))) st G c s)
  | 10 => am_I2 st (fun x y r => K nx L (.int (x + y) :: r) G c s)
  | 11 => am_I2 st (fun x y r => K nx L (.int (x - y) :: r) G c s)
  | 12 => am_I2 st (fun x y r => K nx L (.int (x * y) :: r) G c s)
  | 13 => am_I2 st (fun x y r => ¬ y = 0 ∧ K nx L (.int (x / y) :: r) G c s)
  | 14 => am_I2 st (fun x y r => ¬ y = 0 ∧ K nx L (.int (x - x / y * y) :: r) G c s)
  | 15 => am_I1 st (fun x r => K nx L (.int (-x) :: r) G c s)
  | 16 => am_I2 st (fun x y r => K nx L (.int (x <<< (y &&& 31)) :: r) G c s)
  | 17 => am_I2 st (fun x y r => K nx L (.int (x >>> (y &&& 31)) :: r) G c s)
  | 18 => am_I2 st (fun x y r => K nx L (.int ((x.toUInt32 >>> (y.toUInt32 &&& Int32.toUInt32 31)).toInt32) :: r) G c s)
  | 19 => am_I2 st (fun x y r => K nx L (.int (x &&& y) :: r) G c s)
  | 20 => am_I2 st (fun x y r => K nx L (.int (x ||| y) :: r) G c s)
  | 21 => am_I2 st (fun x y r => K nx L (.int (x ^^^ y) :: r) G c s)
  | 22 => am_J2 st (fun x y r => K nx L (.long (x + y) :: r) G c s)
  | 23 => am_J2 st (fun x y r => K nx L (.long (x - y) :: r) G c s)
  | 24 => am_J2 st (fun x y r => K nx L (.long (x &&& y) :: r) G c s)
  | 25 => am_J2 st (fun x y r => K nx L (.long (x ||| y) :: r) G c s)
  | 26 => am_J2 st (fun x y r => K nx L (.long (x ^^^ y) :: r) G c s)
  | 27 => am_JI st (fun x y r => K nx L (.long (x <<< (y.toInt64 &&& 63)) :: r) G c s)
  | 28 => am_JI st (fun x y r => K nx L (.long (x >>> (y.toInt64 &&& 63)) :: r) G c s)
  | 29 => am_JI st (fun x y r => K nx L (.long ((x.toUInt64 >>> (y.toInt64.toUInt64 &&& Int64.toUInt64 63)).toInt64) :: r) G c s)
  | 30 => am_J2 st (fun x y r => K nx L (.int (lg_cmp x y) :: r) G c s)
  | 31 => am_J1 st (fun x r => K nx L (.int x.toInt32 :: r) G c s)
  | 32 => am_I1 st (fun x r => K nx L (.long x.toInt64 :: r) G c s)
  | 33 => am_I2 st (fun x y r => if x = y then K a L r G c s else K nx L r G c s)
  | 34 => am_I2 st (fun x y r => if x = y then K nx L r G c s else K a L r G c s)
  | 35 => am_I2 st (fun x y r => if x < y then K a L r G c s else K nx L r G c s)
  | 36 => am_I2 st (fun x y r => if x < y then K nx L r G c s else K a L r G c s)
  | 37 => am_I2 st (fun x y r => if y < x then K a L r G c s else K nx L r G c s)
  | 38 => am_I2 st (fun x y r => if y < x then K nx L r G c s else K a L r G c s)
  | 39 => am_I1 st (fun x r => if x = 0 then K a L r G c s else K nx L r G c s)
  | 40 => am_I1 st (fun x r => if x = 0 then K nx L r G c s else K a L r G c s)
  | 41 => am_I1 st (fun x r => if x < 0 then K a L r G c s else K nx L r G c s)
  | 42 => am_I1 st (fun x r => if x < 0 then K nx L r G c s else K a L r G c s)
  | 43 => am_I1 st (fun x r => if 0 < x then K a L r G c s else K nx L r G c s)
  | 44 => am_I1 st (fun x r => if 0 < x then K nx L r G c s else K a L r G c s)
  | 45 => K a L st G c s
  | 46 => am_RN st (fun r => K a L r G c s) (fun r => K nx L r G c s)
  | 48 => am_R1 st (fun k r => am_get (am_ob G k a) b (fun v => K nx L (v :: r) G c s))
  | 49 => am_VR st (fun v k r => am_fit (am_tT a b) v ∧ am_put (am_ob G k a) (fun fs => b < fs.length ∧ K nx L r (G.set k (am_o a (fs.set b v))) c s))
  | 50 => am_VR st (fun v k r => am_fit (am_tT a b) v ∧ am_put (am_ob G k a) (fun fs => b < fs.length ∧ K nx L r (G.set k (am_o a (fs.set b v))) c s))
  | 51 => am_IRS st (fun j k r => am_arr (am_ia G k 0) j (fun _ f j => K nx L (.int (f j) :: r) G c s)) (fun j r => vp_in j X.1 ∧ K nx L (.int (X.2 j.toNatClampNeg) :: r) G c s)
  | 52 => am_IIR st (fun y j k r => am_arr (am_ia G k 0) j (fun n f j => K nx L r (G.set k (am_ai 0 n (upd f j y))) c s))
  | 53 => am_IR st (fun j k r => am_arr (am_la G k) j (fun _ f j => K nx L (.long (f j) :: r) G c s))
  | 54 => am_JIR st (fun y j k r => am_arr (am_la G k) j (fun n f j => K nx L r (G.set k (am_al n (vp_updL f j y))) c s))
  | 55 => am_IR st (fun j k r => am_arr (am_ia G k 1) j (fun _ f j => K nx L (.int (f j) :: r) G c s))
  | 56 => am_IIR st (fun y j k r => am_arr (am_ia G k 1) j (fun n f j => K nx L r (G.set k (am_ai 1 n (upd f j (vp_nar .boolean y)))) c s))
  | 57 => am_IR st (fun j k r => am_arr (am_ra G k) j (fun _ f j => K nx L (va_rf (f j) :: r) G c s))
  | 58 => am_RIR st (fun z j k r => (am_ob G z 2).isSome ∧ am_arr (am_ra G k) j (fun n f j => K nx L r (G.set k (am_ar n (va_up f j (some z)))) c s))
  | 59 => am_RS st (fun k r => am_len (am_alen G k) (fun n => K nx L (.int n :: r) G c s)) (fun r => K nx L (.int (Int32.ofNat X.1) :: r) G c s)
  | 60 => c + 1 ≤ am_mc i ∧ s + am_N a ≤ am_ms i ∧ am_fr L st G ∧ K nx L (.ref G.length :: st) (G ++ [am_o a (am_df a)]) (c + 1) (s + am_N a)
  | 61 => am_I1 st (fun n r => ¬ n < 0 ∧ n.toNatClampNeg ≤ 60000000 ∧ c + 1 ≤ am_mc i ∧ s + n.toNatClampNeg ≤ am_ms i ∧ am_fr L r G ∧ K nx L (.ref G.length :: r) (G ++ [am_na a n.toNatClampNeg]) (c + 1) (s + n.toNatClampNeg))
  | 62 => am_I1 st (fun n r => ¬ n < 0 ∧ n.toNatClampNeg ≤ 60000000 ∧ c + 1 ≤ am_mc i ∧ s + n.toNatClampNeg ≤ am_ms i ∧ am_fr L r G ∧ K nx L (.ref G.length :: r) (G ++ [am_ar n.toNatClampNeg (fun _ => none)]) (c + 1) (s + n.toNatClampNeg))
  | 63 => am_V1 st (fun v r => v.category = 1 ∧ K nx L (v :: v :: r) G c s)
  | 64 => K nx L (.null :: st) G c s
  | 65 => am_A (am_pop b st []) (fun as r => am_R1 r (fun k r => (am_ob G k (am_ci a)).isSome ∧ am_cat r ≤ 8 ∧ am_CB X D a (.ref k :: as) G (fun v G1 => K nx L (v.toList ++ r) G1 c s)))
  | 66 => am_A (am_pop b st []) (fun as r => am_cat r ≤ 8 ∧ am_CB X D a as G (fun v G1 => K nx L (v.toList ++ r) G1 c s))
  | 67 => am_A (am_pop b st []) (fun as r => am_cat r ≤ 8 ∧ am_CB X D a as G (fun v G1 => K nx L (v.toList ++ r) G1 c s))
  | 68 => am_A (am_pop b st []) (fun as r => am_R1 r (fun k r => am_cat r ≤ 8 ∧ c + am_mc a ≤ am_mc i ∧ s + am_ms a ≤ am_ms i ∧ am_fr L r G ∧ am_CB X D a (.ref k :: as) G (fun v G1 => K nx L (v.toList ++ r) G1 (c + am_mc a) (s + am_ms a))))
  | 69 => am_R1 st (fun _ r => 1 ≤ D ∧ am_cat r ≤ 8 ∧ K nx L r G c s)
  | 70 => am_I1 st (fun x r => am_mt r ((a = 1 → x = 0 ∨ x = 1) ∧ c ≤ am_mc i ∧ s ≤ am_ms i ∧ P (some (.int x)) G))
  | 71 => am_J1 st (fun x r => am_mt r (c ≤ am_mc i ∧ s ≤ am_ms i ∧ P (some (.long x)) G))
  | 72 => am_AR st (fun x r => am_mt r (c ≤ am_mc i ∧ s ≤ am_ms i ∧ P (some x) G))
  | 73 => am_mt st (c ≤ am_mc i ∧ s ≤ am_ms i ∧ P none G)
  | 74 => am_I1 st (fun x r => am_sw x v a (fun t => K t L r G c s) (am_swt i pc))
  | 75 => am_I2 st (fun x y r => 1 ≤ D ∧ am_cat r ≤ 8 ∧ K nx L (.int (if x < y then y else x) :: r) G c s)
  | 76 => am_I2 st (fun x y r => 1 ≤ D ∧ am_cat r ≤ 8 ∧ K nx L (.int (if y < x then y else x) :: r) G c s)
  | _ => False
end
section
theorem am_iv_s {o : Option Value} {K : Int32 → Prop} (h : am_iv o K) : ∃ x, o = some (.int x) ∧ K x := by
  unfold am_iv at h; split at h
  · exact ⟨_, rfl, h⟩
  · exact h.elim
theorem am_lv_s {o : Option Value} {K : Int64 → Prop} (h : am_lv o K) : ∃ x, o = some (.long x) ∧ K x := by
  unfold am_lv at h; split at h
  · exact ⟨_, rfl, h⟩
  · exact h.elim
theorem am_av_s {o : Option Value} {K : Value → Prop} (h : am_av o K) : ∃ x, o = some x ∧ K x ∧ ((∃ k, x = .ref k) ∨ x = .null ∨ ∃ z, x = .float z) := by
  unfold am_av at h; split at h
  · exact ⟨_, rfl, h, Or.inl ⟨_, rfl⟩⟩
  · exact ⟨_, rfl, h, Or.inr (Or.inl rfl)⟩
  · exact ⟨_, rfl, h, Or.inr (Or.inr ⟨_, rfl⟩)⟩
  · exact h.elim
theorem am_I1_s {st : List Value} {K : Int32 → List Value → Prop} (h : am_I1 st K) : ∃ x r, st = .int x :: r ∧ K x r := by
  unfold am_I1 at h; split at h
  · exact ⟨_, _, rfl, h⟩
  · exact h.elim
theorem am_I2_s {st : List Value} {K : Int32 → Int32 → List Value → Prop} (h : am_I2 st K) : ∃ x y r, st = .int y :: .int x :: r ∧ K x y r := by
  unfold am_I2 at h; split at h
  · exact ⟨_, _, _, rfl, h⟩
  · exact h.elim
theorem am_J1_s {st : List Value} {K : Int64 → List Value → Prop} (h : am_J1 st K) : ∃ x r, st = .long x :: r ∧ K x r := by
  unfold am_J1 at h; split at h
  · exact ⟨_, _, rfl, h⟩
  · exact h.elim
theorem am_J2_s {st : List Value} {K : Int64 → Int64 → List Value → Prop} (h : am_J2 st K) : ∃ x y r, st = .long y :: .long x :: r ∧ K x y r := by
  unfold am_J2 at h; split at h
  · exact ⟨_, _, _, rfl, h⟩
  · exact h.elim
theorem am_JI_s {st : List Value} {K : Int64 → Int32 → List Value → Prop} (h : am_JI st K) : ∃ x y r, st = .int y :: .long x :: r ∧ K x y r := by
  unfold am_JI at h; split at h
  · exact ⟨_, _, _, rfl, h⟩
  · exact h.elim
theorem am_R1_s {st : List Value} {K : Nat → List Value → Prop} (h : am_R1 st K) : ∃ x r, st = .ref x :: r ∧ K x r := by
  unfold am_R1 at h; split at h
  · exact ⟨_, _, rfl, h⟩
  · exact h.elim
theorem am_IR_s {st : List Value} {K : Int32 → Nat → List Value → Prop} (h : am_IR st K) : ∃ j k r, st = .int j :: .ref k :: r ∧ K j k r := by
  unfold am_IR at h; split at h
  · exact ⟨_, _, _, rfl, h⟩
  · exact h.elim
theorem am_IIR_s {st : List Value} {K : Int32 → Int32 → Nat → List Value → Prop} (h : am_IIR st K) : ∃ y j k r, st = .int y :: .int j :: .ref k :: r ∧ K y j k r := by
  unfold am_IIR at h; split at h
  · exact ⟨_, _, _, _, rfl, h⟩
  · exact h.elim
theorem am_JIR_s {st : List Value} {K : Int64 → Int32 → Nat → List Value → Prop} (h : am_JIR st K) : ∃ y j k r, st = .long y :: .int j :: .ref k :: r ∧ K y j k r := by
  unfold am_JIR at h; split at h
  · exact ⟨_, _, _, _, rfl, h⟩
  · exact h.elim
theorem am_RIR_s {st : List Value} {K : Nat → Int32 → Nat → List Value → Prop} (h : am_RIR st K) : ∃ y j k r, st = .ref y :: .int j :: .ref k :: r ∧ K y j k r := by
  unfold am_RIR at h; split at h
  · exact ⟨_, _, _, _, rfl, h⟩
  · exact h.elim
theorem am_VR_s {st : List Value} {K : Value → Nat → List Value → Prop} (h : am_VR st K) : ∃ v k r, st = v :: .ref k :: r ∧ K v k r := by
  unfold am_VR at h; split at h
  · exact ⟨_, _, _, rfl, h⟩
  · exact h.elim
theorem am_V1_s {st : List Value} {K : Value → List Value → Prop} (h : am_V1 st K) : ∃ v r, st = v :: r ∧ K v r := by
  unfold am_V1 at h; split at h
  · exact ⟨_, _, rfl, h⟩
  · exact h.elim
theorem am_IRS_s {st : List Value} {K : Int32 → Nat → List Value → Prop} {S : Int32 → List Value → Prop} (h : am_IRS st K S) : (∃ j k r, st = .int j :: .ref k :: r ∧ K j k r) ∨ ∃ j z r, st = .int j :: .float z :: r ∧ S j r := by
  unfold am_IRS at h; split at h
  · exact Or.inl ⟨_, _, _, rfl, h⟩
  · exact Or.inr ⟨_, _, _, rfl, h⟩
  · exact h.elim
theorem am_RS_s {st : List Value} {K : Nat → List Value → Prop} {S : List Value → Prop} (h : am_RS st K S) : (∃ k r, st = .ref k :: r ∧ K k r) ∨ ∃ z r, st = .float z :: r ∧ S r := by
  unfold am_RS at h; split at h
  · exact Or.inl ⟨_, _, rfl, h⟩
  · exact Or.inr ⟨_, _, rfl, h⟩
  · exact h.elim
theorem am_RN_s {st : List Value} {K S : List Value → Prop} (h : am_RN st K S) : (∃ k r, st = .ref k :: r ∧ K r) ∨ ∃ r, st = .null :: r ∧ S r := by
  unfold am_RN at h; split at h
  · exact Or.inl ⟨_, _, rfl, h⟩
  · exact Or.inr ⟨_, rfl, h⟩
  · exact h.elim
theorem am_AR_s {st : List Value} {K : Value → List Value → Prop} (h : am_AR st K) : ∃ x r, st = x :: r ∧ K x r ∧ ((∃ k, x = .ref k) ∨ x = .null) := by
  unfold am_AR at h; split at h
  · exact ⟨_, _, rfl, h, Or.inl ⟨_, rfl⟩⟩
  · exact ⟨_, _, rfl, h, Or.inr rfl⟩
  · exact h.elim
theorem am_A_s {o : Option (List Value × List Value)} {K : List Value → List Value → Prop} (h : am_A o K) : ∃ as r, o = some (as, r) ∧ K as r := by
  unfold am_A at h; split at h
  · exact ⟨_, _, rfl, h⟩
  · exact h.elim
theorem am_mt_s {r : List Value} {K : Prop} (h : am_mt r K) : r = [] ∧ K := by
  unfold am_mt at h; split at h
  · exact ⟨rfl, h⟩
  · exact h.elim
theorem am_get_s {o : Option (List Value)} {k : Nat} {K : Value → Prop} (h : am_get o k K) : ∃ fs v, o = some fs ∧ fs[k]? = some v ∧ K v := by
  unfold am_get at h; split at h
  · unfold am_gt at h; split at h
    · next h2 => exact ⟨_, _, rfl, h2, h⟩
    · exact h.elim
  · exact h.elim
theorem am_put_s {o : Option (List Value)} {K : List Value → Prop} (h : am_put o K) : ∃ fs, o = some fs ∧ K fs := by
  unfold am_put at h; split at h
  · exact ⟨_, rfl, h⟩
  · exact h.elim
theorem am_arr_s {α : Type} {o : Option (Nat × α)} {i : Int32} {K : Nat → α → Nat → Prop} (h : am_arr o i K) : ∃ n f, o = some (n, f) ∧ vp_in i n ∧ K n f i.toNatClampNeg := by
  unfold am_arr at h; split at h
  · exact ⟨_, _, rfl, h⟩
  · exact h.elim
theorem am_len_s {o : Option Nat} {K : Int32 → Prop} (h : am_len o K) : ∃ n, o = some n ∧ K (Int32.ofNat n) := by
  unfold am_len at h; split at h
  · exact ⟨_, rfl, h⟩
  · exact h.elim
theorem am_ob_s {G : am_H} {k ci : Nat} {fs : List Value} (h : am_ob G k ci = some fs) : G[k]? = some (am_o ci fs) := by
  unfold am_ob at h
  split at h
  · next c fs' heq =>
    split at h
    · next e => subst e; cases h; exact heq
    · cases h
  · cases h
theorem am_ia_s {G : am_H} {k kd n : Nat} {f : Nat → Int32} (h : am_ia G k kd = some (n, f)) : G[k]? = some (am_ai kd n f) := by
  unfold am_ia at h
  split at h
  · next heq =>
    split at h
    · next e => subst e; cases h; exact heq
    · cases h
  · cases h
theorem am_la_s {G : am_H} {k n : Nat} {f : Nat → Int64} (h : am_la G k = some (n, f)) : G[k]? = some (am_al n f) := by
  unfold am_la at h
  split at h
  · next heq => cases h; exact heq
  · cases h
theorem am_ra_s {G : am_H} {k n : Nat} {f : Nat → Option Nat} (h : am_ra G k = some (n, f)) : G[k]? = some (am_ar n f) := by
  unfold am_ra at h
  split at h
  · next heq => cases h; exact heq
  · cases h
theorem am_lg_s : ∀ {L : List (Option Value)} {k : Nat} {v : Value}, am_lg L k = some v → L[k]? = some (some v)
  | [], _, _, h => by cases h
  | x :: t, 0, v, h => by simpa [am_lg] using h
  | x :: t, k + 1, v, h => by simpa using am_lg_s (L := t) h
theorem am_cat1 {ad : Nat → Nat} {b : Nat} (v : Value) : (am_cv ad b v).category = v.category := by cases v <;> rfl
theorem am_catm {ad : Nat → Nat} {b : Nat} (r : List Value) : ((r.map (am_cv ad b)).map fun v => v.category).sum = am_cat r := by
  unfold am_cat
  rw [List.map_map]
  congr 1
  exact List.map_congr_left (fun v _ => am_cat1 v)
theorem am_LOk.at {ad : Nat → Nat} {b nL : Nat} {ls : Array Slot} {L : List (Option Value)} (h : am_LOk ad b ls nL L) {k : Nat} {v : Value} (hk : am_lg L k = some v) : ls[k]? = some (.val (am_cv ad b v)) := h.2.2 k v (am_lg_s hk)
/-- the listed locals as the kit's list -/
def am_ll (ad : Nat → Nat) (b : Nat) (L : List (Option Value)) : List (Nat × Value) := (L.zipIdx).filterMap (fun q => q.1.map (fun v => (q.2, am_cv ad b v)))
theorem am_ll_mem {ad : Nat → Nat} {b : Nat} {L : List (Option Value)} {k : Nat} {v : Value} (h : L[k]? = some (some v)) : (k, am_cv ad b v) ∈ am_ll ad b L := by
  refine List.mem_filterMap.mpr ⟨(some v, k), ?_, rfl⟩
  exact List.mem_zipIdx_iff_getElem?.mpr h
theorem am_LOk.list {ad : Nat → Nat} {b nL : Nat} {ls : Array Slot} {L : List (Option Value)} (h : am_LOk ad b ls nL L) : lv_has ls nL (am_ll ad b L) := by
  refine ⟨h.2.1.1, h.2.1.2.1, fun q hq => ?_⟩
  obtain ⟨⟨o, k⟩, h1, h2⟩ := List.mem_filterMap.mp hq
  have h3 := List.mem_zipIdx_iff_getElem?.mp h1
  cases o with
  | none => cases h2
  | some v =>
    simp only [Option.map_some, Option.some.injEq] at h2
    subst h2
    exact h.2.2 k v h3
theorem am_l1_len : ∀ (L : List (Option Value)) (k : Nat) (v : Value), (am_l1 L k v).length = L.length
  | [], _, _ => rfl
  | _ :: t, 0, v => rfl
  | x :: t, 1, v => by simp [am_l1, am_l1_len t 0 v]
  | x :: t, k + 2, v => by simp [am_l1, am_l1_len t (k + 1) v]
theorem am_l2_len : ∀ (L : List (Option Value)) (k : Nat) (v : Value), (am_l2 L k v).length = L.length
  | [], 0, _ => rfl
  | [], 1, _ => rfl
  | [], k + 2, _ => rfl
  | [x], 0, v => rfl
  | _ :: _ :: t, 0, v => rfl
  | x :: t, 1, v => by simp [am_l2, am_l2_len t 0 v]
  | x :: t, k + 2, v => by simp [am_l2, am_l2_len t (k + 1) v]
theorem am_k2_s {o : Option Value} {w : Value} (h : am_k2 o = some w) : o = some w ∧ ¬ w.category = 2 := by
  unfold am_k2 at h
  split at h
  · cases h
  · cases h
  · next n1 n2 =>
    subst h
    refine ⟨rfl, fun q => ?_⟩
    cases w with
    | long x => exact n1 x rfl
    | double x => exact n2 x rfl
    | _ => cases q
theorem am_l1_s : ∀ {L : List (Option Value)} {i k : Nat} {v w : Value}, (am_l1 L i v)[k]? = some (some w) → (k = i ∧ w = v) ∨ (¬ k = i ∧ L[k]? = some (some w) ∧ ¬ (k + 1 = i ∧ w.category = 2))
  | [], _, _, _, _, h => by simp [am_l1] at h
  | _ :: t, 0, 0, v, w, h => by simp [am_l1] at h; exact Or.inl ⟨rfl, h.symm⟩
  | _ :: t, 0, k + 1, v, w, h => by simp [am_l1] at h; exact Or.inr ⟨by omega, by simpa using h, by omega⟩
  | x :: t, 1, 0, v, w, h => by
    simp only [am_l1, List.getElem?_cons_zero, Option.some.injEq] at h
    obtain ⟨h1, h2⟩ := am_k2_s h
    exact Or.inr ⟨by omega, by simp [h1], fun q => h2 q.2⟩
  | x :: t, 1, k + 1, v, w, h => by
    simp only [am_l1, List.getElem?_cons_succ] at h
    rcases am_l1_s h with ⟨rfl, h2⟩ | ⟨h1, h2, h3⟩
    · exact Or.inl ⟨rfl, h2⟩
    · exact Or.inr ⟨by omega, by simpa using h2, fun q => h3 ⟨by omega, q.2⟩⟩
  | x :: t, i + 2, 0, v, w, h => by
    simp only [am_l1, List.getElem?_cons_zero, Option.some.injEq] at h
    exact Or.inr ⟨by omega, by simp [h], by omega⟩
  | x :: t, i + 2, k + 1, v, w, h => by
    simp only [am_l1, List.getElem?_cons_succ] at h
    rcases am_l1_s h with ⟨h1, h2⟩ | ⟨h1, h2, h3⟩
    · exact Or.inl ⟨by omega, h2⟩
    · exact Or.inr ⟨by omega, by simpa using h2, fun q => h3 ⟨by omega, q.2⟩⟩
theorem am_l2_s : ∀ {L : List (Option Value)} {i k : Nat} {v w : Value}, (am_l2 L i v)[k]? = some (some w) → (k = i ∧ w = v) ∨ (¬ k = i ∧ ¬ k = i + 1 ∧ L[k]? = some (some w) ∧ ¬ (k + 1 = i ∧ w.category = 2))
  | [], 0, _, _, _, h => by simp [am_l2] at h
  | [], 1, _, _, _, h => by simp [am_l2] at h
  | [], i + 2, _, _, _, h => by simp [am_l2] at h
  | [x], 0, 0, _, _, h => by simp [am_l2] at h
  | [x], 0, k + 1, _, _, h => by simp [am_l2] at h
  | _ :: _ :: t, 0, 0, v, w, h => by simp [am_l2] at h; exact Or.inl ⟨rfl, h.symm⟩
  | _ :: _ :: t, 0, 1, v, w, h => by simp [am_l2] at h
  | _ :: _ :: t, 0, k + 2, v, w, h => by simp [am_l2] at h; exact Or.inr ⟨by omega, by omega, by simpa using h, by omega⟩
  | x :: t, 1, 0, v, w, h => by
    simp only [am_l2, List.getElem?_cons_zero, Option.some.injEq] at h
    obtain ⟨h1, h2⟩ := am_k2_s h
    exact Or.inr ⟨by omega, by omega, by simp [h1], fun q => h2 q.2⟩
  | x :: t, 1, k + 1, v, w, h => by
    simp only [am_l2, List.getElem?_cons_succ] at h
    rcases am_l2_s h with ⟨rfl, h2⟩ | ⟨h1, h2, h3, h4⟩
    · exact Or.inl ⟨rfl, h2⟩
    · exact Or.inr ⟨by omega, by omega, by simpa using h3, fun q => h4 ⟨by omega, q.2⟩⟩
  | x :: t, i + 2, 0, v, w, h => by
    simp only [am_l2, List.getElem?_cons_zero, Option.some.injEq] at h
    exact Or.inr ⟨by omega, by omega, by simp [h], by omega⟩
  | x :: t, i + 2, k + 1, v, w, h => by
    simp only [am_l2, List.getElem?_cons_succ] at h
    rcases am_l2_s h with ⟨h1, h2⟩ | ⟨h1, h2, h3, h4⟩
    · exact Or.inl ⟨by omega, h2⟩
    · exact Or.inr ⟨by omega, by omega, by simpa using h3, fun q => h4 ⟨by omega, q.2⟩⟩
theorem am_LOk.st1 {ad : Nat → Nat} {b nL : Nat} {ls ls' : Array Slot} {L : List (Option Value)} (h : am_LOk ad b ls nL L) {i : Nat} {v : Value} (hh : lv_has ls' nL ((i, am_cv ad b v) :: (am_ll ad b L).filter (fun q => !(q.1 == i) && !(q.1 + 1 == i && q.2.category == 2)))) : am_LOk ad b ls' nL (am_l1 L i v) := by
  refine ⟨(am_l1_len L i v).trans h.1, ⟨hh.1, hh.2.1, fun q hq => by cases hq⟩, fun k w hk => ?_⟩
  rcases am_l1_s hk with ⟨rfl, rfl⟩ | ⟨h1, h2, h3⟩
  · exact hh.2.2 (k, am_cv ad b w) List.mem_cons_self
  · refine hh.2.2 (k, am_cv ad b w) (List.mem_cons_of_mem _ (List.mem_filter.mpr ⟨am_ll_mem h2, ?_⟩))
    simp only [Bool.and_eq_true, Bool.not_eq_true', beq_eq_false_iff_ne, ne_eq, Bool.and_eq_false_iff, am_cat1]
    exact ⟨h1, by by_cases z : k + 1 = i; exact Or.inr (fun q => h3 ⟨z, q⟩); exact Or.inl z⟩
theorem am_LOk.st2 {ad : Nat → Nat} {b nL : Nat} {ls ls' : Array Slot} {L : List (Option Value)} (h : am_LOk ad b ls nL L) {i : Nat} {v : Value} (hh : lv_has ls' nL ((i, am_cv ad b v) :: (am_ll ad b L).filter (fun q => !(q.1 == i) && (!(q.1 == i + 1) && !(q.1 + 1 == i && q.2.category == 2))))) : am_LOk ad b ls' nL (am_l2 L i v) := by
  refine ⟨(am_l2_len L i v).trans h.1, ⟨hh.1, hh.2.1, fun q hq => by cases hq⟩, fun k w hk => ?_⟩
  rcases am_l2_s hk with ⟨rfl, rfl⟩ | ⟨h1, h2, h3, h4⟩
  · exact hh.2.2 (k, am_cv ad b w) List.mem_cons_self
  · refine hh.2.2 (k, am_cv ad b w) (List.mem_cons_of_mem _ (List.mem_filter.mpr ⟨am_ll_mem h3, ?_⟩))
    simp only [Bool.and_eq_true, Bool.not_eq_true', beq_eq_false_iff_ne, ne_eq, Bool.and_eq_false_iff, am_cat1]
    exact ⟨h1, h2, by by_cases z : k + 1 = i; exact Or.inr (fun q => h4 ⟨z, q⟩); exact Or.inl z⟩

section NUL
variable {p : Program} {l : Launch} {e : Env} {R : Room} {s : State} {m : MethodId} {args : Array Value} {below : List Frame} {meth : Method} {c : Code} {H : Heap} {locs : List Loc} {cells slots : Nat} {Q : State → Prop} {cc : ByteArray} {pc : Nat} {ls : Array Slot} {rest : List Value}
/-- a null put into a local -/
theorem am_nul_n (hexec : p.tables.exec = Jvm.exec) (hb : c.code = cc) {k : Fin 4} {i nL : Nat} {lv lv' : List (Nat × Value)} (hdg : decode cc pc = .ok (.astore_n k, 1)) (hi : (k : Nat) = i) (h : lv_has ls nL lv) (hn : i < nL) (hl : (i, Value.null) :: lv.filter (fun q => !(q.1 == i) && !(q.1 + 1 == i && q.2.category == 2)) = lv')
    (kk : ∀ ls' : Array Slot, lv_has ls' nL lv' → W p l e R s m args below meth c H locs cells slots Q (F0 m (pc + 1) ls' rest)) : W p l e R s m args below meth c H locs cells slots Q (F0 m pc ls (.null :: rest)) := by
  subst hi
  obtain ⟨ls', e', h'⟩ := lv_store1 (v := .null) h hn rfl
  intro T hT X
  obtain ⟨t, a, b⟩ := kk ls' (hl ▸ h') T hT X
  refine ⟨t, ?_, b⟩
  jvm_step X.here [X.here.top, ↓top_set X.here.top, hexec, hb, hdg, e', Value.isRef]
  exact a
theorem am_nul (hexec : p.tables.exec = Jvm.exec) (hb : c.code = cc) {i nL : Nat} {lv lv' : List (Nat × Value)} (hdg : decode cc pc = .ok (.astore i, 2)) (h : lv_has ls nL lv) (hn : i < nL) (hl : (i, Value.null) :: lv.filter (fun q => !(q.1 == i) && !(q.1 + 1 == i && q.2.category == 2)) = lv')
    (kk : ∀ ls' : Array Slot, lv_has ls' nL lv' → W p l e R s m args below meth c H locs cells slots Q (F0 m (pc + 2) ls' rest)) : W p l e R s m args below meth c H locs cells slots Q (F0 m pc ls (.null :: rest)) := by
  obtain ⟨ls', e', h'⟩ := lv_store1 (v := .null) h hn rfl
  intro T hT X
  obtain ⟨t, a, b⟩ := kk ls' (hl ▸ h') T hT X
  refine ⟨t, ?_, b⟩
  jvm_step X.here [X.here.top, ↓top_set X.here.top, hexec, hb, hdg, e', Value.isRef]
  exact a
end NUL
section SND
variable {X : Nat × (Nat → Int32)} {D i pc nx aa bb xx : Nat} {v : Int32} {w : Int64} {L : List (Option Value)} {st : List Value} {G : am_H} {c s : Nat} {P : Option Value → am_H → Prop}
abbrev am_go (X : Nat × (Nat → Int32)) (D i : Nat) (P : Option Value → am_H → Prop) : am_K := fun nx L st G c s => am_WP X D i nx L st G c s P
theorem am_z1 (hd : (∃ k : Fin 4, decode (am_by i) pc = .ok (.iload_n k, 1) ∧ (k : Nat) = aa ∧ nx = pc + 1) ∨ (decode (am_by i) pc = .ok (.iload aa, 2) ∧ nx = pc + 2)) (h : am_step X D i pc 1 nx aa bb v w L st G c s P (am_go X D i P)) : am_WP X D i pc L st G c s P := by
  intro p l e R s0 m args below meth cd dC dI b A ad cA tys H locs ls Q hF hX hbl hbA hA hS hR hL hfin
  obtain ⟨hx, hb, hml, hown, hts, hrt, hlk, hnm, hDf, hDl, hmc, hms, hN⟩ := id hF
  obtain ⟨x, h1, h⟩ := am_iv_s h
  have hl := hL.at h1
  rcases hd with ⟨k, hd, hk, hn⟩ | ⟨hd, hn⟩ <;> subst hn
  · exact lv_iload_n hx hb hd hk hl (h _ _ _ _ _ _ _ _ _ _ _ _ _ _ _ _ _ _ _ _ _ hF hX hbl hbA hA hS hR hL hfin)
  · exact lv_iload hx hb hd hl (h _ _ _ _ _ _ _ _ _ _ _ _ _ _ _ _ _ _ _ _ _ hF hX hbl hbA hA hS hR hL hfin)
theorem am_z3 (hd : (∃ k : Fin 4, decode (am_by i) pc = .ok (.lload_n k, 1) ∧ (k : Nat) = aa ∧ nx = pc + 1) ∨ (decode (am_by i) pc = .ok (.lload aa, 2) ∧ nx = pc + 2)) (h : am_step X D i pc 3 nx aa bb v w L st G c s P (am_go X D i P)) : am_WP X D i pc L st G c s P := by
  intro p l e R s0 m args below meth cd dC dI b A ad cA tys H locs ls Q hF hX hbl hbA hA hS hR hL hfin
  obtain ⟨hx, hb, hml, hown, hts, hrt, hlk, hnm, hDf, hDl, hmc, hms, hN⟩ := id hF
  obtain ⟨x, h1, h⟩ := am_lv_s h
  have hl := hL.at h1
  rcases hd with ⟨k, hd, hk, hn⟩ | ⟨hd, hn⟩ <;> subst hn
  · exact lv_lload_n hx hb hd hk hl (h _ _ _ _ _ _ _ _ _ _ _ _ _ _ _ _ _ _ _ _ _ hF hX hbl hbA hA hS hR hL hfin)
  · exact lv_lload hx hb hd hl (h _ _ _ _ _ _ _ _ _ _ _ _ _ _ _ _ _ _ _ _ _ hF hX hbl hbA hA hS hR hL hfin)
theorem am_z2 (hd : (∃ k : Fin 4, decode (am_by i) pc = .ok (.aload_n k, 1) ∧ (k : Nat) = aa ∧ nx = pc + 1) ∨ (decode (am_by i) pc = .ok (.aload aa, 2) ∧ nx = pc + 2)) (h : am_step X D i pc 2 nx aa bb v w L st G c s P (am_go X D i P)) : am_WP X D i pc L st G c s P := by
  intro p l e R s0 m args below meth cd dC dI b A ad cA tys H locs ls Q hF hX hbl hbA hA hS hR hL hfin
  obtain ⟨hx, hb, hml, hown, hts, hrt, hlk, hnm, hDf, hDl, hmc, hms, hN⟩ := id hF
  have h : am_av (am_lg L aa) (fun x => am_go X D i P nx L (x :: st) G c s) := h
  obtain ⟨x, h1, h, h2⟩ := am_av_s h
  have hl := hL.at h1
  rcases hd with ⟨k, hd, hk, hn⟩ | ⟨hd, hn⟩ <;> subst hn
  · rcases h2 with ⟨z, rfl⟩ | rfl | ⟨z, rfl⟩
    · exact lv_aload_n hx hb hd hk hl (h _ _ _ _ _ _ _ _ _ _ _ _ _ _ _ _ _ _ _ _ _ hF hX hbl hbA hA hS hR hL hfin)
    · exact lv_aload_nN hx hb hd hk hl (h _ _ _ _ _ _ _ _ _ _ _ _ _ _ _ _ _ _ _ _ _ hF hX hbl hbA hA hS hR hL hfin)
    · exact lv_aload_n hx hb hd hk hl (h _ _ _ _ _ _ _ _ _ _ _ _ _ _ _ _ _ _ _ _ _ hF hX hbl hbA hA hS hR hL hfin)
  · rcases h2 with ⟨z, rfl⟩ | rfl | ⟨z, rfl⟩
    · exact lv_aload hx hb hd hl (h _ _ _ _ _ _ _ _ _ _ _ _ _ _ _ _ _ _ _ _ _ hF hX hbl hbA hA hS hR hL hfin)
    · exact lv_aloadN hx hb hd hl (h _ _ _ _ _ _ _ _ _ _ _ _ _ _ _ _ _ _ _ _ _ hF hX hbl hbA hA hS hR hL hfin)
    · exact lv_aload hx hb hd hl (h _ _ _ _ _ _ _ _ _ _ _ _ _ _ _ _ _ _ _ _ _ hF hX hbl hbA hA hS hR hL hfin)
theorem am_z4 (hd : (∃ n : Int, decode (am_by i) pc = .ok (.iconst n, 1) ∧ Int32.ofInt n = v ∧ nx = pc + 1) ∨ (∃ n : Int, decode (am_by i) pc = .ok (.bipush n, 2) ∧ (Int8.ofInt n).toInt32 = v ∧ nx = pc + 2) ∨ (∃ n : Int, decode (am_by i) pc = .ok (.sipush n, 3) ∧ (Int16.ofInt n).toInt32 = v ∧ nx = pc + 3) ∨ (decode (am_by i) pc = .ok (.ldc xx, 2) ∧ Cond.constant (am_mo i) xx v ∈ am_GT ∧ nx = pc + 2) ∨ (decode (am_by i) pc = .ok (.ldc_w xx, 3) ∧ Cond.constant (am_mo i) xx v ∈ am_GT ∧ nx = pc + 3)) (h : am_step X D i pc 4 nx aa bb v w L st G c s P (am_go X D i P)) : am_WP X D i pc L st G c s P := by
  intro p l e R s0 m args below meth cd dC dI b A ad cA tys H locs ls Q hF hX hbl hbA hA hS hR hL hfin
  obtain ⟨hx, hb, hml, hown, hts, hrt, hlk, hnm, hDf, hDl, hmc, hms, hN⟩ := id hF
  rcases hd with ⟨n, hd, hv, hn⟩ | ⟨n, hd, hv, hn⟩ | ⟨n, hd, hv, hn⟩ | ⟨hd, hw, hn⟩ | ⟨hd, hw, hn⟩ <;> subst hn
  · exact lv_iconst hx hb hd hv (h _ _ _ _ _ _ _ _ _ _ _ _ _ _ _ _ _ _ _ _ _ hF hX hbl hbA hA hS hR hL hfin)
  · exact lv_bipush hx hb hd hv (h _ _ _ _ _ _ _ _ _ _ _ _ _ _ _ _ _ _ _ _ _ hF hX hbl hbA hA hS hR hL hfin)
  · exact lv_sipush hx hb hd hv (h _ _ _ _ _ _ _ _ _ _ _ _ _ _ _ _ _ _ _ _ _ hF hX hbl hbA hA hS hR hL hfin)
  · exact lv_ldc hx hb hown (hts _ hw) hd (h _ _ _ _ _ _ _ _ _ _ _ _ _ _ _ _ _ _ _ _ _ hF hX hbl hbA hA hS hR hL hfin)
  · exact lv_ldcw hx hb hown (hts _ hw) hd (h _ _ _ _ _ _ _ _ _ _ _ _ _ _ _ _ _ _ _ _ _ hF hX hbl hbA hA hS hR hL hfin)
theorem am_z5 (hd : (∃ n : Fin 2, decode (am_by i) pc = .ok (.lconst n, 1) ∧ Int64.ofNat (n : Nat) = w ∧ nx = pc + 1) ∨ (decode (am_by i) pc = .ok (.ldc2_w xx, 3) ∧ Cond.constantLong (am_mo i) xx w ∈ am_GT ∧ nx = pc + 3)) (h : am_step X D i pc 5 nx aa bb v w L st G c s P (am_go X D i P)) : am_WP X D i pc L st G c s P := by
  intro p l e R s0 m args below meth cd dC dI b A ad cA tys H locs ls Q hF hX hbl hbA hA hS hR hL hfin
  obtain ⟨hx, hb, hml, hown, hts, hrt, hlk, hnm, hDf, hDl, hmc, hms, hN⟩ := id hF
  rcases hd with ⟨n, hd, hv, hn⟩ | ⟨hd, hw, hn⟩ <;> subst hn
  · exact lv_lconst hx hb hd hv (h _ _ _ _ _ _ _ _ _ _ _ _ _ _ _ _ _ _ _ _ _ hF hX hbl hbA hA hS hR hL hfin)
  · exact lv_ldc2 hx hb hown (hts _ hw) hd (h _ _ _ _ _ _ _ _ _ _ _ _ _ _ _ _ _ _ _ _ _ hF hX hbl hbA hA hS hR hL hfin)
theorem am_z6 (ha : aa < am_ml i) (hd : (∃ k : Fin 4, decode (am_by i) pc = .ok (.istore_n k, 1) ∧ (k : Nat) = aa ∧ nx = pc + 1) ∨ (decode (am_by i) pc = .ok (.istore aa, 2) ∧ nx = pc + 2)) (h : am_step X D i pc 6 nx aa bb v w L st G c s P (am_go X D i P)) : am_WP X D i pc L st G c s P := by
  intro p l e R s0 m args below meth cd dC dI b A ad cA tys H locs ls Q hF hX hbl hbA hA hS hR hL hfin
  obtain ⟨hx, hb, hml, hown, hts, hrt, hlk, hnm, hDf, hDl, hmc, hms, hN⟩ := id hF
  obtain ⟨x, r, rfl, h⟩ := am_I1_s h
  rcases hd with ⟨k, hd, hk, hn⟩ | ⟨hd, hn⟩ <;> subst hn
  · exact lv_istore_n hx hb hd hk hL.list ha rfl (fun ls' hl' => (h _ _ _ _ _ _ _ _ _ _ _ _ _ _ _ _ _ _ _ _ _ hF hX hbl hbA hA hS hR (hL.st1 hl') hfin))
  · exact lv_istore hx hb hd hL.list ha rfl (fun ls' hl' => (h _ _ _ _ _ _ _ _ _ _ _ _ _ _ _ _ _ _ _ _ _ hF hX hbl hbA hA hS hR (hL.st1 hl') hfin))
theorem am_z7 (ha : aa < am_ml i) (hd : (∃ k : Fin 4, decode (am_by i) pc = .ok (.astore_n k, 1) ∧ (k : Nat) = aa ∧ nx = pc + 1) ∨ (decode (am_by i) pc = .ok (.astore aa, 2) ∧ nx = pc + 2)) (h : am_step X D i pc 7 nx aa bb v w L st G c s P (am_go X D i P)) : am_WP X D i pc L st G c s P := by
  intro p l e R s0 m args below meth cd dC dI b A ad cA tys H locs ls Q hF hX hbl hbA hA hS hR hL hfin
  obtain ⟨hx, hb, hml, hown, hts, hrt, hlk, hnm, hDf, hDl, hmc, hms, hN⟩ := id hF
  have h0 : am_AR st (fun x r => am_go X D i P nx (am_l1 L aa x) r G c s) := h
  obtain ⟨x, r, rfl, h, hx2⟩ := am_AR_s h0
  rcases hx2 with ⟨y, rfl⟩ | rfl
  · rcases hd with ⟨k, hd, hk, hn⟩ | ⟨hd, hn⟩ <;> subst hn
    · exact lv_astore_n hx hb hd hk hL.list ha rfl (fun ls' hl' => (h _ _ _ _ _ _ _ _ _ _ _ _ _ _ _ _ _ _ _ _ _ hF hX hbl hbA hA hS hR (hL.st1 hl') hfin))
    · exact lv_astore hx hb hd hL.list ha rfl (fun ls' hl' => (h _ _ _ _ _ _ _ _ _ _ _ _ _ _ _ _ _ _ _ _ _ hF hX hbl hbA hA hS hR (hL.st1 hl') hfin))
  · rcases hd with ⟨k, hd, hk, hn⟩ | ⟨hd, hn⟩ <;> subst hn
    · exact am_nul_n hx hb hd hk hL.list ha rfl (fun ls' hl' => (h _ _ _ _ _ _ _ _ _ _ _ _ _ _ _ _ _ _ _ _ _ hF hX hbl hbA hA hS hR (hL.st1 hl') hfin))
    · exact am_nul hx hb hd hL.list ha rfl (fun ls' hl' => (h _ _ _ _ _ _ _ _ _ _ _ _ _ _ _ _ _ _ _ _ _ hF hX hbl hbA hA hS hR (hL.st1 hl') hfin))
theorem am_z8 (ha : aa + 1 < am_ml i) (hd : (∃ k : Fin 4, decode (am_by i) pc = .ok (.lstore_n k, 1) ∧ (k : Nat) = aa ∧ nx = pc + 1) ∨ (decode (am_by i) pc = .ok (.lstore aa, 2) ∧ nx = pc + 2)) (h : am_step X D i pc 8 nx aa bb v w L st G c s P (am_go X D i P)) : am_WP X D i pc L st G c s P := by
  intro p l e R s0 m args below meth cd dC dI b A ad cA tys H locs ls Q hF hX hbl hbA hA hS hR hL hfin
  obtain ⟨hx, hb, hml, hown, hts, hrt, hlk, hnm, hDf, hDl, hmc, hms, hN⟩ := id hF
  obtain ⟨x, r, rfl, h⟩ := am_J1_s h
  rcases hd with ⟨k, hd, hk, hn⟩ | ⟨hd, hn⟩ <;> subst hn
  · exact lv_lstore_n hx hb hd hk hL.list ha rfl (fun ls' hl' => (h _ _ _ _ _ _ _ _ _ _ _ _ _ _ _ _ _ _ _ _ _ hF hX hbl hbA hA hS hR (hL.st2 hl') hfin))
  · exact lv_lstore hx hb hd hL.list ha rfl (fun ls' hl' => (h _ _ _ _ _ _ _ _ _ _ _ _ _ _ _ _ _ _ _ _ _ hF hX hbl hbA hA hS hR (hL.st2 hl') hfin))
theorem am_z9 (ha : aa < am_ml i) (hd : ∃ n : Int, decode (am_by i) pc = .ok (.iinc aa n, 3) ∧ Int32.ofInt n = v) (hn : nx = pc + 3) (h : am_step X D i pc 9 nx aa bb v w L st G c s P (am_go X D i P)) : am_WP X D i pc L st G c s P := by
  intro p l e R s0 m args below meth cd dC dI b A ad cA tys H locs ls Q hF hX hbl hbA hA hS hR hL hfin
  obtain ⟨hx, hb, hml, hown, hts, hrt, hlk, hnm, hDf, hDl, hmc, hms, hN⟩ := id hF
  obtain ⟨x, h1, h⟩ := am_iv_s h
  obtain ⟨n, hd, hv⟩ := hd
  subst hn
  obtain ⟨k, hk⟩ := List.getElem?_of_mem (am_ll_mem (ad := ad) (b := b) (am_lg_s h1))
  exact lv_iinc hx hb hd hL.list hk (by rw [hv]) ha rfl (fun ls' hl' => (h _ _ _ _ _ _ _ _ _ _ _ _ _ _ _ _ _ _ _ _ _ hF hX hbl hbA hA hS hR (hL.st1 hl') hfin))
theorem am_z10 (hd : decode (am_by i) pc = .ok (.iadd, 1)) (hn : nx = pc + 1) (h : am_step X D i pc 10 nx aa bb v w L st G c s P (am_go X D i P)) : am_WP X D i pc L st G c s P := by
  intro p l e R s0 m args below meth cd dC dI b A ad cA tys H locs ls Q hF hX hbl hbA hA hS hR hL hfin
  obtain ⟨hx, hb, hml, hown, hts, hrt, hlk, hnm, hDf, hDl, hmc, hms, hN⟩ := id hF
  subst hn
  obtain ⟨x, y, r, rfl, h⟩ := am_I2_s h
  exact lv_iadd hx hb hd (h _ _ _ _ _ _ _ _ _ _ _ _ _ _ _ _ _ _ _ _ _ hF hX hbl hbA hA hS hR hL hfin)
theorem am_z11 (hd : decode (am_by i) pc = .ok (.isub, 1)) (hn : nx = pc + 1) (h : am_step X D i pc 11 nx aa bb v w L st G c s P (am_go X D i P)) : am_WP X D i pc L st G c s P := by
  intro p l e R s0 m args below meth cd dC dI b A ad cA tys H locs ls Q hF hX hbl hbA hA hS hR hL hfin
  obtain ⟨hx, hb, hml, hown, hts, hrt, hlk, hnm, hDf, hDl, hmc, hms, hN⟩ := id hF
  subst hn
  obtain ⟨x, y, r, rfl, h⟩ := am_I2_s h
  exact lv_isub hx hb hd (h _ _ _ _ _ _ _ _ _ _ _ _ _ _ _ _ _ _ _ _ _ hF hX hbl hbA hA hS hR hL hfin)
theorem am_z12 (hd : decode (am_by i) pc = .ok (.imul, 1)) (hn : nx = pc + 1) (h : am_step X D i pc 12 nx aa bb v w L st G c s P (am_go X D i P)) : am_WP X D i pc L st G c s P := by
  intro p l e R s0 m args below meth cd dC dI b A ad cA tys H locs ls Q hF hX hbl hbA hA hS hR hL hfin
  obtain ⟨hx, hb, hml, hown, hts, hrt, hlk, hnm, hDf, hDl, hmc, hms, hN⟩ := id hF
  subst hn
  obtain ⟨x, y, r, rfl, h⟩ := am_I2_s h
  exact lv_imul hx hb hd (h _ _ _ _ _ _ _ _ _ _ _ _ _ _ _ _ _ _ _ _ _ hF hX hbl hbA hA hS hR hL hfin)
theorem am_z16 (hd : decode (am_by i) pc = .ok (.ishl, 1)) (hn : nx = pc + 1) (h : am_step X D i pc 16 nx aa bb v w L st G c s P (am_go X D i P)) : am_WP X D i pc L st G c s P := by
  intro p l e R s0 m args below meth cd dC dI b A ad cA tys H locs ls Q hF hX hbl hbA hA hS hR hL hfin
  obtain ⟨hx, hb, hml, hown, hts, hrt, hlk, hnm, hDf, hDl, hmc, hms, hN⟩ := id hF
  subst hn
  obtain ⟨x, y, r, rfl, h⟩ := am_I2_s h
  exact lv_ishl hx hb hd (h _ _ _ _ _ _ _ _ _ _ _ _ _ _ _ _ _ _ _ _ _ hF hX hbl hbA hA hS hR hL hfin)
theorem am_z17 (hd : decode (am_by i) pc = .ok (.ishr, 1)) (hn : nx = pc + 1) (h : am_step X D i pc 17 nx aa bb v w L st G c s P (am_go X D i P)) : am_WP X D i pc L st G c s P := by
  intro p l e R s0 m args below meth cd dC dI b A ad cA tys H locs ls Q hF hX hbl hbA hA hS hR hL hfin
  obtain ⟨hx, hb, hml, hown, hts, hrt, hlk, hnm, hDf, hDl, hmc, hms, hN⟩ := id hF
  subst hn
  obtain ⟨x, y, r, rfl, h⟩ := am_I2_s h
  exact lv_ishr hx hb hd (h _ _ _ _ _ _ _ _ _ _ _ _ _ _ _ _ _ _ _ _ _ hF hX hbl hbA hA hS hR hL hfin)
theorem am_z19 (hd : decode (am_by i) pc = .ok (.iand, 1)) (hn : nx = pc + 1) (h : am_step X D i pc 19 nx aa bb v w L st G c s P (am_go X D i P)) : am_WP X D i pc L st G c s P := by
  intro p l e R s0 m args below meth cd dC dI b A ad cA tys H locs ls Q hF hX hbl hbA hA hS hR hL hfin
  obtain ⟨hx, hb, hml, hown, hts, hrt, hlk, hnm, hDf, hDl, hmc, hms, hN⟩ := id hF
  subst hn
  obtain ⟨x, y, r, rfl, h⟩ := am_I2_s h
  exact lv_iand hx hb hd (h _ _ _ _ _ _ _ _ _ _ _ _ _ _ _ _ _ _ _ _ _ hF hX hbl hbA hA hS hR hL hfin)
theorem am_z20 (hd : decode (am_by i) pc = .ok (.ior, 1)) (hn : nx = pc + 1) (h : am_step X D i pc 20 nx aa bb v w L st G c s P (am_go X D i P)) : am_WP X D i pc L st G c s P := by
  intro p l e R s0 m args below meth cd dC dI b A ad cA tys H locs ls Q hF hX hbl hbA hA hS hR hL hfin
  obtain ⟨hx, hb, hml, hown, hts, hrt, hlk, hnm, hDf, hDl, hmc, hms, hN⟩ := id hF
  subst hn
  obtain ⟨x, y, r, rfl, h⟩ := am_I2_s h
  exact lv_ior hx hb hd (h _ _ _ _ _ _ _ _ _ _ _ _ _ _ _ _ _ _ _ _ _ hF hX hbl hbA hA hS hR hL hfin)
theorem am_z21 (hd : decode (am_by i) pc = .ok (.ixor, 1)) (hn : nx = pc + 1) (h : am_step X D i pc 21 nx aa bb v w L st G c s P (am_go X D i P)) : am_WP X D i pc L st G c s P := by
  intro p l e R s0 m args below meth cd dC dI b A ad cA tys H locs ls Q hF hX hbl hbA hA hS hR hL hfin
  obtain ⟨hx, hb, hml, hown, hts, hrt, hlk, hnm, hDf, hDl, hmc, hms, hN⟩ := id hF
  subst hn
  obtain ⟨x, y, r, rfl, h⟩ := am_I2_s h
  exact lv_ixor hx hb hd (h _ _ _ _ _ _ _ _ _ _ _ _ _ _ _ _ _ _ _ _ _ hF hX hbl hbA hA hS hR hL hfin)
theorem am_z18 (hd : decode (am_by i) pc = .ok (.iushr, 1)) (hn : nx = pc + 1) (h : am_step X D i pc 18 nx aa bb v w L st G c s P (am_go X D i P)) : am_WP X D i pc L st G c s P := by
  intro p l e R s0 m args below meth cd dC dI b A ad cA tys H locs ls Q hF hX hbl hbA hA hS hR hL hfin
  obtain ⟨hx, hb, hml, hown, hts, hrt, hlk, hnm, hDf, hDl, hmc, hms, hN⟩ := id hF
  subst hn
  obtain ⟨x, y, r, rfl, h⟩ := am_I2_s h
  exact lv_iushr hx hb hd rfl (h _ _ _ _ _ _ _ _ _ _ _ _ _ _ _ _ _ _ _ _ _ hF hX hbl hbA hA hS hR hL hfin)
theorem am_z13 (hd : decode (am_by i) pc = .ok (.idiv, 1)) (hn : nx = pc + 1) (h : am_step X D i pc 13 nx aa bb v w L st G c s P (am_go X D i P)) : am_WP X D i pc L st G c s P := by
  intro p l e R s0 m args below meth cd dC dI b A ad cA tys H locs ls Q hF hX hbl hbA hA hS hR hL hfin
  obtain ⟨hx, hb, hml, hown, hts, hrt, hlk, hnm, hDf, hDl, hmc, hms, hN⟩ := id hF
  subst hn
  obtain ⟨x, y, r, rfl, hne, h⟩ := am_I2_s h
  exact lv_idiv hx hb hd hne (h _ _ _ _ _ _ _ _ _ _ _ _ _ _ _ _ _ _ _ _ _ hF hX hbl hbA hA hS hR hL hfin)
theorem am_z14 (hd : decode (am_by i) pc = .ok (.irem, 1)) (hn : nx = pc + 1) (h : am_step X D i pc 14 nx aa bb v w L st G c s P (am_go X D i P)) : am_WP X D i pc L st G c s P := by
  intro p l e R s0 m args below meth cd dC dI b A ad cA tys H locs ls Q hF hX hbl hbA hA hS hR hL hfin
  obtain ⟨hx, hb, hml, hown, hts, hrt, hlk, hnm, hDf, hDl, hmc, hms, hN⟩ := id hF
  subst hn
  obtain ⟨x, y, r, rfl, hne, h⟩ := am_I2_s h
  exact lv_irem hx hb hd hne (h _ _ _ _ _ _ _ _ _ _ _ _ _ _ _ _ _ _ _ _ _ hF hX hbl hbA hA hS hR hL hfin)
theorem am_z15 (hd : decode (am_by i) pc = .ok (.ineg, 1)) (hn : nx = pc + 1) (h : am_step X D i pc 15 nx aa bb v w L st G c s P (am_go X D i P)) : am_WP X D i pc L st G c s P := by
  intro p l e R s0 m args below meth cd dC dI b A ad cA tys H locs ls Q hF hX hbl hbA hA hS hR hL hfin
  obtain ⟨hx, hb, hml, hown, hts, hrt, hlk, hnm, hDf, hDl, hmc, hms, hN⟩ := id hF
  subst hn
  obtain ⟨x, r, rfl, h⟩ := am_I1_s h
  exact lv_ineg hx hb hd (h _ _ _ _ _ _ _ _ _ _ _ _ _ _ _ _ _ _ _ _ _ hF hX hbl hbA hA hS hR hL hfin)
theorem am_z22 (hd : decode (am_by i) pc = .ok (.ladd, 1)) (hn : nx = pc + 1) (h : am_step X D i pc 22 nx aa bb v w L st G c s P (am_go X D i P)) : am_WP X D i pc L st G c s P := by
  intro p l e R s0 m args below meth cd dC dI b A ad cA tys H locs ls Q hF hX hbl hbA hA hS hR hL hfin
  obtain ⟨hx, hb, hml, hown, hts, hrt, hlk, hnm, hDf, hDl, hmc, hms, hN⟩ := id hF
  subst hn
  obtain ⟨x, y, r, rfl, h⟩ := am_J2_s h
  exact lv_ladd hx hb hd (h _ _ _ _ _ _ _ _ _ _ _ _ _ _ _ _ _ _ _ _ _ hF hX hbl hbA hA hS hR hL hfin)
theorem am_z23 (hd : decode (am_by i) pc = .ok (.lsub, 1)) (hn : nx = pc + 1) (h : am_step X D i pc 23 nx aa bb v w L st G c s P (am_go X D i P)) : am_WP X D i pc L st G c s P := by
  intro p l e R s0 m args below meth cd dC dI b A ad cA tys H locs ls Q hF hX hbl hbA hA hS hR hL hfin
  obtain ⟨hx, hb, hml, hown, hts, hrt, hlk, hnm, hDf, hDl, hmc, hms, hN⟩ := id hF
  subst hn
  obtain ⟨x, y, r, rfl, h⟩ := am_J2_s h
  exact lv_lsub hx hb hd (h _ _ _ _ _ _ _ _ _ _ _ _ _ _ _ _ _ _ _ _ _ hF hX hbl hbA hA hS hR hL hfin)
theorem am_z24 (hd : decode (am_by i) pc = .ok (.land, 1)) (hn : nx = pc + 1) (h : am_step X D i pc 24 nx aa bb v w L st G c s P (am_go X D i P)) : am_WP X D i pc L st G c s P := by
  intro p l e R s0 m args below meth cd dC dI b A ad cA tys H locs ls Q hF hX hbl hbA hA hS hR hL hfin
  obtain ⟨hx, hb, hml, hown, hts, hrt, hlk, hnm, hDf, hDl, hmc, hms, hN⟩ := id hF
  subst hn
  obtain ⟨x, y, r, rfl, h⟩ := am_J2_s h
  exact lv_land hx hb hd (h _ _ _ _ _ _ _ _ _ _ _ _ _ _ _ _ _ _ _ _ _ hF hX hbl hbA hA hS hR hL hfin)
theorem am_z25 (hd : decode (am_by i) pc = .ok (.lor, 1)) (hn : nx = pc + 1) (h : am_step X D i pc 25 nx aa bb v w L st G c s P (am_go X D i P)) : am_WP X D i pc L st G c s P := by
  intro p l e R s0 m args below meth cd dC dI b A ad cA tys H locs ls Q hF hX hbl hbA hA hS hR hL hfin
  obtain ⟨hx, hb, hml, hown, hts, hrt, hlk, hnm, hDf, hDl, hmc, hms, hN⟩ := id hF
  subst hn
  obtain ⟨x, y, r, rfl, h⟩ := am_J2_s h
  exact lv_lor hx hb hd (h _ _ _ _ _ _ _ _ _ _ _ _ _ _ _ _ _ _ _ _ _ hF hX hbl hbA hA hS hR hL hfin)
theorem am_z26 (hd : decode (am_by i) pc = .ok (.lxor, 1)) (hn : nx = pc + 1) (h : am_step X D i pc 26 nx aa bb v w L st G c s P (am_go X D i P)) : am_WP X D i pc L st G c s P := by
  intro p l e R s0 m args below meth cd dC dI b A ad cA tys H locs ls Q hF hX hbl hbA hA hS hR hL hfin
  obtain ⟨hx, hb, hml, hown, hts, hrt, hlk, hnm, hDf, hDl, hmc, hms, hN⟩ := id hF
  subst hn
  obtain ⟨x, y, r, rfl, h⟩ := am_J2_s h
  exact lv_lxor hx hb hd (h _ _ _ _ _ _ _ _ _ _ _ _ _ _ _ _ _ _ _ _ _ hF hX hbl hbA hA hS hR hL hfin)
theorem am_z30 (hd : decode (am_by i) pc = .ok (.lcmp, 1)) (hn : nx = pc + 1) (h : am_step X D i pc 30 nx aa bb v w L st G c s P (am_go X D i P)) : am_WP X D i pc L st G c s P := by
  intro p l e R s0 m args below meth cd dC dI b A ad cA tys H locs ls Q hF hX hbl hbA hA hS hR hL hfin
  obtain ⟨hx, hb, hml, hown, hts, hrt, hlk, hnm, hDf, hDl, hmc, hms, hN⟩ := id hF
  subst hn
  obtain ⟨x, y, r, rfl, h⟩ := am_J2_s h
  exact W.lcmp hx hb hd (h _ _ _ _ _ _ _ _ _ _ _ _ _ _ _ _ _ _ _ _ _ hF hX hbl hbA hA hS hR hL hfin)
theorem am_z27 (hd : decode (am_by i) pc = .ok (.lshl, 1)) (hn : nx = pc + 1) (h : am_step X D i pc 27 nx aa bb v w L st G c s P (am_go X D i P)) : am_WP X D i pc L st G c s P := by
  intro p l e R s0 m args below meth cd dC dI b A ad cA tys H locs ls Q hF hX hbl hbA hA hS hR hL hfin
  obtain ⟨hx, hb, hml, hown, hts, hrt, hlk, hnm, hDf, hDl, hmc, hms, hN⟩ := id hF
  subst hn
  obtain ⟨x, y, r, rfl, h⟩ := am_JI_s h
  exact lv_lshl hx hb hd rfl (h _ _ _ _ _ _ _ _ _ _ _ _ _ _ _ _ _ _ _ _ _ hF hX hbl hbA hA hS hR hL hfin)
theorem am_z28 (hd : decode (am_by i) pc = .ok (.lshr, 1)) (hn : nx = pc + 1) (h : am_step X D i pc 28 nx aa bb v w L st G c s P (am_go X D i P)) : am_WP X D i pc L st G c s P := by
  intro p l e R s0 m args below meth cd dC dI b A ad cA tys H locs ls Q hF hX hbl hbA hA hS hR hL hfin
  obtain ⟨hx, hb, hml, hown, hts, hrt, hlk, hnm, hDf, hDl, hmc, hms, hN⟩ := id hF
  subst hn
  obtain ⟨x, y, r, rfl, h⟩ := am_JI_s h
  exact lv_lshr hx hb hd rfl (h _ _ _ _ _ _ _ _ _ _ _ _ _ _ _ _ _ _ _ _ _ hF hX hbl hbA hA hS hR hL hfin)
theorem am_z29 (hd : decode (am_by i) pc = .ok (.lushr, 1)) (hn : nx = pc + 1) (h : am_step X D i pc 29 nx aa bb v w L st G c s P (am_go X D i P)) : am_WP X D i pc L st G c s P := by
  intro p l e R s0 m args below meth cd dC dI b A ad cA tys H locs ls Q hF hX hbl hbA hA hS hR hL hfin
  obtain ⟨hx, hb, hml, hown, hts, hrt, hlk, hnm, hDf, hDl, hmc, hms, hN⟩ := id hF
  subst hn
  obtain ⟨x, y, r, rfl, h⟩ := am_JI_s h
  exact lv_lushr hx hb hd rfl (h _ _ _ _ _ _ _ _ _ _ _ _ _ _ _ _ _ _ _ _ _ hF hX hbl hbA hA hS hR hL hfin)
theorem am_z31 (hd : decode (am_by i) pc = .ok (.l2i, 1)) (hn : nx = pc + 1) (h : am_step X D i pc 31 nx aa bb v w L st G c s P (am_go X D i P)) : am_WP X D i pc L st G c s P := by
  intro p l e R s0 m args below meth cd dC dI b A ad cA tys H locs ls Q hF hX hbl hbA hA hS hR hL hfin
  obtain ⟨hx, hb, hml, hown, hts, hrt, hlk, hnm, hDf, hDl, hmc, hms, hN⟩ := id hF
  subst hn
  obtain ⟨x, r, rfl, h⟩ := am_J1_s h
  exact lv_l2i hx hb hd rfl (h _ _ _ _ _ _ _ _ _ _ _ _ _ _ _ _ _ _ _ _ _ hF hX hbl hbA hA hS hR hL hfin)
theorem am_z32 (hd : decode (am_by i) pc = .ok (.i2l, 1)) (hn : nx = pc + 1) (h : am_step X D i pc 32 nx aa bb v w L st G c s P (am_go X D i P)) : am_WP X D i pc L st G c s P := by
  intro p l e R s0 m args below meth cd dC dI b A ad cA tys H locs ls Q hF hX hbl hbA hA hS hR hL hfin
  obtain ⟨hx, hb, hml, hown, hts, hrt, hlk, hnm, hDf, hDl, hmc, hms, hN⟩ := id hF
  subst hn
  obtain ⟨x, r, rfl, h⟩ := am_I1_s h
  exact lv_i2l hx hb hd rfl (h _ _ _ _ _ _ _ _ _ _ _ _ _ _ _ _ _ _ _ _ _ hF hX hbl hbA hA hS hR hL hfin)
theorem am_z33 (hd : ∃ off : Int, decode (am_by i) pc = .ok (.if_icmp .eq off, 3) ∧ (pc : Int) + off = (aa : Int)) (hn : nx = pc + 3) (h : am_step X D i pc 33 nx aa bb v w L st G c s P (am_go X D i P)) : am_WP X D i pc L st G c s P := by
  intro p l e R s0 m args below meth cd dC dI b A ad cA tys H locs ls Q hF hX hbl hbA hA hS hR hL hfin
  obtain ⟨hx, hb, hml, hown, hts, hrt, hlk, hnm, hDf, hDl, hmc, hms, hN⟩ := id hF
  subst hn
  obtain ⟨x, y, r, rfl, hh⟩ := am_I2_s h
  obtain ⟨off, hd, ht⟩ := hd
  refine lv_icmp_eq hx hb hd ht (fun z => ?_) (fun z => ?_)
  · rw [if_pos z] at hh
    exact (hh _ _ _ _ _ _ _ _ _ _ _ _ _ _ _ _ _ _ _ _ _ hF hX hbl hbA hA hS hR hL hfin)
  · rw [if_neg z] at hh
    exact (hh _ _ _ _ _ _ _ _ _ _ _ _ _ _ _ _ _ _ _ _ _ hF hX hbl hbA hA hS hR hL hfin)
theorem am_z39 (hd : ∃ off : Int, decode (am_by i) pc = .ok (.ifCond .eq off, 3) ∧ (pc : Int) + off = (aa : Int)) (hn : nx = pc + 3) (h : am_step X D i pc 39 nx aa bb v w L st G c s P (am_go X D i P)) : am_WP X D i pc L st G c s P := by
  intro p l e R s0 m args below meth cd dC dI b A ad cA tys H locs ls Q hF hX hbl hbA hA hS hR hL hfin
  obtain ⟨hx, hb, hml, hown, hts, hrt, hlk, hnm, hDf, hDl, hmc, hms, hN⟩ := id hF
  subst hn
  obtain ⟨x, r, rfl, hh⟩ := am_I1_s h
  obtain ⟨off, hd, ht⟩ := hd
  refine lv_if_eq hx hb hd ht (fun z => ?_) (fun z => ?_)
  · rw [if_pos z] at hh
    exact (hh _ _ _ _ _ _ _ _ _ _ _ _ _ _ _ _ _ _ _ _ _ hF hX hbl hbA hA hS hR hL hfin)
  · rw [if_neg z] at hh
    exact (hh _ _ _ _ _ _ _ _ _ _ _ _ _ _ _ _ _ _ _ _ _ hF hX hbl hbA hA hS hR hL hfin)
theorem am_z34 (hd : ∃ off : Int, decode (am_by i) pc = .ok (.if_icmp .ne off, 3) ∧ (pc : Int) + off = (aa : Int)) (hn : nx = pc + 3) (h : am_step X D i pc 34 nx aa bb v w L st G c s P (am_go X D i P)) : am_WP X D i pc L st G c s P := by
  intro p l e R s0 m args below meth cd dC dI b A ad cA tys H locs ls Q hF hX hbl hbA hA hS hR hL hfin
  obtain ⟨hx, hb, hml, hown, hts, hrt, hlk, hnm, hDf, hDl, hmc, hms, hN⟩ := id hF
  subst hn
  obtain ⟨x, y, r, rfl, hh⟩ := am_I2_s h
  obtain ⟨off, hd, ht⟩ := hd
  refine lv_icmp_ne hx hb hd ht (fun z => ?_) (fun z => ?_)
  · rw [if_neg z] at hh
    exact (hh _ _ _ _ _ _ _ _ _ _ _ _ _ _ _ _ _ _ _ _ _ hF hX hbl hbA hA hS hR hL hfin)
  · rw [if_pos z] at hh
    exact (hh _ _ _ _ _ _ _ _ _ _ _ _ _ _ _ _ _ _ _ _ _ hF hX hbl hbA hA hS hR hL hfin)
theorem am_z40 (hd : ∃ off : Int, decode (am_by i) pc = .ok (.ifCond .ne off, 3) ∧ (pc : Int) + off = (aa : Int)) (hn : nx = pc + 3) (h : am_step X D i pc 40 nx aa bb v w L st G c s P (am_go X D i P)) : am_WP X D i pc L st G c s P := by
  intro p l e R s0 m args below meth cd dC dI b A ad cA tys H locs ls Q hF hX hbl hbA hA hS hR hL hfin
  obtain ⟨hx, hb, hml, hown, hts, hrt, hlk, hnm, hDf, hDl, hmc, hms, hN⟩ := id hF
  subst hn
  obtain ⟨x, r, rfl, hh⟩ := am_I1_s h
  obtain ⟨off, hd, ht⟩ := hd
  refine lv_if_ne hx hb hd ht (fun z => ?_) (fun z => ?_)
  · rw [if_neg z] at hh
    exact (hh _ _ _ _ _ _ _ _ _ _ _ _ _ _ _ _ _ _ _ _ _ hF hX hbl hbA hA hS hR hL hfin)
  · rw [if_pos z] at hh
    exact (hh _ _ _ _ _ _ _ _ _ _ _ _ _ _ _ _ _ _ _ _ _ hF hX hbl hbA hA hS hR hL hfin)
theorem am_z35 (hd : ∃ off : Int, decode (am_by i) pc = .ok (.if_icmp .lt off, 3) ∧ (pc : Int) + off = (aa : Int)) (hn : nx = pc + 3) (h : am_step X D i pc 35 nx aa bb v w L st G c s P (am_go X D i P)) : am_WP X D i pc L st G c s P := by
  intro p l e R s0 m args below meth cd dC dI b A ad cA tys H locs ls Q hF hX hbl hbA hA hS hR hL hfin
  obtain ⟨hx, hb, hml, hown, hts, hrt, hlk, hnm, hDf, hDl, hmc, hms, hN⟩ := id hF
  subst hn
  obtain ⟨x, y, r, rfl, hh⟩ := am_I2_s h
  obtain ⟨off, hd, ht⟩ := hd
  refine lv_icmp_lt hx hb hd ht (fun z => ?_) (fun z => ?_)
  · rw [if_pos z] at hh
    exact (hh _ _ _ _ _ _ _ _ _ _ _ _ _ _ _ _ _ _ _ _ _ hF hX hbl hbA hA hS hR hL hfin)
  · rw [if_neg z] at hh
    exact (hh _ _ _ _ _ _ _ _ _ _ _ _ _ _ _ _ _ _ _ _ _ hF hX hbl hbA hA hS hR hL hfin)
theorem am_z41 (hd : ∃ off : Int, decode (am_by i) pc = .ok (.ifCond .lt off, 3) ∧ (pc : Int) + off = (aa : Int)) (hn : nx = pc + 3) (h : am_step X D i pc 41 nx aa bb v w L st G c s P (am_go X D i P)) : am_WP X D i pc L st G c s P := by
  intro p l e R s0 m args below meth cd dC dI b A ad cA tys H locs ls Q hF hX hbl hbA hA hS hR hL hfin
  obtain ⟨hx, hb, hml, hown, hts, hrt, hlk, hnm, hDf, hDl, hmc, hms, hN⟩ := id hF
  subst hn
  obtain ⟨x, r, rfl, hh⟩ := am_I1_s h
  obtain ⟨off, hd, ht⟩ := hd
  refine lv_if_lt hx hb hd ht (fun z => ?_) (fun z => ?_)
  · rw [if_pos z] at hh
    exact (hh _ _ _ _ _ _ _ _ _ _ _ _ _ _ _ _ _ _ _ _ _ hF hX hbl hbA hA hS hR hL hfin)
  · rw [if_neg z] at hh
    exact (hh _ _ _ _ _ _ _ _ _ _ _ _ _ _ _ _ _ _ _ _ _ hF hX hbl hbA hA hS hR hL hfin)
theorem am_z36 (hd : ∃ off : Int, decode (am_by i) pc = .ok (.if_icmp .ge off, 3) ∧ (pc : Int) + off = (aa : Int)) (hn : nx = pc + 3) (h : am_step X D i pc 36 nx aa bb v w L st G c s P (am_go X D i P)) : am_WP X D i pc L st G c s P := by
  intro p l e R s0 m args below meth cd dC dI b A ad cA tys H locs ls Q hF hX hbl hbA hA hS hR hL hfin
  obtain ⟨hx, hb, hml, hown, hts, hrt, hlk, hnm, hDf, hDl, hmc, hms, hN⟩ := id hF
  subst hn
  obtain ⟨x, y, r, rfl, hh⟩ := am_I2_s h
  obtain ⟨off, hd, ht⟩ := hd
  refine lv_icmp_ge hx hb hd ht (fun z => ?_) (fun z => ?_)
  · rw [if_neg (Int32.not_lt.mpr z)] at hh
    exact (hh _ _ _ _ _ _ _ _ _ _ _ _ _ _ _ _ _ _ _ _ _ hF hX hbl hbA hA hS hR hL hfin)
  · rw [if_pos (Int32.not_le.mp z)] at hh
    exact (hh _ _ _ _ _ _ _ _ _ _ _ _ _ _ _ _ _ _ _ _ _ hF hX hbl hbA hA hS hR hL hfin)
theorem am_z42 (hd : ∃ off : Int, decode (am_by i) pc = .ok (.ifCond .ge off, 3) ∧ (pc : Int) + off = (aa : Int)) (hn : nx = pc + 3) (h : am_step X D i pc 42 nx aa bb v w L st G c s P (am_go X D i P)) : am_WP X D i pc L st G c s P := by
  intro p l e R s0 m args below meth cd dC dI b A ad cA tys H locs ls Q hF hX hbl hbA hA hS hR hL hfin
  obtain ⟨hx, hb, hml, hown, hts, hrt, hlk, hnm, hDf, hDl, hmc, hms, hN⟩ := id hF
  subst hn
  obtain ⟨x, r, rfl, hh⟩ := am_I1_s h
  obtain ⟨off, hd, ht⟩ := hd
  refine lv_if_ge hx hb hd ht (fun z => ?_) (fun z => ?_)
  · rw [if_neg (Int32.not_lt.mpr z)] at hh
    exact (hh _ _ _ _ _ _ _ _ _ _ _ _ _ _ _ _ _ _ _ _ _ hF hX hbl hbA hA hS hR hL hfin)
  · rw [if_pos (Int32.not_le.mp z)] at hh
    exact (hh _ _ _ _ _ _ _ _ _ _ _ _ _ _ _ _ _ _ _ _ _ hF hX hbl hbA hA hS hR hL hfin)
theorem am_z37 (hd : ∃ off : Int, decode (am_by i) pc = .ok (.if_icmp .gt off, 3) ∧ (pc : Int) + off = (aa : Int)) (hn : nx = pc + 3) (h : am_step X D i pc 37 nx aa bb v w L st G c s P (am_go X D i P)) : am_WP X D i pc L st G c s P := by
  intro p l e R s0 m args below meth cd dC dI b A ad cA tys H locs ls Q hF hX hbl hbA hA hS hR hL hfin
  obtain ⟨hx, hb, hml, hown, hts, hrt, hlk, hnm, hDf, hDl, hmc, hms, hN⟩ := id hF
  subst hn
  obtain ⟨x, y, r, rfl, hh⟩ := am_I2_s h
  obtain ⟨off, hd, ht⟩ := hd
  refine lv_icmp_gt hx hb hd ht (fun z => ?_) (fun z => ?_)
  · rw [if_pos z] at hh
    exact (hh _ _ _ _ _ _ _ _ _ _ _ _ _ _ _ _ _ _ _ _ _ hF hX hbl hbA hA hS hR hL hfin)
  · rw [if_neg z] at hh
    exact (hh _ _ _ _ _ _ _ _ _ _ _ _ _ _ _ _ _ _ _ _ _ hF hX hbl hbA hA hS hR hL hfin)
theorem am_z43 (hd : ∃ off : Int, decode (am_by i) pc = .ok (.ifCond .gt off, 3) ∧ (pc : Int) + off = (aa : Int)) (hn : nx = pc + 3) (h : am_step X D i pc 43 nx aa bb v w L st G c s P (am_go X D i P)) : am_WP X D i pc L st G c s P := by
  intro p l e R s0 m args below meth cd dC dI b A ad cA tys H locs ls Q hF hX hbl hbA hA hS hR hL hfin
  obtain ⟨hx, hb, hml, hown, hts, hrt, hlk, hnm, hDf, hDl, hmc, hms, hN⟩ := id hF
  subst hn
  obtain ⟨x, r, rfl, hh⟩ := am_I1_s h
  obtain ⟨off, hd, ht⟩ := hd
  refine lv_if_gt hx hb hd ht (fun z => ?_) (fun z => ?_)
  · rw [if_pos z] at hh
    exact (hh _ _ _ _ _ _ _ _ _ _ _ _ _ _ _ _ _ _ _ _ _ hF hX hbl hbA hA hS hR hL hfin)
  · rw [if_neg z] at hh
    exact (hh _ _ _ _ _ _ _ _ _ _ _ _ _ _ _ _ _ _ _ _ _ hF hX hbl hbA hA hS hR hL hfin)
theorem am_z38 (hd : ∃ off : Int, decode (am_by i) pc = .ok (.if_icmp .le off, 3) ∧ (pc : Int) + off = (aa : Int)) (hn : nx = pc + 3) (h : am_step X D i pc 38 nx aa bb v w L st G c s P (am_go X D i P)) : am_WP X D i pc L st G c s P := by
  intro p l e R s0 m args below meth cd dC dI b A ad cA tys H locs ls Q hF hX hbl hbA hA hS hR hL hfin
  obtain ⟨hx, hb, hml, hown, hts, hrt, hlk, hnm, hDf, hDl, hmc, hms, hN⟩ := id hF
  subst hn
  obtain ⟨x, y, r, rfl, hh⟩ := am_I2_s h
  obtain ⟨off, hd, ht⟩ := hd
  refine lv_icmp_le hx hb hd ht (fun z => ?_) (fun z => ?_)
  · rw [if_neg (Int32.not_lt.mpr z)] at hh
    exact (hh _ _ _ _ _ _ _ _ _ _ _ _ _ _ _ _ _ _ _ _ _ hF hX hbl hbA hA hS hR hL hfin)
  · rw [if_pos (Int32.not_le.mp z)] at hh
    exact (hh _ _ _ _ _ _ _ _ _ _ _ _ _ _ _ _ _ _ _ _ _ hF hX hbl hbA hA hS hR hL hfin)
theorem am_z44 (hd : ∃ off : Int, decode (am_by i) pc = .ok (.ifCond .le off, 3) ∧ (pc : Int) + off = (aa : Int)) (hn : nx = pc + 3) (h : am_step X D i pc 44 nx aa bb v w L st G c s P (am_go X D i P)) : am_WP X D i pc L st G c s P := by
  intro p l e R s0 m args below meth cd dC dI b A ad cA tys H locs ls Q hF hX hbl hbA hA hS hR hL hfin
  obtain ⟨hx, hb, hml, hown, hts, hrt, hlk, hnm, hDf, hDl, hmc, hms, hN⟩ := id hF
  subst hn
  obtain ⟨x, r, rfl, hh⟩ := am_I1_s h
  obtain ⟨off, hd, ht⟩ := hd
  refine lv_if_le hx hb hd ht (fun z => ?_) (fun z => ?_)
  · rw [if_neg (Int32.not_lt.mpr z)] at hh
    exact (hh _ _ _ _ _ _ _ _ _ _ _ _ _ _ _ _ _ _ _ _ _ hF hX hbl hbA hA hS hR hL hfin)
  · rw [if_pos (Int32.not_le.mp z)] at hh
    exact (hh _ _ _ _ _ _ _ _ _ _ _ _ _ _ _ _ _ _ _ _ _ hF hX hbl hbA hA hS hR hL hfin)
theorem am_z45 (hd : ∃ off : Int, decode (am_by i) pc = .ok (.goto off, 3) ∧ (pc : Int) + off = (aa : Int)) (h : am_step X D i pc 45 nx aa bb v w L st G c s P (am_go X D i P)) : am_WP X D i pc L st G c s P := by
  intro p l e R s0 m args below meth cd dC dI b A ad cA tys H locs ls Q hF hX hbl hbA hA hS hR hL hfin
  obtain ⟨hx, hb, hml, hown, hts, hrt, hlk, hnm, hDf, hDl, hmc, hms, hN⟩ := id hF
  obtain ⟨off, hd, ht⟩ := hd
  exact lv_goto hx hb hd ht (h _ _ _ _ _ _ _ _ _ _ _ _ _ _ _ _ _ _ _ _ _ hF hX hbl hbA hA hS hR hL hfin)
theorem am_z46 (hd : ∃ off : Int, decode (am_by i) pc = .ok (.ifnonnull off, 3) ∧ (pc : Int) + off = (aa : Int)) (hn : nx = pc + 3) (h : am_step X D i pc 46 nx aa bb v w L st G c s P (am_go X D i P)) : am_WP X D i pc L st G c s P := by
  intro p l e R s0 m args below meth cd dC dI b A ad cA tys H locs ls Q hF hX hbl hbA hA hS hR hL hfin
  obtain ⟨hx, hb, hml, hown, hts, hrt, hlk, hnm, hDf, hDl, hmc, hms, hN⟩ := id hF
  subst hn
  obtain ⟨off, hd, ht⟩ := hd
  rcases am_RN_s h with ⟨k, r, rfl, h⟩ | ⟨r, rfl, h⟩
  · exact lv_ifnonnull hx hb hd ht (h _ _ _ _ _ _ _ _ _ _ _ _ _ _ _ _ _ _ _ _ _ hF hX hbl hbA hA hS hR hL hfin)
  · exact lv_ifnonnullN hx hb hd (h _ _ _ _ _ _ _ _ _ _ _ _ _ _ _ _ _ _ _ _ _ hF hX hbl hbA hA hS hR hL hfin)
theorem am_z63 (hd : decode (am_by i) pc = .ok (.dup, 1)) (hn : nx = pc + 1) (h : am_step X D i pc 63 nx aa bb v w L st G c s P (am_go X D i P)) : am_WP X D i pc L st G c s P := by
  intro p l e R s0 m args below meth cd dC dI b A ad cA tys H locs ls Q hF hX hbl hbA hA hS hR hL hfin
  obtain ⟨hx, hb, hml, hown, hts, hrt, hlk, hnm, hDf, hDl, hmc, hms, hN⟩ := id hF
  subst hn
  obtain ⟨x, r, rfl, hc, h⟩ := am_V1_s h
  exact lv_dup hx hb hd ((am_cat1 x).trans hc) (h _ _ _ _ _ _ _ _ _ _ _ _ _ _ _ _ _ _ _ _ _ hF hX hbl hbA hA hS hR hL hfin)
theorem am_z64 (hd : decode (am_by i) pc = .ok (.aconst_null, 1)) (hn : nx = pc + 1) (h : am_step X D i pc 64 nx aa bb v w L st G c s P (am_go X D i P)) : am_WP X D i pc L st G c s P := by
  intro p l e R s0 m args below meth cd dC dI b A ad cA tys H locs ls Q hF hX hbl hbA hA hS hR hL hfin
  obtain ⟨hx, hb, hml, hown, hts, hrt, hlk, hnm, hDf, hDl, hmc, hms, hN⟩ := id hF
  subst hn
  exact lv_null hx hb hd (h _ _ _ _ _ _ _ _ _ _ _ _ _ _ _ _ _ _ _ _ _ hF hX hbl hbA hA hS hR hL hfin)
end SND
end
section
def am_clOk : Bool := (List.range 5).all (fun a => (u_ws (am_cn a) (am_T a) (am_N a)).all (fun w => decide (w ∈ am_GT)))
theorem am_cl_in : ∀ a, a < 5 → ∀ w ∈ u_ws (am_cn a) (am_T a) (am_N a), w ∈ am_GT := by decide +kernel
theorem am_cl_at : ∀ a, a < 5 → vwCl[a]? = some (am_cn a, am_T a, am_N a)
  | 0, _ => rfl | 1, _ => rfl | 2, _ => rfl | 3, _ => rfl | 4, _ => rfl | k + 5, h => by omega
theorem am_cl_nm : ∀ a, a < 5 → ∀ x, x < am_N a → ∀ y, y < am_N a → x ≠ y → (am_T a x).2.1 ≠ (am_T a y).2.1
  | 0, _ => nmX0 | 1, _ => nmX1 | 2, _ => nmX2 | 3, _ => nmX3 | 4, _ => nmX4 | k + 5, h => by omega
theorem am_cl_ty : ∀ a, a < 5 → ∀ k, k < am_N a → parseFieldDescriptor (am_T a k).2.2.1 = some (am_tT a k)
  | 0, _ => tyX0_ok | 1, _ => tyX1_ok | 2, _ => tyX2_ok | 3, _ => tyX3_ok | 4, _ => tyX4_ok | k + 5, h => by omega
theorem am_cl_df : ∀ a, a < 5 → ∀ k, k < am_N a → defaultValue (am_tT a k) = vp_V (am_df a) k ∧ (∀ ad b, vp_V ((am_df a).map (am_cv ad b)) k = vp_V (am_df a) k) := by
  intro a ha
  match a, ha with
  | 0, _ => intro k hk; match k, hk with | 0, _ => exact ⟨rfl, fun _ _ => rfl⟩ | 1, _ => exact ⟨rfl, fun _ _ => rfl⟩ | 2, _ => exact ⟨rfl, fun _ _ => rfl⟩ | 3, _ => exact ⟨rfl, fun _ _ => rfl⟩ | 4, _ => exact ⟨rfl, fun _ _ => rfl⟩ | 5, _ => exact ⟨rfl, fun _ _ => rfl⟩ | n + 6, h => exact absurd h (by simp [am_N])
  | 1, _ => intro k hk; match k, hk with | 0, _ => exact ⟨rfl, fun _ _ => rfl⟩ | 1, _ => exact ⟨rfl, fun _ _ => rfl⟩ | n + 2, h => exact absurd h (by simp [am_N])
  | 2, _ => intro k hk; match k, hk with | 0, _ => exact ⟨rfl, fun _ _ => rfl⟩ | 1, _ => exact ⟨rfl, fun _ _ => rfl⟩ | 2, _ => exact ⟨rfl, fun _ _ => rfl⟩ | 3, _ => exact ⟨rfl, fun _ _ => rfl⟩ | n + 4, h => exact absurd h (by simp [am_N])
  | 3, _ => intro k hk; match k, hk with | 0, _ => exact ⟨rfl, fun _ _ => rfl⟩ | 1, _ => exact ⟨rfl, fun _ _ => rfl⟩ | 2, _ => exact ⟨rfl, fun _ _ => rfl⟩ | n + 3, h => exact absurd h (by simp [am_N])
  | 4, _ => intro k hk; match k, hk with | 0, _ => exact ⟨rfl, fun _ _ => rfl⟩ | 1, _ => exact ⟨rfl, fun _ _ => rfl⟩ | 2, _ => exact ⟨rfl, fun _ _ => rfl⟩ | 3, _ => exact ⟨rfl, fun _ _ => rfl⟩ | 4, _ => exact ⟨rfl, fun _ _ => rfl⟩ | 5, _ => exact ⟨rfl, fun _ _ => rfl⟩ | 6, _ => exact ⟨rfl, fun _ _ => rfl⟩ | 7, _ => exact ⟨rfl, fun _ _ => rfl⟩ | n + 8, h => exact absurd h (by simp [am_N])
  | k + 5, h => omega

theorem am_fit_n {ty : FieldType} {v : Value} {ad : Nat → Nat} {b : Nat} (h : am_fit ty v) : narrow ty (am_cv ad b v) = am_cv ad b v ∧ fits ty (am_cv ad b v) = true := by
  unfold am_fit at h
  split at h
  · exact ⟨rfl, rfl⟩
  · rcases h with rfl | rfl <;> exact ⟨rfl, rfl⟩
  · exact ⟨rfl, rfl⟩
  · exact ⟨rfl, rfl⟩
  · exact ⟨rfl, rfl⟩
  · exact h.elim
theorem am_cv_s {ad ad' : Nat → Nat} {b n : Nat} {v : Value} (hv : am_fv n v) (h : ∀ k, k < n → ad' k = ad k) : am_cv ad' b v = am_cv ad b v := by
  cases v with
  | ref k => show Value.ref _ = Value.ref _; rw [h k hv]
  | _ => rfl
theorem am_e_s {ad ad' : Nat → Nat} {b n : Nat} {cA : ClassId} {c : am_C} (hc : am_fC n c) (h : ∀ k, k < n → ad' k = ad k) : am_e ad' b cA c = am_e ad b cA c := by
  match c, hc with
  | .inl (_, n, f), _ => rfl
  | .inr (.inl (n, f)), _ => rfl
  | .inr (.inr (.inl (n, f))), hc =>
    show (Sum.inl _ : va_E) = Sum.inl _
    have e : (fun j => (f j).map ad') = fun j => (f j).map ad := funext fun j => by
      cases hj : f j with
      | none => rfl
      | some k => show some _ = some _; rw [h k (hc j k hj)]
    rw [e]
  | .inr (.inr (.inr (ci, fs))), hc =>
    show (Sum.inr _ : va_E) = Sum.inr _
    have e : fs.map (am_cv ad' b) = fs.map (am_cv ad b) := List.map_congr_left (fun v hv => am_cv_s (hc v hv) h)
    rw [e]
theorem am_st_s {ad ad' : Nat → Nat} {b n : Nat} {st : List Value} (hs : ∀ v ∈ st, am_fv n v) (h : ∀ k, k < n → ad' k = ad k) : st.map (am_cv ad' b) = st.map (am_cv ad b) := List.map_congr_left (fun v hv => am_cv_s (hs v hv) h)
theorem am_LOk.mv {ad ad' : Nat → Nat} {b nL n : Nat} {ls : Array Slot} {L : List (Option Value)} (hL : am_LOk ad b ls nL L) (hs : ∀ o ∈ L, ∀ v, o = some v → am_fv n v) (h : ∀ k, k < n → ad' k = ad k) : am_LOk ad' b ls nL L :=
  ⟨hL.1, hL.2.1, fun k v hk => by rw [am_cv_s (hs _ (List.mem_of_getElem? hk) v rfl) h]; exact hL.2.2 k v hk⟩
/-- one cell more -/
def am_ext (ad : Nat → Nat) (n q : Nat) : Nat → Nat := fun k => if k = n then q else ad k
theorem am_ext_lt {ad : Nat → Nat} {n q k : Nat} (h : k < n) : am_ext ad n q k = ad k := if_neg (by omega)
theorem am_ext_at {ad : Nat → Nat} {n q : Nat} : am_ext ad n q n = q := if_pos rfl
theorem am_ws_app {ad : Nat → Nat} {b q : Nat} {cA : Nat → ClassId} {ca : ClassId} {G : am_H} {c : am_C} (hf : ∀ c ∈ G, am_fC G.length c) (hc : am_fC G.length c) : am_ws (am_ext ad G.length q) b (fun k => if k = G.length then ca else cA k) (G ++ [c]) = am_ws ad b cA G ++ [(q, am_e ad b ca c)] := by
  unfold am_ws
  rw [List.mapIdx_append]
  congr 1
  · apply List.ext_getElem?
    intro j
    rw [List.getElem?_mapIdx, List.getElem?_mapIdx]
    cases hj : G[j]? with
    | none => rfl
    | some c0 =>
      have hlt : j < G.length := (List.getElem?_eq_some_iff.mp hj).1
      show some (am_ext ad G.length q j, am_e (am_ext ad G.length q) b (if j = G.length then ca else cA j) c0) = some (ad j, am_e ad b (cA j) c0)
      rw [am_ext_lt hlt, if_neg (by omega), am_e_s (hf c0 (List.mem_of_getElem? hj)) (ad := ad) (ad' := am_ext ad G.length q) (fun k hk => am_ext_lt hk)]
  · show [(am_ext ad G.length q (0 + G.length), am_e (am_ext ad G.length q) b (if 0 + G.length = G.length then ca else cA _) c)] = _
    rw [Nat.zero_add, am_ext_at, if_pos rfl, am_e_s hc (fun k hk => am_ext_lt hk)]
theorem am_pop_s : ∀ (n : Nat) (st acc as r : List Value), am_pop n st acc = some (as, r) → ∃ pre, st = pre ++ r ∧ as = pre.reverse ++ acc ∧ pre.length = n
  | 0, st, acc, as, r, h => by
    simp only [am_pop, Option.some.injEq, Prod.mk.injEq] at h
    exact ⟨[], by simp [h.2], by simp [h.1], rfl⟩
  | n + 1, v :: st, acc, as, r, h => by
    obtain ⟨pre, h1, h2, h3⟩ := am_pop_s n st (v :: acc) as r h
    exact ⟨v :: pre, by simp [h1], by simp [h2], by simp [h3]⟩
  | _ + 1, [], _, _, _, h => by cases h
theorem am_Nx.sm {u U : State} (h : u.vm = U.vm) (hN : am_Nx u) : am_Nx U := ⟨fun q hq => va_Nw.same rfl h (hN.1 q hq), va_AO.moved (by rw [h]; exact Vm.Alike.refl _) hN.2⟩
theorem am_Nx.wm {s U : State} (h : s.WarmedH U.vm) (hN : am_Nx s) : am_Nx U := ⟨fun q hq => va_Nw.warmM h (hN.1 q hq), va_AO.moved h.alike hN.2⟩
theorem am_Rel.mv {dC : Nat → ClassId} {dI : Nat → Nat → Nat} {b : Nat} {A : Nat → Prop} {ad : Nat → Nat} {cA : Nat → ClassId} {tys : List (ClassId × FieldType)} {G : am_H} {u U : State} {H : Heap} (hvm : u.vm.Alike U.vm) (h : am_Rel dC dI b A ad cA tys G u H) : am_Rel dC dI b A ad cA tys G U H := ⟨va_K.moved hvm h.1, h.2⟩
theorem am_set_ty {G : am_H} {k : Nat} {c0 c1 : am_C} {tys : List (ClassId × FieldType)} {cA : Nat → ClassId} (h : ∀ (k : Nat) (c : am_C) (ty : FieldType), G[k]? = some c → am_ty c = some ty → ∃ t0 : Nat, tys[t0]? = some (cA k, ty)) (hk : G[k]? = some c0) (ht : am_ty c1 = am_ty c0) : ∀ (j : Nat) (c : am_C) (ty : FieldType), (G.set k c1)[j]? = some c → am_ty c = some ty → ∃ t0 : Nat, tys[t0]? = some (cA j, ty) := by
  intro j c ty hj hty
  rw [List.getElem?_set] at hj
  split at hj
  · next e =>
    subst e
    split at hj
    · cases hj
      exact h k c0 ty hk (ht ▸ hty)
    · cases hj
  · exact h j c ty hj hty
theorem am_alen_s {G : am_H} {k n : Nat} (h : am_alen G k = some n) : ∃ c ty, G[k]? = some c ∧ am_ty c = some ty ∧ ∀ ad b cA, ∃ x : vp_A, am_e ad b cA c = .inl (cA, x) ∧ x.1 = n := by
  unfold am_alen at h
  split at h
  · next heq => cases h; exact ⟨_, _, heq, rfl, fun ad b cA => ⟨_, rfl, rfl⟩⟩
  · next heq => cases h; exact ⟨_, _, heq, rfl, fun ad b cA => ⟨_, rfl, rfl⟩⟩
  · next heq => cases h; exact ⟨_, _, heq, rfl, fun ad b cA => ⟨_, rfl, rfl⟩⟩
  · cases h
theorem am_vin {i : Int32} {n : Nat} (h : vp_in i n) : vp_in i n := h
section SND
variable {X : Nat × (Nat → Int32)} {D i pc nx aa bb xx : Nat} {v : Int32} {w : Int64} {L : List (Option Value)} {st : List Value} {G : am_H} {c s : Nat} {P : Option Value → am_H → Prop}

theorem am_z48 (hca : aa < 5) (hkb : bb < am_N aa) (hl : Cond.fieldLink (am_mo i) xx (am_T aa bb).1 (am_T aa bb).2.1 (am_T aa bb).2.2.1 ∈ am_GT) (hd : decode (am_by i) pc = .ok (.getfield xx, 3)) (hn : nx = pc + 3) (h0 : am_step X D i pc 48 nx aa bb v w L st G c s P (am_go X D i P)) : am_WP X D i pc L st G c s P := by
  intro p l e R s0 m args below meth cd dC dI b A ad cA tys H locs ls Q hF hX hbl hbA hA hS hR hL hfin
  obtain ⟨hx, hb, hml, hown, hts, hrt, hlk, hnm, hDf, hDl, hmc, hms, hN⟩ := id hF
  obtain ⟨hK, hP, hD, hT⟩ := id hR
  subst hn
  obtain ⟨k, r, rfl, h⟩ := am_R1_s h0
  obtain ⟨fs, v, ho, hv, h⟩ := am_get_s h
  exact va_get hx hb hts (am_cl_in aa hca) hown hK hP k (am_ws_get (am_ob_s ho)) (am_cl_at aa hca) bb hkb (hts _ hl) (fun _ z => z) (by rw [List.getElem?_map, hv]; rfl) hd (h _ _ _ _ _ _ _ _ _ _ _ _ _ _ _ _ _ _ _ _ _ hF hX hbl hbA hA hS hR hL hfin)
theorem am_z49 (hca : aa < 5) (hkb : bb < am_N aa) (hl : Cond.fieldLink (am_mo i) xx (am_T aa bb).1 (am_T aa bb).2.1 (am_T aa bb).2.2.1 ∈ am_GT) (hfi : (am_T aa bb).2.2.2 = false) (hd : decode (am_by i) pc = .ok (.putfield xx, 3)) (hn : nx = pc + 3) (h0 : am_step X D i pc 49 nx aa bb v w L st G c s P (am_go X D i P)) : am_WP X D i pc L st G c s P := by
  intro p l e R s0 m args below meth cd dC dI b A ad cA tys H locs ls Q hF hX hbl hbA hA hS hR hL hfin
  obtain ⟨hx, hb, hml, hown, hts, hrt, hlk, hnm, hDf, hDl, hmc, hms, hN⟩ := id hF
  obtain ⟨hK, hP, hD, hT⟩ := id hR
  subst hn
  obtain ⟨v, k, r, rfl, hft, h⟩ := am_VR_s h0
  obtain ⟨fs, ho, hlen, h⟩ := am_put_s h
  have hg := am_ob_s ho
  have hw := am_ws_get (ad := ad) (b := b) (cA := cA) hg
  have e : (am_ws ad b cA G).set k (ad k, .inr (aa, (fs.map (am_cv ad b)).set bb (am_cv ad b v))) = am_ws ad b cA (G.set k (am_o aa (fs.set bb v))) := by
    rw [← am_ws_set]
    show _ = List.set _ k (ad k, (Sum.inr (aa, (fs.set bb v).map (am_cv ad b)) : va_E))
    rw [List.map_set]
  refine va_put hx hb hts (am_cl_in aa hca) (am_tT aa) (am_cl_ty aa hca) (am_cl_nm aa hca) hown hK hP hD hS k hw (am_cl_at aa hca) bb hkb (hts _ hl) (fun _ z => z) hfi (am_cl_ty aa hca bb hkb) (am_fit_n hft).1 (am_fit_n hft).2 (by rw [List.length_map]; exact hlen) hd (fun H1 locs1 hP1 hD1 hS1 => ?_)
  rw [e] at hP1 hD1
  exact (h _ _ _ _ _ _ _ _ _ _ _ _ _ _ _ _ _ _ _ _ _ hF hX hbl hbA hA hS1 ⟨hK, hP1, hD1, am_set_ty hT hg rfl⟩ hL (hfin.mono ⟨by rw [List.length_set]; exact Nat.le_refl _, fun _ _ => rfl, fun _ => rfl⟩))
theorem am_z50 (hca : aa < 5) (hkb : bb < am_N aa) (hl : Cond.fieldLink (am_mo i) xx (am_T aa bb).1 (am_T aa bb).2.1 (am_T aa bb).2.2.1 ∈ am_GT) (hfi : (am_T aa bb).2.2.2 = true) (hin : (am_y i).name = "<init>") (hde : (am_T aa bb).1 = am_mo i) (hd : decode (am_by i) pc = .ok (.putfield xx, 3)) (hn : nx = pc + 3) (h0 : am_step X D i pc 50 nx aa bb v w L st G c s P (am_go X D i P)) : am_WP X D i pc L st G c s P := by
  intro p l e R s0 m args below meth cd dC dI b A ad cA tys H locs ls Q hF hX hbl hbA hA hS hR hL hfin
  obtain ⟨hx, hb, hml, hown, hts, hrt, hlk, hnm, hDf, hDl, hmc, hms, hN⟩ := id hF
  obtain ⟨hK, hP, hD, hT⟩ := id hR
  subst hn
  obtain ⟨v, k, r, rfl, hft, h⟩ := am_VR_s h0
  obtain ⟨fs, ho, hlen, h⟩ := am_put_s h
  have hg := am_ob_s ho
  have hw := am_ws_get (ad := ad) (b := b) (cA := cA) hg
  have e : (am_ws ad b cA G).set k (ad k, .inr (aa, (fs.map (am_cv ad b)).set bb (am_cv ad b v))) = am_ws ad b cA (G.set k (am_o aa (fs.set bb v))) := by
    rw [← am_ws_set]
    show _ = List.set _ k (ad k, (Sum.inr (aa, (fs.set bb v).map (am_cv ad b)) : va_E))
    rw [List.map_set]
  refine va_putF hx hb hts (am_cl_in aa hca) (am_tT aa) (am_cl_ty aa hca) (am_cl_nm aa hca) hown hK hP hD hS k hw (am_cl_at aa hca) bb hkb (hts _ hl) (fun _ z => z) hfi (hnm hin) hde (am_cl_ty aa hca bb hkb) (am_fit_n hft).1 (am_fit_n hft).2 (by rw [List.length_map]; exact hlen) hd (fun H1 locs1 hP1 hD1 hS1 => ?_)
  rw [e] at hP1 hD1
  exact (h _ _ _ _ _ _ _ _ _ _ _ _ _ _ _ _ _ _ _ _ _ hF hX hbl hbA hA hS1 ⟨hK, hP1, hD1, am_set_ty hT hg rfl⟩ hL (hfin.mono ⟨by rw [List.length_set]; exact Nat.le_refl _, fun _ _ => rfl, fun _ => rfl⟩))
theorem am_z51 (hd : decode (am_by i) pc = .ok (.iaload, 1)) (hn : nx = pc + 1) (h0 : am_step X D i pc 51 nx aa bb v w L st G c s P (am_go X D i P)) : am_WP X D i pc L st G c s P := by
  intro p l e R s0 m args below meth cd dC dI b A ad cA tys H locs ls Q hF hX hbl hbA hA hS hR hL hfin
  obtain ⟨hx, hb, hml, hown, hts, hrt, hlk, hnm, hDf, hDl, hmc, hms, hN⟩ := id hF
  obtain ⟨hK, hP, hD, hT⟩ := id hR
  subst hn
  rcases am_IRS_s h0 with ⟨j, k, r, rfl, h⟩ | ⟨j, z, r, rfl, hin, h⟩
  · obtain ⟨n, f, ho, hin, h⟩ := am_arr_s h
    have hg := am_ia_s ho
    obtain ⟨t0, ht⟩ := hT k _ _ hg rfl
    exact va_iald hx hb hK hP k t0 (am_ws_get hg) ht hin hd (h _ _ _ _ _ _ _ _ _ _ _ _ _ _ _ _ _ _ _ _ _ hF hX hbl hbA hA hS hR hL hfin)
  · exact va_sld hx hb hX hbl hbA hS hin hd (h _ _ _ _ _ _ _ _ _ _ _ _ _ _ _ _ _ _ _ _ _ hF hX hbl hbA hA hS hR hL hfin)
theorem am_z55 (hd : decode (am_by i) pc = .ok (.baload, 1)) (hn : nx = pc + 1) (h0 : am_step X D i pc 55 nx aa bb v w L st G c s P (am_go X D i P)) : am_WP X D i pc L st G c s P := by
  intro p l e R s0 m args below meth cd dC dI b A ad cA tys H locs ls Q hF hX hbl hbA hA hS hR hL hfin
  obtain ⟨hx, hb, hml, hown, hts, hrt, hlk, hnm, hDf, hDl, hmc, hms, hN⟩ := id hF
  obtain ⟨hK, hP, hD, hT⟩ := id hR
  subst hn
  obtain ⟨j, k, r, rfl, h⟩ := am_IR_s h0
  obtain ⟨n, f, ho, hin, h⟩ := am_arr_s h
  have hg := am_ia_s ho
  obtain ⟨t0, ht⟩ := hT k _ _ hg rfl
  exact va_zald hx hb hK hP k t0 (am_ws_get hg) ht hin hd (h _ _ _ _ _ _ _ _ _ _ _ _ _ _ _ _ _ _ _ _ _ hF hX hbl hbA hA hS hR hL hfin)
theorem am_z53 (hd : decode (am_by i) pc = .ok (.laload, 1)) (hn : nx = pc + 1) (h0 : am_step X D i pc 53 nx aa bb v w L st G c s P (am_go X D i P)) : am_WP X D i pc L st G c s P := by
  intro p l e R s0 m args below meth cd dC dI b A ad cA tys H locs ls Q hF hX hbl hbA hA hS hR hL hfin
  obtain ⟨hx, hb, hml, hown, hts, hrt, hlk, hnm, hDf, hDl, hmc, hms, hN⟩ := id hF
  obtain ⟨hK, hP, hD, hT⟩ := id hR
  subst hn
  obtain ⟨j, k, r, rfl, h⟩ := am_IR_s h0
  obtain ⟨n, f, ho, hin, h⟩ := am_arr_s h
  have hg := am_la_s ho
  obtain ⟨t0, ht⟩ := hT k _ _ hg rfl
  exact va_lald hx hb hK hP k t0 (am_ws_get hg) ht hin hd (h _ _ _ _ _ _ _ _ _ _ _ _ _ _ _ _ _ _ _ _ _ hF hX hbl hbA hA hS hR hL hfin)
theorem am_z57 (hd : decode (am_by i) pc = .ok (.aaload, 1)) (hn : nx = pc + 1) (h0 : am_step X D i pc 57 nx aa bb v w L st G c s P (am_go X D i P)) : am_WP X D i pc L st G c s P := by
  intro p l e R s0 m args below meth cd dC dI b A ad cA tys H locs ls Q hF hX hbl hbA hA hS hR hL hfin
  obtain ⟨hx, hb, hml, hown, hts, hrt, hlk, hnm, hDf, hDl, hmc, hms, hN⟩ := id hF
  obtain ⟨hK, hP, hD, hT⟩ := id hR
  subst hn
  obtain ⟨j, k, r, rfl, h⟩ := am_IR_s h0
  obtain ⟨n, f, ho, hin, h⟩ := am_arr_s h
  have hg := am_ra_s ho
  obtain ⟨t0, ht⟩ := hT k _ _ hg rfl
  have e : am_cv ad b (va_rf (f j.toNatClampNeg)) = va_rf ((f j.toNatClampNeg).map ad) := by cases f j.toNatClampNeg <;> rfl
  have h2 := (h _ _ _ _ _ _ _ _ _ _ _ _ _ _ _ _ _ _ _ _ _ hF hX hbl hbA hA hS hR hL hfin)
  rw [List.map_cons, e] at h2
  exact va_aldq hx hb hK hP k t0 (am_ws_get hg) ht hin hd h2
theorem am_z52 (hd : decode (am_by i) pc = .ok (.iastore, 1)) (hn : nx = pc + 1) (h0 : am_step X D i pc 52 nx aa bb v w L st G c s P (am_go X D i P)) : am_WP X D i pc L st G c s P := by
  intro p l e R s0 m args below meth cd dC dI b A ad cA tys H locs ls Q hF hX hbl hbA hA hS hR hL hfin
  obtain ⟨hx, hb, hml, hown, hts, hrt, hlk, hnm, hDf, hDl, hmc, hms, hN⟩ := id hF
  obtain ⟨hK, hP, hD, hT⟩ := id hR
  subst hn
  obtain ⟨y, j, k, r, rfl, h⟩ := am_IIR_s h0
  obtain ⟨n, f, ho, hin, h⟩ := am_arr_s h
  have hg := am_ia_s ho
  obtain ⟨t0, ht⟩ := hT k _ _ hg rfl
  refine va_iast hx hb hK hP hD hS k t0 (am_ws_get hg) ht hin hd (fun H1 locs1 hP1 hD1 hS1 => ?_)
  have e := am_ws_set (ad := ad) (b := b) (cA := cA) (G := G) (k := k) (c := am_ai 0 n (upd f j.toNatClampNeg y))
  exact (h _ _ _ _ _ _ _ _ _ _ _ _ _ _ _ _ _ _ _ _ _ hF hX hbl hbA hA hS1 ⟨hK, e ▸ hP1, e ▸ hD1, am_set_ty hT hg rfl⟩ hL (hfin.mono ⟨by rw [List.length_set]; exact Nat.le_refl _, fun _ _ => rfl, fun _ => rfl⟩))
theorem am_z56 (hd : decode (am_by i) pc = .ok (.bastore, 1)) (hn : nx = pc + 1) (h0 : am_step X D i pc 56 nx aa bb v w L st G c s P (am_go X D i P)) : am_WP X D i pc L st G c s P := by
  intro p l e R s0 m args below meth cd dC dI b A ad cA tys H locs ls Q hF hX hbl hbA hA hS hR hL hfin
  obtain ⟨hx, hb, hml, hown, hts, hrt, hlk, hnm, hDf, hDl, hmc, hms, hN⟩ := id hF
  obtain ⟨hK, hP, hD, hT⟩ := id hR
  subst hn
  obtain ⟨y, j, k, r, rfl, h⟩ := am_IIR_s h0
  obtain ⟨n, f, ho, hin, h⟩ := am_arr_s h
  have hg := am_ia_s ho
  obtain ⟨t0, ht⟩ := hT k _ _ hg rfl
  refine va_zast hx hb hK hP hD hS k t0 (am_ws_get hg) ht hin hd (fun H1 locs1 hP1 hD1 hS1 => ?_)
  have e := am_ws_set (ad := ad) (b := b) (cA := cA) (G := G) (k := k) (c := am_ai 1 n (upd f j.toNatClampNeg (vp_nar .boolean y)))
  exact (h _ _ _ _ _ _ _ _ _ _ _ _ _ _ _ _ _ _ _ _ _ hF hX hbl hbA hA hS1 ⟨hK, e ▸ hP1, e ▸ hD1, am_set_ty hT hg rfl⟩ hL (hfin.mono ⟨by rw [List.length_set]; exact Nat.le_refl _, fun _ _ => rfl, fun _ => rfl⟩))
theorem am_z54 (hd : decode (am_by i) pc = .ok (.lastore, 1)) (hn : nx = pc + 1) (h0 : am_step X D i pc 54 nx aa bb v w L st G c s P (am_go X D i P)) : am_WP X D i pc L st G c s P := by
  intro p l e R s0 m args below meth cd dC dI b A ad cA tys H locs ls Q hF hX hbl hbA hA hS hR hL hfin
  obtain ⟨hx, hb, hml, hown, hts, hrt, hlk, hnm, hDf, hDl, hmc, hms, hN⟩ := id hF
  obtain ⟨hK, hP, hD, hT⟩ := id hR
  subst hn
  obtain ⟨y, j, k, r, rfl, h⟩ := am_JIR_s h0
  obtain ⟨n, f, ho, hin, h⟩ := am_arr_s h
  have hg := am_la_s ho
  obtain ⟨t0, ht⟩ := hT k _ _ hg rfl
  refine va_last hx hb hK hP hD hS k t0 (am_ws_get hg) ht hin hd (fun H1 locs1 hP1 hD1 hS1 => ?_)
  have e := am_ws_set (ad := ad) (b := b) (cA := cA) (G := G) (k := k) (c := am_al n (vp_updL f j.toNatClampNeg y))
  exact (h _ _ _ _ _ _ _ _ _ _ _ _ _ _ _ _ _ _ _ _ _ hF hX hbl hbA hA hS1 ⟨hK, e ▸ hP1, e ▸ hD1, am_set_ty hT hg rfl⟩ hL (hfin.mono ⟨by rw [List.length_set]; exact Nat.le_refl _, fun _ _ => rfl, fun _ => rfl⟩))
theorem am_z58 (hd : decode (am_by i) pc = .ok (.aastore, 1)) (hn : nx = pc + 1) (h0 : am_step X D i pc 58 nx aa bb v w L st G c s P (am_go X D i P)) : am_WP X D i pc L st G c s P := by
  intro p l e R s0 m args below meth cd dC dI b A ad cA tys H locs ls Q hF hX hbl hbA hA hS hR hL hfin
  obtain ⟨hx, hb, hml, hown, hts, hrt, hlk, hnm, hDf, hDl, hmc, hms, hN⟩ := id hF
  obtain ⟨hK, hP, hD, hT⟩ := id hR
  subst hn
  obtain ⟨y, j, k, r, rfl, hob, h⟩ := am_RIR_s h0
  obtain ⟨n, f, ho, hin, h⟩ := am_arr_s h
  obtain ⟨vs, hob⟩ := Option.isSome_iff_exists.mp hob
  have hg := am_ra_s ho
  obtain ⟨t0, ht⟩ := hT k _ _ hg rfl
  refine va_astq hx hb hK hP hD hS k t0 y 2 (r := (am_cn 2, am_T 2, am_N 2)) (am_ws_get hg) ht (am_ws_get (am_ob_s hob)) (am_cl_at 2 (by decide)) hin hd (fun H1 locs1 hP1 hD1 hS1 => ?_)
  have e := am_ws_set (ad := ad) (b := b) (cA := cA) (G := G) (k := k) (c := am_ar n (va_up f j.toNatClampNeg (some y)))
  have e2 : am_e ad b (cA k) (am_ar n (va_up f j.toNatClampNeg (some y))) = .inl (cA k, n, .inr (.inr (.inr (.inr (va_up (fun j => (f j).map ad) j.toNatClampNeg (some (ad y))))))) := by
    show (Sum.inl _ : va_E) = Sum.inl _
    have e3 : (fun q => ((va_up f j.toNatClampNeg (some y)) q).map ad) = va_up (fun j => (f j).map ad) j.toNatClampNeg (some (ad y)) := funext fun q => by
      unfold va_up
      by_cases hq : q = j.toNatClampNeg
      · rw [if_pos hq, if_pos hq]; rfl
      · rw [if_neg hq, if_neg hq]
    rw [e3]
  rw [e2] at e
  exact (h _ _ _ _ _ _ _ _ _ _ _ _ _ _ _ _ _ _ _ _ _ hF hX hbl hbA hA hS1 ⟨hK, e ▸ hP1, e ▸ hD1, am_set_ty hT hg rfl⟩ hL (hfin.mono ⟨by rw [List.length_set]; exact Nat.le_refl _, fun _ _ => rfl, fun _ => rfl⟩))
theorem am_z59 (hd : decode (am_by i) pc = .ok (.arraylength, 1)) (hn : nx = pc + 1) (h0 : am_step X D i pc 59 nx aa bb v w L st G c s P (am_go X D i P)) : am_WP X D i pc L st G c s P := by
  intro p l e R s0 m args below meth cd dC dI b A ad cA tys H locs ls Q hF hX hbl hbA hA hS hR hL hfin
  obtain ⟨hx, hb, hml, hown, hts, hrt, hlk, hnm, hDf, hDl, hmc, hms, hN⟩ := id hF
  obtain ⟨hK, hP, hD, hT⟩ := id hR
  subst hn
  rcases am_RS_s h0 with ⟨k, r, rfl, h⟩ | ⟨z, r, rfl, h⟩
  · obtain ⟨n, ho, h⟩ := am_len_s h
    obtain ⟨c0, ty, hg, hty, he⟩ := am_alen_s ho
    obtain ⟨t0, ht⟩ := hT k _ _ hg hty
    obtain ⟨x, e1, e2⟩ := he ad b (cA k)
    have hw := am_ws_get (ad := ad) (b := b) (cA := cA) hg
    rw [e1] at hw
    exact va_alen hx hb hK hP k t0 hw ht (by rw [e2]) hd (h _ _ _ _ _ _ _ _ _ _ _ _ _ _ _ _ _ _ _ _ _ hF hX hbl hbA hA hS hR hL hfin)
  · exact va_slen hx hb hX hbl hbA hS hd (h _ _ _ _ _ _ _ _ _ _ _ _ _ _ _ _ _ _ _ _ _ hF hX hbl hbA hA hS hR hL hfin)
end SND
end
section
theorem am_good {w : Cond} (h : w ∈ am_GT) : w ∈ am_GT ∧ ((w.onTables && w.keeps) = true ∨ ∃ ty, w = .arrayClass ty) := ⟨h, good_of_word (List.mem_filter.mp h).2⟩
theorem am_goodW {j : Nat} (hc : Cond.code (am_y j) (am_by j) (am_ml j) (am_rt j) ∈ am_GT) : GoodIn am_GT (am_W j) := fun w hw => by
  rcases List.mem_cons.mp hw with rfl | h
  · exact am_good hc
  · exact am_good h
section CALL
variable {p : Program} {l : Launch} {e : Env} {R : Room} {s : State} {m : MethodId} {args : Array Value} {below : List Frame} {meth : Method} {c : Code} {H : Heap} {locs : List Loc} {cells slots : Nat} {Q : State → Prop}
variable {pc : Nat} {ls : Array Slot} {rest st0 : List Value} {a : Array Value} {H0 : Heap} {mc ms : Nat}
theorem am_call {dC : Nat → ClassId} {dI : Nat → Nat → Nat} {b j : Nat} {A : Nat → Prop} {ad : Nat → Nat} {G : am_H} {P : Option Value → am_H → Prop}
    (hr : va_Run p l e R s m args below meth c H locs cells slots mc ms (F0 m pc ls st0) rest (am_post dC dI b A ad G j P a) A) (hS : va_S A H0 H locs)
    (kk : ∀ (v : Option Value) (G1 : am_H) (ad1 : Nat → Nat) (cA1 : Nat → ClassId) (tys1 : List (ClassId × FieldType)) (t : State) (H1 : Heap) (locs1 : List Loc), s.vm.Alike t.vm → P v G1 → am_rv (am_rt j) v → am_Ag j ad G ad1 G1 → am_Rel dC dI b A ad1 cA1 tys1 G1 t H1 → va_S A H0 H1 locs1 → W p l e R s m args below meth c H1 locs1 (cells + mc) (slots + ms) Q (F0 m (pc + 3) ls ((v.map (am_cv ad1 b)).toList ++ rest))) :
    W p l e R s m args below meth c H locs cells slots Q (F0 m pc ls st0) := by
  intro T hT X
  obtain ⟨v, st₀, t, T', L, h0, X', hL, e1, e2, ⟨⟨v1, G1, ad1, cA1, tys1, hv, hp, hrv, hag, hrel⟩, hz, hk⟩, st⟩ := hr T hT X
  cases hv
  rw [h0] at hz hk
  obtain ⟨t2, a1, b1⟩ := kk v1 G1 ad1 cA1 tys1 t T'.heap (locs ++ L) (by rw [← e2]; exact X'.warmed.alike) hp hrv hag (by rw [e1]; exact hrel)
    ⟨Nat.le_trans hS.1 (by rw [e1]; exact hz), fun q h1 h2 => by rw [e1, hk q (Nat.lt_of_lt_of_le h1 hS.1) h2]; exact hS.2.1 q h1 h2, fun q hq => by
      rcases List.mem_append.mp hq with h | h
      · exact hS.2.2 q h
      · exact hL q h⟩ T' rfl X'
  exact ⟨t2, st t2 a1, b1⟩
end CALL
theorem am_blind {X : Nat × (Nat → Int32)} {dC : Nat → ClassId} {dI : Nat → Nat → Nat} {b : Nat} {A : Nat → Prop} {ad : Nat → Nat} {cA : Nat → ClassId} {tys : List (ClassId × FieldType)} {G : am_H} {as : List Value} : FrameBlind (am_pre X dC dI b A ad cA tys G as) := by
  intro a U g mk ⟨h1, h2, h3, h4, h5, h6⟩
  exact ⟨h1, am_Rel.mv (u := U) (U := U.calling g mk a) (Vm.Alike.refl U.vm) h2, va_X.moved (u := U) (U := U.calling g mk a) (Vm.Alike.refl U.vm) h3, h4, am_Nx.sm (u := U) (U := U.calling g mk a) rfl h5, h6⟩
theorem am_preOk {X : Nat × (Nat → Int32)} {dC : Nat → ClassId} {dI : Nat → Nat → Nat} {b : Nat} {A : Nat → Prop} {ad : Nat → Nat} {cA : Nat → ClassId} {tys : List (ClassId × FieldType)} {G : am_H} {as : List Value} {s0 : State} {H : Heap} {locs : List Loc} (hX : va_X b X.1 X.2 s0 s0.heap) (hbl : b < s0.heap.size) (hbA : ¬ A b) (hA : ∀ q, s0.heap.size ≤ q → A q) (hS : va_S A s0.heap H locs) (hR : am_Rel dC dI b A ad cA tys G s0 H) (hN : am_Nx s0) :
    ∀ U : State, U.heap = H → s0.WarmedH U.vm → am_pre X dC dI b A ad cA tys G as (as.map (am_cv ad b)).toArray U := by
  intro U hU hW
  refine ⟨rfl, hU ▸ am_Rel.mv hW.alike hR, ?_, by rw [hU]; exact Nat.lt_of_lt_of_le hbl hS.1, am_Nx.wm hW hN, fun q hq => hA q (Nat.le_trans hS.1 (hU ▸ hq))⟩
  rw [hU]
  exact va_X.moved hW.alike (va_X.kept hX (hS.2.1 b hbl hbA))
theorem am_tl {ad : Nat → Nat} {b : Nat} (v : Option Value) (r : List Value) : (v.map (am_cv ad b)).toList ++ r.map (am_cv ad b) = (v.toList ++ r).map (am_cv ad b) := by cases v <;> rfl
section SND
variable {X : Nat × (Nat → Int32)} {D i pc nx aa bb xx : Nat} {v : Int32} {w : Int64} {L : List (Option Value)} {st : List Value} {G : am_H} {c s : Nat} {P : Option Value → am_H → Prop}
theorem am_addT {tys : List (ClassId × FieldType)} {cA : Nat → ClassId} {ca : ClassId} {ty1 : List FieldType} {cl : am_C} (hT : ∀ (k : Nat) (c : am_C) (ty : FieldType), G[k]? = some c → am_ty c = some ty → ∃ t0 : Nat, tys[t0]? = some (cA k, ty)) (h : ∀ ty, am_ty cl = some ty → ty1 = [ty]) :
    ∀ (k : Nat) (c : am_C) (ty : FieldType), (G ++ [cl])[k]? = some c → am_ty c = some ty → ∃ t0 : Nat, (tys ++ ty1.map (fun t => (ca, t)))[t0]? = some ((fun k => if k = G.length then ca else cA k) k, ty) := by
  intro k c0 ty hk hty
  by_cases z : k < G.length
  · rw [List.getElem?_append_left z] at hk
    obtain ⟨t0, ht⟩ := hT k c0 ty hk hty
    refine ⟨t0, ?_⟩
    show _ = some (if k = G.length then ca else cA k, ty)
    rw [if_neg (by omega), List.getElem?_append_left (List.getElem?_eq_some_iff.mp ht).1]
    exact ht
  · rw [List.getElem?_append_right (by omega)] at hk
    have hk0 : k = G.length := by
      have := (List.getElem?_eq_some_iff.mp hk).1
      simp at this
      omega
    subst hk0
    simp only [Nat.sub_self, List.getElem?_cons_zero, Option.some.injEq] at hk
    subst hk
    refine ⟨tys.length, ?_⟩
    rw [List.getElem?_append_right (Nat.le_refl _), h ty hty]
    simp
theorem am_fd (n a : Nat) (ha : a < 5) : ∀ v ∈ am_df a, am_fv n v := by
  match a, ha with
  | 0, _ => exact List.forall_mem_cons.mpr ⟨trivial, List.forall_mem_cons.mpr ⟨trivial, List.forall_mem_cons.mpr ⟨trivial, List.forall_mem_cons.mpr ⟨trivial, List.forall_mem_cons.mpr ⟨trivial, List.forall_mem_cons.mpr ⟨trivial, fun _ h => absurd h List.not_mem_nil⟩⟩⟩⟩⟩⟩
  | 1, _ => exact List.forall_mem_cons.mpr ⟨trivial, List.forall_mem_cons.mpr ⟨trivial, fun _ h => absurd h List.not_mem_nil⟩⟩
  | 2, _ => exact List.forall_mem_cons.mpr ⟨trivial, List.forall_mem_cons.mpr ⟨trivial, List.forall_mem_cons.mpr ⟨trivial, List.forall_mem_cons.mpr ⟨trivial, fun _ h => absurd h List.not_mem_nil⟩⟩⟩⟩
  | 3, _ => exact List.forall_mem_cons.mpr ⟨trivial, List.forall_mem_cons.mpr ⟨trivial, List.forall_mem_cons.mpr ⟨trivial, fun _ h => absurd h List.not_mem_nil⟩⟩⟩
  | 4, _ => exact List.forall_mem_cons.mpr ⟨trivial, List.forall_mem_cons.mpr ⟨trivial, List.forall_mem_cons.mpr ⟨trivial, List.forall_mem_cons.mpr ⟨trivial, List.forall_mem_cons.mpr ⟨trivial, List.forall_mem_cons.mpr ⟨trivial, List.forall_mem_cons.mpr ⟨trivial, List.forall_mem_cons.mpr ⟨trivial, fun _ h => absurd h List.not_mem_nil⟩⟩⟩⟩⟩⟩⟩⟩
  | k + 5, h => omega

theorem am_z60 (hca : aa < 5) (h1 : Cond.classLink (am_mo i) xx (am_cn aa) ∈ am_GT) (h2 : Cond.instantiable (am_cn aa) (am_N aa) ∈ am_GT) (h3 : Cond.initialized (am_cn aa) ∈ am_GT) (hd : decode (am_by i) pc = .ok (.new xx, 3)) (hn : nx = pc + 3) (h0 : am_step X D i pc 60 nx aa bb v w L st G c s P (am_go X D i P)) : am_WP X D i pc L st G c s P := by
  intro p l e R s0 m args below meth cd dC dI b A ad cA tys H locs ls Q hF hX hbl hbA hA hS hR hL hfin
  obtain ⟨hx, hb, hml, hown, hts, hrt, hlk, hnm, hDf, hDl, hmc, hms, hN⟩ := id hF
  obtain ⟨hK, hP, hD, hT⟩ := id hR
  subst hn
  obtain ⟨hc1, hs1, ⟨hf1, hf2, hf3⟩, h⟩ := h0
  refine va_new hx hb hts (am_cl_in aa hca) (am_tT aa) (am_cl_ty aa hca) hown (hts _ h1) (hts _ h2) (hts _ h3) hK hP hD hS hA (am_cl_at aa hca) (fs := (am_df aa).map (am_cv ad b)) (fun k hk => by rw [(am_cl_df aa hca k hk).2]; exact (am_cl_df aa hca k hk).1) (Nat.le_trans hc1 hmc) (Nat.le_trans hs1 hms) hd (fun q H1 hP1 hD1 hS1 => ?_)
  have e := am_ws_app (ad := ad) (b := b) (q := q) (cA := cA) (ca := 0) (c := am_o aa (am_df aa)) hf3 (am_fd _ aa hca)
  have h2 := (h _ _ _ _ _ _ _ _ _ _ _ _ _ _ _ _ _ _ _ _ _ hF hX hbl hbA hA hS1 ⟨hK, e ▸ hP1, e ▸ hD1, by simpa using am_addT (ca := 0) (ty1 := []) (cl := am_o aa (am_df aa)) hT (fun ty z => by cases z)⟩ (hL.mv hf1 (fun k hk => am_ext_lt hk)) (hfin.mono ⟨by simp, fun k hk => am_ext_lt hk, fun z => by omega⟩))
  rw [List.map_cons, am_st_s hf2 (ad := ad) (fun k hk => am_ext_lt hk)] at h2
  have e2 : am_cv (am_ext ad G.length q) b (.ref G.length) = .ref q := by show Value.ref _ = _; rw [am_ext_at]
  rw [e2] at h2
  exact h2
theorem am_z61 (hd : (aa = 0 ∧ decode (am_by i) pc = .ok (.newarray .int, 2) ∧ Cond.arrayClass .int ∈ am_GT) ∨ (aa = 1 ∧ decode (am_by i) pc = .ok (.newarray .boolean, 2) ∧ Cond.arrayClass .boolean ∈ am_GT) ∨ (aa = 2 ∧ decode (am_by i) pc = .ok (.newarray .long, 2) ∧ Cond.arrayClass .long ∈ am_GT)) (hn : nx = pc + 2) (h0 : am_step X D i pc 61 nx aa bb v w L st G c s P (am_go X D i P)) : am_WP X D i pc L st G c s P := by
  intro p l e R s0 m args below meth cd dC dI b A ad cA tys H locs ls Q hF hX hbl hbA hA hS hR hL hfin
  obtain ⟨hx, hb, hml, hown, hts, hrt, hlk, hnm, hDf, hDl, hmc, hms, hN⟩ := id hF
  obtain ⟨hK, hP, hD, hT⟩ := id hR
  subst hn
  obtain ⟨n, r, rfl, hn0, hnb, hc1, hs1, ⟨hf1, hf2, hf3⟩, h⟩ := am_I1_s h0
  rcases hd with ⟨rfl, hd, ha⟩ | ⟨rfl, hd, ha⟩ | ⟨rfl, hd, ha⟩
  · refine va_newa (atype := .int) (ty := .int) (a0 := (n.toNatClampNeg, .inl (fun _ => 0))) hx hb (hts _ ha) rfl hK hP hD hS hA (fun _ => rfl) hn0 rfl (show n.toNatClampNeg * 4 ≤ _ by omega) (Nat.le_trans hc1 hmc) (Nat.le_trans hs1 hms) hd (fun q ca H1 hK1 hP1 hD1 hS1 => ?_)
    have e := am_ws_app (ad := ad) (b := b) (q := q) (cA := cA) (ca := ca) (c := am_ai 0 n.toNatClampNeg (fun _ => 0)) hf3 (trivial)
    have h2 := (h _ _ _ _ _ _ _ _ _ _ _ _ _ _ _ _ _ _ _ _ _ hF hX hbl hbA hA hS1 ⟨hK1, e ▸ hP1, e ▸ hD1, am_addT (ca := ca) (ty1 := [.int]) (cl := am_ai 0 n.toNatClampNeg (fun _ => 0)) hT (fun ty z => by cases z; rfl)⟩ (hL.mv hf1 (fun k hk => am_ext_lt hk)) (hfin.mono ⟨by simp, fun k hk => am_ext_lt hk, fun z => by omega⟩))
    rw [List.map_cons, am_st_s hf2 (ad := ad) (fun k hk => am_ext_lt hk)] at h2
    have e2 : am_cv (am_ext ad G.length q) b (.ref G.length) = .ref q := by show Value.ref _ = _; rw [am_ext_at]
    rw [e2] at h2
    exact h2
  · refine va_newa (atype := .boolean) (ty := .boolean) (a0 := (n.toNatClampNeg, .inl (fun _ => 0))) hx hb (hts _ ha) rfl hK hP hD hS hA (fun _ => rfl) hn0 rfl (show n.toNatClampNeg * 1 ≤ _ by omega) (Nat.le_trans hc1 hmc) (Nat.le_trans hs1 hms) hd (fun q ca H1 hK1 hP1 hD1 hS1 => ?_)
    have e := am_ws_app (ad := ad) (b := b) (q := q) (cA := cA) (ca := ca) (c := am_ai 1 n.toNatClampNeg (fun _ => 0)) hf3 (trivial)
    have h2 := (h _ _ _ _ _ _ _ _ _ _ _ _ _ _ _ _ _ _ _ _ _ hF hX hbl hbA hA hS1 ⟨hK1, e ▸ hP1, e ▸ hD1, am_addT (ca := ca) (ty1 := [.boolean]) (cl := am_ai 1 n.toNatClampNeg (fun _ => 0)) hT (fun ty z => by cases z; rfl)⟩ (hL.mv hf1 (fun k hk => am_ext_lt hk)) (hfin.mono ⟨by simp, fun k hk => am_ext_lt hk, fun z => by omega⟩))
    rw [List.map_cons, am_st_s hf2 (ad := ad) (fun k hk => am_ext_lt hk)] at h2
    have e2 : am_cv (am_ext ad G.length q) b (.ref G.length) = .ref q := by show Value.ref _ = _; rw [am_ext_at]
    rw [e2] at h2
    exact h2
  · refine va_newa (atype := .long) (ty := .long) (a0 := (n.toNatClampNeg, .inr (.inl (fun _ => 0)))) hx hb (hts _ ha) rfl hK hP hD hS hA (fun _ => rfl) hn0 rfl (show n.toNatClampNeg * 8 ≤ _ by omega) (Nat.le_trans hc1 hmc) (Nat.le_trans hs1 hms) hd (fun q ca H1 hK1 hP1 hD1 hS1 => ?_)
    have e := am_ws_app (ad := ad) (b := b) (q := q) (cA := cA) (ca := ca) (c := am_al n.toNatClampNeg (fun _ => 0)) hf3 (trivial)
    have h2 := (h _ _ _ _ _ _ _ _ _ _ _ _ _ _ _ _ _ _ _ _ _ hF hX hbl hbA hA hS1 ⟨hK1, e ▸ hP1, e ▸ hD1, am_addT (ca := ca) (ty1 := [.long]) (cl := am_al n.toNatClampNeg (fun _ => 0)) hT (fun ty z => by cases z; rfl)⟩ (hL.mv hf1 (fun k hk => am_ext_lt hk)) (hfin.mono ⟨by simp, fun k hk => am_ext_lt hk, fun z => by omega⟩))
    rw [List.map_cons, am_st_s hf2 (ad := ad) (fun k hk => am_ext_lt hk)] at h2
    have e2 : am_cv (am_ext ad G.length q) b (.ref G.length) = .ref q := by show Value.ref _ = _; rw [am_ext_at]
    rw [e2] at h2
    exact h2
theorem am_z62 (h1 : Cond.classLink (am_mo i) xx RX2 ∈ am_GT) (hd : decode (am_by i) pc = .ok (.anewarray xx, 3)) (hn : nx = pc + 3) (h0 : am_step X D i pc 62 nx aa bb v w L st G c s P (am_go X D i P)) : am_WP X D i pc L st G c s P := by
  intro p l e R s0 m args below meth cd dC dI b A ad cA tys H locs ls Q hF hX hbl hbA hA hS hR hL hfin
  obtain ⟨hx, hb, hml, hown, hts, hrt, hlk, hnm, hDf, hDl, hmc, hms, hN⟩ := id hF
  obtain ⟨hK, hP, hD, hT⟩ := id hR
  subst hn
  obtain ⟨n, r, rfl, hn0, hnb, hc1, hs1, ⟨hf1, hf2, hf3⟩, h⟩ := am_I1_s h0
  · refine va_newq hx hb hown (hts _ h1) hN.2 hK hP hD hS hA hn0 rfl (by omega) (Nat.le_trans hc1 hmc) (Nat.le_trans hs1 hms) hd (fun q ca H1 hK1 hP1 hD1 hS1 => ?_)
    have e := am_ws_app (ad := ad) (b := b) (q := q) (cA := cA) (ca := ca) (c := am_ar n.toNatClampNeg (fun _ => none)) hf3 (fun _ _ z => by cases z)
    have h2 := (h _ _ _ _ _ _ _ _ _ _ _ _ _ _ _ _ _ _ _ _ _ hF hX hbl hbA hA hS1 ⟨hK1, e ▸ hP1, e ▸ hD1, am_addT (ca := ca) (ty1 := [.object RX2]) (cl := am_ar n.toNatClampNeg (fun _ => none)) hT (fun ty z => by cases z; rfl)⟩ (hL.mv hf1 (fun k hk => am_ext_lt hk)) (hfin.mono ⟨by simp, fun k hk => am_ext_lt hk, fun z => by omega⟩))
    rw [List.map_cons, am_st_s hf2 (ad := ad) (fun k hk => am_ext_lt hk)] at h2
    have e2 : am_cv (am_ext ad G.length q) b (.ref G.length) = .ref q := by show Value.ref _ = _; rw [am_ext_at]
    rw [e2] at h2
    exact h2
theorem am_z69 (h1 : Cond.methodLink (am_mo i) xx objectInit ∈ am_GT) (h2 : Cond.instanceMethod objectInit ∈ am_GT) (h3 : Cond.code objectInit ⟨#[0xb1]⟩ 1 none ∈ am_GT) (hd : decode (am_by i) pc = .ok (.invokespecial xx, 3)) (hn : nx = pc + 3) (h0 : am_step X D i pc 69 nx aa bb v w L st G c s P (am_go X D i P)) : am_WP X D i pc L st G c s P := by
  intro p l e R s0 m args below meth cd dC dI b A ad cA tys H locs ls Q hF hX hbl hbA hA hS hR hL hfin
  obtain ⟨hx, hb, hml, hown, hts, hrt, hlk, hnm, hDf, hDl, hmc, hms, hN⟩ := id hF
  obtain ⟨hK, hP, hD, hT⟩ := id hR
  subst hn
  obtain ⟨k, r, rfl, hD1, hcat, h⟩ := am_R1_s h0
  exact W.objInit hx hb hown (hts _ h1) (hts _ h2) (hts _ h3) rfl (hL.2.1.1.trans hml.symm) rfl hd (Nat.le_trans hD1 hDf) (by rw [am_catm]; show 2 * 0 + _ + 12 ≤ _; omega) (h _ _ _ _ _ _ _ _ _ _ _ _ _ _ _ _ _ _ _ _ _ hF hX hbl hbA hA hS hR hL hfin)
theorem am_z65 (hpd : (parseMethodDescriptor (am_y aa).desc).map (fun d => d.parameters.length) = some bb) (hcn : (am_y aa).cls ≠ "java/lang/invoke/MethodHandle" ∧ (am_y aa).cls ≠ "java/lang/invoke/VarHandle") (hcd : Cond.code (am_y aa) (am_by aa) (am_ml aa) (am_rt aa) ∈ am_GT) (hml2 : am_ml aa ≤ 21) (hini : Cond.initialized (am_y aa).cls ∈ am_GT) (hz : am_mc aa = 0 ∧ am_ms aa = 0) (hlk2 : Cond.methodLink (am_mo i) xx (am_y aa) ∈ am_GT) (him : Cond.instanceMethod (am_y aa) ∈ am_GT) (hse : Cond.selects (am_y aa).cls (am_y aa) (am_y aa) ∈ am_GT) (hci : am_ci aa < 5 ∧ (am_y aa).cls = am_cn (am_ci aa)) (hcs : c ≤ am_mc i ∧ s ≤ am_ms i) (hd : decode (am_by i) pc = .ok (.invokevirtual xx, 3)) (hn : nx = pc + 3) (h0 : am_step X D i pc 65 nx aa bb v w L st G c s P (am_go X D i P)) : am_WP X D i pc L st G c s P := by
  intro p l e R s0 m args below meth cd dC dI b A ad cA tys H locs ls Q hF hX hbl hbA hA hS hR hL hfin
  obtain ⟨hx, hb, hml, hown, hts, hrt, hlk, hnm, hDf, hDl, hmc, hms, hN⟩ := id hF
  obtain ⟨hK, hP, hD, hT⟩ := id hR
  subst hn
  obtain ⟨as, r1, ha, h1⟩ := am_A_s h0
  obtain ⟨k, r, rfl, hob, hcat, D', hDD, h⟩ := am_R1_s h1
  obtain ⟨pre, rfl, has, hpl⟩ := am_pop_s _ _ _ _ _ ha
  rw [List.append_nil] at has
  obtain ⟨fs, hob⟩ := Option.isSome_iff_exists.mp hob
  have hrv := va_recv hK hP (am_cl_at (am_ci aa) hci.1) (am_ws_get (am_ob_s hob))
  refine am_call (va_runV (As := as.map (am_cv ad b)) (rest := r.map (am_cv ad b)) (C := (am_y aa).cls) ⟨hx, hb, hml, hown, hts⟩ (h l dC dI b A ad cA tys hbA) ⟨callB_of bb hts (am_goodW hcd) rfl rfl rfl (hts _ hini) (hts _ hlk2) ⟨hcn.1, hcn.2, hpd⟩ ⟨Nat.le_trans hDD hDf, by show 8 + (am_ml aa + 11) + 40 * D' ≤ _; omega⟩, hts _ him, hts _ hse⟩ ⟨am_blind, by rw [hci.2]; exact hrv, am_preOk (as := .ref k :: as) hX hbl hbA hA hS hR hN⟩ rfl (by rw [List.length_map, has, List.length_reverse, hpl]) hL.2.1.1 (by show List.map _ _ = _; rw [List.map_append, has, List.map_reverse, List.reverse_reverse]; rfl) (by rw [am_catm]; show 2 * 0 + _ ≤ 8; omega) hd ⟨by rw [hz.1]; omega, by rw [hz.2]; omega⟩) hS (fun v1 G1 ad1 cA1 tys1 t H1 locs1 ha1 hp1 hrv1 hag hR1 hS1 => ?_)
  have e1 : ad1 = ad := hag.2.2 hz.1
  subst e1
  rw [hz.1, hz.2, Nat.add_zero, Nat.add_zero, am_tl]
  exact (hp1 _ _ _ _ _ _ _ _ _ _ _ _ _ _ _ _ _ _ _ _ _ hF hX hbl hbA hA hS1 (am_Rel.mv ha1.symm hR1) hL (hfin.mono ⟨hag.1, fun _ _ => rfl, fun _ => rfl⟩))
theorem am_z66 (hpd : (parseMethodDescriptor (am_y aa).desc).map (fun d => d.parameters.length) = some bb) (hcn : (am_y aa).cls ≠ "java/lang/invoke/MethodHandle" ∧ (am_y aa).cls ≠ "java/lang/invoke/VarHandle") (hcd : Cond.code (am_y aa) (am_by aa) (am_ml aa) (am_rt aa) ∈ am_GT) (hml2 : am_ml aa ≤ 21) (hini : Cond.initialized (am_y aa).cls ∈ am_GT) (hz : am_mc aa = 0 ∧ am_ms aa = 0) (hlk2 : Cond.methodLink (am_mo i) xx (am_y aa) ∈ am_GT) (hst : Cond.static (am_y aa) ∈ am_GT) (hcs : c ≤ am_mc i ∧ s ≤ am_ms i) (hd : decode (am_by i) pc = .ok (.invokestatic xx, 3)) (hn : nx = pc + 3) (h0 : am_step X D i pc 66 nx aa bb v w L st G c s P (am_go X D i P)) : am_WP X D i pc L st G c s P := by
  intro p l e R s0 m args below meth cd dC dI b A ad cA tys H locs ls Q hF hX hbl hbA hA hS hR hL hfin
  obtain ⟨hx, hb, hml, hown, hts, hrt, hlk, hnm, hDf, hDl, hmc, hms, hN⟩ := id hF
  obtain ⟨hK, hP, hD, hT⟩ := id hR
  subst hn
  obtain ⟨as, r, ha, hcat, D', hDD, h⟩ := am_A_s h0
  obtain ⟨pre, rfl, has, hpl⟩ := am_pop_s _ _ _ _ _ ha
  rw [List.append_nil] at has
  refine am_call (va_runS (As := as.map (am_cv ad b)) (rest := r.map (am_cv ad b)) ⟨hx, hb, hml, hown, hts⟩ (h l dC dI b A ad cA tys hbA) ⟨callB_of bb hts (am_goodW hcd) rfl rfl rfl (hts _ hini) (hts _ hlk2) ⟨hcn.1, hcn.2, hpd⟩ ⟨Nat.le_trans hDD hDf, by show 8 + (am_ml aa + 11) + 40 * D' ≤ _; omega⟩, hts _ hst⟩ ⟨am_blind, am_preOk (as := as) hX hbl hbA hA hS hR hN⟩ rfl (by rw [List.length_map, has, List.length_reverse, hpl]) hL.2.1.1 (by show List.map _ _ = _; rw [List.map_append, has, List.map_reverse, List.reverse_reverse]) (by rw [am_catm]; show 2 * 0 + _ ≤ 8; omega) hd ⟨by rw [hz.1]; omega, by rw [hz.2]; omega⟩) hS (fun v1 G1 ad1 cA1 tys1 t H1 locs1 ha1 hp1 hrv1 hag hR1 hS1 => ?_)
  have e1 : ad1 = ad := hag.2.2 hz.1
  subst e1
  rw [hz.1, hz.2, Nat.add_zero, Nat.add_zero, am_tl]
  exact (hp1 _ _ _ _ _ _ _ _ _ _ _ _ _ _ _ _ _ _ _ _ _ hF hX hbl hbA hA hS1 (am_Rel.mv ha1.symm hR1) hL (hfin.mono ⟨hag.1, fun _ _ => rfl, fun _ => rfl⟩))
theorem am_z67 (hpd : (parseMethodDescriptor (am_y aa).desc).map (fun d => d.parameters.length) = some bb) (hcn : (am_y aa).cls ≠ "java/lang/invoke/MethodHandle" ∧ (am_y aa).cls ≠ "java/lang/invoke/VarHandle") (hcd : Cond.code (am_y aa) (am_by aa) (am_ml aa) (am_rt aa) ∈ am_GT) (hml2 : am_ml aa ≤ 21) (hini : Cond.initialized (am_y aa).cls ∈ am_GT) (hz : am_mc aa = 0 ∧ am_ms aa = 0) (hnl : (am_mo i, xx, am_y aa, RX4) ∈ am_nl) (hst : Cond.static (am_y aa) ∈ am_GT) (hcs : c ≤ am_mc i ∧ s ≤ am_ms i) (hd : decode (am_by i) pc = .ok (.invokestatic xx, 3)) (hn : nx = pc + 3) (h0 : am_step X D i pc 67 nx aa bb v w L st G c s P (am_go X D i P)) : am_WP X D i pc L st G c s P := by
  intro p l e R s0 m args below meth cd dC dI b A ad cA tys H locs ls Q hF hX hbl hbA hA hS hR hL hfin
  obtain ⟨hx, hb, hml, hown, hts, hrt, hlk, hnm, hDf, hDl, hmc, hms, hN⟩ := id hF
  obtain ⟨hK, hP, hD, hT⟩ := id hR
  subst hn
  obtain ⟨as, r, ha, hcat, D', hDD, h⟩ := am_A_s h0
  obtain ⟨pre, rfl, has, hpl⟩ := am_pop_s _ _ _ _ _ ha
  rw [List.append_nil] at has
  have hnl2 : va_Nw (.methodLinkNest (am_mo i) xx (am_y aa) RX4) s0 := hN.1 (am_mo i, xx, am_y aa, RX4) hnl
  have hcn3 : va_CN R s0 args (am_mo i) xx (am_y aa) RX4 (am_by aa) (am_ml aa) (am_rt aa) (am_W aa) (am_rm D' aa) (am_mc aa) (am_ms aa) bb := va_cnB bb hts (am_goodW hcd) rfl rfl rfl hnl2 (hts _ hini) ⟨hcn.1, hcn.2, hpd⟩ ⟨Nat.le_trans hDD hDf, by show 8 + (am_ml aa + 11) + 40 * D' ≤ _; omega⟩
  refine am_call (va_runSN (As := as.map (am_cv ad b)) (rest := r.map (am_cv ad b)) ⟨hx, hb, hml, hown, hts⟩ (h l dC dI b A ad cA tys hbA) ⟨hcn3, hts _ hst, trivial⟩ ⟨am_blind, am_preOk (as := as) hX hbl hbA hA hS hR hN⟩ rfl (by rw [List.length_map, has, List.length_reverse, hpl]) hL.2.1.1 (by show List.map _ _ = _; rw [List.map_append, has, List.map_reverse, List.reverse_reverse]) (by rw [am_catm]; show 2 * 0 + _ ≤ 8; omega) hd ⟨by rw [hz.1]; omega, by rw [hz.2]; omega⟩) hS (fun v1 G1 ad1 cA1 tys1 t H1 locs1 ha1 hp1 hrv1 hag hR1 hS1 => ?_)
  have e1 : ad1 = ad := hag.2.2 hz.1
  subst e1
  rw [hz.1, hz.2, Nat.add_zero, Nat.add_zero, am_tl]
  exact (hp1 _ _ _ _ _ _ _ _ _ _ _ _ _ _ _ _ _ _ _ _ _ hF hX hbl hbA hA hS1 (am_Rel.mv ha1.symm hR1) hL (hfin.mono ⟨hag.1, fun _ _ => rfl, fun _ => rfl⟩))
theorem am_z68 (hpd : (parseMethodDescriptor (am_y aa).desc).map (fun d => d.parameters.length) = some bb) (hcn : (am_y aa).cls ≠ "java/lang/invoke/MethodHandle" ∧ (am_y aa).cls ≠ "java/lang/invoke/VarHandle") (hcd : Cond.code (am_y aa) (am_by aa) (am_ml aa) (am_rt aa) ∈ am_GT) (hml2 : am_ml aa ≤ 21) (hini : Cond.initialized (am_y aa).cls ∈ am_GT) (hnv : am_rt aa = none) (hyi : (am_y aa).name = "<init>") (hlk2 : Cond.methodLink (am_mo i) xx (am_y aa) ∈ am_GT) (him : Cond.instanceMethod (am_y aa) ∈ am_GT) (hd : decode (am_by i) pc = .ok (.invokespecial xx, 3)) (hn : nx = pc + 3) (h0 : am_step X D i pc 68 nx aa bb v w L st G c s P (am_go X D i P)) : am_WP X D i pc L st G c s P := by
  intro p l e R s0 m args below meth cd dC dI b A ad cA tys H locs ls Q hF hX hbl hbA hA hS hR hL hfin
  obtain ⟨hx, hb, hml, hown, hts, hrt, hlk, hnm, hDf, hDl, hmc, hms, hN⟩ := id hF
  obtain ⟨hK, hP, hD, hT⟩ := id hR
  subst hn
  obtain ⟨as, r1, ha, h1⟩ := am_A_s h0
  obtain ⟨k, r, rfl, hcat, hc1, hs1, ⟨hf1, hf2, hf3⟩, D', hDD, h⟩ := am_R1_s h1
  obtain ⟨pre, rfl, has, hpl⟩ := am_pop_s _ _ _ _ _ ha
  rw [List.append_nil] at has
  have hcb : CallB R s0 args (am_mo i) xx (am_y aa) (am_by aa) (am_ml aa) none (am_W aa) (am_rm D' aa) (am_mc aa) (am_ms aa) bb := hnv ▸ (callB_of bb hts (am_goodW hcd) rfl rfl rfl (hts _ hini) (hts _ hlk2) ⟨hcn.1, hcn.2, hpd⟩ ⟨Nat.le_trans hDD hDf, by show 8 + (am_ml aa + 11) + 40 * D' ≤ _; omega⟩)
  refine am_call (va_runI (As := as.map (am_cv ad b)) (rest := r.map (am_cv ad b)) ⟨hx, hb, hml, hown, hts⟩ (h l dC dI b A ad cA tys hbA) ⟨hcb, hyi, hts _ him⟩ ⟨am_blind, am_preOk (as := .ref k :: as) hX hbl hbA hA hS hR hN⟩ rfl (by rw [List.length_map, has, List.length_reverse, hpl]) hL.2.1.1 (by show List.map _ _ = _; rw [List.map_append, has, List.map_reverse, List.reverse_reverse]; rfl) (by rw [am_catm]; show 2 * 0 + _ ≤ 8; omega) hd ⟨by omega, by omega⟩) hS (fun v1 G1 ad1 cA1 tys1 t H1 locs1 ha1 hp1 hrv1 hag hR1 hS1 => ?_)
  rw [← am_st_s hf2 hag.2.1, am_tl]
  exact (hp1 _ _ _ _ _ _ _ _ _ _ _ _ _ _ _ _ _ _ _ _ _ hF hX hbl hbA hA hS1 (am_Rel.mv ha1.symm hR1) (hL.mv hf1 hag.2.1) (hfin.mono ⟨hag.1, hag.2.1, fun z => hag.2.2 (by omega)⟩))
theorem am_z70 (hr0 : (am_rt i = some .int ∧ ¬ aa = 1) ∨ (am_rt i = some .boolean ∧ aa = 1)) (hd : decode (am_by i) pc = .ok (.ireturn, 1)) (h0 : am_step X D i pc 70 nx aa bb v w L st G c s P (am_go X D i P)) : am_WP X D i pc L st G c s P := by
  intro p l e R s0 m args below meth cd dC dI b A ad cA tys H locs ls Q hF hX hbl hbA hA hS hR hL hfin
  obtain ⟨hx, hb, hml, hown, hts, hrt, hlk, hnm, hDf, hDl, hmc, hms, hN⟩ := id hF
  obtain ⟨hK, hP, hD, hT⟩ := id hR
  obtain ⟨x, r, rfl, h⟩ := am_I1_s h0
  obtain ⟨rfl, h1, h2, h3, h4⟩ := am_mt_s h0
  refine hfin .ireturn (some (.int x)) G ad cA tys H locs ls pc c s h2 h3 h4 ?_ ?_ hd am_Ag.rf hS hR
  · rcases hr0 with ⟨a, -⟩ | ⟨a, z⟩ <;> rw [a]
    · trivial
    · exact h1 z
  · exact Or.inl ⟨rfl, hr0.elim (fun a => Or.inl a.1) (fun a => Or.inr a.1)⟩
theorem am_z71 (hr0 : am_rt i = some .long) (hd : decode (am_by i) pc = .ok (.lreturn, 1)) (h0 : am_step X D i pc 71 nx aa bb v w L st G c s P (am_go X D i P)) : am_WP X D i pc L st G c s P := by
  intro p l e R s0 m args below meth cd dC dI b A ad cA tys H locs ls Q hF hX hbl hbA hA hS hR hL hfin
  obtain ⟨hx, hb, hml, hown, hts, hrt, hlk, hnm, hDf, hDl, hmc, hms, hN⟩ := id hF
  obtain ⟨hK, hP, hD, hT⟩ := id hR
  obtain ⟨x, r, rfl, h⟩ := am_J1_s h0
  obtain ⟨rfl, h2, h3, h4⟩ := am_mt_s h0
  exact hfin .lreturn (some (.long x)) G ad cA tys H locs ls pc c s h2 h3 h4 (by rw [hr0]; trivial) (Or.inr (Or.inl ⟨rfl, hr0⟩)) hd am_Ag.rf hS hR
theorem am_z72 (hr0 : ∃ n, am_rt i = some (.object n)) (hd : decode (am_by i) pc = .ok (.areturn, 1)) (h0 : am_step X D i pc 72 nx aa bb v w L st G c s P (am_go X D i P)) : am_WP X D i pc L st G c s P := by
  intro p l e R s0 m args below meth cd dC dI b A ad cA tys H locs ls Q hF hX hbl hbA hA hS hR hL hfin
  obtain ⟨hx, hb, hml, hown, hts, hrt, hlk, hnm, hDf, hDl, hmc, hms, hN⟩ := id hF
  obtain ⟨hK, hP, hD, hT⟩ := id hR
  have h0 : am_AR st (fun x r => am_mt r (c ≤ am_mc i ∧ s ≤ am_ms i ∧ P (some x) G)) := h0
  obtain ⟨x, r, rfl, h, hx2⟩ := am_AR_s h0
  obtain ⟨rfl, h2, h3, h4⟩ := am_mt_s h
  refine hfin .areturn (some x) G ad cA tys H locs ls pc c s h2 h3 h4 ?_ (Or.inr (Or.inr (Or.inl ⟨rfl, hr0⟩))) hd am_Ag.rf hS hR
  obtain ⟨n, hr0⟩ := hr0
  rw [hr0]
  rcases hx2 with ⟨k, rfl⟩ | rfl <;> trivial
theorem am_z73 (hr0 : am_rt i = none) (hd : decode (am_by i) pc = .ok (.return_, 1)) (h0 : am_step X D i pc 73 nx aa bb v w L st G c s P (am_go X D i P)) : am_WP X D i pc L st G c s P := by
  intro p l e R s0 m args below meth cd dC dI b A ad cA tys H locs ls Q hF hX hbl hbA hA hS hR hL hfin
  obtain ⟨hx, hb, hml, hown, hts, hrt, hlk, hnm, hDf, hDl, hmc, hms, hN⟩ := id hF
  obtain ⟨hK, hP, hD, hT⟩ := id hR
  obtain ⟨rfl, h2, h3, h4⟩ := am_mt_s h0
  exact hfin .return_ none G ad cA tys H locs ls pc c s h2 h3 h4 (by rw [hr0]; trivial) (Or.inr (Or.inr (Or.inr ⟨rfl, hr0⟩))) hd am_Ag.rf hS hR
theorem am_sw_s {x : Int32} {d : Nat} {K : Nat → Prop} : ∀ (tg : List Nat) (lo : Int32), 0 ≤ lo.toInt → lo.toInt + tg.length < 2 ^ 31 → am_sw x lo d K tg →
    ((x.toInt < lo.toInt ∨ lo.toInt + tg.length ≤ x.toInt) ∧ K d) ∨ ∃ (k t : Nat), tg[k]? = some t ∧ x.toInt = lo.toInt + k ∧ K t
  | [], lo, _, _, h => Or.inl ⟨by simp; omega, h⟩
  | t :: r, lo, h0, h1, h => by
    simp only [am_sw] at h
    simp only [List.length_cons] at h1
    split at h
    · next e => exact Or.inr ⟨0, t, rfl, by rw [e]; simp, h⟩
    · next e =>
      have e1 : (lo + 1).toInt = lo.toInt + 1 := by
        rw [Int32.toInt_add]
        have : (1 : Int32).toInt = 1 := rfl
        rw [this]
        apply Int.bmod_eq_of_le <;> omega
      rcases am_sw_s r (lo + 1) (by omega) (by rw [e1]; omega) h with ⟨h2, h3⟩ | ⟨k, t2, h2, h3, h4⟩
      · refine Or.inl ⟨?_, h3⟩
        rw [e1] at h2
        have : ¬ x.toInt = lo.toInt := fun q => e (Int32.toInt_inj.mp q)
        simp only [List.length_cons]
        omega
      · exact Or.inr ⟨k + 1, t2, by simpa using h2, by rw [h3, e1]; omega, h4⟩
theorem am_z74 (hd : ∃ (d lo hi : Int) (offs : Array Int) (len : Nat), decode (am_by i) pc = .ok (.tableswitch d lo hi offs, len) ∧ (pc : Int) + d = (aa : Int) ∧ lo = v.toInt ∧ 0 ≤ lo ∧ hi + 1 = lo + (am_swt i pc).length ∧ hi < 1000 ∧ ∀ k, k < (am_swt i pc).length → ∃ off, offs[k]? = some off ∧ ∀ t, (am_swt i pc)[k]? = some t → (pc : Int) + off = (t : Int)) (h0 : am_step X D i pc 74 nx aa bb v w L st G c s P (am_go X D i P)) : am_WP X D i pc L st G c s P := by
  intro p l e R s0 m args below meth cd dC dI b A ad cA tys H locs ls Q hF hX hbl hbA hA hS hR hL hfin
  obtain ⟨hx, hb, hml, hown, hts, hrt, hlk, hnm, hDf, hDl, hmc, hms, hN⟩ := id hF
  obtain ⟨hK, hP, hD, hT⟩ := id hR
  obtain ⟨x, r, rfl, h⟩ := am_I1_s h0
  obtain ⟨d, lo, hi, offs, len, hd, h1, rfl, h3, h4, h5, h6⟩ := hd
  rcases am_sw_s _ _ h3 (by omega) h with ⟨h7, h⟩ | ⟨k, t, h7, h8, h⟩
  · exact lv_tableOut hx hb hd (by omega) h1 (h _ _ _ _ _ _ _ _ _ _ _ _ _ _ _ _ _ _ _ _ _ hF hX hbl hbA hA hS hR hL hfin)
  · have hk : k < (am_swt i pc).length := (List.getElem?_eq_some_iff.mp h7).1
    obtain ⟨off, h9, h10⟩ := h6 k hk
    exact lv_tableIn hx hb hd (by omega) (by omega) (by rw [h8, show (v.toInt + (k : Int) - v.toInt).toNat = k by omega]; exact h9) (h10 t h7) (h _ _ _ _ _ _ _ _ _ _ _ _ _ _ _ _ _ _ _ _ _ hF hX hbl hbA hA hS hR hL hfin)
theorem am_z75 (h1 : Cond.methodLink (am_mo i) xx Lib.Math.max.name ∈ am_GT) (h2 : Cond.static Lib.Math.max.name ∈ am_GT) (h3 : Cond.initialized "java/lang/Math" ∈ am_GT) (h4 : Cond.code Lib.Math.max.name Lib.Math.max.code 2 (some .int) ∈ am_GT) (hcs : c ≤ am_mc i ∧ s ≤ am_ms i) (hd : decode (am_by i) pc = .ok (.invokestatic xx, 3)) (hn : nx = pc + 3) (h0 : am_step X D i pc 75 nx aa bb v w L st G c s P (am_go X D i P)) : am_WP X D i pc L st G c s P := by
  intro p l e R s0 m args below meth cd dC dI b A ad cA tys H locs ls Q hF hX hbl hbA hA hS hR hL hfin
  obtain ⟨hx, hb, hml, hown, hts, hrt, hlk, hnm, hDf, hDl, hmc, hms, hN⟩ := id hF
  obtain ⟨hK, hP, hD, hT⟩ := id hR
  subst hn
  obtain ⟨x, y, r, rfl, hD1, hcat, h⟩ := am_I2_s h0
  exact va_mmax hx hb (hml.trans hL.2.1.1.symm) hown (hts _ h1) (hts _ h2) (hts _ h3) (hts _ h4) (Nat.le_trans hD1 hDf) (by rw [am_catm]; omega) (Nat.le_trans hcs.1 hmc) (Nat.le_trans hcs.2 hms) hd (h _ _ _ _ _ _ _ _ _ _ _ _ _ _ _ _ _ _ _ _ _ hF hX hbl hbA hA hS hR hL hfin)
theorem am_z76 (h1 : Cond.methodLink (am_mo i) xx Lib.Math.min.name ∈ am_GT) (h2 : Cond.static Lib.Math.min.name ∈ am_GT) (h3 : Cond.initialized "java/lang/Math" ∈ am_GT) (h4 : Cond.code Lib.Math.min.name Lib.Math.min.code 2 (some .int) ∈ am_GT) (hcs : c ≤ am_mc i ∧ s ≤ am_ms i) (hd : decode (am_by i) pc = .ok (.invokestatic xx, 3)) (hn : nx = pc + 3) (h0 : am_step X D i pc 76 nx aa bb v w L st G c s P (am_go X D i P)) : am_WP X D i pc L st G c s P := by
  intro p l e R s0 m args below meth cd dC dI b A ad cA tys H locs ls Q hF hX hbl hbA hA hS hR hL hfin
  obtain ⟨hx, hb, hml, hown, hts, hrt, hlk, hnm, hDf, hDl, hmc, hms, hN⟩ := id hF
  obtain ⟨hK, hP, hD, hT⟩ := id hR
  subst hn
  obtain ⟨x, y, r, rfl, hD1, hcat, h⟩ := am_I2_s h0
  exact va_mmin hx hb (hml.trans hL.2.1.1.symm) hown (hts _ h1) (hts _ h2) (hts _ h3) (hts _ h4) (Nat.le_trans hD1 hDf) (by rw [am_catm]; omega) (Nat.le_trans hcs.1 hmc) (Nat.le_trans hcs.2 hms) hd (h _ _ _ _ _ _ _ _ _ _ _ _ _ _ _ _ _ _ _ _ _ hF hX hbl hbA hA hS hR hL hfin)
end SND
end
section
def am_ar_ : Nat → Nat := fun i => match i with
  | 0 => 1
  | 1 => 1
  | 2 => 5
  | 3 => 0
  | 4 => 1
  | 5 => 2
  | 6 => 2
  | 7 => 1
  | 8 => 1
  | 9 => 2
  | 10 => 2
  | 11 => 2
  | 12 => 1
  | 13 => 2
  | 14 => 1
  | 15 => 0
  | 16 => 1
  | 17 => 1
  | 18 => 1
  | 19 => 1
  | 20 => 1
  | 21 => 1
  | 22 => 2
  | 23 => 0
  | 24 => 3
  | 25 => 1
  | 26 => 1
  | 27 => 1
  | 28 => 0
  | 29 => 0
  | 30 => 1
  | 31 => 1
  | 32 => 2
  | 33 => 0
  | 34 => 1
  | 35 => 1
  | 36 => 0
  | 37 => 0
  | 38 => 0
  | 39 => 0
  | 40 => 0
  | 41 => 3
  | 42 => 2
  | 43 => 2
  | 44 => 0
  | 45 => 3
  | 46 => 3
  | 47 => 3
  | 48 => 2
  | 49 => 1
  | 50 => 2
  | 51 => 3
  | 52 => 0
  | 53 => 0
  | 54 => 1
  | 55 => 0
  | 56 => 2
  | 57 => 2
  | 58 => 2
  | 59 => 1
  | 60 => 0
  | 61 => 0
  | 62 => 1
  | 63 => 0
  | 64 => 1
  | 65 => 0
  | 66 => 1
  | 67 => 1
  | 68 => 1
  | 69 => 0
  | 70 => 1
  | 71 => 2
  | 72 => 2
  | 73 => 2
  | 74 => 1
  | 75 => 0
  | 76 => 2
  | 77 => 2
  | 78 => 2
  | 79 => 3
  | 80 => 1
  | 81 => 0
  | 82 => 0
  | 83 => 3
  | 84 => 3
  | 85 => 1
  | 86 => 1
  | 87 => 1
  | 88 => 2
  | 89 => 2
  | 90 => 1
  | 91 => 1
  | 92 => 1
  | 93 => 1
  | 94 => 2
  | 95 => 2
  | 96 => 1
  | 97 => 2
  | 98 => 2
  | 99 => 3
  | 100 => 3
  | 101 => 3
  | 102 => 2
  | 103 => 3
  | 104 => 3
  | 105 => 3
  | 106 => 2
  | 107 => 2
  | 108 => 2
  | 109 => 1
  | _ => 0
def am_kd : Nat → Nat := fun i => match i with
  | 0 => 2
  | 1 => 1
  | 2 => 0
  | 3 => 1
  | 4 => 1
  | 5 => 1
  | 6 => 1
  | 7 => 1
  | 8 => 1
  | 9 => 1
  | 10 => 1
  | 11 => 1
  | 12 => 1
  | 13 => 1
  | 14 => 1
  | 15 => 2
  | 16 => 1
  | 17 => 1
  | 18 => 0
  | 19 => 0
  | 20 => 1
  | 21 => 1
  | 22 => 1
  | 23 => 2
  | 24 => 1
  | 25 => 1
  | 26 => 1
  | 27 => 1
  | 28 => 1
  | 29 => 1
  | 30 => 1
  | 31 => 1
  | 32 => 1
  | 33 => 1
  | 34 => 1
  | 35 => 1
  | 36 => 1
  | 37 => 1
  | 38 => 1
  | 39 => 1
  | 40 => 2
  | 41 => 1
  | 42 => 1
  | 43 => 1
  | 44 => 2
  | 45 => 1
  | 46 => 1
  | 47 => 1
  | 48 => 1
  | 49 => 1
  | 50 => 1
  | 51 => 1
  | 52 => 1
  | 53 => 1
  | 54 => 1
  | 55 => 1
  | 56 => 1
  | 57 => 1
  | 58 => 1
  | 59 => 1
  | 60 => 1
  | 61 => 1
  | 62 => 1
  | 63 => 1
  | 64 => 1
  | 65 => 1
  | 66 => 1
  | 67 => 1
  | 68 => 1
  | 69 => 1
  | 70 => 1
  | 71 => 1
  | 72 => 1
  | 73 => 1
  | 74 => 1
  | 75 => 1
  | 76 => 1
  | 77 => 1
  | 78 => 1
  | 79 => 1
  | 80 => 1
  | 81 => 1
  | 82 => 1
  | 83 => 1
  | 84 => 1
  | 85 => 1
  | 86 => 1
  | 87 => 1
  | 88 => 0
  | 89 => 0
  | 90 => 0
  | 91 => 0
  | 92 => 0
  | 93 => 0
  | 94 => 0
  | 95 => 0
  | 96 => 0
  | 97 => 0
  | 98 => 0
  | 99 => 0
  | 100 => 0
  | 101 => 0
  | 102 => 0
  | 103 => 0
  | 104 => 0
  | 105 => 0
  | 106 => 0
  | 107 => 0
  | 108 => 0
  | _ => 3
theorem am_seg {ps : List Nat} {ws : List Cond} {k : Nat} {w : Cond} (h : ps.map (fun i => lw_tbl[i]?) = ws.map some ∧ ws.all goodWord = true) (hk : ws[k]? = some w) : w ∈ am_GT := by
  have q := congrArg (fun l => l[k]?) h.1
  simp only [List.getElem?_map, hk, Option.map_some] at q
  cases hp : ps[k]? with
  | none => rw [hp] at q; cases q
  | some i =>
    rw [hp] at q
    simp only [Option.map_some, Option.some.injEq] at q
    exact List.mem_filter.mpr ⟨List.mem_of_getElem? q, List.all_eq_true.mp h.2 w (List.mem_of_getElem? hk)⟩
def am_wF : List Cond := [.fieldLink RX0 15 (am_T 0 0).1 (am_T 0 0).2.1 (am_T 0 0).2.2.1, .fieldLink RX0 21 (am_T 0 3).1 (am_T 0 3).2.1 (am_T 0 3).2.2.1, .fieldLink RX0 25 (am_T 0 4).1 (am_T 0 4).2.1 (am_T 0 4).2.2.1, .fieldLink RX0 28 (am_T 0 5).1 (am_T 0 5).2.1 (am_T 0 5).2.2.1, .fieldLink RX0 32 (am_T 2 0).1 (am_T 2 0).2.1 (am_T 2 0).2.2.1, .fieldLink RX0 37 (am_T 0 1).1 (am_T 0 1).2.1 (am_T 0 1).2.2.1, .fieldLink RX0 38 (am_T 0 2).1 (am_T 0 2).2.1 (am_T 0 2).2.2.1, .fieldLink RX1 9 (am_T 1 0).1 (am_T 1 0).2.1 (am_T 1 0).2.2.1, .fieldLink RX1 15 (am_T 1 1).1 (am_T 1 1).2.1 (am_T 1 1).2.2.1, .fieldLink RX2 9 (am_T 2 3).1 (am_T 2 3).2.1 (am_T 2 3).2.2.1, .fieldLink RX2 15 (am_T 2 0).1 (am_T 2 0).2.1 (am_T 2 0).2.2.1, .fieldLink RX2 19 (am_T 2 1).1 (am_T 2 1).2.1 (am_T 2 1).2.2.1, .fieldLink RX2 22 (am_T 2 2).1 (am_T 2 2).2.1 (am_T 2 2).2.2.1, .fieldLink RX3 9 (am_T 3 0).1 (am_T 3 0).2.1 (am_T 3 0).2.2.1, .fieldLink RX3 15 (am_T 3 1).1 (am_T 3 1).2.1 (am_T 3 1).2.2.1, .fieldLink RX3 18 (am_T 3 2).1 (am_T 3 2).2.1 (am_T 3 2).2.2.1, .fieldLink RX3 30 (am_T 0 5).1 (am_T 0 5).2.1 (am_T 0 5).2.2.1, .fieldLink RX4 10 (am_T 4 0).1 (am_T 4 0).2.1 (am_T 4 0).2.2.1, .fieldLink RX4 29 (am_T 4 1).1 (am_T 4 1).2.1 (am_T 4 1).2.2.1, .fieldLink RX4 36 (am_T 4 2).1 (am_T 4 2).2.1 (am_T 4 2).2.2.1, .fieldLink RX4 43 (am_T 4 3).1 (am_T 4 3).2.1 (am_T 4 3).2.2.1, .fieldLink RX4 47 (am_T 4 4).1 (am_T 4 4).2.1 (am_T 4 4).2.2.1, .fieldLink RX4 50 (am_T 4 5).1 (am_T 4 5).2.1 (am_T 4 5).2.2.1, .fieldLink RX4 53 (am_T 4 6).1 (am_T 4 6).2.1 (am_T 4 6).2.2.1, .fieldLink RX4 57 (am_T 4 7).1 (am_T 4 7).2.1 (am_T 4 7).2.2.1, .fieldLink RX4 85 (am_T 2 0).1 (am_T 2 0).2.1 (am_T 2 0).2.2.1, .fieldLink RX4 89 (am_T 2 1).1 (am_T 2 1).2.1 (am_T 2 1).2.2.1, .fieldLink RX4 92 (am_T 2 2).1 (am_T 2 2).2.1 (am_T 2 2).2.2.1, .fieldLink RX4 102 (am_T 1 1).1 (am_T 1 1).2.1 (am_T 1 1).2.2.1, .fieldLink RX4 123 (am_T 0 5).1 (am_T 0 5).2.1 (am_T 0 5).2.2.1, .fieldLink RX4 162 (am_T 1 0).1 (am_T 1 0).2.1 (am_T 1 0).2.2.1]
theorem am_wF_0 : [77, 80, 81, 82, 44, 78, 79, 121, 123, 50, 43, 46, 48, 105, 106, 107, 83, 131, 132, 133, 134, 135, 136, 137, 138, 45, 47, 49, 124, 84, 122].map (fun i => lw_tbl[i]?) = ((am_wF.drop 0).take 40).map some ∧ ((am_wF.drop 0).take 40).all goodWord = true := by decide +kernel
theorem am_wF_in : ∀ w ∈ am_wF, w ∈ am_GT := by
  intro w hw
  obtain ⟨k, hk⟩ := List.getElem?_of_mem hw
  by_cases h0 : k < 40
  · exact am_seg (k := k - 0) am_wF_0 (by simp only [List.getElem?_take, List.getElem?_drop]; rw [if_pos (by omega), show 0 + (k - 0) = k by omega]; exact hk)
  have := (List.getElem?_eq_some_iff.mp hk).1
  have h2 : am_wF.length = 31 := rfl
  omega
def am_wM : List Cond := [.methodLink RX0 41 (am_y 39), .methodLink RX0 45 (am_y 27), .methodLink RX0 49 (am_y 35), .methodLink RX0 53 (am_y 29), .methodLink RX0 60 (am_y 2), .methodLink RX0 64 (am_y 4), .methodLink RX0 68 (am_y 5), .methodLink RX0 72 (am_y 91), .methodLink RX0 77 (am_y 3), .methodLink RX0 83 (am_y 6), .methodLink RX0 86 (am_y 7), .methodLink RX0 89 (am_y 8), .methodLink RX0 93 (am_y 9), .methodLink RX0 96 (am_y 11), .methodLink RX0 103 (am_y 93), .methodLink RX1 19 (am_y 16), .methodLink RX1 23 (am_y 19), .methodLink RX1 27 (am_y 20), .methodLink RX2 25 (am_y 24), .methodLink RX2 33 (am_y 92), .methodLink RX2 43 (am_y 29), .methodLink RX2 47 (am_y 26), .methodLink RX2 51 (am_y 31), .methodLink RX2 54 (am_y 34), .methodLink RX2 57 (am_y 28), .methodLink RX2 63 (am_y 36), .methodLink RX2 67 (am_y 37), .methodLink RX2 70 (am_y 38), .methodLink RX2 73 (am_y 33), .methodLink RX3 22 (am_y 43), .methodLink RX3 26 (am_y 42), .methodLink RX3 41 (am_y 13), .methodLink RX4 9 (am_y 23), .methodLink RX4 16 (am_y 89), .methodLink RX4 20 (am_y 24), .methodLink RX4 26 (am_y 0), .methodLink RX4 35 (am_y 40), .methodLink RX4 42 (am_y 15), .methodLink RX4 61 (am_y 92), .methodLink RX4 67 (am_y 51), .methodLink RX4 70 (am_y 50), .methodLink RX4 74 (am_y 26), .methodLink RX4 78 (am_y 31), .methodLink RX4 81 (am_y 32), .methodLink RX4 95 (am_y 33), .methodLink RX4 99 (am_y 29), .methodLink RX4 103 (am_y 36), .methodLink RX4 107 (am_y 37), .methodLink RX4 110 (am_y 38), .methodLink RX4 113 (am_y 27), .methodLink RX4 116 (am_y 35), .methodLink RX4 119 (am_y 61), .methodLink RX4 126 (am_y 7), .methodLink RX4 129 (am_y 11), .methodLink RX4 132 (am_y 10), .methodLink RX4 135 (am_y 12), .methodLink RX4 138 (am_y 1), .methodLink RX4 142 (am_y 17), .methodLink RX4 145 (am_y 21), .methodLink RX4 148 (am_y 69), .methodLink RX4 151 (am_y 70), .methodLink RX4 154 (am_y 72), .methodLink RX4 158 (am_y 18), .methodLink RX4 161 (am_y 16), .methodLink RX4 166 (am_y 71), .methodLink RX4 170 (am_y 20), .methodLink RX4 172 (am_y 30), .methodLink RX4 175 (am_y 22), .methodLink RX4 178 (am_y 73), .methodLink RX4 182 (am_y 14), .methodLink RX4 185 (am_y 13), .methodLink RX4 188 (am_y 41), .methodLink RX4 192 (am_y 83), .methodLink RX4 196 (am_y 88), .methodLink RX4 204 (am_y 28), .methodLink RX4 207 (am_y 84), .methodLink RX4 211 (am_y 87), .methodLink RX4 215 (am_y 25), .methodLink RL 69 (am_y 52), .methodLink RL 72 (am_y 53), .methodLink RL 75 (am_y 60), .methodLink RL 78 (am_y 75), .methodLink RL 81 (am_y 56), .methodLink RL 33 (am_y 49), .methodLink RL 84 (am_y 57), .methodLink RL 87 (am_y 54), .methodLink RL 90 (am_y 79), .methodLink RL 93 (am_y 96), .methodLink RL 96 (am_y 67), .methodLink RL 99 (am_y 80), .methodLink RL 102 (am_y 74), .methodLink RL 105 (am_y 77), .methodLink RL 108 (am_y 99), .methodLink RL 112 (am_y 59), .methodLink RL 115 (am_y 63), .methodLink RL 118 (am_y 64), .methodLink RL 121 (am_y 65), .methodLink RL 124 (am_y 66), .methodLink RL 127 (am_y 58), .methodLink RL 130 (am_y 48), .methodLink RL 41 (am_y 55), .methodLink RL 133 (am_y 81), .methodLink RL 136 (am_y 82), .methodLink RL 139 (am_y 78), .methodLink RL 142 (am_y 76), .methodLink RL 22 (am_y 95), .methodLink RL 145 (am_y 85), .methodLink RL 26 (am_y 46), .methodLink RL 148 (am_y 86), .methodLink RL 37 (am_y 45), .methodLink RL 30 (am_y 47), .methodLink RL 153 (am_y 62), .methodLink RL 156 (am_y 68), .methodLink RL 11 (am_y 44), .methodLink RL 12 (am_y 94), .methodLink RL 18 (am_y 106), .methodLink RL 45 (am_y 97), .methodLink RL 48 (am_y 98), .methodLink RL 51 (am_y 100), .methodLink RL 55 (am_y 101), .methodLink RL 58 (am_y 102), .methodLink RL 61 (am_y 103), .methodLink RL 63 (am_y 104), .methodLink RL 66 (am_y 105)]
theorem am_wM_0 : [215, 245, 249, 257, 259, 262, 270, 279, 266, 275, 325, 321, 317, 313, 406, 431, 435, 427, 555, 224, 223, 194, 190, 253, 225, 219, 229, 239, 244, 521, 525, 532, 39, 61, 64, 70, 101, 117, 160, 166].map (fun i => lw_tbl[i]?) = ((am_wM.drop 0).take 40).map some ∧ ((am_wM.drop 0).take 40).all goodWord = true := by decide +kernel
theorem am_wM_40 : [174, 341, 455, 491, 186, 198, 298, 299, 304, 348, 357, 207, 342, 343, 349, 309, 211, 380, 423, 442, 446, 468, 377, 573, 450, 454, 456, 460, 472, 333, 400, 517, 362, 236, 366, 502, 547, 551, 294, 300].map (fun i => lw_tbl[i]?) = ((am_wM.drop 40).take 40).map some ∧ ((am_wM.drop 40).take 40).all goodWord = true := by decide +kernel
theorem am_wM_80 : [305, 329, 337, 182, 344, 353, 358, 370, 373, 384, 392, 396, 412, 415, 419, 438, 464, 476, 483, 487, 203, 498, 506, 513, 533, 287, 543, 170, 556, 156, 178, 565, 569, 31, 283, 560, 291, 367, 389, 480].map (fun i => lw_tbl[i]?) = ((am_wM.drop 80).take 40).map some ∧ ((am_wM.drop 80).take 40).all goodWord = true := by decide +kernel
theorem am_wM_120 : [495, 510, 537, 540].map (fun i => lw_tbl[i]?) = ((am_wM.drop 120).take 40).map some ∧ ((am_wM.drop 120).take 40).all goodWord = true := by decide +kernel
theorem am_wM_in : ∀ w ∈ am_wM, w ∈ am_GT := by
  intro w hw
  obtain ⟨k, hk⟩ := List.getElem?_of_mem hw
  by_cases h0 : k < 40
  · exact am_seg (k := k - 0) am_wM_0 (by simp only [List.getElem?_take, List.getElem?_drop]; rw [if_pos (by omega), show 0 + (k - 0) = k by omega]; exact hk)
  by_cases h40 : k < 80
  · exact am_seg (k := k - 40) am_wM_40 (by simp only [List.getElem?_take, List.getElem?_drop]; rw [if_pos (by omega), show 40 + (k - 40) = k by omega]; exact hk)
  by_cases h80 : k < 120
  · exact am_seg (k := k - 80) am_wM_80 (by simp only [List.getElem?_take, List.getElem?_drop]; rw [if_pos (by omega), show 80 + (k - 80) = k by omega]; exact hk)
  by_cases h120 : k < 160
  · exact am_seg (k := k - 120) am_wM_120 (by simp only [List.getElem?_take, List.getElem?_drop]; rw [if_pos (by omega), show 120 + (k - 120) = k by omega]; exact hk)
  have := (List.getElem?_eq_some_iff.mp hk).1
  have h2 : am_wM.length = 124 := rfl
  omega
def am_wO : List Cond := [.methodLink RX0 3 objectInit, .instanceMethod objectInit, .code objectInit ⟨#[0xb1]⟩ 1 none, .methodLink RX0 9 Lib.Math.max.name, .static Lib.Math.max.name, .initialized "java/lang/Math", .code Lib.Math.max.name Lib.Math.max.code 2 (some .int), .arrayClass .long, .arrayClass .int, .constantLong RX0 99 (532021755375), .constantLong RX0 101 (567489872400), .methodLink RX1 3 objectInit, .methodLink RX2 3 objectInit, .methodLink RX3 3 objectInit, .methodLink RX3 35 Lib.Math.min.name, .static Lib.Math.min.name, .code Lib.Math.min.name Lib.Math.min.code 2 (some .int), .methodLink RX4 1 objectInit, .classLink RX4 7 (am_cn 2), .instantiable (am_cn 2) (am_N 2), .initialized (am_cn 2), .classLink RX4 24 (am_cn 0), .instantiable (am_cn 0) (am_N 0), .initialized (am_cn 0), .classLink RX4 33 (am_cn 3), .instantiable (am_cn 3) (am_N 3), .initialized (am_cn 3), .classLink RX4 40 (am_cn 1), .instantiable (am_cn 1) (am_N 1), .initialized (am_cn 1), .classLink RX4 7 RX2, .methodLink RX4 199 Lib.Math.max.name, .constant RJ6 264 (65536), .constant RJ6 265 (1431655765), .constant RJ6 266 (858993459), .constant RJ6 267 (252645135), .constantLong RJ13 314 (6148914691236517205), .constantLong RJ13 316 (3689348814741910323), .constantLong RJ13 318 (1085102592571150095), .constant RL 7 (2146121005), .constant RL 8 (2147483647), .constant RL 151 (1000000), .constant RL 152 (262144), .classLink RL 9 (am_cn 4), .instantiable (am_cn 4) (am_N 4), .initialized (am_cn 4)]
theorem am_wO_0 : [73, 35, 36, 74, 75, 24, 76, 98, 60, 404, 405, 120, 42, 104, 529, 530, 531, 34, 37, 38, 22, 68, 69, 23, 99, 100, 25, 115, 116, 26, 37, 388, 282, 163, 164, 165, 409, 410, 411, 286].map (fun i => lw_tbl[i]?) = ((am_wO.drop 0).take 40).map some ∧ ((am_wO.drop 0).take 40).all goodWord = true := by decide +kernel
theorem am_wO_40 : [290, 563, 564, 29, 30, 21].map (fun i => lw_tbl[i]?) = ((am_wO.drop 40).take 40).map some ∧ ((am_wO.drop 40).take 40).all goodWord = true := by decide +kernel
theorem am_wO_in : ∀ w ∈ am_wO, w ∈ am_GT := by
  intro w hw
  obtain ⟨k, hk⟩ := List.getElem?_of_mem hw
  by_cases h0 : k < 40
  · exact am_seg (k := k - 0) am_wO_0 (by simp only [List.getElem?_take, List.getElem?_drop]; rw [if_pos (by omega), show 0 + (k - 0) = k by omega]; exact hk)
  by_cases h40 : k < 80
  · exact am_seg (k := k - 40) am_wO_40 (by simp only [List.getElem?_take, List.getElem?_drop]; rw [if_pos (by omega), show 40 + (k - 40) = k by omega]; exact hk)
  have := (List.getElem?_eq_some_iff.mp hk).1
  have h2 : am_wO.length = 46 := rfl
  omega
def am_mp : Nat → List Nat := fun i => match i with
  | 0 => [72, 23, 71]
  | 1 => [214, 23, 212, 213]
  | 2 => [261, 23, 260]
  | 3 => [269, 23, 268, 5]
  | 4 => [265, 23, 264, 4]
  | 5 => [273, 23, 272, 6]
  | 6 => [278, 23, 277, 7]
  | 7 => [328, 23, 326, 327]
  | 8 => [324, 23, 323, 9]
  | 9 => [320, 23, 319, 8]
  | 10 => [352, 23, 350, 351]
  | 11 => [316, 23, 314, 315]
  | 12 => [312, 23, 310, 311]
  | 13 => [403, 23, 401, 402]
  | 14 => [336, 23, 334, 335]
  | 15 => [119, 26, 118]
  | 16 => [434, 26, 432, 433]
  | 17 => [383, 26, 381, 382]
  | 18 => [379, 26, 378]
  | 19 => [437, 26, 436]
  | 20 => [430, 26, 428, 429]
  | 21 => [426, 26, 424, 425]
  | 22 => [463, 26, 461, 462]
  | 23 => [41, 22, 40]
  | 24 => [67, 22, 65, 66]
  | 25 => [554, 22, 552, 553]
  | 26 => [197, 22, 195, 196]
  | 27 => [248, 22, 246, 247]
  | 28 => [228, 22, 226, 227]
  | 29 => [201, 22, 199, 200]
  | 30 => [459, 22, 457, 458]
  | 31 => [193, 22, 191, 192]
  | 32 => [494, 22, 492, 493]
  | 33 => [189, 22, 187, 188]
  | 34 => [256, 22, 255, 3]
  | 35 => [252, 22, 250, 251]
  | 36 => [222, 22, 220, 221]
  | 37 => [232, 22, 230, 231]
  | 38 => [242, 22, 240, 241]
  | 39 => [218, 22, 216, 217]
  | 40 => [103, 25, 102]
  | 41 => [520, 25, 518, 519]
  | 42 => [528, 25, 527, 18]
  | 43 => [524, 25, 523, 17]
  | 44 => [33, 21, 32]
  | 45 => [159, 21, 157, 158]
  | 46 => [173, 21, 171, 172]
  | 47 => [181, 21, 179, 180]
  | 48 => [490, 21, 488, 489]
  | 49 => [185, 21, 183, 184]
  | 50 => [177, 21, 176, 1]
  | 51 => [169, 21, 168, 0]
  | 52 => [297, 21, 295, 296]
  | 53 => [303, 21, 301, 302]
  | 54 => [356, 21, 354, 355]
  | 55 => [206, 21, 204, 205]
  | 56 => [340, 21, 338, 339]
  | 57 => [347, 21, 345, 346]
  | 58 => [486, 21, 484, 485]
  | 59 => [418, 21, 416, 417]
  | 60 => [308, 21, 306, 307]
  | 61 => [210, 21, 209, 2]
  | 62 => [568, 21, 566, 567]
  | 63 => [422, 21, 420, 421]
  | 64 => [441, 21, 439, 440]
  | 65 => [467, 21, 465, 466]
  | 66 => [479, 21, 477, 478]
  | 67 => [376, 21, 374, 375]
  | 68 => [572, 21, 570, 571]
  | 69 => [445, 21, 444, 11]
  | 70 => [449, 21, 448, 12]
  | 71 => [453, 21, 452, 13]
  | 72 => [471, 21, 470, 14]
  | 73 => [475, 21, 474, 15]
  | 74 => [395, 21, 393, 394]
  | 75 => [332, 21, 330, 331]
  | 76 => [536, 21, 534, 535]
  | 77 => [399, 21, 397, 398]
  | 78 => [516, 21, 514, 515]
  | 79 => [361, 21, 359, 360]
  | 80 => [387, 21, 385, 386]
  | 81 => [501, 21, 499, 500]
  | 82 => [509, 21, 507, 508]
  | 83 => [365, 21, 364, 10]
  | 84 => [505, 21, 504, 16]
  | 85 => [546, 21, 544, 545]
  | 86 => [559, 21, 557, 558]
  | 87 => [550, 21, 549, 19]
  | 88 => [238, 21, 237]
  | 89 => [63, 21, 62]
  | 90 => [235, 21, 234]
  | 91 => [281, 27, 280]
  | 92 => [162, 27, 161]
  | 93 => [408, 28, 407]
  | 94 => [285, 20, 284]
  | 95 => [289, 20, 288]
  | 96 => [372, 20, 371]
  | 97 => [293, 20, 292]
  | 98 => [369, 20, 368]
  | 99 => [414, 20, 413]
  | 100 => [391, 20, 390]
  | 101 => [482, 20, 481]
  | 102 => [497, 20, 496]
  | 103 => [512, 20, 511]
  | 104 => [539, 20, 538]
  | 105 => [542, 20, 541]
  | 106 => [562, 20, 561]
  | 107 => [76, 24, 75]
  | 108 => [531, 24, 530]
  | _ => []
def am_mw (j : Nat) : List Cond := Cond.code (am_y j) (am_by j) (am_ml j) (am_rt j) :: .initialized (am_y j).cls :: (if am_kd j = 0 then [.static (am_y j)] else if am_kd j = 1 then [.instanceMethod (am_y j), .selects (am_y j).cls (am_y j) (am_y j)] else [.instanceMethod (am_y j)])
def am_mf (j : Nat) : Bool := decide ((parseMethodDescriptor (am_y j).desc).map (fun d => d.parameters.length) = some (am_ar_ j)) && decide ((am_y j).cls ≠ "java/lang/invoke/MethodHandle") && decide ((am_y j).cls ≠ "java/lang/invoke/VarHandle") && decide (am_ml j ≤ 21) && (decide ((am_mp j).map (fun i => lw_tbl[i]?) = (am_mw j).map some) && (am_mw j).all goodWord) && (if am_kd j = 2 then decide (am_rt j = none) && decide ((am_y j).name = "<init>") else decide (am_mc j = 0) && decide (am_ms j = 0)) && (if am_kd j = 1 then decide (am_ci j < 5) && decide ((am_y j).cls = am_cn (am_ci j)) else true)
set_option maxRecDepth 100000 in
theorem am_mf_0 : ∀ j, j < 10 → am_mf (0 + j) = true := by decide +kernel
set_option maxRecDepth 100000 in
theorem am_mf_10 : ∀ j, j < 10 → am_mf (10 + j) = true := by decide +kernel
set_option maxRecDepth 100000 in
theorem am_mf_20 : ∀ j, j < 10 → am_mf (20 + j) = true := by decide +kernel
set_option maxRecDepth 100000 in
theorem am_mf_30 : ∀ j, j < 10 → am_mf (30 + j) = true := by decide +kernel
set_option maxRecDepth 100000 in
theorem am_mf_40 : ∀ j, j < 10 → am_mf (40 + j) = true := by decide +kernel
set_option maxRecDepth 100000 in
theorem am_mf_50 : ∀ j, j < 10 → am_mf (50 + j) = true := by decide +kernel
set_option maxRecDepth 100000 in
theorem am_mf_60 : ∀ j, j < 10 → am_mf (60 + j) = true := by decide +kernel
set_option maxRecDepth 100000 in
theorem am_mf_70 : ∀ j, j < 10 → am_mf (70 + j) = true := by decide +kernel
set_option maxRecDepth 100000 in
theorem am_mf_80 : ∀ j, j < 10 → am_mf (80 + j) = true := by decide +kernel
end
section
set_option maxRecDepth 100000 in
theorem am_mf_90 : ∀ j, j < 1 → am_mf (90 + j) = true := by decide +kernel
set_option maxRecDepth 100000 in
theorem am_mf_91 : ∀ j, j < 1 → am_mf (91 + j) = true := by decide +kernel
set_option maxRecDepth 100000 in
theorem am_mf_92 : ∀ j, j < 1 → am_mf (92 + j) = true := by decide +kernel
set_option maxRecDepth 100000 in
theorem am_mf_93 : ∀ j, j < 1 → am_mf (93 + j) = true := by decide +kernel
set_option maxRecDepth 100000 in
theorem am_mf_94 : ∀ j, j < 1 → am_mf (94 + j) = true := by decide +kernel
set_option maxRecDepth 100000 in
theorem am_mf_95 : ∀ j, j < 1 → am_mf (95 + j) = true := by decide +kernel
set_option maxRecDepth 100000 in
theorem am_mf_96 : ∀ j, j < 1 → am_mf (96 + j) = true := by decide +kernel
set_option maxRecDepth 100000 in
theorem am_mf_97 : ∀ j, j < 1 → am_mf (97 + j) = true := by decide +kernel
set_option maxRecDepth 100000 in
theorem am_mf_98 : ∀ j, j < 1 → am_mf (98 + j) = true := by decide +kernel
set_option maxRecDepth 100000 in
theorem am_mf_99 : ∀ j, j < 1 → am_mf (99 + j) = true := by decide +kernel
set_option maxRecDepth 100000 in
theorem am_mf_100 : ∀ j, j < 1 → am_mf (100 + j) = true := by decide +kernel
set_option maxRecDepth 100000 in
theorem am_mf_101 : ∀ j, j < 1 → am_mf (101 + j) = true := by decide +kernel
set_option maxRecDepth 100000 in
theorem am_mf_102 : ∀ j, j < 1 → am_mf (102 + j) = true := by decide +kernel
set_option maxRecDepth 100000 in
theorem am_mf_103 : ∀ j, j < 1 → am_mf (103 + j) = true := by decide +kernel
set_option maxRecDepth 100000 in
theorem am_mf_104 : ∀ j, j < 1 → am_mf (104 + j) = true := by decide +kernel
set_option maxRecDepth 100000 in
theorem am_mf_105 : ∀ j, j < 1 → am_mf (105 + j) = true := by decide +kernel
set_option maxRecDepth 100000 in
theorem am_mf_106 : ∀ j, j < 1 → am_mf (106 + j) = true := by decide +kernel
set_option maxRecDepth 100000 in
theorem am_mf_107 : ∀ j, j < 1 → am_mf (107 + j) = true := by decide +kernel
set_option maxRecDepth 100000 in
theorem am_mf_108 : ∀ j, j < 1 → am_mf (108 + j) = true := by decide +kernel
end
section
theorem am_mf_all {j : Nat} (h : j < 109) : am_mf j = true := by
  by_cases h0 : j < 10
  · have := am_mf_0 (j - 0) (by omega); rwa [show 0 + (j - 0) = j by omega] at this
  by_cases h10 : j < 20
  · have := am_mf_10 (j - 10) (by omega); rwa [show 10 + (j - 10) = j by omega] at this
  by_cases h20 : j < 30
  · have := am_mf_20 (j - 20) (by omega); rwa [show 20 + (j - 20) = j by omega] at this
  by_cases h30 : j < 40
  · have := am_mf_30 (j - 30) (by omega); rwa [show 30 + (j - 30) = j by omega] at this
  by_cases h40 : j < 50
  · have := am_mf_40 (j - 40) (by omega); rwa [show 40 + (j - 40) = j by omega] at this
  by_cases h50 : j < 60
  · have := am_mf_50 (j - 50) (by omega); rwa [show 50 + (j - 50) = j by omega] at this
  by_cases h60 : j < 70
  · have := am_mf_60 (j - 60) (by omega); rwa [show 60 + (j - 60) = j by omega] at this
  by_cases h70 : j < 80
  · have := am_mf_70 (j - 70) (by omega); rwa [show 70 + (j - 70) = j by omega] at this
  by_cases h80 : j < 90
  · have := am_mf_80 (j - 80) (by omega); rwa [show 80 + (j - 80) = j by omega] at this
  by_cases h90 : j < 91
  · have := am_mf_90 (j - 90) (by omega); rwa [show 90 + (j - 90) = j by omega] at this
  by_cases h91 : j < 92
  · have := am_mf_91 (j - 91) (by omega); rwa [show 91 + (j - 91) = j by omega] at this
  by_cases h92 : j < 93
  · have := am_mf_92 (j - 92) (by omega); rwa [show 92 + (j - 92) = j by omega] at this
  by_cases h93 : j < 94
  · have := am_mf_93 (j - 93) (by omega); rwa [show 93 + (j - 93) = j by omega] at this
  by_cases h94 : j < 95
  · have := am_mf_94 (j - 94) (by omega); rwa [show 94 + (j - 94) = j by omega] at this
  by_cases h95 : j < 96
  · have := am_mf_95 (j - 95) (by omega); rwa [show 95 + (j - 95) = j by omega] at this
  by_cases h96 : j < 97
  · have := am_mf_96 (j - 96) (by omega); rwa [show 96 + (j - 96) = j by omega] at this
  by_cases h97 : j < 98
  · have := am_mf_97 (j - 97) (by omega); rwa [show 97 + (j - 97) = j by omega] at this
  by_cases h98 : j < 99
  · have := am_mf_98 (j - 98) (by omega); rwa [show 98 + (j - 98) = j by omega] at this
  by_cases h99 : j < 100
  · have := am_mf_99 (j - 99) (by omega); rwa [show 99 + (j - 99) = j by omega] at this
  by_cases h100 : j < 101
  · have := am_mf_100 (j - 100) (by omega); rwa [show 100 + (j - 100) = j by omega] at this
  by_cases h101 : j < 102
  · have := am_mf_101 (j - 101) (by omega); rwa [show 101 + (j - 101) = j by omega] at this
  by_cases h102 : j < 103
  · have := am_mf_102 (j - 102) (by omega); rwa [show 102 + (j - 102) = j by omega] at this
  by_cases h103 : j < 104
  · have := am_mf_103 (j - 103) (by omega); rwa [show 103 + (j - 103) = j by omega] at this
  by_cases h104 : j < 105
  · have := am_mf_104 (j - 104) (by omega); rwa [show 104 + (j - 104) = j by omega] at this
  by_cases h105 : j < 106
  · have := am_mf_105 (j - 105) (by omega); rwa [show 105 + (j - 105) = j by omega] at this
  by_cases h106 : j < 107
  · have := am_mf_106 (j - 106) (by omega); rwa [show 106 + (j - 106) = j by omega] at this
  by_cases h107 : j < 108
  · have := am_mf_107 (j - 107) (by omega); rwa [show 107 + (j - 107) = j by omega] at this
  by_cases h108 : j < 109
  · have := am_mf_108 (j - 108) (by omega); rwa [show 108 + (j - 108) = j by omega] at this
  omega
theorem am_mwIn {j : Nat} (h : am_mf j = true) {w : Cond} (hw : w ∈ am_mw j) : w ∈ am_GT := by
  simp only [am_mf, Bool.and_eq_true] at h
  obtain ⟨k, hk⟩ := List.getElem?_of_mem hw
  have q := h.1.1.2
  simp only [Bool.and_eq_true, decide_eq_true_eq] at q
  exact am_seg q hk
theorem am_mfs1 {j : Nat} (h : am_mf j = true) (hk : am_kd j = 1) : (parseMethodDescriptor (am_y j).desc).map (fun d => d.parameters.length) = some (am_ar_ j) ∧ ((am_y j).cls ≠ "java/lang/invoke/MethodHandle" ∧ (am_y j).cls ≠ "java/lang/invoke/VarHandle") ∧ am_ml j ≤ 21 ∧ (am_mc j = 0 ∧ am_ms j = 0) ∧ am_ci j < 5 ∧ (am_y j).cls = am_cn (am_ci j) ∧ True := by
  simp only [am_mf, Bool.and_eq_true, decide_eq_true_eq, hk, if_true, show ¬ (1 : Nat) = 2 by decide, if_false] at h
  obtain ⟨⟨⟨⟨⟨⟨h1, h2⟩, h3⟩, h4⟩, h5⟩, h6⟩, h7⟩ := h
  exact ⟨h1, ⟨h2, h3⟩, h4, h6, h7.1, h7.2, trivial⟩
theorem am_mfs0 {j : Nat} (h : am_mf j = true) (hk : am_kd j = 0) : (parseMethodDescriptor (am_y j).desc).map (fun d => d.parameters.length) = some (am_ar_ j) ∧ ((am_y j).cls ≠ "java/lang/invoke/MethodHandle" ∧ (am_y j).cls ≠ "java/lang/invoke/VarHandle") ∧ am_ml j ≤ 21 ∧ (am_mc j = 0 ∧ am_ms j = 0) := by
  simp only [am_mf, Bool.and_eq_true, decide_eq_true_eq, hk, show ¬ (0 : Nat) = 2 by decide, if_false] at h
  obtain ⟨⟨⟨⟨⟨⟨h1, h2⟩, h3⟩, h4⟩, h5⟩, h6⟩, h7⟩ := h
  exact ⟨h1, ⟨h2, h3⟩, h4, h6⟩
theorem am_mfs2 {j : Nat} (h : am_mf j = true) (hk : am_kd j = 2) : (parseMethodDescriptor (am_y j).desc).map (fun d => d.parameters.length) = some (am_ar_ j) ∧ ((am_y j).cls ≠ "java/lang/invoke/MethodHandle" ∧ (am_y j).cls ≠ "java/lang/invoke/VarHandle") ∧ am_ml j ≤ 21 ∧ am_rt j = none ∧ (am_y j).name = "<init>" := by
  simp only [am_mf, Bool.and_eq_true, decide_eq_true_eq, hk, if_true] at h
  obtain ⟨⟨⟨⟨⟨⟨h1, h2⟩, h3⟩, h4⟩, h5⟩, h6⟩, h7⟩ := h
  exact ⟨h1, ⟨h2, h3⟩, h4, h6.1, h6.2⟩
def am_ck (i pc : Nat) (ins : Instr) (n op aa bb xx : Nat) (v : Int32) (w : Int64) : Bool := match ins with
  | .iload_n k => decide (op = 1) && decide ((k : Nat) = aa) && decide (n = 1)
  | .iload k => decide (op = 1) && decide (k = aa) && decide (n = 2)
  | .aload_n k => decide (op = 2) && decide ((k : Nat) = aa) && decide (n = 1)
  | .aload k => decide (op = 2) && decide (k = aa) && decide (n = 2)
  | .lload_n k => decide (op = 3) && decide ((k : Nat) = aa) && decide (n = 1)
  | .lload k => decide (op = 3) && decide (k = aa) && decide (n = 2)
  | .istore_n k => decide (op = 6) && decide ((k : Nat) = aa) && decide (n = 1) && decide (aa < am_ml i)
  | .istore k => decide (op = 6) && decide (k = aa) && decide (n = 2) && decide (aa < am_ml i)
  | .astore_n k => decide (op = 7) && decide ((k : Nat) = aa) && decide (n = 1) && decide (aa < am_ml i)
  | .astore k => decide (op = 7) && decide (k = aa) && decide (n = 2) && decide (aa < am_ml i)
  | .lstore_n k => decide (op = 8) && decide ((k : Nat) = aa) && decide (n = 1) && decide (aa + 1 < am_ml i)
  | .lstore k => decide (op = 8) && decide (k = aa) && decide (n = 2) && decide (aa + 1 < am_ml i)
  | .iconst z => decide (op = 4) && decide (Int32.ofInt z = v) && decide (n = 1)
  | .bipush z => decide (op = 4) && decide ((Int8.ofInt z).toInt32 = v) && decide (n = 2)
  | .sipush z => decide (op = 4) && decide ((Int16.ofInt z).toInt32 = v) && decide (n = 3)
  | .ldc z => decide (op = 4) && decide (z = xx) && decide (n = 2) && decide (Cond.constant (am_mo i) xx v ∈ am_wO)
  | .ldc_w z => decide (op = 4) && decide (z = xx) && decide (n = 3) && decide (Cond.constant (am_mo i) xx v ∈ am_wO)
  | .lconst z => decide (op = 5) && decide (Int64.ofNat (z : Nat) = w) && decide (n = 1)
  | .ldc2_w z => decide (op = 5) && decide (z = xx) && decide (n = 3) && decide (Cond.constantLong (am_mo i) xx w ∈ am_wO)
  | .iinc k z => decide (op = 9) && decide (k = aa) && decide (n = 3) && decide (Int32.ofInt z = v) && decide (aa < am_ml i)
  | .iadd => decide (op = 10) && decide (n = 1)
  | .isub => decide (op = 11) && decide (n = 1)
  | .imul => decide (op = 12) && decide (n = 1)
  | .idiv => decide (op = 13) && decide (n = 1)
  | .irem => decide (op = 14) && decide (n = 1)
  | .ineg => decide (op = 15) && decide (n = 1)
  | .ishl => decide (op = 16) && decide (n = 1)
  | .ishr => decide (op = 17) && decide (n = 1)
  | .iushr => decide (op = 18) && decide (n = 1)
  | .iand => decide (op = 19) && decide (n = 1)
  | .ior => decide (op = 20) && decide (n = 1)
  | .ixor => decide (op = 21) && decide (n = 1)
  | .ladd => decide (op = 22) && decide (n = 1)
  | .lsub => decide (op = 23) && decide (n = 1)
  | .land => decide (op = 24) && decide (n = 1)
  | .lor => decide (op = 25) && decide (n = 1)
  | .lxor => decide (op = 26) && decide (n = 1)
  | .lshl => decide (op = 27) && decide (n = 1)
  | .lshr => decide (op = 28) && decide (n = 1)
  | .lushr => decide (op = 29) && decide (n = 1)
  | .lcmp => decide (op = 30) && decide (n = 1)
  | .l2i => decide (op = 31) && decide (n = 1)
  | .i2l => decide (op = 32) && decide (n = 1)
  | .iaload => decide (op = 51) && decide (n = 1)
  | .iastore => decide (op = 52) && decide (n = 1)
  | .laload => decide (op = 53) && decide (n = 1)
  | .lastore => decide (op = 54) && decide (n = 1)
  | .baload => decide (op = 55) && decide (n = 1)
  | .bastore => decide (op = 56) && decide (n = 1)
  | .aaload => decide (op = 57) && decide (n = 1)
  | .aastore => decide (op = 58) && decide (n = 1)
  | .arraylength => decide (op = 59) && decide (n = 1)
  | .dup => decide (op = 63) && decide (n = 1)
  | .aconst_null => decide (op = 64) && decide (n = 1)
  | .ireturn => decide (op = 70) && decide (n = 1) && (decide (am_rt i = some .int ∧ ¬ aa = 1) || decide (am_rt i = some .boolean ∧ aa = 1))
  | .lreturn => decide (op = 71) && decide (n = 1) && decide (am_rt i = some .long)
  | .areturn => decide (op = 72) && decide (n = 1) && (match am_rt i with | some (.object _) => true | _ => false)
  | .return_ => decide (op = 73) && decide (n = 1) && decide (am_rt i = none)
  | .if_icmp .eq off => decide (op = 33) && decide ((pc : Int) + off = (aa : Int)) && decide (n = 3)
  | .ifCond .eq off => decide (op = 39) && decide ((pc : Int) + off = (aa : Int)) && decide (n = 3)
  | .if_icmp .ne off => decide (op = 34) && decide ((pc : Int) + off = (aa : Int)) && decide (n = 3)
  | .ifCond .ne off => decide (op = 40) && decide ((pc : Int) + off = (aa : Int)) && decide (n = 3)
  | .if_icmp .lt off => decide (op = 35) && decide ((pc : Int) + off = (aa : Int)) && decide (n = 3)
  | .ifCond .lt off => decide (op = 41) && decide ((pc : Int) + off = (aa : Int)) && decide (n = 3)
  | .if_icmp .ge off => decide (op = 36) && decide ((pc : Int) + off = (aa : Int)) && decide (n = 3)
  | .ifCond .ge off => decide (op = 42) && decide ((pc : Int) + off = (aa : Int)) && decide (n = 3)
  | .if_icmp .gt off => decide (op = 37) && decide ((pc : Int) + off = (aa : Int)) && decide (n = 3)
  | .ifCond .gt off => decide (op = 43) && decide ((pc : Int) + off = (aa : Int)) && decide (n = 3)
  | .if_icmp .le off => decide (op = 38) && decide ((pc : Int) + off = (aa : Int)) && decide (n = 3)
  | .ifCond .le off => decide (op = 44) && decide ((pc : Int) + off = (aa : Int)) && decide (n = 3)
  | .goto off => decide (op = 45) && decide ((pc : Int) + off = (aa : Int)) && decide (n = 3)
  | .ifnonnull off => decide (op = 46) && decide ((pc : Int) + off = (aa : Int)) && decide (n = 3)
  | .getfield z => decide (op = 48) && decide (z = xx) && decide (n = 3) && decide (aa < 5) && decide (bb < am_N aa) && decide (Cond.fieldLink (am_mo i) xx (am_T aa bb).1 (am_T aa bb).2.1 (am_T aa bb).2.2.1 ∈ am_wF)
  | .putfield z => (decide (op = 49) && decide ((am_T aa bb).2.2.2 = false) || decide (op = 50) && decide ((am_T aa bb).2.2.2 = true) && decide ((am_y i).name = "<init>") && decide ((am_T aa bb).1 = am_mo i)) && decide (z = xx) && decide (n = 3) && decide (aa < 5) && decide (bb < am_N aa) && decide (Cond.fieldLink (am_mo i) xx (am_T aa bb).1 (am_T aa bb).2.1 (am_T aa bb).2.2.1 ∈ am_wF)
  | .new z => decide (op = 60) && decide (z = xx) && decide (n = 3) && decide (aa < 5) && decide (Cond.classLink (am_mo i) xx (am_cn aa) ∈ am_wO) && decide (Cond.instantiable (am_cn aa) (am_N aa) ∈ am_wO) && decide (Cond.initialized (am_cn aa) ∈ am_wO)
  | .newarray .int => decide (op = 61) && decide (aa = 0) && decide (n = 2) && decide (Cond.arrayClass .int ∈ am_wO)
  | .newarray .boolean => decide (op = 61) && decide (aa = 1) && decide (n = 2) && decide (Cond.arrayClass .boolean ∈ am_wO)
  | .newarray .long => decide (op = 61) && decide (aa = 2) && decide (n = 2) && decide (Cond.arrayClass .long ∈ am_wO)
  | .anewarray z => decide (op = 62) && decide (z = xx) && decide (n = 3) && decide (Cond.classLink (am_mo i) xx RX2 ∈ am_wO)
  | .invokevirtual z => decide (op = 65) && decide (z = xx) && decide (n = 3) && decide (aa < 109) && decide (bb = am_ar_ aa) && decide (am_kd aa = 1) && decide (Cond.methodLink (am_mo i) xx (am_y aa) ∈ am_wM)
  | .invokestatic z => (decide (op = 75) && decide (z = xx) && decide (n = 3) && decide (Cond.methodLink (am_mo i) xx Lib.Math.max.name ∈ am_wO)) || (decide (op = 76) && decide (z = xx) && decide (n = 3) && decide (Cond.methodLink (am_mo i) xx Lib.Math.min.name ∈ am_wO)) || (((decide (op = 66) && decide (Cond.methodLink (am_mo i) xx (am_y aa) ∈ am_wM)) || (decide (op = 67) && decide ((am_mo i, xx, am_y aa, RX4) ∈ am_nl))) && decide (z = xx) && decide (n = 3) && decide (aa < 109) && decide (bb = am_ar_ aa) && decide (am_kd aa = 0))
  | .invokespecial z => (decide (op = 69) && decide (z = xx) && decide (n = 3) && decide (Cond.methodLink (am_mo i) xx objectInit ∈ am_wO)) || (decide (op = 68) && decide (z = xx) && decide (n = 3) && decide (aa < 109) && decide (bb = am_ar_ aa) && decide (am_kd aa = 2) && decide (Cond.methodLink (am_mo i) xx (am_y aa) ∈ am_wM))
  | .tableswitch d lo hi offs => decide (op = 74) && decide ((pc : Int) + d = (aa : Int)) && decide (lo = v.toInt) && decide (0 ≤ lo) && decide (hi + 1 = lo + (am_swt i pc).length) && decide (hi < 1000) && decide (offs.toList.map (fun off => (pc : Int) + off) = (am_swt i pc).map (fun (t : Nat) => (t : Int)))
  | _ => false
def am_chk (i : Nat) (q : Nat × am_I) : Bool := match decode (am_by i) q.1 with
  | .ok (ins, n) => decide (q.2.2.1 = q.1 + n) && am_ck i q.1 ins n q.2.1 q.2.2.2.1 q.2.2.2.2.1 q.2.2.2.2.2.1 q.2.2.2.2.2.2.1 q.2.2.2.2.2.2.2
  | .error _ => false
set_option maxHeartbeats 4000000 in
theorem am_sound0 {X : Nat × (Nat → Int32)} {D i pc op nx aa bb xx n : Nat} {ins : Instr} {v : Int32} {w : Int64} {L : List (Option Value)} {st : List Value} {G : am_H} {c s : Nat} {P : Option Value → am_H → Prop} (hd : decode (am_by i) pc = .ok (ins, n)) (hn : nx = pc + n) (hk : am_ck i pc ins n op aa bb xx v w = true) (hcs : c ≤ am_mc i ∧ s ≤ am_ms i) (h : am_step X D i pc op nx aa bb v w L st G c s P (am_go X D i P)) : am_WP X D i pc L st G c s P := by
  unfold am_ck at hk
  split at hk
  · next k =>
    simp only [Bool.and_eq_true, decide_eq_true_eq] at hk
    obtain ⟨⟨e1, e2⟩, e3⟩ := hk
    subst e1; subst e3; exact am_z1 (Or.inl ⟨k, hd, e2, hn⟩) h
  · next k =>
    simp only [Bool.and_eq_true, decide_eq_true_eq] at hk
    obtain ⟨⟨e1, e2⟩, e3⟩ := hk
    subst e1; subst e2; subst e3; exact am_z1 (Or.inr ⟨hd, hn⟩) h
  · next k =>
    simp only [Bool.and_eq_true, decide_eq_true_eq] at hk
    obtain ⟨⟨e1, e2⟩, e3⟩ := hk
    subst e1; subst e3; exact am_z2 (Or.inl ⟨k, hd, e2, hn⟩) h
  · next k =>
    simp only [Bool.and_eq_true, decide_eq_true_eq] at hk
    obtain ⟨⟨e1, e2⟩, e3⟩ := hk
    subst e1; subst e2; subst e3; exact am_z2 (Or.inr ⟨hd, hn⟩) h
  · next k =>
    simp only [Bool.and_eq_true, decide_eq_true_eq] at hk
    obtain ⟨⟨e1, e2⟩, e3⟩ := hk
    subst e1; subst e3; exact am_z3 (Or.inl ⟨k, hd, e2, hn⟩) h
  · next k =>
    simp only [Bool.and_eq_true, decide_eq_true_eq] at hk
    obtain ⟨⟨e1, e2⟩, e3⟩ := hk
    subst e1; subst e2; subst e3; exact am_z3 (Or.inr ⟨hd, hn⟩) h
  · next k =>
    simp only [Bool.and_eq_true, decide_eq_true_eq] at hk
    obtain ⟨⟨⟨e1, e2⟩, e3⟩, e4⟩ := hk
    subst e1; subst e3; exact am_z6 e4 (Or.inl ⟨k, hd, e2, hn⟩) h
  · next k =>
    simp only [Bool.and_eq_true, decide_eq_true_eq] at hk
    obtain ⟨⟨⟨e1, e2⟩, e3⟩, e4⟩ := hk
    subst e1; subst e2; subst e3; exact am_z6 e4 (Or.inr ⟨hd, hn⟩) h
  · next k =>
    simp only [Bool.and_eq_true, decide_eq_true_eq] at hk
    obtain ⟨⟨⟨e1, e2⟩, e3⟩, e4⟩ := hk
    subst e1; subst e3; exact am_z7 e4 (Or.inl ⟨k, hd, e2, hn⟩) h
  · next k =>
    simp only [Bool.and_eq_true, decide_eq_true_eq] at hk
    obtain ⟨⟨⟨e1, e2⟩, e3⟩, e4⟩ := hk
    subst e1; subst e2; subst e3; exact am_z7 e4 (Or.inr ⟨hd, hn⟩) h
  · next k =>
    simp only [Bool.and_eq_true, decide_eq_true_eq] at hk
    obtain ⟨⟨⟨e1, e2⟩, e3⟩, e4⟩ := hk
    subst e1; subst e3; exact am_z8 e4 (Or.inl ⟨k, hd, e2, hn⟩) h
  · next k =>
    simp only [Bool.and_eq_true, decide_eq_true_eq] at hk
    obtain ⟨⟨⟨e1, e2⟩, e3⟩, e4⟩ := hk
    subst e1; subst e2; subst e3; exact am_z8 e4 (Or.inr ⟨hd, hn⟩) h
  · next z =>
    simp only [Bool.and_eq_true, decide_eq_true_eq] at hk
    obtain ⟨⟨e1, e2⟩, e3⟩ := hk
    subst e1; subst e3; exact am_z4 (xx := xx) (Or.inl ⟨z, hd, e2, hn⟩) h
  · next z =>
    simp only [Bool.and_eq_true, decide_eq_true_eq] at hk
    obtain ⟨⟨e1, e2⟩, e3⟩ := hk
    subst e1; subst e3; exact am_z4 (xx := xx) (Or.inr (Or.inl ⟨z, hd, e2, hn⟩)) h
  · next z =>
    simp only [Bool.and_eq_true, decide_eq_true_eq] at hk
    obtain ⟨⟨e1, e2⟩, e3⟩ := hk
    subst e1; subst e3; exact am_z4 (xx := xx) (Or.inr (Or.inr (Or.inl ⟨z, hd, e2, hn⟩))) h
  · next z =>
    simp only [Bool.and_eq_true, decide_eq_true_eq] at hk
    obtain ⟨⟨⟨e1, e2⟩, e3⟩, e4⟩ := hk
    subst e1; subst e2; subst e3; exact am_z4 (Or.inr (Or.inr (Or.inr (Or.inl ⟨hd, am_wO_in _ e4, hn⟩)))) h
  · next z =>
    simp only [Bool.and_eq_true, decide_eq_true_eq] at hk
    obtain ⟨⟨⟨e1, e2⟩, e3⟩, e4⟩ := hk
    subst e1; subst e2; subst e3; exact am_z4 (Or.inr (Or.inr (Or.inr (Or.inr ⟨hd, am_wO_in _ e4, hn⟩)))) h
  · next z =>
    simp only [Bool.and_eq_true, decide_eq_true_eq] at hk
    obtain ⟨⟨e1, e2⟩, e3⟩ := hk
    subst e1; subst e3; exact am_z5 (xx := xx) (Or.inl ⟨z, hd, e2, hn⟩) h
  · next z =>
    simp only [Bool.and_eq_true, decide_eq_true_eq] at hk
    obtain ⟨⟨⟨e1, e2⟩, e3⟩, e4⟩ := hk
    subst e1; subst e2; subst e3; exact am_z5 (Or.inr ⟨hd, am_wO_in _ e4, hn⟩) h
  · next k z =>
    simp only [Bool.and_eq_true, decide_eq_true_eq] at hk
    obtain ⟨⟨⟨⟨e1, e2⟩, e3⟩, e4⟩, e5⟩ := hk
    subst e1; subst e2; subst e3; exact am_z9 e5 ⟨z, hd, e4⟩ hn h
  · skip
    simp only [Bool.and_eq_true, decide_eq_true_eq] at hk
    obtain ⟨e1, e2⟩ := hk
    subst e1; subst e2; exact am_z10 hd hn h
  · skip
    simp only [Bool.and_eq_true, decide_eq_true_eq] at hk
    obtain ⟨e1, e2⟩ := hk
    subst e1; subst e2; exact am_z11 hd hn h
  · skip
    simp only [Bool.and_eq_true, decide_eq_true_eq] at hk
    obtain ⟨e1, e2⟩ := hk
    subst e1; subst e2; exact am_z12 hd hn h
  · skip
    simp only [Bool.and_eq_true, decide_eq_true_eq] at hk
    obtain ⟨e1, e2⟩ := hk
    subst e1; subst e2; exact am_z13 hd hn h
  · skip
    simp only [Bool.and_eq_true, decide_eq_true_eq] at hk
    obtain ⟨e1, e2⟩ := hk
    subst e1; subst e2; exact am_z14 hd hn h
  · skip
    simp only [Bool.and_eq_true, decide_eq_true_eq] at hk
    obtain ⟨e1, e2⟩ := hk
    subst e1; subst e2; exact am_z15 hd hn h
  · skip
    simp only [Bool.and_eq_true, decide_eq_true_eq] at hk
    obtain ⟨e1, e2⟩ := hk
    subst e1; subst e2; exact am_z16 hd hn h
  · skip
    simp only [Bool.and_eq_true, decide_eq_true_eq] at hk
    obtain ⟨e1, e2⟩ := hk
    subst e1; subst e2; exact am_z17 hd hn h
  · skip
    simp only [Bool.and_eq_true, decide_eq_true_eq] at hk
    obtain ⟨e1, e2⟩ := hk
    subst e1; subst e2; exact am_z18 hd hn h
  · skip
    simp only [Bool.and_eq_true, decide_eq_true_eq] at hk
    obtain ⟨e1, e2⟩ := hk
    subst e1; subst e2; exact am_z19 hd hn h
  · skip
    simp only [Bool.and_eq_true, decide_eq_true_eq] at hk
    obtain ⟨e1, e2⟩ := hk
    subst e1; subst e2; exact am_z20 hd hn h
  · skip
    simp only [Bool.and_eq_true, decide_eq_true_eq] at hk
    obtain ⟨e1, e2⟩ := hk
    subst e1; subst e2; exact am_z21 hd hn h
  · skip
    simp only [Bool.and_eq_true, decide_eq_true_eq] at hk
    obtain ⟨e1, e2⟩ := hk
    subst e1; subst e2; exact am_z22 hd hn h
  · skip
    simp only [Bool.and_eq_true, decide_eq_true_eq] at hk
    obtain ⟨e1, e2⟩ := hk
    subst e1; subst e2; exact am_z23 hd hn h
  · skip
    simp only [Bool.and_eq_true, decide_eq_true_eq] at hk
    obtain ⟨e1, e2⟩ := hk
    subst e1; subst e2; exact am_z24 hd hn h
  · skip
    simp only [Bool.and_eq_true, decide_eq_true_eq] at hk
    obtain ⟨e1, e2⟩ := hk
    subst e1; subst e2; exact am_z25 hd hn h
  · skip
    simp only [Bool.and_eq_true, decide_eq_true_eq] at hk
    obtain ⟨e1, e2⟩ := hk
    subst e1; subst e2; exact am_z26 hd hn h
  · skip
    simp only [Bool.and_eq_true, decide_eq_true_eq] at hk
    obtain ⟨e1, e2⟩ := hk
    subst e1; subst e2; exact am_z27 hd hn h
  · skip
    simp only [Bool.and_eq_true, decide_eq_true_eq] at hk
    obtain ⟨e1, e2⟩ := hk
    subst e1; subst e2; exact am_z28 hd hn h
  · skip
    simp only [Bool.and_eq_true, decide_eq_true_eq] at hk
    obtain ⟨e1, e2⟩ := hk
    subst e1; subst e2; exact am_z29 hd hn h
  · skip
    simp only [Bool.and_eq_true, decide_eq_true_eq] at hk
    obtain ⟨e1, e2⟩ := hk
    subst e1; subst e2; exact am_z30 hd hn h
  · skip
    simp only [Bool.and_eq_true, decide_eq_true_eq] at hk
    obtain ⟨e1, e2⟩ := hk
    subst e1; subst e2; exact am_z31 hd hn h
  · skip
    simp only [Bool.and_eq_true, decide_eq_true_eq] at hk
    obtain ⟨e1, e2⟩ := hk
    subst e1; subst e2; exact am_z32 hd hn h
  · skip
    simp only [Bool.and_eq_true, decide_eq_true_eq] at hk
    obtain ⟨e1, e2⟩ := hk
    subst e1; subst e2; exact am_z51 hd hn h
  · skip
    simp only [Bool.and_eq_true, decide_eq_true_eq] at hk
    obtain ⟨e1, e2⟩ := hk
    subst e1; subst e2; exact am_z52 hd hn h
  · skip
    simp only [Bool.and_eq_true, decide_eq_true_eq] at hk
    obtain ⟨e1, e2⟩ := hk
    subst e1; subst e2; exact am_z53 hd hn h
  · skip
    simp only [Bool.and_eq_true, decide_eq_true_eq] at hk
    obtain ⟨e1, e2⟩ := hk
    subst e1; subst e2; exact am_z54 hd hn h
  · skip
    simp only [Bool.and_eq_true, decide_eq_true_eq] at hk
    obtain ⟨e1, e2⟩ := hk
    subst e1; subst e2; exact am_z55 hd hn h
  · skip
    simp only [Bool.and_eq_true, decide_eq_true_eq] at hk
    obtain ⟨e1, e2⟩ := hk
    subst e1; subst e2; exact am_z56 hd hn h
  · skip
    simp only [Bool.and_eq_true, decide_eq_true_eq] at hk
    obtain ⟨e1, e2⟩ := hk
    subst e1; subst e2; exact am_z57 hd hn h
  · skip
    simp only [Bool.and_eq_true, decide_eq_true_eq] at hk
    obtain ⟨e1, e2⟩ := hk
    subst e1; subst e2; exact am_z58 hd hn h
  · skip
    simp only [Bool.and_eq_true, decide_eq_true_eq] at hk
    obtain ⟨e1, e2⟩ := hk
    subst e1; subst e2; exact am_z59 hd hn h
  · skip
    simp only [Bool.and_eq_true, decide_eq_true_eq] at hk
    obtain ⟨e1, e2⟩ := hk
    subst e1; subst e2; exact am_z63 hd hn h
  · skip
    simp only [Bool.and_eq_true, decide_eq_true_eq] at hk
    obtain ⟨e1, e2⟩ := hk
    subst e1; subst e2; exact am_z64 hd hn h
  · skip
    simp only [Bool.and_eq_true, decide_eq_true_eq] at hk
    obtain ⟨⟨e1, e2⟩, e3⟩ := hk
    subst e1; subst e2; simp only [Bool.or_eq_true, decide_eq_true_eq] at e3; exact am_z70 e3 hd h
  · skip
    simp only [Bool.and_eq_true, decide_eq_true_eq] at hk
    obtain ⟨⟨e1, e2⟩, e3⟩ := hk
    subst e1; subst e2; exact am_z71 e3 hd h
  · skip
    simp only [Bool.and_eq_true, decide_eq_true_eq] at hk
    obtain ⟨⟨e1, e2⟩, e3⟩ := hk
    subst e1; subst e2; exact am_z72 (by revert e3; cases am_rt i with | none => (intro q; cases q) | some t => (cases t <;> intro q <;> first | exact ⟨_, rfl⟩ | cases q)) hd h
  · skip
    simp only [Bool.and_eq_true, decide_eq_true_eq] at hk
    obtain ⟨⟨e1, e2⟩, e3⟩ := hk
    subst e1; subst e2; exact am_z73 e3 hd h
  · next off =>
    simp only [Bool.and_eq_true, decide_eq_true_eq] at hk
    obtain ⟨⟨e1, e2⟩, e3⟩ := hk
    subst e1; subst e3; exact am_z33 ⟨off, hd, e2⟩ hn h
  · next off =>
    simp only [Bool.and_eq_true, decide_eq_true_eq] at hk
    obtain ⟨⟨e1, e2⟩, e3⟩ := hk
    subst e1; subst e3; exact am_z39 ⟨off, hd, e2⟩ hn h
  · next off =>
    simp only [Bool.and_eq_true, decide_eq_true_eq] at hk
    obtain ⟨⟨e1, e2⟩, e3⟩ := hk
    subst e1; subst e3; exact am_z34 ⟨off, hd, e2⟩ hn h
  · next off =>
    simp only [Bool.and_eq_true, decide_eq_true_eq] at hk
    obtain ⟨⟨e1, e2⟩, e3⟩ := hk
    subst e1; subst e3; exact am_z40 ⟨off, hd, e2⟩ hn h
  · next off =>
    simp only [Bool.and_eq_true, decide_eq_true_eq] at hk
    obtain ⟨⟨e1, e2⟩, e3⟩ := hk
    subst e1; subst e3; exact am_z35 ⟨off, hd, e2⟩ hn h
  · next off =>
    simp only [Bool.and_eq_true, decide_eq_true_eq] at hk
    obtain ⟨⟨e1, e2⟩, e3⟩ := hk
    subst e1; subst e3; exact am_z41 ⟨off, hd, e2⟩ hn h
  · next off =>
    simp only [Bool.and_eq_true, decide_eq_true_eq] at hk
    obtain ⟨⟨e1, e2⟩, e3⟩ := hk
    subst e1; subst e3; exact am_z36 ⟨off, hd, e2⟩ hn h
  · next off =>
    simp only [Bool.and_eq_true, decide_eq_true_eq] at hk
    obtain ⟨⟨e1, e2⟩, e3⟩ := hk
    subst e1; subst e3; exact am_z42 ⟨off, hd, e2⟩ hn h
  · next off =>
    simp only [Bool.and_eq_true, decide_eq_true_eq] at hk
    obtain ⟨⟨e1, e2⟩, e3⟩ := hk
    subst e1; subst e3; exact am_z37 ⟨off, hd, e2⟩ hn h
  · next off =>
    simp only [Bool.and_eq_true, decide_eq_true_eq] at hk
    obtain ⟨⟨e1, e2⟩, e3⟩ := hk
    subst e1; subst e3; exact am_z43 ⟨off, hd, e2⟩ hn h
  · next off =>
    simp only [Bool.and_eq_true, decide_eq_true_eq] at hk
    obtain ⟨⟨e1, e2⟩, e3⟩ := hk
    subst e1; subst e3; exact am_z38 ⟨off, hd, e2⟩ hn h
  · next off =>
    simp only [Bool.and_eq_true, decide_eq_true_eq] at hk
    obtain ⟨⟨e1, e2⟩, e3⟩ := hk
    subst e1; subst e3; exact am_z44 ⟨off, hd, e2⟩ hn h
  · next off =>
    simp only [Bool.and_eq_true, decide_eq_true_eq] at hk
    obtain ⟨⟨e1, e2⟩, e3⟩ := hk
    subst e1; subst e3; exact am_z45 ⟨off, hd, e2⟩ h
  · next off =>
    simp only [Bool.and_eq_true, decide_eq_true_eq] at hk
    obtain ⟨⟨e1, e2⟩, e3⟩ := hk
    subst e1; subst e3; exact am_z46 ⟨off, hd, e2⟩ hn h
  · next z =>
    simp only [Bool.and_eq_true, decide_eq_true_eq] at hk
    obtain ⟨⟨⟨⟨⟨e1, e2⟩, e3⟩, e4⟩, e5⟩, e6⟩ := hk
    subst e1; subst e2; subst e3; exact am_z48 e4 e5 (am_wF_in _ e6) hd hn h
  · next z =>
    simp only [Bool.and_eq_true, decide_eq_true_eq] at hk
    obtain ⟨⟨⟨⟨⟨e1, e2⟩, e3⟩, e4⟩, e5⟩, e6⟩ := hk
    subst e2; subst e3; simp only [Bool.or_eq_true, Bool.and_eq_true, decide_eq_true_eq] at e1; rcases e1 with ⟨e7, e8⟩ | ⟨⟨⟨e7, e8⟩, e9⟩, e10⟩ <;> subst e7; (· exact am_z49 e4 e5 (am_wF_in _ e6) e8 hd hn h); (· exact am_z50 e4 e5 (am_wF_in _ e6) e8 e9 e10 hd hn h)
  · next z =>
    simp only [Bool.and_eq_true, decide_eq_true_eq] at hk
    obtain ⟨⟨⟨⟨⟨⟨e1, e2⟩, e3⟩, e4⟩, e5⟩, e6⟩, e7⟩ := hk
    subst e1; subst e2; subst e3; exact am_z60 e4 (am_wO_in _ e5) (am_wO_in _ e6) (am_wO_in _ e7) hd hn h
  · skip
    simp only [Bool.and_eq_true, decide_eq_true_eq] at hk
    obtain ⟨⟨⟨e1, e2⟩, e3⟩, e4⟩ := hk
    subst e1; subst e2; subst e3; exact am_z61 (Or.inl ⟨rfl, hd, am_wO_in _ e4⟩) hn h
  · skip
    simp only [Bool.and_eq_true, decide_eq_true_eq] at hk
    obtain ⟨⟨⟨e1, e2⟩, e3⟩, e4⟩ := hk
    subst e1; subst e2; subst e3; exact am_z61 (Or.inr (Or.inl ⟨rfl, hd, am_wO_in _ e4⟩)) hn h
  · skip
    simp only [Bool.and_eq_true, decide_eq_true_eq] at hk
    obtain ⟨⟨⟨e1, e2⟩, e3⟩, e4⟩ := hk
    subst e1; subst e2; subst e3; exact am_z61 (Or.inr (Or.inr ⟨rfl, hd, am_wO_in _ e4⟩)) hn h
  · next z =>
    simp only [Bool.and_eq_true, decide_eq_true_eq] at hk
    obtain ⟨⟨⟨e1, e2⟩, e3⟩, e4⟩ := hk
    subst e1; subst e2; subst e3; exact am_z62 (am_wO_in _ e4) hd hn h
  · next z =>
    simp only [Bool.and_eq_true, decide_eq_true_eq] at hk
    obtain ⟨⟨⟨⟨⟨⟨e1, e2⟩, e3⟩, e4⟩, e5⟩, e6⟩, e7⟩ := hk
    subst e1; subst e2; subst e3; subst e5; obtain ⟨f1, f2, f3, f4, f5, f6, f7⟩ := am_mfs1 (am_mf_all e4) e6; exact am_z65 f1 f2 (am_mwIn (am_mf_all e4) (by simp [am_mw])) f3 (am_mwIn (am_mf_all e4) (by simp [am_mw])) f4 (am_wM_in _ e7) (am_mwIn (am_mf_all e4) (by simp [am_mw, e6])) (am_mwIn (am_mf_all e4) (by simp [am_mw, e6])) ⟨f5, f6⟩ hcs hd hn h
  · next z =>
    simp only [Bool.or_eq_true, Bool.and_eq_true, decide_eq_true_eq] at hk
    rcases hk with (⟨⟨⟨e1, e2⟩, e3⟩, e4⟩ | ⟨⟨⟨e1, e2⟩, e3⟩, e4⟩) | ⟨⟨⟨⟨⟨e1, e2⟩, e3⟩, e4⟩, e5⟩, e6⟩
    · subst e1; subst e2; subst e3
      exact am_z75 (am_wO_in _ e4) (am_wO_in _ (by decide +kernel)) (am_wO_in _ (by decide +kernel)) (am_wO_in _ (by decide +kernel)) hcs hd hn h
    · subst e1; subst e2; subst e3
      exact am_z76 (am_wO_in _ e4) (am_wO_in _ (by decide +kernel)) (am_wO_in _ (by decide +kernel)) (am_wO_in _ (by decide +kernel)) hcs hd hn h
    · subst e2; subst e3; subst e5
      obtain ⟨f1, f2, f3, f4⟩ := am_mfs0 (am_mf_all e4) e6
      rcases e1 with ⟨e7, e8⟩ | ⟨e7, e8⟩ <;> subst e7
      · exact am_z66 f1 f2 (am_mwIn (am_mf_all e4) (by simp [am_mw])) f3 (am_mwIn (am_mf_all e4) (by simp [am_mw])) f4 (am_wM_in _ e8) (am_mwIn (am_mf_all e4) (by simp [am_mw, e6])) hcs hd hn h
      · exact am_z67 f1 f2 (am_mwIn (am_mf_all e4) (by simp [am_mw])) f3 (am_mwIn (am_mf_all e4) (by simp [am_mw])) f4 e8 (am_mwIn (am_mf_all e4) (by simp [am_mw, e6])) hcs hd hn h
  · next z =>
    simp only [Bool.or_eq_true, Bool.and_eq_true, decide_eq_true_eq] at hk
    rcases hk with ⟨⟨⟨e1, e2⟩, e3⟩, e4⟩ | ⟨⟨⟨⟨⟨⟨e1, e2⟩, e3⟩, e4⟩, e5⟩, e6⟩, e7⟩
    · subst e1; subst e2; subst e3
      exact am_z69 (am_wO_in _ e4) (am_wO_in _ (by decide +kernel)) (am_wO_in _ (by decide +kernel)) hd hn h
    · subst e1; subst e2; subst e3; subst e5
      obtain ⟨f1, f2, f3, f4, f5⟩ := am_mfs2 (am_mf_all e4) e6
      exact am_z68 f1 f2 (am_mwIn (am_mf_all e4) (by simp [am_mw])) f3 (am_mwIn (am_mf_all e4) (by simp [am_mw])) f4 f5 (am_wM_in _ e7) (am_mwIn (am_mf_all e4) (by simp [am_mw, e6])) hd hn h
  · next d lo hi offs =>
    simp only [Bool.and_eq_true, decide_eq_true_eq] at hk
    obtain ⟨⟨⟨⟨⟨⟨e1, e2⟩, e3⟩, e4⟩, e5⟩, e6⟩, e7⟩ := hk
    subst e1
    refine am_z74 ⟨d, lo, hi, offs, n, hd, e2, e3, e4, e5, e6, fun k hk => ?_⟩ h
    have hlen : offs.toList.length = (am_swt i pc).length := by have q := congrArg List.length e7; simpa using q
    have hko : k < offs.toList.length := by omega
    refine ⟨offs.toList[k], ?_, fun t ht => ?_⟩
    · rw [← Array.getElem?_toList, List.getElem?_eq_getElem hko]
    · have q := congrArg (fun l => l[k]?) e7
      simp only [List.getElem?_map, ht, List.getElem?_eq_getElem hko, Option.map_some, Option.some.injEq] at q
      exact q
  · cases hk
theorem am_sound {X : Nat × (Nat → Int32)} {D i pc op nx aa bb xx : Nat} {v : Int32} {w : Int64} {L : List (Option Value)} {st : List Value} {G : am_H} {c s : Nat} {P : Option Value → am_H → Prop} (hk : am_chk i (pc, op, nx, aa, bb, xx, v, w) = true) (hcs : c ≤ am_mc i ∧ s ≤ am_ms i) (h : am_step X D i pc op nx aa bb v w L st G c s P (am_go X D i P)) : am_WP X D i pc L st G c s P := by
  unfold am_chk at hk
  split at hk
  · next ins n hd =>
    simp only [Bool.and_eq_true, decide_eq_true_eq] at hk
    exact am_sound0 hd hk.1 hk.2 hcs h
  · cases hk
end
section
theorem am_c0 : (am_tb 0).all (fun l => l.all (am_chk 0)) = true := by decide +kernel
theorem am_c1 : (am_tb 1).all (fun l => l.all (am_chk 1)) = true := by decide +kernel
theorem am_c2 : (am_tb 2).all (fun l => l.all (am_chk 2)) = true := by decide +kernel
theorem am_c3 : (am_tb 3).all (fun l => l.all (am_chk 3)) = true := by decide +kernel
theorem am_c4 : (am_tb 4).all (fun l => l.all (am_chk 4)) = true := by decide +kernel
theorem am_c5 : (am_tb 5).all (fun l => l.all (am_chk 5)) = true := by decide +kernel
theorem am_c6 : (am_tb 6).all (fun l => l.all (am_chk 6)) = true := by decide +kernel
theorem am_c7 : (am_tb 7).all (fun l => l.all (am_chk 7)) = true := by decide +kernel
theorem am_c8 : (am_tb 8).all (fun l => l.all (am_chk 8)) = true := by decide +kernel
theorem am_c9 : (am_tb 9).all (fun l => l.all (am_chk 9)) = true := by decide +kernel
theorem am_c10 : (am_tb 10).all (fun l => l.all (am_chk 10)) = true := by decide +kernel
theorem am_c11 : (am_tb 11).all (fun l => l.all (am_chk 11)) = true := by decide +kernel
theorem am_c12 : (am_tb 12).all (fun l => l.all (am_chk 12)) = true := by decide +kernel
theorem am_c13 : (am_tb 13).all (fun l => l.all (am_chk 13)) = true := by decide +kernel
theorem am_c14 : (am_tb 14).all (fun l => l.all (am_chk 14)) = true := by decide +kernel
theorem am_c15 : (am_tb 15).all (fun l => l.all (am_chk 15)) = true := by decide +kernel
theorem am_c16 : (am_tb 16).all (fun l => l.all (am_chk 16)) = true := by decide +kernel
theorem am_c17 : (am_tb 17).all (fun l => l.all (am_chk 17)) = true := by decide +kernel
theorem am_c18 : (am_tb 18).all (fun l => l.all (am_chk 18)) = true := by decide +kernel
theorem am_c19 : (am_tb 19).all (fun l => l.all (am_chk 19)) = true := by decide +kernel
theorem am_c20 : (am_tb 20).all (fun l => l.all (am_chk 20)) = true := by decide +kernel
theorem am_c21 : (am_tb 21).all (fun l => l.all (am_chk 21)) = true := by decide +kernel
theorem am_c22 : (am_tb 22).all (fun l => l.all (am_chk 22)) = true := by decide +kernel
theorem am_c23 : (am_tb 23).all (fun l => l.all (am_chk 23)) = true := by decide +kernel
theorem am_c24 : (am_tb 24).all (fun l => l.all (am_chk 24)) = true := by decide +kernel
theorem am_c25 : (am_tb 25).all (fun l => l.all (am_chk 25)) = true := by decide +kernel
theorem am_c26 : (am_tb 26).all (fun l => l.all (am_chk 26)) = true := by decide +kernel
theorem am_c27 : (am_tb 27).all (fun l => l.all (am_chk 27)) = true := by decide +kernel
theorem am_c28 : (am_tb 28).all (fun l => l.all (am_chk 28)) = true := by decide +kernel
theorem am_c29 : (am_tb 29).all (fun l => l.all (am_chk 29)) = true := by decide +kernel
theorem am_c30 : (am_tb 30).all (fun l => l.all (am_chk 30)) = true := by decide +kernel
theorem am_c31 : (am_tb 31).all (fun l => l.all (am_chk 31)) = true := by decide +kernel
theorem am_c32 : (am_tb 32).all (fun l => l.all (am_chk 32)) = true := by decide +kernel
theorem am_c33 : (am_tb 33).all (fun l => l.all (am_chk 33)) = true := by decide +kernel
theorem am_c34 : (am_tb 34).all (fun l => l.all (am_chk 34)) = true := by decide +kernel
theorem am_c35 : (am_tb 35).all (fun l => l.all (am_chk 35)) = true := by decide +kernel
theorem am_c36 : (am_tb 36).all (fun l => l.all (am_chk 36)) = true := by decide +kernel
theorem am_c37 : (am_tb 37).all (fun l => l.all (am_chk 37)) = true := by decide +kernel
theorem am_c38 : (am_tb 38).all (fun l => l.all (am_chk 38)) = true := by decide +kernel
theorem am_c39 : (am_tb 39).all (fun l => l.all (am_chk 39)) = true := by decide +kernel
theorem am_c40 : (am_tb 40).all (fun l => l.all (am_chk 40)) = true := by decide +kernel
theorem am_c41 : (am_tb 41).all (fun l => l.all (am_chk 41)) = true := by decide +kernel
theorem am_c42 : (am_tb 42).all (fun l => l.all (am_chk 42)) = true := by decide +kernel
theorem am_c43 : (am_tb 43).all (fun l => l.all (am_chk 43)) = true := by decide +kernel
theorem am_c44 : (am_tb 44).all (fun l => l.all (am_chk 44)) = true := by decide +kernel
theorem am_c45 : (am_tb 45).all (fun l => l.all (am_chk 45)) = true := by decide +kernel
theorem am_c46 : (am_tb 46).all (fun l => l.all (am_chk 46)) = true := by decide +kernel
theorem am_c47 : (am_tb 47).all (fun l => l.all (am_chk 47)) = true := by decide +kernel
theorem am_c48 : (am_tb 48).all (fun l => l.all (am_chk 48)) = true := by decide +kernel
theorem am_c49 : (am_tb 49).all (fun l => l.all (am_chk 49)) = true := by decide +kernel
theorem am_c50 : (am_tb 50).all (fun l => l.all (am_chk 50)) = true := by decide +kernel
theorem am_c51 : (am_tb 51).all (fun l => l.all (am_chk 51)) = true := by decide +kernel
theorem am_c52 : (am_tb 52).all (fun l => l.all (am_chk 52)) = true := by decide +kernel
theorem am_c53 : (am_tb 53).all (fun l => l.all (am_chk 53)) = true := by decide +kernel
theorem am_c54 : (am_tb 54).all (fun l => l.all (am_chk 54)) = true := by decide +kernel
theorem am_c55 : (am_tb 55).all (fun l => l.all (am_chk 55)) = true := by decide +kernel
theorem am_c56 : (am_tb 56).all (fun l => l.all (am_chk 56)) = true := by decide +kernel
theorem am_c57 : (am_tb 57).all (fun l => l.all (am_chk 57)) = true := by decide +kernel
theorem am_c58 : (am_tb 58).all (fun l => l.all (am_chk 58)) = true := by decide +kernel
theorem am_c59 : (am_tb 59).all (fun l => l.all (am_chk 59)) = true := by decide +kernel
theorem am_c60 : (am_tb 60).all (fun l => l.all (am_chk 60)) = true := by decide +kernel
theorem am_c61 : (am_tb 61).all (fun l => l.all (am_chk 61)) = true := by decide +kernel
theorem am_c62 : (am_tb 62).all (fun l => l.all (am_chk 62)) = true := by decide +kernel
theorem am_c63 : (am_tb 63).all (fun l => l.all (am_chk 63)) = true := by decide +kernel
theorem am_c64 : (am_tb 64).all (fun l => l.all (am_chk 64)) = true := by decide +kernel
theorem am_c65 : (am_tb 65).all (fun l => l.all (am_chk 65)) = true := by decide +kernel
theorem am_c66 : (am_tb 66).all (fun l => l.all (am_chk 66)) = true := by decide +kernel
theorem am_c67 : (am_tb 67).all (fun l => l.all (am_chk 67)) = true := by decide +kernel
theorem am_c68 : (am_tb 68).all (fun l => l.all (am_chk 68)) = true := by decide +kernel
theorem am_c69 : (am_tb 69).all (fun l => l.all (am_chk 69)) = true := by decide +kernel
theorem am_c70 : (am_tb 70).all (fun l => l.all (am_chk 70)) = true := by decide +kernel
theorem am_c71 : (am_tb 71).all (fun l => l.all (am_chk 71)) = true := by decide +kernel
theorem am_c72 : (am_tb 72).all (fun l => l.all (am_chk 72)) = true := by decide +kernel
theorem am_c73 : (am_tb 73).all (fun l => l.all (am_chk 73)) = true := by decide +kernel
theorem am_c74 : (am_tb 74).all (fun l => l.all (am_chk 74)) = true := by decide +kernel
theorem am_c75 : (am_tb 75).all (fun l => l.all (am_chk 75)) = true := by decide +kernel
theorem am_c76 : (am_tb 76).all (fun l => l.all (am_chk 76)) = true := by decide +kernel
theorem am_c77 : (am_tb 77).all (fun l => l.all (am_chk 77)) = true := by decide +kernel
theorem am_c78 : (am_tb 78).all (fun l => l.all (am_chk 78)) = true := by decide +kernel
theorem am_c79 : (am_tb 79).all (fun l => l.all (am_chk 79)) = true := by decide +kernel
theorem am_c80 : (am_tb 80).all (fun l => l.all (am_chk 80)) = true := by decide +kernel
theorem am_c81 : (am_tb 81).all (fun l => l.all (am_chk 81)) = true := by decide +kernel
theorem am_c82 : (am_tb 82).all (fun l => l.all (am_chk 82)) = true := by decide +kernel
theorem am_c83 : (am_tb 83).all (fun l => l.all (am_chk 83)) = true := by decide +kernel
theorem am_c84 : (am_tb 84).all (fun l => l.all (am_chk 84)) = true := by decide +kernel
theorem am_c85 : (am_tb 85).all (fun l => l.all (am_chk 85)) = true := by decide +kernel
theorem am_c86 : (am_tb 86).all (fun l => l.all (am_chk 86)) = true := by decide +kernel
theorem am_c87 : (am_tb 87).all (fun l => l.all (am_chk 87)) = true := by decide +kernel
theorem am_c88 : (am_tb 88).all (fun l => l.all (am_chk 88)) = true := by decide +kernel
theorem am_c89 : (am_tb 89).all (fun l => l.all (am_chk 89)) = true := by decide +kernel
theorem am_c90 : (am_tb 90).all (fun l => l.all (am_chk 90)) = true := by decide +kernel
theorem am_c91 : (am_tb 91).all (fun l => l.all (am_chk 91)) = true := by decide +kernel
theorem am_c92 : (am_tb 92).all (fun l => l.all (am_chk 92)) = true := by decide +kernel
theorem am_c93 : (am_tb 93).all (fun l => l.all (am_chk 93)) = true := by decide +kernel
theorem am_c94 : (am_tb 94).all (fun l => l.all (am_chk 94)) = true := by decide +kernel
theorem am_c95 : (am_tb 95).all (fun l => l.all (am_chk 95)) = true := by decide +kernel
theorem am_c96 : (am_tb 96).all (fun l => l.all (am_chk 96)) = true := by decide +kernel
theorem am_c97 : (am_tb 97).all (fun l => l.all (am_chk 97)) = true := by decide +kernel
theorem am_c98 : (am_tb 98).all (fun l => l.all (am_chk 98)) = true := by decide +kernel
theorem am_c99 : (am_tb 99).all (fun l => l.all (am_chk 99)) = true := by decide +kernel
theorem am_c100 : (am_tb 100).all (fun l => l.all (am_chk 100)) = true := by decide +kernel
theorem am_c101 : (am_tb 101).all (fun l => l.all (am_chk 101)) = true := by decide +kernel
theorem am_c102 : (am_tb 102).all (fun l => l.all (am_chk 102)) = true := by decide +kernel
theorem am_c103 : (am_tb 103).all (fun l => l.all (am_chk 103)) = true := by decide +kernel
theorem am_c104 : (am_tb 104).all (fun l => l.all (am_chk 104)) = true := by decide +kernel
theorem am_c105 : (am_tb 105).all (fun l => l.all (am_chk 105)) = true := by decide +kernel
theorem am_c106 : (am_tb 106).all (fun l => l.all (am_chk 106)) = true := by decide +kernel
theorem am_c107 : (am_tb 107).all (fun l => l.all (am_chk 107)) = true := by decide +kernel
theorem am_c108 : (am_tb 108).all (fun l => l.all (am_chk 108)) = true := by decide +kernel
theorem am_cL0 : ((am_tb 109).getD 0 []).all (am_chk 109) = true := by decide +kernel
theorem am_cL1 : ((am_tb 109).getD 1 []).all (am_chk 109) = true := by decide +kernel
theorem am_cL2 : ((am_tb 109).getD 2 []).all (am_chk 109) = true := by decide +kernel
theorem am_cL3 : ((am_tb 109).getD 3 []).all (am_chk 109) = true := by decide +kernel
theorem am_cL4 : ((am_tb 109).getD 4 []).all (am_chk 109) = true := by decide +kernel
theorem am_cL5 : ((am_tb 109).getD 5 []).all (am_chk 109) = true := by decide +kernel
theorem am_cL6 : ((am_tb 109).getD 6 []).all (am_chk 109) = true := by decide +kernel
theorem am_cL7 : ((am_tb 109).getD 7 []).all (am_chk 109) = true := by decide +kernel
theorem am_cL8 : ((am_tb 109).getD 8 []).all (am_chk 109) = true := by decide +kernel
theorem am_c109 : (am_tb 109).all (fun l => l.all (am_chk 109)) = true := List.all_eq_true.mpr (fun l hl => by
  obtain ⟨k, hk⟩ := List.getElem?_of_mem hl
  have hlen : k < 9 := (List.getElem?_eq_some_iff.mp hk).1
  have e : l = (am_tb 109).getD k [] := by simp [List.getD, hk]
  rw [e]
  match k, hlen with
  | 0, _ => exact am_cL0
  | 1, _ => exact am_cL1
  | 2, _ => exact am_cL2
  | 3, _ => exact am_cL3
  | 4, _ => exact am_cL4
  | 5, _ => exact am_cL5
  | 6, _ => exact am_cL6
  | 7, _ => exact am_cL7
  | 8, _ => exact am_cL8
  | k + 9, h => omega)
theorem am_call_ok : ∀ i, (am_tb i).all (fun l => l.all (am_chk i)) = true
  | 0 => am_c0
  | 1 => am_c1
  | 2 => am_c2
  | 3 => am_c3
  | 4 => am_c4
  | 5 => am_c5
  | 6 => am_c6
  | 7 => am_c7
  | 8 => am_c8
  | 9 => am_c9
  | 10 => am_c10
  | 11 => am_c11
  | 12 => am_c12
  | 13 => am_c13
  | 14 => am_c14
  | 15 => am_c15
  | 16 => am_c16
  | 17 => am_c17
  | 18 => am_c18
  | 19 => am_c19
  | 20 => am_c20
  | 21 => am_c21
  | 22 => am_c22
  | 23 => am_c23
  | 24 => am_c24
  | 25 => am_c25
  | 26 => am_c26
  | 27 => am_c27
  | 28 => am_c28
  | 29 => am_c29
  | 30 => am_c30
  | 31 => am_c31
  | 32 => am_c32
  | 33 => am_c33
  | 34 => am_c34
  | 35 => am_c35
  | 36 => am_c36
  | 37 => am_c37
  | 38 => am_c38
  | 39 => am_c39
  | 40 => am_c40
  | 41 => am_c41
  | 42 => am_c42
  | 43 => am_c43
  | 44 => am_c44
  | 45 => am_c45
  | 46 => am_c46
  | 47 => am_c47
  | 48 => am_c48
  | 49 => am_c49
  | 50 => am_c50
  | 51 => am_c51
  | 52 => am_c52
  | 53 => am_c53
  | 54 => am_c54
  | 55 => am_c55
  | 56 => am_c56
  | 57 => am_c57
  | 58 => am_c58
  | 59 => am_c59
  | 60 => am_c60
  | 61 => am_c61
  | 62 => am_c62
  | 63 => am_c63
  | 64 => am_c64
  | 65 => am_c65
  | 66 => am_c66
  | 67 => am_c67
  | 68 => am_c68
  | 69 => am_c69
  | 70 => am_c70
  | 71 => am_c71
  | 72 => am_c72
  | 73 => am_c73
  | 74 => am_c74
  | 75 => am_c75
  | 76 => am_c76
  | 77 => am_c77
  | 78 => am_c78
  | 79 => am_c79
  | 80 => am_c80
  | 81 => am_c81
  | 82 => am_c82
  | 83 => am_c83
  | 84 => am_c84
  | 85 => am_c85
  | 86 => am_c86
  | 87 => am_c87
  | 88 => am_c88
  | 89 => am_c89
  | 90 => am_c90
  | 91 => am_c91
  | 92 => am_c92
  | 93 => am_c93
  | 94 => am_c94
  | 95 => am_c95
  | 96 => am_c96
  | 97 => am_c97
  | 98 => am_c98
  | 99 => am_c99
  | 100 => am_c100
  | 101 => am_c101
  | 102 => am_c102
  | 103 => am_c103
  | 104 => am_c104
  | 105 => am_c105
  | 106 => am_c106
  | 107 => am_c107
  | 108 => am_c108
  | 109 => am_c109
  | _ + 110 => rfl
end
section
theorem am_I1_m {st : List Value} {K K' : Int32 → List Value → Prop} (h : ∀ x r, K x r → K' x r) (z : am_I1 st K) : am_I1 st K' := by
  obtain ⟨x, r, rfl, z⟩ := am_I1_s z
  exact h _ _ z
theorem am_I2_m {st : List Value} {K K' : Int32 → Int32 → List Value → Prop} (h : ∀ x y r, K x y r → K' x y r) (z : am_I2 st K) : am_I2 st K' := by
  obtain ⟨x, y, r, rfl, z⟩ := am_I2_s z
  exact h _ _ _ z
theorem am_J1_m {st : List Value} {K K' : Int64 → List Value → Prop} (h : ∀ x r, K x r → K' x r) (z : am_J1 st K) : am_J1 st K' := by
  obtain ⟨x, r, rfl, z⟩ := am_J1_s z
  exact h _ _ z
theorem am_J2_m {st : List Value} {K K' : Int64 → Int64 → List Value → Prop} (h : ∀ x y r, K x y r → K' x y r) (z : am_J2 st K) : am_J2 st K' := by
  obtain ⟨x, y, r, rfl, z⟩ := am_J2_s z
  exact h _ _ _ z
theorem am_JI_m {st : List Value} {K K' : Int64 → Int32 → List Value → Prop} (h : ∀ x y r, K x y r → K' x y r) (z : am_JI st K) : am_JI st K' := by
  obtain ⟨x, y, r, rfl, z⟩ := am_JI_s z
  exact h _ _ _ z
theorem am_R1_m {st : List Value} {K K' : Nat → List Value → Prop} (h : ∀ x r, K x r → K' x r) (z : am_R1 st K) : am_R1 st K' := by
  obtain ⟨x, r, rfl, z⟩ := am_R1_s z
  exact h _ _ z
theorem am_IR_m {st : List Value} {K K' : Int32 → Nat → List Value → Prop} (h : ∀ j k r, K j k r → K' j k r) (z : am_IR st K) : am_IR st K' := by
  obtain ⟨j, k, r, rfl, z⟩ := am_IR_s z
  exact h _ _ _ z
theorem am_IIR_m {st : List Value} {K K' : Int32 → Int32 → Nat → List Value → Prop} (h : ∀ y j k r, K y j k r → K' y j k r) (z : am_IIR st K) : am_IIR st K' := by
  obtain ⟨y, j, k, r, rfl, z⟩ := am_IIR_s z
  exact h _ _ _ _ z
theorem am_JIR_m {st : List Value} {K K' : Int64 → Int32 → Nat → List Value → Prop} (h : ∀ y j k r, K y j k r → K' y j k r) (z : am_JIR st K) : am_JIR st K' := by
  obtain ⟨y, j, k, r, rfl, z⟩ := am_JIR_s z
  exact h _ _ _ _ z
theorem am_RIR_m {st : List Value} {K K' : Nat → Int32 → Nat → List Value → Prop} (h : ∀ y j k r, K y j k r → K' y j k r) (z : am_RIR st K) : am_RIR st K' := by
  obtain ⟨y, j, k, r, rfl, z⟩ := am_RIR_s z
  exact h _ _ _ _ z
theorem am_VR_m {st : List Value} {K K' : Value → Nat → List Value → Prop} (h : ∀ v k r, K v k r → K' v k r) (z : am_VR st K) : am_VR st K' := by
  obtain ⟨v, k, r, rfl, z⟩ := am_VR_s z
  exact h _ _ _ z
theorem am_V1_m {st : List Value} {K K' : Value → List Value → Prop} (h : ∀ v r, K v r → K' v r) (z : am_V1 st K) : am_V1 st K' := by
  obtain ⟨v, r, rfl, z⟩ := am_V1_s z
  exact h _ _ z
theorem am_IRS_m {st : List Value} {K K' : Int32 → Nat → List Value → Prop} {S S' : Int32 → List Value → Prop} (h : ∀ j k r, K j k r → K' j k r) (h2 : ∀ j r, S j r → S' j r) (z : am_IRS st K S) : am_IRS st K' S' := by
  rcases am_IRS_s z with ⟨j, k, r, rfl, z⟩ | ⟨j, k, r, rfl, z⟩
  · exact h _ _ _ z
  · exact h2 _ _ z
theorem am_RS_m {st : List Value} {K K' : Nat → List Value → Prop} {S S' : List Value → Prop} (h : ∀ k r, K k r → K' k r) (h2 : ∀ r, S r → S' r) (z : am_RS st K S) : am_RS st K' S' := by
  rcases am_RS_s z with ⟨k, r, rfl, z⟩ | ⟨k, r, rfl, z⟩
  · exact h _ _ z
  · exact h2 _ z
theorem am_RN_m {st : List Value} {K K' S S' : List Value → Prop} (h : ∀ r, K r → K' r) (h2 : ∀ r, S r → S' r) (z : am_RN st K S) : am_RN st K' S' := by
  rcases am_RN_s z with ⟨k, r, rfl, z⟩ | ⟨r, rfl, z⟩
  · exact h _ z
  · exact h2 _ z
theorem am_AR_m {st : List Value} {K K' : Value → List Value → Prop} (h : ∀ v r, K v r → K' v r) (z : am_AR st K) : am_AR st K' := by
  unfold am_AR at z ⊢
  split at z
  · exact h _ _ z
  · exact h _ _ z
  · exact z.elim
theorem am_A_m {o : Option (List Value × List Value)} {K K' : List Value → List Value → Prop} (h : ∀ a r, K a r → K' a r) (z : am_A o K) : am_A o K' := by
  obtain ⟨a, r, rfl, z⟩ := am_A_s z
  exact h _ _ z
theorem am_iv_m {o : Option Value} {K K' : Int32 → Prop} (h : ∀ x, K x → K' x) (z : am_iv o K) : am_iv o K' := by
  obtain ⟨x, rfl, z⟩ := am_iv_s z
  exact h _ z
theorem am_lv_m {o : Option Value} {K K' : Int64 → Prop} (h : ∀ x, K x → K' x) (z : am_lv o K) : am_lv o K' := by
  obtain ⟨x, rfl, z⟩ := am_lv_s z
  exact h _ z
theorem am_av_m {o : Option Value} {K K' : Value → Prop} (h : ∀ x, K x → K' x) (z : am_av o K) : am_av o K' := by
  obtain ⟨x, rfl, z, q⟩ := am_av_s z
  rcases q with ⟨k, rfl⟩ | rfl | ⟨k, rfl⟩ <;> exact h _ z
theorem am_get_m {o : Option (List Value)} {k : Nat} {K K' : Value → Prop} (h : ∀ v, K v → K' v) (z : am_get o k K) : am_get o k K' := by
  obtain ⟨fs, v, rfl, h2, z⟩ := am_get_s z
  simp only [am_get, am_gt, h2]
  exact h _ z
theorem am_put_m {o : Option (List Value)} {K K' : List Value → Prop} (h : ∀ v, K v → K' v) (z : am_put o K) : am_put o K' := by
  obtain ⟨fs, rfl, z⟩ := am_put_s z
  exact h _ z
theorem am_arr_m {α : Type} {o : Option (Nat × α)} {i : Int32} {K K' : Nat → α → Nat → Prop} (h : ∀ n f j, K n f j → K' n f j) (z : am_arr o i K) : am_arr o i K' := by
  obtain ⟨n, f, rfl, h2, z⟩ := am_arr_s z
  exact ⟨h2, h _ _ _ z⟩
theorem am_len_m {o : Option Nat} {K K' : Int32 → Prop} (h : ∀ n, K n → K' n) (z : am_len o K) : am_len o K' := by
  obtain ⟨n, rfl, z⟩ := am_len_s z
  exact h _ z
theorem am_sw_m {x : Int32} {d : Nat} {K K' : Nat → Prop} (h : ∀ t, K t → K' t) : ∀ (tg : List Nat) (lo : Int32), am_sw x lo d K tg → am_sw x lo d K' tg
  | [], _, z => h _ z
  | t :: r, lo, z => by
    simp only [am_sw] at z ⊢
    split
    · next e => rw [if_pos e] at z; exact h _ z
    · next e => rw [if_neg e] at z; exact am_sw_m h r _ z
theorem am_ite_m {c : Prop} [Decidable c] {A B A' B' : Prop} (h1 : A → A') (h2 : B → B') (z : if c then A else B) : if c then A' else B' := by
  split
  · next e => rw [if_pos e] at z; exact h1 z
  · next e => rw [if_neg e] at z; exact h2 z
theorem am_post_m {dC : Nat → ClassId} {dI : Nat → Nat → Nat} {b : Nat} {A : Nat → Prop} {ad : Nat → Nat} {G : am_H} {j : Nat} {P P' : Option Value → am_H → Prop} (h : ∀ v G, P v G → P' v G) {a : Array Value} {st : State} {oc : Outcome} {t : State} (z : am_post dC dI b A ad G j P a st oc t) : am_post dC dI b A ad G j P' a st oc t := by
  obtain ⟨⟨v, G1, ad1, cA1, tys1, h1, h2, h3⟩, h4⟩ := z
  exact ⟨⟨v, G1, ad1, cA1, tys1, h1, h _ _ h2, h3⟩, h4⟩
theorem am_Call_m {X : Nat × (Nat → Int32)} {D j : Nat} {as : List Value} {G : am_H} {P P' : Option Value → am_H → Prop} (h : ∀ v G, P v G → P' v G) (z : am_Call X D j as G P) : am_Call X D j as G P' := by
  intro l dC dI b A ad cA tys hb p e a1 a2 a3 s m args below a4 a5 a6 a7
  obtain ⟨n, o, b1, b2, b3, b4, b5⟩ := z l dC dI b A ad cA tys hb p e a1 a2 a3 s m args below a4 a5 a6 a7
  exact ⟨n, o, b1, b2, b3, am_post_m h b4, b5⟩
theorem am_CB_m {X : Nat × (Nat → Int32)} {D j : Nat} {as : List Value} {G : am_H} {P P' : Option Value → am_H → Prop} (h : ∀ v G, P v G → P' v G) (z : am_CB X D j as G P) : am_CB X D j as G P' := by
  obtain ⟨D', h1, h2⟩ := z
  exact ⟨D', h1, am_Call_m h h2⟩
theorem am_CB.up {X : Nat × (Nat → Int32)} {D E j : Nat} {as : List Value} {G : am_H} {P : Option Value → am_H → Prop} (h : am_CB X D j as G P) (hD : D ≤ E) : am_CB X E j as G P := by
  obtain ⟨D', h1, h2⟩ := h
  exact ⟨D', by omega, h2⟩
theorem am_step_m {X : Nat × (Nat → Int32)} {D i pc op nx a b : Nat} {v : Int32} {w : Int64} {L : List (Option Value)} {st : List Value} {G : am_H} {c s : Nat} {P : Option Value → am_H → Prop} {K K' : am_K} (hcs : c ≤ am_mc i ∧ s ≤ am_ms i) (h : ∀ nx L st G c s, (c ≤ am_mc i ∧ s ≤ am_ms i) → K nx L st G c s → K' nx L st G c s) (z : am_step X D i pc op nx a b v w L st G c s P K) : am_step X D i pc op nx a b v w L st G c s P K' := by
  unfold am_step at z
  split at z
  · exact am_iv_m (fun _ => h _ _ _ _ _ _ hcs) z
  · exact am_av_m (fun _ => h _ _ _ _ _ _ hcs) z
  · exact am_lv_m (fun _ => h _ _ _ _ _ _ hcs) z
  · exact h _ _ _ _ _ _ hcs z
  · exact h _ _ _ _ _ _ hcs z
  · exact am_I1_m (fun _ _ => h _ _ _ _ _ _ hcs) z
  · exact am_AR_m (fun _ _ => h _ _ _ _ _ _ hcs) z
  · exact am_J1_m (fun _ _ => h _ _ _ _ _ _ hcs) z
  · exact am_iv_m (fun _ => h _ _ _ _ _ _ hcs) z
  · exact am_I2_m (fun _ _ _ => h _ _ _ _ _ _ hcs) z
  · exact am_I2_m (fun _ _ _ => h _ _ _ _ _ _ hcs) z
  · exact am_I2_m (fun _ _ _ => h _ _ _ _ _ _ hcs) z
  · exact am_I2_m (fun _ _ _ q => ⟨q.1, h _ _ _ _ _ _ hcs q.2⟩) z
  · exact am_I2_m (fun _ _ _ q => ⟨q.1, h _ _ _ _ _ _ hcs q.2⟩) z
  · exact am_I1_m (fun _ _ => h _ _ _ _ _ _ hcs) z
  · exact am_I2_m (fun _ _ _ => h _ _ _ _ _ _ hcs) z
  · exact am_I2_m (fun _ _ _ => h _ _ _ _ _ _ hcs) z
  · exact am_I2_m (fun _ _ _ => h _ _ _ _ _ _ hcs) z
  · exact am_I2_m (fun _ _ _ => h _ _ _ _ _ _ hcs) z
  · exact am_I2_m (fun _ _ _ => h _ _ _ _ _ _ hcs) z
  · exact am_I2_m (fun _ _ _ => h _ _ _ _ _ _ hcs) z
  · exact am_J2_m (fun _ _ _ => h _ _ _ _ _ _ hcs) z
  · exact am_J2_m (fun _ _ _ => h _ _ _ _ _ _ hcs) z
  · exact am_J2_m (fun _ _ _ => h _ _ _ _ _ _ hcs) z
  · exact am_J2_m (fun _ _ _ => h _ _ _ _ _ _ hcs) z
  · exact am_J2_m (fun _ _ _ => h _ _ _ _ _ _ hcs) z
  · exact am_JI_m (fun _ _ _ => h _ _ _ _ _ _ hcs) z
  · exact am_JI_m (fun _ _ _ => h _ _ _ _ _ _ hcs) z
  · exact am_JI_m (fun _ _ _ => h _ _ _ _ _ _ hcs) z
  · exact am_J2_m (fun _ _ _ => h _ _ _ _ _ _ hcs) z
  · exact am_J1_m (fun _ _ => h _ _ _ _ _ _ hcs) z
  · exact am_I1_m (fun _ _ => h _ _ _ _ _ _ hcs) z
  · exact am_I2_m (fun _ _ _ => am_ite_m (h _ _ _ _ _ _ hcs) (h _ _ _ _ _ _ hcs)) z
  · exact am_I2_m (fun _ _ _ => am_ite_m (h _ _ _ _ _ _ hcs) (h _ _ _ _ _ _ hcs)) z
  · exact am_I2_m (fun _ _ _ => am_ite_m (h _ _ _ _ _ _ hcs) (h _ _ _ _ _ _ hcs)) z
  · exact am_I2_m (fun _ _ _ => am_ite_m (h _ _ _ _ _ _ hcs) (h _ _ _ _ _ _ hcs)) z
  · exact am_I2_m (fun _ _ _ => am_ite_m (h _ _ _ _ _ _ hcs) (h _ _ _ _ _ _ hcs)) z
  · exact am_I2_m (fun _ _ _ => am_ite_m (h _ _ _ _ _ _ hcs) (h _ _ _ _ _ _ hcs)) z
  · exact am_I1_m (fun _ _ => am_ite_m (h _ _ _ _ _ _ hcs) (h _ _ _ _ _ _ hcs)) z
  · exact am_I1_m (fun _ _ => am_ite_m (h _ _ _ _ _ _ hcs) (h _ _ _ _ _ _ hcs)) z
  · exact am_I1_m (fun _ _ => am_ite_m (h _ _ _ _ _ _ hcs) (h _ _ _ _ _ _ hcs)) z
  · exact am_I1_m (fun _ _ => am_ite_m (h _ _ _ _ _ _ hcs) (h _ _ _ _ _ _ hcs)) z
  · exact am_I1_m (fun _ _ => am_ite_m (h _ _ _ _ _ _ hcs) (h _ _ _ _ _ _ hcs)) z
  · exact am_I1_m (fun _ _ => am_ite_m (h _ _ _ _ _ _ hcs) (h _ _ _ _ _ _ hcs)) z
  · exact h _ _ _ _ _ _ hcs z
  · exact am_RN_m (fun _ => h _ _ _ _ _ _ hcs) (fun _ => h _ _ _ _ _ _ hcs) z
  · exact am_R1_m (fun _ _ => am_get_m (fun _ => h _ _ _ _ _ _ hcs)) z
  · exact am_VR_m (fun _ _ _ q => ⟨q.1, am_put_m (fun _ q => ⟨q.1, h _ _ _ _ _ _ hcs q.2⟩) q.2⟩) z
  · exact am_VR_m (fun _ _ _ q => ⟨q.1, am_put_m (fun _ q => ⟨q.1, h _ _ _ _ _ _ hcs q.2⟩) q.2⟩) z
  · exact am_IRS_m (fun _ _ _ => am_arr_m (fun _ _ _ => h _ _ _ _ _ _ hcs)) (fun _ _ q => ⟨q.1, h _ _ _ _ _ _ hcs q.2⟩) z
  · exact am_IIR_m (fun _ _ _ _ => am_arr_m (fun _ _ _ => h _ _ _ _ _ _ hcs)) z
  · exact am_IR_m (fun _ _ _ => am_arr_m (fun _ _ _ => h _ _ _ _ _ _ hcs)) z
  · exact am_JIR_m (fun _ _ _ _ => am_arr_m (fun _ _ _ => h _ _ _ _ _ _ hcs)) z
  · exact am_IR_m (fun _ _ _ => am_arr_m (fun _ _ _ => h _ _ _ _ _ _ hcs)) z
  · exact am_IIR_m (fun _ _ _ _ => am_arr_m (fun _ _ _ => h _ _ _ _ _ _ hcs)) z
  · exact am_IR_m (fun _ _ _ => am_arr_m (fun _ _ _ => h _ _ _ _ _ _ hcs)) z
  · exact am_RIR_m (fun _ _ _ _ q => ⟨q.1, am_arr_m (fun _ _ _ => h _ _ _ _ _ _ hcs) q.2⟩) z
  · exact am_RS_m (fun _ _ => am_len_m (fun _ => h _ _ _ _ _ _ hcs)) (fun _ => h _ _ _ _ _ _ hcs) z
  · exact ⟨z.1, z.2.1, z.2.2.1, h _ _ _ _ _ _ ⟨z.1, z.2.1⟩ z.2.2.2⟩
  · exact am_I1_m (fun _ _ z => ⟨z.1, z.2.1, z.2.2.1, z.2.2.2.1, z.2.2.2.2.1, h _ _ _ _ _ _ ⟨z.2.2.1, z.2.2.2.1⟩ z.2.2.2.2.2⟩) z
  · exact am_I1_m (fun _ _ z => ⟨z.1, z.2.1, z.2.2.1, z.2.2.2.1, z.2.2.2.2.1, h _ _ _ _ _ _ ⟨z.2.2.1, z.2.2.2.1⟩ z.2.2.2.2.2⟩) z
  · exact am_V1_m (fun _ _ q => ⟨q.1, h _ _ _ _ _ _ hcs q.2⟩) z
  · exact h _ _ _ _ _ _ hcs z
  · exact am_A_m (fun _ _ => am_R1_m (fun _ _ q => ⟨q.1, q.2.1, am_CB_m (fun _ _ => h _ _ _ _ _ _ hcs) q.2.2⟩)) z
  · exact am_A_m (fun _ _ q => ⟨q.1, am_CB_m (fun _ _ => h _ _ _ _ _ _ hcs) q.2⟩) z
  · exact am_A_m (fun _ _ q => ⟨q.1, am_CB_m (fun _ _ => h _ _ _ _ _ _ hcs) q.2⟩) z
  · exact am_A_m (fun _ _ => am_R1_m (fun _ _ q => ⟨q.1, q.2.1, q.2.2.1, q.2.2.2.1, am_CB_m (fun _ _ => h _ _ _ _ _ _ ⟨q.2.1, q.2.2.1⟩) q.2.2.2.2⟩)) z
  · exact am_R1_m (fun _ _ q => ⟨q.1, q.2.1, h _ _ _ _ _ _ hcs q.2.2⟩) z
  · exact z
  · exact z
  · exact z
  · exact z
  · exact am_I1_m (fun _ _ => am_sw_m (fun _ => h _ _ _ _ _ _ hcs) _ _) z
  · exact am_I2_m (fun _ _ _ q => ⟨q.1, q.2.1, h _ _ _ _ _ _ hcs q.2.2⟩) z
  · exact am_I2_m (fun _ _ _ q => ⟨q.1, q.2.1, h _ _ _ _ _ _ hcs q.2.2⟩) z
  · exact z.elim
theorem am_lookup_mem {α : Type} {k : Nat} {b : α} : ∀ {l : List (Nat × α)}, l.lookup k = some b → (k, b) ∈ l
  | [], h => by cases h
  | (a, c) :: t, h => by
    simp only [List.lookup] at h
    split at h
    · next e => cases h; have := eq_of_beq e; subst this; exact List.mem_cons_self
    · exact List.mem_cons_of_mem _ (am_lookup_mem h)
theorem am_code_ok {i pc : Nat} {row : am_I} (h : am_code i pc = some row) : am_chk i (pc, row) = true := by
  unfold am_code at h
  have h1 := am_lookup_mem h
  have h2 := List.all_eq_true.mp (am_call_ok i)
  by_cases hk : pc / 64 < (am_tb i).length
  · have h3 := h2 ((am_tb i).getD (pc / 64) []) (by rw [List.getD_eq_getElem?_getD, List.getElem?_eq_getElem hk]; exact List.getElem_mem hk)
    exact List.all_eq_true.mp h3 _ h1
  · rw [List.getD_eq_getElem?_getD, List.getElem?_eq_none (by omega)] at h1
    cases h1
def am_row (o : Option am_I) (F : Nat → Nat → Nat → Nat → Int32 → Int64 → Prop) : Prop := match o with
  | some (op, nx, a, b, _, v, w) => F op nx a b v w
  | none => False
def am_WPs (stops : List Nat) (X : Nat × (Nat → Int32)) (D i : Nat) (P : Option Value → am_H → Prop) : Nat → am_K
  | 0 => fun pc L st G c s => am_WP X D i pc L st G c s P
  | n + 1 => fun pc L st G c s => if stops.any (· == pc) = true then am_WP X D i pc L st G c s P else am_row (am_code i pc) (fun op nx a b v w => am_step X D i pc op nx a b v w L st G c s P (am_WPs stops X D i P n))
theorem am_WPs_ok {stops : List Nat} {X : Nat × (Nat → Int32)} {D i : Nat} {P : Option Value → am_H → Prop} : ∀ (n pc : Nat) (L : List (Option Value)) (st : List Value) (G : am_H) (c s : Nat), (c ≤ am_mc i ∧ s ≤ am_ms i) → am_WPs stops X D i P n pc L st G c s → am_WP X D i pc L st G c s P
  | 0, _, _, _, _, _, _, _, h => h
  | n + 1, pc, L, st, G, c, s, hcs, h => by
    simp only [am_WPs] at h
    split at h
    · exact h
    · cases hc : am_code i pc with
      | none => rw [hc] at h; exact h.elim
      | some row =>
        obtain ⟨op, nx, a, b, x, v, w⟩ := row
        rw [hc] at h
        exact am_sound (am_code_ok hc) hcs (am_step_m hcs (fun nx L st G c s hcs h => am_WPs_ok n nx L st G c s hcs h) h)
theorem am_run (n : Nat) (stops : List Nat) {X : Nat × (Nat → Int32)} {D i pc : Nat} {P : Option Value → am_H → Prop} {L : List (Option Value)} {st : List Value} {G : am_H} {c s : Nat} (hcs : c ≤ am_mc i ∧ s ≤ am_ms i) (h : am_row (am_code i pc) (fun op nx a b v w => am_step X D i pc op nx a b v w L st G c s P (am_WPs stops X D i P n))) : am_WP X D i pc L st G c s P := by
  cases hc : am_code i pc with
  | none => rw [hc] at h; exact h.elim
  | some row =>
    obtain ⟨op, nx, a, b, x, v, w⟩ := row
    rw [hc] at h
    exact am_sound (am_code_ok hc) hcs (am_step_m hcs (fun nx L st G c s hcs h => am_WPs_ok n nx L st G c s hcs h) h)
/-- fewer locals are enough -/
def am_le : List (Option Value) → List (Option Value) → Prop
  | [], [] => True
  | a :: s, b :: t => (a = none ∨ a = b) ∧ am_le s t
  | _, _ => False
theorem am_le_len : ∀ {s t : List (Option Value)}, am_le s t → s.length = t.length
  | [], [], _ => rfl
  | _ :: s, _ :: t, h => by simp [am_le_len h.2]
theorem am_le_at : ∀ {s t : List (Option Value)}, am_le s t → ∀ {k : Nat} {v : Value}, s[k]? = some (some v) → t[k]? = some (some v)
  | [], [], _, _, _, h => by simp at h
  | a :: s, b :: t, h, 0, v, hk => by
    simp only [List.getElem?_cons_zero, Option.some.injEq] at hk ⊢
    rcases h.1 with z | z
    · rw [z] at hk; cases hk
    · rw [← z]; exact hk
  | a :: s, b :: t, h, k + 1, v, hk => by
    simp only [List.getElem?_cons_succ] at hk ⊢
    exact am_le_at h.2 hk
theorem am_WP.fg {X : Nat × (Nat → Int32)} {D i pc : Nat} {P : Option Value → am_H → Prop} {L L' : List (Option Value)} {st : List Value} {G : am_H} {c s : Nat} (h : am_WP X D i pc L' st G c s P) (hl : am_le L' L) : am_WP X D i pc L st G c s P := by
  intro p l e R s0 m args below meth cd dC dI b A ad cA tys H locs ls Q hF hX hbl hbA hA hS hR hL hfin
  exact h p l e R s0 m args below meth cd dC dI b A ad cA tys H locs ls Q hF hX hbl hbA hA hS hR ⟨(am_le_len hl).trans hL.1, hL.2.1, fun k v hk => hL.2.2 k v (am_le_at hl hk)⟩ hfin
theorem am_WP.mn {X : Nat × (Nat → Int32)} {D i pc : Nat} {P P' : Option Value → am_H → Prop} {L : List (Option Value)} {st : List Value} {G : am_H} {c s : Nat} (h : am_WP X D i pc L st G c s P) (hp : ∀ v G, P v G → P' v G) : am_WP X D i pc L st G c s P' := by
  intro p l e R s0 m args below meth cd dC dI b A ad cA tys H locs ls Q hF hX hbl hbA hA hS hR hL hfin
  exact h p l e R s0 m args below meth cd dC dI b A ad cA tys H locs ls Q hF hX hbl hbA hA hS hR hL (fun ins v G1 ad1 cA1 tys1 H1 locs1 ls1 pc1 c1 s1 a1 a2 a3 => hfin ins v G1 ad1 cA1 tys1 H1 locs1 ls1 pc1 c1 s1 a1 a2 (hp _ _ a3))
-- ===== a call out of its body =====
def am_lay : List Value → List (Option Value)
  | [] => []
  | .long x :: r => some (.long x) :: none :: am_lay r
  | .double x :: r => some (.double x) :: none :: am_lay r
  | v :: r => some v :: am_lay r
def am_ent (n : Nat) (as : List Value) : List (Option Value) := am_lay as ++ List.replicate (n - (am_lay as).length) none
theorem am_lay_at {ad : Nat → Nat} {b : Nat} : ∀ {as : List Value} {q k : Nat} {v : Value}, (am_lay as)[k]? = some (some v) → (q + k, am_cv ad b v) ∈ lv_args q (as.map (am_cv ad b))
  | [], _, _, _, h => by simp [am_lay] at h
  | x :: r, q, k, v, h => by
    have one : ∀ {y : Value}, y.category = 1 → (some y :: am_lay r)[k]? = some (some v) → (q + k, am_cv ad b v) ∈ lv_args q ((y :: r).map (am_cv ad b)) := by
      intro y hy h
      show _ ∈ (q, am_cv ad b y) :: lv_args (if (am_cv ad b y).category = 2 then q + 2 else q + 1) (r.map (am_cv ad b))
      rw [am_cat1, hy, if_neg (by decide)]
      cases k with
      | zero => simp only [List.getElem?_cons_zero, Option.some.injEq] at h; subst h; exact List.mem_cons_self
      | succ k =>
        simp only [List.getElem?_cons_succ] at h
        have := am_lay_at (ad := ad) (b := b) (q := q + 1) h
        rw [show q + 1 + k = q + (k + 1) by omega] at this
        exact List.mem_cons_of_mem _ this
    have two : ∀ {y : Value}, y.category = 2 → (some y :: none :: am_lay r)[k]? = some (some v) → (q + k, am_cv ad b v) ∈ lv_args q ((y :: r).map (am_cv ad b)) := by
      intro y hy h
      show _ ∈ (q, am_cv ad b y) :: lv_args (if (am_cv ad b y).category = 2 then q + 2 else q + 1) (r.map (am_cv ad b))
      rw [am_cat1, hy, if_pos rfl]
      match k, h with
      | 0, h => simp only [List.getElem?_cons_zero, Option.some.injEq] at h; subst h; exact List.mem_cons_self
      | 1, h => simp at h
      | k + 2, h =>
        simp only [List.getElem?_cons_succ] at h
        have := am_lay_at (ad := ad) (b := b) (q := q + 2) h
        rw [show q + 2 + k = q + (k + 2) by omega] at this
        exact List.mem_cons_of_mem _ this
    cases x with
    | long z => exact two rfl h
    | double z => exact two rfl h
    | _ => exact one rfl h
theorem am_lay_len {ad : Nat → Nat} {b : Nat} : ∀ (as : List Value), (lg_sl (as.map (am_cv ad b))).length = (am_lay as).length
  | [] => rfl
  | x :: r => by
    have ih := am_lay_len (ad := ad) (b := b) r
    have e : lg_sl ((x :: r).map (am_cv ad b)) = (if (am_cv ad b x).category = 2 then [.val (am_cv ad b x), .second] else [.val (am_cv ad b x)]) ++ lg_sl (r.map (am_cv ad b)) := by simp [lg_sl]
    rw [e, List.length_append, ih]
    cases x <;> simp [am_lay, am_cv, Value.category] <;> omega
def am_mg (j : Nat) : Bool := plainName (am_y j).cls && decide ((am_y j).cls = am_mo j)
theorem am_mg_all : ∀ j, j < 107 → am_mg j = true := by decide +kernel
set_option maxHeartbeats 2000000 in
theorem am_Call_of {X : Nat × (Nat → Int32)} {D j : Nat} {as : List Value} {G : am_H} {P : Option Value → am_H → Prop} (hj : j < 107) (hlen : (am_lay as).length ≤ am_ml j) (h : am_WP X D j 0 (am_ent (am_ml j) as) [] G 0 0 P) : am_Call X D j as G P := by
  intro l dC dI b A ad cA tys hbA
  have hg := am_mg_all j hj
  simp only [am_mg, Bool.and_eq_true, decide_eq_true_eq] at hg
  refine Met.ofW (cc := am_by j) (maxL := am_ml j) (ret := am_rt j) hg.1 rfl ?_
  intro p e s m args below meth c s₁ B hml hv
  obtain ⟨rfl, hR, hX, hbl, hN, hA⟩ := hv
  have hts := atoms_spec (ws := am_W j) B.pre
  have hown : s.vm.findClass (am_mo j) = some m.cls := hg.2 ▸ findClass_of_methodNamed B.named
  have hnm : meth.name = (am_y j).name := (name_of_methodNamed B.named B.method).1
  have hl0 := lv_entry (as.map (am_cv ad b)) (n := am_ml j) (by rw [am_lay_len]; exact hlen)
  rw [lg_entry_eq]
  generalize (lg_sl (as.map (am_cv ad b)) ++ List.replicate (am_ml j - (lg_sl (as.map (am_cv ad b))).length) Slot.unset).toArray = ls at hl0 ⊢
  have hL : am_LOk ad b ls (am_ml j) (am_ent (am_ml j) as) := by
    refine ⟨?_, ⟨hl0.1, hl0.2.1, fun q hq => by cases hq⟩, fun k v hk => ?_⟩
    · simp only [am_ent, List.length_append, List.length_replicate]; omega
    · have hk2 : (am_lay as)[k]? = some (some v) := by
        unfold am_ent at hk
        by_cases z : k < (am_lay as).length
        · rw [List.getElem?_append_left z] at hk; exact hk
        · rw [List.getElem?_append_right (by omega), List.getElem?_replicate] at hk
          split at hk <;> cases hk
      have := am_lay_at (ad := ad) (b := b) (q := 0) hk2
      rw [Nat.zero_add] at this
      exact hl0.2.2 _ this
  refine h p l e _ s m _ below meth c dC dI b A ad cA tys s.heap [] ls _ ⟨B.exec, B.bytes, hml, hown, fun w hw => hts w (List.mem_cons_of_mem _ hw), B.returns, B.notSynchronized, fun z => hnm.trans z, Nat.le_refl _, Nat.le_refl _, Nat.le_refl _, Nat.le_refl _, hN⟩ hX hbl hbA hA va_S.rf hR hL ?_
  intro ins v G1 ad1 cA1 tys1 H1 locs1 ls1 pc1 c1 s1 hc1 hs1 hp hrv hri hd hag hS1 hR1
  refine W.widen hc1 hs1 ?_
  have hq : ∀ t : State, t.heap = H1 → s.WarmedH t.vm → am_post dC dI b A ad G j P (List.toArray (as.map (am_cv ad b))) s (.returned (v.map (am_cv ad1 b))) t := fun t ht hW => ⟨⟨v, G1, ad1, cA1, tys1, rfl, hp, hrv, hag, ht ▸ am_Rel.mv hW.alike hR1⟩, hS1.F ht⟩
  rcases hri with ⟨rfl, ht⟩ | ⟨rfl, ht⟩ | ⟨rfl, n, ht⟩ | ⟨rfl, ht⟩
  · rcases ht with ht | ht
    · rw [ht] at hrv
      match v, hrv with
      | some (.int x), _ => exact W.zret B.exec B.bytes (B.returns.trans ht) rfl (fun t a b => hq t a b) hS1.2.2 hd B.notSynchronized
    · rw [ht] at hrv
      match v, hrv with
      | some (.int x), hrv => exact W.zret B.exec B.bytes (B.returns.trans ht) (by rcases hrv with rfl | rfl <;> rfl) (fun t a b => hq t a b) hS1.2.2 hd B.notSynchronized
  · rw [ht] at hrv
    match v, hrv with
    | some (.long x), _ => exact W.lret B.exec B.bytes (B.returns.trans ht) (fun t a b => hq t a b) hS1.2.2 hd B.notSynchronized
  · rw [ht] at hrv
    match v, hrv with
    | some (.ref x), _ => exact W.aret B.exec B.bytes (B.returns.trans ht) (Or.inl ⟨n, rfl⟩) (Or.inr ⟨_, rfl⟩) (fun t a b => hq t a b) hS1.2.2 hd B.notSynchronized
    | some .null, _ => exact W.aret B.exec B.bytes (B.returns.trans ht) (Or.inl ⟨n, rfl⟩) (Or.inl rfl) (fun t a b => hq t a b) hS1.2.2 hd B.notSynchronized
  · rw [ht] at hrv
    match v, hrv with
    | none, _ => exact W.vret B.exec B.bytes (B.returns.trans ht) (fun t a b => hq t a b) hS1.2.2 hd B.notSynchronized
theorem am_CB_of {X : Nat × (Nat → Int32)} {D D' j : Nat} {as : List Value} {G : am_H} {P : Option Value → am_H → Prop} (hj : j < 107) (hlen : (am_lay as).length ≤ am_ml j) (hD : D' + 1 ≤ D) (h : am_WP X D' j 0 (am_ent (am_ml j) as) [] G 0 0 P) : am_CB X D j as G P := ⟨D', hD, am_Call_of hj hlen h⟩
theorem am_s1 {X : Nat × (Nat → Int32)} {D i pc nx a b : Nat} {v : Int32} {w : Int64} {L : List (Option Value)} {st : List Value} {G : am_H} {c s : Nat} {P : Option Value → am_H → Prop} {K : am_K} : am_step X D i pc 1 nx a b v w L st G c s P K = (am_iv (am_lg L a) (fun x => K nx L (.int x :: st) G c s)) := rfl
theorem am_s2 {X : Nat × (Nat → Int32)} {D i pc nx a b : Nat} {v : Int32} {w : Int64} {L : List (Option Value)} {st : List Value} {G : am_H} {c s : Nat} {P : Option Value → am_H → Prop} {K : am_K} : am_step X D i pc 2 nx a b v w L st G c s P K = (am_av (am_lg L a) (fun x => K nx L (x :: st) G c s)) := rfl
theorem am_s3 {X : Nat × (Nat → Int32)} {D i pc nx a b : Nat} {v : Int32} {w : Int64} {L : List (Option Value)} {st : List Value} {G : am_H} {c s : Nat} {P : Option Value → am_H → Prop} {K : am_K} : am_step X D i pc 3 nx a b v w L st G c s P K = (am_lv (am_lg L a) (fun x => K nx L (.long x :: st) G c s)) := rfl
theorem am_s4 {X : Nat × (Nat → Int32)} {D i pc nx a b : Nat} {v : Int32} {w : Int64} {L : List (Option Value)} {st : List Value} {G : am_H} {c s : Nat} {P : Option Value → am_H → Prop} {K : am_K} : am_step X D i pc 4 nx a b v w L st G c s P K = (K nx L (.int v :: st) G c s) := rfl
theorem am_s5 {X : Nat × (Nat → Int32)} {D i pc nx a b : Nat} {v : Int32} {w : Int64} {L : List (Option Value)} {st : List Value} {G : am_H} {c s : Nat} {P : Option Value → am_H → Prop} {K : am_K} : am_step X D i pc 5 nx a b v w L st G c s P K = (K nx L (.long w :: st) G c s) := rfl
theorem am_s6 {X : Nat × (Nat → Int32)} {D i pc nx a b : Nat} {v : Int32} {w : Int64} {L : List (Option Value)} {st : List Value} {G : am_H} {c s : Nat} {P : Option Value → am_H → Prop} {K : am_K} : am_step X D i pc 6 nx a b v w L st G c s P K = (am_I1 st (fun x r => K nx (am_l1 L a (.int x)) r G c s)) := rfl
theorem am_s7 {X : Nat × (Nat → Int32)} {D i pc nx a b : Nat} {v : Int32} {w : Int64} {L : List (Option Value)} {st : List Value} {G : am_H} {c s : Nat} {P : Option Value → am_H → Prop} {K : am_K} : am_step X D i pc 7 nx a b v w L st G c s P K = (am_AR st (fun x r => K nx (am_l1 L a x) r G c s)) := rfl
theorem am_s8 {X : Nat × (Nat → Int32)} {D i pc nx a b : Nat} {v : Int32} {w : Int64} {L : List (Option Value)} {st : List Value} {G : am_H} {c s : Nat} {P : Option Value → am_H → Prop} {K : am_K} : am_step X D i pc 8 nx a b v w L st G c s P K = (am_J1 st (fun x r => K nx (am_l2 L a (.long x)) r G c s)) := rfl
theorem am_s9 {X : Nat × (Nat → Int32)} {D i pc nx a b : Nat} {v : Int32} {w : Int64} {L : List (Option Value)} {st : List Value} {G : am_H} {c s : Nat} {P : Option Value → am_H → Prop} {K : am_K} : am_step X D i pc 9 nx a b v w L st G c s P K = (am_iv (am_lg L a) (fun x => K nx (am_l1 L a (.int (x + v))) st G c s)) := rfl
theorem am_s10 {X : Nat × (Nat → Int32)} {D i pc nx a b : Nat} {v : Int32} {w : Int64} {L : List (Option Value)} {st : List Value} {G : am_H} {c s : Nat} {P : Option Value → am_H → Prop} {K : am_K} : am_step X D i pc 10 nx a b v w L st G c s P K = (am_I2 st (fun x y r => K nx L (.int (x + y) :: r) G c s)) := rfl
theorem am_s11 {X : Nat × (Nat → Int32)} {D i pc nx a b : Nat} {v : Int32} {w : Int64} {L : List (Option Value)} {st : List Value} {G : am_H} {c s : Nat} {P : Option Value → am_H → Prop} {K : am_K} : am_step X D i pc 11 nx a b v w L st G c s P K = (am_I2 st (fun x y r => K nx L (.int (x - y) :: r) G c s)) := rfl
theorem am_s12 {X : Nat × (Nat → Int32)} {D i pc nx a b : Nat} {v : Int32} {w : Int64} {L : List (Option Value)} {st : List Value} {G : am_H} {c s : Nat} {P : Option Value → am_H → Prop} {K : am_K} : am_step X D i pc 12 nx a b v w L st G c s P K = (am_I2 st (fun x y r => K nx L (.int (x * y) :: r) G c s)) := rfl
theorem am_s13 {X : Nat × (Nat → Int32)} {D i pc nx a b : Nat} {v : Int32} {w : Int64} {L : List (Option Value)} {st : List Value} {G : am_H} {c s : Nat} {P : Option Value → am_H → Prop} {K : am_K} : am_step X D i pc 13 nx a b v w L st G c s P K = (am_I2 st (fun x y r => ¬ y = 0 ∧ K nx L (.int (x / y) :: r) G c s)) := rfl
theorem am_s14 {X : Nat × (Nat → Int32)} {D i pc nx a b : Nat} {v : Int32} {w : Int64} {L : List (Option Value)} {st : List Value} {G : am_H} {c s : Nat} {P : Option Value → am_H → Prop} {K : am_K} : am_step X D i pc 14 nx a b v w L st G c s P K = (am_I2 st (fun x y r => ¬ y = 0 ∧ K nx L (.int (x - x / y * y) :: r) G c s)) := rfl
theorem am_s15 {X : Nat × (Nat → Int32)} {D i pc nx a b : Nat} {v : Int32} {w : Int64} {L : List (Option Value)} {st : List Value} {G : am_H} {c s : Nat} {P : Option Value → am_H → Prop} {K : am_K} : am_step X D i pc 15 nx a b v w L st G c s P K = (am_I1 st (fun x r => K nx L (.int (-x) :: r) G c s)) := rfl
theorem am_s16 {X : Nat × (Nat → Int32)} {D i pc nx a b : Nat} {v : Int32} {w : Int64} {L : List (Option Value)} {st : List Value} {G : am_H} {c s : Nat} {P : Option Value → am_H → Prop} {K : am_K} : am_step X D i pc 16 nx a b v w L st G c s P K = (am_I2 st (fun x y r => K nx L (.int (x <<< (y &&& 31)) :: r) G c s)) := rfl
theorem am_s17 {X : Nat × (Nat → Int32)} {D i pc nx a b : Nat} {v : Int32} {w : Int64} {L : List (Option Value)} {st : List Value} {G : am_H} {c s : Nat} {P : Option Value → am_H → Prop} {K : am_K} : am_step X D i pc 17 nx a b v w L st G c s P K = (am_I2 st (fun x y r => K nx L (.int (x >>> (y &&& 31)) :: r) G c s)) := rfl
theorem am_s18 {X : Nat × (Nat → Int32)} {D i pc nx a b : Nat} {v : Int32} {w : Int64} {L : List (Option Value)} {st : List Value} {G : am_H} {c s : Nat} {P : Option Value → am_H → Prop} {K : am_K} : am_step X D i pc 18 nx a b v w L st G c s P K = (am_I2 st (fun x y r => K nx L (.int ((x.toUInt32 >>> (y.toUInt32 &&& Int32.toUInt32 31)).toInt32) :: r) G c s)) := rfl
theorem am_s19 {X : Nat × (Nat → Int32)} {D i pc nx a b : Nat} {v : Int32} {w : Int64} {L : List (Option Value)} {st : List Value} {G : am_H} {c s : Nat} {P : Option Value → am_H → Prop} {K : am_K} : am_step X D i pc 19 nx a b v w L st G c s P K = (am_I2 st (fun x y r => K nx L (.int (x &&& y) :: r) G c s)) := rfl
theorem am_s20 {X : Nat × (Nat → Int32)} {D i pc nx a b : Nat} {v : Int32} {w : Int64} {L : List (Option Value)} {st : List Value} {G : am_H} {c s : Nat} {P : Option Value → am_H → Prop} {K : am_K} : am_step X D i pc 20 nx a b v w L st G c s P K = (am_I2 st (fun x y r => K nx L (.int (x ||| y) :: r) G c s)) := rfl
theorem am_s21 {X : Nat × (Nat → Int32)} {D i pc nx a b : Nat} {v : Int32} {w : Int64} {L : List (Option Value)} {st : List Value} {G : am_H} {c s : Nat} {P : Option Value → am_H → Prop} {K : am_K} : am_step X D i pc 21 nx a b v w L st G c s P K = (am_I2 st (fun x y r => K nx L (.int (x ^^^ y) :: r) G c s)) := rfl
theorem am_s22 {X : Nat × (Nat → Int32)} {D i pc nx a b : Nat} {v : Int32} {w : Int64} {L : List (Option Value)} {st : List Value} {G : am_H} {c s : Nat} {P : Option Value → am_H → Prop} {K : am_K} : am_step X D i pc 22 nx a b v w L st G c s P K = (am_J2 st (fun x y r => K nx L (.long (x + y) :: r) G c s)) := rfl
theorem am_s23 {X : Nat × (Nat → Int32)} {D i pc nx a b : Nat} {v : Int32} {w : Int64} {L : List (Option Value)} {st : List Value} {G : am_H} {c s : Nat} {P : Option Value → am_H → Prop} {K : am_K} : am_step X D i pc 23 nx a b v w L st G c s P K = (am_J2 st (fun x y r => K nx L (.long (x - y) :: r) G c s)) := rfl
theorem am_s24 {X : Nat × (Nat → Int32)} {D i pc nx a b : Nat} {v : Int32} {w : Int64} {L : List (Option Value)} {st : List Value} {G : am_H} {c s : Nat} {P : Option Value → am_H → Prop} {K : am_K} : am_step X D i pc 24 nx a b v w L st G c s P K = (am_J2 st (fun x y r => K nx L (.long (x &&& y) :: r) G c s)) := rfl
theorem am_s25 {X : Nat × (Nat → Int32)} {D i pc nx a b : Nat} {v : Int32} {w : Int64} {L : List (Option Value)} {st : List Value} {G : am_H} {c s : Nat} {P : Option Value → am_H → Prop} {K : am_K} : am_step X D i pc 25 nx a b v w L st G c s P K = (am_J2 st (fun x y r => K nx L (.long (x ||| y) :: r) G c s)) := rfl
theorem am_s26 {X : Nat × (Nat → Int32)} {D i pc nx a b : Nat} {v : Int32} {w : Int64} {L : List (Option Value)} {st : List Value} {G : am_H} {c s : Nat} {P : Option Value → am_H → Prop} {K : am_K} : am_step X D i pc 26 nx a b v w L st G c s P K = (am_J2 st (fun x y r => K nx L (.long (x ^^^ y) :: r) G c s)) := rfl
theorem am_s27 {X : Nat × (Nat → Int32)} {D i pc nx a b : Nat} {v : Int32} {w : Int64} {L : List (Option Value)} {st : List Value} {G : am_H} {c s : Nat} {P : Option Value → am_H → Prop} {K : am_K} : am_step X D i pc 27 nx a b v w L st G c s P K = (am_JI st (fun x y r => K nx L (.long (x <<< (y.toInt64 &&& 63)) :: r) G c s)) := rfl
theorem am_s28 {X : Nat × (Nat → Int32)} {D i pc nx a b : Nat} {v : Int32} {w : Int64} {L : List (Option Value)} {st : List Value} {G : am_H} {c s : Nat} {P : Option Value → am_H → Prop} {K : am_K} : am_step X D i pc 28 nx a b v w L st G c s P K = (am_JI st (fun x y r => K nx L (.long (x >>> (y.toInt64 &&& 63)) :: r) G c s)) := rfl
theorem am_s29 {X : Nat × (Nat → Int32)} {D i pc nx a b : Nat} {v : Int32} {w : Int64} {L : List (Option Value)} {st : List Value} {G : am_H} {c s : Nat} {P : Option Value → am_H → Prop} {K : am_K} : am_step X D i pc 29 nx a b v w L st G c s P K = (am_JI st (fun x y r => K nx L (.long ((x.toUInt64 >>> (y.toInt64.toUInt64 &&& Int64.toUInt64 63)).toInt64) :: r) G c s)) := rfl
theorem am_s30 {X : Nat × (Nat → Int32)} {D i pc nx a b : Nat} {v : Int32} {w : Int64} {L : List (Option Value)} {st : List Value} {G : am_H} {c s : Nat} {P : Option Value → am_H → Prop} {K : am_K} : am_step X D i pc 30 nx a b v w L st G c s P K = (am_J2 st (fun x y r => K nx L (.int (lg_cmp x y) :: r) G c s)) := rfl
theorem am_s31 {X : Nat × (Nat → Int32)} {D i pc nx a b : Nat} {v : Int32} {w : Int64} {L : List (Option Value)} {st : List Value} {G : am_H} {c s : Nat} {P : Option Value → am_H → Prop} {K : am_K} : am_step X D i pc 31 nx a b v w L st G c s P K = (am_J1 st (fun x r => K nx L (.int x.toInt32 :: r) G c s)) := rfl
theorem am_s32 {X : Nat × (Nat → Int32)} {D i pc nx a b : Nat} {v : Int32} {w : Int64} {L : List (Option Value)} {st : List Value} {G : am_H} {c s : Nat} {P : Option Value → am_H → Prop} {K : am_K} : am_step X D i pc 32 nx a b v w L st G c s P K = (am_I1 st (fun x r => K nx L (.long x.toInt64 :: r) G c s)) := rfl
theorem am_s33 {X : Nat × (Nat → Int32)} {D i pc nx a b : Nat} {v : Int32} {w : Int64} {L : List (Option Value)} {st : List Value} {G : am_H} {c s : Nat} {P : Option Value → am_H → Prop} {K : am_K} : am_step X D i pc 33 nx a b v w L st G c s P K = (am_I2 st (fun x y r => if x = y then K a L r G c s else K nx L r G c s)) := rfl
theorem am_s34 {X : Nat × (Nat → Int32)} {D i pc nx a b : Nat} {v : Int32} {w : Int64} {L : List (Option Value)} {st : List Value} {G : am_H} {c s : Nat} {P : Option Value → am_H → Prop} {K : am_K} : am_step X D i pc 34 nx a b v w L st G c s P K = (am_I2 st (fun x y r => if x = y then K nx L r G c s else K a L r G c s)) := rfl
theorem am_s35 {X : Nat × (Nat → Int32)} {D i pc nx a b : Nat} {v : Int32} {w : Int64} {L : List (Option Value)} {st : List Value} {G : am_H} {c s : Nat} {P : Option Value → am_H → Prop} {K : am_K} : am_step X D i pc 35 nx a b v w L st G c s P K = (am_I2 st (fun x y r => if x < y then K a L r G c s else K nx L r G c s)) := rfl
theorem am_s36 {X : Nat × (Nat → Int32)} {D i pc nx a b : Nat} {v : Int32} {w : Int64} {L : List (Option Value)} {st : List Value} {G : am_H} {c s : Nat} {P : Option Value → am_H → Prop} {K : am_K} : am_step X D i pc 36 nx a b v w L st G c s P K = (am_I2 st (fun x y r => if x < y then K nx L r G c s else K a L r G c s)) := rfl
theorem am_s37 {X : Nat × (Nat → Int32)} {D i pc nx a b : Nat} {v : Int32} {w : Int64} {L : List (Option Value)} {st : List Value} {G : am_H} {c s : Nat} {P : Option Value → am_H → Prop} {K : am_K} : am_step X D i pc 37 nx a b v w L st G c s P K = (am_I2 st (fun x y r => if y < x then K a L r G c s else K nx L r G c s)) := rfl
theorem am_s38 {X : Nat × (Nat → Int32)} {D i pc nx a b : Nat} {v : Int32} {w : Int64} {L : List (Option Value)} {st : List Value} {G : am_H} {c s : Nat} {P : Option Value → am_H → Prop} {K : am_K} : am_step X D i pc 38 nx a b v w L st G c s P K = (am_I2 st (fun x y r => if y < x then K nx L r G c s else K a L r G c s)) := rfl
theorem am_s39 {X : Nat × (Nat → Int32)} {D i pc nx a b : Nat} {v : Int32} {w : Int64} {L : List (Option Value)} {st : List Value} {G : am_H} {c s : Nat} {P : Option Value → am_H → Prop} {K : am_K} : am_step X D i pc 39 nx a b v w L st G c s P K = (am_I1 st (fun x r => if x = 0 then K a L r G c s else K nx L r G c s)) := rfl
theorem am_s40 {X : Nat × (Nat → Int32)} {D i pc nx a b : Nat} {v : Int32} {w : Int64} {L : List (Option Value)} {st : List Value} {G : am_H} {c s : Nat} {P : Option Value → am_H → Prop} {K : am_K} : am_step X D i pc 40 nx a b v w L st G c s P K = (am_I1 st (fun x r => if x = 0 then K nx L r G c s else K a L r G c s)) := rfl
theorem am_s41 {X : Nat × (Nat → Int32)} {D i pc nx a b : Nat} {v : Int32} {w : Int64} {L : List (Option Value)} {st : List Value} {G : am_H} {c s : Nat} {P : Option Value → am_H → Prop} {K : am_K} : am_step X D i pc 41 nx a b v w L st G c s P K = (am_I1 st (fun x r => if x < 0 then K a L r G c s else K nx L r G c s)) := rfl
theorem am_s42 {X : Nat × (Nat → Int32)} {D i pc nx a b : Nat} {v : Int32} {w : Int64} {L : List (Option Value)} {st : List Value} {G : am_H} {c s : Nat} {P : Option Value → am_H → Prop} {K : am_K} : am_step X D i pc 42 nx a b v w L st G c s P K = (am_I1 st (fun x r => if x < 0 then K nx L r G c s else K a L r G c s)) := rfl
theorem am_s43 {X : Nat × (Nat → Int32)} {D i pc nx a b : Nat} {v : Int32} {w : Int64} {L : List (Option Value)} {st : List Value} {G : am_H} {c s : Nat} {P : Option Value → am_H → Prop} {K : am_K} : am_step X D i pc 43 nx a b v w L st G c s P K = (am_I1 st (fun x r => if 0 < x then K a L r G c s else K nx L r G c s)) := rfl
theorem am_s44 {X : Nat × (Nat → Int32)} {D i pc nx a b : Nat} {v : Int32} {w : Int64} {L : List (Option Value)} {st : List Value} {G : am_H} {c s : Nat} {P : Option Value → am_H → Prop} {K : am_K} : am_step X D i pc 44 nx a b v w L st G c s P K = (am_I1 st (fun x r => if 0 < x then K nx L r G c s else K a L r G c s)) := rfl
theorem am_s45 {X : Nat × (Nat → Int32)} {D i pc nx a b : Nat} {v : Int32} {w : Int64} {L : List (Option Value)} {st : List Value} {G : am_H} {c s : Nat} {P : Option Value → am_H → Prop} {K : am_K} : am_step X D i pc 45 nx a b v w L st G c s P K = (K a L st G c s) := rfl
theorem am_s46 {X : Nat × (Nat → Int32)} {D i pc nx a b : Nat} {v : Int32} {w : Int64} {L : List (Option Value)} {st : List Value} {G : am_H} {c s : Nat} {P : Option Value → am_H → Prop} {K : am_K} : am_step X D i pc 46 nx a b v w L st G c s P K = (am_RN st (fun r => K a L r G c s) (fun r => K nx L r G c s)) := rfl
theorem am_s48 {X : Nat × (Nat → Int32)} {D i pc nx a b : Nat} {v : Int32} {w : Int64} {L : List (Option Value)} {st : List Value} {G : am_H} {c s : Nat} {P : Option Value → am_H → Prop} {K : am_K} : am_step X D i pc 48 nx a b v w L st G c s P K = (am_R1 st (fun k r => am_get (am_ob G k a) b (fun v => K nx L (v :: r) G c s))) := rfl
theorem am_s49 {X : Nat × (Nat → Int32)} {D i pc nx a b : Nat} {v : Int32} {w : Int64} {L : List (Option Value)} {st : List Value} {G : am_H} {c s : Nat} {P : Option Value → am_H → Prop} {K : am_K} : am_step X D i pc 49 nx a b v w L st G c s P K = (am_VR st (fun v k r => am_fit (am_tT a b) v ∧ am_put (am_ob G k a) (fun fs => b < fs.length ∧ K nx L r (G.set k (am_o a (fs.set b v))) c s))) := rfl
theorem am_s50 {X : Nat × (Nat → Int32)} {D i pc nx a b : Nat} {v : Int32} {w : Int64} {L : List (Option Value)} {st : List Value} {G : am_H} {c s : Nat} {P : Option Value → am_H → Prop} {K : am_K} : am_step X D i pc 50 nx a b v w L st G c s P K = (am_VR st (fun v k r => am_fit (am_tT a b) v ∧ am_put (am_ob G k a) (fun fs => b < fs.length ∧ K nx L r (G.set k (am_o a (fs.set b v))) c s))) := rfl
theorem am_s51 {X : Nat × (Nat → Int32)} {D i pc nx a b : Nat} {v : Int32} {w : Int64} {L : List (Option Value)} {st : List Value} {G : am_H} {c s : Nat} {P : Option Value → am_H → Prop} {K : am_K} : am_step X D i pc 51 nx a b v w L st G c s P K = (am_IRS st (fun j k r => am_arr (am_ia G k 0) j (fun _ f j => K nx L (.int (f j) :: r) G c s)) (fun j r => vp_in j X.1 ∧ K nx L (.int (X.2 j.toNatClampNeg) :: r) G c s)) := rfl
theorem am_s52 {X : Nat × (Nat → Int32)} {D i pc nx a b : Nat} {v : Int32} {w : Int64} {L : List (Option Value)} {st : List Value} {G : am_H} {c s : Nat} {P : Option Value → am_H → Prop} {K : am_K} : am_step X D i pc 52 nx a b v w L st G c s P K = (am_IIR st (fun y j k r => am_arr (am_ia G k 0) j (fun n f j => K nx L r (G.set k (am_ai 0 n (upd f j y))) c s))) := rfl
theorem am_s53 {X : Nat × (Nat → Int32)} {D i pc nx a b : Nat} {v : Int32} {w : Int64} {L : List (Option Value)} {st : List Value} {G : am_H} {c s : Nat} {P : Option Value → am_H → Prop} {K : am_K} : am_step X D i pc 53 nx a b v w L st G c s P K = (am_IR st (fun j k r => am_arr (am_la G k) j (fun _ f j => K nx L (.long (f j) :: r) G c s))) := rfl
theorem am_s54 {X : Nat × (Nat → Int32)} {D i pc nx a b : Nat} {v : Int32} {w : Int64} {L : List (Option Value)} {st : List Value} {G : am_H} {c s : Nat} {P : Option Value → am_H → Prop} {K : am_K} : am_step X D i pc 54 nx a b v w L st G c s P K = (am_JIR st (fun y j k r => am_arr (am_la G k) j (fun n f j => K nx L r (G.set k (am_al n (vp_updL f j y))) c s))) := rfl
theorem am_s55 {X : Nat × (Nat → Int32)} {D i pc nx a b : Nat} {v : Int32} {w : Int64} {L : List (Option Value)} {st : List Value} {G : am_H} {c s : Nat} {P : Option Value → am_H → Prop} {K : am_K} : am_step X D i pc 55 nx a b v w L st G c s P K = (am_IR st (fun j k r => am_arr (am_ia G k 1) j (fun _ f j => K nx L (.int (f j) :: r) G c s))) := rfl
theorem am_s56 {X : Nat × (Nat → Int32)} {D i pc nx a b : Nat} {v : Int32} {w : Int64} {L : List (Option Value)} {st : List Value} {G : am_H} {c s : Nat} {P : Option Value → am_H → Prop} {K : am_K} : am_step X D i pc 56 nx a b v w L st G c s P K = (am_IIR st (fun y j k r => am_arr (am_ia G k 1) j (fun n f j => K nx L r (G.set k (am_ai 1 n (upd f j (vp_nar .boolean y)))) c s))) := rfl
theorem am_s57 {X : Nat × (Nat → Int32)} {D i pc nx a b : Nat} {v : Int32} {w : Int64} {L : List (Option Value)} {st : List Value} {G : am_H} {c s : Nat} {P : Option Value → am_H → Prop} {K : am_K} : am_step X D i pc 57 nx a b v w L st G c s P K = (am_IR st (fun j k r => am_arr (am_ra G k) j (fun _ f j => K nx L (va_rf (f j) :: r) G c s))) := rfl
theorem am_s58 {X : Nat × (Nat → Int32)} {D i pc nx a b : Nat} {v : Int32} {w : Int64} {L : List (Option Value)} {st : List Value} {G : am_H} {c s : Nat} {P : Option Value → am_H → Prop} {K : am_K} : am_step X D i pc 58 nx a b v w L st G c s P K = (am_RIR st (fun z j k r => (am_ob G z 2).isSome ∧ am_arr (am_ra G k) j (fun n f j => K nx L r (G.set k (am_ar n (va_up f j (some z)))) c s))) := rfl
theorem am_s59 {X : Nat × (Nat → Int32)} {D i pc nx a b : Nat} {v : Int32} {w : Int64} {L : List (Option Value)} {st : List Value} {G : am_H} {c s : Nat} {P : Option Value → am_H → Prop} {K : am_K} : am_step X D i pc 59 nx a b v w L st G c s P K = (am_RS st (fun k r => am_len (am_alen G k) (fun n => K nx L (.int n :: r) G c s)) (fun r => K nx L (.int (Int32.ofNat X.1) :: r) G c s)) := rfl
theorem am_s60 {X : Nat × (Nat → Int32)} {D i pc nx a b : Nat} {v : Int32} {w : Int64} {L : List (Option Value)} {st : List Value} {G : am_H} {c s : Nat} {P : Option Value → am_H → Prop} {K : am_K} : am_step X D i pc 60 nx a b v w L st G c s P K = (c + 1 ≤ am_mc i ∧ s + am_N a ≤ am_ms i ∧ am_fr L st G ∧ K nx L (.ref G.length :: st) (G ++ [am_o a (am_df a)]) (c + 1) (s + am_N a)) := rfl
theorem am_s61 {X : Nat × (Nat → Int32)} {D i pc nx a b : Nat} {v : Int32} {w : Int64} {L : List (Option Value)} {st : List Value} {G : am_H} {c s : Nat} {P : Option Value → am_H → Prop} {K : am_K} : am_step X D i pc 61 nx a b v w L st G c s P K = (am_I1 st (fun n r => ¬ n < 0 ∧ n.toNatClampNeg ≤ 60000000 ∧ c + 1 ≤ am_mc i ∧ s + n.toNatClampNeg ≤ am_ms i ∧ am_fr L r G ∧ K nx L (.ref G.length :: r) (G ++ [am_na a n.toNatClampNeg]) (c + 1) (s + n.toNatClampNeg))) := rfl
theorem am_s62 {X : Nat × (Nat → Int32)} {D i pc nx a b : Nat} {v : Int32} {w : Int64} {L : List (Option Value)} {st : List Value} {G : am_H} {c s : Nat} {P : Option Value → am_H → Prop} {K : am_K} : am_step X D i pc 62 nx a b v w L st G c s P K = (am_I1 st (fun n r => ¬ n < 0 ∧ n.toNatClampNeg ≤ 60000000 ∧ c + 1 ≤ am_mc i ∧ s + n.toNatClampNeg ≤ am_ms i ∧ am_fr L r G ∧ K nx L (.ref G.length :: r) (G ++ [am_ar n.toNatClampNeg (fun _ => none)]) (c + 1) (s + n.toNatClampNeg))) := rfl
theorem am_s63 {X : Nat × (Nat → Int32)} {D i pc nx a b : Nat} {v : Int32} {w : Int64} {L : List (Option Value)} {st : List Value} {G : am_H} {c s : Nat} {P : Option Value → am_H → Prop} {K : am_K} : am_step X D i pc 63 nx a b v w L st G c s P K = (am_V1 st (fun v r => v.category = 1 ∧ K nx L (v :: v :: r) G c s)) := rfl
theorem am_s64 {X : Nat × (Nat → Int32)} {D i pc nx a b : Nat} {v : Int32} {w : Int64} {L : List (Option Value)} {st : List Value} {G : am_H} {c s : Nat} {P : Option Value → am_H → Prop} {K : am_K} : am_step X D i pc 64 nx a b v w L st G c s P K = (K nx L (.null :: st) G c s) := rfl
theorem am_s65 {X : Nat × (Nat → Int32)} {D i pc nx a b : Nat} {v : Int32} {w : Int64} {L : List (Option Value)} {st : List Value} {G : am_H} {c s : Nat} {P : Option Value → am_H → Prop} {K : am_K} : am_step X D i pc 65 nx a b v w L st G c s P K = (am_A (am_pop b st []) (fun as r => am_R1 r (fun k r => (am_ob G k (am_ci a)).isSome ∧ am_cat r ≤ 8 ∧ am_CB X D a (.ref k :: as) G (fun v G1 => K nx L (v.toList ++ r) G1 c s)))) := rfl
theorem am_s66 {X : Nat × (Nat → Int32)} {D i pc nx a b : Nat} {v : Int32} {w : Int64} {L : List (Option Value)} {st : List Value} {G : am_H} {c s : Nat} {P : Option Value → am_H → Prop} {K : am_K} : am_step X D i pc 66 nx a b v w L st G c s P K = (am_A (am_pop b st []) (fun as r => am_cat r ≤ 8 ∧ am_CB X D a as G (fun v G1 => K nx L (v.toList ++ r) G1 c s))) := rfl
theorem am_s67 {X : Nat × (Nat → Int32)} {D i pc nx a b : Nat} {v : Int32} {w : Int64} {L : List (Option Value)} {st : List Value} {G : am_H} {c s : Nat} {P : Option Value → am_H → Prop} {K : am_K} : am_step X D i pc 67 nx a b v w L st G c s P K = (am_A (am_pop b st []) (fun as r => am_cat r ≤ 8 ∧ am_CB X D a as G (fun v G1 => K nx L (v.toList ++ r) G1 c s))) := rfl
theorem am_s68 {X : Nat × (Nat → Int32)} {D i pc nx a b : Nat} {v : Int32} {w : Int64} {L : List (Option Value)} {st : List Value} {G : am_H} {c s : Nat} {P : Option Value → am_H → Prop} {K : am_K} : am_step X D i pc 68 nx a b v w L st G c s P K = (am_A (am_pop b st []) (fun as r => am_R1 r (fun k r => am_cat r ≤ 8 ∧ c + am_mc a ≤ am_mc i ∧ s + am_ms a ≤ am_ms i ∧ am_fr L r G ∧ am_CB X D a (.ref k :: as) G (fun v G1 => K nx L (v.toList ++ r) G1 (c + am_mc a) (s + am_ms a))))) := rfl
theorem am_s69 {X : Nat × (Nat → Int32)} {D i pc nx a b : Nat} {v : Int32} {w : Int64} {L : List (Option Value)} {st : List Value} {G : am_H} {c s : Nat} {P : Option Value → am_H → Prop} {K : am_K} : am_step X D i pc 69 nx a b v w L st G c s P K = (am_R1 st (fun _ r => 1 ≤ D ∧ am_cat r ≤ 8 ∧ K nx L r G c s)) := rfl
theorem am_s70 {X : Nat × (Nat → Int32)} {D i pc nx a b : Nat} {v : Int32} {w : Int64} {L : List (Option Value)} {st : List Value} {G : am_H} {c s : Nat} {P : Option Value → am_H → Prop} {K : am_K} : am_step X D i pc 70 nx a b v w L st G c s P K = (am_I1 st (fun x r => am_mt r ((a = 1 → x = 0 ∨ x = 1) ∧ c ≤ am_mc i ∧ s ≤ am_ms i ∧ P (some (.int x)) G))) := rfl
theorem am_s71 {X : Nat × (Nat → Int32)} {D i pc nx a b : Nat} {v : Int32} {w : Int64} {L : List (Option Value)} {st : List Value} {G : am_H} {c s : Nat} {P : Option Value → am_H → Prop} {K : am_K} : am_step X D i pc 71 nx a b v w L st G c s P K = (am_J1 st (fun x r => am_mt r (c ≤ am_mc i ∧ s ≤ am_ms i ∧ P (some (.long x)) G))) := rfl
theorem am_s72 {X : Nat × (Nat → Int32)} {D i pc nx a b : Nat} {v : Int32} {w : Int64} {L : List (Option Value)} {st : List Value} {G : am_H} {c s : Nat} {P : Option Value → am_H → Prop} {K : am_K} : am_step X D i pc 72 nx a b v w L st G c s P K = (am_AR st (fun x r => am_mt r (c ≤ am_mc i ∧ s ≤ am_ms i ∧ P (some x) G))) := rfl
theorem am_s73 {X : Nat × (Nat → Int32)} {D i pc nx a b : Nat} {v : Int32} {w : Int64} {L : List (Option Value)} {st : List Value} {G : am_H} {c s : Nat} {P : Option Value → am_H → Prop} {K : am_K} : am_step X D i pc 73 nx a b v w L st G c s P K = (am_mt st (c ≤ am_mc i ∧ s ≤ am_ms i ∧ P none G)) := rfl
theorem am_s74 {X : Nat × (Nat → Int32)} {D i pc nx a b : Nat} {v : Int32} {w : Int64} {L : List (Option Value)} {st : List Value} {G : am_H} {c s : Nat} {P : Option Value → am_H → Prop} {K : am_K} : am_step X D i pc 74 nx a b v w L st G c s P K = (am_I1 st (fun x r => am_sw x v a (fun t => K t L r G c s) (am_swt i pc))) := rfl
theorem am_s75 {X : Nat × (Nat → Int32)} {D i pc nx a b : Nat} {v : Int32} {w : Int64} {L : List (Option Value)} {st : List Value} {G : am_H} {c s : Nat} {P : Option Value → am_H → Prop} {K : am_K} : am_step X D i pc 75 nx a b v w L st G c s P K = (am_I2 st (fun x y r => 1 ≤ D ∧ am_cat r ≤ 8 ∧ K nx L (.int (if x < y then y else x) :: r) G c s)) := rfl
theorem am_s76 {X : Nat × (Nat → Int32)} {D i pc nx a b : Nat} {v : Int32} {w : Int64} {L : List (Option Value)} {st : List Value} {G : am_H} {c s : Nat} {P : Option Value → am_H → Prop} {K : am_K} : am_step X D i pc 76 nx a b v w L st G c s P K = (am_I2 st (fun x y r => 1 ≤ D ∧ am_cat r ≤ 8 ∧ K nx L (.int (if y < x then y else x) :: r) G c s)) := rfl
theorem am_I1_c {K : Int32 → List Value → Prop} {x : Int32} {r : List Value} : am_I1 (.int x :: r) K = K x r := rfl
theorem am_I2_c {K : Int32 → Int32 → List Value → Prop} {x y : Int32} {r : List Value} : am_I2 (.int y :: .int x :: r) K = K x y r := rfl
theorem am_J1_c {K : Int64 → List Value → Prop} {x : Int64} {r : List Value} : am_J1 (.long x :: r) K = K x r := rfl
theorem am_J2_c {K : Int64 → Int64 → List Value → Prop} {x y : Int64} {r : List Value} : am_J2 (.long y :: .long x :: r) K = K x y r := rfl
theorem am_JI_c {K : Int64 → Int32 → List Value → Prop} {x : Int64} {y : Int32} {r : List Value} : am_JI (.int y :: .long x :: r) K = K x y r := rfl
theorem am_R1_c {K : Nat → List Value → Prop} {x : Nat} {r : List Value} : am_R1 (.ref x :: r) K = K x r := rfl
theorem am_IR_c {K : Int32 → Nat → List Value → Prop} {j : Int32} {k : Nat} {r : List Value} : am_IR (.int j :: .ref k :: r) K = K j k r := rfl
theorem am_IIR_c {K : Int32 → Int32 → Nat → List Value → Prop} {y j : Int32} {k : Nat} {r : List Value} : am_IIR (.int y :: .int j :: .ref k :: r) K = K y j k r := rfl
theorem am_JIR_c {K : Int64 → Int32 → Nat → List Value → Prop} {y : Int64} {j : Int32} {k : Nat} {r : List Value} : am_JIR (.long y :: .int j :: .ref k :: r) K = K y j k r := rfl
theorem am_RIR_c {K : Nat → Int32 → Nat → List Value → Prop} {y : Nat} {j : Int32} {k : Nat} {r : List Value} : am_RIR (.ref y :: .int j :: .ref k :: r) K = K y j k r := rfl
theorem am_VR_c {K : Value → Nat → List Value → Prop} {v : Value} {k : Nat} {r : List Value} : am_VR (v :: .ref k :: r) K = K v k r := rfl
theorem am_V1_c {K : Value → List Value → Prop} {v : Value} {r : List Value} : am_V1 (v :: r) K = K v r := rfl
theorem am_IRS_c1 {K : Int32 → Nat → List Value → Prop} {S : Int32 → List Value → Prop} {j : Int32} {k : Nat} {r : List Value} : am_IRS (.int j :: .ref k :: r) K S = K j k r := rfl
theorem am_IRS_c2 {K : Int32 → Nat → List Value → Prop} {S : Int32 → List Value → Prop} {j : Int32} {z : UInt32} {r : List Value} : am_IRS (.int j :: .float z :: r) K S = S j r := rfl
theorem am_RS_c1 {K : Nat → List Value → Prop} {S : List Value → Prop} {k : Nat} {r : List Value} : am_RS (.ref k :: r) K S = K k r := rfl
theorem am_RS_c2 {K : Nat → List Value → Prop} {S : List Value → Prop} {z : UInt32} {r : List Value} : am_RS (.float z :: r) K S = S r := rfl
theorem am_RN_c1 {K S : List Value → Prop} {k : Nat} {r : List Value} : am_RN (.ref k :: r) K S = K r := rfl
theorem am_RN_c2 {K S : List Value → Prop} {r : List Value} : am_RN (.null :: r) K S = S r := rfl
theorem am_AR_c1 {K : Value → List Value → Prop} {k : Nat} {r : List Value} : am_AR (.ref k :: r) K = K (.ref k) r := rfl
theorem am_AR_c2 {K : Value → List Value → Prop} {r : List Value} : am_AR (.null :: r) K = K .null r := rfl
theorem am_A_c {K : List Value → List Value → Prop} {a r : List Value} : am_A (some (a, r)) K = K a r := rfl
theorem am_mt_c {K : Prop} : am_mt [] K = K := rfl
theorem am_iv_c {K : Int32 → Prop} {x : Int32} : am_iv (some (.int x)) K = K x := rfl
theorem am_lv_c {K : Int64 → Prop} {x : Int64} : am_lv (some (.long x)) K = K x := rfl
theorem am_av_c1 {K : Value → Prop} {x : Nat} : am_av (some (.ref x)) K = K (.ref x) := rfl
theorem am_av_c2 {K : Value → Prop} : am_av (some .null) K = K .null := rfl
theorem am_av_c3 {K : Value → Prop} {x : UInt32} : am_av (some (.float x)) K = K (.float x) := rfl
theorem am_get_c {fs : List Value} {k : Nat} {K : Value → Prop} : am_get (some fs) k K = am_gt fs[k]? K := rfl
theorem am_gt_c {v : Value} {K : Value → Prop} : am_gt (some v) K = K v := rfl
theorem am_put_c {fs : List Value} {K : List Value → Prop} : am_put (some fs) K = K fs := rfl
theorem am_arr_c {α : Type} {n : Nat} {f : α} {i : Int32} {K : Nat → α → Nat → Prop} : am_arr (some (n, f)) i K = (vp_in i n ∧ K n f i.toNatClampNeg) := rfl
theorem am_len_c {n : Nat} {K : Int32 → Prop} : am_len (some n) K = K (Int32.ofNat n) := rfl
theorem am_lg_0 {x : Option Value} {t : List (Option Value)} : am_lg (x :: t) 0 = x := rfl
theorem am_lg_1 {x : Option Value} {t : List (Option Value)} {k : Nat} : am_lg (x :: t) (k + 1) = am_lg t k := rfl
theorem am_l1_0 {x : Option Value} {t : List (Option Value)} {v : Value} : am_l1 (x :: t) 0 v = some v :: t := rfl
theorem am_l1_1 {x : Option Value} {t : List (Option Value)} {v : Value} : am_l1 (x :: t) 1 v = am_k2 x :: am_l1 t 0 v := rfl
theorem am_l1_2 {x : Option Value} {t : List (Option Value)} {k : Nat} {v : Value} : am_l1 (x :: t) (k + 2) v = x :: am_l1 t (k + 1) v := rfl
theorem am_l2_0 {x y : Option Value} {t : List (Option Value)} {v : Value} : am_l2 (x :: y :: t) 0 v = some v :: none :: t := rfl
theorem am_l2_1 {x : Option Value} {t : List (Option Value)} {v : Value} : am_l2 (x :: t) 1 v = am_k2 x :: am_l2 t 0 v := by cases t <;> rfl
theorem am_l2_2 {x : Option Value} {t : List (Option Value)} {k : Nat} {v : Value} : am_l2 (x :: t) (k + 2) v = x :: am_l2 t (k + 1) v := by cases t <;> rfl
theorem am_k2_n : am_k2 none = none := rfl
theorem am_k2_i {x : Int32} : am_k2 (some (.int x)) = some (.int x) := rfl
theorem am_k2_r {x : Nat} : am_k2 (some (.ref x)) = some (.ref x) := rfl
theorem am_k2_u : am_k2 (some .null) = some .null := rfl
theorem am_k2_f {x : UInt32} : am_k2 (some (.float x)) = some (.float x) := rfl
theorem am_k2_l {x : Int64} : am_k2 (some (.long x)) = none := rfl
theorem am_pop_0 {st acc : List Value} : am_pop 0 st acc = some (acc, st) := rfl
theorem am_pop_1 {n : Nat} {v : Value} {st acc : List Value} : am_pop (n + 1) (v :: st) acc = am_pop n st (v :: acc) := rfl
theorem am_row_c {F : Nat → Nat → Nat → Nat → Int32 → Int64 → Prop} {op nx a b x : Nat} {v : Int32} {w : Int64} : am_row (some (op, nx, a, b, x, v, w)) F = F op nx a b v w := rfl
theorem am_WPs_0 {stops : List Nat} {X : Nat × (Nat → Int32)} {D i : Nat} {P : Option Value → am_H → Prop} {pc : Nat} {L : List (Option Value)} {st : List Value} {G : am_H} {c s : Nat} : am_WPs stops X D i P 0 pc L st G c s = am_WP X D i pc L st G c s P := rfl
theorem am_WPs_1 {stops : List Nat} {X : Nat × (Nat → Int32)} {D i : Nat} {P : Option Value → am_H → Prop} {n pc : Nat} {L : List (Option Value)} {st : List Value} {G : am_H} {c s : Nat} : am_WPs stops X D i P (n + 1) pc L st G c s = if stops.any (· == pc) = true then am_WP X D i pc L st G c s P else am_row (am_code i pc) (fun op nx a b v w => am_step X D i pc op nx a b v w L st G c s P (am_WPs stops X D i P n)) := rfl
theorem am_sw_0 {x lo : Int32} {d : Nat} {K : Nat → Prop} : am_sw x lo d K [] = K d := rfl
theorem am_sw_1 {x lo : Int32} {d t : Nat} {K : Nat → Prop} {r : List Nat} : am_sw x lo d K (t :: r) = if x = lo then K t else am_sw x (lo + 1) d K r := rfl
theorem am_fit_i {v : Int32} : am_fit .int (.int v) = True := rfl
theorem am_fit_b {v : Int32} : am_fit .boolean (.int v) = (v = 0 ∨ v = 1) := rfl
theorem am_fit_r {C : String} {k : Nat} : am_fit (.object C) (.ref k) = True := rfl
theorem am_fit_a {t : FieldType} {k : Nat} : am_fit (.array t) (.ref k) = True := rfl
end
